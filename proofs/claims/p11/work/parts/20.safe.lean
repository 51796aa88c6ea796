set_option maxHeartbeats 8000000 in
theorem s_Pg_accepts {n : Nat} {x1 : Int32} {x2 : Int32} {Pg : SPg} (hn : o_big ≤ n) (h_Pg : I_Pg Pg) : o_ok (m_Pg_accepts n x1 x2 Pg) (fun r => (r = 0 ∨ r = 1)) := by
  unfold m_Pg_accepts
  refine o_okI (fun c1 => ?_) (fun c1 => ?_)
  · refine o_okS ?_
    first | with_reducible exact True.intro | with_reducible assumption | grind [-Prod] | grind [-Prod, → sc_Pg] | grind [-Prod, I_Pg, o_bn, upd]
  · refine o_okI (fun c2 => ?_) (fun c2 => ?_)
    · refine o_okG (o_inM (m := 1300) rfl (by first | with_reducible exact True.intro | with_reducible assumption | grind [-Prod] | grind [-Prod, → sc_Pg] | grind [-Prod, I_Pg, o_bn, upd]) (by first | with_reducible exact True.intro | with_reducible assumption | grind [-Prod] | grind [-Prod, → sc_Pg] | grind [-Prod, I_Pg, o_bn, upd])) ?_
      refine o_okN (fun x3_19_3 ex3_19_3 => ?_)
      refine o_okG (o_inM (m := 1300) rfl (by first | with_reducible exact True.intro | with_reducible assumption | grind [-Prod] | grind [-Prod, → sc_Pg] | grind [-Prod, I_Pg, o_bn, upd]) (by first | with_reducible exact True.intro | with_reducible assumption | grind [-Prod] | grind [-Prod, → sc_Pg] | grind [-Prod, I_Pg, o_bn, upd])) ?_
      refine o_okN (fun w26_4 ew26_4 => ?_)
      refine o_okI (fun c5 => ?_) (fun c5 => ?_)
      · refine o_okI (fun c6 => ?_) (fun c6 => ?_)
        · refine o_okS ?_
          first | with_reducible exact True.intro | with_reducible assumption | grind [-Prod] | grind [-Prod, → sc_Pg] | grind [-Prod, I_Pg, o_bn, upd]
        · refine o_okS ?_
          first | with_reducible exact True.intro | with_reducible assumption | grind [-Prod] | grind [-Prod, → sc_Pg] | grind [-Prod, I_Pg, o_bn, upd]
      · refine o_okI (fun c7 => ?_) (fun c7 => ?_)
        · refine o_okI (fun c8 => ?_) (fun c8 => ?_)
          · refine o_okS ?_
            first | with_reducible exact True.intro | with_reducible assumption | grind [-Prod] | grind [-Prod, → sc_Pg] | grind [-Prod, I_Pg, o_bn, upd]
          · refine o_okI (fun c9 => ?_) (fun c9 => ?_)
            · refine o_okS ?_
              first | with_reducible exact True.intro | with_reducible assumption | grind [-Prod] | grind [-Prod, → sc_Pg] | grind [-Prod, I_Pg, o_bn, upd]
            · refine o_okI (fun c10 => ?_) (fun c10 => ?_)
              · refine o_okS ?_
                first | with_reducible exact True.intro | with_reducible assumption | grind [-Prod] | grind [-Prod, → sc_Pg] | grind [-Prod, I_Pg, o_bn, upd]
              · refine o_okI (fun c11 => ?_) (fun c11 => ?_)
                · refine o_okS ?_
                  first | with_reducible exact True.intro | with_reducible assumption | grind [-Prod] | grind [-Prod, → sc_Pg] | grind [-Prod, I_Pg, o_bn, upd]
                · refine o_okS ?_
                  first | with_reducible exact True.intro | with_reducible assumption | grind [-Prod] | grind [-Prod, → sc_Pg] | grind [-Prod, I_Pg, o_bn, upd]
        · refine o_okI (fun c12 => ?_) (fun c12 => ?_)
          · refine o_okB (s_Pg_inClasses ) ?_
            intro q1_13 g14
            refine o_okG (o_zbM (by first | with_reducible exact True.intro | with_reducible assumption | grind [-Prod] | grind [-Prod, → sc_Pg] | grind [-Prod, I_Pg, o_bn, upd])) ?_
            refine o_okS ?_
            first | with_reducible exact True.intro | with_reducible assumption | grind [-Prod] | grind [-Prod, → sc_Pg] | grind [-Prod, I_Pg, o_bn, upd]
          · refine o_okI (fun c15 => ?_) (fun c15 => ?_)
            · unfold m_Pg_accepts_j128
              refine o_okB (s_Pg_inRanges  hn h_Pg) ?_
              intro q2_16 g17
              refine o_okI (fun c18 => ?_) (fun c18 => ?_)
              · refine o_okB (s_Pg_inClasses ) ?_
                intro q3_19 g20
                refine o_okI (fun c21 => ?_) (fun c21 => ?_)
                · unfold m_Pg_accepts_j153
                  refine o_okI (fun c22 => ?_) (fun c22 => ?_)
                  · unfold m_Pg_accepts_j166
                    refine o_okI (fun c23 => ?_) (fun c23 => ?_)
                    · refine o_okS ?_
                      first | with_reducible exact True.intro | with_reducible assumption | grind [-Prod] | grind [-Prod, → sc_Pg] | grind [-Prod, I_Pg, o_bn, upd]
                    · refine o_okS ?_
                      first | with_reducible exact True.intro | with_reducible assumption | grind [-Prod] | grind [-Prod, → sc_Pg] | grind [-Prod, I_Pg, o_bn, upd]
                  · unfold m_Pg_accepts_j166
                    refine o_okI (fun c24 => ?_) (fun c24 => ?_)
                    · refine o_okS ?_
                      first | with_reducible exact True.intro | with_reducible assumption | grind [-Prod] | grind [-Prod, → sc_Pg] | grind [-Prod, I_Pg, o_bn, upd]
                    · refine o_okS ?_
                      first | with_reducible exact True.intro | with_reducible assumption | grind [-Prod] | grind [-Prod, → sc_Pg] | grind [-Prod, I_Pg, o_bn, upd]
                · unfold m_Pg_accepts_j153
                  refine o_okI (fun c25 => ?_) (fun c25 => ?_)
                  · unfold m_Pg_accepts_j166
                    refine o_okI (fun c26 => ?_) (fun c26 => ?_)
                    · refine o_okS ?_
                      first | with_reducible exact True.intro | with_reducible assumption | grind [-Prod] | grind [-Prod, → sc_Pg] | grind [-Prod, I_Pg, o_bn, upd]
                    · refine o_okS ?_
                      first | with_reducible exact True.intro | with_reducible assumption | grind [-Prod] | grind [-Prod, → sc_Pg] | grind [-Prod, I_Pg, o_bn, upd]
                  · unfold m_Pg_accepts_j166
                    refine o_okI (fun c27 => ?_) (fun c27 => ?_)
                    · refine o_okS ?_
                      first | with_reducible exact True.intro | with_reducible assumption | grind [-Prod] | grind [-Prod, → sc_Pg] | grind [-Prod, I_Pg, o_bn, upd]
                    · refine o_okS ?_
                      first | with_reducible exact True.intro | with_reducible assumption | grind [-Prod] | grind [-Prod, → sc_Pg] | grind [-Prod, I_Pg, o_bn, upd]
              · unfold m_Pg_accepts_j153
                refine o_okI (fun c28 => ?_) (fun c28 => ?_)
                · unfold m_Pg_accepts_j166
                  refine o_okI (fun c29 => ?_) (fun c29 => ?_)
                  · refine o_okS ?_
                    first | with_reducible exact True.intro | with_reducible assumption | grind [-Prod] | grind [-Prod, → sc_Pg] | grind [-Prod, I_Pg, o_bn, upd]
                  · refine o_okS ?_
                    first | with_reducible exact True.intro | with_reducible assumption | grind [-Prod] | grind [-Prod, → sc_Pg] | grind [-Prod, I_Pg, o_bn, upd]
                · unfold m_Pg_accepts_j166
                  refine o_okI (fun c30 => ?_) (fun c30 => ?_)
                  · refine o_okS ?_
                    first | with_reducible exact True.intro | with_reducible assumption | grind [-Prod] | grind [-Prod, → sc_Pg] | grind [-Prod, I_Pg, o_bn, upd]
                  · refine o_okS ?_
                    first | with_reducible exact True.intro | with_reducible assumption | grind [-Prod] | grind [-Prod, → sc_Pg] | grind [-Prod, I_Pg, o_bn, upd]
            · refine o_okI (fun c31 => ?_) (fun c31 => ?_)
              · unfold m_Pg_accepts_j128
                refine o_okB (s_Pg_inRanges  hn h_Pg) ?_
                intro q2_32 g33
                refine o_okI (fun c34 => ?_) (fun c34 => ?_)
                · refine o_okB (s_Pg_inClasses ) ?_
                  intro q3_35 g36
                  refine o_okI (fun c37 => ?_) (fun c37 => ?_)
                  · unfold m_Pg_accepts_j153
                    refine o_okI (fun c38 => ?_) (fun c38 => ?_)
                    · unfold m_Pg_accepts_j166
                      refine o_okI (fun c39 => ?_) (fun c39 => ?_)
                      · refine o_okS ?_
                        first | with_reducible exact True.intro | with_reducible assumption | grind [-Prod] | grind [-Prod, → sc_Pg] | grind [-Prod, I_Pg, o_bn, upd]
                      · refine o_okS ?_
                        first | with_reducible exact True.intro | with_reducible assumption | grind [-Prod] | grind [-Prod, → sc_Pg] | grind [-Prod, I_Pg, o_bn, upd]
                    · unfold m_Pg_accepts_j166
                      refine o_okI (fun c40 => ?_) (fun c40 => ?_)
                      · refine o_okS ?_
                        first | with_reducible exact True.intro | with_reducible assumption | grind [-Prod] | grind [-Prod, → sc_Pg] | grind [-Prod, I_Pg, o_bn, upd]
                      · refine o_okS ?_
                        first | with_reducible exact True.intro | with_reducible assumption | grind [-Prod] | grind [-Prod, → sc_Pg] | grind [-Prod, I_Pg, o_bn, upd]
                  · unfold m_Pg_accepts_j153
                    refine o_okI (fun c41 => ?_) (fun c41 => ?_)
                    · unfold m_Pg_accepts_j166
                      refine o_okI (fun c42 => ?_) (fun c42 => ?_)
                      · refine o_okS ?_
                        first | with_reducible exact True.intro | with_reducible assumption | grind [-Prod] | grind [-Prod, → sc_Pg] | grind [-Prod, I_Pg, o_bn, upd]
                      · refine o_okS ?_
                        first | with_reducible exact True.intro | with_reducible assumption | grind [-Prod] | grind [-Prod, → sc_Pg] | grind [-Prod, I_Pg, o_bn, upd]
                    · unfold m_Pg_accepts_j166
                      refine o_okI (fun c43 => ?_) (fun c43 => ?_)
                      · refine o_okS ?_
                        first | with_reducible exact True.intro | with_reducible assumption | grind [-Prod] | grind [-Prod, → sc_Pg] | grind [-Prod, I_Pg, o_bn, upd]
                      · refine o_okS ?_
                        first | with_reducible exact True.intro | with_reducible assumption | grind [-Prod] | grind [-Prod, → sc_Pg] | grind [-Prod, I_Pg, o_bn, upd]
                · unfold m_Pg_accepts_j153
                  refine o_okI (fun c44 => ?_) (fun c44 => ?_)
                  · unfold m_Pg_accepts_j166
                    refine o_okI (fun c45 => ?_) (fun c45 => ?_)
                    · refine o_okS ?_
                      first | with_reducible exact True.intro | with_reducible assumption | grind [-Prod] | grind [-Prod, → sc_Pg] | grind [-Prod, I_Pg, o_bn, upd]
                    · refine o_okS ?_
                      first | with_reducible exact True.intro | with_reducible assumption | grind [-Prod] | grind [-Prod, → sc_Pg] | grind [-Prod, I_Pg, o_bn, upd]
                  · unfold m_Pg_accepts_j166
                    refine o_okI (fun c46 => ?_) (fun c46 => ?_)
                    · refine o_okS ?_
                      first | with_reducible exact True.intro | with_reducible assumption | grind [-Prod] | grind [-Prod, → sc_Pg] | grind [-Prod, I_Pg, o_bn, upd]
                    · refine o_okS ?_
                      first | with_reducible exact True.intro | with_reducible assumption | grind [-Prod] | grind [-Prod, → sc_Pg] | grind [-Prod, I_Pg, o_bn, upd]
              · refine o_okG (o_inM (m := 8000) rfl (by first | with_reducible exact True.intro | with_reducible assumption | grind [-Prod] | grind [-Prod, → sc_Pg] | grind [-Prod, I_Pg, o_bn, upd]) (by first | with_reducible exact True.intro | with_reducible assumption | grind [-Prod] | grind [-Prod, → sc_Pg] | grind [-Prod, I_Pg, o_bn, upd])) ?_
                unfold m_Pg_accepts_j128
                refine o_okB (s_Pg_inRanges  hn h_Pg) ?_
                intro q2_47 g48
                refine o_okI (fun c49 => ?_) (fun c49 => ?_)
                · refine o_okB (s_Pg_inClasses ) ?_
                  intro q3_50 g51
                  refine o_okI (fun c52 => ?_) (fun c52 => ?_)
                  · unfold m_Pg_accepts_j153
                    refine o_okI (fun c53 => ?_) (fun c53 => ?_)
                    · unfold m_Pg_accepts_j166
                      refine o_okI (fun c54 => ?_) (fun c54 => ?_)
                      · refine o_okS ?_
                        first | with_reducible exact True.intro | with_reducible assumption | grind [-Prod] | grind [-Prod, → sc_Pg] | grind [-Prod, I_Pg, o_bn, upd]
                      · refine o_okS ?_
                        first | with_reducible exact True.intro | with_reducible assumption | grind [-Prod] | grind [-Prod, → sc_Pg] | grind [-Prod, I_Pg, o_bn, upd]
                    · unfold m_Pg_accepts_j166
                      refine o_okI (fun c55 => ?_) (fun c55 => ?_)
                      · refine o_okS ?_
                        first | with_reducible exact True.intro | with_reducible assumption | grind [-Prod] | grind [-Prod, → sc_Pg] | grind [-Prod, I_Pg, o_bn, upd]
                      · refine o_okS ?_
                        first | with_reducible exact True.intro | with_reducible assumption | grind [-Prod] | grind [-Prod, → sc_Pg] | grind [-Prod, I_Pg, o_bn, upd]
                  · unfold m_Pg_accepts_j153
                    refine o_okI (fun c56 => ?_) (fun c56 => ?_)
                    · unfold m_Pg_accepts_j166
                      refine o_okI (fun c57 => ?_) (fun c57 => ?_)
                      · refine o_okS ?_
                        first | with_reducible exact True.intro | with_reducible assumption | grind [-Prod] | grind [-Prod, → sc_Pg] | grind [-Prod, I_Pg, o_bn, upd]
                      · refine o_okS ?_
                        first | with_reducible exact True.intro | with_reducible assumption | grind [-Prod] | grind [-Prod, → sc_Pg] | grind [-Prod, I_Pg, o_bn, upd]
                    · unfold m_Pg_accepts_j166
                      refine o_okI (fun c58 => ?_) (fun c58 => ?_)
                      · refine o_okS ?_
                        first | with_reducible exact True.intro | with_reducible assumption | grind [-Prod] | grind [-Prod, → sc_Pg] | grind [-Prod, I_Pg, o_bn, upd]
                      · refine o_okS ?_
                        first | with_reducible exact True.intro | with_reducible assumption | grind [-Prod] | grind [-Prod, → sc_Pg] | grind [-Prod, I_Pg, o_bn, upd]
                · unfold m_Pg_accepts_j153
                  refine o_okI (fun c59 => ?_) (fun c59 => ?_)
                  · unfold m_Pg_accepts_j166
                    refine o_okI (fun c60 => ?_) (fun c60 => ?_)
                    · refine o_okS ?_
                      first | with_reducible exact True.intro | with_reducible assumption | grind [-Prod] | grind [-Prod, → sc_Pg] | grind [-Prod, I_Pg, o_bn, upd]
                    · refine o_okS ?_
                      first | with_reducible exact True.intro | with_reducible assumption | grind [-Prod] | grind [-Prod, → sc_Pg] | grind [-Prod, I_Pg, o_bn, upd]
                  · unfold m_Pg_accepts_j166
                    refine o_okI (fun c61 => ?_) (fun c61 => ?_)
                    · refine o_okS ?_
                      first | with_reducible exact True.intro | with_reducible assumption | grind [-Prod] | grind [-Prod, → sc_Pg] | grind [-Prod, I_Pg, o_bn, upd]
                    · refine o_okS ?_
                      first | with_reducible exact True.intro | with_reducible assumption | grind [-Prod] | grind [-Prod, → sc_Pg] | grind [-Prod, I_Pg, o_bn, upd]
    · refine o_okS ?_
      first | with_reducible exact True.intro | with_reducible assumption | grind [-Prod] | grind [-Prod, → sc_Pg] | grind [-Prod, I_Pg, o_bn, upd]
theorem s_Pg_finds_b2 {n : Nat} {x2 : Int32} {a1 : STx} {z : Int32 × SPg} (hn : o_big ≤ n) (h_a1 : I_Tx a1) (l0 : 0 ≤ z.1) (l1 : I_Pg z.2) : o_ok (m_Pg_finds_b2 n x2 a1 z) (fun q => (q.1 = 0 → 0 ≤ q.2.1 ∧ I_Pg q.2.2 ∧ o_mu q.2.1 < o_mu z.1) ∧ (q.1 ≠ 0 → I_Pg q.2.2)) := by
  unfold m_Pg_finds_b2
  refine o_okI (fun c1 => ?_) (fun c1 => ?_)
  · refine o_okS ?_
    refine ⟨fun h => absurd (show (1 : Nat) = 0 from h) (by decide), fun _ => ?_⟩
    exact l1
  · refine o_okI (fun c2 => ?_) (fun c2 => ?_)
    · refine o_okS ?_
      refine ⟨fun h => absurd (show (1 : Nat) = 0 from h) (by decide), fun _ => ?_⟩
      exact l1
    · refine o_okG (o_inM (m := 1300) rfl (by first | with_reducible exact True.intro | with_reducible assumption | grind [-Prod] | grind [-Prod, → sc_Pg, → sc_Tx] | grind [-Prod, I_Pg, I_Tx, o_bn, upd]) (by first | with_reducible exact True.intro | with_reducible assumption | grind [-Prod] | grind [-Prod, → sc_Pg, → sc_Tx] | grind [-Prod, I_Pg, I_Tx, o_bn, upd])) ?_
      refine o_okN (fun x3_24_3 ex3_24_3 => ?_)
      refine o_okS ?_
      refine ⟨fun _ => ?_, fun h => absurd rfl h⟩
      refine ⟨?_, ?_, ?_⟩
      · first | with_reducible exact True.intro | with_reducible assumption | grind [-Prod] | grind [-Prod, → sc_Pg, → sc_Tx] | grind [-Prod, I_Pg, I_Tx, o_bn, upd]
      · exact ⟨l1.1, l1.2.1, l1.2.2.1, l1.2.2.2.1, l1.2.2.2.2.1, l1.2.2.2.2.2.1, l1.2.2.2.2.2.2.1, l1.2.2.2.2.2.2.2.1, l1.2.2.2.2.2.2.2.2.1, l1.2.2.2.2.2.2.2.2.2.1, l1.2.2.2.2.2.2.2.2.2.2⟩
      · first | exact o_muL (by first | with_reducible exact True.intro | with_reducible assumption | grind [-Prod] | grind [-Prod, → sc_Pg, → sc_Tx] | grind [-Prod, I_Pg, I_Tx, o_bn, upd]) | exact o_nuL (by first | with_reducible exact True.intro | with_reducible assumption | grind [-Prod] | grind [-Prod, → sc_Pg, → sc_Tx] | grind [-Prod, I_Pg, I_Tx, o_bn, upd]) | (first | with_reducible exact True.intro | with_reducible assumption | grind [-Prod] | grind [-Prod, → sc_Pg, → sc_Tx] | grind [-Prod, I_Pg, I_Tx, o_bn, upd])
theorem l_Pg_finds_b2 {n : Nat} {x2 : Int32} {a1 : STx} {z : Int32 × SPg} (hn : o_big ≤ n) (h_a1 : I_Tx a1) (l0 : 0 ≤ z.1) (l1 : I_Pg z.2) : o_ok (o_lp n (m_Pg_finds_b2 n x2 a1) z) (fun q => q.1 ≠ 0 ∧ I_Pg q.2.2) := by
  exact o_lpR (fun z => 0 ≤ z.1 ∧ I_Pg z.2) (fun z => o_mu z.1) hn (o_muB) ⟨l0, l1⟩
    (fun z hz => by obtain ⟨l0, l1⟩ := hz; exact o_okW (s_Pg_finds_b2 hn h_a1 l0 l1) (fun q hq => ⟨fun h => by have := hq.1 h; grind, hq.2⟩))
theorem s_Pg_finds_b71 {n : Nat} {x2 : Int32} {x3 : Int32} {x4 : Int32} {x5 : Int32} {a1 : STx} {z : Int32 × SPg} (hn : o_big ≤ n) (h_a1 : I_Tx a1) (p0 : x3 ≤ 1300) (l0 : 0 ≤ z.1) (l1 : I_Pg z.2) : o_ok (m_Pg_finds_b71 n x2 x3 x4 x5 a1 z) (fun q => (q.1 = 0 → 0 ≤ q.2.1 ∧ I_Pg q.2.2 ∧ o_mu q.2.1 < o_mu z.1) ∧ (q.1 ≠ 0 → I_Pg q.2.2)) := by
  unfold m_Pg_finds_b71
  refine o_okI (fun c1 => ?_) (fun c1 => ?_)
  · refine o_okS ?_
    refine ⟨fun h => absurd (show (1 : Nat) = 0 from h) (by decide), fun _ => ?_⟩
    exact l1
  · refine o_okG (o_inM (m := 1300) rfl (by first | with_reducible exact True.intro | with_reducible assumption | grind [-Prod] | grind [-Prod, → sc_Pg, → sc_Tx] | grind [-Prod, I_Pg, I_Tx, o_bn, upd]) (by first | with_reducible exact True.intro | with_reducible assumption | grind [-Prod] | grind [-Prod, → sc_Pg, → sc_Tx] | grind [-Prod, I_Pg, I_Tx, o_bn, upd])) ?_
    refine o_okB (s_Pg_push  l1) ?_
    intro q4_2 g3
    refine o_okN (fun x6_92_4 ex6_92_4 => ?_)
    refine o_okS ?_
    refine ⟨fun _ => ?_, fun h => absurd rfl h⟩
    refine ⟨?_, ?_, ?_⟩
    · first | with_reducible exact True.intro | with_reducible assumption | grind [-Prod] | grind [-Prod, → sc_Pg, → sc_Tx] | grind [-Prod, I_Pg, I_Tx, o_bn, upd]
    · exact g3
    · first | exact o_muL (by first | with_reducible exact True.intro | with_reducible assumption | grind [-Prod] | grind [-Prod, → sc_Pg, → sc_Tx] | grind [-Prod, I_Pg, I_Tx, o_bn, upd]) | exact o_nuL (by first | with_reducible exact True.intro | with_reducible assumption | grind [-Prod] | grind [-Prod, → sc_Pg, → sc_Tx] | grind [-Prod, I_Pg, I_Tx, o_bn, upd]) | (first | with_reducible exact True.intro | with_reducible assumption | grind [-Prod] | grind [-Prod, → sc_Pg, → sc_Tx] | grind [-Prod, I_Pg, I_Tx, o_bn, upd])
theorem l_Pg_finds_b71 {n : Nat} {x2 : Int32} {x3 : Int32} {x4 : Int32} {x5 : Int32} {a1 : STx} {z : Int32 × SPg} (hn : o_big ≤ n) (h_a1 : I_Tx a1) (p0 : x3 ≤ 1300) (l0 : 0 ≤ z.1) (l1 : I_Pg z.2) : o_ok (o_lp n (m_Pg_finds_b71 n x2 x3 x4 x5 a1) z) (fun q => q.1 ≠ 0 ∧ I_Pg q.2.2) := by
  exact o_lpR (fun z => 0 ≤ z.1 ∧ I_Pg z.2) (fun z => o_mu z.1) hn (o_muB) ⟨l0, l1⟩
    (fun z hz => by obtain ⟨l0, l1⟩ := hz; exact o_okW (s_Pg_finds_b71 hn h_a1 p0 l0 l1) (fun q hq => ⟨fun h => by have := hq.1 h; grind, hq.2⟩))
theorem s_Pg_finds_b125 {n : Nat} {x2 : Int32} {x4 : Int32} {x5 : Int32} {x6 : Int32} {a1 : STx} {z : Int32 × Int32 × SPg} (hn : o_big ≤ n) (h_a1 : I_Tx a1) (l0 : 0 ≤ z.1) (l1 : z.1 ≤ 1300) (l2 : 0 ≤ z.2.1) (l3 : I_Pg z.2.2) : o_ok (m_Pg_finds_b125 n x2 x4 x5 x6 a1 z) (fun q => (q.1 = 0 → 0 ≤ q.2.1 ∧ q.2.1 ≤ 1300 ∧ 0 ≤ q.2.2.1 ∧ I_Pg q.2.2.2 ∧ o_mu q.2.2.1 < o_mu z.2.1) ∧ (q.1 ≠ 0 → 0 ≤ q.2.1 ∧ q.2.1 ≤ 1300 ∧ I_Pg q.2.2.2)) := by
  unfold m_Pg_finds_b125
  refine o_okI (fun c1 => ?_) (fun c1 => ?_)
  · refine o_okS ?_
    refine ⟨fun h => absurd (show (1 : Nat) = 0 from h) (by decide), fun _ => ?_⟩
    refine ⟨?_, ?_, ?_⟩
    · first | with_reducible exact True.intro | with_reducible assumption | grind [-Prod] | grind [-Prod, → sc_Pg, → sc_Tx] | grind [-Prod, I_Pg, I_Tx, o_bn, upd]
    · first | with_reducible exact True.intro | with_reducible assumption | grind [-Prod] | grind [-Prod, → sc_Pg, → sc_Tx] | grind [-Prod, I_Pg, I_Tx, o_bn, upd]
    · exact l3
  · refine o_okG (o_inM (m := 1300) rfl (by first | with_reducible exact True.intro | with_reducible assumption | grind [-Prod] | grind [-Prod, → sc_Pg, → sc_Tx] | grind [-Prod, I_Pg, I_Tx, o_bn, upd]) (by first | with_reducible exact True.intro | with_reducible assumption | grind [-Prod] | grind [-Prod, → sc_Pg, → sc_Tx] | grind [-Prod, I_Pg, I_Tx, o_bn, upd])) ?_
    refine o_okN (fun x8_141_2 ex8_141_2 => ?_)
    refine o_okB (s_Pg_accepts  hn l3) ?_
    intro q8_3 g4
    refine o_okI (fun c5 => ?_) (fun c5 => ?_)
    · refine o_okN (fun x7_176_6 ex7_176_6 => ?_)
      refine o_okS ?_
      refine ⟨fun _ => ?_, fun h => absurd rfl h⟩
      refine ⟨?_, ?_, ?_, ?_, ?_⟩
      · first | with_reducible exact True.intro | with_reducible assumption | grind [-Prod] | grind [-Prod, → sc_Pg, → sc_Tx] | grind [-Prod, I_Pg, I_Tx, o_bn, upd]
      · first | with_reducible exact True.intro | with_reducible assumption | grind [-Prod] | grind [-Prod, → sc_Pg, → sc_Tx] | grind [-Prod, I_Pg, I_Tx, o_bn, upd]
      · first | with_reducible exact True.intro | with_reducible assumption | grind [-Prod] | grind [-Prod, → sc_Pg, → sc_Tx] | grind [-Prod, I_Pg, I_Tx, o_bn, upd]
      · exact l3
      · first | exact o_muL (by first | with_reducible exact True.intro | with_reducible assumption | grind [-Prod] | grind [-Prod, → sc_Pg, → sc_Tx] | grind [-Prod, I_Pg, I_Tx, o_bn, upd]) | exact o_nuL (by first | with_reducible exact True.intro | with_reducible assumption | grind [-Prod] | grind [-Prod, → sc_Pg, → sc_Tx] | grind [-Prod, I_Pg, I_Tx, o_bn, upd]) | (first | with_reducible exact True.intro | with_reducible assumption | grind [-Prod] | grind [-Prod, → sc_Pg, → sc_Tx] | grind [-Prod, I_Pg, I_Tx, o_bn, upd])
    · refine o_okI (fun c7 => ?_) (fun c7 => ?_)
      · refine o_okN (fun x7_176_8 ex7_176_8 => ?_)
        refine o_okS ?_
        refine ⟨fun _ => ?_, fun h => absurd rfl h⟩
        refine ⟨?_, ?_, ?_, ?_, ?_⟩
        · first | with_reducible exact True.intro | with_reducible assumption | grind [-Prod] | grind [-Prod, → sc_Pg, → sc_Tx] | grind [-Prod, I_Pg, I_Tx, o_bn, upd]
        · first | with_reducible exact True.intro | with_reducible assumption | grind [-Prod] | grind [-Prod, → sc_Pg, → sc_Tx] | grind [-Prod, I_Pg, I_Tx, o_bn, upd]
        · first | with_reducible exact True.intro | with_reducible assumption | grind [-Prod] | grind [-Prod, → sc_Pg, → sc_Tx] | grind [-Prod, I_Pg, I_Tx, o_bn, upd]
        · exact l3
        · first | exact o_muL (by first | with_reducible exact True.intro | with_reducible assumption | grind [-Prod] | grind [-Prod, → sc_Pg, → sc_Tx] | grind [-Prod, I_Pg, I_Tx, o_bn, upd]) | exact o_nuL (by first | with_reducible exact True.intro | with_reducible assumption | grind [-Prod] | grind [-Prod, → sc_Pg, → sc_Tx] | grind [-Prod, I_Pg, I_Tx, o_bn, upd]) | (first | with_reducible exact True.intro | with_reducible assumption | grind [-Prod] | grind [-Prod, → sc_Pg, → sc_Tx] | grind [-Prod, I_Pg, I_Tx, o_bn, upd])
      · refine o_okG (o_inM (m := 1300) rfl (by first | with_reducible exact True.intro | with_reducible assumption | grind [-Prod] | grind [-Prod, → sc_Pg, → sc_Tx] | grind [-Prod, I_Pg, I_Tx, o_bn, upd]) (by first | with_reducible exact True.intro | with_reducible assumption | grind [-Prod] | grind [-Prod, → sc_Pg, → sc_Tx] | grind [-Prod, I_Pg, I_Tx, o_bn, upd])) ?_
        refine o_okN (fun x3_173_9 ex3_173_9 => ?_)
        refine o_okN (fun x7_176_10 ex7_176_10 => ?_)
        refine o_okS ?_
        refine ⟨fun _ => ?_, fun h => absurd rfl h⟩
        refine ⟨?_, ?_, ?_, ?_, ?_⟩
        · first | with_reducible exact True.intro | with_reducible assumption | grind [-Prod] | grind [-Prod, → sc_Pg, → sc_Tx] | grind [-Prod, I_Pg, I_Tx, o_bn, upd]
        · first | with_reducible exact True.intro | with_reducible assumption | grind [-Prod] | grind [-Prod, → sc_Pg, → sc_Tx] | grind [-Prod, I_Pg, I_Tx, o_bn, upd]
        · first | with_reducible exact True.intro | with_reducible assumption | grind [-Prod] | grind [-Prod, → sc_Pg, → sc_Tx] | grind [-Prod, I_Pg, I_Tx, o_bn, upd]
        · exact ⟨l3.1, l3.2.1, l3.2.2.1, l3.2.2.2.1, l3.2.2.2.2.1, l3.2.2.2.2.2.1, l3.2.2.2.2.2.2.1, l3.2.2.2.2.2.2.2.1, l3.2.2.2.2.2.2.2.2.1, l3.2.2.2.2.2.2.2.2.2.1, l3.2.2.2.2.2.2.2.2.2.2⟩
        · first | exact o_muL (by first | with_reducible exact True.intro | with_reducible assumption | grind [-Prod] | grind [-Prod, → sc_Pg, → sc_Tx] | grind [-Prod, I_Pg, I_Tx, o_bn, upd]) | exact o_nuL (by first | with_reducible exact True.intro | with_reducible assumption | grind [-Prod] | grind [-Prod, → sc_Pg, → sc_Tx] | grind [-Prod, I_Pg, I_Tx, o_bn, upd]) | (first | with_reducible exact True.intro | with_reducible assumption | grind [-Prod] | grind [-Prod, → sc_Pg, → sc_Tx] | grind [-Prod, I_Pg, I_Tx, o_bn, upd])
theorem l_Pg_finds_b125 {n : Nat} {x2 : Int32} {x4 : Int32} {x5 : Int32} {x6 : Int32} {a1 : STx} {z : Int32 × Int32 × SPg} (hn : o_big ≤ n) (h_a1 : I_Tx a1) (l0 : 0 ≤ z.1) (l1 : z.1 ≤ 1300) (l2 : 0 ≤ z.2.1) (l3 : I_Pg z.2.2) : o_ok (o_lp n (m_Pg_finds_b125 n x2 x4 x5 x6 a1) z) (fun q => q.1 ≠ 0 ∧ 0 ≤ q.2.1 ∧ q.2.1 ≤ 1300 ∧ I_Pg q.2.2.2) := by
  exact o_lpR (fun z => 0 ≤ z.1 ∧ z.1 ≤ 1300 ∧ 0 ≤ z.2.1 ∧ I_Pg z.2.2) (fun z => o_mu z.2.1) hn (o_muB) ⟨l0, l1, l2, l3⟩
    (fun z hz => by obtain ⟨l0, l1, l2, l3⟩ := hz; exact o_okW (s_Pg_finds_b125 hn h_a1 l0 l1 l2 l3) (fun q hq => ⟨fun h => by have := hq.1 h; grind, hq.2⟩))
theorem s_Pg_finds_b42 {n : Nat} {x2 : Int32} {x4 : Int32} {a1 : STx} {z : Int32 × Int32 × SPg} (hn : o_big ≤ n) (h_a1 : I_Tx a1) (p0 : x4 ≤ 8192) (l0 : 0 ≤ z.1) (l1 : z.1 ≤ 1300) (l2 : 0 ≤ z.2.1) (l3 : I_Pg z.2.2) : o_ok (m_Pg_finds_b42 n x2 x4 a1 z) (fun q => (q.1 = 0 → 0 ≤ q.2.1 ∧ q.2.1 ≤ 1300 ∧ 0 ≤ q.2.2.1 ∧ I_Pg q.2.2.2 ∧ o_mu q.2.2.1 < o_mu z.2.1) ∧ (q.1 ≠ 0 → I_Pg q.2.2.2)) := by
  unfold m_Pg_finds_b42
  refine o_okI (fun c1 => ?_) (fun c1 => ?_)
  · refine o_okS ?_
    refine ⟨fun h => absurd (show (2 : Nat) = 0 from h) (by decide), fun _ => ?_⟩
    exact l3
  · refine o_okB (s_Pg_push  ⟨l3.1, l3.2.1, l3.2.2.1, l3.2.2.2.1, (by first | with_reducible exact True.intro | with_reducible assumption | grind [-Prod] | grind [-Prod, → sc_Pg, → sc_Tx] | grind [-Prod, I_Pg, I_Tx, o_bn, upd]), (by first | with_reducible exact True.intro | with_reducible assumption | grind [-Prod] | grind [-Prod, → sc_Pg, → sc_Tx] | grind [-Prod, I_Pg, I_Tx, o_bn, upd]), (by first | with_reducible exact True.intro | with_reducible assumption | grind [-Prod] | grind [-Prod, → sc_Pg, → sc_Tx] | grind [-Prod, I_Pg, I_Tx, o_bn, upd]), (by first | with_reducible exact True.intro | with_reducible assumption | grind [-Prod] | grind [-Prod, → sc_Pg, → sc_Tx] | grind [-Prod, I_Pg, I_Tx, o_bn, upd]), l3.2.2.2.2.2.2.2.2.1, l3.2.2.2.2.2.2.2.2.2.1, l3.2.2.2.2.2.2.2.2.2.2⟩) ?_
    intro q3_2 g3
    refine o_okB (l_Pg_finds_b71  hn h_a1 (by first | with_reducible exact True.intro | with_reducible assumption | grind [-Prod] | grind [-Prod, → sc_Pg, → sc_Tx] | grind [-Prod, I_Pg, I_Tx, o_bn, upd]) (by first | with_reducible exact True.intro | with_reducible assumption | grind [-Prod] | grind [-Prod, → sc_Pg, → sc_Tx] | grind [-Prod, I_Pg, I_Tx, o_bn, upd]) g3) ?_
    intro q5_4 ⟨yq5_4, g5⟩
    refine o_okB (s_Pg_follow  hn g5) ?_
    intro q6_6 ⟨g7, g8⟩
    refine o_okI (fun c9 => ?_) (fun c9 => ?_)
    · refine o_okB (s_Tx_cell  h_a1) ?_
      intro q7_10 g11
      refine o_okB (l_Pg_finds_b125  hn h_a1 (by first | with_reducible exact True.intro | with_reducible assumption | grind [-Prod] | grind [-Prod, → sc_Pg, → sc_Tx] | grind [-Prod, I_Pg, I_Tx, o_bn, upd]) (by first | with_reducible exact True.intro | with_reducible assumption | grind [-Prod] | grind [-Prod, → sc_Pg, → sc_Tx] | grind [-Prod, I_Pg, I_Tx, o_bn, upd]) (by first | with_reducible exact True.intro | with_reducible assumption | grind [-Prod] | grind [-Prod, → sc_Pg, → sc_Tx] | grind [-Prod, I_Pg, I_Tx, o_bn, upd]) g8) ?_
      intro q9_12 ⟨yq9_12, g13, g14, g15⟩
      refine o_okN (fun x5_182_16 ex5_182_16 => ?_)
      refine o_okS ?_
      refine ⟨fun _ => ?_, fun h => absurd rfl h⟩
      refine ⟨?_, ?_, ?_, ?_, ?_⟩
      · first | with_reducible exact True.intro | with_reducible assumption | grind [-Prod] | grind [-Prod, → sc_Pg, → sc_Tx] | grind [-Prod, I_Pg, I_Tx, o_bn, upd]
      · first | with_reducible exact True.intro | with_reducible assumption | grind [-Prod] | grind [-Prod, → sc_Pg, → sc_Tx] | grind [-Prod, I_Pg, I_Tx, o_bn, upd]
      · first | with_reducible exact True.intro | with_reducible assumption | grind [-Prod] | grind [-Prod, → sc_Pg, → sc_Tx] | grind [-Prod, I_Pg, I_Tx, o_bn, upd]
      · exact g15
      · first | exact o_muL (by first | with_reducible exact True.intro | with_reducible assumption | grind [-Prod] | grind [-Prod, → sc_Pg, → sc_Tx] | grind [-Prod, I_Pg, I_Tx, o_bn, upd]) | exact o_nuL (by first | with_reducible exact True.intro | with_reducible assumption | grind [-Prod] | grind [-Prod, → sc_Pg, → sc_Tx] | grind [-Prod, I_Pg, I_Tx, o_bn, upd]) | (first | with_reducible exact True.intro | with_reducible assumption | grind [-Prod] | grind [-Prod, → sc_Pg, → sc_Tx] | grind [-Prod, I_Pg, I_Tx, o_bn, upd])
    · refine o_okS ?_
      refine ⟨fun h => absurd (show (1 : Nat) = 0 from h) (by decide), fun _ => ?_⟩
      exact g8
theorem l_Pg_finds_b42 {n : Nat} {x2 : Int32} {x4 : Int32} {a1 : STx} {z : Int32 × Int32 × SPg} (hn : o_big ≤ n) (h_a1 : I_Tx a1) (p0 : x4 ≤ 8192) (l0 : 0 ≤ z.1) (l1 : z.1 ≤ 1300) (l2 : 0 ≤ z.2.1) (l3 : I_Pg z.2.2) : o_ok (o_lp n (m_Pg_finds_b42 n x2 x4 a1) z) (fun q => q.1 ≠ 0 ∧ I_Pg q.2.2.2) := by
  exact o_lpR (fun z => 0 ≤ z.1 ∧ z.1 ≤ 1300 ∧ 0 ≤ z.2.1 ∧ I_Pg z.2.2) (fun z => o_mu z.2.1) hn (o_muB) ⟨l0, l1, l2, l3⟩
    (fun z hz => by obtain ⟨l0, l1, l2, l3⟩ := hz; exact o_okW (s_Pg_finds_b42 hn h_a1 p0 l0 l1 l2 l3) (fun q hq => ⟨fun h => by have := hq.1 h; grind, hq.2⟩))
theorem s_Pg_finds {n : Nat} {x2 : Int32} {a1 : STx} {Pg : SPg} (hn : o_big ≤ n) (h_a1 : I_Tx a1) (h_Pg : I_Pg Pg) : o_ok (m_Pg_finds n x2 a1 Pg) (fun r => (r.1 = 0 ∨ r.1 = 1) ∧ I_Pg r.2) := by
  unfold m_Pg_finds
  refine o_okB (l_Pg_finds_b2  hn h_a1 (by first | with_reducible exact True.intro | with_reducible assumption | grind [-Prod] | grind [-Prod, → sc_Pg, → sc_Tx] | grind [-Prod, I_Pg, I_Tx, o_bn, upd]) h_Pg) ?_
  intro q1_1 ⟨yq1_1, g2⟩
  unfold m_Pg_finds_j30
  refine o_okB (s_Tx_size  h_a1) ?_
  intro q2_3 g4
  refine o_okB (l_Pg_finds_b42  hn h_a1 (by first | with_reducible exact True.intro | with_reducible assumption | grind [-Prod] | grind [-Prod, → sc_Pg, → sc_Tx] | grind [-Prod, I_Pg, I_Tx, o_bn, upd]) (by first | with_reducible exact True.intro | with_reducible assumption | grind [-Prod] | grind [-Prod, → sc_Pg, → sc_Tx] | grind [-Prod, I_Pg, I_Tx, o_bn, upd]) (by first | with_reducible exact True.intro | with_reducible assumption | grind [-Prod] | grind [-Prod, → sc_Pg, → sc_Tx] | grind [-Prod, I_Pg, I_Tx, o_bn, upd]) (by first | with_reducible exact True.intro | with_reducible assumption | grind [-Prod] | grind [-Prod, → sc_Pg, → sc_Tx] | grind [-Prod, I_Pg, I_Tx, o_bn, upd]) g2) ?_
  intro q10_5 ⟨yq10_5, g6⟩
  refine o_okI (fun c7 => ?_) (fun c7 => ?_)
  · refine o_okS ?_
    refine ⟨?_, ?_⟩
    · first | with_reducible exact True.intro | with_reducible assumption | grind [-Prod] | grind [-Prod, → sc_Pg, → sc_Tx] | grind [-Prod, I_Pg, I_Tx, o_bn, upd]
    · exact g6
  · refine o_okS ?_
    refine ⟨?_, ?_⟩
    · first | with_reducible exact True.intro | with_reducible assumption | grind [-Prod] | grind [-Prod, → sc_Pg, → sc_Tx] | grind [-Prod, I_Pg, I_Tx, o_bn, upd]
    · exact g6
theorem s_Jd_matching_b42 {n : Nat} {x2 : Int32} {T0 : STx} {T1 : STx} {Pt : SPt} {z : Int64 × Int32 × Int32 × SPg} (hn : o_big ≤ n) (h_T0 : I_Tx T0) (h_T1 : I_Tx T1) (h_Pt : I_Pt Pt) (l0 : 0 ≤ z.2.2.1) (l1 : I_Pg z.2.2.2) : o_ok (m_Jd_matching_b42 n x2 T0 T1 Pt z) (fun q => (q.1 = 0 → 0 ≤ q.2.2.2.1 ∧ I_Pg q.2.2.2.2 ∧ o_mu q.2.2.2.1 < o_mu z.2.2.1) ∧ (q.1 ≠ 0 → I_Pg q.2.2.2.2)) := by
  unfold m_Jd_matching_b42
  refine o_okB (s_Tx_size  h_T1) ?_
  intro q4_1 g2
  refine o_okI (fun c3 => ?_) (fun c3 => ?_)
  · refine o_okS ?_
    refine ⟨fun h => absurd (show (1 : Nat) = 0 from h) (by decide), fun _ => ?_⟩
    exact l1
  · refine o_okB (s_Pg_finds  hn h_T1 l1) ?_
    intro q5_4 ⟨g5, g6⟩
    refine o_okI (fun c7 => ?_) (fun c7 => ?_)
    · unfold m_Jd_matching_j80
      refine o_okB (s_Tx_nextChild  h_T1) ?_
      intro q6_8 _
      refine o_okN (fun x6_91_9 ex6_91_9 => ?_)
      refine o_okS ?_
      refine ⟨fun _ => ?_, fun h => absurd rfl h⟩
      refine ⟨?_, ?_, ?_⟩
      · first | with_reducible exact True.intro | with_reducible assumption | grind [-Prod] | grind [-Prod, → sc_Pg, → sc_Pt, → sc_Tx] | grind [-Prod, I_Pg, I_Pt, I_Tx, o_bn, upd]
      · exact g6
      · first | exact o_muL (by first | with_reducible exact True.intro | with_reducible assumption | grind [-Prod] | grind [-Prod, → sc_Pg, → sc_Pt, → sc_Tx] | grind [-Prod, I_Pg, I_Pt, I_Tx, o_bn, upd]) | exact o_nuL (by first | with_reducible exact True.intro | with_reducible assumption | grind [-Prod] | grind [-Prod, → sc_Pg, → sc_Pt, → sc_Tx] | grind [-Prod, I_Pg, I_Pt, I_Tx, o_bn, upd]) | (first | with_reducible exact True.intro | with_reducible assumption | grind [-Prod] | grind [-Prod, → sc_Pg, → sc_Pt, → sc_Tx] | grind [-Prod, I_Pg, I_Pt, I_Tx, o_bn, upd])
    · refine o_okN (fun x3_79_10 ex3_79_10 => ?_)
      unfold m_Jd_matching_j80
      refine o_okB (s_Tx_nextChild  h_T1) ?_
      intro q6_11 _
      refine o_okN (fun x6_91_12 ex6_91_12 => ?_)
      refine o_okS ?_
      refine ⟨fun _ => ?_, fun h => absurd rfl h⟩
      refine ⟨?_, ?_, ?_⟩
      · first | with_reducible exact True.intro | with_reducible assumption | grind [-Prod] | grind [-Prod, → sc_Pg, → sc_Pt, → sc_Tx] | grind [-Prod, I_Pg, I_Pt, I_Tx, o_bn, upd]
      · exact g6
      · first | exact o_muL (by first | with_reducible exact True.intro | with_reducible assumption | grind [-Prod] | grind [-Prod, → sc_Pg, → sc_Pt, → sc_Tx] | grind [-Prod, I_Pg, I_Pt, I_Tx, o_bn, upd]) | exact o_nuL (by first | with_reducible exact True.intro | with_reducible assumption | grind [-Prod] | grind [-Prod, → sc_Pg, → sc_Pt, → sc_Tx] | grind [-Prod, I_Pg, I_Pt, I_Tx, o_bn, upd]) | (first | with_reducible exact True.intro | with_reducible assumption | grind [-Prod] | grind [-Prod, → sc_Pg, → sc_Pt, → sc_Tx] | grind [-Prod, I_Pg, I_Pt, I_Tx, o_bn, upd])
theorem l_Jd_matching_b42 {n : Nat} {x2 : Int32} {T0 : STx} {T1 : STx} {Pt : SPt} {z : Int64 × Int32 × Int32 × SPg} (hn : o_big ≤ n) (h_T0 : I_Tx T0) (h_T1 : I_Tx T1) (h_Pt : I_Pt Pt) (l0 : 0 ≤ z.2.2.1) (l1 : I_Pg z.2.2.2) : o_ok (o_lp n (m_Jd_matching_b42 n x2 T0 T1 Pt) z) (fun q => q.1 ≠ 0 ∧ I_Pg q.2.2.2.2) := by
  exact o_lpR (fun z => 0 ≤ z.2.2.1 ∧ I_Pg z.2.2.2) (fun z => o_mu z.2.2.1) hn (o_muB) ⟨l0, l1⟩
    (fun z hz => by obtain ⟨l0, l1⟩ := hz; exact o_okW (s_Jd_matching_b42 hn h_T0 h_T1 h_Pt l0 l1) (fun q hq => ⟨fun h => by have := hq.1 h; grind, hq.2⟩))
theorem s_Jd_matching {n : Nat} {x1 : Int32} {x2 : Int32} {T0 : STx} {T1 : STx} {Pg : SPg} {Pt : SPt} (hn : o_big ≤ n) (h_T0 : I_Tx T0) (h_T1 : I_Tx T1) (h_Pg : I_Pg Pg) (h_Pt : I_Pt Pt) : o_ok (m_Jd_matching n x1 x2 T0 T1 Pg Pt) (fun r => I_Pg r.2.1 ∧ I_Pt r.2.2) := by
  unfold m_Jd_matching
  refine o_okB (s_Pt_tokenise  hn h_T0 h_Pt) ?_
  intro q1_1 ⟨g2, g3⟩
  refine o_okI (fun c4 => ?_) (fun c4 => ?_)
  · refine o_okS ?_
    refine ⟨?_, ?_⟩
    · exact h_Pg
    · exact g3
  · refine o_okB (s_Pt_parse  hn h_Pg g3) ?_
    intro q2_5 ⟨g6, g7, g8⟩
    refine o_okI (fun c9 => ?_) (fun c9 => ?_)
    · refine o_okS ?_
      refine ⟨?_, ?_⟩
      · exact g7
      · exact g8
    · refine o_okB (s_Tx_firstChild  h_T1) ?_
      intro q3_10 _
      refine o_okB (l_Jd_matching_b42  hn h_T0 h_T1 g8 (by first | with_reducible exact True.intro | with_reducible assumption | grind [-Prod] | grind [-Prod, → sc_Pg, → sc_Pt, → sc_Tx] | grind [-Prod, I_Pg, I_Pt, I_Tx, o_bn, upd]) g7) ?_
      intro q7_11 ⟨yq7_11, g12⟩
      refine o_okS ?_
      refine ⟨?_, ?_⟩
      · exact g12
      · exact g8
theorem s_Jd_named_b15 {n : Nat} {x1 : Int32} {x2 : Int32} {T0 : STx} {T1 : STx} {z : Int64 × Int32 × Int32} (hn : o_big ≤ n) (h_T0 : I_Tx T0) (h_T1 : I_Tx T1) (l0 : 0 ≤ z.2.2) : o_ok (m_Jd_named_b15 n x1 x2 T0 T1 z) (fun q => (q.1 = 0 → 0 ≤ q.2.2.2 ∧ o_mu q.2.2.2 < o_mu z.2.2) ∧ (q.1 ≠ 0 → True)) := by
  unfold m_Jd_named_b15
  refine o_okB (s_Tx_size  h_T1) ?_
  intro q2_1 g2
  refine o_okI (fun c3 => ?_) (fun c3 => ?_)
  · refine o_okS ?_
    refine ⟨fun h => absurd (show (1 : Nat) = 0 from h) (by decide), fun _ => ?_⟩
    trivial
  · refine o_okB (s_Tx_member  hn h_T0 h_T1) ?_
    intro q3_4 _
    refine o_okI (fun c5 => ?_) (fun c5 => ?_)
    · unfold m_Jd_named_j55
      refine o_okB (s_Tx_nextChild  h_T1) ?_
      intro q4_6 _
      refine o_okN (fun x6_66_7 ex6_66_7 => ?_)
      refine o_okS ?_
      refine ⟨fun _ => ?_, fun h => absurd rfl h⟩
      refine ⟨?_, ?_⟩
      · first | with_reducible exact True.intro | with_reducible assumption | grind [-Prod] | grind [-Prod, → sc_Tx] | grind [-Prod, I_Tx, o_bn, upd]
      · first | exact o_muL (by first | with_reducible exact True.intro | with_reducible assumption | grind [-Prod] | grind [-Prod, → sc_Tx] | grind [-Prod, I_Tx, o_bn, upd]) | exact o_nuL (by first | with_reducible exact True.intro | with_reducible assumption | grind [-Prod] | grind [-Prod, → sc_Tx] | grind [-Prod, I_Tx, o_bn, upd]) | (first | with_reducible exact True.intro | with_reducible assumption | grind [-Prod] | grind [-Prod, → sc_Tx] | grind [-Prod, I_Tx, o_bn, upd])
    · refine o_okN (fun x3_54_8 ex3_54_8 => ?_)
      unfold m_Jd_named_j55
      refine o_okB (s_Tx_nextChild  h_T1) ?_
      intro q4_9 _
      refine o_okN (fun x6_66_10 ex6_66_10 => ?_)
      refine o_okS ?_
      refine ⟨fun _ => ?_, fun h => absurd rfl h⟩
      refine ⟨?_, ?_⟩
      · first | with_reducible exact True.intro | with_reducible assumption | grind [-Prod] | grind [-Prod, → sc_Tx] | grind [-Prod, I_Tx, o_bn, upd]
      · first | exact o_muL (by first | with_reducible exact True.intro | with_reducible assumption | grind [-Prod] | grind [-Prod, → sc_Tx] | grind [-Prod, I_Tx, o_bn, upd]) | exact o_nuL (by first | with_reducible exact True.intro | with_reducible assumption | grind [-Prod] | grind [-Prod, → sc_Tx] | grind [-Prod, I_Tx, o_bn, upd]) | (first | with_reducible exact True.intro | with_reducible assumption | grind [-Prod] | grind [-Prod, → sc_Tx] | grind [-Prod, I_Tx, o_bn, upd])
theorem l_Jd_named_b15 {n : Nat} {x1 : Int32} {x2 : Int32} {T0 : STx} {T1 : STx} {z : Int64 × Int32 × Int32} (hn : o_big ≤ n) (h_T0 : I_Tx T0) (h_T1 : I_Tx T1) (l0 : 0 ≤ z.2.2) : o_ok (o_lp n (m_Jd_named_b15 n x1 x2 T0 T1) z) (fun q => q.1 ≠ 0 ∧ True) := by
  exact o_lpR (fun z => 0 ≤ z.2.2) (fun z => o_mu z.2.2) hn (o_muB) l0
    (fun z hz => by have l0 := hz; exact o_okW (s_Jd_named_b15 hn h_T0 h_T1 l0) (fun q hq => ⟨fun h => by have := hq.1 h; grind, hq.2⟩))
theorem s_Jd_named {n : Nat} {x1 : Int32} {x2 : Int32} {T0 : STx} {T1 : STx} (hn : o_big ≤ n) (h_T0 : I_Tx T0) (h_T1 : I_Tx T1) : o_ok (m_Jd_named n x1 x2 T0 T1) (fun r => True) := by
  unfold m_Jd_named
  refine o_okB (s_Tx_firstChild  h_T1) ?_
  intro q1_1 _
  refine o_okB (l_Jd_named_b15  hn h_T0 h_T1 (by first | with_reducible exact True.intro | with_reducible assumption | grind [-Prod] | grind [-Prod, → sc_Tx] | grind [-Prod, I_Tx, o_bn, upd])) ?_
  intro q5_2 ⟨yq5_2, _⟩
  refine o_okS ?_
  trivial
theorem s_Jd_skipped_b162 {n : Nat} {x4 : Int32} {x9 : Int32} {T0 : STx} {T1 : STx} {Mk : SMk} {Jd : SJd} {z : Int64 × Int32 × Int32 × SPg × SPt} (hn : o_big ≤ n) (h_T0 : I_Tx T0) (h_T1 : I_Tx T1) (h_Jd : I_Jd Jd) (l0 : 0 ≤ z.2.2.1) (l1 : I_Pg z.2.2.2.1) (l2 : I_Pt z.2.2.2.2) : o_ok (m_Jd_skipped_b162 n x4 x9 T0 T1 Mk Jd z) (fun q => (q.1 = 0 → 0 ≤ q.2.2.2.1 ∧ I_Pg q.2.2.2.2.1 ∧ I_Pt q.2.2.2.2.2 ∧ o_mu q.2.2.2.1 < o_mu z.2.2.1) ∧ (q.1 ≠ 0 → I_Pg q.2.2.2.2.1 ∧ I_Pt q.2.2.2.2.2)) := by
  unfold m_Jd_skipped_b162
  refine o_okB (s_Tx_size  h_T0) ?_
  intro q11_1 g2
  refine o_okI (fun c3 => ?_) (fun c3 => ?_)
  · refine o_okS ?_
    refine ⟨fun h => absurd (show (1 : Nat) = 0 from h) (by decide), fun _ => ?_⟩
    refine ⟨?_, ?_⟩
    · exact l1
    · exact l2
  · refine o_okB (s_Jd_matching  hn h_T0 h_T1 l1 l2) ?_
    intro q12_4 ⟨g5, g6⟩
    refine o_okN (fun x7_189_7 ex7_189_7 => ?_)
    refine o_okB (s_Tx_nextChild  h_T0) ?_
    intro q13_8 _
    refine o_okN (fun x11_202_9 ex11_202_9 => ?_)
    refine o_okS ?_
    refine ⟨fun _ => ?_, fun h => absurd rfl h⟩
    refine ⟨?_, ?_, ?_, ?_⟩
    · first | with_reducible exact True.intro | with_reducible assumption | grind [-Prod] | grind [-Prod, → sc_Jd, → sc_Pg, → sc_Pt, → sc_Tx] | grind [-Prod, I_Jd, I_Pg, I_Pt, I_Tx, o_bn, upd]
    · exact g5
    · exact g6
    · first | exact o_muL (by first | with_reducible exact True.intro | with_reducible assumption | grind [-Prod] | grind [-Prod, → sc_Jd, → sc_Pg, → sc_Pt, → sc_Tx] | grind [-Prod, I_Jd, I_Pg, I_Pt, I_Tx, o_bn, upd]) | exact o_nuL (by first | with_reducible exact True.intro | with_reducible assumption | grind [-Prod] | grind [-Prod, → sc_Jd, → sc_Pg, → sc_Pt, → sc_Tx] | grind [-Prod, I_Jd, I_Pg, I_Pt, I_Tx, o_bn, upd]) | (first | with_reducible exact True.intro | with_reducible assumption | grind [-Prod] | grind [-Prod, → sc_Jd, → sc_Pg, → sc_Pt, → sc_Tx] | grind [-Prod, I_Jd, I_Pg, I_Pt, I_Tx, o_bn, upd])
theorem l_Jd_skipped_b162 {n : Nat} {x4 : Int32} {x9 : Int32} {T0 : STx} {T1 : STx} {Mk : SMk} {Jd : SJd} {z : Int64 × Int32 × Int32 × SPg × SPt} (hn : o_big ≤ n) (h_T0 : I_Tx T0) (h_T1 : I_Tx T1) (h_Jd : I_Jd Jd) (l0 : 0 ≤ z.2.2.1) (l1 : I_Pg z.2.2.2.1) (l2 : I_Pt z.2.2.2.2) : o_ok (o_lp n (m_Jd_skipped_b162 n x4 x9 T0 T1 Mk Jd) z) (fun q => q.1 ≠ 0 ∧ I_Pg q.2.2.2.2.1 ∧ I_Pt q.2.2.2.2.2) := by
  exact o_lpR (fun z => 0 ≤ z.2.2.1 ∧ I_Pg z.2.2.2.1 ∧ I_Pt z.2.2.2.2) (fun z => o_mu z.2.2.1) hn (o_muB) ⟨l0, l1, l2⟩
    (fun z hz => by obtain ⟨l0, l1, l2⟩ := hz; exact o_okW (s_Jd_skipped_b162 hn h_T0 h_T1 h_Jd l0 l1 l2) (fun q hq => ⟨fun h => by have := hq.1 h; grind, hq.2⟩))
set_option maxHeartbeats 8000000 in
theorem s_Jd_skipped {n : Nat} {x1 : Nat} {x2 : Int32} {x3 : Int32} {x4 : Int32} {x5 : Int32} {T0 : STx} {T1 : STx} {Pg : SPg} {Pt : SPt} {Mk : SMk} {Jd : SJd} (hn : o_big ≤ n) (h_T0 : I_Tx T0) (h_T1 : I_Tx T1) (h_Pg : I_Pg Pg) (h_Pt : I_Pt Pt) (h_Jd : I_Jd Jd) (p0 : x1 < 45) : o_ok (m_Jd_skipped n x1 x2 x3 x4 x5 T0 T1 Pg Pt Mk Jd) (fun r => I_Pg r.2.1 ∧ I_Pt r.2.2) := by
  unfold m_Jd_skipped
  refine o_okG (o_inK (by first | with_reducible exact True.intro | with_reducible assumption | grind [-Prod] | grind [-Prod, → sc_Jd, → sc_Pg, → sc_Pt, → sc_Tx] | grind [-Prod, I_Jd, I_Pg, I_Pt, I_Tx, o_bn, upd])) ?_
  refine o_okN (fun w8_1 ew8_1 => ?_)
  refine o_okI (fun c2 => ?_) (fun c2 => ?_)
  · refine o_okB (s_Tx_parent  h_T0) ?_
    intro q1_3 _
    refine o_okB (s_Mk_find  hn h_T0) ?_
    intro q2_4 _
    refine o_okI (fun c5 => ?_) (fun c5 => ?_)
    · refine o_okS ?_
      refine ⟨?_, ?_⟩
      · exact h_Pg
      · exact h_Pt
    · refine o_okB (s_Tx_size  h_T0) ?_
      intro q3_6 g7
      refine o_okS ?_
      refine ⟨?_, ?_⟩
      · exact h_Pg
      · exact h_Pt
  · refine o_okI (fun c8 => ?_) (fun c8 => ?_)
    · refine o_okB (s_Jd_matching  hn h_T0 h_T1 h_Pg h_Pt) ?_
      intro q4_9 ⟨g10, g11⟩
      refine o_okS ?_
      refine ⟨?_, ?_⟩
      · exact g10
      · exact g11
    · refine o_okI (fun c12 => ?_) (fun c12 => ?_)
      · refine o_okB (s_Tx_parent  h_T0) ?_
        intro q5_13 _
        refine o_okB (s_Mk_find  hn h_T0) ?_
        intro q6_14 _
        refine o_okB (s_Jd_named  hn h_T0 h_T1) ?_
        intro q7_15 _
        refine o_okB (s_Tx_parent  h_T0) ?_
        intro q8_16 _
        refine o_okB (s_Mk_find  hn h_T0) ?_
        intro q9_17 _
        refine o_okB (s_Tx_firstChild  h_T0) ?_
        intro q10_18 _
        refine o_okB (l_Jd_skipped_b162  hn h_T0 h_T1 h_Jd (by first | with_reducible exact True.intro | with_reducible assumption | grind [-Prod] | grind [-Prod, → sc_Jd, → sc_Pg, → sc_Pt, → sc_Tx] | grind [-Prod, I_Jd, I_Pg, I_Pt, I_Tx, o_bn, upd]) h_Pg h_Pt) ?_
        intro q14_19 ⟨yq14_19, g20, g21⟩
        refine o_okS ?_
        refine ⟨?_, ?_⟩
        · exact g20
        · exact g21
      · refine o_okI (fun c22 => ?_) (fun c22 => ?_)
        · refine o_okI (fun c23 => ?_) (fun c23 => ?_)
          · refine o_okS ?_
            refine ⟨?_, ?_⟩
            · exact h_Pg
            · exact h_Pt
          · refine o_okI (fun c24 => ?_) (fun c24 => ?_)
            · refine o_okS ?_
              refine ⟨?_, ?_⟩
              · exact h_Pg
              · exact h_Pt
            · refine o_okG (o_inM (m := 102) rfl (by first | with_reducible exact True.intro | with_reducible assumption | grind [-Prod] | grind [-Prod, → sc_Jd, → sc_Pg, → sc_Pt, → sc_Tx] | grind [-Prod, I_Jd, I_Pg, I_Pt, I_Tx, o_bn, upd]) (by first | with_reducible exact True.intro | with_reducible assumption | grind [-Prod] | grind [-Prod, → sc_Jd, → sc_Pg, → sc_Pt, → sc_Tx] | grind [-Prod, I_Jd, I_Pg, I_Pt, I_Tx, o_bn, upd])) ?_
              refine o_okS ?_
              refine ⟨?_, ?_⟩
              · exact h_Pg
              · exact h_Pt
        · refine o_okI (fun c25 => ?_) (fun c25 => ?_)
          · refine o_okI (fun c26 => ?_) (fun c26 => ?_)
            · refine o_okS ?_
              refine ⟨?_, ?_⟩
              · exact h_Pg
              · exact h_Pt
            · refine o_okI (fun c27 => ?_) (fun c27 => ?_)
              · refine o_okS ?_
                refine ⟨?_, ?_⟩
                · exact h_Pg
                · exact h_Pt
              · refine o_okG (o_inM (m := 102) rfl (by first | with_reducible exact True.intro | with_reducible assumption | grind [-Prod] | grind [-Prod, → sc_Jd, → sc_Pg, → sc_Pt, → sc_Tx] | grind [-Prod, I_Jd, I_Pg, I_Pt, I_Tx, o_bn, upd]) (by first | with_reducible exact True.intro | with_reducible assumption | grind [-Prod] | grind [-Prod, → sc_Jd, → sc_Pg, → sc_Pt, → sc_Tx] | grind [-Prod, I_Jd, I_Pg, I_Pt, I_Tx, o_bn, upd])) ?_
                refine o_okS ?_
                refine ⟨?_, ?_⟩
                · exact h_Pg
                · exact h_Pt
          · refine o_okS ?_
            refine ⟨?_, ?_⟩
            · exact h_Pg
            · exact h_Pt
theorem s_Jd_firstTarget {n : Nat} {x1 : Nat} {x2 : Int32} {x3 : Int32} {T0 : STx} {T1 : STx} (hn : o_big ≤ n) (h_T0 : I_Tx T0) (h_T1 : I_Tx T1) (p0 : x1 < 45) : o_ok (m_Jd_firstTarget n x1 x2 x3 T0 T1) (fun r => True) := by
  unfold m_Jd_firstTarget
  refine o_okG (o_inK (by first | with_reducible exact True.intro | with_reducible assumption | grind [-Prod] | grind [-Prod, → sc_Tx] | grind [-Prod, I_Tx, o_bn, upd])) ?_
  refine o_okN (fun w8_1 ew8_1 => ?_)
  refine o_okI (fun c2 => ?_) (fun c2 => ?_)
  · refine o_okB (s_Tx_member  hn h_T1 h_T0) ?_
    intro q1_3 _
    refine o_okS ?_
    trivial
  · refine o_okI (fun c4 => ?_) (fun c4 => ?_)
    · refine o_okB (s_Tx_slot  h_T0) ?_
      intro q2_5 _
      refine o_okB (s_Tx_element  hn h_T1) ?_
      intro q3_6 _
      refine o_okS ?_
      trivial
    · refine o_okI (fun c7 => ?_) (fun c7 => ?_)
      · refine o_okB (s_Tx_member  hn h_T1 h_T0) ?_
        intro q4_8 _
        refine o_okI (fun c9 => ?_) (fun c9 => ?_)
        · refine o_okS ?_
          trivial
        · refine o_okS ?_
          trivial
      · refine o_okI (fun c10 => ?_) (fun c10 => ?_)
        · refine o_okB (s_Tx_firstChild  h_T1) ?_
          intro q5_11 _
          refine o_okS ?_
          trivial
        · refine o_okS ?_
          trivial
theorem s_Jd_remember {x1 : Nat} {x2 : Int32} {x3 : Int32} {x4 : Int32} {Jd : SJd} (h_Jd : I_Jd Jd) (p0 : x4 ≤ 1000) : o_ok (m_Jd_remember x1 x2 x3 x4 Jd) (fun r => I_Jd r) := by
  unfold m_Jd_remember
  refine o_okI (fun c1 => ?_) (fun c1 => ?_)
  · refine o_okS ?_
    exact h_Jd
  · refine o_okI (fun c2 => ?_) (fun c2 => ?_)
    · refine o_okI (fun c3 => ?_) (fun c3 => ?_)
      · refine o_okG (o_inM (m := 102) rfl (by first | with_reducible exact True.intro | with_reducible assumption | grind [-Prod] | grind [-Prod, → sc_Jd] | grind [-Prod, I_Jd, o_bn, upd]) (by first | with_reducible exact True.intro | with_reducible assumption | grind [-Prod] | grind [-Prod, → sc_Jd] | grind [-Prod, I_Jd, o_bn, upd])) ?_
        refine o_okI (fun c4 => ?_) (fun c4 => ?_)
        · refine o_okG (o_inM (m := 102) rfl (by first | with_reducible exact True.intro | with_reducible assumption | grind [-Prod] | grind [-Prod, → sc_Jd] | grind [-Prod, I_Jd, o_bn, upd]) (by first | with_reducible exact True.intro | with_reducible assumption | grind [-Prod] | grind [-Prod, → sc_Jd] | grind [-Prod, I_Jd, o_bn, upd])) ?_
          refine o_okS ?_
          exact h_Jd
        · refine o_okI (fun c5 => ?_) (fun c5 => ?_)
          · refine o_okG (o_inM (m := 102) rfl (by first | with_reducible exact True.intro | with_reducible assumption | grind [-Prod] | grind [-Prod, → sc_Jd] | grind [-Prod, I_Jd, o_bn, upd]) (by first | with_reducible exact True.intro | with_reducible assumption | grind [-Prod] | grind [-Prod, → sc_Jd] | grind [-Prod, I_Jd, o_bn, upd])) ?_
            refine o_okS ?_
            exact h_Jd
          · refine o_okG (o_inM (m := 102) rfl (by first | with_reducible exact True.intro | with_reducible assumption | grind [-Prod] | grind [-Prod, → sc_Jd] | grind [-Prod, I_Jd, o_bn, upd]) (by first | with_reducible exact True.intro | with_reducible assumption | grind [-Prod] | grind [-Prod, → sc_Jd] | grind [-Prod, I_Jd, o_bn, upd])) ?_
            refine o_okG (o_inM (m := 102) rfl (by first | with_reducible exact True.intro | with_reducible assumption | grind [-Prod] | grind [-Prod, → sc_Jd] | grind [-Prod, I_Jd, o_bn, upd]) (by first | with_reducible exact True.intro | with_reducible assumption | grind [-Prod] | grind [-Prod, → sc_Jd] | grind [-Prod, I_Jd, o_bn, upd])) ?_
            refine o_okS ?_
            exact h_Jd
      · refine o_okI (fun c6 => ?_) (fun c6 => ?_)
        · refine o_okS ?_
          exact h_Jd
        · refine o_okI (fun c7 => ?_) (fun c7 => ?_)
          · refine o_okI (fun c8 => ?_) (fun c8 => ?_)
            · refine o_okS ?_
              exact h_Jd
            · unfold m_Jd_remember_j81
              refine o_okG (o_inM (m := 102) rfl (by first | with_reducible exact True.intro | with_reducible assumption | grind [-Prod] | grind [-Prod, → sc_Jd] | grind [-Prod, I_Jd, o_bn, upd]) (by first | with_reducible exact True.intro | with_reducible assumption | grind [-Prod] | grind [-Prod, → sc_Jd] | grind [-Prod, I_Jd, o_bn, upd])) ?_
              refine o_okG (o_inM (m := 102) rfl (by first | with_reducible exact True.intro | with_reducible assumption | grind [-Prod] | grind [-Prod, → sc_Jd] | grind [-Prod, I_Jd, o_bn, upd]) (by first | with_reducible exact True.intro | with_reducible assumption | grind [-Prod] | grind [-Prod, → sc_Jd] | grind [-Prod, I_Jd, o_bn, upd])) ?_
              refine o_okS ?_
              exact h_Jd
          · unfold m_Jd_remember_j81
            refine o_okG (o_inM (m := 102) rfl (by first | with_reducible exact True.intro | with_reducible assumption | grind [-Prod] | grind [-Prod, → sc_Jd] | grind [-Prod, I_Jd, o_bn, upd]) (by first | with_reducible exact True.intro | with_reducible assumption | grind [-Prod] | grind [-Prod, → sc_Jd] | grind [-Prod, I_Jd, o_bn, upd])) ?_
            refine o_okG (o_inM (m := 102) rfl (by first | with_reducible exact True.intro | with_reducible assumption | grind [-Prod] | grind [-Prod, → sc_Jd] | grind [-Prod, I_Jd, o_bn, upd]) (by first | with_reducible exact True.intro | with_reducible assumption | grind [-Prod] | grind [-Prod, → sc_Jd] | grind [-Prod, I_Jd, o_bn, upd])) ?_
            refine o_okS ?_
            exact h_Jd
    · refine o_okS ?_
      exact h_Jd
set_option maxHeartbeats 8000000 in
theorem s_Jd_verdict {n : Nat} {x1 : Nat} {x2 : Int32} {x3 : Int32} {x4 : Int32} {T0 : STx} {Mk : SMk} (hn : o_big ≤ n) (h_T0 : I_Tx T0) (p0 : x1 < 45) : o_ok (m_Jd_verdict n x1 x2 x3 x4 T0 Mk) (fun r => (r = 0 ∨ r = 1)) := by
  unfold m_Jd_verdict
  refine o_okG (o_inK (by first | with_reducible exact True.intro | with_reducible assumption | grind [-Prod] | grind [-Prod, → sc_Tx] | grind [-Prod, I_Tx, o_bn, upd])) ?_
  refine o_okN (fun w8_1 ew8_1 => ?_)
  refine o_okI (fun c2 => ?_) (fun c2 => ?_)
  · refine o_okI (fun c3 => ?_) (fun c3 => ?_)
    · refine o_okS ?_
      first | with_reducible exact True.intro | with_reducible assumption | grind [-Prod] | grind [-Prod, → sc_Tx] | grind [-Prod, I_Tx, o_bn, upd]
    · refine o_okS ?_
      first | with_reducible exact True.intro | with_reducible assumption | grind [-Prod] | grind [-Prod, → sc_Tx] | grind [-Prod, I_Tx, o_bn, upd]
  · refine o_okI (fun c4 => ?_) (fun c4 => ?_)
    · refine o_okI (fun c5 => ?_) (fun c5 => ?_)
      · refine o_okS ?_
        first | with_reducible exact True.intro | with_reducible assumption | grind [-Prod] | grind [-Prod, → sc_Tx] | grind [-Prod, I_Tx, o_bn, upd]
      · refine o_okS ?_
        first | with_reducible exact True.intro | with_reducible assumption | grind [-Prod] | grind [-Prod, → sc_Tx] | grind [-Prod, I_Tx, o_bn, upd]
    · refine o_okI (fun c6 => ?_) (fun c6 => ?_)
      · refine o_okI (fun c7 => ?_) (fun c7 => ?_)
        · refine o_okS ?_
          first | with_reducible exact True.intro | with_reducible assumption | grind [-Prod] | grind [-Prod, → sc_Tx] | grind [-Prod, I_Tx, o_bn, upd]
        · refine o_okS ?_
          first | with_reducible exact True.intro | with_reducible assumption | grind [-Prod] | grind [-Prod, → sc_Tx] | grind [-Prod, I_Tx, o_bn, upd]
      · refine o_okI (fun c8 => ?_) (fun c8 => ?_)
        · refine o_okB (s_Tx_parent  h_T0) ?_
          intro q1_9 _
          refine o_okB (s_Mk_find  hn h_T0) ?_
          intro q2_10 _
          refine o_okB (s_Tx_parent  h_T0) ?_
          intro q3_11 _
          refine o_okB (s_Mk_find  hn h_T0) ?_
          intro q4_12 _
          refine o_okI (fun c13 => ?_) (fun c13 => ?_)
          · unfold m_Jd_verdict_j131
            refine o_okI (fun c14 => ?_) (fun c14 => ?_)
            · refine o_okS ?_
              first | with_reducible exact True.intro | with_reducible assumption | grind [-Prod] | grind [-Prod, → sc_Tx] | grind [-Prod, I_Tx, o_bn, upd]
            · refine o_okI (fun c15 => ?_) (fun c15 => ?_)
              · refine o_okS ?_
                first | with_reducible exact True.intro | with_reducible assumption | grind [-Prod] | grind [-Prod, → sc_Tx] | grind [-Prod, I_Tx, o_bn, upd]
              · refine o_okB (s_Tx_wholeNumber  hn h_T0) ?_
                intro q6_16 _
                refine o_okI (fun c17 => ?_) (fun c17 => ?_)
                · refine o_okS ?_
                  first | with_reducible exact True.intro | with_reducible assumption | grind [-Prod] | grind [-Prod, → sc_Tx] | grind [-Prod, I_Tx, o_bn, upd]
                · refine o_okS ?_
                  first | with_reducible exact True.intro | with_reducible assumption | grind [-Prod] | grind [-Prod, → sc_Tx] | grind [-Prod, I_Tx, o_bn, upd]
          · refine o_okB (s_Tx_wholeNumber  hn h_T0) ?_
            intro q5_18 _
            unfold m_Jd_verdict_j131
            refine o_okI (fun c19 => ?_) (fun c19 => ?_)
            · refine o_okS ?_
              first | with_reducible exact True.intro | with_reducible assumption | grind [-Prod] | grind [-Prod, → sc_Tx] | grind [-Prod, I_Tx, o_bn, upd]
            · refine o_okI (fun c20 => ?_) (fun c20 => ?_)
              · refine o_okS ?_
                first | with_reducible exact True.intro | with_reducible assumption | grind [-Prod] | grind [-Prod, → sc_Tx] | grind [-Prod, I_Tx, o_bn, upd]
              · refine o_okB (s_Tx_wholeNumber  hn h_T0) ?_
                intro q6_21 _
                refine o_okI (fun c22 => ?_) (fun c22 => ?_)
                · refine o_okS ?_
                  first | with_reducible exact True.intro | with_reducible assumption | grind [-Prod] | grind [-Prod, → sc_Tx] | grind [-Prod, I_Tx, o_bn, upd]
                · refine o_okS ?_
                  first | with_reducible exact True.intro | with_reducible assumption | grind [-Prod] | grind [-Prod, → sc_Tx] | grind [-Prod, I_Tx, o_bn, upd]
        · refine o_okI (fun c23 => ?_) (fun c23 => ?_)
          · refine o_okS ?_
            first | with_reducible exact True.intro | with_reducible assumption | grind [-Prod] | grind [-Prod, → sc_Tx] | grind [-Prod, I_Tx, o_bn, upd]
          · refine o_okS ?_
            first | with_reducible exact True.intro | with_reducible assumption | grind [-Prod] | grind [-Prod, → sc_Tx] | grind [-Prod, I_Tx, o_bn, upd]
theorem s_Kw_tellsFailuresOnly {x0 : Nat}  : o_ok (m_Kw_tellsFailuresOnly x0) (fun r => (r = 0 ∨ r = 1)) := by
  unfold m_Kw_tellsFailuresOnly
  refine o_okI (fun c1 => ?_) (fun c1 => ?_)
  · refine o_okS ?_
    first | with_reducible exact True.intro | with_reducible assumption | grind [-Prod] | grind [-Prod] | grind [-Prod, o_bn, upd]
  · refine o_okI (fun c2 => ?_) (fun c2 => ?_)
    · refine o_okS ?_
      first | with_reducible exact True.intro | with_reducible assumption | grind [-Prod] | grind [-Prod] | grind [-Prod, o_bn, upd]
    · refine o_okS ?_
      first | with_reducible exact True.intro | with_reducible assumption | grind [-Prod] | grind [-Prod] | grind [-Prod, o_bn, upd]
theorem s_Kw_concerns {x0 : Nat} {x1 : Int32}  : o_ok (m_Kw_concerns x0 x1) (fun r => (r = 0 ∨ r = 1)) := by
  unfold m_Kw_concerns
  refine o_okI (fun c1 => ?_) (fun c1 => ?_)
  · refine o_okS ?_
    first | with_reducible exact True.intro | with_reducible assumption | grind [-Prod] | grind [-Prod] | grind [-Prod, o_bn, upd]
  · refine o_okI (fun c2 => ?_) (fun c2 => ?_)
    · refine o_okS ?_
      first | with_reducible exact True.intro | with_reducible assumption | grind [-Prod] | grind [-Prod] | grind [-Prod, o_bn, upd]
    · refine o_okS ?_
      first | with_reducible exact True.intro | with_reducible assumption | grind [-Prod] | grind [-Prod] | grind [-Prod, o_bn, upd]
theorem s_Jd_isOfType {n : Nat} {x1 : Int32} {x2 : Int32} {T0 : STx} {T1 : STx} (hn : o_big ≤ n) (h_T0 : I_Tx T0) (h_T1 : I_Tx T1) : o_ok (m_Jd_isOfType n x1 x2 T0 T1) (fun r => (r = 0 ∨ r = 1)) := by
  unfold m_Jd_isOfType
  refine o_okB (s_Tx_kind  h_T1) ?_
  intro q1_1 _
  refine o_okI (fun c2 => ?_) (fun c2 => ?_)
  · refine o_okB (s_Tx_spells  hn h_T0) ?_
    intro q2_3 g4
    refine o_okG (o_zbM (by first | with_reducible exact True.intro | with_reducible assumption | grind [-Prod] | grind [-Prod, → sc_Tx] | grind [-Prod, I_Tx, o_bn, upd])) ?_
    refine o_okS ?_
    first | with_reducible exact True.intro | with_reducible assumption | grind [-Prod] | grind [-Prod, → sc_Tx] | grind [-Prod, I_Tx, o_bn, upd]
  · refine o_okI (fun c5 => ?_) (fun c5 => ?_)
    · refine o_okB (s_Tx_spells  hn h_T0) ?_
      intro q3_6 g7
      refine o_okG (o_zbM (by first | with_reducible exact True.intro | with_reducible assumption | grind [-Prod] | grind [-Prod, → sc_Tx] | grind [-Prod, I_Tx, o_bn, upd])) ?_
      refine o_okS ?_
      first | with_reducible exact True.intro | with_reducible assumption | grind [-Prod] | grind [-Prod, → sc_Tx] | grind [-Prod, I_Tx, o_bn, upd]
    · refine o_okI (fun c8 => ?_) (fun c8 => ?_)
      · refine o_okB (s_Tx_spells  hn h_T0) ?_
        intro q4_9 g10
        refine o_okG (o_zbM (by first | with_reducible exact True.intro | with_reducible assumption | grind [-Prod] | grind [-Prod, → sc_Tx] | grind [-Prod, I_Tx, o_bn, upd])) ?_
        refine o_okS ?_
        first | with_reducible exact True.intro | with_reducible assumption | grind [-Prod] | grind [-Prod, → sc_Tx] | grind [-Prod, I_Tx, o_bn, upd]
      · refine o_okI (fun c11 => ?_) (fun c11 => ?_)
        · refine o_okB (s_Tx_spells  hn h_T0) ?_
          intro q5_12 g13
          refine o_okI (fun c14 => ?_) (fun c14 => ?_)
          · refine o_okB (s_Tx_exponent  h_T1) ?_
            intro q6_15 _
            refine o_okI (fun c16 => ?_) (fun c16 => ?_)
            · refine o_okS ?_
              first | with_reducible exact True.intro | with_reducible assumption | grind [-Prod] | grind [-Prod, → sc_Tx] | grind [-Prod, I_Tx, o_bn, upd]
            · refine o_okB (s_Tx_spells  hn h_T0) ?_
              intro q7_17 g18
              refine o_okI (fun c19 => ?_) (fun c19 => ?_)
              · refine o_okS ?_
                first | with_reducible exact True.intro | with_reducible assumption | grind [-Prod] | grind [-Prod, → sc_Tx] | grind [-Prod, I_Tx, o_bn, upd]
              · refine o_okS ?_
                first | with_reducible exact True.intro | with_reducible assumption | grind [-Prod] | grind [-Prod, → sc_Tx] | grind [-Prod, I_Tx, o_bn, upd]
          · refine o_okS ?_
            first | with_reducible exact True.intro | with_reducible assumption | grind [-Prod] | grind [-Prod, → sc_Tx] | grind [-Prod, I_Tx, o_bn, upd]
        · refine o_okI (fun c20 => ?_) (fun c20 => ?_)
          · refine o_okB (s_Tx_spells  hn h_T0) ?_
            intro q8_21 g22
            refine o_okG (o_zbM (by first | with_reducible exact True.intro | with_reducible assumption | grind [-Prod] | grind [-Prod, → sc_Tx] | grind [-Prod, I_Tx, o_bn, upd])) ?_
            refine o_okS ?_
            first | with_reducible exact True.intro | with_reducible assumption | grind [-Prod] | grind [-Prod, → sc_Tx] | grind [-Prod, I_Tx, o_bn, upd]
          · refine o_okI (fun c23 => ?_) (fun c23 => ?_)
            · refine o_okB (s_Tx_spells  hn h_T0) ?_
              intro q9_24 g25
              refine o_okG (o_zbM (by first | with_reducible exact True.intro | with_reducible assumption | grind [-Prod] | grind [-Prod, → sc_Tx] | grind [-Prod, I_Tx, o_bn, upd])) ?_
              refine o_okS ?_
              first | with_reducible exact True.intro | with_reducible assumption | grind [-Prod] | grind [-Prod, → sc_Tx] | grind [-Prod, I_Tx, o_bn, upd]
            · refine o_okB (s_Tx_spells  hn h_T0) ?_
              intro q10_26 g27
              refine o_okG (o_zbM (by first | with_reducible exact True.intro | with_reducible assumption | grind [-Prod] | grind [-Prod, → sc_Tx] | grind [-Prod, I_Tx, o_bn, upd])) ?_
              refine o_okS ?_
              first | with_reducible exact True.intro | with_reducible assumption | grind [-Prod] | grind [-Prod, → sc_Tx] | grind [-Prod, I_Tx, o_bn, upd]
theorem s_Jd_hasType_b31 {n : Nat} {x1 : Int32} {x2 : Int32} {T0 : STx} {T1 : STx} {z : Int32 × Int32} (hn : o_big ≤ n) (h_T0 : I_Tx T0) (h_T1 : I_Tx T1) (l0 : 0 ≤ z.2) : o_ok (m_Jd_hasType_b31 n x1 x2 T0 T1 z) (fun q => (q.1 = 0 → 0 ≤ q.2.2 ∧ o_mu q.2.2 < o_mu z.2) ∧ (q.1 ≠ 0 → True)) := by
  unfold m_Jd_hasType_b31
  refine o_okB (s_Tx_size  h_T0) ?_
  intro q3_1 g2
  refine o_okI (fun c3 => ?_) (fun c3 => ?_)
  · refine o_okS ?_
    refine ⟨fun h => absurd (show (2 : Nat) = 0 from h) (by decide), fun _ => ?_⟩
    trivial
  · refine o_okB (s_Jd_isOfType  hn h_T0 h_T1) ?_
    intro q4_4 g5
    refine o_okI (fun c6 => ?_) (fun c6 => ?_)
    · refine o_okB (s_Tx_nextChild  h_T0) ?_
      intro q5_7 _
      refine o_okN (fun x4_64_8 ex4_64_8 => ?_)
      refine o_okS ?_
      refine ⟨fun _ => ?_, fun h => absurd rfl h⟩
      refine ⟨?_, ?_⟩
      · first | with_reducible exact True.intro | with_reducible assumption | grind [-Prod] | grind [-Prod, → sc_Tx] | grind [-Prod, I_Tx, o_bn, upd]
      · first | exact o_muL (by first | with_reducible exact True.intro | with_reducible assumption | grind [-Prod] | grind [-Prod, → sc_Tx] | grind [-Prod, I_Tx, o_bn, upd]) | exact o_nuL (by first | with_reducible exact True.intro | with_reducible assumption | grind [-Prod] | grind [-Prod, → sc_Tx] | grind [-Prod, I_Tx, o_bn, upd]) | (first | with_reducible exact True.intro | with_reducible assumption | grind [-Prod] | grind [-Prod, → sc_Tx] | grind [-Prod, I_Tx, o_bn, upd])
    · refine o_okS ?_
      refine ⟨fun h => absurd (show (1 : Nat) = 0 from h) (by decide), fun _ => ?_⟩
      trivial
theorem l_Jd_hasType_b31 {n : Nat} {x1 : Int32} {x2 : Int32} {T0 : STx} {T1 : STx} {z : Int32 × Int32} (hn : o_big ≤ n) (h_T0 : I_Tx T0) (h_T1 : I_Tx T1) (l0 : 0 ≤ z.2) : o_ok (o_lp n (m_Jd_hasType_b31 n x1 x2 T0 T1) z) (fun q => q.1 ≠ 0 ∧ True) := by
  exact o_lpR (fun z => 0 ≤ z.2) (fun z => o_mu z.2) hn (o_muB) l0
    (fun z hz => by have l0 := hz; exact o_okW (s_Jd_hasType_b31 hn h_T0 h_T1 l0) (fun q hq => ⟨fun h => by have := hq.1 h; grind, hq.2⟩))
theorem s_Jd_hasType {n : Nat} {x1 : Int32} {x2 : Int32} {T0 : STx} {T1 : STx} (hn : o_big ≤ n) (h_T0 : I_Tx T0) (h_T1 : I_Tx T1) : o_ok (m_Jd_hasType n x1 x2 T0 T1) (fun r => (r = 0 ∨ r = 1)) := by
  unfold m_Jd_hasType
  refine o_okB (s_Tx_kind  h_T0) ?_
  intro q1_1 _
  refine o_okI (fun c2 => ?_) (fun c2 => ?_)
  · refine o_okB (s_Jd_isOfType  hn h_T0 h_T1) ?_
    intro q7_3 g4
    refine o_okG (o_zbM (by first | with_reducible exact True.intro | with_reducible assumption | grind [-Prod] | grind [-Prod, → sc_Tx] | grind [-Prod, I_Tx, o_bn, upd])) ?_
    refine o_okS ?_
    first | with_reducible exact True.intro | with_reducible assumption | grind [-Prod] | grind [-Prod, → sc_Tx] | grind [-Prod, I_Tx, o_bn, upd]
  · refine o_okB (s_Tx_firstChild  h_T0) ?_
    intro q2_5 _
    refine o_okB (l_Jd_hasType_b31  hn h_T0 h_T1 (by first | with_reducible exact True.intro | with_reducible assumption | grind [-Prod] | grind [-Prod, → sc_Tx] | grind [-Prod, I_Tx, o_bn, upd])) ?_
    intro q6_6 ⟨yq6_6, _⟩
    refine o_okI (fun c7 => ?_) (fun c7 => ?_)
    · refine o_okS ?_
      first | with_reducible exact True.intro | with_reducible assumption | grind [-Prod] | grind [-Prod, → sc_Tx] | grind [-Prod, I_Tx, o_bn, upd]
    · refine o_okS ?_
      first | with_reducible exact True.intro | with_reducible assumption | grind [-Prod] | grind [-Prod, → sc_Tx] | grind [-Prod, I_Tx, o_bn, upd]
theorem s_Tx_compare_b83 {n : Nat} {x1 : Int32} {x3 : Int32} {x4 : Int32} {a0 : STx} {a2 : STx} {z : Int32 × Int32 × Int32} (hn : o_big ≤ n) (h_a0 : I_Tx a0) (h_a2 : I_Tx a2) (l0 : 0 ≤ z.1) : o_ok (m_Tx_compare_b83 n x1 x3 x4 a0 a2 z) (fun q => (q.1 = 0 → 0 ≤ q.2.1 ∧ o_mu q.2.1 < o_mu z.1) ∧ (q.1 ≠ 0 → True)) := by
  unfold m_Tx_compare_b83
  refine o_okI (fun c1 => ?_) (fun c1 => ?_)
  · refine o_okS ?_
    refine ⟨fun h => absurd (show (2 : Nat) = 0 from h) (by decide), fun _ => ?_⟩
    trivial
  · refine o_okB (s_Tx_cell  h_a0) ?_
    intro q8_2 g3
    refine o_okB (s_Tx_cell  h_a2) ?_
    intro q9_4 g5
    refine o_okI (fun c6 => ?_) (fun c6 => ?_)
    · refine o_okN (fun x7_131_7 ex7_131_7 => ?_)
      refine o_okS ?_
      refine ⟨fun _ => ?_, fun h => absurd rfl h⟩
      refine ⟨?_, ?_⟩
      · first | with_reducible exact True.intro | with_reducible assumption | grind [-Prod] | grind [-Prod, → sc_Tx] | grind [-Prod, I_Tx, o_bn, upd]
      · first | exact o_muL (by first | with_reducible exact True.intro | with_reducible assumption | grind [-Prod] | grind [-Prod, → sc_Tx] | grind [-Prod, I_Tx, o_bn, upd]) | exact o_nuL (by first | with_reducible exact True.intro | with_reducible assumption | grind [-Prod] | grind [-Prod, → sc_Tx] | grind [-Prod, I_Tx, o_bn, upd]) | (first | with_reducible exact True.intro | with_reducible assumption | grind [-Prod] | grind [-Prod, → sc_Tx] | grind [-Prod, I_Tx, o_bn, upd])
    · refine o_okS ?_
      refine ⟨fun h => absurd (show (1 : Nat) = 0 from h) (by decide), fun _ => ?_⟩
      trivial
theorem l_Tx_compare_b83 {n : Nat} {x1 : Int32} {x3 : Int32} {x4 : Int32} {a0 : STx} {a2 : STx} {z : Int32 × Int32 × Int32} (hn : o_big ≤ n) (h_a0 : I_Tx a0) (h_a2 : I_Tx a2) (l0 : 0 ≤ z.1) : o_ok (o_lp n (m_Tx_compare_b83 n x1 x3 x4 a0 a2) z) (fun q => q.1 ≠ 0 ∧ True) := by
  exact o_lpR (fun z => 0 ≤ z.1) (fun z => o_mu z.1) hn (o_muB) l0
    (fun z hz => by have l0 := hz; exact o_okW (s_Tx_compare_b83 hn h_a0 h_a2 l0) (fun q hq => ⟨fun h => by have := hq.1 h; grind, hq.2⟩))
theorem s_Tx_compare {n : Nat} {x1 : Int32} {x3 : Int32} {a0 : STx} {a2 : STx} (hn : o_big ≤ n) (h_a0 : I_Tx a0) (h_a2 : I_Tx a2) : o_ok (m_Tx_compare n x1 x3 a0 a2) (fun r => True) := by
  unfold m_Tx_compare
  refine o_okB (s_Tx_sign  h_a0) ?_
  intro q1_1 _
  refine o_okB (s_Tx_sign  h_a2) ?_
  intro q2_2 _
  refine o_okI (fun c3 => ?_) (fun c3 => ?_)
  · refine o_okI (fun c4 => ?_) (fun c4 => ?_)
    · unfold m_Tx_compare_j22
      refine o_okB (s_Tx_sign  h_a2) ?_
      intro q3_5 _
      refine o_okS ?_
      trivial
    · refine o_okB (s_Tx_size  h_a0) ?_
      intro q4_6 g7
      refine o_okB (s_Tx_exponent  h_a0) ?_
      intro q5_8 _
      refine o_okN (fun x5_42_9 ex5_42_9 => ?_)
      refine o_okB (s_Tx_size  h_a2) ?_
      intro q6_10 g11
      refine o_okB (s_Tx_exponent  h_a2) ?_
      intro q7_12 _
      refine o_okN (fun x6_55_13 ex6_55_13 => ?_)
      refine o_okI (fun c14 => ?_) (fun c14 => ?_)
      · refine o_okB (l_Tx_compare_b83  hn h_a0 h_a2 (by first | with_reducible exact True.intro | with_reducible assumption | grind [-Prod] | grind [-Prod, → sc_Tx] | grind [-Prod, I_Tx, o_bn, upd])) ?_
        intro q10_15 ⟨yq10_15, _⟩
        refine o_okI (fun c16 => ?_) (fun c16 => ?_)
        · refine o_okI (fun c17 => ?_) (fun c17 => ?_)
          · refine o_okS ?_
            trivial
          · refine o_okS ?_
            trivial
        · refine o_okS ?_
          trivial
      · refine o_okI (fun c18 => ?_) (fun c18 => ?_)
        · refine o_okS ?_
          trivial
        · refine o_okS ?_
          trivial
  · unfold m_Tx_compare_j22
    refine o_okB (s_Tx_sign  h_a2) ?_
    intro q3_19 _
    refine o_okS ?_
    trivial
theorem s_Tx_same_b94 {n : Nat} {rec : Int32 → Int32 → Int32 → STx → STx → Option (Int32)} {x1 : Int32} {x3 : Int32} {x4 : Int32} {x5 : Int32} {a0 : STx} {a2 : STx} {z : Int32 × Int32 × Int32} (hn : o_big ≤ n) (h_a0 : I_Tx a0) (h_a2 : I_Tx a2) (hrec : ∀ (v0 v1 : Int32) (A B : STx), I_Tx A → I_Tx B → o_ok (rec v0 v1 (x4 + 1) A B) (fun r => (r = 0 ∨ r = 1))) (l0 : 0 ≤ z.2.2) : o_ok (m_Tx_same_b94 n rec x1 x3 x4 x5 a0 a2 z) (fun q => (q.1 = 0 → 0 ≤ q.2.2.2 ∧ o_mu q.2.2.2 < o_mu z.2.2) ∧ (q.1 ≠ 0 → True)) := by
  unfold m_Tx_same_b94
  refine o_okB (s_Tx_size  h_a0) ?_
  intro q7_1 g2
  refine o_okI (fun c3 => ?_) (fun c3 => ?_)
  · refine o_okS ?_
    refine ⟨fun h => absurd (show (2 : Nat) = 0 from h) (by decide), fun _ => ?_⟩
    trivial
  · refine o_okI (fun c4 => ?_) (fun c4 => ?_)
    · unfold m_Tx_same_j125
      refine o_okI (fun c5 => ?_) (fun c5 => ?_)
      · refine o_okS ?_
        refine ⟨fun h => absurd (show (1 : Nat) = 0 from h) (by decide), fun _ => ?_⟩
        trivial
      · refine o_okB (hrec _ _ _ _ h_a0 h_a2) ?_
        intro q9_6 g7
        refine o_okI (fun c8 => ?_) (fun c8 => ?_)
        · refine o_okS ?_
          refine ⟨fun h => absurd (show (1 : Nat) = 0 from h) (by decide), fun _ => ?_⟩
          trivial
        · refine o_okB (s_Tx_nextChild  h_a0) ?_
          intro q10_9 _
          refine o_okB (s_Tx_nextChild  h_a2) ?_
          intro q11_10 _
          refine o_okN (fun x8_167_11 ex8_167_11 => ?_)
          refine o_okS ?_
          refine ⟨fun _ => ?_, fun h => absurd rfl h⟩
          refine ⟨?_, ?_⟩
          · first | with_reducible exact True.intro | with_reducible assumption | grind [-Prod] | grind [-Prod, → sc_Tx] | grind [-Prod, I_Tx, o_bn, upd]
          · first | exact o_muL (by first | with_reducible exact True.intro | with_reducible assumption | grind [-Prod] | grind [-Prod, → sc_Tx] | grind [-Prod, I_Tx, o_bn, upd]) | exact o_nuL (by first | with_reducible exact True.intro | with_reducible assumption | grind [-Prod] | grind [-Prod, → sc_Tx] | grind [-Prod, I_Tx, o_bn, upd]) | (first | with_reducible exact True.intro | with_reducible assumption | grind [-Prod] | grind [-Prod, → sc_Tx] | grind [-Prod, I_Tx, o_bn, upd])
    · refine o_okB (s_Tx_member  hn h_a2 h_a0) ?_
      intro q8_12 _
      unfold m_Tx_same_j125
      refine o_okI (fun c13 => ?_) (fun c13 => ?_)
      · refine o_okS ?_
        refine ⟨fun h => absurd (show (1 : Nat) = 0 from h) (by decide), fun _ => ?_⟩
        trivial
      · refine o_okB (hrec _ _ _ _ h_a0 h_a2) ?_
        intro q9_14 g15
        refine o_okI (fun c16 => ?_) (fun c16 => ?_)
        · refine o_okS ?_
          refine ⟨fun h => absurd (show (1 : Nat) = 0 from h) (by decide), fun _ => ?_⟩
          trivial
        · refine o_okB (s_Tx_nextChild  h_a0) ?_
          intro q10_17 _
          refine o_okB (s_Tx_nextChild  h_a2) ?_
          intro q11_18 _
          refine o_okN (fun x8_167_19 ex8_167_19 => ?_)
          refine o_okS ?_
          refine ⟨fun _ => ?_, fun h => absurd rfl h⟩
          refine ⟨?_, ?_⟩
          · first | with_reducible exact True.intro | with_reducible assumption | grind [-Prod] | grind [-Prod, → sc_Tx] | grind [-Prod, I_Tx, o_bn, upd]
          · first | exact o_muL (by first | with_reducible exact True.intro | with_reducible assumption | grind [-Prod] | grind [-Prod, → sc_Tx] | grind [-Prod, I_Tx, o_bn, upd]) | exact o_nuL (by first | with_reducible exact True.intro | with_reducible assumption | grind [-Prod] | grind [-Prod, → sc_Tx] | grind [-Prod, I_Tx, o_bn, upd]) | (first | with_reducible exact True.intro | with_reducible assumption | grind [-Prod] | grind [-Prod, → sc_Tx] | grind [-Prod, I_Tx, o_bn, upd])
theorem l_Tx_same_b94 {n : Nat} {rec : Int32 → Int32 → Int32 → STx → STx → Option (Int32)} {x1 : Int32} {x3 : Int32} {x4 : Int32} {x5 : Int32} {a0 : STx} {a2 : STx} {z : Int32 × Int32 × Int32} (hn : o_big ≤ n) (h_a0 : I_Tx a0) (h_a2 : I_Tx a2) (hrec : ∀ (v0 v1 : Int32) (A B : STx), I_Tx A → I_Tx B → o_ok (rec v0 v1 (x4 + 1) A B) (fun r => (r = 0 ∨ r = 1))) (l0 : 0 ≤ z.2.2) : o_ok (o_lp n (m_Tx_same_b94 n rec x1 x3 x4 x5 a0 a2) z) (fun q => q.1 ≠ 0 ∧ True) := by
  exact o_lpR (fun z => 0 ≤ z.2.2) (fun z => o_mu z.2.2) hn (o_muB) l0
    (fun z hz => by have l0 := hz; exact o_okW (s_Tx_same_b94 hn h_a0 h_a2 hrec l0) (fun q hq => ⟨fun h => by have := hq.1 h; grind, hq.2⟩))
theorem s_Tx_same_F {n : Nat} {rec : Int32 → Int32 → Int32 → STx → STx → Option (Int32)} {x1 : Int32} {x3 : Int32} {x4 : Int32} {a0 : STx} {a2 : STx} (hn : o_big ≤ n) (h_a0 : I_Tx a0) (h_a2 : I_Tx a2) (hrec : x4 ≤ 40 → ∀ (v0 v1 : Int32) (A B : STx), I_Tx A → I_Tx B → o_ok (rec v0 v1 (x4 + 1) A B) (fun r => (r = 0 ∨ r = 1))) : o_ok (m_Tx_same_F n rec x1 x3 x4 a0 a2) (fun r => (r = 0 ∨ r = 1)) := by
  unfold m_Tx_same_F
  refine o_okB (s_Tx_kind  h_a0) ?_
  intro q1_1 _
  refine o_okB (s_Tx_kind  h_a2) ?_
  intro q2_2 _
  refine o_okI (fun c3 => ?_) (fun c3 => ?_)
  · refine o_okI (fun c4 => ?_) (fun c4 => ?_)
    · refine o_okI (fun c5 => ?_) (fun c5 => ?_)
      · refine o_okB (s_Tx_compare  hn h_a0 h_a2) ?_
        intro q14_6 _
        refine o_okI (fun c7 => ?_) (fun c7 => ?_)
        · refine o_okS ?_
          first | with_reducible exact True.intro | with_reducible assumption | grind [-Prod] | grind [-Prod, → sc_Tx] | grind [-Prod, I_Tx, o_bn, upd]
        · refine o_okS ?_
          first | with_reducible exact True.intro | with_reducible assumption | grind [-Prod] | grind [-Prod, → sc_Tx] | grind [-Prod, I_Tx, o_bn, upd]
      · refine o_okI (fun c8 => ?_) (fun c8 => ?_)
        · refine o_okB (s_Tx_sameString  hn h_a0 h_a2) ?_
          intro q13_9 g10
          refine o_okG (o_zbM (by first | with_reducible exact True.intro | with_reducible assumption | grind [-Prod] | grind [-Prod, → sc_Tx] | grind [-Prod, I_Tx, o_bn, upd])) ?_
          refine o_okS ?_
          first | with_reducible exact True.intro | with_reducible assumption | grind [-Prod] | grind [-Prod, → sc_Tx] | grind [-Prod, I_Tx, o_bn, upd]
        · refine o_okB (s_Tx_size  h_a0) ?_
          intro q3_11 g12
          refine o_okB (s_Tx_size  h_a2) ?_
          intro q4_13 g14
          refine o_okI (fun c15 => ?_) (fun c15 => ?_)
          · refine o_okB (s_Tx_firstChild  h_a0) ?_
            intro q5_16 _
            refine o_okB (s_Tx_firstChild  h_a2) ?_
            intro q6_17 _
            refine o_okB (l_Tx_same_b94  hn h_a0 h_a2 (hrec (by first | assumption | grind)) (by first | with_reducible exact True.intro | with_reducible assumption | grind [-Prod] | grind [-Prod, → sc_Tx] | grind [-Prod, I_Tx, o_bn, upd])) ?_
            intro q12_18 ⟨yq12_18, _⟩
            refine o_okI (fun c19 => ?_) (fun c19 => ?_)
            · refine o_okS ?_
              first | with_reducible exact True.intro | with_reducible assumption | grind [-Prod] | grind [-Prod, → sc_Tx] | grind [-Prod, I_Tx, o_bn, upd]
            · refine o_okS ?_
              first | with_reducible exact True.intro | with_reducible assumption | grind [-Prod] | grind [-Prod, → sc_Tx] | grind [-Prod, I_Tx, o_bn, upd]
          · refine o_okS ?_
            first | with_reducible exact True.intro | with_reducible assumption | grind [-Prod] | grind [-Prod, → sc_Tx] | grind [-Prod, I_Tx, o_bn, upd]
    · refine o_okS ?_
      first | with_reducible exact True.intro | with_reducible assumption | grind [-Prod] | grind [-Prod, → sc_Tx] | grind [-Prod, I_Tx, o_bn, upd]
  · refine o_okS ?_
    first | with_reducible exact True.intro | with_reducible assumption | grind [-Prod] | grind [-Prod, → sc_Tx] | grind [-Prod, I_Tx, o_bn, upd]
theorem s_Tx_same {n d : Nat} {v0 v1 v2 : Int32} {A B : STx} (hn : o_big ≤ n) (hd : v2 ≤ 41 ∧ 42 ≤ v2.toInt + d) (h_A : I_Tx A) (h_B : I_Tx B) : o_ok (m_Tx_same n d v0 v1 v2 A B) (fun r => (r = 0 ∨ r = 1)) := by
  induction d generalizing v0 v1 v2 A B with
  | zero =>
    have a := Int32.le_iff_toInt_le.mp hd.1
    have z : (41 : Int32).toInt = 41 := rfl
    rw [z] at a
    have b := hd.2
    exfalso; omega
  | succ d ih =>
    refine s_Tx_same_F hn h_A h_B ?_
    intro h v0 v1 A B hA hB
    refine ih ?_ hA hB
    have a := o_add1 (x := v2) (by grind)
    rw [a]
    have b := hd.2
    refine ⟨by grind, by omega⟩
theorem s_Jd_isOneOf_b12 {n : Nat} {x1 : Int32} {x2 : Int32} {T0 : STx} {T1 : STx} {z : Int32 × Int32} (hn : o_big ≤ n) (h_T0 : I_Tx T0) (h_T1 : I_Tx T1) (l0 : 0 ≤ z.2) : o_ok (m_Jd_isOneOf_b12 n x1 x2 T0 T1 z) (fun q => (q.1 = 0 → 0 ≤ q.2.2 ∧ o_mu q.2.2 < o_mu z.2) ∧ (q.1 ≠ 0 → True)) := by
  unfold m_Jd_isOneOf_b12
  refine o_okB (s_Tx_size  h_T0) ?_
  intro q2_1 g2
  refine o_okI (fun c3 => ?_) (fun c3 => ?_)
  · refine o_okS ?_
    refine ⟨fun h => absurd (show (2 : Nat) = 0 from h) (by decide), fun _ => ?_⟩
    trivial
  · refine o_okB (s_Tx_same hn (by decide) h_T0 h_T1) ?_
    intro q3_4 g5
    refine o_okI (fun c6 => ?_) (fun c6 => ?_)
    · refine o_okB (s_Tx_nextChild  h_T0) ?_
      intro q4_7 _
      refine o_okN (fun x4_53_8 ex4_53_8 => ?_)
      refine o_okS ?_
      refine ⟨fun _ => ?_, fun h => absurd rfl h⟩
      refine ⟨?_, ?_⟩
      · first | with_reducible exact True.intro | with_reducible assumption | grind [-Prod] | grind [-Prod, → sc_Tx] | grind [-Prod, I_Tx, o_bn, upd]
      · first | exact o_muL (by first | with_reducible exact True.intro | with_reducible assumption | grind [-Prod] | grind [-Prod, → sc_Tx] | grind [-Prod, I_Tx, o_bn, upd]) | exact o_nuL (by first | with_reducible exact True.intro | with_reducible assumption | grind [-Prod] | grind [-Prod, → sc_Tx] | grind [-Prod, I_Tx, o_bn, upd]) | (first | with_reducible exact True.intro | with_reducible assumption | grind [-Prod] | grind [-Prod, → sc_Tx] | grind [-Prod, I_Tx, o_bn, upd])
    · refine o_okS ?_
      refine ⟨fun h => absurd (show (1 : Nat) = 0 from h) (by decide), fun _ => ?_⟩
      trivial
theorem l_Jd_isOneOf_b12 {n : Nat} {x1 : Int32} {x2 : Int32} {T0 : STx} {T1 : STx} {z : Int32 × Int32} (hn : o_big ≤ n) (h_T0 : I_Tx T0) (h_T1 : I_Tx T1) (l0 : 0 ≤ z.2) : o_ok (o_lp n (m_Jd_isOneOf_b12 n x1 x2 T0 T1) z) (fun q => q.1 ≠ 0 ∧ True) := by
  exact o_lpR (fun z => 0 ≤ z.2) (fun z => o_mu z.2) hn (o_muB) l0
    (fun z hz => by have l0 := hz; exact o_okW (s_Jd_isOneOf_b12 hn h_T0 h_T1 l0) (fun q hq => ⟨fun h => by have := hq.1 h; grind, hq.2⟩))
theorem s_Jd_isOneOf {n : Nat} {x1 : Int32} {x2 : Int32} {T0 : STx} {T1 : STx} (hn : o_big ≤ n) (h_T0 : I_Tx T0) (h_T1 : I_Tx T1) : o_ok (m_Jd_isOneOf n x1 x2 T0 T1) (fun r => (r = 0 ∨ r = 1)) := by
  unfold m_Jd_isOneOf
  refine o_okB (s_Tx_firstChild  h_T0) ?_
  intro q1_1 _
  refine o_okB (l_Jd_isOneOf_b12  hn h_T0 h_T1 (by first | with_reducible exact True.intro | with_reducible assumption | grind [-Prod] | grind [-Prod, → sc_Tx] | grind [-Prod, I_Tx, o_bn, upd])) ?_
  intro q5_2 ⟨yq5_2, _⟩
  refine o_okI (fun c3 => ?_) (fun c3 => ?_)
  · refine o_okS ?_
    first | with_reducible exact True.intro | with_reducible assumption | grind [-Prod] | grind [-Prod, → sc_Tx] | grind [-Prod, I_Tx, o_bn, upd]
  · refine o_okS ?_
    first | with_reducible exact True.intro | with_reducible assumption | grind [-Prod] | grind [-Prod, → sc_Tx] | grind [-Prod, I_Tx, o_bn, upd]
theorem s_JA_fill_1_b6 {n : Nat} {x1 : Int64} {x4 : Int32} {z : Int32 × (Nat → Int64)} (hn : o_big ≤ n) (p0 : x4 ≤ 7) (l0 : 0 ≤ z.1) : o_ok (m_JA_fill_1_b6 n x1 x4 z) (fun q => (q.1 = 0 → 0 ≤ q.2.1 ∧ o_mu q.2.1 < o_mu z.1) ∧ (q.1 ≠ 0 → True)) := by
  unfold m_JA_fill_1_b6
  refine o_okI (fun c1 => ?_) (fun c1 => ?_)
  · refine o_okS ?_
    refine ⟨fun h => absurd (show (1 : Nat) = 0 from h) (by decide), fun _ => ?_⟩
    trivial
  · refine o_okG (o_inM (m := 7) rfl (by first | with_reducible exact True.intro | with_reducible assumption | grind [-Prod] | grind [-Prod] | grind [-Prod, o_bn, upd]) (by first | with_reducible exact True.intro | with_reducible assumption | grind [-Prod] | grind [-Prod] | grind [-Prod, o_bn, upd])) ?_
    refine o_okN (fun x3_16_2 ex3_16_2 => ?_)
    refine o_okS ?_
    refine ⟨fun _ => ?_, fun h => absurd rfl h⟩
    refine ⟨?_, ?_⟩
    · first | with_reducible exact True.intro | with_reducible assumption | grind [-Prod] | grind [-Prod] | grind [-Prod, o_bn, upd]
    · first | exact o_muL (by first | with_reducible exact True.intro | with_reducible assumption | grind [-Prod] | grind [-Prod] | grind [-Prod, o_bn, upd]) | exact o_nuL (by first | with_reducible exact True.intro | with_reducible assumption | grind [-Prod] | grind [-Prod] | grind [-Prod, o_bn, upd]) | (first | with_reducible exact True.intro | with_reducible assumption | grind [-Prod] | grind [-Prod] | grind [-Prod, o_bn, upd])
theorem l_JA_fill_1_b6 {n : Nat} {x1 : Int64} {x4 : Int32} {z : Int32 × (Nat → Int64)} (hn : o_big ≤ n) (p0 : x4 ≤ 7) (l0 : 0 ≤ z.1) : o_ok (o_lp n (m_JA_fill_1_b6 n x1 x4) z) (fun q => q.1 ≠ 0 ∧ True) := by
  exact o_lpR (fun z => 0 ≤ z.1) (fun z => o_mu z.1) hn (o_muB) l0
    (fun z hz => by have l0 := hz; exact o_okW (s_JA_fill_1_b6 hn p0 l0) (fun q hq => ⟨fun h => by have := hq.1 h; grind, hq.2⟩))
theorem s_JA_fill_1 {n : Nat} {x1 : Int64} {r0 : (Nat → Int64)} (hn : o_big ≤ n) : o_ok (m_JA_fill_1 n x1 r0) (fun r => True) := by
  unfold m_JA_fill_1
  refine o_okB (l_JA_fill_1_b6  hn (by first | with_reducible exact True.intro | with_reducible assumption | grind [-Prod] | grind [-Prod] | grind [-Prod, o_bn, upd]) (by first | with_reducible exact True.intro | with_reducible assumption | grind [-Prod] | grind [-Prod] | grind [-Prod, o_bn, upd])) ?_
  intro q1_1 ⟨yq1_1, _⟩
  refine o_okS ?_
  trivial
theorem s_Ld_append_b6 {n : Nat} {z : Int64 × Int32 × (Nat → Int64)} (hn : o_big ≤ n) (l0 : 0 ≤ z.2.1) : o_ok (m_Ld_append_b6 n z) (fun q => (q.1 = 0 → 0 ≤ q.2.2.1 ∧ o_mu q.2.2.1 < o_mu z.2.1) ∧ (q.1 ≠ 0 → True)) := by
  unfold m_Ld_append_b6
  refine o_okI (fun c1 => ?_) (fun c1 => ?_)
  · refine o_okS ?_
    refine ⟨fun h => absurd (show (1 : Nat) = 0 from h) (by decide), fun _ => ?_⟩
    trivial
  · refine o_okG (o_inM (m := 7) rfl (by first | with_reducible exact True.intro | with_reducible assumption | grind [-Prod] | grind [-Prod] | grind [-Prod, o_bn, upd]) (by first | with_reducible exact True.intro | with_reducible assumption | grind [-Prod] | grind [-Prod] | grind [-Prod, o_bn, upd])) ?_
    refine o_okN (fun x5_23_2 ex5_23_2 => ?_)
    refine o_okG (rfl) ?_
    refine o_okN (fun x2_31_3 ex2_31_3 => ?_)
    refine o_okG (rfl) ?_
    refine o_okG (o_inM (m := 7) rfl (by first | with_reducible exact True.intro | with_reducible assumption | grind [-Prod] | grind [-Prod] | grind [-Prod, o_bn, upd]) (by first | with_reducible exact True.intro | with_reducible assumption | grind [-Prod] | grind [-Prod] | grind [-Prod, o_bn, upd])) ?_
    refine o_okN (fun x4_42_4 ex4_42_4 => ?_)
    refine o_okS ?_
    refine ⟨fun _ => ?_, fun h => absurd rfl h⟩
    refine ⟨?_, ?_⟩
    · first | with_reducible exact True.intro | with_reducible assumption | grind [-Prod] | grind [-Prod] | grind [-Prod, o_bn, upd]
    · first | exact o_muL (by first | with_reducible exact True.intro | with_reducible assumption | grind [-Prod] | grind [-Prod] | grind [-Prod, o_bn, upd]) | exact o_nuL (by first | with_reducible exact True.intro | with_reducible assumption | grind [-Prod] | grind [-Prod] | grind [-Prod, o_bn, upd]) | (first | with_reducible exact True.intro | with_reducible assumption | grind [-Prod] | grind [-Prod] | grind [-Prod, o_bn, upd])
theorem l_Ld_append_b6 {n : Nat} {z : Int64 × Int32 × (Nat → Int64)} (hn : o_big ≤ n) (l0 : 0 ≤ z.2.1) : o_ok (o_lp n (m_Ld_append_b6 n) z) (fun q => q.1 ≠ 0 ∧ True) := by
  exact o_lpR (fun z => 0 ≤ z.2.1) (fun z => o_mu z.2.1) hn (o_muB) l0
    (fun z hz => by have l0 := hz; exact o_okW (s_Ld_append_b6 hn l0) (fun q hq => ⟨fun h => by have := hq.1 h; grind, hq.2⟩))
theorem s_Ld_append {n : Nat} {x1 : Int32} {r0 : (Nat → Int64)} (hn : o_big ≤ n) : o_ok (m_Ld_append n x1 r0) (fun r => True) := by
  unfold m_Ld_append
  refine o_okN (fun x2_2_1 ex2_2_1 => ?_)
  refine o_okB (l_Ld_append_b6  hn (by first | with_reducible exact True.intro | with_reducible assumption | grind [-Prod] | grind [-Prod] | grind [-Prod, o_bn, upd])) ?_
  intro q1_2 ⟨yq1_2, _⟩
  refine o_okS ?_
  trivial
theorem s_Ld_restReaches_b3 {n : Nat} {Ld : SLd} {z : Int32} (hn : o_big ≤ n) (l0 : z ≤ 6) : o_ok (m_Ld_restReaches_b3 n Ld z) (fun q => (q.1 = 0 → q.2 ≤ 6 ∧ o_nu q.2 < o_nu z) ∧ (q.1 ≠ 0 → (q.1 = 1 → 0 ≤ q.2 ∧ q.2 ≤ 6))) := by
  unfold m_Ld_restReaches_b3
  refine o_okI (fun c1 => ?_) (fun c1 => ?_)
  · refine o_okS ?_
    refine ⟨fun h => absurd (show (2 : Nat) = 0 from h) (by decide), fun _ => ?_⟩
    first | with_reducible exact True.intro | with_reducible assumption | grind [-Prod] | grind [-Prod] | grind [-Prod, o_bn, upd]
  · refine o_okG (o_inM (m := 7) rfl (by first | with_reducible exact True.intro | with_reducible assumption | grind [-Prod] | grind [-Prod] | grind [-Prod, o_bn, upd]) (by first | with_reducible exact True.intro | with_reducible assumption | grind [-Prod] | grind [-Prod] | grind [-Prod, o_bn, upd])) ?_
    refine o_okG (o_inM (m := 7) rfl (by first | with_reducible exact True.intro | with_reducible assumption | grind [-Prod] | grind [-Prod] | grind [-Prod, o_bn, upd]) (by first | with_reducible exact True.intro | with_reducible assumption | grind [-Prod] | grind [-Prod] | grind [-Prod, o_bn, upd])) ?_
    refine o_okI (fun c2 => ?_) (fun c2 => ?_)
    · refine o_okN (fun x1_45_3 ex1_45_3 => ?_)
      refine o_okS ?_
      refine ⟨fun _ => ?_, fun h => absurd rfl h⟩
      refine ⟨?_, ?_⟩
      · first | with_reducible exact True.intro | with_reducible assumption | grind [-Prod] | grind [-Prod] | grind [-Prod, o_bn, upd]
      · first | exact o_muL (by first | with_reducible exact True.intro | with_reducible assumption | grind [-Prod] | grind [-Prod] | grind [-Prod, o_bn, upd]) | exact o_nuL (by first | with_reducible exact True.intro | with_reducible assumption | grind [-Prod] | grind [-Prod] | grind [-Prod, o_bn, upd]) | (first | with_reducible exact True.intro | with_reducible assumption | grind [-Prod] | grind [-Prod] | grind [-Prod, o_bn, upd])
    · refine o_okS ?_
      refine ⟨fun h => absurd (show (1 : Nat) = 0 from h) (by decide), fun _ => ?_⟩
      first | with_reducible exact True.intro | with_reducible assumption | grind [-Prod] | grind [-Prod] | grind [-Prod, o_bn, upd]
theorem l_Ld_restReaches_b3 {n : Nat} {Ld : SLd} {z : Int32} (hn : o_big ≤ n) (l0 : z ≤ 6) : o_ok (o_lp n (m_Ld_restReaches_b3 n Ld) z) (fun q => q.1 ≠ 0 ∧ (q.1 = 1 → 0 ≤ q.2 ∧ q.2 ≤ 6)) := by
  exact o_lpR (fun z => z ≤ 6) (fun z => o_nu z) hn (o_nuB) l0
    (fun z hz => by have l0 := hz; exact o_okW (s_Ld_restReaches_b3 hn l0) (fun q hq => ⟨fun h => by have := hq.1 h; grind, hq.2⟩))
theorem s_Ld_restReaches {n : Nat} {Ld : SLd} (hn : o_big ≤ n) : o_ok (m_Ld_restReaches n Ld) (fun r => (r = 0 ∨ r = 1)) := by
  unfold m_Ld_restReaches
  refine o_okB (l_Ld_restReaches_b3  hn (by first | with_reducible exact True.intro | with_reducible assumption | grind [-Prod] | grind [-Prod] | grind [-Prod, o_bn, upd])) ?_
  intro q1_1 ⟨yq1_1, g2⟩
  refine o_okI (fun c3 => ?_) (fun c3 => ?_)
  · refine o_okG (o_inM (m := 7) rfl (by first | with_reducible exact True.intro | with_reducible assumption | grind [-Prod] | grind [-Prod] | grind [-Prod, o_bn, upd]) (by first | with_reducible exact True.intro | with_reducible assumption | grind [-Prod] | grind [-Prod] | grind [-Prod, o_bn, upd])) ?_
    refine o_okG (o_inM (m := 7) rfl (by first | with_reducible exact True.intro | with_reducible assumption | grind [-Prod] | grind [-Prod] | grind [-Prod, o_bn, upd]) (by first | with_reducible exact True.intro | with_reducible assumption | grind [-Prod] | grind [-Prod] | grind [-Prod, o_bn, upd])) ?_
    refine o_okI (fun c4 => ?_) (fun c4 => ?_)
    · refine o_okS ?_
      first | with_reducible exact True.intro | with_reducible assumption | grind [-Prod] | grind [-Prod] | grind [-Prod, o_bn, upd]
    · refine o_okS ?_
      first | with_reducible exact True.intro | with_reducible assumption | grind [-Prod] | grind [-Prod] | grind [-Prod, o_bn, upd]
  · refine o_okS ?_
    first | with_reducible exact True.intro | with_reducible assumption | grind [-Prod] | grind [-Prod] | grind [-Prod, o_bn, upd]
theorem s_Ld_reduce_b20 {n : Nat} {x1 : Int32} {z : Int64 × Int32 × SLd} (hn : o_big ≤ n) (l0 : 0 ≤ z.2.1) : o_ok (m_Ld_reduce_b20 n x1 z) (fun q => (q.1 = 0 → 0 ≤ q.2.2.1 ∧ o_mu q.2.2.1 < o_mu z.2.1) ∧ (q.1 ≠ 0 → True)) := by
  unfold m_Ld_reduce_b20
  refine o_okI (fun c1 => ?_) (fun c1 => ?_)
  · refine o_okS ?_
    refine ⟨fun h => absurd (show (1 : Nat) = 0 from h) (by decide), fun _ => ?_⟩
    trivial
  · refine o_okG (o_inM (m := 7) rfl (by first | with_reducible exact True.intro | with_reducible assumption | grind [-Prod] | grind [-Prod] | grind [-Prod, o_bn, upd]) (by first | with_reducible exact True.intro | with_reducible assumption | grind [-Prod] | grind [-Prod] | grind [-Prod, o_bn, upd])) ?_
    refine o_okG (o_inM (m := 7) rfl (by first | with_reducible exact True.intro | with_reducible assumption | grind [-Prod] | grind [-Prod] | grind [-Prod, o_bn, upd]) (by first | with_reducible exact True.intro | with_reducible assumption | grind [-Prod] | grind [-Prod] | grind [-Prod, o_bn, upd])) ?_
    refine o_okN (fun x5_44_2 ex5_44_2 => ?_)
    refine o_okI (fun c3 => ?_) (fun c3 => ?_)
    · unfold m_Ld_reduce_j58
      refine o_okI (fun c4 => ?_) (fun c4 => ?_)
      · refine o_okG (o_inM (m := 7) rfl (by first | with_reducible exact True.intro | with_reducible assumption | grind [-Prod] | grind [-Prod] | grind [-Prod, o_bn, upd]) (by first | with_reducible exact True.intro | with_reducible assumption | grind [-Prod] | grind [-Prod] | grind [-Prod, o_bn, upd])) ?_
        refine o_okN (fun x4_84_5 ex4_84_5 => ?_)
        refine o_okS ?_
        refine ⟨fun _ => ?_, fun h => absurd rfl h⟩
        refine ⟨?_, ?_⟩
        · first | with_reducible exact True.intro | with_reducible assumption | grind [-Prod] | grind [-Prod] | grind [-Prod, o_bn, upd]
        · first | exact o_muL (by first | with_reducible exact True.intro | with_reducible assumption | grind [-Prod] | grind [-Prod] | grind [-Prod, o_bn, upd]) | exact o_nuL (by first | with_reducible exact True.intro | with_reducible assumption | grind [-Prod] | grind [-Prod] | grind [-Prod, o_bn, upd]) | (first | with_reducible exact True.intro | with_reducible assumption | grind [-Prod] | grind [-Prod] | grind [-Prod, o_bn, upd])
      · refine o_okG (o_inM (m := 7) rfl (by first | with_reducible exact True.intro | with_reducible assumption | grind [-Prod] | grind [-Prod] | grind [-Prod, o_bn, upd]) (by first | with_reducible exact True.intro | with_reducible assumption | grind [-Prod] | grind [-Prod] | grind [-Prod, o_bn, upd])) ?_
        refine o_okN (fun x4_84_6 ex4_84_6 => ?_)
        refine o_okS ?_
        refine ⟨fun _ => ?_, fun h => absurd rfl h⟩
        refine ⟨?_, ?_⟩
        · first | with_reducible exact True.intro | with_reducible assumption | grind [-Prod] | grind [-Prod] | grind [-Prod, o_bn, upd]
        · first | exact o_muL (by first | with_reducible exact True.intro | with_reducible assumption | grind [-Prod] | grind [-Prod] | grind [-Prod, o_bn, upd]) | exact o_nuL (by first | with_reducible exact True.intro | with_reducible assumption | grind [-Prod] | grind [-Prod] | grind [-Prod, o_bn, upd]) | (first | with_reducible exact True.intro | with_reducible assumption | grind [-Prod] | grind [-Prod] | grind [-Prod, o_bn, upd])
    · unfold m_Ld_reduce_j58
      refine o_okI (fun c7 => ?_) (fun c7 => ?_)
      · refine o_okG (o_inM (m := 7) rfl (by first | with_reducible exact True.intro | with_reducible assumption | grind [-Prod] | grind [-Prod] | grind [-Prod, o_bn, upd]) (by first | with_reducible exact True.intro | with_reducible assumption | grind [-Prod] | grind [-Prod] | grind [-Prod, o_bn, upd])) ?_
        refine o_okN (fun x4_84_8 ex4_84_8 => ?_)
        refine o_okS ?_
        refine ⟨fun _ => ?_, fun h => absurd rfl h⟩
        refine ⟨?_, ?_⟩
        · first | with_reducible exact True.intro | with_reducible assumption | grind [-Prod] | grind [-Prod] | grind [-Prod, o_bn, upd]
        · first | exact o_muL (by first | with_reducible exact True.intro | with_reducible assumption | grind [-Prod] | grind [-Prod] | grind [-Prod, o_bn, upd]) | exact o_nuL (by first | with_reducible exact True.intro | with_reducible assumption | grind [-Prod] | grind [-Prod] | grind [-Prod, o_bn, upd]) | (first | with_reducible exact True.intro | with_reducible assumption | grind [-Prod] | grind [-Prod] | grind [-Prod, o_bn, upd])
      · refine o_okG (o_inM (m := 7) rfl (by first | with_reducible exact True.intro | with_reducible assumption | grind [-Prod] | grind [-Prod] | grind [-Prod, o_bn, upd]) (by first | with_reducible exact True.intro | with_reducible assumption | grind [-Prod] | grind [-Prod] | grind [-Prod, o_bn, upd])) ?_
        refine o_okN (fun x4_84_9 ex4_84_9 => ?_)
        refine o_okS ?_
        refine ⟨fun _ => ?_, fun h => absurd rfl h⟩
        refine ⟨?_, ?_⟩
        · first | with_reducible exact True.intro | with_reducible assumption | grind [-Prod] | grind [-Prod] | grind [-Prod, o_bn, upd]
        · first | exact o_muL (by first | with_reducible exact True.intro | with_reducible assumption | grind [-Prod] | grind [-Prod] | grind [-Prod, o_bn, upd]) | exact o_nuL (by first | with_reducible exact True.intro | with_reducible assumption | grind [-Prod] | grind [-Prod] | grind [-Prod, o_bn, upd]) | (first | with_reducible exact True.intro | with_reducible assumption | grind [-Prod] | grind [-Prod] | grind [-Prod, o_bn, upd])
theorem l_Ld_reduce_b20 {n : Nat} {x1 : Int32} {z : Int64 × Int32 × SLd} (hn : o_big ≤ n) (l0 : 0 ≤ z.2.1) : o_ok (o_lp n (m_Ld_reduce_b20 n x1) z) (fun q => q.1 ≠ 0 ∧ True) := by
  exact o_lpR (fun z => 0 ≤ z.2.1) (fun z => o_mu z.2.1) hn (o_muB) l0
    (fun z hz => by have l0 := hz; exact o_okW (s_Ld_reduce_b20 hn l0) (fun q hq => ⟨fun h => by have := hq.1 h; grind, hq.2⟩))
theorem s_Ld_reduce_b2 {n : Nat} {z : Int32 × SLd} (hn : o_big ≤ n) (l0 : 0 ≤ z.1) : o_ok (m_Ld_reduce_b2 n z) (fun q => (q.1 = 0 → 0 ≤ q.2.1 ∧ o_mu q.2.1 < o_mu z.1) ∧ (q.1 ≠ 0 → True)) := by
  unfold m_Ld_reduce_b2
  refine o_okI (fun c1 => ?_) (fun c1 => ?_)
  · refine o_okS ?_
    refine ⟨fun h => absurd (show (1 : Nat) = 0 from h) (by decide), fun _ => ?_⟩
    trivial
  · refine o_okB (s_Ld_restReaches  hn) ?_
    intro q1_2 g3
    refine o_okI (fun c4 => ?_) (fun c4 => ?_)
    · refine o_okS ?_
      refine ⟨fun h => absurd (show (1 : Nat) = 0 from h) (by decide), fun _ => ?_⟩
      trivial
    · refine o_okB (l_Ld_reduce_b20  hn (by first | with_reducible exact True.intro | with_reducible assumption | grind [-Prod] | grind [-Prod] | grind [-Prod, o_bn, upd])) ?_
      intro q2_5 ⟨yq2_5, _⟩
      refine o_okN (fun x1_90_6 ex1_90_6 => ?_)
      refine o_okS ?_
      refine ⟨fun _ => ?_, fun h => absurd rfl h⟩
      refine ⟨?_, ?_⟩
      · first | with_reducible exact True.intro | with_reducible assumption | grind [-Prod] | grind [-Prod] | grind [-Prod, o_bn, upd]
      · first | exact o_muL (by first | with_reducible exact True.intro | with_reducible assumption | grind [-Prod] | grind [-Prod] | grind [-Prod, o_bn, upd]) | exact o_nuL (by first | with_reducible exact True.intro | with_reducible assumption | grind [-Prod] | grind [-Prod] | grind [-Prod, o_bn, upd]) | (first | with_reducible exact True.intro | with_reducible assumption | grind [-Prod] | grind [-Prod] | grind [-Prod, o_bn, upd])
theorem l_Ld_reduce_b2 {n : Nat} {z : Int32 × SLd} (hn : o_big ≤ n) (l0 : 0 ≤ z.1) : o_ok (o_lp n (m_Ld_reduce_b2 n) z) (fun q => q.1 ≠ 0 ∧ True) := by
  exact o_lpR (fun z => 0 ≤ z.1) (fun z => o_mu z.1) hn (o_muB) l0
    (fun z hz => by have l0 := hz; exact o_okW (s_Ld_reduce_b2 hn l0) (fun q hq => ⟨fun h => by have := hq.1 h; grind, hq.2⟩))
theorem s_Ld_reduce {n : Nat} {Ld : SLd} (hn : o_big ≤ n) : o_ok (m_Ld_reduce n Ld) (fun r => True) := by
  unfold m_Ld_reduce
  refine o_okB (l_Ld_reduce_b2  hn (by first | with_reducible exact True.intro | with_reducible assumption | grind [-Prod] | grind [-Prod] | grind [-Prod, o_bn, upd])) ?_
  intro q3_1 ⟨yq3_1, _⟩
  refine o_okS ?_
  trivial
theorem s_Ld_isZero_b2 {n : Nat} {Ld : SLd} {z : Int32} (hn : o_big ≤ n) (l0 : 0 ≤ z) : o_ok (m_Ld_isZero_b2 n Ld z) (fun q => (q.1 = 0 → 0 ≤ q.2 ∧ o_mu q.2 < o_mu z) ∧ (q.1 ≠ 0 → True)) := by
  unfold m_Ld_isZero_b2
  refine o_okI (fun c1 => ?_) (fun c1 => ?_)
  · refine o_okS ?_
    refine ⟨fun h => absurd (show (2 : Nat) = 0 from h) (by decide), fun _ => ?_⟩
    trivial
  · refine o_okG (o_inM (m := 7) rfl (by first | with_reducible exact True.intro | with_reducible assumption | grind [-Prod] | grind [-Prod] | grind [-Prod, o_bn, upd]) (by first | with_reducible exact True.intro | with_reducible assumption | grind [-Prod] | grind [-Prod] | grind [-Prod, o_bn, upd])) ?_
    refine o_okI (fun c2 => ?_) (fun c2 => ?_)
    · refine o_okN (fun x1_21_3 ex1_21_3 => ?_)
      refine o_okS ?_
      refine ⟨fun _ => ?_, fun h => absurd rfl h⟩
      refine ⟨?_, ?_⟩
      · first | with_reducible exact True.intro | with_reducible assumption | grind [-Prod] | grind [-Prod] | grind [-Prod, o_bn, upd]
      · first | exact o_muL (by first | with_reducible exact True.intro | with_reducible assumption | grind [-Prod] | grind [-Prod] | grind [-Prod, o_bn, upd]) | exact o_nuL (by first | with_reducible exact True.intro | with_reducible assumption | grind [-Prod] | grind [-Prod] | grind [-Prod, o_bn, upd]) | (first | with_reducible exact True.intro | with_reducible assumption | grind [-Prod] | grind [-Prod] | grind [-Prod, o_bn, upd])
    · refine o_okS ?_
      refine ⟨fun h => absurd (show (1 : Nat) = 0 from h) (by decide), fun _ => ?_⟩
      trivial
theorem l_Ld_isZero_b2 {n : Nat} {Ld : SLd} {z : Int32} (hn : o_big ≤ n) (l0 : 0 ≤ z) : o_ok (o_lp n (m_Ld_isZero_b2 n Ld) z) (fun q => q.1 ≠ 0 ∧ True) := by
  exact o_lpR (fun z => 0 ≤ z) (fun z => o_mu z) hn (o_muB) l0
    (fun z hz => by have l0 := hz; exact o_okW (s_Ld_isZero_b2 hn l0) (fun q hq => ⟨fun h => by have := hq.1 h; grind, hq.2⟩))
theorem s_Ld_isZero {n : Nat} {Ld : SLd} (hn : o_big ≤ n) : o_ok (m_Ld_isZero n Ld) (fun r => (r = 0 ∨ r = 1)) := by
  unfold m_Ld_isZero
  refine o_okB (l_Ld_isZero_b2  hn (by first | with_reducible exact True.intro | with_reducible assumption | grind [-Prod] | grind [-Prod] | grind [-Prod, o_bn, upd])) ?_
  intro q1_1 ⟨yq1_1, _⟩
  refine o_okI (fun c2 => ?_) (fun c2 => ?_)
  · refine o_okS ?_
    first | with_reducible exact True.intro | with_reducible assumption | grind [-Prod] | grind [-Prod] | grind [-Prod, o_bn, upd]
  · refine o_okS ?_
    first | with_reducible exact True.intro | with_reducible assumption | grind [-Prod] | grind [-Prod] | grind [-Prod, o_bn, upd]
theorem s_Ld_divides_b43 {n : Nat} {x2 : Int32} {x4 : Int32} {x5 : Int32} {a1 : STx} {a3 : STx} {z : Int32 × SLd} (hn : o_big ≤ n) (h_a1 : I_Tx a1) (h_a3 : I_Tx a3) (l0 : 0 ≤ z.1) : o_ok (m_Ld_divides_b43 n x2 x4 x5 a1 a3 z) (fun q => (q.1 = 0 → 0 ≤ q.2.1 ∧ o_mu q.2.1 < o_mu z.1) ∧ (q.1 ≠ 0 → True)) := by
  unfold m_Ld_divides_b43
  refine o_okB (s_Tx_size  h_a1) ?_
  intro q5_1 g2
  refine o_okI (fun c3 => ?_) (fun c3 => ?_)
  · refine o_okS ?_
    refine ⟨fun h => absurd (show (1 : Nat) = 0 from h) (by decide), fun _ => ?_⟩
    trivial
  · refine o_okB (s_Tx_cell  h_a1) ?_
    intro q6_4 g5
    refine o_okB (s_Ld_append  hn) ?_
    intro q7_6 _
    refine o_okN (fun x6_67_7 ex6_67_7 => ?_)
    refine o_okS ?_
    refine ⟨fun _ => ?_, fun h => absurd rfl h⟩
    refine ⟨?_, ?_⟩
    · first | with_reducible exact True.intro | with_reducible assumption | grind [-Prod] | grind [-Prod, → sc_Tx] | grind [-Prod, I_Tx, o_bn, upd]
    · first | exact o_muL (by first | with_reducible exact True.intro | with_reducible assumption | grind [-Prod] | grind [-Prod, → sc_Tx] | grind [-Prod, I_Tx, o_bn, upd]) | exact o_nuL (by first | with_reducible exact True.intro | with_reducible assumption | grind [-Prod] | grind [-Prod, → sc_Tx] | grind [-Prod, I_Tx, o_bn, upd]) | (first | with_reducible exact True.intro | with_reducible assumption | grind [-Prod] | grind [-Prod, → sc_Tx] | grind [-Prod, I_Tx, o_bn, upd])
theorem l_Ld_divides_b43 {n : Nat} {x2 : Int32} {x4 : Int32} {x5 : Int32} {a1 : STx} {a3 : STx} {z : Int32 × SLd} (hn : o_big ≤ n) (h_a1 : I_Tx a1) (h_a3 : I_Tx a3) (l0 : 0 ≤ z.1) : o_ok (o_lp n (m_Ld_divides_b43 n x2 x4 x5 a1 a3) z) (fun q => q.1 ≠ 0 ∧ True) := by
  exact o_lpR (fun z => 0 ≤ z.1) (fun z => o_mu z.1) hn (o_muB) l0
    (fun z hz => by have l0 := hz; exact o_okW (s_Ld_divides_b43 hn h_a1 h_a3 l0) (fun q hq => ⟨fun h => by have := hq.1 h; grind, hq.2⟩))
theorem s_Ld_divides_b101 {n : Nat} {x4 : Int32} {x6 : Int32} {a1 : STx} {a3 : STx} {z : Int32 × SLd} (hn : o_big ≤ n) (h_a1 : I_Tx a1) (h_a3 : I_Tx a3) (l0 : 0 ≤ z.1) : o_ok (m_Ld_divides_b101 n x4 x6 a1 a3 z) (fun q => (q.1 = 0 → 0 ≤ q.2.1 ∧ o_mu q.2.1 < o_mu z.1) ∧ (q.1 ≠ 0 → True)) := by
  unfold m_Ld_divides_b101
  refine o_okI (fun c1 => ?_) (fun c1 => ?_)
  · refine o_okS ?_
    refine ⟨fun h => absurd (show (1 : Nat) = 0 from h) (by decide), fun _ => ?_⟩
    trivial
  · refine o_okB (s_Tx_cell  h_a3) ?_
    intro q11_2 g3
    refine o_okB (s_Ld_append  hn) ?_
    intro q12_4 _
    refine o_okB (s_Ld_reduce  hn) ?_
    intro q13_5 _
    refine o_okN (fun x7_127_6 ex7_127_6 => ?_)
    refine o_okS ?_
    refine ⟨fun _ => ?_, fun h => absurd rfl h⟩
    refine ⟨?_, ?_⟩
    · first | with_reducible exact True.intro | with_reducible assumption | grind [-Prod] | grind [-Prod, → sc_Tx] | grind [-Prod, I_Tx, o_bn, upd]
    · first | exact o_muL (by first | with_reducible exact True.intro | with_reducible assumption | grind [-Prod] | grind [-Prod, → sc_Tx] | grind [-Prod, I_Tx, o_bn, upd]) | exact o_nuL (by first | with_reducible exact True.intro | with_reducible assumption | grind [-Prod] | grind [-Prod, → sc_Tx] | grind [-Prod, I_Tx, o_bn, upd]) | (first | with_reducible exact True.intro | with_reducible assumption | grind [-Prod] | grind [-Prod, → sc_Tx] | grind [-Prod, I_Tx, o_bn, upd])
theorem l_Ld_divides_b101 {n : Nat} {x4 : Int32} {x6 : Int32} {a1 : STx} {a3 : STx} {z : Int32 × SLd} (hn : o_big ≤ n) (h_a1 : I_Tx a1) (h_a3 : I_Tx a3) (l0 : 0 ≤ z.1) : o_ok (o_lp n (m_Ld_divides_b101 n x4 x6 a1 a3) z) (fun q => q.1 ≠ 0 ∧ True) := by
  exact o_lpR (fun z => 0 ≤ z.1) (fun z => o_mu z.1) hn (o_muB) l0
    (fun z hz => by have l0 := hz; exact o_okW (s_Ld_divides_b101 hn h_a1 h_a3 l0) (fun q hq => ⟨fun h => by have := hq.1 h; grind, hq.2⟩))
theorem s_Ld_divides {n : Nat} {x2 : Int32} {x4 : Int32} {a1 : STx} {a3 : STx} {Ld : SLd} (hn : o_big ≤ n) (h_a1 : I_Tx a1) (h_a3 : I_Tx a3) : o_ok (m_Ld_divides n x2 x4 a1 a3 Ld) (fun r => (r.1 = 0 ∨ r.1 = 1)) := by
  unfold m_Ld_divides
  refine o_okB (s_Tx_exponent  h_a3) ?_
  intro q1_1 _
  refine o_okB (s_Tx_exponent  h_a1) ?_
  intro q2_2 _
  refine o_okN (fun x5_12_3 ex5_12_3 => ?_)
  refine o_okB (s_Tx_size  h_a3) ?_
  intro q3_4 g5
  refine o_okI (fun c6 => ?_) (fun c6 => ?_)
  · refine o_okS ?_
    first | with_reducible exact True.intro | with_reducible assumption | grind [-Prod] | grind [-Prod, → sc_Tx] | grind [-Prod, I_Tx, o_bn, upd]
  · refine o_okI (fun c7 => ?_) (fun c7 => ?_)
    · refine o_okB (s_JA_fill_1  hn) ?_
      intro q4_8 _
      refine o_okB (l_Ld_divides_b43  hn h_a1 h_a3 (by first | with_reducible exact True.intro | with_reducible assumption | grind [-Prod] | grind [-Prod, → sc_Tx] | grind [-Prod, I_Tx, o_bn, upd])) ?_
      intro q8_9 ⟨yq8_9, _⟩
      refine o_okB (s_JA_fill_1  hn) ?_
      intro q9_10 _
      refine o_okB (s_Tx_size  h_a3) ?_
      intro q10_11 g12
      refine o_okN (fun x6_96_13 ex6_96_13 => ?_)
      refine o_okB (l_Ld_divides_b101  hn h_a1 h_a3 (by first | with_reducible exact True.intro | with_reducible assumption | grind [-Prod] | grind [-Prod, → sc_Tx] | grind [-Prod, I_Tx, o_bn, upd])) ?_
      intro q14_14 ⟨yq14_14, _⟩
      refine o_okB (s_Ld_isZero  hn) ?_
      intro q15_15 g16
      refine o_okG (o_zbM (by first | with_reducible exact True.intro | with_reducible assumption | grind [-Prod] | grind [-Prod, → sc_Tx] | grind [-Prod, I_Tx, o_bn, upd])) ?_
      refine o_okS ?_
      first | with_reducible exact True.intro | with_reducible assumption | grind [-Prod] | grind [-Prod, → sc_Tx] | grind [-Prod, I_Tx, o_bn, upd]
    · refine o_okS ?_
      first | with_reducible exact True.intro | with_reducible assumption | grind [-Prod] | grind [-Prod, → sc_Tx] | grind [-Prod, I_Tx, o_bn, upd]
theorem s_Jd_allDiffer_b38 {n : Nat} {x1 : Int32} {x2 : Int32} {x3 : Int32} {T1 : STx} {z : Int32 × Int32} (hn : o_big ≤ n) (h_T1 : I_Tx T1) (l0 : 0 ≤ z.2) : o_ok (m_Jd_allDiffer_b38 n x1 x2 x3 T1 z) (fun q => (q.1 = 0 → 0 ≤ q.2.2 ∧ o_mu q.2.2 < o_mu z.2) ∧ (q.1 ≠ 0 → True)) := by
  unfold m_Jd_allDiffer_b38
  refine o_okB (s_Tx_size  h_T1) ?_
  intro q4_1 g2
  refine o_okI (fun c3 => ?_) (fun c3 => ?_)
  · refine o_okS ?_
    refine ⟨fun h => absurd (show (2 : Nat) = 0 from h) (by decide), fun _ => ?_⟩
    trivial
  · refine o_okB (s_Tx_same hn (by decide) h_T1 h_T1) ?_
    intro q5_4 g5
    refine o_okI (fun c6 => ?_) (fun c6 => ?_)
    · refine o_okB (s_Tx_nextChild  h_T1) ?_
      intro q6_7 _
      refine o_okN (fun x5_82_8 ex5_82_8 => ?_)
      refine o_okS ?_
      refine ⟨fun _ => ?_, fun h => absurd rfl h⟩
      refine ⟨?_, ?_⟩
      · first | with_reducible exact True.intro | with_reducible assumption | grind [-Prod] | grind [-Prod, → sc_Tx] | grind [-Prod, I_Tx, o_bn, upd]
      · first | exact o_muL (by first | with_reducible exact True.intro | with_reducible assumption | grind [-Prod] | grind [-Prod, → sc_Tx] | grind [-Prod, I_Tx, o_bn, upd]) | exact o_nuL (by first | with_reducible exact True.intro | with_reducible assumption | grind [-Prod] | grind [-Prod, → sc_Tx] | grind [-Prod, I_Tx, o_bn, upd]) | (first | with_reducible exact True.intro | with_reducible assumption | grind [-Prod] | grind [-Prod, → sc_Tx] | grind [-Prod, I_Tx, o_bn, upd])
    · refine o_okS ?_
      refine ⟨fun h => absurd (show (1 : Nat) = 0 from h) (by decide), fun _ => ?_⟩
      trivial
theorem l_Jd_allDiffer_b38 {n : Nat} {x1 : Int32} {x2 : Int32} {x3 : Int32} {T1 : STx} {z : Int32 × Int32} (hn : o_big ≤ n) (h_T1 : I_Tx T1) (l0 : 0 ≤ z.2) : o_ok (o_lp n (m_Jd_allDiffer_b38 n x1 x2 x3 T1) z) (fun q => q.1 ≠ 0 ∧ True) := by
  exact o_lpR (fun z => 0 ≤ z.2) (fun z => o_mu z.2) hn (o_muB) l0
    (fun z hz => by have l0 := hz; exact o_okW (s_Jd_allDiffer_b38 hn h_T1 l0) (fun q hq => ⟨fun h => by have := hq.1 h; grind, hq.2⟩))
theorem s_Jd_allDiffer_b11 {n : Nat} {x1 : Int32} {T1 : STx} {z : Int32 × Int32} (hn : o_big ≤ n) (h_T1 : I_Tx T1) (l0 : 0 ≤ z.2) : o_ok (m_Jd_allDiffer_b11 n x1 T1 z) (fun q => (q.1 = 0 → 0 ≤ q.2.2 ∧ o_mu q.2.2 < o_mu z.2) ∧ (q.1 ≠ 0 → True)) := by
  unfold m_Jd_allDiffer_b11
  refine o_okB (s_Tx_size  h_T1) ?_
  intro q2_1 g2
  refine o_okI (fun c3 => ?_) (fun c3 => ?_)
  · refine o_okS ?_
    refine ⟨fun h => absurd (show (2 : Nat) = 0 from h) (by decide), fun _ => ?_⟩
    trivial
  · refine o_okB (s_Tx_nextChild  h_T1) ?_
    intro q3_4 _
    refine o_okN (fun x5_36_5 ex5_36_5 => ?_)
    refine o_okB (l_Jd_allDiffer_b38  hn h_T1 (by first | with_reducible exact True.intro | with_reducible assumption | grind [-Prod] | grind [-Prod, → sc_Tx] | grind [-Prod, I_Tx, o_bn, upd])) ?_
    intro q7_6 ⟨yq7_6, _⟩
    refine o_okI (fun c7 => ?_) (fun c7 => ?_)
    · refine o_okS ?_
      refine ⟨fun h => absurd (show (1 : Nat) = 0 from h) (by decide), fun _ => ?_⟩
      trivial
    · refine o_okB (s_Tx_nextChild  h_T1) ?_
      intro q8_8 _
      refine o_okN (fun x3_97_9 ex3_97_9 => ?_)
      refine o_okS ?_
      refine ⟨fun _ => ?_, fun h => absurd rfl h⟩
      refine ⟨?_, ?_⟩
      · first | with_reducible exact True.intro | with_reducible assumption | grind [-Prod] | grind [-Prod, → sc_Tx] | grind [-Prod, I_Tx, o_bn, upd]
      · first | exact o_muL (by first | with_reducible exact True.intro | with_reducible assumption | grind [-Prod] | grind [-Prod, → sc_Tx] | grind [-Prod, I_Tx, o_bn, upd]) | exact o_nuL (by first | with_reducible exact True.intro | with_reducible assumption | grind [-Prod] | grind [-Prod, → sc_Tx] | grind [-Prod, I_Tx, o_bn, upd]) | (first | with_reducible exact True.intro | with_reducible assumption | grind [-Prod] | grind [-Prod, → sc_Tx] | grind [-Prod, I_Tx, o_bn, upd])
theorem l_Jd_allDiffer_b11 {n : Nat} {x1 : Int32} {T1 : STx} {z : Int32 × Int32} (hn : o_big ≤ n) (h_T1 : I_Tx T1) (l0 : 0 ≤ z.2) : o_ok (o_lp n (m_Jd_allDiffer_b11 n x1 T1) z) (fun q => q.1 ≠ 0 ∧ True) := by
  exact o_lpR (fun z => 0 ≤ z.2) (fun z => o_mu z.2) hn (o_muB) l0
    (fun z hz => by have l0 := hz; exact o_okW (s_Jd_allDiffer_b11 hn h_T1 l0) (fun q hq => ⟨fun h => by have := hq.1 h; grind, hq.2⟩))
theorem s_Jd_allDiffer {n : Nat} {x1 : Int32} {T1 : STx} (hn : o_big ≤ n) (h_T1 : I_Tx T1) : o_ok (m_Jd_allDiffer n x1 T1) (fun r => (r = 0 ∨ r = 1)) := by
  unfold m_Jd_allDiffer
  refine o_okB (s_Tx_firstChild  h_T1) ?_
  intro q1_1 _
  refine o_okB (l_Jd_allDiffer_b11  hn h_T1 (by first | with_reducible exact True.intro | with_reducible assumption | grind [-Prod] | grind [-Prod, → sc_Tx] | grind [-Prod, I_Tx, o_bn, upd])) ?_
  intro q9_2 ⟨yq9_2, _⟩
  refine o_okI (fun c3 => ?_) (fun c3 => ?_)
  · refine o_okS ?_
    first | with_reducible exact True.intro | with_reducible assumption | grind [-Prod] | grind [-Prod, → sc_Tx] | grind [-Prod, I_Tx, o_bn, upd]
  · refine o_okS ?_
    first | with_reducible exact True.intro | with_reducible assumption | grind [-Prod] | grind [-Prod, → sc_Tx] | grind [-Prod, I_Tx, o_bn, upd]
theorem s_Jd_hasAll_b12 {n : Nat} {x1 : Int32} {x2 : Int32} {T0 : STx} {T1 : STx} {z : Int32 × Int32} (hn : o_big ≤ n) (h_T0 : I_Tx T0) (h_T1 : I_Tx T1) (l0 : 0 ≤ z.2) : o_ok (m_Jd_hasAll_b12 n x1 x2 T0 T1 z) (fun q => (q.1 = 0 → 0 ≤ q.2.2 ∧ o_mu q.2.2 < o_mu z.2) ∧ (q.1 ≠ 0 → True)) := by
  unfold m_Jd_hasAll_b12
  refine o_okB (s_Tx_size  h_T0) ?_
  intro q2_1 g2
  refine o_okI (fun c3 => ?_) (fun c3 => ?_)
  · refine o_okS ?_
    refine ⟨fun h => absurd (show (2 : Nat) = 0 from h) (by decide), fun _ => ?_⟩
    trivial
  · refine o_okB (s_Tx_member  hn h_T1 h_T0) ?_
    intro q3_4 _
    refine o_okI (fun c5 => ?_) (fun c5 => ?_)
    · refine o_okS ?_
      refine ⟨fun h => absurd (show (1 : Nat) = 0 from h) (by decide), fun _ => ?_⟩
      trivial
    · refine o_okB (s_Tx_nextChild  h_T0) ?_
      intro q4_6 _
      refine o_okN (fun x4_53_7 ex4_53_7 => ?_)
      refine o_okS ?_
      refine ⟨fun _ => ?_, fun h => absurd rfl h⟩
      refine ⟨?_, ?_⟩
      · first | with_reducible exact True.intro | with_reducible assumption | grind [-Prod] | grind [-Prod, → sc_Tx] | grind [-Prod, I_Tx, o_bn, upd]
      · first | exact o_muL (by first | with_reducible exact True.intro | with_reducible assumption | grind [-Prod] | grind [-Prod, → sc_Tx] | grind [-Prod, I_Tx, o_bn, upd]) | exact o_nuL (by first | with_reducible exact True.intro | with_reducible assumption | grind [-Prod] | grind [-Prod, → sc_Tx] | grind [-Prod, I_Tx, o_bn, upd]) | (first | with_reducible exact True.intro | with_reducible assumption | grind [-Prod] | grind [-Prod, → sc_Tx] | grind [-Prod, I_Tx, o_bn, upd])
theorem l_Jd_hasAll_b12 {n : Nat} {x1 : Int32} {x2 : Int32} {T0 : STx} {T1 : STx} {z : Int32 × Int32} (hn : o_big ≤ n) (h_T0 : I_Tx T0) (h_T1 : I_Tx T1) (l0 : 0 ≤ z.2) : o_ok (o_lp n (m_Jd_hasAll_b12 n x1 x2 T0 T1) z) (fun q => q.1 ≠ 0 ∧ True) := by
  exact o_lpR (fun z => 0 ≤ z.2) (fun z => o_mu z.2) hn (o_muB) l0
    (fun z hz => by have l0 := hz; exact o_okW (s_Jd_hasAll_b12 hn h_T0 h_T1 l0) (fun q hq => ⟨fun h => by have := hq.1 h; grind, hq.2⟩))
theorem s_Jd_hasAll {n : Nat} {x1 : Int32} {x2 : Int32} {T0 : STx} {T1 : STx} (hn : o_big ≤ n) (h_T0 : I_Tx T0) (h_T1 : I_Tx T1) : o_ok (m_Jd_hasAll n x1 x2 T0 T1) (fun r => (r = 0 ∨ r = 1)) := by
  unfold m_Jd_hasAll
  refine o_okB (s_Tx_firstChild  h_T0) ?_
  intro q1_1 _
  refine o_okB (l_Jd_hasAll_b12  hn h_T0 h_T1 (by first | with_reducible exact True.intro | with_reducible assumption | grind [-Prod] | grind [-Prod, → sc_Tx] | grind [-Prod, I_Tx, o_bn, upd])) ?_
  intro q5_2 ⟨yq5_2, _⟩
  refine o_okI (fun c3 => ?_) (fun c3 => ?_)
  · refine o_okS ?_
    first | with_reducible exact True.intro | with_reducible assumption | grind [-Prod] | grind [-Prod, → sc_Tx] | grind [-Prod, I_Tx, o_bn, upd]
  · refine o_okS ?_
    first | with_reducible exact True.intro | with_reducible assumption | grind [-Prod] | grind [-Prod, → sc_Tx] | grind [-Prod, I_Tx, o_bn, upd]
theorem s_Jd_hasDependents_b12 {n : Nat} {x1 : Int32} {x2 : Int32} {T0 : STx} {T1 : STx} {z : Int32 × Int32} (hn : o_big ≤ n) (h_T0 : I_Tx T0) (h_T1 : I_Tx T1) (l0 : 0 ≤ z.2) : o_ok (m_Jd_hasDependents_b12 n x1 x2 T0 T1 z) (fun q => (q.1 = 0 → 0 ≤ q.2.2 ∧ o_mu q.2.2 < o_mu z.2) ∧ (q.1 ≠ 0 → True)) := by
  unfold m_Jd_hasDependents_b12
  refine o_okB (s_Tx_size  h_T0) ?_
  intro q2_1 g2
  refine o_okI (fun c3 => ?_) (fun c3 => ?_)
  · refine o_okS ?_
    refine ⟨fun h => absurd (show (2 : Nat) = 0 from h) (by decide), fun _ => ?_⟩
    trivial
  · refine o_okB (s_Tx_member  hn h_T1 h_T0) ?_
    intro q3_4 _
    refine o_okI (fun c5 => ?_) (fun c5 => ?_)
    · unfold m_Jd_hasDependents_j55
      refine o_okB (s_Tx_nextChild  h_T0) ?_
      intro q4_6 _
      refine o_okN (fun x4_64_7 ex4_64_7 => ?_)
      refine o_okS ?_
      refine ⟨fun _ => ?_, fun h => absurd rfl h⟩
      refine ⟨?_, ?_⟩
      · first | with_reducible exact True.intro | with_reducible assumption | grind [-Prod] | grind [-Prod, → sc_Tx] | grind [-Prod, I_Tx, o_bn, upd]
      · first | exact o_muL (by first | with_reducible exact True.intro | with_reducible assumption | grind [-Prod] | grind [-Prod, → sc_Tx] | grind [-Prod, I_Tx, o_bn, upd]) | exact o_nuL (by first | with_reducible exact True.intro | with_reducible assumption | grind [-Prod] | grind [-Prod, → sc_Tx] | grind [-Prod, I_Tx, o_bn, upd]) | (first | with_reducible exact True.intro | with_reducible assumption | grind [-Prod] | grind [-Prod, → sc_Tx] | grind [-Prod, I_Tx, o_bn, upd])
    · refine o_okB (s_Jd_hasAll  hn h_T0 h_T1) ?_
      intro q5_8 g9
      refine o_okI (fun c10 => ?_) (fun c10 => ?_)
      · refine o_okS ?_
        refine ⟨fun h => absurd (show (1 : Nat) = 0 from h) (by decide), fun _ => ?_⟩
        trivial
      · unfold m_Jd_hasDependents_j55
        refine o_okB (s_Tx_nextChild  h_T0) ?_
        intro q4_11 _
        refine o_okN (fun x4_64_12 ex4_64_12 => ?_)
        refine o_okS ?_
        refine ⟨fun _ => ?_, fun h => absurd rfl h⟩
        refine ⟨?_, ?_⟩
        · first | with_reducible exact True.intro | with_reducible assumption | grind [-Prod] | grind [-Prod, → sc_Tx] | grind [-Prod, I_Tx, o_bn, upd]
        · first | exact o_muL (by first | with_reducible exact True.intro | with_reducible assumption | grind [-Prod] | grind [-Prod, → sc_Tx] | grind [-Prod, I_Tx, o_bn, upd]) | exact o_nuL (by first | with_reducible exact True.intro | with_reducible assumption | grind [-Prod] | grind [-Prod, → sc_Tx] | grind [-Prod, I_Tx, o_bn, upd]) | (first | with_reducible exact True.intro | with_reducible assumption | grind [-Prod] | grind [-Prod, → sc_Tx] | grind [-Prod, I_Tx, o_bn, upd])
theorem l_Jd_hasDependents_b12 {n : Nat} {x1 : Int32} {x2 : Int32} {T0 : STx} {T1 : STx} {z : Int32 × Int32} (hn : o_big ≤ n) (h_T0 : I_Tx T0) (h_T1 : I_Tx T1) (l0 : 0 ≤ z.2) : o_ok (o_lp n (m_Jd_hasDependents_b12 n x1 x2 T0 T1) z) (fun q => q.1 ≠ 0 ∧ True) := by
  exact o_lpR (fun z => 0 ≤ z.2) (fun z => o_mu z.2) hn (o_muB) l0
    (fun z hz => by have l0 := hz; exact o_okW (s_Jd_hasDependents_b12 hn h_T0 h_T1 l0) (fun q hq => ⟨fun h => by have := hq.1 h; grind, hq.2⟩))
theorem s_Jd_hasDependents {n : Nat} {x1 : Int32} {x2 : Int32} {T0 : STx} {T1 : STx} (hn : o_big ≤ n) (h_T0 : I_Tx T0) (h_T1 : I_Tx T1) : o_ok (m_Jd_hasDependents n x1 x2 T0 T1) (fun r => (r = 0 ∨ r = 1)) := by
  unfold m_Jd_hasDependents
  refine o_okB (s_Tx_firstChild  h_T0) ?_
  intro q1_1 _
  refine o_okB (l_Jd_hasDependents_b12  hn h_T0 h_T1 (by first | with_reducible exact True.intro | with_reducible assumption | grind [-Prod] | grind [-Prod, → sc_Tx] | grind [-Prod, I_Tx, o_bn, upd])) ?_
  intro q6_2 ⟨yq6_2, _⟩
  refine o_okI (fun c3 => ?_) (fun c3 => ?_)
  · refine o_okS ?_
    first | with_reducible exact True.intro | with_reducible assumption | grind [-Prod] | grind [-Prod, → sc_Tx] | grind [-Prod, I_Tx, o_bn, upd]
  · refine o_okS ?_
    first | with_reducible exact True.intro | with_reducible assumption | grind [-Prod] | grind [-Prod, → sc_Tx] | grind [-Prod, I_Tx, o_bn, upd]
set_option maxHeartbeats 8000000 in
theorem s_Jd_asserts {n : Nat} {x1 : Nat} {x2 : Int32} {x3 : Int32} {T0 : STx} {T1 : STx} {Pg : SPg} {Pt : SPt} {Ld : SLd} (hn : o_big ≤ n) (h_T0 : I_Tx T0) (h_T1 : I_Tx T1) (h_Pg : I_Pg Pg) (h_Pt : I_Pt Pt) (p0 : x1 < 45) : o_ok (m_Jd_asserts n x1 x2 x3 T0 T1 Pg Pt Ld) (fun r => (r.1 = 0 ∨ r.1 = 1) ∧ I_Pg r.2.1 ∧ I_Pt r.2.2.1) := by
  unfold m_Jd_asserts
  refine o_okG (o_inK (by first | with_reducible exact True.intro | with_reducible assumption | grind [-Prod] | grind [-Prod, → sc_Pg, → sc_Pt, → sc_Tx] | grind [-Prod, I_Pg, I_Pt, I_Tx, o_bn, upd])) ?_
  refine o_okN (fun w8_1 ew8_1 => ?_)
  refine o_okI (fun c2 => ?_) (fun c2 => ?_)
  · refine o_okB (s_Jd_hasType  hn h_T0 h_T1) ?_
    intro q1_3 g4
    refine o_okG (o_zbM (by first | with_reducible exact True.intro | with_reducible assumption | grind [-Prod] | grind [-Prod, → sc_Pg, → sc_Pt, → sc_Tx] | grind [-Prod, I_Pg, I_Pt, I_Tx, o_bn, upd])) ?_
    refine o_okS ?_
    refine ⟨?_, ?_, ?_⟩
    · first | with_reducible exact True.intro | with_reducible assumption | grind [-Prod] | grind [-Prod, → sc_Pg, → sc_Pt, → sc_Tx] | grind [-Prod, I_Pg, I_Pt, I_Tx, o_bn, upd]
    · exact h_Pg
    · exact h_Pt
  · refine o_okI (fun c5 => ?_) (fun c5 => ?_)
    · refine o_okB (s_Jd_isOneOf  hn h_T0 h_T1) ?_
      intro q2_6 g7
      refine o_okG (o_zbM (by first | with_reducible exact True.intro | with_reducible assumption | grind [-Prod] | grind [-Prod, → sc_Pg, → sc_Pt, → sc_Tx] | grind [-Prod, I_Pg, I_Pt, I_Tx, o_bn, upd])) ?_
      refine o_okS ?_
      refine ⟨?_, ?_, ?_⟩
      · first | with_reducible exact True.intro | with_reducible assumption | grind [-Prod] | grind [-Prod, → sc_Pg, → sc_Pt, → sc_Tx] | grind [-Prod, I_Pg, I_Pt, I_Tx, o_bn, upd]
      · exact h_Pg
      · exact h_Pt
    · refine o_okI (fun c8 => ?_) (fun c8 => ?_)
      · refine o_okB (s_Tx_same hn (by decide) h_T0 h_T1) ?_
        intro q3_9 g10
        refine o_okG (o_zbM (by first | with_reducible exact True.intro | with_reducible assumption | grind [-Prod] | grind [-Prod, → sc_Pg, → sc_Pt, → sc_Tx] | grind [-Prod, I_Pg, I_Pt, I_Tx, o_bn, upd])) ?_
        refine o_okS ?_
        refine ⟨?_, ?_, ?_⟩
        · first | with_reducible exact True.intro | with_reducible assumption | grind [-Prod] | grind [-Prod, → sc_Pg, → sc_Pt, → sc_Tx] | grind [-Prod, I_Pg, I_Pt, I_Tx, o_bn, upd]
        · exact h_Pg
        · exact h_Pt
      · refine o_okI (fun c11 => ?_) (fun c11 => ?_)
        · refine o_okB (s_Ld_divides  hn h_T0 h_T1) ?_
          intro q4_12 g13
          refine o_okG (o_zbM (by first | with_reducible exact True.intro | with_reducible assumption | grind [-Prod] | grind [-Prod, → sc_Pg, → sc_Pt, → sc_Tx] | grind [-Prod, I_Pg, I_Pt, I_Tx, o_bn, upd])) ?_
          refine o_okS ?_
          refine ⟨?_, ?_, ?_⟩
          · first | with_reducible exact True.intro | with_reducible assumption | grind [-Prod] | grind [-Prod, → sc_Pg, → sc_Pt, → sc_Tx] | grind [-Prod, I_Pg, I_Pt, I_Tx, o_bn, upd]
          · exact h_Pg
          · exact h_Pt
        · refine o_okI (fun c14 => ?_) (fun c14 => ?_)
          · refine o_okB (s_Tx_compare  hn h_T1 h_T0) ?_
            intro q5_15 _
            refine o_okI (fun c16 => ?_) (fun c16 => ?_)
            · refine o_okS ?_
              refine ⟨?_, ?_, ?_⟩
              · first | with_reducible exact True.intro | with_reducible assumption | grind [-Prod] | grind [-Prod, → sc_Pg, → sc_Pt, → sc_Tx] | grind [-Prod, I_Pg, I_Pt, I_Tx, o_bn, upd]
              · exact h_Pg
              · exact h_Pt
            · refine o_okS ?_
              refine ⟨?_, ?_, ?_⟩
              · first | with_reducible exact True.intro | with_reducible assumption | grind [-Prod] | grind [-Prod, → sc_Pg, → sc_Pt, → sc_Tx] | grind [-Prod, I_Pg, I_Pt, I_Tx, o_bn, upd]
              · exact h_Pg
              · exact h_Pt
          · refine o_okI (fun c17 => ?_) (fun c17 => ?_)
            · refine o_okB (s_Tx_compare  hn h_T1 h_T0) ?_
              intro q6_18 _
              refine o_okI (fun c19 => ?_) (fun c19 => ?_)
              · refine o_okS ?_
                refine ⟨?_, ?_, ?_⟩
                · first | with_reducible exact True.intro | with_reducible assumption | grind [-Prod] | grind [-Prod, → sc_Pg, → sc_Pt, → sc_Tx] | grind [-Prod, I_Pg, I_Pt, I_Tx, o_bn, upd]
                · exact h_Pg
                · exact h_Pt
              · refine o_okS ?_
                refine ⟨?_, ?_, ?_⟩
                · first | with_reducible exact True.intro | with_reducible assumption | grind [-Prod] | grind [-Prod, → sc_Pg, → sc_Pt, → sc_Tx] | grind [-Prod, I_Pg, I_Pt, I_Tx, o_bn, upd]
                · exact h_Pg
                · exact h_Pt
            · refine o_okI (fun c20 => ?_) (fun c20 => ?_)
              · refine o_okB (s_Tx_compare  hn h_T1 h_T0) ?_
                intro q7_21 _
                refine o_okI (fun c22 => ?_) (fun c22 => ?_)
                · refine o_okS ?_
                  refine ⟨?_, ?_, ?_⟩
                  · first | with_reducible exact True.intro | with_reducible assumption | grind [-Prod] | grind [-Prod, → sc_Pg, → sc_Pt, → sc_Tx] | grind [-Prod, I_Pg, I_Pt, I_Tx, o_bn, upd]
                  · exact h_Pg
                  · exact h_Pt
                · refine o_okS ?_
                  refine ⟨?_, ?_, ?_⟩
                  · first | with_reducible exact True.intro | with_reducible assumption | grind [-Prod] | grind [-Prod, → sc_Pg, → sc_Pt, → sc_Tx] | grind [-Prod, I_Pg, I_Pt, I_Tx, o_bn, upd]
                  · exact h_Pg
                  · exact h_Pt
              · refine o_okI (fun c23 => ?_) (fun c23 => ?_)
                · refine o_okB (s_Tx_compare  hn h_T1 h_T0) ?_
                  intro q8_24 _
                  refine o_okI (fun c25 => ?_) (fun c25 => ?_)
                  · refine o_okS ?_
                    refine ⟨?_, ?_, ?_⟩
                    · first | with_reducible exact True.intro | with_reducible assumption | grind [-Prod] | grind [-Prod, → sc_Pg, → sc_Pt, → sc_Tx] | grind [-Prod, I_Pg, I_Pt, I_Tx, o_bn, upd]
                    · exact h_Pg
                    · exact h_Pt
                  · refine o_okS ?_
                    refine ⟨?_, ?_, ?_⟩
                    · first | with_reducible exact True.intro | with_reducible assumption | grind [-Prod] | grind [-Prod, → sc_Pg, → sc_Pt, → sc_Tx] | grind [-Prod, I_Pg, I_Pt, I_Tx, o_bn, upd]
                    · exact h_Pg
                    · exact h_Pt
                · refine o_okI (fun c26 => ?_) (fun c26 => ?_)
                  · refine o_okB (s_Tx_size  h_T1) ?_
                    intro q9_27 g28
                    refine o_okB (s_Tx_wholeNumber  hn h_T0) ?_
                    intro q10_29 _
                    refine o_okI (fun c30 => ?_) (fun c30 => ?_)
                    · refine o_okS ?_
                      refine ⟨?_, ?_, ?_⟩
                      · first | with_reducible exact True.intro | with_reducible assumption | grind [-Prod] | grind [-Prod, → sc_Pg, → sc_Pt, → sc_Tx] | grind [-Prod, I_Pg, I_Pt, I_Tx, o_bn, upd]
                      · exact h_Pg
                      · exact h_Pt
                    · refine o_okS ?_
                      refine ⟨?_, ?_, ?_⟩
                      · first | with_reducible exact True.intro | with_reducible assumption | grind [-Prod] | grind [-Prod, → sc_Pg, → sc_Pt, → sc_Tx] | grind [-Prod, I_Pg, I_Pt, I_Tx, o_bn, upd]
                      · exact h_Pg
                      · exact h_Pt
                  · refine o_okI (fun c31 => ?_) (fun c31 => ?_)
                    · refine o_okB (s_Tx_size  h_T1) ?_
                      intro q11_32 g33
                      refine o_okB (s_Tx_wholeNumber  hn h_T0) ?_
                      intro q12_34 _
                      refine o_okI (fun c35 => ?_) (fun c35 => ?_)
                      · refine o_okS ?_
                        refine ⟨?_, ?_, ?_⟩
                        · first | with_reducible exact True.intro | with_reducible assumption | grind [-Prod] | grind [-Prod, → sc_Pg, → sc_Pt, → sc_Tx] | grind [-Prod, I_Pg, I_Pt, I_Tx, o_bn, upd]
                        · exact h_Pg
                        · exact h_Pt
                      · refine o_okS ?_
                        refine ⟨?_, ?_, ?_⟩
                        · first | with_reducible exact True.intro | with_reducible assumption | grind [-Prod] | grind [-Prod, → sc_Pg, → sc_Pt, → sc_Tx] | grind [-Prod, I_Pg, I_Pt, I_Tx, o_bn, upd]
                        · exact h_Pg
                        · exact h_Pt
                    · refine o_okI (fun c36 => ?_) (fun c36 => ?_)
                      · refine o_okB (s_Tx_size  h_T1) ?_
                        intro q13_37 g38
                        refine o_okB (s_Tx_wholeNumber  hn h_T0) ?_
                        intro q14_39 _
                        refine o_okI (fun c40 => ?_) (fun c40 => ?_)
                        · refine o_okS ?_
                          refine ⟨?_, ?_, ?_⟩
                          · first | with_reducible exact True.intro | with_reducible assumption | grind [-Prod] | grind [-Prod, → sc_Pg, → sc_Pt, → sc_Tx] | grind [-Prod, I_Pg, I_Pt, I_Tx, o_bn, upd]
                          · exact h_Pg
                          · exact h_Pt
                        · refine o_okS ?_
                          refine ⟨?_, ?_, ?_⟩
                          · first | with_reducible exact True.intro | with_reducible assumption | grind [-Prod] | grind [-Prod, → sc_Pg, → sc_Pt, → sc_Tx] | grind [-Prod, I_Pg, I_Pt, I_Tx, o_bn, upd]
                          · exact h_Pg
                          · exact h_Pt
                      · refine o_okI (fun c41 => ?_) (fun c41 => ?_)
                        · refine o_okB (s_Tx_size  h_T1) ?_
                          intro q15_42 g43
                          refine o_okB (s_Tx_wholeNumber  hn h_T0) ?_
                          intro q16_44 _
                          refine o_okI (fun c45 => ?_) (fun c45 => ?_)
                          · refine o_okS ?_
                            refine ⟨?_, ?_, ?_⟩
                            · first | with_reducible exact True.intro | with_reducible assumption | grind [-Prod] | grind [-Prod, → sc_Pg, → sc_Pt, → sc_Tx] | grind [-Prod, I_Pg, I_Pt, I_Tx, o_bn, upd]
                            · exact h_Pg
                            · exact h_Pt
                          · refine o_okS ?_
                            refine ⟨?_, ?_, ?_⟩
                            · first | with_reducible exact True.intro | with_reducible assumption | grind [-Prod] | grind [-Prod, → sc_Pg, → sc_Pt, → sc_Tx] | grind [-Prod, I_Pg, I_Pt, I_Tx, o_bn, upd]
                            · exact h_Pg
                            · exact h_Pt
                        · refine o_okI (fun c46 => ?_) (fun c46 => ?_)
                          · refine o_okB (s_Tx_size  h_T1) ?_
                            intro q17_47 g48
                            refine o_okB (s_Tx_wholeNumber  hn h_T0) ?_
                            intro q18_49 _
                            refine o_okI (fun c50 => ?_) (fun c50 => ?_)
                            · refine o_okS ?_
                              refine ⟨?_, ?_, ?_⟩
                              · first | with_reducible exact True.intro | with_reducible assumption | grind [-Prod] | grind [-Prod, → sc_Pg, → sc_Pt, → sc_Tx] | grind [-Prod, I_Pg, I_Pt, I_Tx, o_bn, upd]
                              · exact h_Pg
                              · exact h_Pt
                            · refine o_okS ?_
                              refine ⟨?_, ?_, ?_⟩
                              · first | with_reducible exact True.intro | with_reducible assumption | grind [-Prod] | grind [-Prod, → sc_Pg, → sc_Pt, → sc_Tx] | grind [-Prod, I_Pg, I_Pt, I_Tx, o_bn, upd]
                              · exact h_Pg
                              · exact h_Pt
                          · refine o_okI (fun c51 => ?_) (fun c51 => ?_)
                            · refine o_okB (s_Tx_size  h_T1) ?_
                              intro q19_52 g53
                              refine o_okB (s_Tx_wholeNumber  hn h_T0) ?_
                              intro q20_54 _
                              refine o_okI (fun c55 => ?_) (fun c55 => ?_)
                              · refine o_okS ?_
                                refine ⟨?_, ?_, ?_⟩
                                · first | with_reducible exact True.intro | with_reducible assumption | grind [-Prod] | grind [-Prod, → sc_Pg, → sc_Pt, → sc_Tx] | grind [-Prod, I_Pg, I_Pt, I_Tx, o_bn, upd]
                                · exact h_Pg
                                · exact h_Pt
                              · refine o_okS ?_
                                refine ⟨?_, ?_, ?_⟩
                                · first | with_reducible exact True.intro | with_reducible assumption | grind [-Prod] | grind [-Prod, → sc_Pg, → sc_Pt, → sc_Tx] | grind [-Prod, I_Pg, I_Pt, I_Tx, o_bn, upd]
                                · exact h_Pg
                                · exact h_Pt
                            · refine o_okI (fun c56 => ?_) (fun c56 => ?_)
                              · refine o_okB (s_Pt_tokenise  hn h_T0 h_Pt) ?_
                                intro q21_57 ⟨g58, g59⟩
                                refine o_okI (fun c60 => ?_) (fun c60 => ?_)
                                · refine o_okS ?_
                                  refine ⟨?_, ?_, ?_⟩
                                  · first | with_reducible exact True.intro | with_reducible assumption | grind [-Prod] | grind [-Prod, → sc_Pg, → sc_Pt, → sc_Tx] | grind [-Prod, I_Pg, I_Pt, I_Tx, o_bn, upd]
                                  · exact h_Pg
                                  · exact g59
                                · refine o_okB (s_Pt_parse  hn h_Pg g59) ?_
                                  intro q22_61 ⟨g62, g63, g64⟩
                                  refine o_okI (fun c65 => ?_) (fun c65 => ?_)
                                  · refine o_okS ?_
                                    refine ⟨?_, ?_, ?_⟩
                                    · first | with_reducible exact True.intro | with_reducible assumption | grind [-Prod] | grind [-Prod, → sc_Pg, → sc_Pt, → sc_Tx] | grind [-Prod, I_Pg, I_Pt, I_Tx, o_bn, upd]
                                    · exact g63
                                    · exact g64
                                  · refine o_okB (s_Pg_finds  hn h_T1 g63) ?_
                                    intro q23_66 ⟨g67, g68⟩
                                    refine o_okI (fun c69 => ?_) (fun c69 => ?_)
                                    · refine o_okS ?_
                                      refine ⟨?_, ?_, ?_⟩
                                      · first | with_reducible exact True.intro | with_reducible assumption | grind [-Prod] | grind [-Prod, → sc_Pg, → sc_Pt, → sc_Tx] | grind [-Prod, I_Pg, I_Pt, I_Tx, o_bn, upd]
                                      · exact g68
                                      · exact g64
                                    · refine o_okS ?_
                                      refine ⟨?_, ?_, ?_⟩
                                      · first | with_reducible exact True.intro | with_reducible assumption | grind [-Prod] | grind [-Prod, → sc_Pg, → sc_Pt, → sc_Tx] | grind [-Prod, I_Pg, I_Pt, I_Tx, o_bn, upd]
                                      · exact g68
                                      · exact g64
                              · refine o_okI (fun c70 => ?_) (fun c70 => ?_)
                                · refine o_okB (s_Tx_kind  h_T0) ?_
                                  intro q24_71 _
                                  refine o_okI (fun c72 => ?_) (fun c72 => ?_)
                                  · refine o_okS ?_
                                    refine ⟨?_, ?_, ?_⟩
                                    · first | with_reducible exact True.intro | with_reducible assumption | grind [-Prod] | grind [-Prod, → sc_Pg, → sc_Pt, → sc_Tx] | grind [-Prod, I_Pg, I_Pt, I_Tx, o_bn, upd]
                                    · exact h_Pg
                                    · exact h_Pt
                                  · refine o_okB (s_Jd_allDiffer  hn h_T1) ?_
                                    intro q25_73 g74
                                    refine o_okI (fun c75 => ?_) (fun c75 => ?_)
                                    · refine o_okS ?_
                                      refine ⟨?_, ?_, ?_⟩
                                      · first | with_reducible exact True.intro | with_reducible assumption | grind [-Prod] | grind [-Prod, → sc_Pg, → sc_Pt, → sc_Tx] | grind [-Prod, I_Pg, I_Pt, I_Tx, o_bn, upd]
                                      · exact h_Pg
                                      · exact h_Pt
                                    · refine o_okS ?_
                                      refine ⟨?_, ?_, ?_⟩
                                      · first | with_reducible exact True.intro | with_reducible assumption | grind [-Prod] | grind [-Prod, → sc_Pg, → sc_Pt, → sc_Tx] | grind [-Prod, I_Pg, I_Pt, I_Tx, o_bn, upd]
                                      · exact h_Pg
                                      · exact h_Pt
                                · refine o_okI (fun c76 => ?_) (fun c76 => ?_)
                                  · refine o_okB (s_Jd_hasAll  hn h_T0 h_T1) ?_
                                    intro q26_77 g78
                                    refine o_okG (o_zbM (by first | with_reducible exact True.intro | with_reducible assumption | grind [-Prod] | grind [-Prod, → sc_Pg, → sc_Pt, → sc_Tx] | grind [-Prod, I_Pg, I_Pt, I_Tx, o_bn, upd])) ?_
                                    refine o_okS ?_
                                    refine ⟨?_, ?_, ?_⟩
                                    · first | with_reducible exact True.intro | with_reducible assumption | grind [-Prod] | grind [-Prod, → sc_Pg, → sc_Pt, → sc_Tx] | grind [-Prod, I_Pg, I_Pt, I_Tx, o_bn, upd]
                                    · exact h_Pg
                                    · exact h_Pt
                                  · refine o_okI (fun c79 => ?_) (fun c79 => ?_)
                                    · refine o_okB (s_Jd_hasDependents  hn h_T0 h_T1) ?_
                                      intro q27_80 g81
                                      refine o_okG (o_zbM (by first | with_reducible exact True.intro | with_reducible assumption | grind [-Prod] | grind [-Prod, → sc_Pg, → sc_Pt, → sc_Tx] | grind [-Prod, I_Pg, I_Pt, I_Tx, o_bn, upd])) ?_
                                      refine o_okS ?_
                                      refine ⟨?_, ?_, ?_⟩
                                      · first | with_reducible exact True.intro | with_reducible assumption | grind [-Prod] | grind [-Prod, → sc_Pg, → sc_Pt, → sc_Tx] | grind [-Prod, I_Pg, I_Pt, I_Tx, o_bn, upd]
                                      · exact h_Pg
                                      · exact h_Pt
                                    · refine o_okS ?_
                                      refine ⟨?_, ?_, ?_⟩
                                      · first | with_reducible exact True.intro | with_reducible assumption | grind [-Prod] | grind [-Prod, → sc_Pg, → sc_Pt, → sc_Tx] | grind [-Prod, I_Pg, I_Pt, I_Tx, o_bn, upd]
                                      · exact h_Pg
                                      · exact h_Pt
set_option maxHeartbeats 8000000 in
theorem s_Jd_apply_b123 {n : Nat} {rec : Int32 → Int32 → Int32 → STx → STx → SPg → SPt → SMk → SLd → SPr → SJd → Option (Int32 × SPg × SPt × SLd × SPr × SJd)} {x1 : Nat} {x2 : Int32} {x3 : Int32} {x4 : Int32} {x5 : Int32} {x8 : Int32} {x9 : Int32} {x10 : Int32} {x11 : Int64} {x14 : Int32} {T0 : STx} {T1 : STx} {Mk : SMk} {z : Int32 × Int32 × Int32 × Int32 × SPg × SPt × SLd × SPr × SJd} (hn : o_big ≤ n) (h_T0 : I_Tx T0) (h_T1 : I_Tx T1) (p0 : x4 ≤ 100) (hrec : ∀ (v0 v1 : Int32) (T0 T1 : STx) (Pg : SPg) (Pt : SPt) (Mk : SMk) (Ld : SLd) (Pr : SPr) (Jd : SJd), I_Tx T0 → I_Tx T1 → I_Pg Pg → I_Pt Pt → I_Pr Pr → I_Jd Jd → o_ok (rec v0 v1 (x4 + 1) T0 T1 Pg Pt Mk Ld Pr Jd) (fun r => (r.1 = 0 ∨ r.1 = 1) ∧ I_Pg r.2.1 ∧ I_Pt r.2.2.1 ∧ I_Pr r.2.2.2.2.1 ∧ I_Jd r.2.2.2.2.2)) (l0 : 0 ≤ z.2.2.2.1) (l1 : I_Pg z.2.2.2.2.1) (l2 : I_Pt z.2.2.2.2.2.1) (l3 : I_Pr z.2.2.2.2.2.2.2.1) (l4 : I_Jd z.2.2.2.2.2.2.2.2) : o_ok (m_Jd_apply_b123 n rec x1 x2 x3 x4 x5 x8 x9 x10 x11 x14 T0 T1 Mk z) (fun q => (q.1 = 0 → 0 ≤ q.2.2.2.2.1 ∧ I_Pg q.2.2.2.2.2.1 ∧ I_Pt q.2.2.2.2.2.2.1 ∧ I_Pr q.2.2.2.2.2.2.2.2.1 ∧ I_Jd q.2.2.2.2.2.2.2.2.2 ∧ o_mu q.2.2.2.2.1 < o_mu z.2.2.2.1) ∧ (q.1 ≠ 0 → I_Pg q.2.2.2.2.2.1 ∧ I_Pt q.2.2.2.2.2.2.1 ∧ I_Pr q.2.2.2.2.2.2.2.2.1 ∧ I_Jd q.2.2.2.2.2.2.2.2.2)) := by
  unfold m_Jd_apply_b123
  refine o_okI (fun c1 => ?_) (fun c1 => ?_)
  · refine o_okS ?_
    refine ⟨fun h => absurd (show (1 : Nat) = 0 from h) (by decide), fun _ => ?_⟩
    refine ⟨?_, ?_, ?_, ?_⟩
    · exact l1
    · exact l2
    · exact l3
    · exact l4
  · refine o_okI (fun c2 => ?_) (fun c2 => ?_)
    · refine o_okS ?_
      refine ⟨fun h => absurd (show (1 : Nat) = 0 from h) (by decide), fun _ => ?_⟩
      refine ⟨?_, ?_, ?_, ?_⟩
      · exact l1
      · exact l2
      · exact l3
      · exact l4
    · refine o_okI (fun c3 => ?_) (fun c3 => ?_)
      · refine o_okI (fun c4 => ?_) (fun c4 => ?_)
        · refine o_okI (fun c5 => ?_) (fun c5 => ?_)
          · unfold m_Jd_apply_j174
            refine o_okB (hrec _ _ _ _ _ _ _ _ _ _ h_T0 h_T1 l1 l2 l3 l4) ?_
            intro q8_6 ⟨g7, g8, g9, g10, g11⟩
            refine o_okI (fun c12 => ?_) (fun c12 => ?_)
            · unfold m_Jd_apply_j195
              refine o_okN (fun x6_196_13 ex6_196_13 => ?_)
              refine o_okI (fun c14 => ?_) (fun c14 => ?_)
              · unfold m_Jd_apply_j210
                refine o_okN (fun x7_211_15 ex7_211_15 => ?_)
                refine o_okB (s_Tx_slot  h_T1) ?_
                intro q9_16 _
                refine o_okB (s_Jd_remember  g11 (by first | with_reducible exact True.intro | with_reducible assumption | grind [-Prod] | grind [-Prod, → sc_Jd, → sc_Pg, → sc_Pr, → sc_Pt, → sc_Tx] | grind [-Prod, I_Jd, I_Pg, I_Pr, I_Pt, I_Tx, o_bn, upd])) ?_
                intro q10_17 g18
                unfold m_Jd_apply_j231
                refine o_okB (s_Tx_nextChild  h_T1) ?_
                intro q7_19 _
                refine o_okN (fun x15_242_20 ex15_242_20 => ?_)
                refine o_okS ?_
                refine ⟨fun _ => ?_, fun h => absurd rfl h⟩
                refine ⟨?_, ?_, ?_, ?_, ?_, ?_⟩
                · first | with_reducible exact True.intro | with_reducible assumption | grind [-Prod] | grind [-Prod, → sc_Jd, → sc_Pg, → sc_Pr, → sc_Pt, → sc_Tx] | grind [-Prod, I_Jd, I_Pg, I_Pr, I_Pt, I_Tx, o_bn, upd]
                · exact g8
                · exact g9
                · exact g10
                · exact g18
                · first | exact o_muL (by first | with_reducible exact True.intro | with_reducible assumption | grind [-Prod] | grind [-Prod, → sc_Jd, → sc_Pg, → sc_Pr, → sc_Pt, → sc_Tx] | grind [-Prod, I_Jd, I_Pg, I_Pr, I_Pt, I_Tx, o_bn, upd]) | exact o_nuL (by first | with_reducible exact True.intro | with_reducible assumption | grind [-Prod] | grind [-Prod, → sc_Jd, → sc_Pg, → sc_Pr, → sc_Pt, → sc_Tx] | grind [-Prod, I_Jd, I_Pg, I_Pr, I_Pt, I_Tx, o_bn, upd]) | (first | with_reducible exact True.intro | with_reducible assumption | grind [-Prod] | grind [-Prod, → sc_Jd, → sc_Pg, → sc_Pr, → sc_Pt, → sc_Tx] | grind [-Prod, I_Jd, I_Pg, I_Pr, I_Pt, I_Tx, o_bn, upd])
              · unfold m_Jd_apply_j210
                refine o_okN (fun x7_211_21 ex7_211_21 => ?_)
                refine o_okB (s_Tx_slot  h_T1) ?_
                intro q9_22 _
                refine o_okB (s_Jd_remember  g11 (by first | with_reducible exact True.intro | with_reducible assumption | grind [-Prod] | grind [-Prod, → sc_Jd, → sc_Pg, → sc_Pr, → sc_Pt, → sc_Tx] | grind [-Prod, I_Jd, I_Pg, I_Pr, I_Pt, I_Tx, o_bn, upd])) ?_
                intro q10_23 g24
                unfold m_Jd_apply_j231
                refine o_okB (s_Tx_nextChild  h_T1) ?_
                intro q7_25 _
                refine o_okN (fun x15_242_26 ex15_242_26 => ?_)
                refine o_okS ?_
                refine ⟨fun _ => ?_, fun h => absurd rfl h⟩
                refine ⟨?_, ?_, ?_, ?_, ?_, ?_⟩
                · first | with_reducible exact True.intro | with_reducible assumption | grind [-Prod] | grind [-Prod, → sc_Jd, → sc_Pg, → sc_Pr, → sc_Pt, → sc_Tx] | grind [-Prod, I_Jd, I_Pg, I_Pr, I_Pt, I_Tx, o_bn, upd]
                · exact g8
                · exact g9
                · exact g10
                · exact g24
                · first | exact o_muL (by first | with_reducible exact True.intro | with_reducible assumption | grind [-Prod] | grind [-Prod, → sc_Jd, → sc_Pg, → sc_Pr, → sc_Pt, → sc_Tx] | grind [-Prod, I_Jd, I_Pg, I_Pr, I_Pt, I_Tx, o_bn, upd]) | exact o_nuL (by first | with_reducible exact True.intro | with_reducible assumption | grind [-Prod] | grind [-Prod, → sc_Jd, → sc_Pg, → sc_Pr, → sc_Pt, → sc_Tx] | grind [-Prod, I_Jd, I_Pg, I_Pr, I_Pt, I_Tx, o_bn, upd]) | (first | with_reducible exact True.intro | with_reducible assumption | grind [-Prod] | grind [-Prod, → sc_Jd, → sc_Pg, → sc_Pr, → sc_Pt, → sc_Tx] | grind [-Prod, I_Jd, I_Pg, I_Pr, I_Pt, I_Tx, o_bn, upd])
            · unfold m_Jd_apply_j195
              refine o_okN (fun x6_196_27 ex6_196_27 => ?_)
              refine o_okI (fun c28 => ?_) (fun c28 => ?_)
              · unfold m_Jd_apply_j210
                refine o_okN (fun x7_211_29 ex7_211_29 => ?_)
                refine o_okB (s_Tx_slot  h_T1) ?_
                intro q9_30 _
                refine o_okB (s_Jd_remember  g11 (by first | with_reducible exact True.intro | with_reducible assumption | grind [-Prod] | grind [-Prod, → sc_Jd, → sc_Pg, → sc_Pr, → sc_Pt, → sc_Tx] | grind [-Prod, I_Jd, I_Pg, I_Pr, I_Pt, I_Tx, o_bn, upd])) ?_
                intro q10_31 g32
                unfold m_Jd_apply_j231
                refine o_okB (s_Tx_nextChild  h_T1) ?_
                intro q7_33 _
                refine o_okN (fun x15_242_34 ex15_242_34 => ?_)
                refine o_okS ?_
                refine ⟨fun _ => ?_, fun h => absurd rfl h⟩
                refine ⟨?_, ?_, ?_, ?_, ?_, ?_⟩
                · first | with_reducible exact True.intro | with_reducible assumption | grind [-Prod] | grind [-Prod, → sc_Jd, → sc_Pg, → sc_Pr, → sc_Pt, → sc_Tx] | grind [-Prod, I_Jd, I_Pg, I_Pr, I_Pt, I_Tx, o_bn, upd]
                · exact g8
                · exact g9
                · exact g10
                · exact g32
                · first | exact o_muL (by first | with_reducible exact True.intro | with_reducible assumption | grind [-Prod] | grind [-Prod, → sc_Jd, → sc_Pg, → sc_Pr, → sc_Pt, → sc_Tx] | grind [-Prod, I_Jd, I_Pg, I_Pr, I_Pt, I_Tx, o_bn, upd]) | exact o_nuL (by first | with_reducible exact True.intro | with_reducible assumption | grind [-Prod] | grind [-Prod, → sc_Jd, → sc_Pg, → sc_Pr, → sc_Pt, → sc_Tx] | grind [-Prod, I_Jd, I_Pg, I_Pr, I_Pt, I_Tx, o_bn, upd]) | (first | with_reducible exact True.intro | with_reducible assumption | grind [-Prod] | grind [-Prod, → sc_Jd, → sc_Pg, → sc_Pr, → sc_Pt, → sc_Tx] | grind [-Prod, I_Jd, I_Pg, I_Pr, I_Pt, I_Tx, o_bn, upd])
              · unfold m_Jd_apply_j210
                refine o_okN (fun x7_211_35 ex7_211_35 => ?_)
                refine o_okB (s_Tx_slot  h_T1) ?_
                intro q9_36 _
                refine o_okB (s_Jd_remember  g11 (by first | with_reducible exact True.intro | with_reducible assumption | grind [-Prod] | grind [-Prod, → sc_Jd, → sc_Pg, → sc_Pr, → sc_Pt, → sc_Tx] | grind [-Prod, I_Jd, I_Pg, I_Pr, I_Pt, I_Tx, o_bn, upd])) ?_
                intro q10_37 g38
                unfold m_Jd_apply_j231
                refine o_okB (s_Tx_nextChild  h_T1) ?_
                intro q7_39 _
                refine o_okN (fun x15_242_40 ex15_242_40 => ?_)
                refine o_okS ?_
                refine ⟨fun _ => ?_, fun h => absurd rfl h⟩
                refine ⟨?_, ?_, ?_, ?_, ?_, ?_⟩
                · first | with_reducible exact True.intro | with_reducible assumption | grind [-Prod] | grind [-Prod, → sc_Jd, → sc_Pg, → sc_Pr, → sc_Pt, → sc_Tx] | grind [-Prod, I_Jd, I_Pg, I_Pr, I_Pt, I_Tx, o_bn, upd]
                · exact g8
                · exact g9
                · exact g10
                · exact g38
                · first | exact o_muL (by first | with_reducible exact True.intro | with_reducible assumption | grind [-Prod] | grind [-Prod, → sc_Jd, → sc_Pg, → sc_Pr, → sc_Pt, → sc_Tx] | grind [-Prod, I_Jd, I_Pg, I_Pr, I_Pt, I_Tx, o_bn, upd]) | exact o_nuL (by first | with_reducible exact True.intro | with_reducible assumption | grind [-Prod] | grind [-Prod, → sc_Jd, → sc_Pg, → sc_Pr, → sc_Pt, → sc_Tx] | grind [-Prod, I_Jd, I_Pg, I_Pr, I_Pt, I_Tx, o_bn, upd]) | (first | with_reducible exact True.intro | with_reducible assumption | grind [-Prod] | grind [-Prod, → sc_Jd, → sc_Pg, → sc_Pr, → sc_Pt, → sc_Tx] | grind [-Prod, I_Jd, I_Pg, I_Pr, I_Pt, I_Tx, o_bn, upd])
          · unfold m_Jd_apply_j174
            refine o_okB (hrec _ _ _ _ _ _ _ _ _ _ h_T0 h_T1 l1 l2 l3 l4) ?_
            intro q8_41 ⟨g42, g43, g44, g45, g46⟩
            refine o_okI (fun c47 => ?_) (fun c47 => ?_)
            · unfold m_Jd_apply_j195
              refine o_okN (fun x6_196_48 ex6_196_48 => ?_)
              refine o_okI (fun c49 => ?_) (fun c49 => ?_)
              · unfold m_Jd_apply_j210
                refine o_okN (fun x7_211_50 ex7_211_50 => ?_)
                refine o_okB (s_Tx_slot  h_T1) ?_
                intro q9_51 _
                refine o_okB (s_Jd_remember  g46 (by first | with_reducible exact True.intro | with_reducible assumption | grind [-Prod] | grind [-Prod, → sc_Jd, → sc_Pg, → sc_Pr, → sc_Pt, → sc_Tx] | grind [-Prod, I_Jd, I_Pg, I_Pr, I_Pt, I_Tx, o_bn, upd])) ?_
                intro q10_52 g53
                unfold m_Jd_apply_j231
                refine o_okB (s_Tx_nextChild  h_T1) ?_
                intro q7_54 _
                refine o_okN (fun x15_242_55 ex15_242_55 => ?_)
                refine o_okS ?_
                refine ⟨fun _ => ?_, fun h => absurd rfl h⟩
                refine ⟨?_, ?_, ?_, ?_, ?_, ?_⟩
                · first | with_reducible exact True.intro | with_reducible assumption | grind [-Prod] | grind [-Prod, → sc_Jd, → sc_Pg, → sc_Pr, → sc_Pt, → sc_Tx] | grind [-Prod, I_Jd, I_Pg, I_Pr, I_Pt, I_Tx, o_bn, upd]
                · exact g43
                · exact g44
                · exact g45
                · exact g53
                · first | exact o_muL (by first | with_reducible exact True.intro | with_reducible assumption | grind [-Prod] | grind [-Prod, → sc_Jd, → sc_Pg, → sc_Pr, → sc_Pt, → sc_Tx] | grind [-Prod, I_Jd, I_Pg, I_Pr, I_Pt, I_Tx, o_bn, upd]) | exact o_nuL (by first | with_reducible exact True.intro | with_reducible assumption | grind [-Prod] | grind [-Prod, → sc_Jd, → sc_Pg, → sc_Pr, → sc_Pt, → sc_Tx] | grind [-Prod, I_Jd, I_Pg, I_Pr, I_Pt, I_Tx, o_bn, upd]) | (first | with_reducible exact True.intro | with_reducible assumption | grind [-Prod] | grind [-Prod, → sc_Jd, → sc_Pg, → sc_Pr, → sc_Pt, → sc_Tx] | grind [-Prod, I_Jd, I_Pg, I_Pr, I_Pt, I_Tx, o_bn, upd])
              · unfold m_Jd_apply_j210
                refine o_okN (fun x7_211_56 ex7_211_56 => ?_)
                refine o_okB (s_Tx_slot  h_T1) ?_
                intro q9_57 _
                refine o_okB (s_Jd_remember  g46 (by first | with_reducible exact True.intro | with_reducible assumption | grind [-Prod] | grind [-Prod, → sc_Jd, → sc_Pg, → sc_Pr, → sc_Pt, → sc_Tx] | grind [-Prod, I_Jd, I_Pg, I_Pr, I_Pt, I_Tx, o_bn, upd])) ?_
                intro q10_58 g59
                unfold m_Jd_apply_j231
                refine o_okB (s_Tx_nextChild  h_T1) ?_
                intro q7_60 _
                refine o_okN (fun x15_242_61 ex15_242_61 => ?_)
                refine o_okS ?_
                refine ⟨fun _ => ?_, fun h => absurd rfl h⟩
                refine ⟨?_, ?_, ?_, ?_, ?_, ?_⟩
                · first | with_reducible exact True.intro | with_reducible assumption | grind [-Prod] | grind [-Prod, → sc_Jd, → sc_Pg, → sc_Pr, → sc_Pt, → sc_Tx] | grind [-Prod, I_Jd, I_Pg, I_Pr, I_Pt, I_Tx, o_bn, upd]
                · exact g43
                · exact g44
                · exact g45
                · exact g59
                · first | exact o_muL (by first | with_reducible exact True.intro | with_reducible assumption | grind [-Prod] | grind [-Prod, → sc_Jd, → sc_Pg, → sc_Pr, → sc_Pt, → sc_Tx] | grind [-Prod, I_Jd, I_Pg, I_Pr, I_Pt, I_Tx, o_bn, upd]) | exact o_nuL (by first | with_reducible exact True.intro | with_reducible assumption | grind [-Prod] | grind [-Prod, → sc_Jd, → sc_Pg, → sc_Pr, → sc_Pt, → sc_Tx] | grind [-Prod, I_Jd, I_Pg, I_Pr, I_Pt, I_Tx, o_bn, upd]) | (first | with_reducible exact True.intro | with_reducible assumption | grind [-Prod] | grind [-Prod, → sc_Jd, → sc_Pg, → sc_Pr, → sc_Pt, → sc_Tx] | grind [-Prod, I_Jd, I_Pg, I_Pr, I_Pt, I_Tx, o_bn, upd])
            · unfold m_Jd_apply_j195
              refine o_okN (fun x6_196_62 ex6_196_62 => ?_)
              refine o_okI (fun c63 => ?_) (fun c63 => ?_)
              · unfold m_Jd_apply_j210
                refine o_okN (fun x7_211_64 ex7_211_64 => ?_)
                refine o_okB (s_Tx_slot  h_T1) ?_
                intro q9_65 _
                refine o_okB (s_Jd_remember  g46 (by first | with_reducible exact True.intro | with_reducible assumption | grind [-Prod] | grind [-Prod, → sc_Jd, → sc_Pg, → sc_Pr, → sc_Pt, → sc_Tx] | grind [-Prod, I_Jd, I_Pg, I_Pr, I_Pt, I_Tx, o_bn, upd])) ?_
                intro q10_66 g67
                unfold m_Jd_apply_j231
                refine o_okB (s_Tx_nextChild  h_T1) ?_
                intro q7_68 _
                refine o_okN (fun x15_242_69 ex15_242_69 => ?_)
                refine o_okS ?_
                refine ⟨fun _ => ?_, fun h => absurd rfl h⟩
                refine ⟨?_, ?_, ?_, ?_, ?_, ?_⟩
                · first | with_reducible exact True.intro | with_reducible assumption | grind [-Prod] | grind [-Prod, → sc_Jd, → sc_Pg, → sc_Pr, → sc_Pt, → sc_Tx] | grind [-Prod, I_Jd, I_Pg, I_Pr, I_Pt, I_Tx, o_bn, upd]
                · exact g43
                · exact g44
                · exact g45
                · exact g67
                · first | exact o_muL (by first | with_reducible exact True.intro | with_reducible assumption | grind [-Prod] | grind [-Prod, → sc_Jd, → sc_Pg, → sc_Pr, → sc_Pt, → sc_Tx] | grind [-Prod, I_Jd, I_Pg, I_Pr, I_Pt, I_Tx, o_bn, upd]) | exact o_nuL (by first | with_reducible exact True.intro | with_reducible assumption | grind [-Prod] | grind [-Prod, → sc_Jd, → sc_Pg, → sc_Pr, → sc_Pt, → sc_Tx] | grind [-Prod, I_Jd, I_Pg, I_Pr, I_Pt, I_Tx, o_bn, upd]) | (first | with_reducible exact True.intro | with_reducible assumption | grind [-Prod] | grind [-Prod, → sc_Jd, → sc_Pg, → sc_Pr, → sc_Pt, → sc_Tx] | grind [-Prod, I_Jd, I_Pg, I_Pr, I_Pt, I_Tx, o_bn, upd])
              · unfold m_Jd_apply_j210
                refine o_okN (fun x7_211_70 ex7_211_70 => ?_)
                refine o_okB (s_Tx_slot  h_T1) ?_
                intro q9_71 _
                refine o_okB (s_Jd_remember  g46 (by first | with_reducible exact True.intro | with_reducible assumption | grind [-Prod] | grind [-Prod, → sc_Jd, → sc_Pg, → sc_Pr, → sc_Pt, → sc_Tx] | grind [-Prod, I_Jd, I_Pg, I_Pr, I_Pt, I_Tx, o_bn, upd])) ?_
                intro q10_72 g73
                unfold m_Jd_apply_j231
                refine o_okB (s_Tx_nextChild  h_T1) ?_
                intro q7_74 _
                refine o_okN (fun x15_242_75 ex15_242_75 => ?_)
                refine o_okS ?_
                refine ⟨fun _ => ?_, fun h => absurd rfl h⟩
                refine ⟨?_, ?_, ?_, ?_, ?_, ?_⟩
                · first | with_reducible exact True.intro | with_reducible assumption | grind [-Prod] | grind [-Prod, → sc_Jd, → sc_Pg, → sc_Pr, → sc_Pt, → sc_Tx] | grind [-Prod, I_Jd, I_Pg, I_Pr, I_Pt, I_Tx, o_bn, upd]
                · exact g43
                · exact g44
                · exact g45
                · exact g73
                · first | exact o_muL (by first | with_reducible exact True.intro | with_reducible assumption | grind [-Prod] | grind [-Prod, → sc_Jd, → sc_Pg, → sc_Pr, → sc_Pt, → sc_Tx] | grind [-Prod, I_Jd, I_Pg, I_Pr, I_Pt, I_Tx, o_bn, upd]) | exact o_nuL (by first | with_reducible exact True.intro | with_reducible assumption | grind [-Prod] | grind [-Prod, → sc_Jd, → sc_Pg, → sc_Pr, → sc_Pt, → sc_Tx] | grind [-Prod, I_Jd, I_Pg, I_Pr, I_Pt, I_Tx, o_bn, upd]) | (first | with_reducible exact True.intro | with_reducible assumption | grind [-Prod] | grind [-Prod, → sc_Jd, → sc_Pg, → sc_Pr, → sc_Pt, → sc_Tx] | grind [-Prod, I_Jd, I_Pg, I_Pr, I_Pt, I_Tx, o_bn, upd])
        · unfold m_Jd_apply_j231
          refine o_okB (s_Tx_nextChild  h_T1) ?_
          intro q7_76 _
          refine o_okN (fun x15_242_77 ex15_242_77 => ?_)
          refine o_okS ?_
          refine ⟨fun _ => ?_, fun h => absurd rfl h⟩
          refine ⟨?_, ?_, ?_, ?_, ?_, ?_⟩
          · first | with_reducible exact True.intro | with_reducible assumption | grind [-Prod] | grind [-Prod, → sc_Jd, → sc_Pg, → sc_Pr, → sc_Pt, → sc_Tx] | grind [-Prod, I_Jd, I_Pg, I_Pr, I_Pt, I_Tx, o_bn, upd]
          · exact l1
          · exact l2
          · exact l3
          · exact l4
          · first | exact o_muL (by first | with_reducible exact True.intro | with_reducible assumption | grind [-Prod] | grind [-Prod, → sc_Jd, → sc_Pg, → sc_Pr, → sc_Pt, → sc_Tx] | grind [-Prod, I_Jd, I_Pg, I_Pr, I_Pt, I_Tx, o_bn, upd]) | exact o_nuL (by first | with_reducible exact True.intro | with_reducible assumption | grind [-Prod] | grind [-Prod, → sc_Jd, → sc_Pg, → sc_Pr, → sc_Pt, → sc_Tx] | grind [-Prod, I_Jd, I_Pg, I_Pr, I_Pt, I_Tx, o_bn, upd]) | (first | with_reducible exact True.intro | with_reducible assumption | grind [-Prod] | grind [-Prod, → sc_Jd, → sc_Pg, → sc_Pr, → sc_Pt, → sc_Tx] | grind [-Prod, I_Jd, I_Pg, I_Pr, I_Pt, I_Tx, o_bn, upd])
      · refine o_okS ?_
        refine ⟨fun h => absurd (show (1 : Nat) = 0 from h) (by decide), fun _ => ?_⟩
        refine ⟨?_, ?_, ?_, ?_⟩
        · exact l1
        · exact l2
        · exact l3
        · exact l4
theorem l_Jd_apply_b123 {n : Nat} {rec : Int32 → Int32 → Int32 → STx → STx → SPg → SPt → SMk → SLd → SPr → SJd → Option (Int32 × SPg × SPt × SLd × SPr × SJd)} {x1 : Nat} {x2 : Int32} {x3 : Int32} {x4 : Int32} {x5 : Int32} {x8 : Int32} {x9 : Int32} {x10 : Int32} {x11 : Int64} {x14 : Int32} {T0 : STx} {T1 : STx} {Mk : SMk} {z : Int32 × Int32 × Int32 × Int32 × SPg × SPt × SLd × SPr × SJd} (hn : o_big ≤ n) (h_T0 : I_Tx T0) (h_T1 : I_Tx T1) (p0 : x4 ≤ 100) (hrec : ∀ (v0 v1 : Int32) (T0 T1 : STx) (Pg : SPg) (Pt : SPt) (Mk : SMk) (Ld : SLd) (Pr : SPr) (Jd : SJd), I_Tx T0 → I_Tx T1 → I_Pg Pg → I_Pt Pt → I_Pr Pr → I_Jd Jd → o_ok (rec v0 v1 (x4 + 1) T0 T1 Pg Pt Mk Ld Pr Jd) (fun r => (r.1 = 0 ∨ r.1 = 1) ∧ I_Pg r.2.1 ∧ I_Pt r.2.2.1 ∧ I_Pr r.2.2.2.2.1 ∧ I_Jd r.2.2.2.2.2)) (l0 : 0 ≤ z.2.2.2.1) (l1 : I_Pg z.2.2.2.2.1) (l2 : I_Pt z.2.2.2.2.2.1) (l3 : I_Pr z.2.2.2.2.2.2.2.1) (l4 : I_Jd z.2.2.2.2.2.2.2.2) : o_ok (o_lp n (m_Jd_apply_b123 n rec x1 x2 x3 x4 x5 x8 x9 x10 x11 x14 T0 T1 Mk) z) (fun q => q.1 ≠ 0 ∧ I_Pg q.2.2.2.2.2.1 ∧ I_Pt q.2.2.2.2.2.2.1 ∧ I_Pr q.2.2.2.2.2.2.2.2.1 ∧ I_Jd q.2.2.2.2.2.2.2.2.2) := by
  exact o_lpR (fun z => 0 ≤ z.2.2.2.1 ∧ I_Pg z.2.2.2.2.1 ∧ I_Pt z.2.2.2.2.2.1 ∧ I_Pr z.2.2.2.2.2.2.2.1 ∧ I_Jd z.2.2.2.2.2.2.2.2) (fun z => o_mu z.2.2.2.1) hn (o_muB) ⟨l0, l1, l2, l3, l4⟩
    (fun z hz => by obtain ⟨l0, l1, l2, l3, l4⟩ := hz; exact o_okW (s_Jd_apply_b123 hn h_T0 h_T1 p0 hrec l0 l1 l2 l3 l4) (fun q hq => ⟨fun h => by have := hq.1 h; grind, hq.2⟩))
