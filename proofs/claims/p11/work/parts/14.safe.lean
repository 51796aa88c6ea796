theorem s_Rd_hasRoom {Rd : SRd} (h_Rd : I_Rd Rd) : o_ok (m_Rd_hasRoom Rd) (fun r => (r = 0 ∨ r = 1)) := by
  unfold m_Rd_hasRoom
  refine o_okI (fun c1 => ?_) (fun c1 => ?_)
  · refine o_okS ?_
    first | with_reducible exact True.intro | with_reducible assumption | grind [-Prod] | grind [-Prod, → sc_Rd] | grind [-Prod, I_Rd, o_bn, upd]
  · refine o_okS ?_
    first | with_reducible exact True.intro | with_reducible assumption | grind [-Prod] | grind [-Prod, → sc_Rd] | grind [-Prod, I_Rd, o_bn, upd]
theorem s_Rd_addWord {x1 : Int32} {Rd : SRd} (h_Rd : I_Rd Rd) : o_ok (m_Rd_addWord x1 Rd) (fun r => I_Rd r) := by
  unfold m_Rd_addWord
  refine o_okI (fun c1 => ?_) (fun c1 => ?_)
  · refine o_okS ?_
    exact h_Rd
  · refine o_okG (o_inM (m := 2050) rfl (by first | with_reducible exact True.intro | with_reducible assumption | grind [-Prod] | grind [-Prod, → sc_Rd] | grind [-Prod, I_Rd, o_bn, upd]) (by first | with_reducible exact True.intro | with_reducible assumption | grind [-Prod] | grind [-Prod, → sc_Rd] | grind [-Prod, I_Rd, o_bn, upd])) ?_
    refine o_okS ?_
    exact ⟨(by first | with_reducible exact True.intro | with_reducible assumption | grind [-Prod] | grind [-Prod, → sc_Rd] | grind [-Prod, I_Rd, o_bn, upd]), (by first | with_reducible exact True.intro | with_reducible assumption | grind [-Prod] | grind [-Prod, → sc_Rd] | grind [-Prod, I_Rd, o_bn, upd])⟩
theorem s_Rd_octets {Rd : SRd} (h_Rd : I_Rd Rd) : o_ok (m_Rd_octets Rd) (fun r => True) := by
  unfold m_Rd_octets
  refine o_okS ?_
  trivial
theorem s_SJ_feed {x1 : Int32} {x2 : Int32} {x3 : Int32} {x4 : Int32} {x5 : Int32} {Rd : SRd} (h_Rd : I_Rd Rd) : o_ok (m_SJ_feed x1 x2 x3 x4 x5 Rd) (fun r => I_Rd r.2.2) := by
  unfold m_SJ_feed
  refine o_okB (s_Rd_hasRoom  h_Rd) ?_
  intro q1_1 g2
  refine o_okI (fun c3 => ?_) (fun c3 => ?_)
  · refine o_okS ?_
    exact h_Rd
  · refine o_okB (s_Rd_addWord  h_Rd) ?_
    intro q2_4 g5
    refine o_okB (s_Rd_addWord  g5) ?_
    intro q3_6 g7
    refine o_okB (s_Rd_addWord  g7) ?_
    intro q4_8 g9
    refine o_okB (s_Rd_addWord  g9) ?_
    intro q5_10 g11
    refine o_okB (s_Rd_addWord  g11) ?_
    intro q6_12 g13
    refine o_okB (s_Rd_octets  g13) ?_
    intro q7_14 _
    refine o_okS ?_
    exact g13
theorem s_Ck_forget {Ck : SCk} (h_Ck : I_Ck Ck) : o_ok (m_Ck_forget Ck) (fun r => I_Ck r) := by
  unfold m_Ck_forget
  refine o_okS ?_
  exact ⟨h_Ck.1, h_Ck.2⟩
theorem s_Tx_clear {a0 : STx} (h_a0 : I_Tx a0) : o_ok (m_Tx_clear a0) (fun r => I_Tx r) := by
  unfold m_Tx_clear
  refine o_okS ?_
  exact ⟨(by first | with_reducible exact True.intro | with_reducible assumption | grind [-Prod] | grind [-Prod, → sc_Tx] | grind [-Prod, I_Tx, o_bn, upd]), (by first | with_reducible exact True.intro | with_reducible assumption | grind [-Prod] | grind [-Prod, → sc_Tx] | grind [-Prod, I_Tx, o_bn, upd]), (by first | with_reducible exact True.intro | with_reducible assumption | grind [-Prod] | grind [-Prod, → sc_Tx] | grind [-Prod, I_Tx, o_bn, upd]), (by first | with_reducible exact True.intro | with_reducible assumption | grind [-Prod] | grind [-Prod, → sc_Tx] | grind [-Prod, I_Tx, o_bn, upd]), h_a0.2.2.2.2.1, h_a0.2.2.2.2.2.1, h_a0.2.2.2.2.2.2⟩
theorem s_Rd_peek {Rd : SRd} (h_Rd : I_Rd Rd) : o_ok (m_Rd_peek Rd) (fun r => (-1 ≤ r ∧ r ≤ 255)) := by
  unfold m_Rd_peek
  refine o_okN (fun x1_6_1 ex1_6_1 => ?_)
  refine o_okI (fun c2 => ?_) (fun c2 => ?_)
  · refine o_okS ?_
    first | with_reducible exact True.intro | with_reducible assumption | grind [-Prod, o_shr2, o_and255] | grind [-Prod, → sc_Rd, o_shr2, o_and255] | grind [-Prod, I_Rd, o_bn, upd, o_shr2, o_and255]
  · refine o_okI (fun c3 => ?_) (fun c3 => ?_)
    · refine o_okS ?_
      first | with_reducible exact True.intro | with_reducible assumption | grind [-Prod, o_shr2, o_and255] | grind [-Prod, → sc_Rd, o_shr2, o_and255] | grind [-Prod, I_Rd, o_bn, upd, o_shr2, o_and255]
    · refine o_okI (fun c4 => ?_) (fun c4 => ?_)
      · refine o_okG (o_inM (m := 2050) rfl (by first | with_reducible exact True.intro | with_reducible assumption | grind [-Prod, o_shr2, o_and255] | grind [-Prod, → sc_Rd, o_shr2, o_and255] | grind [-Prod, I_Rd, o_bn, upd, o_shr2, o_and255]) (by first | with_reducible exact True.intro | with_reducible assumption | grind [-Prod, o_shr2, o_and255] | grind [-Prod, → sc_Rd, o_shr2, o_and255] | grind [-Prod, I_Rd, o_bn, upd, o_shr2, o_and255])) ?_
        refine o_okS ?_
        first | with_reducible exact True.intro | with_reducible assumption | grind [-Prod, o_shr2, o_and255] | grind [-Prod, → sc_Rd, o_shr2, o_and255] | grind [-Prod, I_Rd, o_bn, upd, o_shr2, o_and255]
      · refine o_okS ?_
        first | with_reducible exact True.intro | with_reducible assumption | grind [-Prod, o_shr2, o_and255] | grind [-Prod, → sc_Rd, o_shr2, o_and255] | grind [-Prod, I_Rd, o_bn, upd, o_shr2, o_and255]
theorem s_Rd_skipBlanks_b2 {n : Nat} {z : Int32 × SRd} (hn : o_big ≤ n) (l0 : 0 ≤ z.1) (l1 : I_Rd z.2) : o_ok (m_Rd_skipBlanks_b2 n z) (fun q => (q.1 = 0 → 0 ≤ q.2.1 ∧ I_Rd q.2.2 ∧ o_mu q.2.1 < o_mu z.1) ∧ (q.1 ≠ 0 → I_Rd q.2.2)) := by
  unfold m_Rd_skipBlanks_b2
  refine o_okI (fun c1 => ?_) (fun c1 => ?_)
  · refine o_okS ?_
    refine ⟨fun h => absurd (show (2 : Nat) = 0 from h) (by decide), fun _ => ?_⟩
    exact l1
  · refine o_okB (s_Rd_peek  l1) ?_
    intro q1_2 g3
    refine o_okI (fun c4 => ?_) (fun c4 => ?_)
    · unfold m_Rd_skipBlanks_j39
      refine o_okN (fun x1_49_5 ex1_49_5 => ?_)
      refine o_okS ?_
      refine ⟨fun _ => ?_, fun h => absurd rfl h⟩
      refine ⟨?_, ?_, ?_⟩
      · first | with_reducible exact True.intro | with_reducible assumption | grind [-Prod] | grind [-Prod, → sc_Rd] | grind [-Prod, I_Rd, o_bn, upd]
      · exact ⟨l1.1, l1.2⟩
      · first | exact o_muL (by first | with_reducible exact True.intro | with_reducible assumption | grind [-Prod] | grind [-Prod, → sc_Rd] | grind [-Prod, I_Rd, o_bn, upd]) | exact o_nuL (by first | with_reducible exact True.intro | with_reducible assumption | grind [-Prod] | grind [-Prod, → sc_Rd] | grind [-Prod, I_Rd, o_bn, upd]) | (first | with_reducible exact True.intro | with_reducible assumption | grind [-Prod] | grind [-Prod, → sc_Rd] | grind [-Prod, I_Rd, o_bn, upd])
    · refine o_okI (fun c6 => ?_) (fun c6 => ?_)
      · unfold m_Rd_skipBlanks_j39
        refine o_okN (fun x1_49_7 ex1_49_7 => ?_)
        refine o_okS ?_
        refine ⟨fun _ => ?_, fun h => absurd rfl h⟩
        refine ⟨?_, ?_, ?_⟩
        · first | with_reducible exact True.intro | with_reducible assumption | grind [-Prod] | grind [-Prod, → sc_Rd] | grind [-Prod, I_Rd, o_bn, upd]
        · exact ⟨l1.1, l1.2⟩
        · first | exact o_muL (by first | with_reducible exact True.intro | with_reducible assumption | grind [-Prod] | grind [-Prod, → sc_Rd] | grind [-Prod, I_Rd, o_bn, upd]) | exact o_nuL (by first | with_reducible exact True.intro | with_reducible assumption | grind [-Prod] | grind [-Prod, → sc_Rd] | grind [-Prod, I_Rd, o_bn, upd]) | (first | with_reducible exact True.intro | with_reducible assumption | grind [-Prod] | grind [-Prod, → sc_Rd] | grind [-Prod, I_Rd, o_bn, upd])
      · refine o_okI (fun c8 => ?_) (fun c8 => ?_)
        · unfold m_Rd_skipBlanks_j39
          refine o_okN (fun x1_49_9 ex1_49_9 => ?_)
          refine o_okS ?_
          refine ⟨fun _ => ?_, fun h => absurd rfl h⟩
          refine ⟨?_, ?_, ?_⟩
          · first | with_reducible exact True.intro | with_reducible assumption | grind [-Prod] | grind [-Prod, → sc_Rd] | grind [-Prod, I_Rd, o_bn, upd]
          · exact ⟨l1.1, l1.2⟩
          · first | exact o_muL (by first | with_reducible exact True.intro | with_reducible assumption | grind [-Prod] | grind [-Prod, → sc_Rd] | grind [-Prod, I_Rd, o_bn, upd]) | exact o_nuL (by first | with_reducible exact True.intro | with_reducible assumption | grind [-Prod] | grind [-Prod, → sc_Rd] | grind [-Prod, I_Rd, o_bn, upd]) | (first | with_reducible exact True.intro | with_reducible assumption | grind [-Prod] | grind [-Prod, → sc_Rd] | grind [-Prod, I_Rd, o_bn, upd])
        · refine o_okI (fun c10 => ?_) (fun c10 => ?_)
          · unfold m_Rd_skipBlanks_j39
            refine o_okN (fun x1_49_11 ex1_49_11 => ?_)
            refine o_okS ?_
            refine ⟨fun _ => ?_, fun h => absurd rfl h⟩
            refine ⟨?_, ?_, ?_⟩
            · first | with_reducible exact True.intro | with_reducible assumption | grind [-Prod] | grind [-Prod, → sc_Rd] | grind [-Prod, I_Rd, o_bn, upd]
            · exact ⟨l1.1, l1.2⟩
            · first | exact o_muL (by first | with_reducible exact True.intro | with_reducible assumption | grind [-Prod] | grind [-Prod, → sc_Rd] | grind [-Prod, I_Rd, o_bn, upd]) | exact o_nuL (by first | with_reducible exact True.intro | with_reducible assumption | grind [-Prod] | grind [-Prod, → sc_Rd] | grind [-Prod, I_Rd, o_bn, upd]) | (first | with_reducible exact True.intro | with_reducible assumption | grind [-Prod] | grind [-Prod, → sc_Rd] | grind [-Prod, I_Rd, o_bn, upd])
          · refine o_okS ?_
            refine ⟨fun h => absurd (show (1 : Nat) = 0 from h) (by decide), fun _ => ?_⟩
            exact l1
theorem l_Rd_skipBlanks_b2 {n : Nat} {z : Int32 × SRd} (hn : o_big ≤ n) (l0 : 0 ≤ z.1) (l1 : I_Rd z.2) : o_ok (o_lp n (m_Rd_skipBlanks_b2 n) z) (fun q => q.1 ≠ 0 ∧ I_Rd q.2.2) := by
  exact o_lpR (fun z => 0 ≤ z.1 ∧ I_Rd z.2) (fun z => o_mu z.1) hn (o_muB) ⟨l0, l1⟩
    (fun z hz => by obtain ⟨l0, l1⟩ := hz; exact o_okW (s_Rd_skipBlanks_b2 hn l0 l1) (fun q hq => ⟨fun h => by have := hq.1 h; grind, hq.2⟩))
theorem s_Rd_skipBlanks {n : Nat} {Rd : SRd} (hn : o_big ≤ n) (h_Rd : I_Rd Rd) : o_ok (m_Rd_skipBlanks n Rd) (fun r => I_Rd r) := by
  unfold m_Rd_skipBlanks
  refine o_okB (l_Rd_skipBlanks_b2  hn (by first | with_reducible exact True.intro | with_reducible assumption | grind [-Prod] | grind [-Prod, → sc_Rd] | grind [-Prod, I_Rd, o_bn, upd]) h_Rd) ?_
  intro q2_1 ⟨yq2_1, g2⟩
  refine o_okI (fun c3 => ?_) (fun c3 => ?_)
  · refine o_okS ?_
    exact g2
  · refine o_okS ?_
    exact g2
theorem s_SJ_isDigit {x0 : Int32}  : o_ok (m_SJ_isDigit x0) (fun r => (r = 0 ∨ r = 1) ∧ (r ≠ 0 → 48 ≤ x0 ∧ x0 ≤ 57)) := by
  unfold m_SJ_isDigit
  refine o_okI (fun c1 => ?_) (fun c1 => ?_)
  · refine o_okS ?_
    refine ⟨?_, ?_⟩
    · first | with_reducible exact True.intro | with_reducible assumption | grind [-Prod] | grind [-Prod] | grind [-Prod, o_bn, upd]
    · first | with_reducible exact True.intro | with_reducible assumption | grind [-Prod] | grind [-Prod] | grind [-Prod, o_bn, upd]
  · refine o_okI (fun c2 => ?_) (fun c2 => ?_)
    · refine o_okS ?_
      refine ⟨?_, ?_⟩
      · first | with_reducible exact True.intro | with_reducible assumption | grind [-Prod] | grind [-Prod] | grind [-Prod, o_bn, upd]
      · first | with_reducible exact True.intro | with_reducible assumption | grind [-Prod] | grind [-Prod] | grind [-Prod, o_bn, upd]
    · refine o_okS ?_
      refine ⟨?_, ?_⟩
      · first | with_reducible exact True.intro | with_reducible assumption | grind [-Prod] | grind [-Prod] | grind [-Prod, o_bn, upd]
      · first | with_reducible exact True.intro | with_reducible assumption | grind [-Prod] | grind [-Prod] | grind [-Prod, o_bn, upd]
theorem s_Rd_kindThatBegins {x0 : Int32}  : o_ok (m_Rd_kindThatBegins x0) (fun r => (-1 ≤ r ∧ r ≤ 6)) := by
  unfold m_Rd_kindThatBegins
  refine o_okI (fun c1 => ?_) (fun c1 => ?_)
  · refine o_okS ?_
    first | with_reducible exact True.intro | with_reducible assumption | grind [-Prod] | grind [-Prod] | grind [-Prod, o_bn, upd]
  · refine o_okI (fun c2 => ?_) (fun c2 => ?_)
    · refine o_okS ?_
      first | with_reducible exact True.intro | with_reducible assumption | grind [-Prod] | grind [-Prod] | grind [-Prod, o_bn, upd]
    · refine o_okI (fun c3 => ?_) (fun c3 => ?_)
      · refine o_okS ?_
        first | with_reducible exact True.intro | with_reducible assumption | grind [-Prod] | grind [-Prod] | grind [-Prod, o_bn, upd]
      · refine o_okI (fun c4 => ?_) (fun c4 => ?_)
        · refine o_okS ?_
          first | with_reducible exact True.intro | with_reducible assumption | grind [-Prod] | grind [-Prod] | grind [-Prod, o_bn, upd]
        · refine o_okI (fun c5 => ?_) (fun c5 => ?_)
          · refine o_okS ?_
            first | with_reducible exact True.intro | with_reducible assumption | grind [-Prod] | grind [-Prod] | grind [-Prod, o_bn, upd]
          · refine o_okI (fun c6 => ?_) (fun c6 => ?_)
            · refine o_okS ?_
              first | with_reducible exact True.intro | with_reducible assumption | grind [-Prod] | grind [-Prod] | grind [-Prod, o_bn, upd]
            · refine o_okI (fun c7 => ?_) (fun c7 => ?_)
              · refine o_okS ?_
                first | with_reducible exact True.intro | with_reducible assumption | grind [-Prod] | grind [-Prod] | grind [-Prod, o_bn, upd]
              · refine o_okB (s_SJ_isDigit ) ?_
                intro q1_8 ⟨g9, g10⟩
                refine o_okI (fun c11 => ?_) (fun c11 => ?_)
                · refine o_okS ?_
                  first | with_reducible exact True.intro | with_reducible assumption | grind [-Prod] | grind [-Prod] | grind [-Prod, o_bn, upd]
                · refine o_okS ?_
                  first | with_reducible exact True.intro | with_reducible assumption | grind [-Prod] | grind [-Prod] | grind [-Prod, o_bn, upd]
theorem s_Rd_refuse {x1 : Int32} {Rd : SRd} (h_Rd : I_Rd Rd) : o_ok (m_Rd_refuse x1 Rd) (fun r => (r.1 = 0 ∨ r.1 = 1) ∧ I_Rd r.2) := by
  unfold m_Rd_refuse
  refine o_okS ?_
  refine ⟨?_, ?_⟩
  · first | with_reducible exact True.intro | with_reducible assumption | grind [-Prod] | grind [-Prod, → sc_Rd] | grind [-Prod, I_Rd, o_bn, upd]
  · exact ⟨h_Rd.1, h_Rd.2⟩
theorem s_Tx_begin {x1 : Int32} {x2 : Int32} {x3 : Int32} {x4 : Int32} {a0 : STx} (h_a0 : I_Tx a0) : o_ok (m_Tx_begin x1 x2 x3 x4 a0) (fun r => I_Tx r.2) := by
  unfold m_Tx_begin
  refine o_okI (fun c1 => ?_) (fun c1 => ?_)
  · refine o_okN (fun x5_16_2 ex5_16_2 => ?_)
    refine o_okG (o_inM (m := 1000) rfl (by first | with_reducible exact True.intro | with_reducible assumption | grind [-Prod] | grind [-Prod, → sc_Tx] | grind [-Prod, I_Tx, o_bn, upd]) (by first | with_reducible exact True.intro | with_reducible assumption | grind [-Prod] | grind [-Prod, → sc_Tx] | grind [-Prod, I_Tx, o_bn, upd])) ?_
    refine o_okG (o_inM (m := 1000) rfl (by first | with_reducible exact True.intro | with_reducible assumption | grind [-Prod] | grind [-Prod, → sc_Tx] | grind [-Prod, I_Tx, o_bn, upd]) (by first | with_reducible exact True.intro | with_reducible assumption | grind [-Prod] | grind [-Prod, → sc_Tx] | grind [-Prod, I_Tx, o_bn, upd])) ?_
    refine o_okG (o_inM (m := 1000) rfl (by first | with_reducible exact True.intro | with_reducible assumption | grind [-Prod] | grind [-Prod, → sc_Tx] | grind [-Prod, I_Tx, o_bn, upd]) (by first | with_reducible exact True.intro | with_reducible assumption | grind [-Prod] | grind [-Prod, → sc_Tx] | grind [-Prod, I_Tx, o_bn, upd])) ?_
    refine o_okG (o_inM (m := 1000) rfl (by first | with_reducible exact True.intro | with_reducible assumption | grind [-Prod] | grind [-Prod, → sc_Tx] | grind [-Prod, I_Tx, o_bn, upd]) (by first | with_reducible exact True.intro | with_reducible assumption | grind [-Prod] | grind [-Prod, → sc_Tx] | grind [-Prod, I_Tx, o_bn, upd])) ?_
    refine o_okG (o_inM (m := 1000) rfl (by first | with_reducible exact True.intro | with_reducible assumption | grind [-Prod] | grind [-Prod, → sc_Tx] | grind [-Prod, I_Tx, o_bn, upd]) (by first | with_reducible exact True.intro | with_reducible assumption | grind [-Prod] | grind [-Prod, → sc_Tx] | grind [-Prod, I_Tx, o_bn, upd])) ?_
    refine o_okG (o_inM (m := 1000) rfl (by first | with_reducible exact True.intro | with_reducible assumption | grind [-Prod] | grind [-Prod, → sc_Tx] | grind [-Prod, I_Tx, o_bn, upd]) (by first | with_reducible exact True.intro | with_reducible assumption | grind [-Prod] | grind [-Prod, → sc_Tx] | grind [-Prod, I_Tx, o_bn, upd])) ?_
    refine o_okG (o_inM (m := 1000) rfl (by first | with_reducible exact True.intro | with_reducible assumption | grind [-Prod] | grind [-Prod, → sc_Tx] | grind [-Prod, I_Tx, o_bn, upd]) (by first | with_reducible exact True.intro | with_reducible assumption | grind [-Prod] | grind [-Prod, → sc_Tx] | grind [-Prod, I_Tx, o_bn, upd])) ?_
    refine o_okG (o_inM (m := 1000) rfl (by first | with_reducible exact True.intro | with_reducible assumption | grind [-Prod] | grind [-Prod, → sc_Tx] | grind [-Prod, I_Tx, o_bn, upd]) (by first | with_reducible exact True.intro | with_reducible assumption | grind [-Prod] | grind [-Prod, → sc_Tx] | grind [-Prod, I_Tx, o_bn, upd])) ?_
    refine o_okG (o_inM (m := 1000) rfl (by first | with_reducible exact True.intro | with_reducible assumption | grind [-Prod] | grind [-Prod, → sc_Tx] | grind [-Prod, I_Tx, o_bn, upd]) (by first | with_reducible exact True.intro | with_reducible assumption | grind [-Prod] | grind [-Prod, → sc_Tx] | grind [-Prod, I_Tx, o_bn, upd])) ?_
    refine o_okS ?_
    exact ⟨(by first | with_reducible exact True.intro | with_reducible assumption | grind [-Prod] | grind [-Prod, → sc_Tx] | grind [-Prod, I_Tx, o_bn, upd]), (by first | with_reducible exact True.intro | with_reducible assumption | grind [-Prod] | grind [-Prod, → sc_Tx] | grind [-Prod, I_Tx, o_bn, upd]), h_a0.2.2.1, h_a0.2.2.2.1, (o_bnU h_a0.2.2.2.2.1 (by first | with_reducible exact True.intro | with_reducible assumption | grind [-Prod] | grind [-Prod, → sc_Tx] | grind [-Prod, I_Tx, o_bn, upd]) (by first | with_reducible exact True.intro | with_reducible assumption | grind [-Prod] | grind [-Prod, → sc_Tx] | grind [-Prod, I_Tx, o_bn, upd])), (o_bnU h_a0.2.2.2.2.2.1 (by first | with_reducible exact True.intro | with_reducible assumption | grind [-Prod] | grind [-Prod, → sc_Tx] | grind [-Prod, I_Tx, o_bn, upd]) (by first | with_reducible exact True.intro | with_reducible assumption | grind [-Prod] | grind [-Prod, → sc_Tx] | grind [-Prod, I_Tx, o_bn, upd])), h_a0.2.2.2.2.2.2⟩
  · refine o_okS ?_
    exact h_a0
theorem s_JS_coder {x0 : Nat}  : o_ok (m_JS_coder x0) (fun r => r = 0) := by
  unfold m_JS_coder
  refine o_okI (fun c1 => ?_) (fun c1 => ?_)
  · refine o_okG (by first | decide | trivial | assumption | grind) ?_
    refine o_okS ?_
    first | decide | trivial | assumption | grind
  · refine o_okG (by first | decide | trivial | assumption | grind) ?_
    refine o_okS ?_
    first | decide | trivial | assumption | grind
theorem s_JS_length {x0 : Nat}  : o_ok (m_JS_length x0) (fun r => r = o_sl x0) := by
  unfold m_JS_length
  refine o_okB (s_JS_coder ) ?_
  intro q1_1 g2
  refine o_okS ?_
  first | with_reducible exact True.intro | with_reducible assumption | grind [-Prod, o_sh0] | grind [-Prod, o_sh0] | grind [-Prod, o_bn, upd, o_sh0]
theorem s_JS_isLatin1 {x0 : Nat}  : o_ok (m_JS_isLatin1 x0) (fun r => r = 1) := by
  unfold m_JS_isLatin1
  refine o_okI (fun c1 => ?_) (fun c1 => ?_)
  · refine o_okS ?_
    first | with_reducible exact True.intro | with_reducible assumption | grind [-Prod] | grind [-Prod] | grind [-Prod, o_bn, upd]
  · refine o_okI (fun c2 => ?_) (fun c2 => ?_)
    · refine o_okS ?_
      first | with_reducible exact True.intro | with_reducible assumption | grind [-Prod] | grind [-Prod] | grind [-Prod, o_bn, upd]
    · refine o_okS ?_
      first | with_reducible exact True.intro | with_reducible assumption | grind [-Prod] | grind [-Prod] | grind [-Prod, o_bn, upd]
theorem s_JL_charAt {x0 : Nat} {x1 : Int32} (p0 : 0 ≤ x1) (p1 : x1 < o_sl x0) : o_ok (m_JL_charAt x0 x1) (fun r => o_nr .char r = true) := by
  unfold m_JL_charAt
  have h : o_ck x1 (o_sl x0) = true := by
    unfold o_ck
    have a : ¬ x1 < 0 := by grind
    simp [a, p1]
  exact o_okG h (o_okG (o_inS p0 p1) (o_okG (o_chr p0 p1) (o_okS (o_chr p0 p1))))
theorem s_JS_charAt {x0 : Nat} {x1 : Int32} (p0 : 0 ≤ x1) (p1 : x1 < o_sl x0) : o_ok (m_JS_charAt x0 x1) (fun r => True) := by
  unfold m_JS_charAt
  refine o_okB (s_JS_isLatin1 ) ?_
  intro q1_1 g2
  refine o_okI (fun c3 => ?_) (fun c3 => ?_)
  · exfalso; grind
  · refine o_okB (s_JL_charAt  (by first | with_reducible exact True.intro | with_reducible assumption | grind [-Prod] | grind [-Prod] | grind [-Prod, o_bn, upd]) (by first | with_reducible exact True.intro | with_reducible assumption | grind [-Prod] | grind [-Prod] | grind [-Prod, o_bn, upd])) ?_
    intro q2_4 g5
    refine o_okG (by assumption) ?_
    refine o_okS ?_
    trivial
theorem s_Rd_readWord_b2 {n : Nat} {x1 : Nat} {z : Int32 × SRd} (hn : o_big ≤ n) (l0 : 0 ≤ z.1) (l1 : I_Rd z.2) : o_ok (m_Rd_readWord_b2 n x1 z) (fun q => (q.1 = 0 → 0 ≤ q.2.1 ∧ I_Rd q.2.2 ∧ o_mu q.2.1 < o_mu z.1) ∧ (q.1 ≠ 0 → I_Rd q.2.2)) := by
  unfold m_Rd_readWord_b2
  refine o_okB (s_JS_length ) ?_
  intro q1_1 g2
  refine o_okI (fun c3 => ?_) (fun c3 => ?_)
  · refine o_okS ?_
    refine ⟨fun h => absurd (show (2 : Nat) = 0 from h) (by decide), fun _ => ?_⟩
    exact l1
  · refine o_okB (s_Rd_peek  l1) ?_
    intro q2_4 g5
    refine o_okB (s_JS_charAt  (by first | with_reducible exact True.intro | with_reducible assumption | grind [-Prod] | grind [-Prod, → sc_Rd] | grind [-Prod, I_Rd, o_bn, upd]) (by first | with_reducible exact True.intro | with_reducible assumption | grind [-Prod] | grind [-Prod, → sc_Rd] | grind [-Prod, I_Rd, o_bn, upd])) ?_
    intro q3_6 _
    refine o_okI (fun c7 => ?_) (fun c7 => ?_)
    · refine o_okN (fun x2_41_8 ex2_41_8 => ?_)
      refine o_okS ?_
      refine ⟨fun _ => ?_, fun h => absurd rfl h⟩
      refine ⟨?_, ?_, ?_⟩
      · first | with_reducible exact True.intro | with_reducible assumption | grind [-Prod] | grind [-Prod, → sc_Rd] | grind [-Prod, I_Rd, o_bn, upd]
      · exact ⟨l1.1, l1.2⟩
      · first | exact o_muL (by first | with_reducible exact True.intro | with_reducible assumption | grind [-Prod] | grind [-Prod, → sc_Rd] | grind [-Prod, I_Rd, o_bn, upd]) | exact o_nuL (by first | with_reducible exact True.intro | with_reducible assumption | grind [-Prod] | grind [-Prod, → sc_Rd] | grind [-Prod, I_Rd, o_bn, upd]) | (first | with_reducible exact True.intro | with_reducible assumption | grind [-Prod] | grind [-Prod, → sc_Rd] | grind [-Prod, I_Rd, o_bn, upd])
    · refine o_okS ?_
      refine ⟨fun h => absurd (show (1 : Nat) = 0 from h) (by decide), fun _ => ?_⟩
      exact l1
theorem l_Rd_readWord_b2 {n : Nat} {x1 : Nat} {z : Int32 × SRd} (hn : o_big ≤ n) (l0 : 0 ≤ z.1) (l1 : I_Rd z.2) : o_ok (o_lp n (m_Rd_readWord_b2 n x1) z) (fun q => q.1 ≠ 0 ∧ I_Rd q.2.2) := by
  exact o_lpR (fun z => 0 ≤ z.1 ∧ I_Rd z.2) (fun z => o_mu z.1) hn (o_muB) ⟨l0, l1⟩
    (fun z hz => by obtain ⟨l0, l1⟩ := hz; exact o_okW (s_Rd_readWord_b2 hn l0 l1) (fun q hq => ⟨fun h => by have := hq.1 h; grind, hq.2⟩))
theorem s_Rd_readWord {n : Nat} {x1 : Nat} {Rd : SRd} (hn : o_big ≤ n) (h_Rd : I_Rd Rd) : o_ok (m_Rd_readWord n x1 Rd) (fun r => (r.1 = 0 ∨ r.1 = 1) ∧ I_Rd r.2) := by
  unfold m_Rd_readWord
  refine o_okB (l_Rd_readWord_b2  hn (by first | with_reducible exact True.intro | with_reducible assumption | grind [-Prod] | grind [-Prod, → sc_Rd] | grind [-Prod, I_Rd, o_bn, upd]) h_Rd) ?_
  intro q4_1 ⟨yq4_1, g2⟩
  refine o_okI (fun c3 => ?_) (fun c3 => ?_)
  · refine o_okB (s_Rd_refuse  g2) ?_
    intro q5_4 ⟨g5, g6⟩
    refine o_okG (o_zbM (by first | with_reducible exact True.intro | with_reducible assumption | grind [-Prod] | grind [-Prod, → sc_Rd] | grind [-Prod, I_Rd, o_bn, upd])) ?_
    refine o_okS ?_
    refine ⟨?_, ?_⟩
    · first | with_reducible exact True.intro | with_reducible assumption | grind [-Prod] | grind [-Prod, → sc_Rd] | grind [-Prod, I_Rd, o_bn, upd]
    · exact g6
  · refine o_okS ?_
    refine ⟨?_, ?_⟩
    · first | with_reducible exact True.intro | with_reducible assumption | grind [-Prod] | grind [-Prod, → sc_Rd] | grind [-Prod, I_Rd, o_bn, upd]
    · exact g2
theorem s_Tx_addDigit {x1 : Int32} {a0 : STx} (h_a0 : I_Tx a0) (p0 : (-1 ≤ x1 ∧ x1 ≤ 1114111)) : o_ok (m_Tx_addDigit x1 a0) (fun r => I_Tx r) := by
  unfold m_Tx_addDigit
  refine o_okI (fun c1 => ?_) (fun c1 => ?_)
  · refine o_okS ?_
    exact h_a0
  · refine o_okG (o_inM (m := 8192) rfl (by first | with_reducible exact True.intro | with_reducible assumption | grind [-Prod] | grind [-Prod, → sc_Tx] | grind [-Prod, I_Tx, o_bn, upd]) (by first | with_reducible exact True.intro | with_reducible assumption | grind [-Prod] | grind [-Prod, → sc_Tx] | grind [-Prod, I_Tx, o_bn, upd])) ?_
    refine o_okS ?_
    exact ⟨h_a0.1, h_a0.2.1, (by first | with_reducible exact True.intro | with_reducible assumption | grind [-Prod] | grind [-Prod, → sc_Tx] | grind [-Prod, I_Tx, o_bn, upd]), (by first | with_reducible exact True.intro | with_reducible assumption | grind [-Prod] | grind [-Prod, → sc_Tx] | grind [-Prod, I_Tx, o_bn, upd]), h_a0.2.2.2.2.1, h_a0.2.2.2.2.2.1, (o_bnU h_a0.2.2.2.2.2.2 (by first | with_reducible exact True.intro | with_reducible assumption | grind [-Prod] | grind [-Prod, → sc_Tx] | grind [-Prod, I_Tx, o_bn, upd]) (by first | with_reducible exact True.intro | with_reducible assumption | grind [-Prod] | grind [-Prod, → sc_Tx] | grind [-Prod, I_Tx, o_bn, upd]))⟩
theorem s_Rd_readDigits_b2 {n : Nat} {x1 : Int32} {z : Int32 × STx × SRd} (hn : o_big ≤ n) (l0 : 0 ≤ z.1) (l1 : I_Tx z.2.1) (l2 : I_Rd z.2.2) : o_ok (m_Rd_readDigits_b2 n x1 z) (fun q => (q.1 = 0 → 0 ≤ q.2.1 ∧ I_Tx q.2.2.1 ∧ I_Rd q.2.2.2 ∧ o_mu q.2.1 < o_mu z.1) ∧ (q.1 ≠ 0 → I_Tx q.2.2.1 ∧ I_Rd q.2.2.2)) := by
  unfold m_Rd_readDigits_b2
  refine o_okI (fun c1 => ?_) (fun c1 => ?_)
  · refine o_okS ?_
    refine ⟨fun h => absurd (show (2 : Nat) = 0 from h) (by decide), fun _ => ?_⟩
    refine ⟨?_, ?_⟩
    · exact l1
    · exact l2
  · refine o_okB (s_Rd_peek  l2) ?_
    intro q1_2 g3
    refine o_okB (s_SJ_isDigit ) ?_
    intro q2_4 ⟨g5, g6⟩
    refine o_okI (fun c7 => ?_) (fun c7 => ?_)
    · refine o_okS ?_
      refine ⟨fun h => absurd (show (1 : Nat) = 0 from h) (by decide), fun _ => ?_⟩
      refine ⟨?_, ?_⟩
      · exact l1
      · exact l2
    · refine o_okB (s_Tx_addDigit  l1 (by first | with_reducible exact True.intro | with_reducible assumption | grind [-Prod] | grind [-Prod, → sc_Rd, → sc_Tx] | grind [-Prod, I_Rd, I_Tx, o_bn, upd])) ?_
      intro q3_8 g9
      refine o_okN (fun x2_42_10 ex2_42_10 => ?_)
      refine o_okS ?_
      refine ⟨fun _ => ?_, fun h => absurd rfl h⟩
      refine ⟨?_, ?_, ?_, ?_⟩
      · first | with_reducible exact True.intro | with_reducible assumption | grind [-Prod] | grind [-Prod, → sc_Rd, → sc_Tx] | grind [-Prod, I_Rd, I_Tx, o_bn, upd]
      · exact g9
      · exact ⟨l2.1, l2.2⟩
      · first | exact o_muL (by first | with_reducible exact True.intro | with_reducible assumption | grind [-Prod] | grind [-Prod, → sc_Rd, → sc_Tx] | grind [-Prod, I_Rd, I_Tx, o_bn, upd]) | exact o_nuL (by first | with_reducible exact True.intro | with_reducible assumption | grind [-Prod] | grind [-Prod, → sc_Rd, → sc_Tx] | grind [-Prod, I_Rd, I_Tx, o_bn, upd]) | (first | with_reducible exact True.intro | with_reducible assumption | grind [-Prod] | grind [-Prod, → sc_Rd, → sc_Tx] | grind [-Prod, I_Rd, I_Tx, o_bn, upd])
theorem l_Rd_readDigits_b2 {n : Nat} {x1 : Int32} {z : Int32 × STx × SRd} (hn : o_big ≤ n) (l0 : 0 ≤ z.1) (l1 : I_Tx z.2.1) (l2 : I_Rd z.2.2) : o_ok (o_lp n (m_Rd_readDigits_b2 n x1) z) (fun q => q.1 ≠ 0 ∧ I_Tx q.2.2.1 ∧ I_Rd q.2.2.2) := by
  exact o_lpR (fun z => 0 ≤ z.1 ∧ I_Tx z.2.1 ∧ I_Rd z.2.2) (fun z => o_mu z.1) hn (o_muB) ⟨l0, l1, l2⟩
    (fun z hz => by obtain ⟨l0, l1, l2⟩ := hz; exact o_okW (s_Rd_readDigits_b2 hn l0 l1 l2) (fun q hq => ⟨fun h => by have := hq.1 h; grind, hq.2⟩))
theorem s_Rd_readDigits {n : Nat} {x1 : Int32} {tc : STx} {Rd : SRd} (hn : o_big ≤ n) (h_tc : I_Tx tc) (h_Rd : I_Rd Rd) : o_ok (m_Rd_readDigits n x1 tc Rd) (fun r => I_Tx r.2.1 ∧ I_Rd r.2.2) := by
  unfold m_Rd_readDigits
  refine o_okB (l_Rd_readDigits_b2  hn (by first | with_reducible exact True.intro | with_reducible assumption | grind [-Prod] | grind [-Prod, → sc_Rd, → sc_Tx] | grind [-Prod, I_Rd, I_Tx, o_bn, upd]) h_tc h_Rd) ?_
  intro q4_1 ⟨yq4_1, g2, g3⟩
  refine o_okI (fun c4 => ?_) (fun c4 => ?_)
  · refine o_okS ?_
    refine ⟨?_, ?_⟩
    · exact g2
    · exact g3
  · refine o_okS ?_
    refine ⟨?_, ?_⟩
    · exact g2
    · exact g3
theorem s_Rd_readExponent_b4 {n : Nat} {z : Int32 × Int32 × SRd} (hn : o_big ≤ n) (l0 : 0 ≤ z.2.1) (l1 : I_Rd z.2.2) : o_ok (m_Rd_readExponent_b4 n z) (fun q => (q.1 = 0 → 0 ≤ q.2.2.1 ∧ I_Rd q.2.2.2 ∧ o_mu q.2.2.1 < o_mu z.2.1) ∧ (q.1 ≠ 0 → I_Rd q.2.2.2)) := by
  unfold m_Rd_readExponent_b4
  refine o_okI (fun c1 => ?_) (fun c1 => ?_)
  · refine o_okS ?_
    refine ⟨fun h => absurd (show (2 : Nat) = 0 from h) (by decide), fun _ => ?_⟩
    exact l1
  · refine o_okB (s_Rd_peek  l1) ?_
    intro q1_2 g3
    refine o_okB (s_SJ_isDigit ) ?_
    intro q2_4 ⟨g5, g6⟩
    refine o_okI (fun c7 => ?_) (fun c7 => ?_)
    · refine o_okS ?_
      refine ⟨fun h => absurd (show (1 : Nat) = 0 from h) (by decide), fun _ => ?_⟩
      exact l1
    · refine o_okI (fun c8 => ?_) (fun c8 => ?_)
      · unfold m_Rd_readExponent_j40
        refine o_okN (fun x2_50_9 ex2_50_9 => ?_)
        refine o_okS ?_
        refine ⟨fun _ => ?_, fun h => absurd rfl h⟩
        refine ⟨?_, ?_, ?_⟩
        · first | with_reducible exact True.intro | with_reducible assumption | grind [-Prod] | grind [-Prod, → sc_Rd] | grind [-Prod, I_Rd, o_bn, upd]
        · exact ⟨l1.1, l1.2⟩
        · first | exact o_muL (by first | with_reducible exact True.intro | with_reducible assumption | grind [-Prod] | grind [-Prod, → sc_Rd] | grind [-Prod, I_Rd, o_bn, upd]) | exact o_nuL (by first | with_reducible exact True.intro | with_reducible assumption | grind [-Prod] | grind [-Prod, → sc_Rd] | grind [-Prod, I_Rd, o_bn, upd]) | (first | with_reducible exact True.intro | with_reducible assumption | grind [-Prod] | grind [-Prod, → sc_Rd] | grind [-Prod, I_Rd, o_bn, upd])
      · refine o_okN (fun x1_39_10 ex1_39_10 => ?_)
        unfold m_Rd_readExponent_j40
        refine o_okN (fun x2_50_11 ex2_50_11 => ?_)
        refine o_okS ?_
        refine ⟨fun _ => ?_, fun h => absurd rfl h⟩
        refine ⟨?_, ?_, ?_⟩
        · first | with_reducible exact True.intro | with_reducible assumption | grind [-Prod] | grind [-Prod, → sc_Rd] | grind [-Prod, I_Rd, o_bn, upd]
        · exact ⟨l1.1, l1.2⟩
        · first | exact o_muL (by first | with_reducible exact True.intro | with_reducible assumption | grind [-Prod] | grind [-Prod, → sc_Rd] | grind [-Prod, I_Rd, o_bn, upd]) | exact o_nuL (by first | with_reducible exact True.intro | with_reducible assumption | grind [-Prod] | grind [-Prod, → sc_Rd] | grind [-Prod, I_Rd, o_bn, upd]) | (first | with_reducible exact True.intro | with_reducible assumption | grind [-Prod] | grind [-Prod, → sc_Rd] | grind [-Prod, I_Rd, o_bn, upd])
theorem l_Rd_readExponent_b4 {n : Nat} {z : Int32 × Int32 × SRd} (hn : o_big ≤ n) (l0 : 0 ≤ z.2.1) (l1 : I_Rd z.2.2) : o_ok (o_lp n (m_Rd_readExponent_b4 n) z) (fun q => q.1 ≠ 0 ∧ I_Rd q.2.2.2) := by
  exact o_lpR (fun z => 0 ≤ z.2.1 ∧ I_Rd z.2.2) (fun z => o_mu z.2.1) hn (o_muB) ⟨l0, l1⟩
    (fun z hz => by obtain ⟨l0, l1⟩ := hz; exact o_okW (s_Rd_readExponent_b4 hn l0 l1) (fun q hq => ⟨fun h => by have := hq.1 h; grind, hq.2⟩))
theorem s_Rd_readExponent {n : Nat} {Rd : SRd} (hn : o_big ≤ n) (h_Rd : I_Rd Rd) : o_ok (m_Rd_readExponent n Rd) (fun r => I_Rd r.2) := by
  unfold m_Rd_readExponent
  refine o_okB (l_Rd_readExponent_b4  hn (by first | with_reducible exact True.intro | with_reducible assumption | grind [-Prod] | grind [-Prod, → sc_Rd] | grind [-Prod, I_Rd, o_bn, upd]) h_Rd) ?_
  intro q3_1 ⟨yq3_1, g2⟩
  refine o_okI (fun c3 => ?_) (fun c3 => ?_)
  · refine o_okS ?_
    exact g2
  · refine o_okS ?_
    exact g2
theorem s_Tx_endNumber_b27 {n : Nat} {x1 : Int32} {x2 : Int32} {x3 : Int32} {x4 : Int32} {a0 : STx} {z : Int32} (hn : o_big ≤ n) (h_a0 : I_Tx a0) (p0 : 0 ≤ x4) (l0 : 0 ≤ z) (l1 : z ≤ 8192) : o_ok (m_Tx_endNumber_b27 n x1 x2 x3 x4 a0 z) (fun q => (q.1 = 0 → 0 ≤ q.2 ∧ q.2 ≤ 8192 ∧ o_nu q.2 < o_nu z) ∧ (q.1 ≠ 0 → 0 ≤ q.2 ∧ q.2 ≤ 8192)) := by
  unfold m_Tx_endNumber_b27
  refine o_okI (fun c1 => ?_) (fun c1 => ?_)
  · refine o_okS ?_
    refine ⟨fun h => absurd (show (1 : Nat) = 0 from h) (by decide), fun _ => ?_⟩
    refine ⟨?_, ?_⟩
    · first | with_reducible exact True.intro | with_reducible assumption | grind [-Prod] | grind [-Prod, → sc_Tx] | grind [-Prod, I_Tx, o_bn, upd]
    · first | with_reducible exact True.intro | with_reducible assumption | grind [-Prod] | grind [-Prod, → sc_Tx] | grind [-Prod, I_Tx, o_bn, upd]
  · refine o_okG (o_inM (m := 8192) rfl (by first | with_reducible exact True.intro | with_reducible assumption | grind [-Prod] | grind [-Prod, → sc_Tx] | grind [-Prod, I_Tx, o_bn, upd]) (by first | with_reducible exact True.intro | with_reducible assumption | grind [-Prod] | grind [-Prod, → sc_Tx] | grind [-Prod, I_Tx, o_bn, upd])) ?_
    refine o_okI (fun c2 => ?_) (fun c2 => ?_)
    · refine o_okN (fun x5_46_3 ex5_46_3 => ?_)
      refine o_okS ?_
      refine ⟨fun _ => ?_, fun h => absurd rfl h⟩
      refine ⟨?_, ?_, ?_⟩
      · first | with_reducible exact True.intro | with_reducible assumption | grind [-Prod] | grind [-Prod, → sc_Tx] | grind [-Prod, I_Tx, o_bn, upd]
      · first | with_reducible exact True.intro | with_reducible assumption | grind [-Prod] | grind [-Prod, → sc_Tx] | grind [-Prod, I_Tx, o_bn, upd]
      · first | exact o_muL (by first | with_reducible exact True.intro | with_reducible assumption | grind [-Prod] | grind [-Prod, → sc_Tx] | grind [-Prod, I_Tx, o_bn, upd]) | exact o_nuL (by first | with_reducible exact True.intro | with_reducible assumption | grind [-Prod] | grind [-Prod, → sc_Tx] | grind [-Prod, I_Tx, o_bn, upd]) | (first | with_reducible exact True.intro | with_reducible assumption | grind [-Prod] | grind [-Prod, → sc_Tx] | grind [-Prod, I_Tx, o_bn, upd])
    · refine o_okS ?_
      refine ⟨fun h => absurd (show (1 : Nat) = 0 from h) (by decide), fun _ => ?_⟩
      refine ⟨?_, ?_⟩
      · first | with_reducible exact True.intro | with_reducible assumption | grind [-Prod] | grind [-Prod, → sc_Tx] | grind [-Prod, I_Tx, o_bn, upd]
      · first | with_reducible exact True.intro | with_reducible assumption | grind [-Prod] | grind [-Prod, → sc_Tx] | grind [-Prod, I_Tx, o_bn, upd]
theorem l_Tx_endNumber_b27 {n : Nat} {x1 : Int32} {x2 : Int32} {x3 : Int32} {x4 : Int32} {a0 : STx} {z : Int32} (hn : o_big ≤ n) (h_a0 : I_Tx a0) (p0 : 0 ≤ x4) (l0 : 0 ≤ z) (l1 : z ≤ 8192) : o_ok (o_lp n (m_Tx_endNumber_b27 n x1 x2 x3 x4 a0) z) (fun q => q.1 ≠ 0 ∧ 0 ≤ q.2 ∧ q.2 ≤ 8192) := by
  exact o_lpR (fun z => 0 ≤ z ∧ z ≤ 8192) (fun z => o_nu z) hn (o_nuB) ⟨l0, l1⟩
    (fun z hz => by obtain ⟨l0, l1⟩ := hz; exact o_okW (s_Tx_endNumber_b27 hn h_a0 p0 l0 l1) (fun q hq => ⟨fun h => by have := hq.1 h; grind, hq.2⟩))
theorem s_Tx_endNumber_b52 {n : Nat} {x1 : Int32} {x2 : Int32} {x3 : Int32} {x5 : Int32} {a0 : STx} {z : Int32} (hn : o_big ≤ n) (h_a0 : I_Tx a0) (p0 : x5 ≤ 8192) (l0 : z ≤ 8192) (l1 : 0 ≤ z) : o_ok (m_Tx_endNumber_b52 n x1 x2 x3 x5 a0 z) (fun q => (q.1 = 0 → q.2 ≤ 8192 ∧ 0 ≤ q.2 ∧ o_mu q.2 < o_mu z) ∧ (q.1 ≠ 0 → 0 ≤ q.2 ∧ q.2 ≤ 8192)) := by
  unfold m_Tx_endNumber_b52
  refine o_okI (fun c1 => ?_) (fun c1 => ?_)
  · refine o_okS ?_
    refine ⟨fun h => absurd (show (1 : Nat) = 0 from h) (by decide), fun _ => ?_⟩
    refine ⟨?_, ?_⟩
    · first | with_reducible exact True.intro | with_reducible assumption | grind [-Prod] | grind [-Prod, → sc_Tx] | grind [-Prod, I_Tx, o_bn, upd]
    · first | with_reducible exact True.intro | with_reducible assumption | grind [-Prod] | grind [-Prod, → sc_Tx] | grind [-Prod, I_Tx, o_bn, upd]
  · refine o_okG (o_inM (m := 8192) rfl (by first | with_reducible exact True.intro | with_reducible assumption | grind [-Prod] | grind [-Prod, → sc_Tx] | grind [-Prod, I_Tx, o_bn, upd]) (by first | with_reducible exact True.intro | with_reducible assumption | grind [-Prod] | grind [-Prod, → sc_Tx] | grind [-Prod, I_Tx, o_bn, upd])) ?_
    refine o_okI (fun c2 => ?_) (fun c2 => ?_)
    · refine o_okN (fun x4_69_3 ex4_69_3 => ?_)
      refine o_okS ?_
      refine ⟨fun _ => ?_, fun h => absurd rfl h⟩
      refine ⟨?_, ?_, ?_⟩
      · first | with_reducible exact True.intro | with_reducible assumption | grind [-Prod] | grind [-Prod, → sc_Tx] | grind [-Prod, I_Tx, o_bn, upd]
      · first | with_reducible exact True.intro | with_reducible assumption | grind [-Prod] | grind [-Prod, → sc_Tx] | grind [-Prod, I_Tx, o_bn, upd]
      · first | exact o_muL (by first | with_reducible exact True.intro | with_reducible assumption | grind [-Prod] | grind [-Prod, → sc_Tx] | grind [-Prod, I_Tx, o_bn, upd]) | exact o_nuL (by first | with_reducible exact True.intro | with_reducible assumption | grind [-Prod] | grind [-Prod, → sc_Tx] | grind [-Prod, I_Tx, o_bn, upd]) | (first | with_reducible exact True.intro | with_reducible assumption | grind [-Prod] | grind [-Prod, → sc_Tx] | grind [-Prod, I_Tx, o_bn, upd])
    · refine o_okS ?_
      refine ⟨fun h => absurd (show (1 : Nat) = 0 from h) (by decide), fun _ => ?_⟩
      refine ⟨?_, ?_⟩
      · first | with_reducible exact True.intro | with_reducible assumption | grind [-Prod] | grind [-Prod, → sc_Tx] | grind [-Prod, I_Tx, o_bn, upd]
      · first | with_reducible exact True.intro | with_reducible assumption | grind [-Prod] | grind [-Prod, → sc_Tx] | grind [-Prod, I_Tx, o_bn, upd]
theorem l_Tx_endNumber_b52 {n : Nat} {x1 : Int32} {x2 : Int32} {x3 : Int32} {x5 : Int32} {a0 : STx} {z : Int32} (hn : o_big ≤ n) (h_a0 : I_Tx a0) (p0 : x5 ≤ 8192) (l0 : z ≤ 8192) (l1 : 0 ≤ z) : o_ok (o_lp n (m_Tx_endNumber_b52 n x1 x2 x3 x5 a0) z) (fun q => q.1 ≠ 0 ∧ 0 ≤ q.2 ∧ q.2 ≤ 8192) := by
  exact o_lpR (fun z => z ≤ 8192 ∧ 0 ≤ z) (fun z => o_mu z) hn (o_muB) ⟨l0, l1⟩
    (fun z hz => by obtain ⟨l0, l1⟩ := hz; exact o_okW (s_Tx_endNumber_b52 hn h_a0 p0 l0 l1) (fun q hq => ⟨fun h => by have := hq.1 h; grind, hq.2⟩))
theorem s_Tx_endNumber {n : Nat} {x1 : Int32} {x2 : Int32} {x3 : Int32} {a0 : STx} (hn : o_big ≤ n) (h_a0 : I_Tx a0) : o_ok (m_Tx_endNumber n x1 x2 x3 a0) (fun r => I_Tx r) := by
  unfold m_Tx_endNumber
  refine o_okI (fun c1 => ?_) (fun c1 => ?_)
  · refine o_okS ?_
    exact h_a0
  · refine o_okI (fun c2 => ?_) (fun c2 => ?_)
    · refine o_okG (o_inM (m := 1000) rfl (by first | with_reducible exact True.intro | with_reducible assumption | grind [-Prod] | grind [-Prod, → sc_Tx] | grind [-Prod, I_Tx, o_bn, upd]) (by first | with_reducible exact True.intro | with_reducible assumption | grind [-Prod] | grind [-Prod, → sc_Tx] | grind [-Prod, I_Tx, o_bn, upd])) ?_
      refine o_okN (fun x4_19_3 ex4_19_3 => ?_)
      refine o_okN (fun x5_25_4 ex5_25_4 => ?_)
      refine o_okB (l_Tx_endNumber_b27  hn h_a0 (by first | with_reducible exact True.intro | with_reducible assumption | grind [-Prod] | grind [-Prod, → sc_Tx] | grind [-Prod, I_Tx, o_bn, upd]) (by first | with_reducible exact True.intro | with_reducible assumption | grind [-Prod] | grind [-Prod, → sc_Tx] | grind [-Prod, I_Tx, o_bn, upd]) (by first | with_reducible exact True.intro | with_reducible assumption | grind [-Prod] | grind [-Prod, → sc_Tx] | grind [-Prod, I_Tx, o_bn, upd])) ?_
      intro q1_5 ⟨yq1_5, g6, g7⟩
      refine o_okB (l_Tx_endNumber_b52  hn h_a0 (by first | with_reducible exact True.intro | with_reducible assumption | grind [-Prod] | grind [-Prod, → sc_Tx] | grind [-Prod, I_Tx, o_bn, upd]) (by first | with_reducible exact True.intro | with_reducible assumption | grind [-Prod] | grind [-Prod, → sc_Tx] | grind [-Prod, I_Tx, o_bn, upd]) (by first | with_reducible exact True.intro | with_reducible assumption | grind [-Prod] | grind [-Prod, → sc_Tx] | grind [-Prod, I_Tx, o_bn, upd])) ?_
      intro q2_8 ⟨yq2_8, g9, g10⟩
      unfold m_Tx_endNumber_j75
      refine o_okG (o_inM (m := 1000) rfl (by first | with_reducible exact True.intro | with_reducible assumption | grind [-Prod] | grind [-Prod, → sc_Tx] | grind [-Prod, I_Tx, o_bn, upd]) (by first | with_reducible exact True.intro | with_reducible assumption | grind [-Prod] | grind [-Prod, → sc_Tx] | grind [-Prod, I_Tx, o_bn, upd])) ?_
      refine o_okG (o_inM (m := 1000) rfl (by first | with_reducible exact True.intro | with_reducible assumption | grind [-Prod] | grind [-Prod, → sc_Tx] | grind [-Prod, I_Tx, o_bn, upd]) (by first | with_reducible exact True.intro | with_reducible assumption | grind [-Prod] | grind [-Prod, → sc_Tx] | grind [-Prod, I_Tx, o_bn, upd])) ?_
      refine o_okI (fun c11 => ?_) (fun c11 => ?_)
      · unfold m_Tx_endNumber_j119
        refine o_okG (o_inM (m := 1000) rfl (by first | with_reducible exact True.intro | with_reducible assumption | grind [-Prod] | grind [-Prod, → sc_Tx] | grind [-Prod, I_Tx, o_bn, upd]) (by first | with_reducible exact True.intro | with_reducible assumption | grind [-Prod] | grind [-Prod, → sc_Tx] | grind [-Prod, I_Tx, o_bn, upd])) ?_
        refine o_okI (fun c12 => ?_) (fun c12 => ?_)
        · refine o_okG (o_inM (m := 1000) rfl (by first | with_reducible exact True.intro | with_reducible assumption | grind [-Prod] | grind [-Prod, → sc_Tx] | grind [-Prod, I_Tx, o_bn, upd]) (by first | with_reducible exact True.intro | with_reducible assumption | grind [-Prod] | grind [-Prod, → sc_Tx] | grind [-Prod, I_Tx, o_bn, upd])) ?_
          refine o_okS ?_
          exact ⟨h_a0.1, h_a0.2.1, h_a0.2.2.1, h_a0.2.2.2.1, (o_bnU h_a0.2.2.2.2.1 (by first | with_reducible exact True.intro | with_reducible assumption | grind [-Prod] | grind [-Prod, → sc_Tx] | grind [-Prod, I_Tx, o_bn, upd]) (by first | with_reducible exact True.intro | with_reducible assumption | grind [-Prod] | grind [-Prod, → sc_Tx] | grind [-Prod, I_Tx, o_bn, upd])), (o_bnU h_a0.2.2.2.2.2.1 (by first | with_reducible exact True.intro | with_reducible assumption | grind [-Prod] | grind [-Prod, → sc_Tx] | grind [-Prod, I_Tx, o_bn, upd]) (by first | with_reducible exact True.intro | with_reducible assumption | grind [-Prod] | grind [-Prod, → sc_Tx] | grind [-Prod, I_Tx, o_bn, upd])), h_a0.2.2.2.2.2.2⟩
        · refine o_okI (fun c13 => ?_) (fun c13 => ?_)
          · refine o_okG (o_inM (m := 1000) rfl (by first | with_reducible exact True.intro | with_reducible assumption | grind [-Prod] | grind [-Prod, → sc_Tx] | grind [-Prod, I_Tx, o_bn, upd]) (by first | with_reducible exact True.intro | with_reducible assumption | grind [-Prod] | grind [-Prod, → sc_Tx] | grind [-Prod, I_Tx, o_bn, upd])) ?_
            refine o_okS ?_
            exact ⟨h_a0.1, h_a0.2.1, h_a0.2.2.1, h_a0.2.2.2.1, (o_bnU h_a0.2.2.2.2.1 (by first | with_reducible exact True.intro | with_reducible assumption | grind [-Prod] | grind [-Prod, → sc_Tx] | grind [-Prod, I_Tx, o_bn, upd]) (by first | with_reducible exact True.intro | with_reducible assumption | grind [-Prod] | grind [-Prod, → sc_Tx] | grind [-Prod, I_Tx, o_bn, upd])), (o_bnU h_a0.2.2.2.2.2.1 (by first | with_reducible exact True.intro | with_reducible assumption | grind [-Prod] | grind [-Prod, → sc_Tx] | grind [-Prod, I_Tx, o_bn, upd]) (by first | with_reducible exact True.intro | with_reducible assumption | grind [-Prod] | grind [-Prod, → sc_Tx] | grind [-Prod, I_Tx, o_bn, upd])), h_a0.2.2.2.2.2.2⟩
          · refine o_okG (o_inM (m := 1000) rfl (by first | with_reducible exact True.intro | with_reducible assumption | grind [-Prod] | grind [-Prod, → sc_Tx] | grind [-Prod, I_Tx, o_bn, upd]) (by first | with_reducible exact True.intro | with_reducible assumption | grind [-Prod] | grind [-Prod, → sc_Tx] | grind [-Prod, I_Tx, o_bn, upd])) ?_
            refine o_okS ?_
            exact ⟨h_a0.1, h_a0.2.1, h_a0.2.2.1, h_a0.2.2.2.1, (o_bnU h_a0.2.2.2.2.1 (by first | with_reducible exact True.intro | with_reducible assumption | grind [-Prod] | grind [-Prod, → sc_Tx] | grind [-Prod, I_Tx, o_bn, upd]) (by first | with_reducible exact True.intro | with_reducible assumption | grind [-Prod] | grind [-Prod, → sc_Tx] | grind [-Prod, I_Tx, o_bn, upd])), (o_bnU h_a0.2.2.2.2.2.1 (by first | with_reducible exact True.intro | with_reducible assumption | grind [-Prod] | grind [-Prod, → sc_Tx] | grind [-Prod, I_Tx, o_bn, upd]) (by first | with_reducible exact True.intro | with_reducible assumption | grind [-Prod] | grind [-Prod, → sc_Tx] | grind [-Prod, I_Tx, o_bn, upd])), h_a0.2.2.2.2.2.2⟩
      · unfold m_Tx_endNumber_j119
        refine o_okG (o_inM (m := 1000) rfl (by first | with_reducible exact True.intro | with_reducible assumption | grind [-Prod] | grind [-Prod, → sc_Tx] | grind [-Prod, I_Tx, o_bn, upd]) (by first | with_reducible exact True.intro | with_reducible assumption | grind [-Prod] | grind [-Prod, → sc_Tx] | grind [-Prod, I_Tx, o_bn, upd])) ?_
        refine o_okI (fun c14 => ?_) (fun c14 => ?_)
        · refine o_okG (o_inM (m := 1000) rfl (by first | with_reducible exact True.intro | with_reducible assumption | grind [-Prod] | grind [-Prod, → sc_Tx] | grind [-Prod, I_Tx, o_bn, upd]) (by first | with_reducible exact True.intro | with_reducible assumption | grind [-Prod] | grind [-Prod, → sc_Tx] | grind [-Prod, I_Tx, o_bn, upd])) ?_
          refine o_okS ?_
          exact ⟨h_a0.1, h_a0.2.1, h_a0.2.2.1, h_a0.2.2.2.1, (o_bnU h_a0.2.2.2.2.1 (by first | with_reducible exact True.intro | with_reducible assumption | grind [-Prod] | grind [-Prod, → sc_Tx] | grind [-Prod, I_Tx, o_bn, upd]) (by first | with_reducible exact True.intro | with_reducible assumption | grind [-Prod] | grind [-Prod, → sc_Tx] | grind [-Prod, I_Tx, o_bn, upd])), (o_bnU h_a0.2.2.2.2.2.1 (by first | with_reducible exact True.intro | with_reducible assumption | grind [-Prod] | grind [-Prod, → sc_Tx] | grind [-Prod, I_Tx, o_bn, upd]) (by first | with_reducible exact True.intro | with_reducible assumption | grind [-Prod] | grind [-Prod, → sc_Tx] | grind [-Prod, I_Tx, o_bn, upd])), h_a0.2.2.2.2.2.2⟩
        · refine o_okI (fun c15 => ?_) (fun c15 => ?_)
          · refine o_okG (o_inM (m := 1000) rfl (by first | with_reducible exact True.intro | with_reducible assumption | grind [-Prod] | grind [-Prod, → sc_Tx] | grind [-Prod, I_Tx, o_bn, upd]) (by first | with_reducible exact True.intro | with_reducible assumption | grind [-Prod] | grind [-Prod, → sc_Tx] | grind [-Prod, I_Tx, o_bn, upd])) ?_
            refine o_okS ?_
            exact ⟨h_a0.1, h_a0.2.1, h_a0.2.2.1, h_a0.2.2.2.1, (o_bnU h_a0.2.2.2.2.1 (by first | with_reducible exact True.intro | with_reducible assumption | grind [-Prod] | grind [-Prod, → sc_Tx] | grind [-Prod, I_Tx, o_bn, upd]) (by first | with_reducible exact True.intro | with_reducible assumption | grind [-Prod] | grind [-Prod, → sc_Tx] | grind [-Prod, I_Tx, o_bn, upd])), (o_bnU h_a0.2.2.2.2.2.1 (by first | with_reducible exact True.intro | with_reducible assumption | grind [-Prod] | grind [-Prod, → sc_Tx] | grind [-Prod, I_Tx, o_bn, upd]) (by first | with_reducible exact True.intro | with_reducible assumption | grind [-Prod] | grind [-Prod, → sc_Tx] | grind [-Prod, I_Tx, o_bn, upd])), h_a0.2.2.2.2.2.2⟩
          · refine o_okG (o_inM (m := 1000) rfl (by first | with_reducible exact True.intro | with_reducible assumption | grind [-Prod] | grind [-Prod, → sc_Tx] | grind [-Prod, I_Tx, o_bn, upd]) (by first | with_reducible exact True.intro | with_reducible assumption | grind [-Prod] | grind [-Prod, → sc_Tx] | grind [-Prod, I_Tx, o_bn, upd])) ?_
            refine o_okS ?_
            exact ⟨h_a0.1, h_a0.2.1, h_a0.2.2.1, h_a0.2.2.2.1, (o_bnU h_a0.2.2.2.2.1 (by first | with_reducible exact True.intro | with_reducible assumption | grind [-Prod] | grind [-Prod, → sc_Tx] | grind [-Prod, I_Tx, o_bn, upd]) (by first | with_reducible exact True.intro | with_reducible assumption | grind [-Prod] | grind [-Prod, → sc_Tx] | grind [-Prod, I_Tx, o_bn, upd])), (o_bnU h_a0.2.2.2.2.2.1 (by first | with_reducible exact True.intro | with_reducible assumption | grind [-Prod] | grind [-Prod, → sc_Tx] | grind [-Prod, I_Tx, o_bn, upd]) (by first | with_reducible exact True.intro | with_reducible assumption | grind [-Prod] | grind [-Prod, → sc_Tx] | grind [-Prod, I_Tx, o_bn, upd])), h_a0.2.2.2.2.2.2⟩
    · refine o_okS ?_
      exact h_a0
set_option maxHeartbeats 8000000 in
theorem s_Rd_readNumber_j181 {n : Nat} {x1 : Int32} {x2 : Int32} {x3 : Int32} {x5 : Int32} {x6 : Int32} {y0 : Int32} {tc : STx} {Rd : SRd} (hn : o_big ≤ n) (h_tc : I_Tx tc) (h_Rd : I_Rd Rd) : o_ok (m_Rd_readNumber_j181 n x1 x2 x3 x5 x6 y0 tc Rd) (fun r => (r.1 = 0 ∨ r.1 = 1) ∧ I_Tx r.2.1 ∧ I_Rd r.2.2) := by
  unfold m_Rd_readNumber_j181
  refine o_okI (fun c1 => ?_) (fun c1 => ?_)
  · refine o_okB (s_Rd_peek  h_Rd) ?_
    intro q11_2 g3
    refine o_okI (fun c4 => ?_) (fun c4 => ?_)
    · unfold m_Rd_readNumber_j197
      unfold m_Rd_readNumber_j207
      refine o_okN (fun x9_211_5 ex9_211_5 => ?_)
      refine o_okB (s_Rd_readExponent  hn ⟨h_Rd.1, h_Rd.2⟩) ?_
      intro q7_6 g7
      refine o_okI (fun c8 => ?_) (fun c8 => ?_)
      · refine o_okB (s_Rd_refuse  g7) ?_
        intro q10_9 ⟨g10, g11⟩
        refine o_okG (o_zbM (by first | with_reducible exact True.intro | with_reducible assumption | grind [-Prod] | grind [-Prod, → sc_Rd, → sc_Tx] | grind [-Prod, I_Rd, I_Tx, o_bn, upd])) ?_
        refine o_okS ?_
        refine ⟨?_, ?_, ?_⟩
        · first | with_reducible exact True.intro | with_reducible assumption | grind [-Prod] | grind [-Prod, → sc_Rd, → sc_Tx] | grind [-Prod, I_Rd, I_Tx, o_bn, upd]
        · exact h_tc
        · exact g11
      · refine o_okI (fun c12 => ?_) (fun c12 => ?_)
        · unfold m_Rd_readNumber_j258
          refine o_okI (fun c13 => ?_) (fun c13 => ?_)
          · unfold m_Rd_readNumber_j275
            refine o_okI (fun c14 => ?_) (fun c14 => ?_)
            · refine o_okB (s_Rd_refuse  g7) ?_
              intro q9_15 ⟨g16, g17⟩
              refine o_okG (o_zbM (by first | with_reducible exact True.intro | with_reducible assumption | grind [-Prod] | grind [-Prod, → sc_Rd, → sc_Tx] | grind [-Prod, I_Rd, I_Tx, o_bn, upd])) ?_
              refine o_okS ?_
              refine ⟨?_, ?_, ?_⟩
              · first | with_reducible exact True.intro | with_reducible assumption | grind [-Prod] | grind [-Prod, → sc_Rd, → sc_Tx] | grind [-Prod, I_Rd, I_Tx, o_bn, upd]
              · exact h_tc
              · exact g17
            · refine o_okB (s_Tx_endNumber  hn h_tc) ?_
              intro q8_18 g19
              refine o_okS ?_
              refine ⟨?_, ?_, ?_⟩
              · first | with_reducible exact True.intro | with_reducible assumption | grind [-Prod] | grind [-Prod, → sc_Rd, → sc_Tx] | grind [-Prod, I_Rd, I_Tx, o_bn, upd]
              · exact g19
              · exact g7
          · refine o_okN (fun x7_273_20 ex7_273_20 => ?_)
            unfold m_Rd_readNumber_j275
            refine o_okI (fun c21 => ?_) (fun c21 => ?_)
            · refine o_okB (s_Rd_refuse  g7) ?_
              intro q9_22 ⟨g23, g24⟩
              refine o_okG (o_zbM (by first | with_reducible exact True.intro | with_reducible assumption | grind [-Prod] | grind [-Prod, → sc_Rd, → sc_Tx] | grind [-Prod, I_Rd, I_Tx, o_bn, upd])) ?_
              refine o_okS ?_
              refine ⟨?_, ?_, ?_⟩
              · first | with_reducible exact True.intro | with_reducible assumption | grind [-Prod] | grind [-Prod, → sc_Rd, → sc_Tx] | grind [-Prod, I_Rd, I_Tx, o_bn, upd]
              · exact h_tc
              · exact g24
            · refine o_okB (s_Tx_endNumber  hn h_tc) ?_
              intro q8_25 g26
              refine o_okS ?_
              refine ⟨?_, ?_, ?_⟩
              · first | with_reducible exact True.intro | with_reducible assumption | grind [-Prod] | grind [-Prod, → sc_Rd, → sc_Tx] | grind [-Prod, I_Rd, I_Tx, o_bn, upd]
              · exact g26
              · exact g7
        · refine o_okI (fun c27 => ?_) (fun c27 => ?_)
          · unfold m_Rd_readNumber_j258
            refine o_okI (fun c28 => ?_) (fun c28 => ?_)
            · unfold m_Rd_readNumber_j275
              refine o_okI (fun c29 => ?_) (fun c29 => ?_)
              · refine o_okB (s_Rd_refuse  g7) ?_
                intro q9_30 ⟨g31, g32⟩
                refine o_okG (o_zbM (by first | with_reducible exact True.intro | with_reducible assumption | grind [-Prod] | grind [-Prod, → sc_Rd, → sc_Tx] | grind [-Prod, I_Rd, I_Tx, o_bn, upd])) ?_
                refine o_okS ?_
                refine ⟨?_, ?_, ?_⟩
                · first | with_reducible exact True.intro | with_reducible assumption | grind [-Prod] | grind [-Prod, → sc_Rd, → sc_Tx] | grind [-Prod, I_Rd, I_Tx, o_bn, upd]
                · exact h_tc
                · exact g32
              · refine o_okB (s_Tx_endNumber  hn h_tc) ?_
                intro q8_33 g34
                refine o_okS ?_
                refine ⟨?_, ?_, ?_⟩
                · first | with_reducible exact True.intro | with_reducible assumption | grind [-Prod] | grind [-Prod, → sc_Rd, → sc_Tx] | grind [-Prod, I_Rd, I_Tx, o_bn, upd]
                · exact g34
                · exact g7
            · refine o_okN (fun x7_273_35 ex7_273_35 => ?_)
              unfold m_Rd_readNumber_j275
              refine o_okI (fun c36 => ?_) (fun c36 => ?_)
              · refine o_okB (s_Rd_refuse  g7) ?_
                intro q9_37 ⟨g38, g39⟩
                refine o_okG (o_zbM (by first | with_reducible exact True.intro | with_reducible assumption | grind [-Prod] | grind [-Prod, → sc_Rd, → sc_Tx] | grind [-Prod, I_Rd, I_Tx, o_bn, upd])) ?_
                refine o_okS ?_
                refine ⟨?_, ?_, ?_⟩
                · first | with_reducible exact True.intro | with_reducible assumption | grind [-Prod] | grind [-Prod, → sc_Rd, → sc_Tx] | grind [-Prod, I_Rd, I_Tx, o_bn, upd]
                · exact h_tc
                · exact g39
              · refine o_okB (s_Tx_endNumber  hn h_tc) ?_
                intro q8_40 g41
                refine o_okS ?_
                refine ⟨?_, ?_, ?_⟩
                · first | with_reducible exact True.intro | with_reducible assumption | grind [-Prod] | grind [-Prod, → sc_Rd, → sc_Tx] | grind [-Prod, I_Rd, I_Tx, o_bn, upd]
                · exact g41
                · exact g7
          · unfold m_Rd_readNumber_j258
            refine o_okI (fun c42 => ?_) (fun c42 => ?_)
            · unfold m_Rd_readNumber_j275
              refine o_okI (fun c43 => ?_) (fun c43 => ?_)
              · refine o_okB (s_Rd_refuse  g7) ?_
                intro q9_44 ⟨g45, g46⟩
                refine o_okG (o_zbM (by first | with_reducible exact True.intro | with_reducible assumption | grind [-Prod] | grind [-Prod, → sc_Rd, → sc_Tx] | grind [-Prod, I_Rd, I_Tx, o_bn, upd])) ?_
                refine o_okS ?_
                refine ⟨?_, ?_, ?_⟩
                · first | with_reducible exact True.intro | with_reducible assumption | grind [-Prod] | grind [-Prod, → sc_Rd, → sc_Tx] | grind [-Prod, I_Rd, I_Tx, o_bn, upd]
                · exact h_tc
                · exact g46
              · refine o_okB (s_Tx_endNumber  hn h_tc) ?_
                intro q8_47 g48
                refine o_okS ?_
                refine ⟨?_, ?_, ?_⟩
                · first | with_reducible exact True.intro | with_reducible assumption | grind [-Prod] | grind [-Prod, → sc_Rd, → sc_Tx] | grind [-Prod, I_Rd, I_Tx, o_bn, upd]
                · exact g48
                · exact g7
            · refine o_okN (fun x7_273_49 ex7_273_49 => ?_)
              unfold m_Rd_readNumber_j275
              refine o_okI (fun c50 => ?_) (fun c50 => ?_)
              · refine o_okB (s_Rd_refuse  g7) ?_
                intro q9_51 ⟨g52, g53⟩
                refine o_okG (o_zbM (by first | with_reducible exact True.intro | with_reducible assumption | grind [-Prod] | grind [-Prod, → sc_Rd, → sc_Tx] | grind [-Prod, I_Rd, I_Tx, o_bn, upd])) ?_
                refine o_okS ?_
                refine ⟨?_, ?_, ?_⟩
                · first | with_reducible exact True.intro | with_reducible assumption | grind [-Prod] | grind [-Prod, → sc_Rd, → sc_Tx] | grind [-Prod, I_Rd, I_Tx, o_bn, upd]
                · exact h_tc
                · exact g53
              · refine o_okB (s_Tx_endNumber  hn h_tc) ?_
                intro q8_54 g55
                refine o_okS ?_
                refine ⟨?_, ?_, ?_⟩
                · first | with_reducible exact True.intro | with_reducible assumption | grind [-Prod] | grind [-Prod, → sc_Rd, → sc_Tx] | grind [-Prod, I_Rd, I_Tx, o_bn, upd]
                · exact g55
                · exact g7
    · unfold m_Rd_readNumber_j207
      refine o_okN (fun x9_211_56 ex9_211_56 => ?_)
      refine o_okB (s_Rd_readExponent  hn h_Rd) ?_
      intro q7_57 g58
      refine o_okI (fun c59 => ?_) (fun c59 => ?_)
      · refine o_okB (s_Rd_refuse  g58) ?_
        intro q10_60 ⟨g61, g62⟩
        refine o_okG (o_zbM (by first | with_reducible exact True.intro | with_reducible assumption | grind [-Prod] | grind [-Prod, → sc_Rd, → sc_Tx] | grind [-Prod, I_Rd, I_Tx, o_bn, upd])) ?_
        refine o_okS ?_
        refine ⟨?_, ?_, ?_⟩
        · first | with_reducible exact True.intro | with_reducible assumption | grind [-Prod] | grind [-Prod, → sc_Rd, → sc_Tx] | grind [-Prod, I_Rd, I_Tx, o_bn, upd]
        · exact h_tc
        · exact g62
      · refine o_okI (fun c63 => ?_) (fun c63 => ?_)
        · unfold m_Rd_readNumber_j258
          refine o_okI (fun c64 => ?_) (fun c64 => ?_)
          · unfold m_Rd_readNumber_j275
            refine o_okI (fun c65 => ?_) (fun c65 => ?_)
            · refine o_okB (s_Rd_refuse  g58) ?_
              intro q9_66 ⟨g67, g68⟩
              refine o_okG (o_zbM (by first | with_reducible exact True.intro | with_reducible assumption | grind [-Prod] | grind [-Prod, → sc_Rd, → sc_Tx] | grind [-Prod, I_Rd, I_Tx, o_bn, upd])) ?_
              refine o_okS ?_
              refine ⟨?_, ?_, ?_⟩
              · first | with_reducible exact True.intro | with_reducible assumption | grind [-Prod] | grind [-Prod, → sc_Rd, → sc_Tx] | grind [-Prod, I_Rd, I_Tx, o_bn, upd]
              · exact h_tc
              · exact g68
            · refine o_okB (s_Tx_endNumber  hn h_tc) ?_
              intro q8_69 g70
              refine o_okS ?_
              refine ⟨?_, ?_, ?_⟩
              · first | with_reducible exact True.intro | with_reducible assumption | grind [-Prod] | grind [-Prod, → sc_Rd, → sc_Tx] | grind [-Prod, I_Rd, I_Tx, o_bn, upd]
              · exact g70
              · exact g58
          · refine o_okN (fun x7_273_71 ex7_273_71 => ?_)
            unfold m_Rd_readNumber_j275
            refine o_okI (fun c72 => ?_) (fun c72 => ?_)
            · refine o_okB (s_Rd_refuse  g58) ?_
              intro q9_73 ⟨g74, g75⟩
              refine o_okG (o_zbM (by first | with_reducible exact True.intro | with_reducible assumption | grind [-Prod] | grind [-Prod, → sc_Rd, → sc_Tx] | grind [-Prod, I_Rd, I_Tx, o_bn, upd])) ?_
              refine o_okS ?_
              refine ⟨?_, ?_, ?_⟩
              · first | with_reducible exact True.intro | with_reducible assumption | grind [-Prod] | grind [-Prod, → sc_Rd, → sc_Tx] | grind [-Prod, I_Rd, I_Tx, o_bn, upd]
              · exact h_tc
              · exact g75
            · refine o_okB (s_Tx_endNumber  hn h_tc) ?_
              intro q8_76 g77
              refine o_okS ?_
              refine ⟨?_, ?_, ?_⟩
              · first | with_reducible exact True.intro | with_reducible assumption | grind [-Prod] | grind [-Prod, → sc_Rd, → sc_Tx] | grind [-Prod, I_Rd, I_Tx, o_bn, upd]
              · exact g77
              · exact g58
        · refine o_okI (fun c78 => ?_) (fun c78 => ?_)
          · unfold m_Rd_readNumber_j258
            refine o_okI (fun c79 => ?_) (fun c79 => ?_)
            · unfold m_Rd_readNumber_j275
              refine o_okI (fun c80 => ?_) (fun c80 => ?_)
              · refine o_okB (s_Rd_refuse  g58) ?_
                intro q9_81 ⟨g82, g83⟩
                refine o_okG (o_zbM (by first | with_reducible exact True.intro | with_reducible assumption | grind [-Prod] | grind [-Prod, → sc_Rd, → sc_Tx] | grind [-Prod, I_Rd, I_Tx, o_bn, upd])) ?_
                refine o_okS ?_
                refine ⟨?_, ?_, ?_⟩
                · first | with_reducible exact True.intro | with_reducible assumption | grind [-Prod] | grind [-Prod, → sc_Rd, → sc_Tx] | grind [-Prod, I_Rd, I_Tx, o_bn, upd]
                · exact h_tc
                · exact g83
              · refine o_okB (s_Tx_endNumber  hn h_tc) ?_
                intro q8_84 g85
                refine o_okS ?_
                refine ⟨?_, ?_, ?_⟩
                · first | with_reducible exact True.intro | with_reducible assumption | grind [-Prod] | grind [-Prod, → sc_Rd, → sc_Tx] | grind [-Prod, I_Rd, I_Tx, o_bn, upd]
                · exact g85
                · exact g58
            · refine o_okN (fun x7_273_86 ex7_273_86 => ?_)
              unfold m_Rd_readNumber_j275
              refine o_okI (fun c87 => ?_) (fun c87 => ?_)
              · refine o_okB (s_Rd_refuse  g58) ?_
                intro q9_88 ⟨g89, g90⟩
                refine o_okG (o_zbM (by first | with_reducible exact True.intro | with_reducible assumption | grind [-Prod] | grind [-Prod, → sc_Rd, → sc_Tx] | grind [-Prod, I_Rd, I_Tx, o_bn, upd])) ?_
                refine o_okS ?_
                refine ⟨?_, ?_, ?_⟩
                · first | with_reducible exact True.intro | with_reducible assumption | grind [-Prod] | grind [-Prod, → sc_Rd, → sc_Tx] | grind [-Prod, I_Rd, I_Tx, o_bn, upd]
                · exact h_tc
                · exact g90
              · refine o_okB (s_Tx_endNumber  hn h_tc) ?_
                intro q8_91 g92
                refine o_okS ?_
                refine ⟨?_, ?_, ?_⟩
                · first | with_reducible exact True.intro | with_reducible assumption | grind [-Prod] | grind [-Prod, → sc_Rd, → sc_Tx] | grind [-Prod, I_Rd, I_Tx, o_bn, upd]
                · exact g92
                · exact g58
          · unfold m_Rd_readNumber_j258
            refine o_okI (fun c93 => ?_) (fun c93 => ?_)
            · unfold m_Rd_readNumber_j275
              refine o_okI (fun c94 => ?_) (fun c94 => ?_)
              · refine o_okB (s_Rd_refuse  g58) ?_
                intro q9_95 ⟨g96, g97⟩
                refine o_okG (o_zbM (by first | with_reducible exact True.intro | with_reducible assumption | grind [-Prod] | grind [-Prod, → sc_Rd, → sc_Tx] | grind [-Prod, I_Rd, I_Tx, o_bn, upd])) ?_
                refine o_okS ?_
                refine ⟨?_, ?_, ?_⟩
                · first | with_reducible exact True.intro | with_reducible assumption | grind [-Prod] | grind [-Prod, → sc_Rd, → sc_Tx] | grind [-Prod, I_Rd, I_Tx, o_bn, upd]
                · exact h_tc
                · exact g97
              · refine o_okB (s_Tx_endNumber  hn h_tc) ?_
                intro q8_98 g99
                refine o_okS ?_
                refine ⟨?_, ?_, ?_⟩
                · first | with_reducible exact True.intro | with_reducible assumption | grind [-Prod] | grind [-Prod, → sc_Rd, → sc_Tx] | grind [-Prod, I_Rd, I_Tx, o_bn, upd]
                · exact g99
                · exact g58
            · refine o_okN (fun x7_273_100 ex7_273_100 => ?_)
              unfold m_Rd_readNumber_j275
              refine o_okI (fun c101 => ?_) (fun c101 => ?_)
              · refine o_okB (s_Rd_refuse  g58) ?_
                intro q9_102 ⟨g103, g104⟩
                refine o_okG (o_zbM (by first | with_reducible exact True.intro | with_reducible assumption | grind [-Prod] | grind [-Prod, → sc_Rd, → sc_Tx] | grind [-Prod, I_Rd, I_Tx, o_bn, upd])) ?_
                refine o_okS ?_
                refine ⟨?_, ?_, ?_⟩
                · first | with_reducible exact True.intro | with_reducible assumption | grind [-Prod] | grind [-Prod, → sc_Rd, → sc_Tx] | grind [-Prod, I_Rd, I_Tx, o_bn, upd]
                · exact h_tc
                · exact g104
              · refine o_okB (s_Tx_endNumber  hn h_tc) ?_
                intro q8_105 g106
                refine o_okS ?_
                refine ⟨?_, ?_, ?_⟩
                · first | with_reducible exact True.intro | with_reducible assumption | grind [-Prod] | grind [-Prod, → sc_Rd, → sc_Tx] | grind [-Prod, I_Rd, I_Tx, o_bn, upd]
                · exact g106
                · exact g58
  · unfold m_Rd_readNumber_j197
    unfold m_Rd_readNumber_j207
    refine o_okN (fun x9_211_107 ex9_211_107 => ?_)
    refine o_okB (s_Rd_readExponent  hn ⟨h_Rd.1, h_Rd.2⟩) ?_
    intro q7_108 g109
    refine o_okI (fun c110 => ?_) (fun c110 => ?_)
    · refine o_okB (s_Rd_refuse  g109) ?_
      intro q10_111 ⟨g112, g113⟩
      refine o_okG (o_zbM (by first | with_reducible exact True.intro | with_reducible assumption | grind [-Prod] | grind [-Prod, → sc_Rd, → sc_Tx] | grind [-Prod, I_Rd, I_Tx, o_bn, upd])) ?_
      refine o_okS ?_
      refine ⟨?_, ?_, ?_⟩
      · first | with_reducible exact True.intro | with_reducible assumption | grind [-Prod] | grind [-Prod, → sc_Rd, → sc_Tx] | grind [-Prod, I_Rd, I_Tx, o_bn, upd]
      · exact h_tc
      · exact g113
    · refine o_okI (fun c114 => ?_) (fun c114 => ?_)
      · unfold m_Rd_readNumber_j258
        refine o_okI (fun c115 => ?_) (fun c115 => ?_)
        · unfold m_Rd_readNumber_j275
          refine o_okI (fun c116 => ?_) (fun c116 => ?_)
          · refine o_okB (s_Rd_refuse  g109) ?_
            intro q9_117 ⟨g118, g119⟩
            refine o_okG (o_zbM (by first | with_reducible exact True.intro | with_reducible assumption | grind [-Prod] | grind [-Prod, → sc_Rd, → sc_Tx] | grind [-Prod, I_Rd, I_Tx, o_bn, upd])) ?_
            refine o_okS ?_
            refine ⟨?_, ?_, ?_⟩
            · first | with_reducible exact True.intro | with_reducible assumption | grind [-Prod] | grind [-Prod, → sc_Rd, → sc_Tx] | grind [-Prod, I_Rd, I_Tx, o_bn, upd]
            · exact h_tc
            · exact g119
          · refine o_okB (s_Tx_endNumber  hn h_tc) ?_
            intro q8_120 g121
            refine o_okS ?_
            refine ⟨?_, ?_, ?_⟩
            · first | with_reducible exact True.intro | with_reducible assumption | grind [-Prod] | grind [-Prod, → sc_Rd, → sc_Tx] | grind [-Prod, I_Rd, I_Tx, o_bn, upd]
            · exact g121
            · exact g109
        · refine o_okN (fun x7_273_122 ex7_273_122 => ?_)
          unfold m_Rd_readNumber_j275
          refine o_okI (fun c123 => ?_) (fun c123 => ?_)
          · refine o_okB (s_Rd_refuse  g109) ?_
            intro q9_124 ⟨g125, g126⟩
            refine o_okG (o_zbM (by first | with_reducible exact True.intro | with_reducible assumption | grind [-Prod] | grind [-Prod, → sc_Rd, → sc_Tx] | grind [-Prod, I_Rd, I_Tx, o_bn, upd])) ?_
            refine o_okS ?_
            refine ⟨?_, ?_, ?_⟩
            · first | with_reducible exact True.intro | with_reducible assumption | grind [-Prod] | grind [-Prod, → sc_Rd, → sc_Tx] | grind [-Prod, I_Rd, I_Tx, o_bn, upd]
            · exact h_tc
            · exact g126
          · refine o_okB (s_Tx_endNumber  hn h_tc) ?_
            intro q8_127 g128
            refine o_okS ?_
            refine ⟨?_, ?_, ?_⟩
            · first | with_reducible exact True.intro | with_reducible assumption | grind [-Prod] | grind [-Prod, → sc_Rd, → sc_Tx] | grind [-Prod, I_Rd, I_Tx, o_bn, upd]
            · exact g128
            · exact g109
      · refine o_okI (fun c129 => ?_) (fun c129 => ?_)
        · unfold m_Rd_readNumber_j258
          refine o_okI (fun c130 => ?_) (fun c130 => ?_)
          · unfold m_Rd_readNumber_j275
            refine o_okI (fun c131 => ?_) (fun c131 => ?_)
            · refine o_okB (s_Rd_refuse  g109) ?_
              intro q9_132 ⟨g133, g134⟩
              refine o_okG (o_zbM (by first | with_reducible exact True.intro | with_reducible assumption | grind [-Prod] | grind [-Prod, → sc_Rd, → sc_Tx] | grind [-Prod, I_Rd, I_Tx, o_bn, upd])) ?_
              refine o_okS ?_
              refine ⟨?_, ?_, ?_⟩
              · first | with_reducible exact True.intro | with_reducible assumption | grind [-Prod] | grind [-Prod, → sc_Rd, → sc_Tx] | grind [-Prod, I_Rd, I_Tx, o_bn, upd]
              · exact h_tc
              · exact g134
            · refine o_okB (s_Tx_endNumber  hn h_tc) ?_
              intro q8_135 g136
              refine o_okS ?_
              refine ⟨?_, ?_, ?_⟩
              · first | with_reducible exact True.intro | with_reducible assumption | grind [-Prod] | grind [-Prod, → sc_Rd, → sc_Tx] | grind [-Prod, I_Rd, I_Tx, o_bn, upd]
              · exact g136
              · exact g109
          · refine o_okN (fun x7_273_137 ex7_273_137 => ?_)
            unfold m_Rd_readNumber_j275
            refine o_okI (fun c138 => ?_) (fun c138 => ?_)
            · refine o_okB (s_Rd_refuse  g109) ?_
              intro q9_139 ⟨g140, g141⟩
              refine o_okG (o_zbM (by first | with_reducible exact True.intro | with_reducible assumption | grind [-Prod] | grind [-Prod, → sc_Rd, → sc_Tx] | grind [-Prod, I_Rd, I_Tx, o_bn, upd])) ?_
              refine o_okS ?_
              refine ⟨?_, ?_, ?_⟩
              · first | with_reducible exact True.intro | with_reducible assumption | grind [-Prod] | grind [-Prod, → sc_Rd, → sc_Tx] | grind [-Prod, I_Rd, I_Tx, o_bn, upd]
              · exact h_tc
              · exact g141
            · refine o_okB (s_Tx_endNumber  hn h_tc) ?_
              intro q8_142 g143
              refine o_okS ?_
              refine ⟨?_, ?_, ?_⟩
              · first | with_reducible exact True.intro | with_reducible assumption | grind [-Prod] | grind [-Prod, → sc_Rd, → sc_Tx] | grind [-Prod, I_Rd, I_Tx, o_bn, upd]
              · exact g143
              · exact g109
        · unfold m_Rd_readNumber_j258
          refine o_okI (fun c144 => ?_) (fun c144 => ?_)
          · unfold m_Rd_readNumber_j275
            refine o_okI (fun c145 => ?_) (fun c145 => ?_)
            · refine o_okB (s_Rd_refuse  g109) ?_
              intro q9_146 ⟨g147, g148⟩
              refine o_okG (o_zbM (by first | with_reducible exact True.intro | with_reducible assumption | grind [-Prod] | grind [-Prod, → sc_Rd, → sc_Tx] | grind [-Prod, I_Rd, I_Tx, o_bn, upd])) ?_
              refine o_okS ?_
              refine ⟨?_, ?_, ?_⟩
              · first | with_reducible exact True.intro | with_reducible assumption | grind [-Prod] | grind [-Prod, → sc_Rd, → sc_Tx] | grind [-Prod, I_Rd, I_Tx, o_bn, upd]
              · exact h_tc
              · exact g148
            · refine o_okB (s_Tx_endNumber  hn h_tc) ?_
              intro q8_149 g150
              refine o_okS ?_
              refine ⟨?_, ?_, ?_⟩
              · first | with_reducible exact True.intro | with_reducible assumption | grind [-Prod] | grind [-Prod, → sc_Rd, → sc_Tx] | grind [-Prod, I_Rd, I_Tx, o_bn, upd]
              · exact g150
              · exact g109
          · refine o_okN (fun x7_273_151 ex7_273_151 => ?_)
            unfold m_Rd_readNumber_j275
            refine o_okI (fun c152 => ?_) (fun c152 => ?_)
            · refine o_okB (s_Rd_refuse  g109) ?_
              intro q9_153 ⟨g154, g155⟩
              refine o_okG (o_zbM (by first | with_reducible exact True.intro | with_reducible assumption | grind [-Prod] | grind [-Prod, → sc_Rd, → sc_Tx] | grind [-Prod, I_Rd, I_Tx, o_bn, upd])) ?_
              refine o_okS ?_
              refine ⟨?_, ?_, ?_⟩
              · first | with_reducible exact True.intro | with_reducible assumption | grind [-Prod] | grind [-Prod, → sc_Rd, → sc_Tx] | grind [-Prod, I_Rd, I_Tx, o_bn, upd]
              · exact h_tc
              · exact g155
            · refine o_okB (s_Tx_endNumber  hn h_tc) ?_
              intro q8_156 g157
              refine o_okS ?_
              refine ⟨?_, ?_, ?_⟩
              · first | with_reducible exact True.intro | with_reducible assumption | grind [-Prod] | grind [-Prod, → sc_Rd, → sc_Tx] | grind [-Prod, I_Rd, I_Tx, o_bn, upd]
              · exact g157
              · exact g109
set_option maxHeartbeats 8000000 in
theorem s_Rd_readNumber_j58 {n : Nat} {x1 : Int32} {x2 : Int32} {x3 : Int32} {y0 : Int32} {tc : STx} {Rd : SRd} (hn : o_big ≤ n) (h_tc : I_Tx tc) (h_Rd : I_Rd Rd) : o_ok (m_Rd_readNumber_j58 n x1 x2 x3 y0 tc Rd) (fun r => (r.1 = 0 ∨ r.1 = 1) ∧ I_Tx r.2.1 ∧ I_Rd r.2.2) := by
  unfold m_Rd_readNumber_j58
  refine o_okI (fun c1 => ?_) (fun c1 => ?_)
  · refine o_okB (s_Rd_refuse  h_Rd) ?_
    intro q15_2 ⟨g3, g4⟩
    refine o_okG (o_zbM (by first | with_reducible exact True.intro | with_reducible assumption | grind [-Prod] | grind [-Prod, → sc_Rd, → sc_Tx] | grind [-Prod, I_Rd, I_Tx, o_bn, upd])) ?_
    refine o_okS ?_
    refine ⟨?_, ?_, ?_⟩
    · first | with_reducible exact True.intro | with_reducible assumption | grind [-Prod] | grind [-Prod, → sc_Rd, → sc_Tx] | grind [-Prod, I_Rd, I_Tx, o_bn, upd]
    · exact h_tc
    · exact g4
  · refine o_okB (s_Rd_peek  h_Rd) ?_
    intro q4_5 g6
    refine o_okI (fun c7 => ?_) (fun c7 => ?_)
    · refine o_okB (s_Rd_readDigits  hn h_tc ⟨h_Rd.1, h_Rd.2⟩) ?_
      intro q13_8 ⟨g9, g10⟩
      refine o_okI (fun c11 => ?_) (fun c11 => ?_)
      · refine o_okB (s_Rd_refuse  g10) ?_
        intro q14_12 ⟨g13, g14⟩
        refine o_okG (o_zbM (by first | with_reducible exact True.intro | with_reducible assumption | grind [-Prod] | grind [-Prod, → sc_Rd, → sc_Tx] | grind [-Prod, I_Rd, I_Tx, o_bn, upd])) ?_
        refine o_okS ?_
        refine ⟨?_, ?_, ?_⟩
        · first | with_reducible exact True.intro | with_reducible assumption | grind [-Prod] | grind [-Prod, → sc_Rd, → sc_Tx] | grind [-Prod, I_Rd, I_Tx, o_bn, upd]
        · exact g9
        · exact g14
      · unfold m_Rd_readNumber_j119
        refine o_okI (fun c15 => ?_) (fun c15 => ?_)
        · unfold m_Rd_readNumber_j134
          refine o_okB (s_Rd_peek  g10) ?_
          intro q5_16 g17
          refine o_okI (fun c18 => ?_) (fun c18 => ?_)
          · unfold m_Rd_readNumber_j157
            refine o_okB (s_Rd_peek  ⟨g10.1, g10.2⟩) ?_
            intro q6_19 g20
            refine o_okI (fun c21 => ?_) (fun c21 => ?_)
            · refine o_okW (s_Rd_readNumber_j181  hn g9 ⟨g10.1, g10.2⟩) (fun r hr => ?_)
              first | exact hr | (obtain ⟨g22, g23, g24⟩ := hr; first | with_reducible exact True.intro | with_reducible assumption | grind [-Prod] | grind [-Prod, → sc_Rd, → sc_Tx] | grind [-Prod, I_Rd, I_Tx, o_bn, upd])
            · refine o_okW (s_Rd_readNumber_j181  hn g9 ⟨g10.1, g10.2⟩) (fun r hr => ?_)
              first | exact hr | (obtain ⟨g25, g26, g27⟩ := hr; first | with_reducible exact True.intro | with_reducible assumption | grind [-Prod] | grind [-Prod, → sc_Rd, → sc_Tx] | grind [-Prod, I_Rd, I_Tx, o_bn, upd])
          · refine o_okB (s_Rd_peek  g10) ?_
            intro q12_28 g29
            refine o_okI (fun c30 => ?_) (fun c30 => ?_)
            · unfold m_Rd_readNumber_j157
              refine o_okB (s_Rd_peek  ⟨g10.1, g10.2⟩) ?_
              intro q6_31 g32
              refine o_okI (fun c33 => ?_) (fun c33 => ?_)
              · refine o_okW (s_Rd_readNumber_j181  hn g9 ⟨g10.1, g10.2⟩) (fun r hr => ?_)
                first | exact hr | (obtain ⟨g34, g35, g36⟩ := hr; first | with_reducible exact True.intro | with_reducible assumption | grind [-Prod] | grind [-Prod, → sc_Rd, → sc_Tx] | grind [-Prod, I_Rd, I_Tx, o_bn, upd])
              · refine o_okW (s_Rd_readNumber_j181  hn g9 ⟨g10.1, g10.2⟩) (fun r hr => ?_)
                first | exact hr | (obtain ⟨g37, g38, g39⟩ := hr; first | with_reducible exact True.intro | with_reducible assumption | grind [-Prod] | grind [-Prod, → sc_Rd, → sc_Tx] | grind [-Prod, I_Rd, I_Tx, o_bn, upd])
            · unfold m_Rd_readNumber_j275
              refine o_okI (fun c40 => ?_) (fun c40 => ?_)
              · refine o_okB (s_Rd_refuse  g10) ?_
                intro q9_41 ⟨g42, g43⟩
                refine o_okG (o_zbM (by first | with_reducible exact True.intro | with_reducible assumption | grind [-Prod] | grind [-Prod, → sc_Rd, → sc_Tx] | grind [-Prod, I_Rd, I_Tx, o_bn, upd])) ?_
                refine o_okS ?_
                refine ⟨?_, ?_, ?_⟩
                · first | with_reducible exact True.intro | with_reducible assumption | grind [-Prod] | grind [-Prod, → sc_Rd, → sc_Tx] | grind [-Prod, I_Rd, I_Tx, o_bn, upd]
                · exact g9
                · exact g43
              · refine o_okB (s_Tx_endNumber  hn g9) ?_
                intro q8_44 g45
                refine o_okS ?_
                refine ⟨?_, ?_, ?_⟩
                · first | with_reducible exact True.intro | with_reducible assumption | grind [-Prod] | grind [-Prod, → sc_Rd, → sc_Tx] | grind [-Prod, I_Rd, I_Tx, o_bn, upd]
                · exact g45
                · exact g10
        · unfold m_Rd_readNumber_j134
          refine o_okB (s_Rd_peek  g10) ?_
          intro q5_46 g47
          refine o_okI (fun c48 => ?_) (fun c48 => ?_)
          · unfold m_Rd_readNumber_j157
            refine o_okB (s_Rd_peek  ⟨g10.1, g10.2⟩) ?_
            intro q6_49 g50
            refine o_okI (fun c51 => ?_) (fun c51 => ?_)
            · refine o_okW (s_Rd_readNumber_j181  hn g9 ⟨g10.1, g10.2⟩) (fun r hr => ?_)
              first | exact hr | (obtain ⟨g52, g53, g54⟩ := hr; first | with_reducible exact True.intro | with_reducible assumption | grind [-Prod] | grind [-Prod, → sc_Rd, → sc_Tx] | grind [-Prod, I_Rd, I_Tx, o_bn, upd])
            · refine o_okW (s_Rd_readNumber_j181  hn g9 ⟨g10.1, g10.2⟩) (fun r hr => ?_)
              first | exact hr | (obtain ⟨g55, g56, g57⟩ := hr; first | with_reducible exact True.intro | with_reducible assumption | grind [-Prod] | grind [-Prod, → sc_Rd, → sc_Tx] | grind [-Prod, I_Rd, I_Tx, o_bn, upd])
          · refine o_okB (s_Rd_peek  g10) ?_
            intro q12_58 g59
            refine o_okI (fun c60 => ?_) (fun c60 => ?_)
            · unfold m_Rd_readNumber_j157
              refine o_okB (s_Rd_peek  ⟨g10.1, g10.2⟩) ?_
              intro q6_61 g62
              refine o_okI (fun c63 => ?_) (fun c63 => ?_)
              · refine o_okW (s_Rd_readNumber_j181  hn g9 ⟨g10.1, g10.2⟩) (fun r hr => ?_)
                first | exact hr | (obtain ⟨g64, g65, g66⟩ := hr; first | with_reducible exact True.intro | with_reducible assumption | grind [-Prod] | grind [-Prod, → sc_Rd, → sc_Tx] | grind [-Prod, I_Rd, I_Tx, o_bn, upd])
              · refine o_okW (s_Rd_readNumber_j181  hn g9 ⟨g10.1, g10.2⟩) (fun r hr => ?_)
                first | exact hr | (obtain ⟨g67, g68, g69⟩ := hr; first | with_reducible exact True.intro | with_reducible assumption | grind [-Prod] | grind [-Prod, → sc_Rd, → sc_Tx] | grind [-Prod, I_Rd, I_Tx, o_bn, upd])
            · unfold m_Rd_readNumber_j275
              refine o_okI (fun c70 => ?_) (fun c70 => ?_)
              · refine o_okB (s_Rd_refuse  g10) ?_
                intro q9_71 ⟨g72, g73⟩
                refine o_okG (o_zbM (by first | with_reducible exact True.intro | with_reducible assumption | grind [-Prod] | grind [-Prod, → sc_Rd, → sc_Tx] | grind [-Prod, I_Rd, I_Tx, o_bn, upd])) ?_
                refine o_okS ?_
                refine ⟨?_, ?_, ?_⟩
                · first | with_reducible exact True.intro | with_reducible assumption | grind [-Prod] | grind [-Prod, → sc_Rd, → sc_Tx] | grind [-Prod, I_Rd, I_Tx, o_bn, upd]
                · exact g9
                · exact g73
              · refine o_okB (s_Tx_endNumber  hn g9) ?_
                intro q8_74 g75
                refine o_okS ?_
                refine ⟨?_, ?_, ?_⟩
                · first | with_reducible exact True.intro | with_reducible assumption | grind [-Prod] | grind [-Prod, → sc_Rd, → sc_Tx] | grind [-Prod, I_Rd, I_Tx, o_bn, upd]
                · exact g75
                · exact g10
    · unfold m_Rd_readNumber_j119
      refine o_okI (fun c76 => ?_) (fun c76 => ?_)
      · unfold m_Rd_readNumber_j134
        refine o_okB (s_Rd_peek  h_Rd) ?_
        intro q5_77 g78
        refine o_okI (fun c79 => ?_) (fun c79 => ?_)
        · unfold m_Rd_readNumber_j157
          refine o_okB (s_Rd_peek  ⟨h_Rd.1, h_Rd.2⟩) ?_
          intro q6_80 g81
          refine o_okI (fun c82 => ?_) (fun c82 => ?_)
          · refine o_okW (s_Rd_readNumber_j181  hn h_tc ⟨h_Rd.1, h_Rd.2⟩) (fun r hr => ?_)
            first | exact hr | (obtain ⟨g83, g84, g85⟩ := hr; first | with_reducible exact True.intro | with_reducible assumption | grind [-Prod] | grind [-Prod, → sc_Rd, → sc_Tx] | grind [-Prod, I_Rd, I_Tx, o_bn, upd])
          · refine o_okW (s_Rd_readNumber_j181  hn h_tc ⟨h_Rd.1, h_Rd.2⟩) (fun r hr => ?_)
            first | exact hr | (obtain ⟨g86, g87, g88⟩ := hr; first | with_reducible exact True.intro | with_reducible assumption | grind [-Prod] | grind [-Prod, → sc_Rd, → sc_Tx] | grind [-Prod, I_Rd, I_Tx, o_bn, upd])
        · refine o_okB (s_Rd_peek  h_Rd) ?_
          intro q12_89 g90
          refine o_okI (fun c91 => ?_) (fun c91 => ?_)
          · unfold m_Rd_readNumber_j157
            refine o_okB (s_Rd_peek  ⟨h_Rd.1, h_Rd.2⟩) ?_
            intro q6_92 g93
            refine o_okI (fun c94 => ?_) (fun c94 => ?_)
            · refine o_okW (s_Rd_readNumber_j181  hn h_tc ⟨h_Rd.1, h_Rd.2⟩) (fun r hr => ?_)
              first | exact hr | (obtain ⟨g95, g96, g97⟩ := hr; first | with_reducible exact True.intro | with_reducible assumption | grind [-Prod] | grind [-Prod, → sc_Rd, → sc_Tx] | grind [-Prod, I_Rd, I_Tx, o_bn, upd])
            · refine o_okW (s_Rd_readNumber_j181  hn h_tc ⟨h_Rd.1, h_Rd.2⟩) (fun r hr => ?_)
              first | exact hr | (obtain ⟨g98, g99, g100⟩ := hr; first | with_reducible exact True.intro | with_reducible assumption | grind [-Prod] | grind [-Prod, → sc_Rd, → sc_Tx] | grind [-Prod, I_Rd, I_Tx, o_bn, upd])
          · unfold m_Rd_readNumber_j275
            refine o_okI (fun c101 => ?_) (fun c101 => ?_)
            · refine o_okB (s_Rd_refuse  h_Rd) ?_
              intro q9_102 ⟨g103, g104⟩
              refine o_okG (o_zbM (by first | with_reducible exact True.intro | with_reducible assumption | grind [-Prod] | grind [-Prod, → sc_Rd, → sc_Tx] | grind [-Prod, I_Rd, I_Tx, o_bn, upd])) ?_
              refine o_okS ?_
              refine ⟨?_, ?_, ?_⟩
              · first | with_reducible exact True.intro | with_reducible assumption | grind [-Prod] | grind [-Prod, → sc_Rd, → sc_Tx] | grind [-Prod, I_Rd, I_Tx, o_bn, upd]
              · exact h_tc
              · exact g104
            · refine o_okB (s_Tx_endNumber  hn h_tc) ?_
              intro q8_105 g106
              refine o_okS ?_
              refine ⟨?_, ?_, ?_⟩
              · first | with_reducible exact True.intro | with_reducible assumption | grind [-Prod] | grind [-Prod, → sc_Rd, → sc_Tx] | grind [-Prod, I_Rd, I_Tx, o_bn, upd]
              · exact g106
              · exact h_Rd
      · unfold m_Rd_readNumber_j134
        refine o_okB (s_Rd_peek  h_Rd) ?_
        intro q5_107 g108
        refine o_okI (fun c109 => ?_) (fun c109 => ?_)
        · unfold m_Rd_readNumber_j157
          refine o_okB (s_Rd_peek  ⟨h_Rd.1, h_Rd.2⟩) ?_
          intro q6_110 g111
          refine o_okI (fun c112 => ?_) (fun c112 => ?_)
          · refine o_okW (s_Rd_readNumber_j181  hn h_tc ⟨h_Rd.1, h_Rd.2⟩) (fun r hr => ?_)
            first | exact hr | (obtain ⟨g113, g114, g115⟩ := hr; first | with_reducible exact True.intro | with_reducible assumption | grind [-Prod] | grind [-Prod, → sc_Rd, → sc_Tx] | grind [-Prod, I_Rd, I_Tx, o_bn, upd])
          · refine o_okW (s_Rd_readNumber_j181  hn h_tc ⟨h_Rd.1, h_Rd.2⟩) (fun r hr => ?_)
            first | exact hr | (obtain ⟨g116, g117, g118⟩ := hr; first | with_reducible exact True.intro | with_reducible assumption | grind [-Prod] | grind [-Prod, → sc_Rd, → sc_Tx] | grind [-Prod, I_Rd, I_Tx, o_bn, upd])
        · refine o_okB (s_Rd_peek  h_Rd) ?_
          intro q12_119 g120
          refine o_okI (fun c121 => ?_) (fun c121 => ?_)
          · unfold m_Rd_readNumber_j157
            refine o_okB (s_Rd_peek  ⟨h_Rd.1, h_Rd.2⟩) ?_
            intro q6_122 g123
            refine o_okI (fun c124 => ?_) (fun c124 => ?_)
            · refine o_okW (s_Rd_readNumber_j181  hn h_tc ⟨h_Rd.1, h_Rd.2⟩) (fun r hr => ?_)
              first | exact hr | (obtain ⟨g125, g126, g127⟩ := hr; first | with_reducible exact True.intro | with_reducible assumption | grind [-Prod] | grind [-Prod, → sc_Rd, → sc_Tx] | grind [-Prod, I_Rd, I_Tx, o_bn, upd])
            · refine o_okW (s_Rd_readNumber_j181  hn h_tc ⟨h_Rd.1, h_Rd.2⟩) (fun r hr => ?_)
              first | exact hr | (obtain ⟨g128, g129, g130⟩ := hr; first | with_reducible exact True.intro | with_reducible assumption | grind [-Prod] | grind [-Prod, → sc_Rd, → sc_Tx] | grind [-Prod, I_Rd, I_Tx, o_bn, upd])
          · unfold m_Rd_readNumber_j275
            refine o_okI (fun c131 => ?_) (fun c131 => ?_)
            · refine o_okB (s_Rd_refuse  h_Rd) ?_
              intro q9_132 ⟨g133, g134⟩
              refine o_okG (o_zbM (by first | with_reducible exact True.intro | with_reducible assumption | grind [-Prod] | grind [-Prod, → sc_Rd, → sc_Tx] | grind [-Prod, I_Rd, I_Tx, o_bn, upd])) ?_
              refine o_okS ?_
              refine ⟨?_, ?_, ?_⟩
              · first | with_reducible exact True.intro | with_reducible assumption | grind [-Prod] | grind [-Prod, → sc_Rd, → sc_Tx] | grind [-Prod, I_Rd, I_Tx, o_bn, upd]
              · exact h_tc
              · exact g134
            · refine o_okB (s_Tx_endNumber  hn h_tc) ?_
              intro q8_135 g136
              refine o_okS ?_
              refine ⟨?_, ?_, ?_⟩
              · first | with_reducible exact True.intro | with_reducible assumption | grind [-Prod] | grind [-Prod, → sc_Rd, → sc_Tx] | grind [-Prod, I_Rd, I_Tx, o_bn, upd]
              · exact g136
              · exact h_Rd
theorem s_Rd_readNumber {n : Nat} {x1 : Int32} {tc : STx} {Rd : SRd} (hn : o_big ≤ n) (h_tc : I_Tx tc) (h_Rd : I_Rd Rd) : o_ok (m_Rd_readNumber n x1 tc Rd) (fun r => (r.1 = 0 ∨ r.1 = 1) ∧ I_Tx r.2.1 ∧ I_Rd r.2.2) := by
  unfold m_Rd_readNumber
  refine o_okN (fun x2_4_1 ex2_4_1 => ?_)
  refine o_okB (s_Rd_peek  h_Rd) ?_
  intro q1_2 g3
  refine o_okI (fun c4 => ?_) (fun c4 => ?_)
  · unfold m_Rd_readNumber_j19
    refine o_okI (fun c5 => ?_) (fun c5 => ?_)
    · unfold m_Rd_readNumber_j34
      refine o_okB (s_Rd_peek  h_Rd) ?_
      intro q2_6 g7
      refine o_okI (fun c8 => ?_) (fun c8 => ?_)
      · refine o_okB (s_Rd_readDigits  hn h_tc h_Rd) ?_
        intro q16_9 ⟨g10, g11⟩
        refine o_okW (s_Rd_readNumber_j58  hn g10 g11) (fun r hr => ?_)
        first | exact hr | (obtain ⟨g12, g13, g14⟩ := hr; first | with_reducible exact True.intro | with_reducible assumption | grind [-Prod] | grind [-Prod, → sc_Rd, → sc_Tx] | grind [-Prod, I_Rd, I_Tx, o_bn, upd])
      · refine o_okB (s_Rd_readDigits  hn h_tc h_Rd) ?_
        intro q3_15 ⟨g16, g17⟩
        refine o_okW (s_Rd_readNumber_j58  hn g16 g17) (fun r hr => ?_)
        first | exact hr | (obtain ⟨g18, g19, g20⟩ := hr; first | with_reducible exact True.intro | with_reducible assumption | grind [-Prod] | grind [-Prod, → sc_Rd, → sc_Tx] | grind [-Prod, I_Rd, I_Tx, o_bn, upd])
    · unfold m_Rd_readNumber_j34
      refine o_okB (s_Rd_peek  ⟨h_Rd.1, h_Rd.2⟩) ?_
      intro q2_21 g22
      refine o_okI (fun c23 => ?_) (fun c23 => ?_)
      · refine o_okB (s_Rd_readDigits  hn h_tc ⟨h_Rd.1, h_Rd.2⟩) ?_
        intro q16_24 ⟨g25, g26⟩
        refine o_okW (s_Rd_readNumber_j58  hn g25 g26) (fun r hr => ?_)
        first | exact hr | (obtain ⟨g27, g28, g29⟩ := hr; first | with_reducible exact True.intro | with_reducible assumption | grind [-Prod] | grind [-Prod, → sc_Rd, → sc_Tx] | grind [-Prod, I_Rd, I_Tx, o_bn, upd])
      · refine o_okB (s_Rd_readDigits  hn h_tc ⟨h_Rd.1, h_Rd.2⟩) ?_
        intro q3_30 ⟨g31, g32⟩
        refine o_okW (s_Rd_readNumber_j58  hn g31 g32) (fun r hr => ?_)
        first | exact hr | (obtain ⟨g33, g34, g35⟩ := hr; first | with_reducible exact True.intro | with_reducible assumption | grind [-Prod] | grind [-Prod, → sc_Rd, → sc_Tx] | grind [-Prod, I_Rd, I_Tx, o_bn, upd])
  · unfold m_Rd_readNumber_j19
    refine o_okI (fun c36 => ?_) (fun c36 => ?_)
    · unfold m_Rd_readNumber_j34
      refine o_okB (s_Rd_peek  h_Rd) ?_
      intro q2_37 g38
      refine o_okI (fun c39 => ?_) (fun c39 => ?_)
      · refine o_okB (s_Rd_readDigits  hn h_tc h_Rd) ?_
        intro q16_40 ⟨g41, g42⟩
        refine o_okW (s_Rd_readNumber_j58  hn g41 g42) (fun r hr => ?_)
        first | exact hr | (obtain ⟨g43, g44, g45⟩ := hr; first | with_reducible exact True.intro | with_reducible assumption | grind [-Prod] | grind [-Prod, → sc_Rd, → sc_Tx] | grind [-Prod, I_Rd, I_Tx, o_bn, upd])
      · refine o_okB (s_Rd_readDigits  hn h_tc h_Rd) ?_
        intro q3_46 ⟨g47, g48⟩
        refine o_okW (s_Rd_readNumber_j58  hn g47 g48) (fun r hr => ?_)
        first | exact hr | (obtain ⟨g49, g50, g51⟩ := hr; first | with_reducible exact True.intro | with_reducible assumption | grind [-Prod] | grind [-Prod, → sc_Rd, → sc_Tx] | grind [-Prod, I_Rd, I_Tx, o_bn, upd])
    · unfold m_Rd_readNumber_j34
      refine o_okB (s_Rd_peek  ⟨h_Rd.1, h_Rd.2⟩) ?_
      intro q2_52 g53
      refine o_okI (fun c54 => ?_) (fun c54 => ?_)
      · refine o_okB (s_Rd_readDigits  hn h_tc ⟨h_Rd.1, h_Rd.2⟩) ?_
        intro q16_55 ⟨g56, g57⟩
        refine o_okW (s_Rd_readNumber_j58  hn g56 g57) (fun r hr => ?_)
        first | exact hr | (obtain ⟨g58, g59, g60⟩ := hr; first | with_reducible exact True.intro | with_reducible assumption | grind [-Prod] | grind [-Prod, → sc_Rd, → sc_Tx] | grind [-Prod, I_Rd, I_Tx, o_bn, upd])
      · refine o_okB (s_Rd_readDigits  hn h_tc ⟨h_Rd.1, h_Rd.2⟩) ?_
        intro q3_61 ⟨g62, g63⟩
        refine o_okW (s_Rd_readNumber_j58  hn g62 g63) (fun r hr => ?_)
        first | exact hr | (obtain ⟨g64, g65, g66⟩ := hr; first | with_reducible exact True.intro | with_reducible assumption | grind [-Prod] | grind [-Prod, → sc_Rd, → sc_Tx] | grind [-Prod, I_Rd, I_Tx, o_bn, upd])
theorem s_Tx_endString {x1 : Int32} {a0 : STx} (h_a0 : I_Tx a0) : o_ok (m_Tx_endString x1 a0) (fun r => I_Tx r) := by
  unfold m_Tx_endString
  refine o_okI (fun c1 => ?_) (fun c1 => ?_)
  · refine o_okS ?_
    exact h_a0
  · refine o_okI (fun c2 => ?_) (fun c2 => ?_)
    · refine o_okS ?_
      exact h_a0
    · refine o_okG (o_inM (m := 1000) rfl (by first | with_reducible exact True.intro | with_reducible assumption | grind [-Prod] | grind [-Prod, → sc_Tx] | grind [-Prod, I_Tx, o_bn, upd]) (by first | with_reducible exact True.intro | with_reducible assumption | grind [-Prod] | grind [-Prod, → sc_Tx] | grind [-Prod, I_Tx, o_bn, upd])) ?_
      refine o_okG (o_inM (m := 1000) rfl (by first | with_reducible exact True.intro | with_reducible assumption | grind [-Prod] | grind [-Prod, → sc_Tx] | grind [-Prod, I_Tx, o_bn, upd]) (by first | with_reducible exact True.intro | with_reducible assumption | grind [-Prod] | grind [-Prod, → sc_Tx] | grind [-Prod, I_Tx, o_bn, upd])) ?_
      refine o_okS ?_
      exact ⟨h_a0.1, h_a0.2.1, h_a0.2.2.1, h_a0.2.2.2.1, h_a0.2.2.2.2.1, (o_bnU h_a0.2.2.2.2.2.1 (by first | with_reducible exact True.intro | with_reducible assumption | grind [-Prod] | grind [-Prod, → sc_Tx] | grind [-Prod, I_Tx, o_bn, upd]) (by first | with_reducible exact True.intro | with_reducible assumption | grind [-Prod] | grind [-Prod, → sc_Tx] | grind [-Prod, I_Tx, o_bn, upd])), h_a0.2.2.2.2.2.2⟩
theorem s_Rd_readShortEscape {x1 : Int32} {Rd : SRd} (h_Rd : I_Rd Rd) : o_ok (m_Rd_readShortEscape x1 Rd) (fun r => (-1 ≤ r.1 ∧ r.1 ≤ 1114111) ∧ I_Rd r.2) := by
  unfold m_Rd_readShortEscape
  refine o_okN (fun x2_4_1 ex2_4_1 => ?_)
  refine o_okI (fun c2 => ?_) (fun c2 => ?_)
  · refine o_okS ?_
    refine ⟨?_, ?_⟩
    · first | with_reducible exact True.intro | with_reducible assumption | grind [-Prod] | grind [-Prod, → sc_Rd] | grind [-Prod, I_Rd, o_bn, upd]
    · exact ⟨h_Rd.1, h_Rd.2⟩
  · refine o_okI (fun c3 => ?_) (fun c3 => ?_)
    · refine o_okS ?_
      refine ⟨?_, ?_⟩
      · first | with_reducible exact True.intro | with_reducible assumption | grind [-Prod] | grind [-Prod, → sc_Rd] | grind [-Prod, I_Rd, o_bn, upd]
      · exact ⟨h_Rd.1, h_Rd.2⟩
    · refine o_okI (fun c4 => ?_) (fun c4 => ?_)
      · refine o_okS ?_
        refine ⟨?_, ?_⟩
        · first | with_reducible exact True.intro | with_reducible assumption | grind [-Prod] | grind [-Prod, → sc_Rd] | grind [-Prod, I_Rd, o_bn, upd]
        · exact ⟨h_Rd.1, h_Rd.2⟩
      · refine o_okI (fun c5 => ?_) (fun c5 => ?_)
        · refine o_okS ?_
          refine ⟨?_, ?_⟩
          · first | with_reducible exact True.intro | with_reducible assumption | grind [-Prod] | grind [-Prod, → sc_Rd] | grind [-Prod, I_Rd, o_bn, upd]
          · exact ⟨h_Rd.1, h_Rd.2⟩
        · refine o_okI (fun c6 => ?_) (fun c6 => ?_)
          · refine o_okS ?_
            refine ⟨?_, ?_⟩
            · first | with_reducible exact True.intro | with_reducible assumption | grind [-Prod] | grind [-Prod, → sc_Rd] | grind [-Prod, I_Rd, o_bn, upd]
            · exact ⟨h_Rd.1, h_Rd.2⟩
          · refine o_okI (fun c7 => ?_) (fun c7 => ?_)
            · refine o_okS ?_
              refine ⟨?_, ?_⟩
              · first | with_reducible exact True.intro | with_reducible assumption | grind [-Prod] | grind [-Prod, → sc_Rd] | grind [-Prod, I_Rd, o_bn, upd]
              · exact ⟨h_Rd.1, h_Rd.2⟩
            · refine o_okI (fun c8 => ?_) (fun c8 => ?_)
              · refine o_okS ?_
                refine ⟨?_, ?_⟩
                · first | with_reducible exact True.intro | with_reducible assumption | grind [-Prod] | grind [-Prod, → sc_Rd] | grind [-Prod, I_Rd, o_bn, upd]
                · exact ⟨h_Rd.1, h_Rd.2⟩
              · refine o_okI (fun c9 => ?_) (fun c9 => ?_)
                · refine o_okS ?_
                  refine ⟨?_, ?_⟩
                  · first | with_reducible exact True.intro | with_reducible assumption | grind [-Prod] | grind [-Prod, → sc_Rd] | grind [-Prod, I_Rd, o_bn, upd]
                  · exact ⟨h_Rd.1, h_Rd.2⟩
                · refine o_okB (s_Rd_refuse  ⟨h_Rd.1, h_Rd.2⟩) ?_
                  intro q1_10 ⟨g11, g12⟩
                  refine o_okS ?_
                  refine ⟨?_, ?_⟩
                  · first | with_reducible exact True.intro | with_reducible assumption | grind [-Prod] | grind [-Prod, → sc_Rd] | grind [-Prod, I_Rd, o_bn, upd]
                  · exact g12
theorem s_SJ_hexDigit {x0 : Int32}  : o_ok (m_SJ_hexDigit x0) (fun r => (-1 ≤ r ∧ r ≤ 15)) := by
  unfold m_SJ_hexDigit
  refine o_okI (fun c1 => ?_) (fun c1 => ?_)
  · unfold m_SJ_hexDigit_j17
    refine o_okI (fun c2 => ?_) (fun c2 => ?_)
    · unfold m_SJ_hexDigit_j37
      refine o_okI (fun c3 => ?_) (fun c3 => ?_)
      · refine o_okS ?_
        first | with_reducible exact True.intro | with_reducible assumption | grind [-Prod] | grind [-Prod] | grind [-Prod, o_bn, upd]
      · refine o_okI (fun c4 => ?_) (fun c4 => ?_)
        · refine o_okS ?_
          first | with_reducible exact True.intro | with_reducible assumption | grind [-Prod] | grind [-Prod] | grind [-Prod, o_bn, upd]
        · refine o_okS ?_
          first | with_reducible exact True.intro | with_reducible assumption | grind [-Prod] | grind [-Prod] | grind [-Prod, o_bn, upd]
    · refine o_okI (fun c5 => ?_) (fun c5 => ?_)
      · unfold m_SJ_hexDigit_j37
        refine o_okI (fun c6 => ?_) (fun c6 => ?_)
        · refine o_okS ?_
          first | with_reducible exact True.intro | with_reducible assumption | grind [-Prod] | grind [-Prod] | grind [-Prod, o_bn, upd]
        · refine o_okI (fun c7 => ?_) (fun c7 => ?_)
          · refine o_okS ?_
            first | with_reducible exact True.intro | with_reducible assumption | grind [-Prod] | grind [-Prod] | grind [-Prod, o_bn, upd]
          · refine o_okS ?_
            first | with_reducible exact True.intro | with_reducible assumption | grind [-Prod] | grind [-Prod] | grind [-Prod, o_bn, upd]
      · refine o_okS ?_
        first | with_reducible exact True.intro | with_reducible assumption | grind [-Prod] | grind [-Prod] | grind [-Prod, o_bn, upd]
  · refine o_okI (fun c8 => ?_) (fun c8 => ?_)
    · unfold m_SJ_hexDigit_j17
      refine o_okI (fun c9 => ?_) (fun c9 => ?_)
      · unfold m_SJ_hexDigit_j37
        refine o_okI (fun c10 => ?_) (fun c10 => ?_)
        · refine o_okS ?_
          first | with_reducible exact True.intro | with_reducible assumption | grind [-Prod] | grind [-Prod] | grind [-Prod, o_bn, upd]
        · refine o_okI (fun c11 => ?_) (fun c11 => ?_)
          · refine o_okS ?_
            first | with_reducible exact True.intro | with_reducible assumption | grind [-Prod] | grind [-Prod] | grind [-Prod, o_bn, upd]
          · refine o_okS ?_
            first | with_reducible exact True.intro | with_reducible assumption | grind [-Prod] | grind [-Prod] | grind [-Prod, o_bn, upd]
      · refine o_okI (fun c12 => ?_) (fun c12 => ?_)
        · unfold m_SJ_hexDigit_j37
          refine o_okI (fun c13 => ?_) (fun c13 => ?_)
          · refine o_okS ?_
            first | with_reducible exact True.intro | with_reducible assumption | grind [-Prod] | grind [-Prod] | grind [-Prod, o_bn, upd]
          · refine o_okI (fun c14 => ?_) (fun c14 => ?_)
            · refine o_okS ?_
              first | with_reducible exact True.intro | with_reducible assumption | grind [-Prod] | grind [-Prod] | grind [-Prod, o_bn, upd]
            · refine o_okS ?_
              first | with_reducible exact True.intro | with_reducible assumption | grind [-Prod] | grind [-Prod] | grind [-Prod, o_bn, upd]
        · refine o_okS ?_
          first | with_reducible exact True.intro | with_reducible assumption | grind [-Prod] | grind [-Prod] | grind [-Prod, o_bn, upd]
    · refine o_okS ?_
      first | with_reducible exact True.intro | with_reducible assumption | grind [-Prod] | grind [-Prod] | grind [-Prod, o_bn, upd]
theorem s_Rd_readHex_b4 {n : Nat} {z : Int32 × Int32 × SRd} (hn : o_big ≤ n) (l0 : 0 ≤ z.1) (l1 : ((z.2.1 = 0 → z.1 ≤ 0) ∧ (z.2.1 = 1 → z.1 ≤ 15) ∧ (z.2.1 = 2 → z.1 ≤ 255) ∧ (z.2.1 = 3 → z.1 ≤ 4095) ∧ z.1 ≤ 65535)) (l2 : z.2.1 ≤ 4) (l3 : 0 ≤ z.2.1) (l4 : I_Rd z.2.2) : o_ok (m_Rd_readHex_b4 n z) (fun q => (q.1 = 0 → 0 ≤ q.2.1 ∧ ((q.2.2.1 = 0 → q.2.1 ≤ 0) ∧ (q.2.2.1 = 1 → q.2.1 ≤ 15) ∧ (q.2.2.1 = 2 → q.2.1 ≤ 255) ∧ (q.2.2.1 = 3 → q.2.1 ≤ 4095) ∧ q.2.1 ≤ 65535) ∧ q.2.2.1 ≤ 4 ∧ 0 ≤ q.2.2.1 ∧ I_Rd q.2.2.2 ∧ o_mu q.2.2.1 < o_mu z.2.1) ∧ (q.1 ≠ 0 → 0 ≤ q.2.1 ∧ q.2.1 ≤ 65535 ∧ I_Rd q.2.2.2)) := by
  unfold m_Rd_readHex_b4
  refine o_okI (fun c1 => ?_) (fun c1 => ?_)
  · refine o_okS ?_
    refine ⟨fun h => absurd (show (2 : Nat) = 0 from h) (by decide), fun _ => ?_⟩
    refine ⟨?_, ?_, ?_⟩
    · first | with_reducible exact True.intro | with_reducible assumption | grind [-Prod] | grind [-Prod, → sc_Rd] | grind [-Prod, I_Rd, o_bn, upd]
    · first | with_reducible exact True.intro | with_reducible assumption | grind [-Prod] | grind [-Prod, → sc_Rd] | grind [-Prod, I_Rd, o_bn, upd]
    · exact l4
  · refine o_okB (s_Rd_peek  l4) ?_
    intro q1_2 g3
    refine o_okB (s_SJ_hexDigit ) ?_
    intro q2_4 g5
    refine o_okI (fun c6 => ?_) (fun c6 => ?_)
    · refine o_okS ?_
      refine ⟨fun h => absurd (show (1 : Nat) = 0 from h) (by decide), fun _ => ?_⟩
      refine ⟨?_, ?_, ?_⟩
      · first | with_reducible exact True.intro | with_reducible assumption | grind [-Prod] | grind [-Prod, → sc_Rd] | grind [-Prod, I_Rd, o_bn, upd]
      · first | with_reducible exact True.intro | with_reducible assumption | grind [-Prod] | grind [-Prod, → sc_Rd] | grind [-Prod, I_Rd, o_bn, upd]
      · exact l4
    · refine o_okN (fun x1_39_7 ex1_39_7 => ?_)
      refine o_okN (fun x2_50_8 ex2_50_8 => ?_)
      refine o_okS ?_
      refine ⟨fun _ => ?_, fun h => absurd rfl h⟩
      refine ⟨?_, ?_, ?_, ?_, ?_, ?_⟩
      · first | with_reducible exact True.intro | with_reducible assumption | grind [-Prod] | grind [-Prod, → sc_Rd] | grind [-Prod, I_Rd, o_bn, upd]
      · first | with_reducible exact True.intro | with_reducible assumption | grind [-Prod] | grind [-Prod, → sc_Rd] | grind [-Prod, I_Rd, o_bn, upd]
      · first | with_reducible exact True.intro | with_reducible assumption | grind [-Prod] | grind [-Prod, → sc_Rd] | grind [-Prod, I_Rd, o_bn, upd]
      · first | with_reducible exact True.intro | with_reducible assumption | grind [-Prod] | grind [-Prod, → sc_Rd] | grind [-Prod, I_Rd, o_bn, upd]
      · exact ⟨l4.1, l4.2⟩
      · first | exact o_muL (by first | with_reducible exact True.intro | with_reducible assumption | grind [-Prod] | grind [-Prod, → sc_Rd] | grind [-Prod, I_Rd, o_bn, upd]) | exact o_nuL (by first | with_reducible exact True.intro | with_reducible assumption | grind [-Prod] | grind [-Prod, → sc_Rd] | grind [-Prod, I_Rd, o_bn, upd]) | (first | with_reducible exact True.intro | with_reducible assumption | grind [-Prod] | grind [-Prod, → sc_Rd] | grind [-Prod, I_Rd, o_bn, upd])
theorem l_Rd_readHex_b4 {n : Nat} {z : Int32 × Int32 × SRd} (hn : o_big ≤ n) (l0 : 0 ≤ z.1) (l1 : ((z.2.1 = 0 → z.1 ≤ 0) ∧ (z.2.1 = 1 → z.1 ≤ 15) ∧ (z.2.1 = 2 → z.1 ≤ 255) ∧ (z.2.1 = 3 → z.1 ≤ 4095) ∧ z.1 ≤ 65535)) (l2 : z.2.1 ≤ 4) (l3 : 0 ≤ z.2.1) (l4 : I_Rd z.2.2) : o_ok (o_lp n (m_Rd_readHex_b4 n) z) (fun q => q.1 ≠ 0 ∧ 0 ≤ q.2.1 ∧ q.2.1 ≤ 65535 ∧ I_Rd q.2.2.2) := by
  exact o_lpR (fun z => 0 ≤ z.1 ∧ ((z.2.1 = 0 → z.1 ≤ 0) ∧ (z.2.1 = 1 → z.1 ≤ 15) ∧ (z.2.1 = 2 → z.1 ≤ 255) ∧ (z.2.1 = 3 → z.1 ≤ 4095) ∧ z.1 ≤ 65535) ∧ z.2.1 ≤ 4 ∧ 0 ≤ z.2.1 ∧ I_Rd z.2.2) (fun z => o_mu z.2.1) hn (o_muB) ⟨l0, l1, l2, l3, l4⟩
    (fun z hz => by obtain ⟨l0, l1, l2, l3, l4⟩ := hz; exact o_okW (s_Rd_readHex_b4 hn l0 l1 l2 l3 l4) (fun q hq => ⟨fun h => by have := hq.1 h; grind, hq.2⟩))
theorem s_Rd_readHex {n : Nat} {Rd : SRd} (hn : o_big ≤ n) (h_Rd : I_Rd Rd) : o_ok (m_Rd_readHex n Rd) (fun r => (-1 ≤ r.1 ∧ r.1 ≤ 65535) ∧ I_Rd r.2) := by
  unfold m_Rd_readHex
  refine o_okB (l_Rd_readHex_b4  hn (by first | with_reducible exact True.intro | with_reducible assumption | grind [-Prod] | grind [-Prod, → sc_Rd] | grind [-Prod, I_Rd, o_bn, upd]) (by first | with_reducible exact True.intro | with_reducible assumption | grind [-Prod] | grind [-Prod, → sc_Rd] | grind [-Prod, I_Rd, o_bn, upd]) (by first | with_reducible exact True.intro | with_reducible assumption | grind [-Prod] | grind [-Prod, → sc_Rd] | grind [-Prod, I_Rd, o_bn, upd]) (by first | with_reducible exact True.intro | with_reducible assumption | grind [-Prod] | grind [-Prod, → sc_Rd] | grind [-Prod, I_Rd, o_bn, upd]) h_Rd) ?_
  intro q3_1 ⟨yq3_1, g2, g3, g4⟩
  refine o_okI (fun c5 => ?_) (fun c5 => ?_)
  · refine o_okB (s_Rd_refuse  g4) ?_
    intro q4_6 ⟨g7, g8⟩
    refine o_okS ?_
    refine ⟨?_, ?_⟩
    · first | with_reducible exact True.intro | with_reducible assumption | grind [-Prod] | grind [-Prod, → sc_Rd] | grind [-Prod, I_Rd, o_bn, upd]
    · exact g8
  · refine o_okS ?_
    refine ⟨?_, ?_⟩
    · first | with_reducible exact True.intro | with_reducible assumption | grind [-Prod] | grind [-Prod, → sc_Rd] | grind [-Prod, I_Rd, o_bn, upd]
    · exact g4
theorem s_SJ_isSurrogate {x0 : Int32}  : o_ok (m_SJ_isSurrogate x0) (fun r => (r = 0 ∨ r = 1) ∧ (r ≠ 0 → 55296 ≤ x0 ∧ x0 ≤ 57343)) := by
  unfold m_SJ_isSurrogate
  refine o_okI (fun c1 => ?_) (fun c1 => ?_)
  · refine o_okS ?_
    refine ⟨?_, ?_⟩
    · first | with_reducible exact True.intro | with_reducible assumption | grind [-Prod] | grind [-Prod] | grind [-Prod, o_bn, upd]
    · first | with_reducible exact True.intro | with_reducible assumption | grind [-Prod] | grind [-Prod] | grind [-Prod, o_bn, upd]
  · refine o_okI (fun c2 => ?_) (fun c2 => ?_)
    · refine o_okS ?_
      refine ⟨?_, ?_⟩
      · first | with_reducible exact True.intro | with_reducible assumption | grind [-Prod] | grind [-Prod] | grind [-Prod, o_bn, upd]
      · first | with_reducible exact True.intro | with_reducible assumption | grind [-Prod] | grind [-Prod] | grind [-Prod, o_bn, upd]
    · refine o_okS ?_
      refine ⟨?_, ?_⟩
      · first | with_reducible exact True.intro | with_reducible assumption | grind [-Prod] | grind [-Prod] | grind [-Prod, o_bn, upd]
      · first | with_reducible exact True.intro | with_reducible assumption | grind [-Prod] | grind [-Prod] | grind [-Prod, o_bn, upd]
set_option maxHeartbeats 8000000 in
theorem s_Rd_readEscape {n : Nat} {Rd : SRd} (hn : o_big ≤ n) (h_Rd : I_Rd Rd) : o_ok (m_Rd_readEscape n Rd) (fun r => (-1 ≤ r.1 ∧ r.1 ≤ 1114111) ∧ I_Rd r.2) := by
  unfold m_Rd_readEscape
  refine o_okN (fun x1_4_1 ex1_4_1 => ?_)
  refine o_okB (s_Rd_peek  ⟨h_Rd.1, h_Rd.2⟩) ?_
  intro q1_2 g3
  refine o_okI (fun c4 => ?_) (fun c4 => ?_)
  · refine o_okB (s_Rd_readHex  hn ⟨h_Rd.1, h_Rd.2⟩) ?_
    intro q2_5 ⟨g6, g7⟩
    refine o_okB (s_SJ_isSurrogate ) ?_
    intro q3_8 ⟨g9, g10⟩
    refine o_okI (fun c11 => ?_) (fun c11 => ?_)
    · refine o_okS ?_
      refine ⟨?_, ?_⟩
      · first | with_reducible exact True.intro | with_reducible assumption | grind [-Prod, o_sur] | grind [-Prod, → sc_Rd, o_sur] | grind [-Prod, I_Rd, o_bn, upd, o_sur]
      · exact g7
    · refine o_okI (fun c12 => ?_) (fun c12 => ?_)
      · unfold m_Rd_readEscape_j109
        refine o_okI (fun c13 => ?_) (fun c13 => ?_)
        · unfold m_Rd_readEscape_j123
          refine o_okB (s_Rd_refuse  g7) ?_
          intro q4_14 ⟨g15, g16⟩
          refine o_okS ?_
          refine ⟨?_, ?_⟩
          · first | with_reducible exact True.intro | with_reducible assumption | grind [-Prod, o_sur] | grind [-Prod, → sc_Rd, o_sur] | grind [-Prod, I_Rd, o_bn, upd, o_sur]
          · exact g16
        · refine o_okI (fun c17 => ?_) (fun c17 => ?_)
          · refine o_okS ?_
            refine ⟨?_, ?_⟩
            · first | with_reducible exact True.intro | with_reducible assumption | grind [-Prod, o_sur] | grind [-Prod, → sc_Rd, o_sur] | grind [-Prod, I_Rd, o_bn, upd, o_sur]
            · exact g7
          · unfold m_Rd_readEscape_j123
            refine o_okB (s_Rd_refuse  g7) ?_
            intro q4_18 ⟨g19, g20⟩
            refine o_okS ?_
            refine ⟨?_, ?_⟩
            · first | with_reducible exact True.intro | with_reducible assumption | grind [-Prod, o_sur] | grind [-Prod, → sc_Rd, o_sur] | grind [-Prod, I_Rd, o_bn, upd, o_sur]
            · exact g20
      · refine o_okB (s_Rd_peek  g7) ?_
        intro q5_21 g22
        refine o_okI (fun c23 => ?_) (fun c23 => ?_)
        · refine o_okB (s_Rd_peek  ⟨g7.1, g7.2⟩) ?_
          intro q6_24 g25
          refine o_okI (fun c26 => ?_) (fun c26 => ?_)
          · refine o_okB (s_Rd_readHex  hn ⟨g7.1, g7.2⟩) ?_
            intro q7_27 ⟨g28, g29⟩
            unfold m_Rd_readEscape_j109
            refine o_okI (fun c30 => ?_) (fun c30 => ?_)
            · unfold m_Rd_readEscape_j123
              refine o_okB (s_Rd_refuse  g29) ?_
              intro q4_31 ⟨g32, g33⟩
              refine o_okS ?_
              refine ⟨?_, ?_⟩
              · first | with_reducible exact True.intro | with_reducible assumption | grind [-Prod, o_sur] | grind [-Prod, → sc_Rd, o_sur] | grind [-Prod, I_Rd, o_bn, upd, o_sur]
              · exact g33
            · refine o_okI (fun c34 => ?_) (fun c34 => ?_)
              · refine o_okS ?_
                refine ⟨?_, ?_⟩
                · first | with_reducible exact True.intro | with_reducible assumption | grind [-Prod, o_sur] | grind [-Prod, → sc_Rd, o_sur] | grind [-Prod, I_Rd, o_bn, upd, o_sur]
                · exact g29
              · unfold m_Rd_readEscape_j123
                refine o_okB (s_Rd_refuse  g29) ?_
                intro q4_35 ⟨g36, g37⟩
                refine o_okS ?_
                refine ⟨?_, ?_⟩
                · first | with_reducible exact True.intro | with_reducible assumption | grind [-Prod, o_sur] | grind [-Prod, → sc_Rd, o_sur] | grind [-Prod, I_Rd, o_bn, upd, o_sur]
                · exact g37
          · unfold m_Rd_readEscape_j109
            refine o_okI (fun c38 => ?_) (fun c38 => ?_)
            · unfold m_Rd_readEscape_j123
              refine o_okB (s_Rd_refuse  ⟨g7.1, g7.2⟩) ?_
              intro q4_39 ⟨g40, g41⟩
              refine o_okS ?_
              refine ⟨?_, ?_⟩
              · first | with_reducible exact True.intro | with_reducible assumption | grind [-Prod, o_sur] | grind [-Prod, → sc_Rd, o_sur] | grind [-Prod, I_Rd, o_bn, upd, o_sur]
              · exact g41
            · refine o_okI (fun c42 => ?_) (fun c42 => ?_)
              · refine o_okS ?_
                refine ⟨?_, ?_⟩
                · first | with_reducible exact True.intro | with_reducible assumption | grind [-Prod, o_sur] | grind [-Prod, → sc_Rd, o_sur] | grind [-Prod, I_Rd, o_bn, upd, o_sur]
                · exact ⟨g7.1, g7.2⟩
              · unfold m_Rd_readEscape_j123
                refine o_okB (s_Rd_refuse  ⟨g7.1, g7.2⟩) ?_
                intro q4_43 ⟨g44, g45⟩
                refine o_okS ?_
                refine ⟨?_, ?_⟩
                · first | with_reducible exact True.intro | with_reducible assumption | grind [-Prod, o_sur] | grind [-Prod, → sc_Rd, o_sur] | grind [-Prod, I_Rd, o_bn, upd, o_sur]
                · exact g45
        · unfold m_Rd_readEscape_j109
          refine o_okI (fun c46 => ?_) (fun c46 => ?_)
          · unfold m_Rd_readEscape_j123
            refine o_okB (s_Rd_refuse  g7) ?_
            intro q4_47 ⟨g48, g49⟩
            refine o_okS ?_
            refine ⟨?_, ?_⟩
            · first | with_reducible exact True.intro | with_reducible assumption | grind [-Prod, o_sur] | grind [-Prod, → sc_Rd, o_sur] | grind [-Prod, I_Rd, o_bn, upd, o_sur]
            · exact g49
          · refine o_okI (fun c50 => ?_) (fun c50 => ?_)
            · refine o_okS ?_
              refine ⟨?_, ?_⟩
              · first | with_reducible exact True.intro | with_reducible assumption | grind [-Prod, o_sur] | grind [-Prod, → sc_Rd, o_sur] | grind [-Prod, I_Rd, o_bn, upd, o_sur]
              · exact g7
            · unfold m_Rd_readEscape_j123
              refine o_okB (s_Rd_refuse  g7) ?_
              intro q4_51 ⟨g52, g53⟩
              refine o_okS ?_
              refine ⟨?_, ?_⟩
              · first | with_reducible exact True.intro | with_reducible assumption | grind [-Prod, o_sur] | grind [-Prod, → sc_Rd, o_sur] | grind [-Prod, I_Rd, o_bn, upd, o_sur]
              · exact g53
  · refine o_okB (s_Rd_readShortEscape  ⟨h_Rd.1, h_Rd.2⟩) ?_
    intro q8_54 ⟨g55, g56⟩
    refine o_okS ?_
    refine ⟨?_, ?_⟩
    · first | with_reducible exact True.intro | with_reducible assumption | grind [-Prod, o_sur] | grind [-Prod, → sc_Rd, o_sur] | grind [-Prod, I_Rd, o_bn, upd, o_sur]
    · exact g56
set_option maxHeartbeats 8000000 in
theorem s_SJ_utf8Tail {x0 : Int32}  : o_ok (m_SJ_utf8Tail x0) (fun r => (-1 ≤ r ∧ r ≤ 3) ∧ (r = 0 → 0 ≤ x0 ∧ x0 < 128)) := by
  unfold m_SJ_utf8Tail
  refine o_okI (fun c1 => ?_) (fun c1 => ?_)
  · unfold m_SJ_utf8Tail_j13
    refine o_okI (fun c2 => ?_) (fun c2 => ?_)
    · unfold m_SJ_utf8Tail_j29
      refine o_okI (fun c3 => ?_) (fun c3 => ?_)
      · unfold m_SJ_utf8Tail_j45
        refine o_okI (fun c4 => ?_) (fun c4 => ?_)
        · refine o_okS ?_
          refine ⟨?_, ?_⟩
          · first | with_reducible exact True.intro | with_reducible assumption | grind [-Prod] | grind [-Prod] | grind [-Prod, o_bn, upd]
          · first | with_reducible exact True.intro | with_reducible assumption | grind [-Prod] | grind [-Prod] | grind [-Prod, o_bn, upd]
        · refine o_okI (fun c5 => ?_) (fun c5 => ?_)
          · refine o_okS ?_
            refine ⟨?_, ?_⟩
            · first | with_reducible exact True.intro | with_reducible assumption | grind [-Prod] | grind [-Prod] | grind [-Prod, o_bn, upd]
            · first | with_reducible exact True.intro | with_reducible assumption | grind [-Prod] | grind [-Prod] | grind [-Prod, o_bn, upd]
          · refine o_okS ?_
            refine ⟨?_, ?_⟩
            · first | with_reducible exact True.intro | with_reducible assumption | grind [-Prod] | grind [-Prod] | grind [-Prod, o_bn, upd]
            · first | with_reducible exact True.intro | with_reducible assumption | grind [-Prod] | grind [-Prod] | grind [-Prod, o_bn, upd]
      · refine o_okI (fun c6 => ?_) (fun c6 => ?_)
        · unfold m_SJ_utf8Tail_j45
          refine o_okI (fun c7 => ?_) (fun c7 => ?_)
          · refine o_okS ?_
            refine ⟨?_, ?_⟩
            · first | with_reducible exact True.intro | with_reducible assumption | grind [-Prod] | grind [-Prod] | grind [-Prod, o_bn, upd]
            · first | with_reducible exact True.intro | with_reducible assumption | grind [-Prod] | grind [-Prod] | grind [-Prod, o_bn, upd]
          · refine o_okI (fun c8 => ?_) (fun c8 => ?_)
            · refine o_okS ?_
              refine ⟨?_, ?_⟩
              · first | with_reducible exact True.intro | with_reducible assumption | grind [-Prod] | grind [-Prod] | grind [-Prod, o_bn, upd]
              · first | with_reducible exact True.intro | with_reducible assumption | grind [-Prod] | grind [-Prod] | grind [-Prod, o_bn, upd]
            · refine o_okS ?_
              refine ⟨?_, ?_⟩
              · first | with_reducible exact True.intro | with_reducible assumption | grind [-Prod] | grind [-Prod] | grind [-Prod, o_bn, upd]
              · first | with_reducible exact True.intro | with_reducible assumption | grind [-Prod] | grind [-Prod] | grind [-Prod, o_bn, upd]
        · refine o_okS ?_
          refine ⟨?_, ?_⟩
          · first | with_reducible exact True.intro | with_reducible assumption | grind [-Prod] | grind [-Prod] | grind [-Prod, o_bn, upd]
          · first | with_reducible exact True.intro | with_reducible assumption | grind [-Prod] | grind [-Prod] | grind [-Prod, o_bn, upd]
    · refine o_okI (fun c9 => ?_) (fun c9 => ?_)
      · unfold m_SJ_utf8Tail_j29
        refine o_okI (fun c10 => ?_) (fun c10 => ?_)
        · unfold m_SJ_utf8Tail_j45
          refine o_okI (fun c11 => ?_) (fun c11 => ?_)
          · refine o_okS ?_
            refine ⟨?_, ?_⟩
            · first | with_reducible exact True.intro | with_reducible assumption | grind [-Prod] | grind [-Prod] | grind [-Prod, o_bn, upd]
            · first | with_reducible exact True.intro | with_reducible assumption | grind [-Prod] | grind [-Prod] | grind [-Prod, o_bn, upd]
          · refine o_okI (fun c12 => ?_) (fun c12 => ?_)
            · refine o_okS ?_
              refine ⟨?_, ?_⟩
              · first | with_reducible exact True.intro | with_reducible assumption | grind [-Prod] | grind [-Prod] | grind [-Prod, o_bn, upd]
              · first | with_reducible exact True.intro | with_reducible assumption | grind [-Prod] | grind [-Prod] | grind [-Prod, o_bn, upd]
            · refine o_okS ?_
              refine ⟨?_, ?_⟩
              · first | with_reducible exact True.intro | with_reducible assumption | grind [-Prod] | grind [-Prod] | grind [-Prod, o_bn, upd]
              · first | with_reducible exact True.intro | with_reducible assumption | grind [-Prod] | grind [-Prod] | grind [-Prod, o_bn, upd]
        · refine o_okI (fun c13 => ?_) (fun c13 => ?_)
          · unfold m_SJ_utf8Tail_j45
            refine o_okI (fun c14 => ?_) (fun c14 => ?_)
            · refine o_okS ?_
              refine ⟨?_, ?_⟩
              · first | with_reducible exact True.intro | with_reducible assumption | grind [-Prod] | grind [-Prod] | grind [-Prod, o_bn, upd]
              · first | with_reducible exact True.intro | with_reducible assumption | grind [-Prod] | grind [-Prod] | grind [-Prod, o_bn, upd]
            · refine o_okI (fun c15 => ?_) (fun c15 => ?_)
              · refine o_okS ?_
                refine ⟨?_, ?_⟩
                · first | with_reducible exact True.intro | with_reducible assumption | grind [-Prod] | grind [-Prod] | grind [-Prod, o_bn, upd]
                · first | with_reducible exact True.intro | with_reducible assumption | grind [-Prod] | grind [-Prod] | grind [-Prod, o_bn, upd]
              · refine o_okS ?_
                refine ⟨?_, ?_⟩
                · first | with_reducible exact True.intro | with_reducible assumption | grind [-Prod] | grind [-Prod] | grind [-Prod, o_bn, upd]
                · first | with_reducible exact True.intro | with_reducible assumption | grind [-Prod] | grind [-Prod] | grind [-Prod, o_bn, upd]
          · refine o_okS ?_
            refine ⟨?_, ?_⟩
            · first | with_reducible exact True.intro | with_reducible assumption | grind [-Prod] | grind [-Prod] | grind [-Prod, o_bn, upd]
            · first | with_reducible exact True.intro | with_reducible assumption | grind [-Prod] | grind [-Prod] | grind [-Prod, o_bn, upd]
      · refine o_okS ?_
        refine ⟨?_, ?_⟩
        · first | with_reducible exact True.intro | with_reducible assumption | grind [-Prod] | grind [-Prod] | grind [-Prod, o_bn, upd]
        · first | with_reducible exact True.intro | with_reducible assumption | grind [-Prod] | grind [-Prod] | grind [-Prod, o_bn, upd]
  · refine o_okI (fun c16 => ?_) (fun c16 => ?_)
    · unfold m_SJ_utf8Tail_j13
      refine o_okI (fun c17 => ?_) (fun c17 => ?_)
      · unfold m_SJ_utf8Tail_j29
        refine o_okI (fun c18 => ?_) (fun c18 => ?_)
        · unfold m_SJ_utf8Tail_j45
          refine o_okI (fun c19 => ?_) (fun c19 => ?_)
          · refine o_okS ?_
            refine ⟨?_, ?_⟩
            · first | with_reducible exact True.intro | with_reducible assumption | grind [-Prod] | grind [-Prod] | grind [-Prod, o_bn, upd]
            · first | with_reducible exact True.intro | with_reducible assumption | grind [-Prod] | grind [-Prod] | grind [-Prod, o_bn, upd]
          · refine o_okI (fun c20 => ?_) (fun c20 => ?_)
            · refine o_okS ?_
              refine ⟨?_, ?_⟩
              · first | with_reducible exact True.intro | with_reducible assumption | grind [-Prod] | grind [-Prod] | grind [-Prod, o_bn, upd]
              · first | with_reducible exact True.intro | with_reducible assumption | grind [-Prod] | grind [-Prod] | grind [-Prod, o_bn, upd]
            · refine o_okS ?_
              refine ⟨?_, ?_⟩
              · first | with_reducible exact True.intro | with_reducible assumption | grind [-Prod] | grind [-Prod] | grind [-Prod, o_bn, upd]
              · first | with_reducible exact True.intro | with_reducible assumption | grind [-Prod] | grind [-Prod] | grind [-Prod, o_bn, upd]
        · refine o_okI (fun c21 => ?_) (fun c21 => ?_)
          · unfold m_SJ_utf8Tail_j45
            refine o_okI (fun c22 => ?_) (fun c22 => ?_)
            · refine o_okS ?_
              refine ⟨?_, ?_⟩
              · first | with_reducible exact True.intro | with_reducible assumption | grind [-Prod] | grind [-Prod] | grind [-Prod, o_bn, upd]
              · first | with_reducible exact True.intro | with_reducible assumption | grind [-Prod] | grind [-Prod] | grind [-Prod, o_bn, upd]
            · refine o_okI (fun c23 => ?_) (fun c23 => ?_)
              · refine o_okS ?_
                refine ⟨?_, ?_⟩
                · first | with_reducible exact True.intro | with_reducible assumption | grind [-Prod] | grind [-Prod] | grind [-Prod, o_bn, upd]
                · first | with_reducible exact True.intro | with_reducible assumption | grind [-Prod] | grind [-Prod] | grind [-Prod, o_bn, upd]
              · refine o_okS ?_
                refine ⟨?_, ?_⟩
                · first | with_reducible exact True.intro | with_reducible assumption | grind [-Prod] | grind [-Prod] | grind [-Prod, o_bn, upd]
                · first | with_reducible exact True.intro | with_reducible assumption | grind [-Prod] | grind [-Prod] | grind [-Prod, o_bn, upd]
          · refine o_okS ?_
            refine ⟨?_, ?_⟩
            · first | with_reducible exact True.intro | with_reducible assumption | grind [-Prod] | grind [-Prod] | grind [-Prod, o_bn, upd]
            · first | with_reducible exact True.intro | with_reducible assumption | grind [-Prod] | grind [-Prod] | grind [-Prod, o_bn, upd]
      · refine o_okI (fun c24 => ?_) (fun c24 => ?_)
        · unfold m_SJ_utf8Tail_j29
          refine o_okI (fun c25 => ?_) (fun c25 => ?_)
          · unfold m_SJ_utf8Tail_j45
            refine o_okI (fun c26 => ?_) (fun c26 => ?_)
            · refine o_okS ?_
              refine ⟨?_, ?_⟩
              · first | with_reducible exact True.intro | with_reducible assumption | grind [-Prod] | grind [-Prod] | grind [-Prod, o_bn, upd]
              · first | with_reducible exact True.intro | with_reducible assumption | grind [-Prod] | grind [-Prod] | grind [-Prod, o_bn, upd]
            · refine o_okI (fun c27 => ?_) (fun c27 => ?_)
              · refine o_okS ?_
                refine ⟨?_, ?_⟩
                · first | with_reducible exact True.intro | with_reducible assumption | grind [-Prod] | grind [-Prod] | grind [-Prod, o_bn, upd]
                · first | with_reducible exact True.intro | with_reducible assumption | grind [-Prod] | grind [-Prod] | grind [-Prod, o_bn, upd]
              · refine o_okS ?_
                refine ⟨?_, ?_⟩
                · first | with_reducible exact True.intro | with_reducible assumption | grind [-Prod] | grind [-Prod] | grind [-Prod, o_bn, upd]
                · first | with_reducible exact True.intro | with_reducible assumption | grind [-Prod] | grind [-Prod] | grind [-Prod, o_bn, upd]
          · refine o_okI (fun c28 => ?_) (fun c28 => ?_)
            · unfold m_SJ_utf8Tail_j45
              refine o_okI (fun c29 => ?_) (fun c29 => ?_)
              · refine o_okS ?_
                refine ⟨?_, ?_⟩
                · first | with_reducible exact True.intro | with_reducible assumption | grind [-Prod] | grind [-Prod] | grind [-Prod, o_bn, upd]
                · first | with_reducible exact True.intro | with_reducible assumption | grind [-Prod] | grind [-Prod] | grind [-Prod, o_bn, upd]
              · refine o_okI (fun c30 => ?_) (fun c30 => ?_)
                · refine o_okS ?_
                  refine ⟨?_, ?_⟩
                  · first | with_reducible exact True.intro | with_reducible assumption | grind [-Prod] | grind [-Prod] | grind [-Prod, o_bn, upd]
                  · first | with_reducible exact True.intro | with_reducible assumption | grind [-Prod] | grind [-Prod] | grind [-Prod, o_bn, upd]
                · refine o_okS ?_
                  refine ⟨?_, ?_⟩
                  · first | with_reducible exact True.intro | with_reducible assumption | grind [-Prod] | grind [-Prod] | grind [-Prod, o_bn, upd]
                  · first | with_reducible exact True.intro | with_reducible assumption | grind [-Prod] | grind [-Prod] | grind [-Prod, o_bn, upd]
            · refine o_okS ?_
              refine ⟨?_, ?_⟩
              · first | with_reducible exact True.intro | with_reducible assumption | grind [-Prod] | grind [-Prod] | grind [-Prod, o_bn, upd]
              · first | with_reducible exact True.intro | with_reducible assumption | grind [-Prod] | grind [-Prod] | grind [-Prod, o_bn, upd]
        · refine o_okS ?_
          refine ⟨?_, ?_⟩
          · first | with_reducible exact True.intro | with_reducible assumption | grind [-Prod] | grind [-Prod] | grind [-Prod, o_bn, upd]
          · first | with_reducible exact True.intro | with_reducible assumption | grind [-Prod] | grind [-Prod] | grind [-Prod, o_bn, upd]
    · refine o_okS ?_
      refine ⟨?_, ?_⟩
      · first | with_reducible exact True.intro | with_reducible assumption | grind [-Prod] | grind [-Prod] | grind [-Prod, o_bn, upd]
      · first | with_reducible exact True.intro | with_reducible assumption | grind [-Prod] | grind [-Prod] | grind [-Prod, o_bn, upd]
theorem s_SJ_utf8Head {x0 : Int32} {x1 : Int32}  : o_ok (m_SJ_utf8Head x0 x1) (fun r => (x1 = 0 → r = x0)) := by
  unfold m_SJ_utf8Head
  refine o_okI (fun c1 => ?_) (fun c1 => ?_)
  · refine o_okS ?_
    first | with_reducible exact True.intro | with_reducible assumption | grind [-Prod] | grind [-Prod] | grind [-Prod, o_bn, upd]
  · refine o_okS ?_
    first | with_reducible exact True.intro | with_reducible assumption | grind [-Prod] | grind [-Prod] | grind [-Prod, o_bn, upd]
theorem s_SJ_utf8Follows {x0 : Int32}  : o_ok (m_SJ_utf8Follows x0) (fun r => (r = 0 ∨ r = 1)) := by
  unfold m_SJ_utf8Follows
  refine o_okI (fun c1 => ?_) (fun c1 => ?_)
  · refine o_okS ?_
    first | with_reducible exact True.intro | with_reducible assumption | grind [-Prod] | grind [-Prod] | grind [-Prod, o_bn, upd]
  · refine o_okI (fun c2 => ?_) (fun c2 => ?_)
    · refine o_okS ?_
      first | with_reducible exact True.intro | with_reducible assumption | grind [-Prod] | grind [-Prod] | grind [-Prod, o_bn, upd]
    · refine o_okS ?_
      first | with_reducible exact True.intro | with_reducible assumption | grind [-Prod] | grind [-Prod] | grind [-Prod, o_bn, upd]
set_option maxHeartbeats 8000000 in
theorem s_SJ_utf8Legal {x0 : Int32} {x1 : Int32}  : o_ok (m_SJ_utf8Legal x0 x1) (fun r => (r = 0 ∨ r = 1) ∧ (r ≠ 0 → x1 = 0 ∨ (0 ≤ x0 ∧ x0 ≤ 1114111))) := by
  unfold m_SJ_utf8Legal
  refine o_okI (fun c1 => ?_) (fun c1 => ?_)
  · refine o_okS ?_
    refine ⟨?_, ?_⟩
    · first | with_reducible exact True.intro | with_reducible assumption | grind [-Prod] | grind [-Prod] | grind [-Prod, o_bn, upd]
    · first | with_reducible exact True.intro | with_reducible assumption | grind [-Prod] | grind [-Prod] | grind [-Prod, o_bn, upd]
  · refine o_okI (fun c2 => ?_) (fun c2 => ?_)
    · unfold m_SJ_utf8Legal_j30
      refine o_okI (fun c3 => ?_) (fun c3 => ?_)
      · refine o_okS ?_
        refine ⟨?_, ?_⟩
        · first | with_reducible exact True.intro | with_reducible assumption | grind [-Prod] | grind [-Prod] | grind [-Prod, o_bn, upd]
        · first | with_reducible exact True.intro | with_reducible assumption | grind [-Prod] | grind [-Prod] | grind [-Prod, o_bn, upd]
      · refine o_okI (fun c4 => ?_) (fun c4 => ?_)
        · refine o_okS ?_
          refine ⟨?_, ?_⟩
          · first | with_reducible exact True.intro | with_reducible assumption | grind [-Prod] | grind [-Prod] | grind [-Prod, o_bn, upd]
          · first | with_reducible exact True.intro | with_reducible assumption | grind [-Prod] | grind [-Prod] | grind [-Prod, o_bn, upd]
        · refine o_okB (s_SJ_isSurrogate ) ?_
          intro q1_5 ⟨g6, g7⟩
          refine o_okI (fun c8 => ?_) (fun c8 => ?_)
          · refine o_okS ?_
            refine ⟨?_, ?_⟩
            · first | with_reducible exact True.intro | with_reducible assumption | grind [-Prod] | grind [-Prod] | grind [-Prod, o_bn, upd]
            · first | with_reducible exact True.intro | with_reducible assumption | grind [-Prod] | grind [-Prod] | grind [-Prod, o_bn, upd]
          · refine o_okS ?_
            refine ⟨?_, ?_⟩
            · first | with_reducible exact True.intro | with_reducible assumption | grind [-Prod] | grind [-Prod] | grind [-Prod, o_bn, upd]
            · first | with_reducible exact True.intro | with_reducible assumption | grind [-Prod] | grind [-Prod] | grind [-Prod, o_bn, upd]
    · refine o_okI (fun c9 => ?_) (fun c9 => ?_)
      · unfold m_SJ_utf8Legal_j30
        refine o_okI (fun c10 => ?_) (fun c10 => ?_)
        · refine o_okS ?_
          refine ⟨?_, ?_⟩
          · first | with_reducible exact True.intro | with_reducible assumption | grind [-Prod] | grind [-Prod] | grind [-Prod, o_bn, upd]
          · first | with_reducible exact True.intro | with_reducible assumption | grind [-Prod] | grind [-Prod] | grind [-Prod, o_bn, upd]
        · refine o_okI (fun c11 => ?_) (fun c11 => ?_)
          · refine o_okS ?_
            refine ⟨?_, ?_⟩
            · first | with_reducible exact True.intro | with_reducible assumption | grind [-Prod] | grind [-Prod] | grind [-Prod, o_bn, upd]
            · first | with_reducible exact True.intro | with_reducible assumption | grind [-Prod] | grind [-Prod] | grind [-Prod, o_bn, upd]
          · refine o_okB (s_SJ_isSurrogate ) ?_
            intro q1_12 ⟨g13, g14⟩
            refine o_okI (fun c15 => ?_) (fun c15 => ?_)
            · refine o_okS ?_
              refine ⟨?_, ?_⟩
              · first | with_reducible exact True.intro | with_reducible assumption | grind [-Prod] | grind [-Prod] | grind [-Prod, o_bn, upd]
              · first | with_reducible exact True.intro | with_reducible assumption | grind [-Prod] | grind [-Prod] | grind [-Prod, o_bn, upd]
            · refine o_okS ?_
              refine ⟨?_, ?_⟩
              · first | with_reducible exact True.intro | with_reducible assumption | grind [-Prod] | grind [-Prod] | grind [-Prod, o_bn, upd]
              · first | with_reducible exact True.intro | with_reducible assumption | grind [-Prod] | grind [-Prod] | grind [-Prod, o_bn, upd]
      · unfold m_SJ_utf8Legal_j30
        refine o_okI (fun c16 => ?_) (fun c16 => ?_)
        · refine o_okS ?_
          refine ⟨?_, ?_⟩
          · first | with_reducible exact True.intro | with_reducible assumption | grind [-Prod] | grind [-Prod] | grind [-Prod, o_bn, upd]
          · first | with_reducible exact True.intro | with_reducible assumption | grind [-Prod] | grind [-Prod] | grind [-Prod, o_bn, upd]
        · refine o_okI (fun c17 => ?_) (fun c17 => ?_)
          · refine o_okS ?_
            refine ⟨?_, ?_⟩
            · first | with_reducible exact True.intro | with_reducible assumption | grind [-Prod] | grind [-Prod] | grind [-Prod, o_bn, upd]
            · first | with_reducible exact True.intro | with_reducible assumption | grind [-Prod] | grind [-Prod] | grind [-Prod, o_bn, upd]
          · refine o_okB (s_SJ_isSurrogate ) ?_
            intro q1_18 ⟨g19, g20⟩
            refine o_okI (fun c21 => ?_) (fun c21 => ?_)
            · refine o_okS ?_
              refine ⟨?_, ?_⟩
              · first | with_reducible exact True.intro | with_reducible assumption | grind [-Prod] | grind [-Prod] | grind [-Prod, o_bn, upd]
              · first | with_reducible exact True.intro | with_reducible assumption | grind [-Prod] | grind [-Prod] | grind [-Prod, o_bn, upd]
            · refine o_okS ?_
              refine ⟨?_, ?_⟩
              · first | with_reducible exact True.intro | with_reducible assumption | grind [-Prod] | grind [-Prod] | grind [-Prod, o_bn, upd]
              · first | with_reducible exact True.intro | with_reducible assumption | grind [-Prod] | grind [-Prod] | grind [-Prod, o_bn, upd]
theorem s_Rd_readCharacter_b54 {n : Nat} {x1 : Int32} {x3 : Int32} {z : Int32 × Int32 × SRd} (hn : o_big ≤ n) (l0 : (x3 ≤ 0 → 0 ≤ z.1 ∧ z.1 ≤ 255)) (l1 : 0 ≤ z.2.1) (l2 : I_Rd z.2.2) : o_ok (m_Rd_readCharacter_b54 n x1 x3 z) (fun q => (q.1 = 0 → (x3 ≤ 0 → 0 ≤ q.2.1 ∧ q.2.1 ≤ 255) ∧ 0 ≤ q.2.2.1 ∧ I_Rd q.2.2.2 ∧ o_mu q.2.2.1 < o_mu z.2.1) ∧ (q.1 ≠ 0 → (q.1 = 2 → x3 ≤ 0 → 0 ≤ q.2.1 ∧ q.2.1 ≤ 255) ∧ (q.1 = 1 ∨ q.1 = 2) ∧ I_Rd q.2.2.2)) := by
  unfold m_Rd_readCharacter_b54
  refine o_okI (fun c1 => ?_) (fun c1 => ?_)
  · refine o_okS ?_
    refine ⟨fun h => absurd (show (2 : Nat) = 0 from h) (by decide), fun _ => ?_⟩
    refine ⟨?_, ?_, ?_⟩
    · first | with_reducible exact True.intro | with_reducible assumption | grind [-Prod] | grind [-Prod, → sc_Rd] | grind [-Prod, I_Rd, o_bn, upd]
    · first | with_reducible exact True.intro | with_reducible assumption | grind [-Prod] | grind [-Prod, → sc_Rd] | grind [-Prod, I_Rd, o_bn, upd]
    · exact l2
  · refine o_okB (s_Rd_peek  l2) ?_
    intro q5_2 g3
    refine o_okB (s_SJ_utf8Follows ) ?_
    intro q6_4 g5
    refine o_okI (fun c6 => ?_) (fun c6 => ?_)
    · refine o_okS ?_
      refine ⟨fun h => absurd (show (1 : Nat) = 0 from h) (by decide), fun _ => ?_⟩
      refine ⟨?_, ?_, ?_⟩
      · first | with_reducible exact True.intro | with_reducible assumption | grind [-Prod] | grind [-Prod, → sc_Rd] | grind [-Prod, I_Rd, o_bn, upd]
      · first | with_reducible exact True.intro | with_reducible assumption | grind [-Prod] | grind [-Prod, → sc_Rd] | grind [-Prod, I_Rd, o_bn, upd]
      · exact l2
    · refine o_okN (fun x4_93_7 ex4_93_7 => ?_)
      refine o_okN (fun x5_105_8 ex5_105_8 => ?_)
      refine o_okS ?_
      refine ⟨fun _ => ?_, fun h => absurd rfl h⟩
      refine ⟨?_, ?_, ?_, ?_⟩
      · first | with_reducible exact True.intro | with_reducible assumption | grind [-Prod] | grind [-Prod, → sc_Rd] | grind [-Prod, I_Rd, o_bn, upd]
      · first | with_reducible exact True.intro | with_reducible assumption | grind [-Prod] | grind [-Prod, → sc_Rd] | grind [-Prod, I_Rd, o_bn, upd]
      · exact ⟨l2.1, l2.2⟩
      · first | exact o_muL (by first | with_reducible exact True.intro | with_reducible assumption | grind [-Prod] | grind [-Prod, → sc_Rd] | grind [-Prod, I_Rd, o_bn, upd]) | exact o_nuL (by first | with_reducible exact True.intro | with_reducible assumption | grind [-Prod] | grind [-Prod, → sc_Rd] | grind [-Prod, I_Rd, o_bn, upd]) | (first | with_reducible exact True.intro | with_reducible assumption | grind [-Prod] | grind [-Prod, → sc_Rd] | grind [-Prod, I_Rd, o_bn, upd])
theorem l_Rd_readCharacter_b54 {n : Nat} {x1 : Int32} {x3 : Int32} {z : Int32 × Int32 × SRd} (hn : o_big ≤ n) (l0 : (x3 ≤ 0 → 0 ≤ z.1 ∧ z.1 ≤ 255)) (l1 : 0 ≤ z.2.1) (l2 : I_Rd z.2.2) : o_ok (o_lp n (m_Rd_readCharacter_b54 n x1 x3) z) (fun q => q.1 ≠ 0 ∧ (q.1 = 2 → x3 ≤ 0 → 0 ≤ q.2.1 ∧ q.2.1 ≤ 255) ∧ (q.1 = 1 ∨ q.1 = 2) ∧ I_Rd q.2.2.2) := by
  exact o_lpR (fun z => (x3 ≤ 0 → 0 ≤ z.1 ∧ z.1 ≤ 255) ∧ 0 ≤ z.2.1 ∧ I_Rd z.2.2) (fun z => o_mu z.2.1) hn (o_muB) ⟨l0, l1, l2⟩
    (fun z hz => by obtain ⟨l0, l1, l2⟩ := hz; exact o_okW (s_Rd_readCharacter_b54 hn l0 l1 l2) (fun q hq => ⟨fun h => by have := hq.1 h; grind, hq.2⟩))
theorem s_Rd_readCharacter {n : Nat} {Rd : SRd} (hn : o_big ≤ n) (h_Rd : I_Rd Rd) : o_ok (m_Rd_readCharacter n Rd) (fun r => (-1 ≤ r.1 ∧ r.1 ≤ 1114111) ∧ I_Rd r.2) := by
  unfold m_Rd_readCharacter
  refine o_okN (fun x1_4_1 ex1_4_1 => ?_)
  refine o_okB (s_Rd_peek  h_Rd) ?_
  intro q1_2 g3
  refine o_okB (s_SJ_utf8Tail ) ?_
  intro q2_4 ⟨g5, g6⟩
  refine o_okI (fun c7 => ?_) (fun c7 => ?_)
  · unfold m_Rd_readCharacter_j26
    refine o_okB (s_Rd_refuse  h_Rd) ?_
    intro q3_8 ⟨g9, g10⟩
    refine o_okS ?_
    refine ⟨?_, ?_⟩
    · first | with_reducible exact True.intro | with_reducible assumption | grind [-Prod] | grind [-Prod, → sc_Rd] | grind [-Prod, I_Rd, o_bn, upd]
    · exact g10
  · refine o_okI (fun c11 => ?_) (fun c11 => ?_)
    · unfold m_Rd_readCharacter_j26
      refine o_okB (s_Rd_refuse  h_Rd) ?_
      intro q3_12 ⟨g13, g14⟩
      refine o_okS ?_
      refine ⟨?_, ?_⟩
      · first | with_reducible exact True.intro | with_reducible assumption | grind [-Prod] | grind [-Prod, → sc_Rd] | grind [-Prod, I_Rd, o_bn, upd]
      · exact g14
    · refine o_okB (s_SJ_utf8Head ) ?_
      intro q4_15 g16
      refine o_okB (l_Rd_readCharacter_b54  hn (by first | with_reducible exact True.intro | with_reducible assumption | grind [-Prod] | grind [-Prod, → sc_Rd] | grind [-Prod, I_Rd, o_bn, upd]) (by first | with_reducible exact True.intro | with_reducible assumption | grind [-Prod] | grind [-Prod, → sc_Rd] | grind [-Prod, I_Rd, o_bn, upd]) ⟨h_Rd.1, h_Rd.2⟩) ?_
      intro q7_17 ⟨yq7_17, g18, g19, g20⟩
      refine o_okI (fun c21 => ?_) (fun c21 => ?_)
      · refine o_okB (s_Rd_refuse  g20) ?_
        intro q8_22 ⟨g23, g24⟩
        refine o_okS ?_
        refine ⟨?_, ?_⟩
        · first | with_reducible exact True.intro | with_reducible assumption | grind [-Prod] | grind [-Prod, → sc_Rd] | grind [-Prod, I_Rd, o_bn, upd]
        · exact g24
      · refine o_okB (s_SJ_utf8Legal ) ?_
        intro q9_25 ⟨g26, g27⟩
        refine o_okI (fun c28 => ?_) (fun c28 => ?_)
        · refine o_okB (s_Rd_refuse  g20) ?_
          intro q10_29 ⟨g30, g31⟩
          refine o_okS ?_
          refine ⟨?_, ?_⟩
          · first | with_reducible exact True.intro | with_reducible assumption | grind [-Prod] | grind [-Prod, → sc_Rd] | grind [-Prod, I_Rd, o_bn, upd]
          · exact g31
        · refine o_okS ?_
          refine ⟨?_, ?_⟩
          · first | with_reducible exact True.intro | with_reducible assumption | grind [-Prod] | grind [-Prod, → sc_Rd] | grind [-Prod, I_Rd, o_bn, upd]
          · exact g20
theorem s_Tx_addCharacter {x1 : Int32} {a0 : STx} (h_a0 : I_Tx a0) (p0 : (-1 ≤ x1 ∧ x1 ≤ 1114111)) : o_ok (m_Tx_addCharacter x1 a0) (fun r => (r.1 = 0 ∨ r.1 = 1) ∧ I_Tx r.2) := by
  unfold m_Tx_addCharacter
  refine o_okI (fun c1 => ?_) (fun c1 => ?_)
  · refine o_okS ?_
    refine ⟨?_, ?_⟩
    · first | with_reducible exact True.intro | with_reducible assumption | grind [-Prod] | grind [-Prod, → sc_Tx] | grind [-Prod, I_Tx, o_bn, upd]
    · exact h_a0
  · refine o_okI (fun c2 => ?_) (fun c2 => ?_)
    · refine o_okG (o_inM (m := 8192) rfl (by first | with_reducible exact True.intro | with_reducible assumption | grind [-Prod] | grind [-Prod, → sc_Tx] | grind [-Prod, I_Tx, o_bn, upd]) (by first | with_reducible exact True.intro | with_reducible assumption | grind [-Prod] | grind [-Prod, → sc_Tx] | grind [-Prod, I_Tx, o_bn, upd])) ?_
      refine o_okS ?_
      refine ⟨?_, ?_⟩
      · first | with_reducible exact True.intro | with_reducible assumption | grind [-Prod] | grind [-Prod, → sc_Tx] | grind [-Prod, I_Tx, o_bn, upd]
      · exact ⟨h_a0.1, h_a0.2.1, (by first | with_reducible exact True.intro | with_reducible assumption | grind [-Prod] | grind [-Prod, → sc_Tx] | grind [-Prod, I_Tx, o_bn, upd]), (by first | with_reducible exact True.intro | with_reducible assumption | grind [-Prod] | grind [-Prod, → sc_Tx] | grind [-Prod, I_Tx, o_bn, upd]), h_a0.2.2.2.2.1, h_a0.2.2.2.2.2.1, (o_bnU h_a0.2.2.2.2.2.2 (by first | with_reducible exact True.intro | with_reducible assumption | grind [-Prod] | grind [-Prod, → sc_Tx] | grind [-Prod, I_Tx, o_bn, upd]) (by first | with_reducible exact True.intro | with_reducible assumption | grind [-Prod] | grind [-Prod, → sc_Tx] | grind [-Prod, I_Tx, o_bn, upd]))⟩
    · refine o_okS ?_
      refine ⟨?_, ?_⟩
      · first | with_reducible exact True.intro | with_reducible assumption | grind [-Prod] | grind [-Prod, → sc_Tx] | grind [-Prod, I_Tx, o_bn, upd]
      · exact h_a0
set_option maxHeartbeats 8000000 in
theorem s_Rd_readString_b12 {n : Nat} {x1 : Int32} {z : Int32 × Int32 × STx × SRd} (hn : o_big ≤ n) (l0 : 0 ≤ z.1) (l1 : I_Tx z.2.2.1) (l2 : I_Rd z.2.2.2) : o_ok (m_Rd_readString_b12 n x1 z) (fun q => (q.1 = 0 → 0 ≤ q.2.1 ∧ I_Tx q.2.2.2.1 ∧ I_Rd q.2.2.2.2 ∧ o_mu q.2.1 < o_mu z.1) ∧ (q.1 ≠ 0 → I_Tx q.2.2.2.1 ∧ I_Rd q.2.2.2.2)) := by
  unfold m_Rd_readString_b12
  refine o_okI (fun c1 => ?_) (fun c1 => ?_)
  · refine o_okS ?_
    refine ⟨fun h => absurd (show (4 : Nat) = 0 from h) (by decide), fun _ => ?_⟩
    refine ⟨?_, ?_⟩
    · exact l1
    · exact l2
  · refine o_okB (s_Rd_peek  l2) ?_
    intro q1_2 g3
    refine o_okI (fun c4 => ?_) (fun c4 => ?_)
    · refine o_okS ?_
      refine ⟨fun h => absurd (show (1 : Nat) = 0 from h) (by decide), fun _ => ?_⟩
      refine ⟨?_, ?_⟩
      · exact l1
      · exact l2
    · refine o_okN (fun x4_54_5 ex4_54_5 => ?_)
      refine o_okI (fun c6 => ?_) (fun c6 => ?_)
      · refine o_okB (s_Rd_readEscape  hn l2) ?_
        intro q4_7 ⟨g8, g9⟩
        unfold m_Rd_readString_j73
        refine o_okI (fun c10 => ?_) (fun c10 => ?_)
        · refine o_okS ?_
          refine ⟨fun h => absurd (show (2 : Nat) = 0 from h) (by decide), fun _ => ?_⟩
          refine ⟨?_, ?_⟩
          · exact l1
          · exact g9
        · refine o_okB (s_Tx_addCharacter  l1 (by first | with_reducible exact True.intro | with_reducible assumption | grind [-Prod] | grind [-Prod, → sc_Rd, → sc_Tx] | grind [-Prod, I_Rd, I_Tx, o_bn, upd])) ?_
          intro q3_11 ⟨g12, g13⟩
          refine o_okI (fun c14 => ?_) (fun c14 => ?_)
          · refine o_okS ?_
            refine ⟨fun h => absurd (show (3 : Nat) = 0 from h) (by decide), fun _ => ?_⟩
            refine ⟨?_, ?_⟩
            · exact g13
            · exact g9
          · refine o_okN (fun x2_102_15 ex2_102_15 => ?_)
            refine o_okS ?_
            refine ⟨fun _ => ?_, fun h => absurd rfl h⟩
            refine ⟨?_, ?_, ?_, ?_⟩
            · first | with_reducible exact True.intro | with_reducible assumption | grind [-Prod] | grind [-Prod, → sc_Rd, → sc_Tx] | grind [-Prod, I_Rd, I_Tx, o_bn, upd]
            · exact g13
            · exact g9
            · first | exact o_muL (by first | with_reducible exact True.intro | with_reducible assumption | grind [-Prod] | grind [-Prod, → sc_Rd, → sc_Tx] | grind [-Prod, I_Rd, I_Tx, o_bn, upd]) | exact o_nuL (by first | with_reducible exact True.intro | with_reducible assumption | grind [-Prod] | grind [-Prod, → sc_Rd, → sc_Tx] | grind [-Prod, I_Rd, I_Tx, o_bn, upd]) | (first | with_reducible exact True.intro | with_reducible assumption | grind [-Prod] | grind [-Prod, → sc_Rd, → sc_Tx] | grind [-Prod, I_Rd, I_Tx, o_bn, upd])
      · refine o_okB (s_Rd_readCharacter  hn l2) ?_
        intro q2_16 ⟨g17, g18⟩
        unfold m_Rd_readString_j73
        refine o_okI (fun c19 => ?_) (fun c19 => ?_)
        · refine o_okS ?_
          refine ⟨fun h => absurd (show (2 : Nat) = 0 from h) (by decide), fun _ => ?_⟩
          refine ⟨?_, ?_⟩
          · exact l1
          · exact g18
        · refine o_okB (s_Tx_addCharacter  l1 (by first | with_reducible exact True.intro | with_reducible assumption | grind [-Prod] | grind [-Prod, → sc_Rd, → sc_Tx] | grind [-Prod, I_Rd, I_Tx, o_bn, upd])) ?_
          intro q3_20 ⟨g21, g22⟩
          refine o_okI (fun c23 => ?_) (fun c23 => ?_)
          · refine o_okS ?_
            refine ⟨fun h => absurd (show (3 : Nat) = 0 from h) (by decide), fun _ => ?_⟩
            refine ⟨?_, ?_⟩
            · exact g22
            · exact g18
          · refine o_okN (fun x2_102_24 ex2_102_24 => ?_)
            refine o_okS ?_
            refine ⟨fun _ => ?_, fun h => absurd rfl h⟩
            refine ⟨?_, ?_, ?_, ?_⟩
            · first | with_reducible exact True.intro | with_reducible assumption | grind [-Prod] | grind [-Prod, → sc_Rd, → sc_Tx] | grind [-Prod, I_Rd, I_Tx, o_bn, upd]
            · exact g22
            · exact g18
            · first | exact o_muL (by first | with_reducible exact True.intro | with_reducible assumption | grind [-Prod] | grind [-Prod, → sc_Rd, → sc_Tx] | grind [-Prod, I_Rd, I_Tx, o_bn, upd]) | exact o_nuL (by first | with_reducible exact True.intro | with_reducible assumption | grind [-Prod] | grind [-Prod, → sc_Rd, → sc_Tx] | grind [-Prod, I_Rd, I_Tx, o_bn, upd]) | (first | with_reducible exact True.intro | with_reducible assumption | grind [-Prod] | grind [-Prod, → sc_Rd, → sc_Tx] | grind [-Prod, I_Rd, I_Tx, o_bn, upd])
theorem l_Rd_readString_b12 {n : Nat} {x1 : Int32} {z : Int32 × Int32 × STx × SRd} (hn : o_big ≤ n) (l0 : 0 ≤ z.1) (l1 : I_Tx z.2.2.1) (l2 : I_Rd z.2.2.2) : o_ok (o_lp n (m_Rd_readString_b12 n x1) z) (fun q => q.1 ≠ 0 ∧ I_Tx q.2.2.2.1 ∧ I_Rd q.2.2.2.2) := by
  exact o_lpR (fun z => 0 ≤ z.1 ∧ I_Tx z.2.2.1 ∧ I_Rd z.2.2.2) (fun z => o_mu z.1) hn (o_muB) ⟨l0, l1, l2⟩
    (fun z hz => by obtain ⟨l0, l1, l2⟩ := hz; exact o_okW (s_Rd_readString_b12 hn l0 l1 l2) (fun q hq => ⟨fun h => by have := hq.1 h; grind, hq.2⟩))
theorem s_Rd_readString {n : Nat} {x1 : Int32} {tc : STx} {Rd : SRd} (hn : o_big ≤ n) (h_tc : I_Tx tc) (h_Rd : I_Rd Rd) : o_ok (m_Rd_readString n x1 tc Rd) (fun r => (r.1 = 0 ∨ r.1 = 1) ∧ I_Tx r.2.1 ∧ I_Rd r.2.2) := by
  unfold m_Rd_readString
  refine o_okB (l_Rd_readString_b12  hn (by first | with_reducible exact True.intro | with_reducible assumption | grind [-Prod] | grind [-Prod, → sc_Rd, → sc_Tx] | grind [-Prod, I_Rd, I_Tx, o_bn, upd]) h_tc ⟨h_Rd.1, h_Rd.2⟩) ?_
  intro q5_1 ⟨yq5_1, g2, g3⟩
  refine o_okI (fun c4 => ?_) (fun c4 => ?_)
  · refine o_okB (s_Tx_endString  g2) ?_
    intro q6_5 g6
    refine o_okS ?_
    refine ⟨?_, ?_, ?_⟩
    · first | with_reducible exact True.intro | with_reducible assumption | grind [-Prod] | grind [-Prod, → sc_Rd, → sc_Tx] | grind [-Prod, I_Rd, I_Tx, o_bn, upd]
    · exact g6
    · exact ⟨g3.1, g3.2⟩
  · refine o_okI (fun c7 => ?_) (fun c7 => ?_)
    · refine o_okS ?_
      refine ⟨?_, ?_, ?_⟩
      · first | with_reducible exact True.intro | with_reducible assumption | grind [-Prod] | grind [-Prod, → sc_Rd, → sc_Tx] | grind [-Prod, I_Rd, I_Tx, o_bn, upd]
      · exact g2
      · exact g3
    · refine o_okI (fun c8 => ?_) (fun c8 => ?_)
      · refine o_okB (s_Rd_refuse  g3) ?_
        intro q7_9 ⟨g10, g11⟩
        refine o_okG (o_zbM (by first | with_reducible exact True.intro | with_reducible assumption | grind [-Prod] | grind [-Prod, → sc_Rd, → sc_Tx] | grind [-Prod, I_Rd, I_Tx, o_bn, upd])) ?_
        refine o_okS ?_
        refine ⟨?_, ?_, ?_⟩
        · first | with_reducible exact True.intro | with_reducible assumption | grind [-Prod] | grind [-Prod, → sc_Rd, → sc_Tx] | grind [-Prod, I_Rd, I_Tx, o_bn, upd]
        · exact g2
        · exact g11
      · refine o_okB (s_Rd_refuse  g3) ?_
        intro q8_12 ⟨g13, g14⟩
        refine o_okG (o_zbM (by first | with_reducible exact True.intro | with_reducible assumption | grind [-Prod] | grind [-Prod, → sc_Rd, → sc_Tx] | grind [-Prod, I_Rd, I_Tx, o_bn, upd])) ?_
        refine o_okS ?_
        refine ⟨?_, ?_, ?_⟩
        · first | with_reducible exact True.intro | with_reducible assumption | grind [-Prod] | grind [-Prod, → sc_Rd, → sc_Tx] | grind [-Prod, I_Rd, I_Tx, o_bn, upd]
        · exact g2
        · exact g14
theorem s_Tx_endParent {x1 : Int32} {x2 : Int32} {a0 : STx} (h_a0 : I_Tx a0) (p0 : (-8192 ≤ x2 ∧ x2 ≤ 8192)) : o_ok (m_Tx_endParent x1 x2 a0) (fun r => I_Tx r) := by
  unfold m_Tx_endParent
  refine o_okI (fun c1 => ?_) (fun c1 => ?_)
  · refine o_okS ?_
    exact h_a0
  · refine o_okI (fun c2 => ?_) (fun c2 => ?_)
    · refine o_okS ?_
      exact h_a0
    · refine o_okG (o_inM (m := 1000) rfl (by first | with_reducible exact True.intro | with_reducible assumption | grind [-Prod] | grind [-Prod, → sc_Tx] | grind [-Prod, I_Tx, o_bn, upd]) (by first | with_reducible exact True.intro | with_reducible assumption | grind [-Prod] | grind [-Prod, → sc_Tx] | grind [-Prod, I_Tx, o_bn, upd])) ?_
      refine o_okG (o_inM (m := 1000) rfl (by first | with_reducible exact True.intro | with_reducible assumption | grind [-Prod] | grind [-Prod, → sc_Tx] | grind [-Prod, I_Tx, o_bn, upd]) (by first | with_reducible exact True.intro | with_reducible assumption | grind [-Prod] | grind [-Prod, → sc_Tx] | grind [-Prod, I_Tx, o_bn, upd])) ?_
      refine o_okS ?_
      exact ⟨h_a0.1, h_a0.2.1, h_a0.2.2.1, h_a0.2.2.2.1, h_a0.2.2.2.2.1, (o_bnU h_a0.2.2.2.2.2.1 (by first | with_reducible exact True.intro | with_reducible assumption | grind [-Prod] | grind [-Prod, → sc_Tx] | grind [-Prod, I_Tx, o_bn, upd]) (by first | with_reducible exact True.intro | with_reducible assumption | grind [-Prod] | grind [-Prod, → sc_Tx] | grind [-Prod, I_Tx, o_bn, upd])), h_a0.2.2.2.2.2.2⟩
theorem s_Rd_beginName {n : Nat} {x1 : Int32} {x2 : Int32} {tc : STx} {Rd : SRd} (hn : o_big ≤ n) (h_tc : I_Tx tc) (h_Rd : I_Rd Rd) : o_ok (m_Rd_beginName n x1 x2 tc Rd) (fun r => I_Tx r.2.1 ∧ I_Rd r.2.2) := by
  unfold m_Rd_beginName
  refine o_okB (s_Rd_skipBlanks  hn h_Rd) ?_
  intro q1_1 g2
  refine o_okB (s_Rd_peek  g2) ?_
  intro q2_3 g4
  refine o_okI (fun c5 => ?_) (fun c5 => ?_)
  · refine o_okB (s_Tx_begin  h_tc) ?_
    intro q4_6 g7
    unfold m_Rd_beginName_j31
    refine o_okI (fun c8 => ?_) (fun c8 => ?_)
    · refine o_okB (s_Rd_refuse  g2) ?_
      intro q3_9 ⟨g10, g11⟩
      refine o_okS ?_
      refine ⟨?_, ?_⟩
      · exact g7
      · exact g11
    · refine o_okS ?_
      refine ⟨?_, ?_⟩
      · exact g7
      · exact g2
  · unfold m_Rd_beginName_j31
    refine o_okI (fun c12 => ?_) (fun c12 => ?_)
    · refine o_okB (s_Rd_refuse  g2) ?_
      intro q3_13 ⟨g14, g15⟩
      refine o_okS ?_
      refine ⟨?_, ?_⟩
      · exact h_tc
      · exact g15
    · refine o_okS ?_
      refine ⟨?_, ?_⟩
      · exact h_tc
      · exact g2
theorem s_Tx_firstChild {x1 : Int32} {a0 : STx} (h_a0 : I_Tx a0) : o_ok (m_Tx_firstChild x1 a0) (fun r => True) := by
  unfold m_Tx_firstChild
  refine o_okI (fun c1 => ?_) (fun c1 => ?_)
  · refine o_okS ?_
    trivial
  · refine o_okI (fun c2 => ?_) (fun c2 => ?_)
    · refine o_okS ?_
      trivial
    · refine o_okG (o_inM (m := 1000) rfl (by first | with_reducible exact True.intro | with_reducible assumption | grind [-Prod] | grind [-Prod, → sc_Tx] | grind [-Prod, I_Tx, o_bn, upd]) (by first | with_reducible exact True.intro | with_reducible assumption | grind [-Prod] | grind [-Prod, → sc_Tx] | grind [-Prod, I_Tx, o_bn, upd])) ?_
      refine o_okI (fun c3 => ?_) (fun c3 => ?_)
      · refine o_okS ?_
        trivial
      · refine o_okG (o_inM (m := 1000) rfl (by first | with_reducible exact True.intro | with_reducible assumption | grind [-Prod] | grind [-Prod, → sc_Tx] | grind [-Prod, I_Tx, o_bn, upd]) (by first | with_reducible exact True.intro | with_reducible assumption | grind [-Prod] | grind [-Prod, → sc_Tx] | grind [-Prod, I_Tx, o_bn, upd])) ?_
        refine o_okI (fun c4 => ?_) (fun c4 => ?_)
        · refine o_okG (o_inM (m := 1000) rfl (by first | with_reducible exact True.intro | with_reducible assumption | grind [-Prod] | grind [-Prod, → sc_Tx] | grind [-Prod, I_Tx, o_bn, upd]) (by first | with_reducible exact True.intro | with_reducible assumption | grind [-Prod] | grind [-Prod, → sc_Tx] | grind [-Prod, I_Tx, o_bn, upd])) ?_
          refine o_okI (fun c5 => ?_) (fun c5 => ?_)
          · refine o_okS ?_
            trivial
          · refine o_okS ?_
            trivial
        · refine o_okS ?_
          trivial
