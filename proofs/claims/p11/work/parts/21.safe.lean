theorem s_Jd_apply_b61 {n : Nat} {rec : Int32 → Int32 → Int32 → STx → STx → SPg → SPt → SMk → SLd → SPr → SJd → Option (Int32 × SPg × SPt × SLd × SPr × SJd)} {x1 : Nat} {x2 : Int32} {x3 : Int32} {x4 : Int32} {x5 : Int32} {x8 : Int32} {T0 : STx} {T1 : STx} {Mk : SMk} {z : Int32 × Int32 × Int32 × Int32 × SPg × SPt × SLd × SPr × SJd} (hn : o_big ≤ n) (h_T0 : I_Tx T0) (h_T1 : I_Tx T1) (p0 : x1 < 45) (p1 : x4 ≤ 100) (hrec : ∀ (v0 v1 : Int32) (T0 T1 : STx) (Pg : SPg) (Pt : SPt) (Mk : SMk) (Ld : SLd) (Pr : SPr) (Jd : SJd), I_Tx T0 → I_Tx T1 → I_Pg Pg → I_Pt Pt → I_Pr Pr → I_Jd Jd → o_ok (rec v0 v1 (x4 + 1) T0 T1 Pg Pt Mk Ld Pr Jd) (fun r => (r.1 = 0 ∨ r.1 = 1) ∧ I_Pg r.2.1 ∧ I_Pt r.2.2.1 ∧ I_Pr r.2.2.2.2.1 ∧ I_Jd r.2.2.2.2.2)) (l0 : 0 ≤ z.2.2.2.1) (l1 : I_Pg z.2.2.2.2.1) (l2 : I_Pt z.2.2.2.2.2.1) (l3 : I_Pr z.2.2.2.2.2.2.2.1) (l4 : I_Jd z.2.2.2.2.2.2.2.2) : o_ok (m_Jd_apply_b61 n rec x1 x2 x3 x4 x5 x8 T0 T1 Mk z) (fun q => (q.1 = 0 → 0 ≤ q.2.2.2.2.1 ∧ I_Pg q.2.2.2.2.2.1 ∧ I_Pt q.2.2.2.2.2.2.1 ∧ I_Pr q.2.2.2.2.2.2.2.2.1 ∧ I_Jd q.2.2.2.2.2.2.2.2.2 ∧ o_mu q.2.2.2.2.1 < o_mu z.2.2.2.1) ∧ (q.1 ≠ 0 → I_Pg q.2.2.2.2.2.1 ∧ I_Pt q.2.2.2.2.2.2.1 ∧ I_Pr q.2.2.2.2.2.2.2.2.1 ∧ I_Jd q.2.2.2.2.2.2.2.2.2)) := by
  unfold m_Jd_apply_b61
  refine o_okI (fun c1 => ?_) (fun c1 => ?_)
  · refine o_okS ?_
    refine ⟨fun h => absurd (show (1 : Nat) = 0 from h) (by decide), fun _ => ?_⟩
    refine ⟨?_, ?_, ?_, ?_⟩
    · exact l1
    · exact l2
    · exact l3
    · exact l4
  · refine o_okI (fun c2 => ?_) (fun c2 => ?_)
    · refine o_okB (s_Jd_skipped  hn h_T0 h_T1 l1 l2 l4 (by first | with_reducible exact True.intro | with_reducible assumption | grind [-Prod] | grind [-Prod, → sc_Jd, → sc_Pg, → sc_Pr, → sc_Pt, → sc_Tx] | grind [-Prod, I_Jd, I_Pg, I_Pr, I_Pt, I_Tx, o_bn, upd])) ?_
      intro q5_3 ⟨g4, g5⟩
      refine o_okB (s_Jd_firstTarget  hn h_T0 h_T1 (by first | with_reducible exact True.intro | with_reducible assumption | grind [-Prod] | grind [-Prod, → sc_Jd, → sc_Pg, → sc_Pr, → sc_Pt, → sc_Tx] | grind [-Prod, I_Jd, I_Pg, I_Pr, I_Pt, I_Tx, o_bn, upd])) ?_
      intro q6_6 _
      refine o_okI (fun c7 => ?_) (fun c7 => ?_)
      · refine o_okB (s_Tx_size  h_T1) ?_
        intro q13_8 g9
        refine o_okB (l_Jd_apply_b123  hn h_T0 h_T1 (by first | with_reducible exact True.intro | with_reducible assumption | grind [-Prod] | grind [-Prod, → sc_Jd, → sc_Pg, → sc_Pr, → sc_Pt, → sc_Tx] | grind [-Prod, I_Jd, I_Pg, I_Pr, I_Pt, I_Tx, o_bn, upd]) hrec (by first | with_reducible exact True.intro | with_reducible assumption | grind [-Prod] | grind [-Prod, → sc_Jd, → sc_Pg, → sc_Pr, → sc_Pt, → sc_Tx] | grind [-Prod, I_Jd, I_Pg, I_Pr, I_Pt, I_Tx, o_bn, upd]) g4 g5 l3 l4) ?_
        intro q14_10 ⟨yq14_10, g11, g12, g13, g14⟩
        unfold m_Jd_apply_j248
        refine o_okB (s_Tx_nextChild  h_T0) ?_
        intro q12_15 _
        refine o_okN (fun x10_259_16 ex10_259_16 => ?_)
        refine o_okS ?_
        refine ⟨fun _ => ?_, fun h => absurd rfl h⟩
        refine ⟨?_, ?_, ?_, ?_, ?_, ?_⟩
        · first | with_reducible exact True.intro | with_reducible assumption | grind [-Prod] | grind [-Prod, → sc_Jd, → sc_Pg, → sc_Pr, → sc_Pt, → sc_Tx] | grind [-Prod, I_Jd, I_Pg, I_Pr, I_Pt, I_Tx, o_bn, upd]
        · exact g11
        · exact g12
        · exact g13
        · exact g14
        · first | exact o_muL (by first | with_reducible exact True.intro | with_reducible assumption | grind [-Prod] | grind [-Prod, → sc_Jd, → sc_Pg, → sc_Pr, → sc_Pt, → sc_Tx] | grind [-Prod, I_Jd, I_Pg, I_Pr, I_Pt, I_Tx, o_bn, upd]) | exact o_nuL (by first | with_reducible exact True.intro | with_reducible assumption | grind [-Prod] | grind [-Prod, → sc_Jd, → sc_Pg, → sc_Pr, → sc_Pt, → sc_Tx] | grind [-Prod, I_Jd, I_Pg, I_Pr, I_Pt, I_Tx, o_bn, upd]) | (first | with_reducible exact True.intro | with_reducible assumption | grind [-Prod] | grind [-Prod, → sc_Jd, → sc_Pg, → sc_Pr, → sc_Pt, → sc_Tx] | grind [-Prod, I_Jd, I_Pg, I_Pr, I_Pt, I_Tx, o_bn, upd])
      · refine o_okB (l_Jd_apply_b123  hn h_T0 h_T1 (by first | with_reducible exact True.intro | with_reducible assumption | grind [-Prod] | grind [-Prod, → sc_Jd, → sc_Pg, → sc_Pr, → sc_Pt, → sc_Tx] | grind [-Prod, I_Jd, I_Pg, I_Pr, I_Pt, I_Tx, o_bn, upd]) hrec (by first | with_reducible exact True.intro | with_reducible assumption | grind [-Prod] | grind [-Prod, → sc_Jd, → sc_Pg, → sc_Pr, → sc_Pt, → sc_Tx] | grind [-Prod, I_Jd, I_Pg, I_Pr, I_Pt, I_Tx, o_bn, upd]) g4 g5 l3 l4) ?_
        intro q11_17 ⟨yq11_17, g18, g19, g20, g21⟩
        unfold m_Jd_apply_j248
        refine o_okB (s_Tx_nextChild  h_T0) ?_
        intro q12_22 _
        refine o_okN (fun x10_259_23 ex10_259_23 => ?_)
        refine o_okS ?_
        refine ⟨fun _ => ?_, fun h => absurd rfl h⟩
        refine ⟨?_, ?_, ?_, ?_, ?_, ?_⟩
        · first | with_reducible exact True.intro | with_reducible assumption | grind [-Prod] | grind [-Prod, → sc_Jd, → sc_Pg, → sc_Pr, → sc_Pt, → sc_Tx] | grind [-Prod, I_Jd, I_Pg, I_Pr, I_Pt, I_Tx, o_bn, upd]
        · exact g18
        · exact g19
        · exact g20
        · exact g21
        · first | exact o_muL (by first | with_reducible exact True.intro | with_reducible assumption | grind [-Prod] | grind [-Prod, → sc_Jd, → sc_Pg, → sc_Pr, → sc_Pt, → sc_Tx] | grind [-Prod, I_Jd, I_Pg, I_Pr, I_Pt, I_Tx, o_bn, upd]) | exact o_nuL (by first | with_reducible exact True.intro | with_reducible assumption | grind [-Prod] | grind [-Prod, → sc_Jd, → sc_Pg, → sc_Pr, → sc_Pt, → sc_Tx] | grind [-Prod, I_Jd, I_Pg, I_Pr, I_Pt, I_Tx, o_bn, upd]) | (first | with_reducible exact True.intro | with_reducible assumption | grind [-Prod] | grind [-Prod, → sc_Jd, → sc_Pg, → sc_Pr, → sc_Pt, → sc_Tx] | grind [-Prod, I_Jd, I_Pg, I_Pr, I_Pt, I_Tx, o_bn, upd])
    · refine o_okS ?_
      refine ⟨fun h => absurd (show (1 : Nat) = 0 from h) (by decide), fun _ => ?_⟩
      refine ⟨?_, ?_, ?_, ?_⟩
      · exact l1
      · exact l2
      · exact l3
      · exact l4
theorem l_Jd_apply_b61 {n : Nat} {rec : Int32 → Int32 → Int32 → STx → STx → SPg → SPt → SMk → SLd → SPr → SJd → Option (Int32 × SPg × SPt × SLd × SPr × SJd)} {x1 : Nat} {x2 : Int32} {x3 : Int32} {x4 : Int32} {x5 : Int32} {x8 : Int32} {T0 : STx} {T1 : STx} {Mk : SMk} {z : Int32 × Int32 × Int32 × Int32 × SPg × SPt × SLd × SPr × SJd} (hn : o_big ≤ n) (h_T0 : I_Tx T0) (h_T1 : I_Tx T1) (p0 : x1 < 45) (p1 : x4 ≤ 100) (hrec : ∀ (v0 v1 : Int32) (T0 T1 : STx) (Pg : SPg) (Pt : SPt) (Mk : SMk) (Ld : SLd) (Pr : SPr) (Jd : SJd), I_Tx T0 → I_Tx T1 → I_Pg Pg → I_Pt Pt → I_Pr Pr → I_Jd Jd → o_ok (rec v0 v1 (x4 + 1) T0 T1 Pg Pt Mk Ld Pr Jd) (fun r => (r.1 = 0 ∨ r.1 = 1) ∧ I_Pg r.2.1 ∧ I_Pt r.2.2.1 ∧ I_Pr r.2.2.2.2.1 ∧ I_Jd r.2.2.2.2.2)) (l0 : 0 ≤ z.2.2.2.1) (l1 : I_Pg z.2.2.2.2.1) (l2 : I_Pt z.2.2.2.2.2.1) (l3 : I_Pr z.2.2.2.2.2.2.2.1) (l4 : I_Jd z.2.2.2.2.2.2.2.2) : o_ok (o_lp n (m_Jd_apply_b61 n rec x1 x2 x3 x4 x5 x8 T0 T1 Mk) z) (fun q => q.1 ≠ 0 ∧ I_Pg q.2.2.2.2.2.1 ∧ I_Pt q.2.2.2.2.2.2.1 ∧ I_Pr q.2.2.2.2.2.2.2.2.1 ∧ I_Jd q.2.2.2.2.2.2.2.2.2) := by
  exact o_lpR (fun z => 0 ≤ z.2.2.2.1 ∧ I_Pg z.2.2.2.2.1 ∧ I_Pt z.2.2.2.2.2.1 ∧ I_Pr z.2.2.2.2.2.2.2.1 ∧ I_Jd z.2.2.2.2.2.2.2.2) (fun z => o_mu z.2.2.2.1) hn (o_muB) ⟨l0, l1, l2, l3, l4⟩
    (fun z hz => by obtain ⟨l0, l1, l2, l3, l4⟩ := hz; exact o_okW (s_Jd_apply_b61 hn h_T0 h_T1 p0 p1 hrec l0 l1 l2 l3 l4) (fun q hq => ⟨fun h => by have := hq.1 h; grind, hq.2⟩))
set_option maxHeartbeats 8000000 in
theorem s_Jd_apply {n : Nat} {rec : Int32 → Int32 → Int32 → STx → STx → SPg → SPt → SMk → SLd → SPr → SJd → Option (Int32 × SPg × SPt × SLd × SPr × SJd)} {x1 : Nat} {x2 : Int32} {x3 : Int32} {x4 : Int32} {T0 : STx} {T1 : STx} {Pg : SPg} {Pt : SPt} {Mk : SMk} {Ld : SLd} {Pr : SPr} {Jd : SJd} (hn : o_big ≤ n) (h_T0 : I_Tx T0) (h_T1 : I_Tx T1) (h_Pg : I_Pg Pg) (h_Pt : I_Pt Pt) (h_Pr : I_Pr Pr) (h_Jd : I_Jd Jd) (p0 : x1 < 45) (p1 : x4 ≤ 100) (hrec : ∀ (v0 v1 : Int32) (T0 T1 : STx) (Pg : SPg) (Pt : SPt) (Mk : SMk) (Ld : SLd) (Pr : SPr) (Jd : SJd), I_Tx T0 → I_Tx T1 → I_Pg Pg → I_Pt Pt → I_Pr Pr → I_Jd Jd → o_ok (rec v0 v1 (x4 + 1) T0 T1 Pg Pt Mk Ld Pr Jd) (fun r => (r.1 = 0 ∨ r.1 = 1) ∧ I_Pg r.2.1 ∧ I_Pt r.2.2.1 ∧ I_Pr r.2.2.2.2.1 ∧ I_Jd r.2.2.2.2.2)) : o_ok (m_Jd_apply n rec x1 x2 x3 x4 T0 T1 Pg Pt Mk Ld Pr Jd) (fun r => (r.1 = 0 ∨ r.1 = 1) ∧ I_Pg r.2.1 ∧ I_Pt r.2.2.1 ∧ I_Pr r.2.2.2.2.1 ∧ I_Jd r.2.2.2.2.2) := by
  unfold m_Jd_apply
  refine o_okB (s_Pr_size  h_Pr) ?_
  intro q1_1 _
  refine o_okB (s_Kw_isSilent ) ?_
  intro q2_2 g3
  refine o_okI (fun c4 => ?_) (fun c4 => ?_)
  · unfold m_Jd_apply_j32
    refine o_okB (s_Mk_schemaCount  h_T0) ?_
    intro q3_5 _
    refine o_okB (s_Mk_firstSchema  h_T0) ?_
    intro q4_6 _
    refine o_okB (l_Jd_apply_b61  hn h_T0 h_T1 (by first | with_reducible exact True.intro | with_reducible assumption | grind [-Prod] | grind [-Prod, → sc_Jd, → sc_Pg, → sc_Pr, → sc_Pt, → sc_Tx] | grind [-Prod, I_Jd, I_Pg, I_Pr, I_Pt, I_Tx, o_bn, upd]) (by first | with_reducible exact True.intro | with_reducible assumption | grind [-Prod] | grind [-Prod, → sc_Jd, → sc_Pg, → sc_Pr, → sc_Pt, → sc_Tx] | grind [-Prod, I_Jd, I_Pg, I_Pr, I_Pt, I_Tx, o_bn, upd]) hrec (by first | with_reducible exact True.intro | with_reducible assumption | grind [-Prod] | grind [-Prod, → sc_Jd, → sc_Pg, → sc_Pr, → sc_Pt, → sc_Tx] | grind [-Prod, I_Jd, I_Pg, I_Pr, I_Pt, I_Tx, o_bn, upd]) h_Pg h_Pt h_Pr h_Jd) ?_
    intro q15_7 ⟨yq15_7, g8, g9, g10, g11⟩
    unfold m_Jd_apply_j265
    refine o_okB (s_Kw_isSilent ) ?_
    intro q16_12 g13
    refine o_okI (fun c14 => ?_) (fun c14 => ?_)
    · unfold m_Jd_apply_j282
      refine o_okB (s_Jd_verdict  hn h_T0 (by first | with_reducible exact True.intro | with_reducible assumption | grind [-Prod] | grind [-Prod, → sc_Jd, → sc_Pg, → sc_Pr, → sc_Pt, → sc_Tx] | grind [-Prod, I_Jd, I_Pg, I_Pr, I_Pt, I_Tx, o_bn, upd])) ?_
      intro q17_15 g16
      refine o_okI (fun c17 => ?_) (fun c17 => ?_)
      · refine o_okG (o_zbM (by first | with_reducible exact True.intro | with_reducible assumption | grind [-Prod] | grind [-Prod, → sc_Jd, → sc_Pg, → sc_Pr, → sc_Pt, → sc_Tx] | grind [-Prod, I_Jd, I_Pg, I_Pr, I_Pt, I_Tx, o_bn, upd])) ?_
        refine o_okS ?_
        refine ⟨?_, ?_, ?_, ?_, ?_⟩
        · first | with_reducible exact True.intro | with_reducible assumption | grind [-Prod] | grind [-Prod, → sc_Jd, → sc_Pg, → sc_Pr, → sc_Pt, → sc_Tx] | grind [-Prod, I_Jd, I_Pg, I_Pr, I_Pt, I_Tx, o_bn, upd]
        · exact g8
        · exact g9
        · exact g10
        · exact g11
      · refine o_okB (s_Kw_tellsFailuresOnly ) ?_
        intro q18_18 g19
        refine o_okI (fun c20 => ?_) (fun c20 => ?_)
        · refine o_okG (o_zbM (by first | with_reducible exact True.intro | with_reducible assumption | grind [-Prod] | grind [-Prod, → sc_Jd, → sc_Pg, → sc_Pr, → sc_Pt, → sc_Tx] | grind [-Prod, I_Jd, I_Pg, I_Pr, I_Pt, I_Tx, o_bn, upd])) ?_
          refine o_okS ?_
          refine ⟨?_, ?_, ?_, ?_, ?_⟩
          · first | with_reducible exact True.intro | with_reducible assumption | grind [-Prod] | grind [-Prod, → sc_Jd, → sc_Pg, → sc_Pr, → sc_Pt, → sc_Tx] | grind [-Prod, I_Jd, I_Pg, I_Pr, I_Pt, I_Tx, o_bn, upd]
          · exact g8
          · exact g9
          · exact g10
          · exact g11
        · refine o_okB (s_Pr_cut  g10) ?_
          intro q19_21 g22
          refine o_okG (o_zbM (by first | with_reducible exact True.intro | with_reducible assumption | grind [-Prod] | grind [-Prod, → sc_Jd, → sc_Pg, → sc_Pr, → sc_Pt, → sc_Tx] | grind [-Prod, I_Jd, I_Pg, I_Pr, I_Pt, I_Tx, o_bn, upd])) ?_
          refine o_okS ?_
          refine ⟨?_, ?_, ?_, ?_, ?_⟩
          · first | with_reducible exact True.intro | with_reducible assumption | grind [-Prod] | grind [-Prod, → sc_Jd, → sc_Pg, → sc_Pr, → sc_Pt, → sc_Tx] | grind [-Prod, I_Jd, I_Pg, I_Pr, I_Pt, I_Tx, o_bn, upd]
          · exact g8
          · exact g9
          · exact g22
          · exact g11
    · unfold m_Jd_apply_j282
      refine o_okB (s_Jd_verdict  hn h_T0 (by first | with_reducible exact True.intro | with_reducible assumption | grind [-Prod] | grind [-Prod, → sc_Jd, → sc_Pg, → sc_Pr, → sc_Pt, → sc_Tx] | grind [-Prod, I_Jd, I_Pg, I_Pr, I_Pt, I_Tx, o_bn, upd])) ?_
      intro q17_23 g24
      refine o_okI (fun c25 => ?_) (fun c25 => ?_)
      · refine o_okG (o_zbM (by first | with_reducible exact True.intro | with_reducible assumption | grind [-Prod] | grind [-Prod, → sc_Jd, → sc_Pg, → sc_Pr, → sc_Pt, → sc_Tx] | grind [-Prod, I_Jd, I_Pg, I_Pr, I_Pt, I_Tx, o_bn, upd])) ?_
        refine o_okS ?_
        refine ⟨?_, ?_, ?_, ?_, ?_⟩
        · first | with_reducible exact True.intro | with_reducible assumption | grind [-Prod] | grind [-Prod, → sc_Jd, → sc_Pg, → sc_Pr, → sc_Pt, → sc_Tx] | grind [-Prod, I_Jd, I_Pg, I_Pr, I_Pt, I_Tx, o_bn, upd]
        · exact g8
        · exact g9
        · exact g10
        · exact g11
      · refine o_okB (s_Kw_tellsFailuresOnly ) ?_
        intro q18_26 g27
        refine o_okI (fun c28 => ?_) (fun c28 => ?_)
        · refine o_okG (o_zbM (by first | with_reducible exact True.intro | with_reducible assumption | grind [-Prod] | grind [-Prod, → sc_Jd, → sc_Pg, → sc_Pr, → sc_Pt, → sc_Tx] | grind [-Prod, I_Jd, I_Pg, I_Pr, I_Pt, I_Tx, o_bn, upd])) ?_
          refine o_okS ?_
          refine ⟨?_, ?_, ?_, ?_, ?_⟩
          · first | with_reducible exact True.intro | with_reducible assumption | grind [-Prod] | grind [-Prod, → sc_Jd, → sc_Pg, → sc_Pr, → sc_Pt, → sc_Tx] | grind [-Prod, I_Jd, I_Pg, I_Pr, I_Pt, I_Tx, o_bn, upd]
          · exact g8
          · exact g9
          · exact g10
          · exact g11
        · refine o_okB (s_Pr_cut  g10) ?_
          intro q19_29 g30
          refine o_okG (o_zbM (by first | with_reducible exact True.intro | with_reducible assumption | grind [-Prod] | grind [-Prod, → sc_Jd, → sc_Pg, → sc_Pr, → sc_Pt, → sc_Tx] | grind [-Prod, I_Jd, I_Pg, I_Pr, I_Pt, I_Tx, o_bn, upd])) ?_
          refine o_okS ?_
          refine ⟨?_, ?_, ?_, ?_, ?_⟩
          · first | with_reducible exact True.intro | with_reducible assumption | grind [-Prod] | grind [-Prod, → sc_Jd, → sc_Pg, → sc_Pr, → sc_Pt, → sc_Tx] | grind [-Prod, I_Jd, I_Pg, I_Pr, I_Pt, I_Tx, o_bn, upd]
          · exact g8
          · exact g9
          · exact g30
          · exact g11
  · unfold m_Jd_apply_j32
    refine o_okB (s_Mk_schemaCount  h_T0) ?_
    intro q3_31 _
    refine o_okB (s_Mk_firstSchema  h_T0) ?_
    intro q4_32 _
    refine o_okB (l_Jd_apply_b61  hn h_T0 h_T1 (by first | with_reducible exact True.intro | with_reducible assumption | grind [-Prod] | grind [-Prod, → sc_Jd, → sc_Pg, → sc_Pr, → sc_Pt, → sc_Tx] | grind [-Prod, I_Jd, I_Pg, I_Pr, I_Pt, I_Tx, o_bn, upd]) (by first | with_reducible exact True.intro | with_reducible assumption | grind [-Prod] | grind [-Prod, → sc_Jd, → sc_Pg, → sc_Pr, → sc_Pt, → sc_Tx] | grind [-Prod, I_Jd, I_Pg, I_Pr, I_Pt, I_Tx, o_bn, upd]) hrec (by first | with_reducible exact True.intro | with_reducible assumption | grind [-Prod] | grind [-Prod, → sc_Jd, → sc_Pg, → sc_Pr, → sc_Pt, → sc_Tx] | grind [-Prod, I_Jd, I_Pg, I_Pr, I_Pt, I_Tx, o_bn, upd]) h_Pg h_Pt h_Pr h_Jd) ?_
    intro q15_33 ⟨yq15_33, g34, g35, g36, g37⟩
    unfold m_Jd_apply_j265
    refine o_okB (s_Kw_isSilent ) ?_
    intro q16_38 g39
    refine o_okI (fun c40 => ?_) (fun c40 => ?_)
    · unfold m_Jd_apply_j282
      refine o_okB (s_Jd_verdict  hn h_T0 (by first | with_reducible exact True.intro | with_reducible assumption | grind [-Prod] | grind [-Prod, → sc_Jd, → sc_Pg, → sc_Pr, → sc_Pt, → sc_Tx] | grind [-Prod, I_Jd, I_Pg, I_Pr, I_Pt, I_Tx, o_bn, upd])) ?_
      intro q17_41 g42
      refine o_okI (fun c43 => ?_) (fun c43 => ?_)
      · refine o_okG (o_zbM (by first | with_reducible exact True.intro | with_reducible assumption | grind [-Prod] | grind [-Prod, → sc_Jd, → sc_Pg, → sc_Pr, → sc_Pt, → sc_Tx] | grind [-Prod, I_Jd, I_Pg, I_Pr, I_Pt, I_Tx, o_bn, upd])) ?_
        refine o_okS ?_
        refine ⟨?_, ?_, ?_, ?_, ?_⟩
        · first | with_reducible exact True.intro | with_reducible assumption | grind [-Prod] | grind [-Prod, → sc_Jd, → sc_Pg, → sc_Pr, → sc_Pt, → sc_Tx] | grind [-Prod, I_Jd, I_Pg, I_Pr, I_Pt, I_Tx, o_bn, upd]
        · exact g34
        · exact g35
        · exact g36
        · exact g37
      · refine o_okB (s_Kw_tellsFailuresOnly ) ?_
        intro q18_44 g45
        refine o_okI (fun c46 => ?_) (fun c46 => ?_)
        · refine o_okG (o_zbM (by first | with_reducible exact True.intro | with_reducible assumption | grind [-Prod] | grind [-Prod, → sc_Jd, → sc_Pg, → sc_Pr, → sc_Pt, → sc_Tx] | grind [-Prod, I_Jd, I_Pg, I_Pr, I_Pt, I_Tx, o_bn, upd])) ?_
          refine o_okS ?_
          refine ⟨?_, ?_, ?_, ?_, ?_⟩
          · first | with_reducible exact True.intro | with_reducible assumption | grind [-Prod] | grind [-Prod, → sc_Jd, → sc_Pg, → sc_Pr, → sc_Pt, → sc_Tx] | grind [-Prod, I_Jd, I_Pg, I_Pr, I_Pt, I_Tx, o_bn, upd]
          · exact g34
          · exact g35
          · exact g36
          · exact g37
        · refine o_okB (s_Pr_cut  g36) ?_
          intro q19_47 g48
          refine o_okG (o_zbM (by first | with_reducible exact True.intro | with_reducible assumption | grind [-Prod] | grind [-Prod, → sc_Jd, → sc_Pg, → sc_Pr, → sc_Pt, → sc_Tx] | grind [-Prod, I_Jd, I_Pg, I_Pr, I_Pt, I_Tx, o_bn, upd])) ?_
          refine o_okS ?_
          refine ⟨?_, ?_, ?_, ?_, ?_⟩
          · first | with_reducible exact True.intro | with_reducible assumption | grind [-Prod] | grind [-Prod, → sc_Jd, → sc_Pg, → sc_Pr, → sc_Pt, → sc_Tx] | grind [-Prod, I_Jd, I_Pg, I_Pr, I_Pt, I_Tx, o_bn, upd]
          · exact g34
          · exact g35
          · exact g48
          · exact g37
    · unfold m_Jd_apply_j282
      refine o_okB (s_Jd_verdict  hn h_T0 (by first | with_reducible exact True.intro | with_reducible assumption | grind [-Prod] | grind [-Prod, → sc_Jd, → sc_Pg, → sc_Pr, → sc_Pt, → sc_Tx] | grind [-Prod, I_Jd, I_Pg, I_Pr, I_Pt, I_Tx, o_bn, upd])) ?_
      intro q17_49 g50
      refine o_okI (fun c51 => ?_) (fun c51 => ?_)
      · refine o_okG (o_zbM (by first | with_reducible exact True.intro | with_reducible assumption | grind [-Prod] | grind [-Prod, → sc_Jd, → sc_Pg, → sc_Pr, → sc_Pt, → sc_Tx] | grind [-Prod, I_Jd, I_Pg, I_Pr, I_Pt, I_Tx, o_bn, upd])) ?_
        refine o_okS ?_
        refine ⟨?_, ?_, ?_, ?_, ?_⟩
        · first | with_reducible exact True.intro | with_reducible assumption | grind [-Prod] | grind [-Prod, → sc_Jd, → sc_Pg, → sc_Pr, → sc_Pt, → sc_Tx] | grind [-Prod, I_Jd, I_Pg, I_Pr, I_Pt, I_Tx, o_bn, upd]
        · exact g34
        · exact g35
        · exact g36
        · exact g37
      · refine o_okB (s_Kw_tellsFailuresOnly ) ?_
        intro q18_52 g53
        refine o_okI (fun c54 => ?_) (fun c54 => ?_)
        · refine o_okG (o_zbM (by first | with_reducible exact True.intro | with_reducible assumption | grind [-Prod] | grind [-Prod, → sc_Jd, → sc_Pg, → sc_Pr, → sc_Pt, → sc_Tx] | grind [-Prod, I_Jd, I_Pg, I_Pr, I_Pt, I_Tx, o_bn, upd])) ?_
          refine o_okS ?_
          refine ⟨?_, ?_, ?_, ?_, ?_⟩
          · first | with_reducible exact True.intro | with_reducible assumption | grind [-Prod] | grind [-Prod, → sc_Jd, → sc_Pg, → sc_Pr, → sc_Pt, → sc_Tx] | grind [-Prod, I_Jd, I_Pg, I_Pr, I_Pt, I_Tx, o_bn, upd]
          · exact g34
          · exact g35
          · exact g36
          · exact g37
        · refine o_okB (s_Pr_cut  g36) ?_
          intro q19_55 g56
          refine o_okG (o_zbM (by first | with_reducible exact True.intro | with_reducible assumption | grind [-Prod] | grind [-Prod, → sc_Jd, → sc_Pg, → sc_Pr, → sc_Pt, → sc_Tx] | grind [-Prod, I_Jd, I_Pg, I_Pr, I_Pt, I_Tx, o_bn, upd])) ?_
          refine o_okS ?_
          refine ⟨?_, ?_, ?_, ?_, ?_⟩
          · first | with_reducible exact True.intro | with_reducible assumption | grind [-Prod] | grind [-Prod, → sc_Jd, → sc_Pg, → sc_Pr, → sc_Pt, → sc_Tx] | grind [-Prod, I_Jd, I_Pg, I_Pr, I_Pt, I_Tx, o_bn, upd]
          · exact g34
          · exact g35
          · exact g56
          · exact g37
set_option maxHeartbeats 8000000 in
theorem s_Jd_evaluate_b55 {n : Nat} {rec : Int32 → Int32 → Int32 → STx → STx → SPg → SPt → SMk → SLd → SPr → SJd → Option (Int32 × SPg × SPt × SLd × SPr × SJd)} {x1 : Int32} {x2 : Int32} {x3 : Int32} {x5 : Int32} {T0 : STx} {T1 : STx} {Mk : SMk} {z : Int32 × Int32 × Int32 × SPg × SPt × SLd × SPr × SJd} (hn : o_big ≤ n) (h_T0 : I_Tx T0) (h_T1 : I_Tx T1) (p0 : x3 ≤ 100) (hrec : ∀ (v0 v1 : Int32) (T0 T1 : STx) (Pg : SPg) (Pt : SPt) (Mk : SMk) (Ld : SLd) (Pr : SPr) (Jd : SJd), I_Tx T0 → I_Tx T1 → I_Pg Pg → I_Pt Pt → I_Pr Pr → I_Jd Jd → o_ok (rec v0 v1 (x3 + 1) T0 T1 Pg Pt Mk Ld Pr Jd) (fun r => (r.1 = 0 ∨ r.1 = 1) ∧ I_Pg r.2.1 ∧ I_Pt r.2.2.1 ∧ I_Pr r.2.2.2.2.1 ∧ I_Jd r.2.2.2.2.2)) (l0 : (z.1 = 0 ∨ z.1 = 1)) (l1 : 0 ≤ z.2.2.1) (l2 : I_Pg z.2.2.2.1) (l3 : I_Pt z.2.2.2.2.1) (l4 : I_Pr z.2.2.2.2.2.2.1) (l5 : I_Jd z.2.2.2.2.2.2.2) : o_ok (m_Jd_evaluate_b55 n rec x1 x2 x3 x5 T0 T1 Mk z) (fun q => (q.1 = 0 → (q.2.1 = 0 ∨ q.2.1 = 1) ∧ 0 ≤ q.2.2.2.1 ∧ I_Pg q.2.2.2.2.1 ∧ I_Pt q.2.2.2.2.2.1 ∧ I_Pr q.2.2.2.2.2.2.2.1 ∧ I_Jd q.2.2.2.2.2.2.2.2 ∧ o_mu q.2.2.2.1 < o_mu z.2.2.1) ∧ (q.1 ≠ 0 → (q.2.1 = 0 ∨ q.2.1 = 1) ∧ I_Pg q.2.2.2.2.1 ∧ I_Pt q.2.2.2.2.2.1 ∧ I_Pr q.2.2.2.2.2.2.2.1 ∧ I_Jd q.2.2.2.2.2.2.2.2)) := by
  unfold m_Jd_evaluate_b55
  refine o_okB (s_Tx_size  h_T0) ?_
  intro q4_1 g2
  refine o_okI (fun c3 => ?_) (fun c3 => ?_)
  · refine o_okS ?_
    refine ⟨fun h => absurd (show (1 : Nat) = 0 from h) (by decide), fun _ => ?_⟩
    refine ⟨?_, ?_, ?_, ?_, ?_⟩
    · first | with_reducible exact True.intro | with_reducible assumption | grind [-Prod] | grind [-Prod, → sc_Jd, → sc_Pg, → sc_Pr, → sc_Pt, → sc_Tx] | grind [-Prod, I_Jd, I_Pg, I_Pr, I_Pt, I_Tx, o_bn, upd]
    · exact l2
    · exact l3
    · exact l4
    · exact l5
  · refine o_okI (fun c4 => ?_) (fun c4 => ?_)
    · refine o_okB (s_Mk_keyword ) ?_
      intro q5_5 g6
      refine o_okG (o_kbM (by first | with_reducible exact True.intro | with_reducible assumption | grind [-Prod] | grind [-Prod, → sc_Jd, → sc_Pg, → sc_Pr, → sc_Pt, → sc_Tx] | grind [-Prod, I_Jd, I_Pg, I_Pr, I_Pt, I_Tx, o_bn, upd])) ?_
      refine o_okB (s_Tx_nextChild  h_T0) ?_
      intro q6_7 _
      refine o_okB (s_Kw_comesLast ) ?_
      intro q7_8 g9
      refine o_okI (fun c10 => ?_) (fun c10 => ?_)
      · unfold m_Jd_evaluate_j117
        refine o_okI (fun c11 => ?_) (fun c11 => ?_)
        · refine o_okI (fun c12 => ?_) (fun c12 => ?_)
          · refine o_okN (fun x7_269_13 ex7_269_13 => ?_)
            refine o_okS ?_
            refine ⟨fun _ => ?_, fun h => absurd rfl h⟩
            refine ⟨?_, ?_, ?_, ?_, ?_, ?_, ?_⟩
            · first | with_reducible exact True.intro | with_reducible assumption | grind [-Prod] | grind [-Prod, → sc_Jd, → sc_Pg, → sc_Pr, → sc_Pt, → sc_Tx] | grind [-Prod, I_Jd, I_Pg, I_Pr, I_Pt, I_Tx, o_bn, upd]
            · first | with_reducible exact True.intro | with_reducible assumption | grind [-Prod] | grind [-Prod, → sc_Jd, → sc_Pg, → sc_Pr, → sc_Pt, → sc_Tx] | grind [-Prod, I_Jd, I_Pg, I_Pr, I_Pt, I_Tx, o_bn, upd]
            · exact l2
            · exact l3
            · exact l4
            · exact l5
            · first | exact o_muL (by first | with_reducible exact True.intro | with_reducible assumption | grind [-Prod] | grind [-Prod, → sc_Jd, → sc_Pg, → sc_Pr, → sc_Pt, → sc_Tx] | grind [-Prod, I_Jd, I_Pg, I_Pr, I_Pt, I_Tx, o_bn, upd]) | exact o_nuL (by first | with_reducible exact True.intro | with_reducible assumption | grind [-Prod] | grind [-Prod, → sc_Jd, → sc_Pg, → sc_Pr, → sc_Pt, → sc_Tx] | grind [-Prod, I_Jd, I_Pg, I_Pr, I_Pt, I_Tx, o_bn, upd]) | (first | with_reducible exact True.intro | with_reducible assumption | grind [-Prod] | grind [-Prod, → sc_Jd, → sc_Pg, → sc_Pr, → sc_Pt, → sc_Tx] | grind [-Prod, I_Jd, I_Pg, I_Pr, I_Pt, I_Tx, o_bn, upd])
          · refine o_okI (fun c14 => ?_) (fun c14 => ?_)
            · refine o_okN (fun x7_269_15 ex7_269_15 => ?_)
              refine o_okS ?_
              refine ⟨fun _ => ?_, fun h => absurd rfl h⟩
              refine ⟨?_, ?_, ?_, ?_, ?_, ?_, ?_⟩
              · first | with_reducible exact True.intro | with_reducible assumption | grind [-Prod] | grind [-Prod, → sc_Jd, → sc_Pg, → sc_Pr, → sc_Pt, → sc_Tx] | grind [-Prod, I_Jd, I_Pg, I_Pr, I_Pt, I_Tx, o_bn, upd]
              · first | with_reducible exact True.intro | with_reducible assumption | grind [-Prod] | grind [-Prod, → sc_Jd, → sc_Pg, → sc_Pr, → sc_Pt, → sc_Tx] | grind [-Prod, I_Jd, I_Pg, I_Pr, I_Pt, I_Tx, o_bn, upd]
              · exact l2
              · exact l3
              · exact l4
              · exact l5
              · first | exact o_muL (by first | with_reducible exact True.intro | with_reducible assumption | grind [-Prod] | grind [-Prod, → sc_Jd, → sc_Pg, → sc_Pr, → sc_Pt, → sc_Tx] | grind [-Prod, I_Jd, I_Pg, I_Pr, I_Pt, I_Tx, o_bn, upd]) | exact o_nuL (by first | with_reducible exact True.intro | with_reducible assumption | grind [-Prod] | grind [-Prod, → sc_Jd, → sc_Pg, → sc_Pr, → sc_Pt, → sc_Tx] | grind [-Prod, I_Jd, I_Pg, I_Pr, I_Pt, I_Tx, o_bn, upd]) | (first | with_reducible exact True.intro | with_reducible assumption | grind [-Prod] | grind [-Prod, → sc_Jd, → sc_Pg, → sc_Pr, → sc_Pt, → sc_Tx] | grind [-Prod, I_Jd, I_Pg, I_Pr, I_Pt, I_Tx, o_bn, upd])
            · refine o_okI (fun c16 => ?_) (fun c16 => ?_)
              · refine o_okB (s_Jd_apply  hn h_T0 h_T1 l2 l3 l4 l5 (by first | with_reducible exact True.intro | with_reducible assumption | grind [-Prod] | grind [-Prod, → sc_Jd, → sc_Pg, → sc_Pr, → sc_Pt, → sc_Tx] | grind [-Prod, I_Jd, I_Pg, I_Pr, I_Pt, I_Tx, o_bn, upd]) (by first | with_reducible exact True.intro | with_reducible assumption | grind [-Prod] | grind [-Prod, → sc_Jd, → sc_Pg, → sc_Pr, → sc_Pt, → sc_Tx] | grind [-Prod, I_Jd, I_Pg, I_Pr, I_Pt, I_Tx, o_bn, upd]) hrec) ?_
                intro q13_17 ⟨g18, g19, g20, g21, g22⟩
                refine o_okI (fun c23 => ?_) (fun c23 => ?_)
                · unfold m_Jd_evaluate_j178
                  refine o_okB (s_Mk_find  hn h_T0) ?_
                  intro q14_24 _
                  refine o_okB (s_Mk_keyword ) ?_
                  intro q15_25 g26
                  refine o_okG (o_kbM (by first | with_reducible exact True.intro | with_reducible assumption | grind [-Prod] | grind [-Prod, → sc_Jd, → sc_Pg, → sc_Pr, → sc_Pt, → sc_Tx] | grind [-Prod, I_Jd, I_Pg, I_Pr, I_Pt, I_Tx, o_bn, upd])) ?_
                  unfold m_Jd_evaluate_j194
                  refine o_okI (fun c27 => ?_) (fun c27 => ?_)
                  · refine o_okN (fun x7_269_28 ex7_269_28 => ?_)
                    refine o_okS ?_
                    refine ⟨fun _ => ?_, fun h => absurd rfl h⟩
                    refine ⟨?_, ?_, ?_, ?_, ?_, ?_, ?_⟩
                    · first | with_reducible exact True.intro | with_reducible assumption | grind [-Prod] | grind [-Prod, → sc_Jd, → sc_Pg, → sc_Pr, → sc_Pt, → sc_Tx] | grind [-Prod, I_Jd, I_Pg, I_Pr, I_Pt, I_Tx, o_bn, upd]
                    · first | with_reducible exact True.intro | with_reducible assumption | grind [-Prod] | grind [-Prod, → sc_Jd, → sc_Pg, → sc_Pr, → sc_Pt, → sc_Tx] | grind [-Prod, I_Jd, I_Pg, I_Pr, I_Pt, I_Tx, o_bn, upd]
                    · exact g19
                    · exact g20
                    · exact g21
                    · exact g22
                    · first | exact o_muL (by first | with_reducible exact True.intro | with_reducible assumption | grind [-Prod] | grind [-Prod, → sc_Jd, → sc_Pg, → sc_Pr, → sc_Pt, → sc_Tx] | grind [-Prod, I_Jd, I_Pg, I_Pr, I_Pt, I_Tx, o_bn, upd]) | exact o_nuL (by first | with_reducible exact True.intro | with_reducible assumption | grind [-Prod] | grind [-Prod, → sc_Jd, → sc_Pg, → sc_Pr, → sc_Pt, → sc_Tx] | grind [-Prod, I_Jd, I_Pg, I_Pr, I_Pt, I_Tx, o_bn, upd]) | (first | with_reducible exact True.intro | with_reducible assumption | grind [-Prod] | grind [-Prod, → sc_Jd, → sc_Pg, → sc_Pr, → sc_Pt, → sc_Tx] | grind [-Prod, I_Jd, I_Pg, I_Pr, I_Pt, I_Tx, o_bn, upd])
                  · refine o_okB (s_Tx_kind  h_T1) ?_
                    intro q8_29 _
                    refine o_okB (s_Kw_concerns ) ?_
                    intro q9_30 g31
                    refine o_okI (fun c32 => ?_) (fun c32 => ?_)
                    · refine o_okN (fun x7_269_33 ex7_269_33 => ?_)
                      refine o_okS ?_
                      refine ⟨fun _ => ?_, fun h => absurd rfl h⟩
                      refine ⟨?_, ?_, ?_, ?_, ?_, ?_, ?_⟩
                      · first | with_reducible exact True.intro | with_reducible assumption | grind [-Prod] | grind [-Prod, → sc_Jd, → sc_Pg, → sc_Pr, → sc_Pt, → sc_Tx] | grind [-Prod, I_Jd, I_Pg, I_Pr, I_Pt, I_Tx, o_bn, upd]
                      · first | with_reducible exact True.intro | with_reducible assumption | grind [-Prod] | grind [-Prod, → sc_Jd, → sc_Pg, → sc_Pr, → sc_Pt, → sc_Tx] | grind [-Prod, I_Jd, I_Pg, I_Pr, I_Pt, I_Tx, o_bn, upd]
                      · exact g19
                      · exact g20
                      · exact g21
                      · exact g22
                      · first | exact o_muL (by first | with_reducible exact True.intro | with_reducible assumption | grind [-Prod] | grind [-Prod, → sc_Jd, → sc_Pg, → sc_Pr, → sc_Pt, → sc_Tx] | grind [-Prod, I_Jd, I_Pg, I_Pr, I_Pt, I_Tx, o_bn, upd]) | exact o_nuL (by first | with_reducible exact True.intro | with_reducible assumption | grind [-Prod] | grind [-Prod, → sc_Jd, → sc_Pg, → sc_Pr, → sc_Pt, → sc_Tx] | grind [-Prod, I_Jd, I_Pg, I_Pr, I_Pt, I_Tx, o_bn, upd]) | (first | with_reducible exact True.intro | with_reducible assumption | grind [-Prod] | grind [-Prod, → sc_Jd, → sc_Pg, → sc_Pr, → sc_Pt, → sc_Tx] | grind [-Prod, I_Jd, I_Pg, I_Pr, I_Pt, I_Tx, o_bn, upd])
                    · refine o_okI (fun c34 => ?_) (fun c34 => ?_)
                      · refine o_okB (s_Jd_asserts  hn h_T0 h_T1 g19 g20 (by first | with_reducible exact True.intro | with_reducible assumption | grind [-Prod] | grind [-Prod, → sc_Jd, → sc_Pg, → sc_Pr, → sc_Pt, → sc_Tx] | grind [-Prod, I_Jd, I_Pg, I_Pr, I_Pt, I_Tx, o_bn, upd])) ?_
                        intro q12_35 ⟨g36, g37, g38⟩
                        unfold m_Jd_evaluate_j252
                        refine o_okI (fun c39 => ?_) (fun c39 => ?_)
                        · refine o_okB (s_Jd_tell  hn g21 g22) ?_
                          intro q11_40 g41
                          refine o_okN (fun x7_269_42 ex7_269_42 => ?_)
                          refine o_okS ?_
                          refine ⟨fun _ => ?_, fun h => absurd rfl h⟩
                          refine ⟨?_, ?_, ?_, ?_, ?_, ?_, ?_⟩
                          · first | with_reducible exact True.intro | with_reducible assumption | grind [-Prod] | grind [-Prod, → sc_Jd, → sc_Pg, → sc_Pr, → sc_Pt, → sc_Tx] | grind [-Prod, I_Jd, I_Pg, I_Pr, I_Pt, I_Tx, o_bn, upd]
                          · first | with_reducible exact True.intro | with_reducible assumption | grind [-Prod] | grind [-Prod, → sc_Jd, → sc_Pg, → sc_Pr, → sc_Pt, → sc_Tx] | grind [-Prod, I_Jd, I_Pg, I_Pr, I_Pt, I_Tx, o_bn, upd]
                          · exact g37
                          · exact g38
                          · exact g41
                          · exact g22
                          · first | exact o_muL (by first | with_reducible exact True.intro | with_reducible assumption | grind [-Prod] | grind [-Prod, → sc_Jd, → sc_Pg, → sc_Pr, → sc_Pt, → sc_Tx] | grind [-Prod, I_Jd, I_Pg, I_Pr, I_Pt, I_Tx, o_bn, upd]) | exact o_nuL (by first | with_reducible exact True.intro | with_reducible assumption | grind [-Prod] | grind [-Prod, → sc_Jd, → sc_Pg, → sc_Pr, → sc_Pt, → sc_Tx] | grind [-Prod, I_Jd, I_Pg, I_Pr, I_Pt, I_Tx, o_bn, upd]) | (first | with_reducible exact True.intro | with_reducible assumption | grind [-Prod] | grind [-Prod, → sc_Jd, → sc_Pg, → sc_Pr, → sc_Pt, → sc_Tx] | grind [-Prod, I_Jd, I_Pg, I_Pr, I_Pt, I_Tx, o_bn, upd])
                        · refine o_okN (fun x7_269_43 ex7_269_43 => ?_)
                          refine o_okS ?_
                          refine ⟨fun _ => ?_, fun h => absurd rfl h⟩
                          refine ⟨?_, ?_, ?_, ?_, ?_, ?_, ?_⟩
                          · first | with_reducible exact True.intro | with_reducible assumption | grind [-Prod] | grind [-Prod, → sc_Jd, → sc_Pg, → sc_Pr, → sc_Pt, → sc_Tx] | grind [-Prod, I_Jd, I_Pg, I_Pr, I_Pt, I_Tx, o_bn, upd]
                          · first | with_reducible exact True.intro | with_reducible assumption | grind [-Prod] | grind [-Prod, → sc_Jd, → sc_Pg, → sc_Pr, → sc_Pt, → sc_Tx] | grind [-Prod, I_Jd, I_Pg, I_Pr, I_Pt, I_Tx, o_bn, upd]
                          · exact g37
                          · exact g38
                          · exact g21
                          · exact g22
                          · first | exact o_muL (by first | with_reducible exact True.intro | with_reducible assumption | grind [-Prod] | grind [-Prod, → sc_Jd, → sc_Pg, → sc_Pr, → sc_Pt, → sc_Tx] | grind [-Prod, I_Jd, I_Pg, I_Pr, I_Pt, I_Tx, o_bn, upd]) | exact o_nuL (by first | with_reducible exact True.intro | with_reducible assumption | grind [-Prod] | grind [-Prod, → sc_Jd, → sc_Pg, → sc_Pr, → sc_Pt, → sc_Tx] | grind [-Prod, I_Jd, I_Pg, I_Pr, I_Pt, I_Tx, o_bn, upd]) | (first | with_reducible exact True.intro | with_reducible assumption | grind [-Prod] | grind [-Prod, → sc_Jd, → sc_Pg, → sc_Pr, → sc_Pt, → sc_Tx] | grind [-Prod, I_Jd, I_Pg, I_Pr, I_Pt, I_Tx, o_bn, upd])
                      · refine o_okB (s_Jd_apply  hn h_T0 h_T1 g19 g20 g21 g22 (by first | with_reducible exact True.intro | with_reducible assumption | grind [-Prod] | grind [-Prod, → sc_Jd, → sc_Pg, → sc_Pr, → sc_Pt, → sc_Tx] | grind [-Prod, I_Jd, I_Pg, I_Pr, I_Pt, I_Tx, o_bn, upd]) (by first | with_reducible exact True.intro | with_reducible assumption | grind [-Prod] | grind [-Prod, → sc_Jd, → sc_Pg, → sc_Pr, → sc_Pt, → sc_Tx] | grind [-Prod, I_Jd, I_Pg, I_Pr, I_Pt, I_Tx, o_bn, upd]) hrec) ?_
                        intro q10_44 ⟨g45, g46, g47, g48, g49⟩
                        unfold m_Jd_evaluate_j252
                        refine o_okI (fun c50 => ?_) (fun c50 => ?_)
                        · refine o_okB (s_Jd_tell  hn g48 g49) ?_
                          intro q11_51 g52
                          refine o_okN (fun x7_269_53 ex7_269_53 => ?_)
                          refine o_okS ?_
                          refine ⟨fun _ => ?_, fun h => absurd rfl h⟩
                          refine ⟨?_, ?_, ?_, ?_, ?_, ?_, ?_⟩
                          · first | with_reducible exact True.intro | with_reducible assumption | grind [-Prod] | grind [-Prod, → sc_Jd, → sc_Pg, → sc_Pr, → sc_Pt, → sc_Tx] | grind [-Prod, I_Jd, I_Pg, I_Pr, I_Pt, I_Tx, o_bn, upd]
                          · first | with_reducible exact True.intro | with_reducible assumption | grind [-Prod] | grind [-Prod, → sc_Jd, → sc_Pg, → sc_Pr, → sc_Pt, → sc_Tx] | grind [-Prod, I_Jd, I_Pg, I_Pr, I_Pt, I_Tx, o_bn, upd]
                          · exact g46
                          · exact g47
                          · exact g52
                          · exact g49
                          · first | exact o_muL (by first | with_reducible exact True.intro | with_reducible assumption | grind [-Prod] | grind [-Prod, → sc_Jd, → sc_Pg, → sc_Pr, → sc_Pt, → sc_Tx] | grind [-Prod, I_Jd, I_Pg, I_Pr, I_Pt, I_Tx, o_bn, upd]) | exact o_nuL (by first | with_reducible exact True.intro | with_reducible assumption | grind [-Prod] | grind [-Prod, → sc_Jd, → sc_Pg, → sc_Pr, → sc_Pt, → sc_Tx] | grind [-Prod, I_Jd, I_Pg, I_Pr, I_Pt, I_Tx, o_bn, upd]) | (first | with_reducible exact True.intro | with_reducible assumption | grind [-Prod] | grind [-Prod, → sc_Jd, → sc_Pg, → sc_Pr, → sc_Pt, → sc_Tx] | grind [-Prod, I_Jd, I_Pg, I_Pr, I_Pt, I_Tx, o_bn, upd])
                        · refine o_okN (fun x7_269_54 ex7_269_54 => ?_)
                          refine o_okS ?_
                          refine ⟨fun _ => ?_, fun h => absurd rfl h⟩
                          refine ⟨?_, ?_, ?_, ?_, ?_, ?_, ?_⟩
                          · first | with_reducible exact True.intro | with_reducible assumption | grind [-Prod] | grind [-Prod, → sc_Jd, → sc_Pg, → sc_Pr, → sc_Pt, → sc_Tx] | grind [-Prod, I_Jd, I_Pg, I_Pr, I_Pt, I_Tx, o_bn, upd]
                          · first | with_reducible exact True.intro | with_reducible assumption | grind [-Prod] | grind [-Prod, → sc_Jd, → sc_Pg, → sc_Pr, → sc_Pt, → sc_Tx] | grind [-Prod, I_Jd, I_Pg, I_Pr, I_Pt, I_Tx, o_bn, upd]
                          · exact g46
                          · exact g47
                          · exact g48
                          · exact g49
                          · first | exact o_muL (by first | with_reducible exact True.intro | with_reducible assumption | grind [-Prod] | grind [-Prod, → sc_Jd, → sc_Pg, → sc_Pr, → sc_Pt, → sc_Tx] | grind [-Prod, I_Jd, I_Pg, I_Pr, I_Pt, I_Tx, o_bn, upd]) | exact o_nuL (by first | with_reducible exact True.intro | with_reducible assumption | grind [-Prod] | grind [-Prod, → sc_Jd, → sc_Pg, → sc_Pr, → sc_Pt, → sc_Tx] | grind [-Prod, I_Jd, I_Pg, I_Pr, I_Pt, I_Tx, o_bn, upd]) | (first | with_reducible exact True.intro | with_reducible assumption | grind [-Prod] | grind [-Prod, → sc_Jd, → sc_Pg, → sc_Pr, → sc_Pt, → sc_Tx] | grind [-Prod, I_Jd, I_Pg, I_Pr, I_Pt, I_Tx, o_bn, upd])
                · unfold m_Jd_evaluate_j178
                  refine o_okB (s_Mk_find  hn h_T0) ?_
                  intro q14_55 _
                  refine o_okB (s_Mk_keyword ) ?_
                  intro q15_56 g57
                  refine o_okG (o_kbM (by first | with_reducible exact True.intro | with_reducible assumption | grind [-Prod] | grind [-Prod, → sc_Jd, → sc_Pg, → sc_Pr, → sc_Pt, → sc_Tx] | grind [-Prod, I_Jd, I_Pg, I_Pr, I_Pt, I_Tx, o_bn, upd])) ?_
                  unfold m_Jd_evaluate_j194
                  refine o_okI (fun c58 => ?_) (fun c58 => ?_)
                  · refine o_okN (fun x7_269_59 ex7_269_59 => ?_)
                    refine o_okS ?_
                    refine ⟨fun _ => ?_, fun h => absurd rfl h⟩
                    refine ⟨?_, ?_, ?_, ?_, ?_, ?_, ?_⟩
                    · first | with_reducible exact True.intro | with_reducible assumption | grind [-Prod] | grind [-Prod, → sc_Jd, → sc_Pg, → sc_Pr, → sc_Pt, → sc_Tx] | grind [-Prod, I_Jd, I_Pg, I_Pr, I_Pt, I_Tx, o_bn, upd]
                    · first | with_reducible exact True.intro | with_reducible assumption | grind [-Prod] | grind [-Prod, → sc_Jd, → sc_Pg, → sc_Pr, → sc_Pt, → sc_Tx] | grind [-Prod, I_Jd, I_Pg, I_Pr, I_Pt, I_Tx, o_bn, upd]
                    · exact g19
                    · exact g20
                    · exact g21
                    · exact g22
                    · first | exact o_muL (by first | with_reducible exact True.intro | with_reducible assumption | grind [-Prod] | grind [-Prod, → sc_Jd, → sc_Pg, → sc_Pr, → sc_Pt, → sc_Tx] | grind [-Prod, I_Jd, I_Pg, I_Pr, I_Pt, I_Tx, o_bn, upd]) | exact o_nuL (by first | with_reducible exact True.intro | with_reducible assumption | grind [-Prod] | grind [-Prod, → sc_Jd, → sc_Pg, → sc_Pr, → sc_Pt, → sc_Tx] | grind [-Prod, I_Jd, I_Pg, I_Pr, I_Pt, I_Tx, o_bn, upd]) | (first | with_reducible exact True.intro | with_reducible assumption | grind [-Prod] | grind [-Prod, → sc_Jd, → sc_Pg, → sc_Pr, → sc_Pt, → sc_Tx] | grind [-Prod, I_Jd, I_Pg, I_Pr, I_Pt, I_Tx, o_bn, upd])
                  · refine o_okB (s_Tx_kind  h_T1) ?_
                    intro q8_60 _
                    refine o_okB (s_Kw_concerns ) ?_
                    intro q9_61 g62
                    refine o_okI (fun c63 => ?_) (fun c63 => ?_)
                    · refine o_okN (fun x7_269_64 ex7_269_64 => ?_)
                      refine o_okS ?_
                      refine ⟨fun _ => ?_, fun h => absurd rfl h⟩
                      refine ⟨?_, ?_, ?_, ?_, ?_, ?_, ?_⟩
                      · first | with_reducible exact True.intro | with_reducible assumption | grind [-Prod] | grind [-Prod, → sc_Jd, → sc_Pg, → sc_Pr, → sc_Pt, → sc_Tx] | grind [-Prod, I_Jd, I_Pg, I_Pr, I_Pt, I_Tx, o_bn, upd]
                      · first | with_reducible exact True.intro | with_reducible assumption | grind [-Prod] | grind [-Prod, → sc_Jd, → sc_Pg, → sc_Pr, → sc_Pt, → sc_Tx] | grind [-Prod, I_Jd, I_Pg, I_Pr, I_Pt, I_Tx, o_bn, upd]
                      · exact g19
                      · exact g20
                      · exact g21
                      · exact g22
                      · first | exact o_muL (by first | with_reducible exact True.intro | with_reducible assumption | grind [-Prod] | grind [-Prod, → sc_Jd, → sc_Pg, → sc_Pr, → sc_Pt, → sc_Tx] | grind [-Prod, I_Jd, I_Pg, I_Pr, I_Pt, I_Tx, o_bn, upd]) | exact o_nuL (by first | with_reducible exact True.intro | with_reducible assumption | grind [-Prod] | grind [-Prod, → sc_Jd, → sc_Pg, → sc_Pr, → sc_Pt, → sc_Tx] | grind [-Prod, I_Jd, I_Pg, I_Pr, I_Pt, I_Tx, o_bn, upd]) | (first | with_reducible exact True.intro | with_reducible assumption | grind [-Prod] | grind [-Prod, → sc_Jd, → sc_Pg, → sc_Pr, → sc_Pt, → sc_Tx] | grind [-Prod, I_Jd, I_Pg, I_Pr, I_Pt, I_Tx, o_bn, upd])
                    · refine o_okI (fun c65 => ?_) (fun c65 => ?_)
                      · refine o_okB (s_Jd_asserts  hn h_T0 h_T1 g19 g20 (by first | with_reducible exact True.intro | with_reducible assumption | grind [-Prod] | grind [-Prod, → sc_Jd, → sc_Pg, → sc_Pr, → sc_Pt, → sc_Tx] | grind [-Prod, I_Jd, I_Pg, I_Pr, I_Pt, I_Tx, o_bn, upd])) ?_
                        intro q12_66 ⟨g67, g68, g69⟩
                        unfold m_Jd_evaluate_j252
                        refine o_okI (fun c70 => ?_) (fun c70 => ?_)
                        · refine o_okB (s_Jd_tell  hn g21 g22) ?_
                          intro q11_71 g72
                          refine o_okN (fun x7_269_73 ex7_269_73 => ?_)
                          refine o_okS ?_
                          refine ⟨fun _ => ?_, fun h => absurd rfl h⟩
                          refine ⟨?_, ?_, ?_, ?_, ?_, ?_, ?_⟩
                          · first | with_reducible exact True.intro | with_reducible assumption | grind [-Prod] | grind [-Prod, → sc_Jd, → sc_Pg, → sc_Pr, → sc_Pt, → sc_Tx] | grind [-Prod, I_Jd, I_Pg, I_Pr, I_Pt, I_Tx, o_bn, upd]
                          · first | with_reducible exact True.intro | with_reducible assumption | grind [-Prod] | grind [-Prod, → sc_Jd, → sc_Pg, → sc_Pr, → sc_Pt, → sc_Tx] | grind [-Prod, I_Jd, I_Pg, I_Pr, I_Pt, I_Tx, o_bn, upd]
                          · exact g68
                          · exact g69
                          · exact g72
                          · exact g22
                          · first | exact o_muL (by first | with_reducible exact True.intro | with_reducible assumption | grind [-Prod] | grind [-Prod, → sc_Jd, → sc_Pg, → sc_Pr, → sc_Pt, → sc_Tx] | grind [-Prod, I_Jd, I_Pg, I_Pr, I_Pt, I_Tx, o_bn, upd]) | exact o_nuL (by first | with_reducible exact True.intro | with_reducible assumption | grind [-Prod] | grind [-Prod, → sc_Jd, → sc_Pg, → sc_Pr, → sc_Pt, → sc_Tx] | grind [-Prod, I_Jd, I_Pg, I_Pr, I_Pt, I_Tx, o_bn, upd]) | (first | with_reducible exact True.intro | with_reducible assumption | grind [-Prod] | grind [-Prod, → sc_Jd, → sc_Pg, → sc_Pr, → sc_Pt, → sc_Tx] | grind [-Prod, I_Jd, I_Pg, I_Pr, I_Pt, I_Tx, o_bn, upd])
                        · refine o_okN (fun x7_269_74 ex7_269_74 => ?_)
                          refine o_okS ?_
                          refine ⟨fun _ => ?_, fun h => absurd rfl h⟩
                          refine ⟨?_, ?_, ?_, ?_, ?_, ?_, ?_⟩
                          · first | with_reducible exact True.intro | with_reducible assumption | grind [-Prod] | grind [-Prod, → sc_Jd, → sc_Pg, → sc_Pr, → sc_Pt, → sc_Tx] | grind [-Prod, I_Jd, I_Pg, I_Pr, I_Pt, I_Tx, o_bn, upd]
                          · first | with_reducible exact True.intro | with_reducible assumption | grind [-Prod] | grind [-Prod, → sc_Jd, → sc_Pg, → sc_Pr, → sc_Pt, → sc_Tx] | grind [-Prod, I_Jd, I_Pg, I_Pr, I_Pt, I_Tx, o_bn, upd]
                          · exact g68
                          · exact g69
                          · exact g21
                          · exact g22
                          · first | exact o_muL (by first | with_reducible exact True.intro | with_reducible assumption | grind [-Prod] | grind [-Prod, → sc_Jd, → sc_Pg, → sc_Pr, → sc_Pt, → sc_Tx] | grind [-Prod, I_Jd, I_Pg, I_Pr, I_Pt, I_Tx, o_bn, upd]) | exact o_nuL (by first | with_reducible exact True.intro | with_reducible assumption | grind [-Prod] | grind [-Prod, → sc_Jd, → sc_Pg, → sc_Pr, → sc_Pt, → sc_Tx] | grind [-Prod, I_Jd, I_Pg, I_Pr, I_Pt, I_Tx, o_bn, upd]) | (first | with_reducible exact True.intro | with_reducible assumption | grind [-Prod] | grind [-Prod, → sc_Jd, → sc_Pg, → sc_Pr, → sc_Pt, → sc_Tx] | grind [-Prod, I_Jd, I_Pg, I_Pr, I_Pt, I_Tx, o_bn, upd])
                      · refine o_okB (s_Jd_apply  hn h_T0 h_T1 g19 g20 g21 g22 (by first | with_reducible exact True.intro | with_reducible assumption | grind [-Prod] | grind [-Prod, → sc_Jd, → sc_Pg, → sc_Pr, → sc_Pt, → sc_Tx] | grind [-Prod, I_Jd, I_Pg, I_Pr, I_Pt, I_Tx, o_bn, upd]) (by first | with_reducible exact True.intro | with_reducible assumption | grind [-Prod] | grind [-Prod, → sc_Jd, → sc_Pg, → sc_Pr, → sc_Pt, → sc_Tx] | grind [-Prod, I_Jd, I_Pg, I_Pr, I_Pt, I_Tx, o_bn, upd]) hrec) ?_
                        intro q10_75 ⟨g76, g77, g78, g79, g80⟩
                        unfold m_Jd_evaluate_j252
                        refine o_okI (fun c81 => ?_) (fun c81 => ?_)
                        · refine o_okB (s_Jd_tell  hn g79 g80) ?_
                          intro q11_82 g83
                          refine o_okN (fun x7_269_84 ex7_269_84 => ?_)
                          refine o_okS ?_
                          refine ⟨fun _ => ?_, fun h => absurd rfl h⟩
                          refine ⟨?_, ?_, ?_, ?_, ?_, ?_, ?_⟩
                          · first | with_reducible exact True.intro | with_reducible assumption | grind [-Prod] | grind [-Prod, → sc_Jd, → sc_Pg, → sc_Pr, → sc_Pt, → sc_Tx] | grind [-Prod, I_Jd, I_Pg, I_Pr, I_Pt, I_Tx, o_bn, upd]
                          · first | with_reducible exact True.intro | with_reducible assumption | grind [-Prod] | grind [-Prod, → sc_Jd, → sc_Pg, → sc_Pr, → sc_Pt, → sc_Tx] | grind [-Prod, I_Jd, I_Pg, I_Pr, I_Pt, I_Tx, o_bn, upd]
                          · exact g77
                          · exact g78
                          · exact g83
                          · exact g80
                          · first | exact o_muL (by first | with_reducible exact True.intro | with_reducible assumption | grind [-Prod] | grind [-Prod, → sc_Jd, → sc_Pg, → sc_Pr, → sc_Pt, → sc_Tx] | grind [-Prod, I_Jd, I_Pg, I_Pr, I_Pt, I_Tx, o_bn, upd]) | exact o_nuL (by first | with_reducible exact True.intro | with_reducible assumption | grind [-Prod] | grind [-Prod, → sc_Jd, → sc_Pg, → sc_Pr, → sc_Pt, → sc_Tx] | grind [-Prod, I_Jd, I_Pg, I_Pr, I_Pt, I_Tx, o_bn, upd]) | (first | with_reducible exact True.intro | with_reducible assumption | grind [-Prod] | grind [-Prod, → sc_Jd, → sc_Pg, → sc_Pr, → sc_Pt, → sc_Tx] | grind [-Prod, I_Jd, I_Pg, I_Pr, I_Pt, I_Tx, o_bn, upd])
                        · refine o_okN (fun x7_269_85 ex7_269_85 => ?_)
                          refine o_okS ?_
                          refine ⟨fun _ => ?_, fun h => absurd rfl h⟩
                          refine ⟨?_, ?_, ?_, ?_, ?_, ?_, ?_⟩
                          · first | with_reducible exact True.intro | with_reducible assumption | grind [-Prod] | grind [-Prod, → sc_Jd, → sc_Pg, → sc_Pr, → sc_Pt, → sc_Tx] | grind [-Prod, I_Jd, I_Pg, I_Pr, I_Pt, I_Tx, o_bn, upd]
                          · first | with_reducible exact True.intro | with_reducible assumption | grind [-Prod] | grind [-Prod, → sc_Jd, → sc_Pg, → sc_Pr, → sc_Pt, → sc_Tx] | grind [-Prod, I_Jd, I_Pg, I_Pr, I_Pt, I_Tx, o_bn, upd]
                          · exact g77
                          · exact g78
                          · exact g79
                          · exact g80
                          · first | exact o_muL (by first | with_reducible exact True.intro | with_reducible assumption | grind [-Prod] | grind [-Prod, → sc_Jd, → sc_Pg, → sc_Pr, → sc_Pt, → sc_Tx] | grind [-Prod, I_Jd, I_Pg, I_Pr, I_Pt, I_Tx, o_bn, upd]) | exact o_nuL (by first | with_reducible exact True.intro | with_reducible assumption | grind [-Prod] | grind [-Prod, → sc_Jd, → sc_Pg, → sc_Pr, → sc_Pt, → sc_Tx] | grind [-Prod, I_Jd, I_Pg, I_Pr, I_Pt, I_Tx, o_bn, upd]) | (first | with_reducible exact True.intro | with_reducible assumption | grind [-Prod] | grind [-Prod, → sc_Jd, → sc_Pg, → sc_Pr, → sc_Pt, → sc_Tx] | grind [-Prod, I_Jd, I_Pg, I_Pr, I_Pt, I_Tx, o_bn, upd])
              · unfold m_Jd_evaluate_j194
                refine o_okI (fun c86 => ?_) (fun c86 => ?_)
                · refine o_okN (fun x7_269_87 ex7_269_87 => ?_)
                  refine o_okS ?_
                  refine ⟨fun _ => ?_, fun h => absurd rfl h⟩
                  refine ⟨?_, ?_, ?_, ?_, ?_, ?_, ?_⟩
                  · first | with_reducible exact True.intro | with_reducible assumption | grind [-Prod] | grind [-Prod, → sc_Jd, → sc_Pg, → sc_Pr, → sc_Pt, → sc_Tx] | grind [-Prod, I_Jd, I_Pg, I_Pr, I_Pt, I_Tx, o_bn, upd]
                  · first | with_reducible exact True.intro | with_reducible assumption | grind [-Prod] | grind [-Prod, → sc_Jd, → sc_Pg, → sc_Pr, → sc_Pt, → sc_Tx] | grind [-Prod, I_Jd, I_Pg, I_Pr, I_Pt, I_Tx, o_bn, upd]
                  · exact l2
                  · exact l3
                  · exact l4
                  · exact l5
                  · first | exact o_muL (by first | with_reducible exact True.intro | with_reducible assumption | grind [-Prod] | grind [-Prod, → sc_Jd, → sc_Pg, → sc_Pr, → sc_Pt, → sc_Tx] | grind [-Prod, I_Jd, I_Pg, I_Pr, I_Pt, I_Tx, o_bn, upd]) | exact o_nuL (by first | with_reducible exact True.intro | with_reducible assumption | grind [-Prod] | grind [-Prod, → sc_Jd, → sc_Pg, → sc_Pr, → sc_Pt, → sc_Tx] | grind [-Prod, I_Jd, I_Pg, I_Pr, I_Pt, I_Tx, o_bn, upd]) | (first | with_reducible exact True.intro | with_reducible assumption | grind [-Prod] | grind [-Prod, → sc_Jd, → sc_Pg, → sc_Pr, → sc_Pt, → sc_Tx] | grind [-Prod, I_Jd, I_Pg, I_Pr, I_Pt, I_Tx, o_bn, upd])
                · refine o_okB (s_Tx_kind  h_T1) ?_
                  intro q8_88 _
                  refine o_okB (s_Kw_concerns ) ?_
                  intro q9_89 g90
                  refine o_okI (fun c91 => ?_) (fun c91 => ?_)
                  · refine o_okN (fun x7_269_92 ex7_269_92 => ?_)
                    refine o_okS ?_
                    refine ⟨fun _ => ?_, fun h => absurd rfl h⟩
                    refine ⟨?_, ?_, ?_, ?_, ?_, ?_, ?_⟩
                    · first | with_reducible exact True.intro | with_reducible assumption | grind [-Prod] | grind [-Prod, → sc_Jd, → sc_Pg, → sc_Pr, → sc_Pt, → sc_Tx] | grind [-Prod, I_Jd, I_Pg, I_Pr, I_Pt, I_Tx, o_bn, upd]
                    · first | with_reducible exact True.intro | with_reducible assumption | grind [-Prod] | grind [-Prod, → sc_Jd, → sc_Pg, → sc_Pr, → sc_Pt, → sc_Tx] | grind [-Prod, I_Jd, I_Pg, I_Pr, I_Pt, I_Tx, o_bn, upd]
                    · exact l2
                    · exact l3
                    · exact l4
                    · exact l5
                    · first | exact o_muL (by first | with_reducible exact True.intro | with_reducible assumption | grind [-Prod] | grind [-Prod, → sc_Jd, → sc_Pg, → sc_Pr, → sc_Pt, → sc_Tx] | grind [-Prod, I_Jd, I_Pg, I_Pr, I_Pt, I_Tx, o_bn, upd]) | exact o_nuL (by first | with_reducible exact True.intro | with_reducible assumption | grind [-Prod] | grind [-Prod, → sc_Jd, → sc_Pg, → sc_Pr, → sc_Pt, → sc_Tx] | grind [-Prod, I_Jd, I_Pg, I_Pr, I_Pt, I_Tx, o_bn, upd]) | (first | with_reducible exact True.intro | with_reducible assumption | grind [-Prod] | grind [-Prod, → sc_Jd, → sc_Pg, → sc_Pr, → sc_Pt, → sc_Tx] | grind [-Prod, I_Jd, I_Pg, I_Pr, I_Pt, I_Tx, o_bn, upd])
                  · refine o_okI (fun c93 => ?_) (fun c93 => ?_)
                    · refine o_okB (s_Jd_asserts  hn h_T0 h_T1 l2 l3 (by first | with_reducible exact True.intro | with_reducible assumption | grind [-Prod] | grind [-Prod, → sc_Jd, → sc_Pg, → sc_Pr, → sc_Pt, → sc_Tx] | grind [-Prod, I_Jd, I_Pg, I_Pr, I_Pt, I_Tx, o_bn, upd])) ?_
                      intro q12_94 ⟨g95, g96, g97⟩
                      unfold m_Jd_evaluate_j252
                      refine o_okI (fun c98 => ?_) (fun c98 => ?_)
                      · refine o_okB (s_Jd_tell  hn l4 l5) ?_
                        intro q11_99 g100
                        refine o_okN (fun x7_269_101 ex7_269_101 => ?_)
                        refine o_okS ?_
                        refine ⟨fun _ => ?_, fun h => absurd rfl h⟩
                        refine ⟨?_, ?_, ?_, ?_, ?_, ?_, ?_⟩
                        · first | with_reducible exact True.intro | with_reducible assumption | grind [-Prod] | grind [-Prod, → sc_Jd, → sc_Pg, → sc_Pr, → sc_Pt, → sc_Tx] | grind [-Prod, I_Jd, I_Pg, I_Pr, I_Pt, I_Tx, o_bn, upd]
                        · first | with_reducible exact True.intro | with_reducible assumption | grind [-Prod] | grind [-Prod, → sc_Jd, → sc_Pg, → sc_Pr, → sc_Pt, → sc_Tx] | grind [-Prod, I_Jd, I_Pg, I_Pr, I_Pt, I_Tx, o_bn, upd]
                        · exact g96
                        · exact g97
                        · exact g100
                        · exact l5
                        · first | exact o_muL (by first | with_reducible exact True.intro | with_reducible assumption | grind [-Prod] | grind [-Prod, → sc_Jd, → sc_Pg, → sc_Pr, → sc_Pt, → sc_Tx] | grind [-Prod, I_Jd, I_Pg, I_Pr, I_Pt, I_Tx, o_bn, upd]) | exact o_nuL (by first | with_reducible exact True.intro | with_reducible assumption | grind [-Prod] | grind [-Prod, → sc_Jd, → sc_Pg, → sc_Pr, → sc_Pt, → sc_Tx] | grind [-Prod, I_Jd, I_Pg, I_Pr, I_Pt, I_Tx, o_bn, upd]) | (first | with_reducible exact True.intro | with_reducible assumption | grind [-Prod] | grind [-Prod, → sc_Jd, → sc_Pg, → sc_Pr, → sc_Pt, → sc_Tx] | grind [-Prod, I_Jd, I_Pg, I_Pr, I_Pt, I_Tx, o_bn, upd])
                      · refine o_okN (fun x7_269_102 ex7_269_102 => ?_)
                        refine o_okS ?_
                        refine ⟨fun _ => ?_, fun h => absurd rfl h⟩
                        refine ⟨?_, ?_, ?_, ?_, ?_, ?_, ?_⟩
                        · first | with_reducible exact True.intro | with_reducible assumption | grind [-Prod] | grind [-Prod, → sc_Jd, → sc_Pg, → sc_Pr, → sc_Pt, → sc_Tx] | grind [-Prod, I_Jd, I_Pg, I_Pr, I_Pt, I_Tx, o_bn, upd]
                        · first | with_reducible exact True.intro | with_reducible assumption | grind [-Prod] | grind [-Prod, → sc_Jd, → sc_Pg, → sc_Pr, → sc_Pt, → sc_Tx] | grind [-Prod, I_Jd, I_Pg, I_Pr, I_Pt, I_Tx, o_bn, upd]
                        · exact g96
                        · exact g97
                        · exact l4
                        · exact l5
                        · first | exact o_muL (by first | with_reducible exact True.intro | with_reducible assumption | grind [-Prod] | grind [-Prod, → sc_Jd, → sc_Pg, → sc_Pr, → sc_Pt, → sc_Tx] | grind [-Prod, I_Jd, I_Pg, I_Pr, I_Pt, I_Tx, o_bn, upd]) | exact o_nuL (by first | with_reducible exact True.intro | with_reducible assumption | grind [-Prod] | grind [-Prod, → sc_Jd, → sc_Pg, → sc_Pr, → sc_Pt, → sc_Tx] | grind [-Prod, I_Jd, I_Pg, I_Pr, I_Pt, I_Tx, o_bn, upd]) | (first | with_reducible exact True.intro | with_reducible assumption | grind [-Prod] | grind [-Prod, → sc_Jd, → sc_Pg, → sc_Pr, → sc_Pt, → sc_Tx] | grind [-Prod, I_Jd, I_Pg, I_Pr, I_Pt, I_Tx, o_bn, upd])
                    · refine o_okB (s_Jd_apply  hn h_T0 h_T1 l2 l3 l4 l5 (by first | with_reducible exact True.intro | with_reducible assumption | grind [-Prod] | grind [-Prod, → sc_Jd, → sc_Pg, → sc_Pr, → sc_Pt, → sc_Tx] | grind [-Prod, I_Jd, I_Pg, I_Pr, I_Pt, I_Tx, o_bn, upd]) (by first | with_reducible exact True.intro | with_reducible assumption | grind [-Prod] | grind [-Prod, → sc_Jd, → sc_Pg, → sc_Pr, → sc_Pt, → sc_Tx] | grind [-Prod, I_Jd, I_Pg, I_Pr, I_Pt, I_Tx, o_bn, upd]) hrec) ?_
                      intro q10_103 ⟨g104, g105, g106, g107, g108⟩
                      unfold m_Jd_evaluate_j252
                      refine o_okI (fun c109 => ?_) (fun c109 => ?_)
                      · refine o_okB (s_Jd_tell  hn g107 g108) ?_
                        intro q11_110 g111
                        refine o_okN (fun x7_269_112 ex7_269_112 => ?_)
                        refine o_okS ?_
                        refine ⟨fun _ => ?_, fun h => absurd rfl h⟩
                        refine ⟨?_, ?_, ?_, ?_, ?_, ?_, ?_⟩
                        · first | with_reducible exact True.intro | with_reducible assumption | grind [-Prod] | grind [-Prod, → sc_Jd, → sc_Pg, → sc_Pr, → sc_Pt, → sc_Tx] | grind [-Prod, I_Jd, I_Pg, I_Pr, I_Pt, I_Tx, o_bn, upd]
                        · first | with_reducible exact True.intro | with_reducible assumption | grind [-Prod] | grind [-Prod, → sc_Jd, → sc_Pg, → sc_Pr, → sc_Pt, → sc_Tx] | grind [-Prod, I_Jd, I_Pg, I_Pr, I_Pt, I_Tx, o_bn, upd]
                        · exact g105
                        · exact g106
                        · exact g111
                        · exact g108
                        · first | exact o_muL (by first | with_reducible exact True.intro | with_reducible assumption | grind [-Prod] | grind [-Prod, → sc_Jd, → sc_Pg, → sc_Pr, → sc_Pt, → sc_Tx] | grind [-Prod, I_Jd, I_Pg, I_Pr, I_Pt, I_Tx, o_bn, upd]) | exact o_nuL (by first | with_reducible exact True.intro | with_reducible assumption | grind [-Prod] | grind [-Prod, → sc_Jd, → sc_Pg, → sc_Pr, → sc_Pt, → sc_Tx] | grind [-Prod, I_Jd, I_Pg, I_Pr, I_Pt, I_Tx, o_bn, upd]) | (first | with_reducible exact True.intro | with_reducible assumption | grind [-Prod] | grind [-Prod, → sc_Jd, → sc_Pg, → sc_Pr, → sc_Pt, → sc_Tx] | grind [-Prod, I_Jd, I_Pg, I_Pr, I_Pt, I_Tx, o_bn, upd])
                      · refine o_okN (fun x7_269_113 ex7_269_113 => ?_)
                        refine o_okS ?_
                        refine ⟨fun _ => ?_, fun h => absurd rfl h⟩
                        refine ⟨?_, ?_, ?_, ?_, ?_, ?_, ?_⟩
                        · first | with_reducible exact True.intro | with_reducible assumption | grind [-Prod] | grind [-Prod, → sc_Jd, → sc_Pg, → sc_Pr, → sc_Pt, → sc_Tx] | grind [-Prod, I_Jd, I_Pg, I_Pr, I_Pt, I_Tx, o_bn, upd]
                        · first | with_reducible exact True.intro | with_reducible assumption | grind [-Prod] | grind [-Prod, → sc_Jd, → sc_Pg, → sc_Pr, → sc_Pt, → sc_Tx] | grind [-Prod, I_Jd, I_Pg, I_Pr, I_Pt, I_Tx, o_bn, upd]
                        · exact g105
                        · exact g106
                        · exact g107
                        · exact g108
                        · first | exact o_muL (by first | with_reducible exact True.intro | with_reducible assumption | grind [-Prod] | grind [-Prod, → sc_Jd, → sc_Pg, → sc_Pr, → sc_Pt, → sc_Tx] | grind [-Prod, I_Jd, I_Pg, I_Pr, I_Pt, I_Tx, o_bn, upd]) | exact o_nuL (by first | with_reducible exact True.intro | with_reducible assumption | grind [-Prod] | grind [-Prod, → sc_Jd, → sc_Pg, → sc_Pr, → sc_Pt, → sc_Tx] | grind [-Prod, I_Jd, I_Pg, I_Pr, I_Pt, I_Tx, o_bn, upd]) | (first | with_reducible exact True.intro | with_reducible assumption | grind [-Prod] | grind [-Prod, → sc_Jd, → sc_Pg, → sc_Pr, → sc_Pt, → sc_Tx] | grind [-Prod, I_Jd, I_Pg, I_Pr, I_Pt, I_Tx, o_bn, upd])
        · refine o_okN (fun x7_269_114 ex7_269_114 => ?_)
          refine o_okS ?_
          refine ⟨fun _ => ?_, fun h => absurd rfl h⟩
          refine ⟨?_, ?_, ?_, ?_, ?_, ?_, ?_⟩
          · first | with_reducible exact True.intro | with_reducible assumption | grind [-Prod] | grind [-Prod, → sc_Jd, → sc_Pg, → sc_Pr, → sc_Pt, → sc_Tx] | grind [-Prod, I_Jd, I_Pg, I_Pr, I_Pt, I_Tx, o_bn, upd]
          · first | with_reducible exact True.intro | with_reducible assumption | grind [-Prod] | grind [-Prod, → sc_Jd, → sc_Pg, → sc_Pr, → sc_Pt, → sc_Tx] | grind [-Prod, I_Jd, I_Pg, I_Pr, I_Pt, I_Tx, o_bn, upd]
          · exact l2
          · exact l3
          · exact l4
          · exact l5
          · first | exact o_muL (by first | with_reducible exact True.intro | with_reducible assumption | grind [-Prod] | grind [-Prod, → sc_Jd, → sc_Pg, → sc_Pr, → sc_Pt, → sc_Tx] | grind [-Prod, I_Jd, I_Pg, I_Pr, I_Pt, I_Tx, o_bn, upd]) | exact o_nuL (by first | with_reducible exact True.intro | with_reducible assumption | grind [-Prod] | grind [-Prod, → sc_Jd, → sc_Pg, → sc_Pr, → sc_Pt, → sc_Tx] | grind [-Prod, I_Jd, I_Pg, I_Pr, I_Pt, I_Tx, o_bn, upd]) | (first | with_reducible exact True.intro | with_reducible assumption | grind [-Prod] | grind [-Prod, → sc_Jd, → sc_Pg, → sc_Pr, → sc_Pt, → sc_Tx] | grind [-Prod, I_Jd, I_Pg, I_Pr, I_Pt, I_Tx, o_bn, upd])
      · unfold m_Jd_evaluate_j117
        refine o_okI (fun c115 => ?_) (fun c115 => ?_)
        · refine o_okI (fun c116 => ?_) (fun c116 => ?_)
          · refine o_okN (fun x7_269_117 ex7_269_117 => ?_)
            refine o_okS ?_
            refine ⟨fun _ => ?_, fun h => absurd rfl h⟩
            refine ⟨?_, ?_, ?_, ?_, ?_, ?_, ?_⟩
            · first | with_reducible exact True.intro | with_reducible assumption | grind [-Prod] | grind [-Prod, → sc_Jd, → sc_Pg, → sc_Pr, → sc_Pt, → sc_Tx] | grind [-Prod, I_Jd, I_Pg, I_Pr, I_Pt, I_Tx, o_bn, upd]
            · first | with_reducible exact True.intro | with_reducible assumption | grind [-Prod] | grind [-Prod, → sc_Jd, → sc_Pg, → sc_Pr, → sc_Pt, → sc_Tx] | grind [-Prod, I_Jd, I_Pg, I_Pr, I_Pt, I_Tx, o_bn, upd]
            · exact l2
            · exact l3
            · exact l4
            · exact l5
            · first | exact o_muL (by first | with_reducible exact True.intro | with_reducible assumption | grind [-Prod] | grind [-Prod, → sc_Jd, → sc_Pg, → sc_Pr, → sc_Pt, → sc_Tx] | grind [-Prod, I_Jd, I_Pg, I_Pr, I_Pt, I_Tx, o_bn, upd]) | exact o_nuL (by first | with_reducible exact True.intro | with_reducible assumption | grind [-Prod] | grind [-Prod, → sc_Jd, → sc_Pg, → sc_Pr, → sc_Pt, → sc_Tx] | grind [-Prod, I_Jd, I_Pg, I_Pr, I_Pt, I_Tx, o_bn, upd]) | (first | with_reducible exact True.intro | with_reducible assumption | grind [-Prod] | grind [-Prod, → sc_Jd, → sc_Pg, → sc_Pr, → sc_Pt, → sc_Tx] | grind [-Prod, I_Jd, I_Pg, I_Pr, I_Pt, I_Tx, o_bn, upd])
          · refine o_okI (fun c118 => ?_) (fun c118 => ?_)
            · refine o_okN (fun x7_269_119 ex7_269_119 => ?_)
              refine o_okS ?_
              refine ⟨fun _ => ?_, fun h => absurd rfl h⟩
              refine ⟨?_, ?_, ?_, ?_, ?_, ?_, ?_⟩
              · first | with_reducible exact True.intro | with_reducible assumption | grind [-Prod] | grind [-Prod, → sc_Jd, → sc_Pg, → sc_Pr, → sc_Pt, → sc_Tx] | grind [-Prod, I_Jd, I_Pg, I_Pr, I_Pt, I_Tx, o_bn, upd]
              · first | with_reducible exact True.intro | with_reducible assumption | grind [-Prod] | grind [-Prod, → sc_Jd, → sc_Pg, → sc_Pr, → sc_Pt, → sc_Tx] | grind [-Prod, I_Jd, I_Pg, I_Pr, I_Pt, I_Tx, o_bn, upd]
              · exact l2
              · exact l3
              · exact l4
              · exact l5
              · first | exact o_muL (by first | with_reducible exact True.intro | with_reducible assumption | grind [-Prod] | grind [-Prod, → sc_Jd, → sc_Pg, → sc_Pr, → sc_Pt, → sc_Tx] | grind [-Prod, I_Jd, I_Pg, I_Pr, I_Pt, I_Tx, o_bn, upd]) | exact o_nuL (by first | with_reducible exact True.intro | with_reducible assumption | grind [-Prod] | grind [-Prod, → sc_Jd, → sc_Pg, → sc_Pr, → sc_Pt, → sc_Tx] | grind [-Prod, I_Jd, I_Pg, I_Pr, I_Pt, I_Tx, o_bn, upd]) | (first | with_reducible exact True.intro | with_reducible assumption | grind [-Prod] | grind [-Prod, → sc_Jd, → sc_Pg, → sc_Pr, → sc_Pt, → sc_Tx] | grind [-Prod, I_Jd, I_Pg, I_Pr, I_Pt, I_Tx, o_bn, upd])
            · refine o_okI (fun c120 => ?_) (fun c120 => ?_)
              · refine o_okB (s_Jd_apply  hn h_T0 h_T1 l2 l3 l4 l5 (by first | with_reducible exact True.intro | with_reducible assumption | grind [-Prod] | grind [-Prod, → sc_Jd, → sc_Pg, → sc_Pr, → sc_Pt, → sc_Tx] | grind [-Prod, I_Jd, I_Pg, I_Pr, I_Pt, I_Tx, o_bn, upd]) (by first | with_reducible exact True.intro | with_reducible assumption | grind [-Prod] | grind [-Prod, → sc_Jd, → sc_Pg, → sc_Pr, → sc_Pt, → sc_Tx] | grind [-Prod, I_Jd, I_Pg, I_Pr, I_Pt, I_Tx, o_bn, upd]) hrec) ?_
                intro q13_121 ⟨g122, g123, g124, g125, g126⟩
                refine o_okI (fun c127 => ?_) (fun c127 => ?_)
                · unfold m_Jd_evaluate_j178
                  refine o_okB (s_Mk_find  hn h_T0) ?_
                  intro q14_128 _
                  refine o_okB (s_Mk_keyword ) ?_
                  intro q15_129 g130
                  refine o_okG (o_kbM (by first | with_reducible exact True.intro | with_reducible assumption | grind [-Prod] | grind [-Prod, → sc_Jd, → sc_Pg, → sc_Pr, → sc_Pt, → sc_Tx] | grind [-Prod, I_Jd, I_Pg, I_Pr, I_Pt, I_Tx, o_bn, upd])) ?_
                  unfold m_Jd_evaluate_j194
                  refine o_okI (fun c131 => ?_) (fun c131 => ?_)
                  · refine o_okN (fun x7_269_132 ex7_269_132 => ?_)
                    refine o_okS ?_
                    refine ⟨fun _ => ?_, fun h => absurd rfl h⟩
                    refine ⟨?_, ?_, ?_, ?_, ?_, ?_, ?_⟩
                    · first | with_reducible exact True.intro | with_reducible assumption | grind [-Prod] | grind [-Prod, → sc_Jd, → sc_Pg, → sc_Pr, → sc_Pt, → sc_Tx] | grind [-Prod, I_Jd, I_Pg, I_Pr, I_Pt, I_Tx, o_bn, upd]
                    · first | with_reducible exact True.intro | with_reducible assumption | grind [-Prod] | grind [-Prod, → sc_Jd, → sc_Pg, → sc_Pr, → sc_Pt, → sc_Tx] | grind [-Prod, I_Jd, I_Pg, I_Pr, I_Pt, I_Tx, o_bn, upd]
                    · exact g123
                    · exact g124
                    · exact g125
                    · exact g126
                    · first | exact o_muL (by first | with_reducible exact True.intro | with_reducible assumption | grind [-Prod] | grind [-Prod, → sc_Jd, → sc_Pg, → sc_Pr, → sc_Pt, → sc_Tx] | grind [-Prod, I_Jd, I_Pg, I_Pr, I_Pt, I_Tx, o_bn, upd]) | exact o_nuL (by first | with_reducible exact True.intro | with_reducible assumption | grind [-Prod] | grind [-Prod, → sc_Jd, → sc_Pg, → sc_Pr, → sc_Pt, → sc_Tx] | grind [-Prod, I_Jd, I_Pg, I_Pr, I_Pt, I_Tx, o_bn, upd]) | (first | with_reducible exact True.intro | with_reducible assumption | grind [-Prod] | grind [-Prod, → sc_Jd, → sc_Pg, → sc_Pr, → sc_Pt, → sc_Tx] | grind [-Prod, I_Jd, I_Pg, I_Pr, I_Pt, I_Tx, o_bn, upd])
                  · refine o_okB (s_Tx_kind  h_T1) ?_
                    intro q8_133 _
                    refine o_okB (s_Kw_concerns ) ?_
                    intro q9_134 g135
                    refine o_okI (fun c136 => ?_) (fun c136 => ?_)
                    · refine o_okN (fun x7_269_137 ex7_269_137 => ?_)
                      refine o_okS ?_
                      refine ⟨fun _ => ?_, fun h => absurd rfl h⟩
                      refine ⟨?_, ?_, ?_, ?_, ?_, ?_, ?_⟩
                      · first | with_reducible exact True.intro | with_reducible assumption | grind [-Prod] | grind [-Prod, → sc_Jd, → sc_Pg, → sc_Pr, → sc_Pt, → sc_Tx] | grind [-Prod, I_Jd, I_Pg, I_Pr, I_Pt, I_Tx, o_bn, upd]
                      · first | with_reducible exact True.intro | with_reducible assumption | grind [-Prod] | grind [-Prod, → sc_Jd, → sc_Pg, → sc_Pr, → sc_Pt, → sc_Tx] | grind [-Prod, I_Jd, I_Pg, I_Pr, I_Pt, I_Tx, o_bn, upd]
                      · exact g123
                      · exact g124
                      · exact g125
                      · exact g126
                      · first | exact o_muL (by first | with_reducible exact True.intro | with_reducible assumption | grind [-Prod] | grind [-Prod, → sc_Jd, → sc_Pg, → sc_Pr, → sc_Pt, → sc_Tx] | grind [-Prod, I_Jd, I_Pg, I_Pr, I_Pt, I_Tx, o_bn, upd]) | exact o_nuL (by first | with_reducible exact True.intro | with_reducible assumption | grind [-Prod] | grind [-Prod, → sc_Jd, → sc_Pg, → sc_Pr, → sc_Pt, → sc_Tx] | grind [-Prod, I_Jd, I_Pg, I_Pr, I_Pt, I_Tx, o_bn, upd]) | (first | with_reducible exact True.intro | with_reducible assumption | grind [-Prod] | grind [-Prod, → sc_Jd, → sc_Pg, → sc_Pr, → sc_Pt, → sc_Tx] | grind [-Prod, I_Jd, I_Pg, I_Pr, I_Pt, I_Tx, o_bn, upd])
                    · refine o_okI (fun c138 => ?_) (fun c138 => ?_)
                      · refine o_okB (s_Jd_asserts  hn h_T0 h_T1 g123 g124 (by first | with_reducible exact True.intro | with_reducible assumption | grind [-Prod] | grind [-Prod, → sc_Jd, → sc_Pg, → sc_Pr, → sc_Pt, → sc_Tx] | grind [-Prod, I_Jd, I_Pg, I_Pr, I_Pt, I_Tx, o_bn, upd])) ?_
                        intro q12_139 ⟨g140, g141, g142⟩
                        unfold m_Jd_evaluate_j252
                        refine o_okI (fun c143 => ?_) (fun c143 => ?_)
                        · refine o_okB (s_Jd_tell  hn g125 g126) ?_
                          intro q11_144 g145
                          refine o_okN (fun x7_269_146 ex7_269_146 => ?_)
                          refine o_okS ?_
                          refine ⟨fun _ => ?_, fun h => absurd rfl h⟩
                          refine ⟨?_, ?_, ?_, ?_, ?_, ?_, ?_⟩
                          · first | with_reducible exact True.intro | with_reducible assumption | grind [-Prod] | grind [-Prod, → sc_Jd, → sc_Pg, → sc_Pr, → sc_Pt, → sc_Tx] | grind [-Prod, I_Jd, I_Pg, I_Pr, I_Pt, I_Tx, o_bn, upd]
                          · first | with_reducible exact True.intro | with_reducible assumption | grind [-Prod] | grind [-Prod, → sc_Jd, → sc_Pg, → sc_Pr, → sc_Pt, → sc_Tx] | grind [-Prod, I_Jd, I_Pg, I_Pr, I_Pt, I_Tx, o_bn, upd]
                          · exact g141
                          · exact g142
                          · exact g145
                          · exact g126
                          · first | exact o_muL (by first | with_reducible exact True.intro | with_reducible assumption | grind [-Prod] | grind [-Prod, → sc_Jd, → sc_Pg, → sc_Pr, → sc_Pt, → sc_Tx] | grind [-Prod, I_Jd, I_Pg, I_Pr, I_Pt, I_Tx, o_bn, upd]) | exact o_nuL (by first | with_reducible exact True.intro | with_reducible assumption | grind [-Prod] | grind [-Prod, → sc_Jd, → sc_Pg, → sc_Pr, → sc_Pt, → sc_Tx] | grind [-Prod, I_Jd, I_Pg, I_Pr, I_Pt, I_Tx, o_bn, upd]) | (first | with_reducible exact True.intro | with_reducible assumption | grind [-Prod] | grind [-Prod, → sc_Jd, → sc_Pg, → sc_Pr, → sc_Pt, → sc_Tx] | grind [-Prod, I_Jd, I_Pg, I_Pr, I_Pt, I_Tx, o_bn, upd])
                        · refine o_okN (fun x7_269_147 ex7_269_147 => ?_)
                          refine o_okS ?_
                          refine ⟨fun _ => ?_, fun h => absurd rfl h⟩
                          refine ⟨?_, ?_, ?_, ?_, ?_, ?_, ?_⟩
                          · first | with_reducible exact True.intro | with_reducible assumption | grind [-Prod] | grind [-Prod, → sc_Jd, → sc_Pg, → sc_Pr, → sc_Pt, → sc_Tx] | grind [-Prod, I_Jd, I_Pg, I_Pr, I_Pt, I_Tx, o_bn, upd]
                          · first | with_reducible exact True.intro | with_reducible assumption | grind [-Prod] | grind [-Prod, → sc_Jd, → sc_Pg, → sc_Pr, → sc_Pt, → sc_Tx] | grind [-Prod, I_Jd, I_Pg, I_Pr, I_Pt, I_Tx, o_bn, upd]
                          · exact g141
                          · exact g142
                          · exact g125
                          · exact g126
                          · first | exact o_muL (by first | with_reducible exact True.intro | with_reducible assumption | grind [-Prod] | grind [-Prod, → sc_Jd, → sc_Pg, → sc_Pr, → sc_Pt, → sc_Tx] | grind [-Prod, I_Jd, I_Pg, I_Pr, I_Pt, I_Tx, o_bn, upd]) | exact o_nuL (by first | with_reducible exact True.intro | with_reducible assumption | grind [-Prod] | grind [-Prod, → sc_Jd, → sc_Pg, → sc_Pr, → sc_Pt, → sc_Tx] | grind [-Prod, I_Jd, I_Pg, I_Pr, I_Pt, I_Tx, o_bn, upd]) | (first | with_reducible exact True.intro | with_reducible assumption | grind [-Prod] | grind [-Prod, → sc_Jd, → sc_Pg, → sc_Pr, → sc_Pt, → sc_Tx] | grind [-Prod, I_Jd, I_Pg, I_Pr, I_Pt, I_Tx, o_bn, upd])
                      · refine o_okB (s_Jd_apply  hn h_T0 h_T1 g123 g124 g125 g126 (by first | with_reducible exact True.intro | with_reducible assumption | grind [-Prod] | grind [-Prod, → sc_Jd, → sc_Pg, → sc_Pr, → sc_Pt, → sc_Tx] | grind [-Prod, I_Jd, I_Pg, I_Pr, I_Pt, I_Tx, o_bn, upd]) (by first | with_reducible exact True.intro | with_reducible assumption | grind [-Prod] | grind [-Prod, → sc_Jd, → sc_Pg, → sc_Pr, → sc_Pt, → sc_Tx] | grind [-Prod, I_Jd, I_Pg, I_Pr, I_Pt, I_Tx, o_bn, upd]) hrec) ?_
                        intro q10_148 ⟨g149, g150, g151, g152, g153⟩
                        unfold m_Jd_evaluate_j252
                        refine o_okI (fun c154 => ?_) (fun c154 => ?_)
                        · refine o_okB (s_Jd_tell  hn g152 g153) ?_
                          intro q11_155 g156
                          refine o_okN (fun x7_269_157 ex7_269_157 => ?_)
                          refine o_okS ?_
                          refine ⟨fun _ => ?_, fun h => absurd rfl h⟩
                          refine ⟨?_, ?_, ?_, ?_, ?_, ?_, ?_⟩
                          · first | with_reducible exact True.intro | with_reducible assumption | grind [-Prod] | grind [-Prod, → sc_Jd, → sc_Pg, → sc_Pr, → sc_Pt, → sc_Tx] | grind [-Prod, I_Jd, I_Pg, I_Pr, I_Pt, I_Tx, o_bn, upd]
                          · first | with_reducible exact True.intro | with_reducible assumption | grind [-Prod] | grind [-Prod, → sc_Jd, → sc_Pg, → sc_Pr, → sc_Pt, → sc_Tx] | grind [-Prod, I_Jd, I_Pg, I_Pr, I_Pt, I_Tx, o_bn, upd]
                          · exact g150
                          · exact g151
                          · exact g156
                          · exact g153
                          · first | exact o_muL (by first | with_reducible exact True.intro | with_reducible assumption | grind [-Prod] | grind [-Prod, → sc_Jd, → sc_Pg, → sc_Pr, → sc_Pt, → sc_Tx] | grind [-Prod, I_Jd, I_Pg, I_Pr, I_Pt, I_Tx, o_bn, upd]) | exact o_nuL (by first | with_reducible exact True.intro | with_reducible assumption | grind [-Prod] | grind [-Prod, → sc_Jd, → sc_Pg, → sc_Pr, → sc_Pt, → sc_Tx] | grind [-Prod, I_Jd, I_Pg, I_Pr, I_Pt, I_Tx, o_bn, upd]) | (first | with_reducible exact True.intro | with_reducible assumption | grind [-Prod] | grind [-Prod, → sc_Jd, → sc_Pg, → sc_Pr, → sc_Pt, → sc_Tx] | grind [-Prod, I_Jd, I_Pg, I_Pr, I_Pt, I_Tx, o_bn, upd])
                        · refine o_okN (fun x7_269_158 ex7_269_158 => ?_)
                          refine o_okS ?_
                          refine ⟨fun _ => ?_, fun h => absurd rfl h⟩
                          refine ⟨?_, ?_, ?_, ?_, ?_, ?_, ?_⟩
                          · first | with_reducible exact True.intro | with_reducible assumption | grind [-Prod] | grind [-Prod, → sc_Jd, → sc_Pg, → sc_Pr, → sc_Pt, → sc_Tx] | grind [-Prod, I_Jd, I_Pg, I_Pr, I_Pt, I_Tx, o_bn, upd]
                          · first | with_reducible exact True.intro | with_reducible assumption | grind [-Prod] | grind [-Prod, → sc_Jd, → sc_Pg, → sc_Pr, → sc_Pt, → sc_Tx] | grind [-Prod, I_Jd, I_Pg, I_Pr, I_Pt, I_Tx, o_bn, upd]
                          · exact g150
                          · exact g151
                          · exact g152
                          · exact g153
                          · first | exact o_muL (by first | with_reducible exact True.intro | with_reducible assumption | grind [-Prod] | grind [-Prod, → sc_Jd, → sc_Pg, → sc_Pr, → sc_Pt, → sc_Tx] | grind [-Prod, I_Jd, I_Pg, I_Pr, I_Pt, I_Tx, o_bn, upd]) | exact o_nuL (by first | with_reducible exact True.intro | with_reducible assumption | grind [-Prod] | grind [-Prod, → sc_Jd, → sc_Pg, → sc_Pr, → sc_Pt, → sc_Tx] | grind [-Prod, I_Jd, I_Pg, I_Pr, I_Pt, I_Tx, o_bn, upd]) | (first | with_reducible exact True.intro | with_reducible assumption | grind [-Prod] | grind [-Prod, → sc_Jd, → sc_Pg, → sc_Pr, → sc_Pt, → sc_Tx] | grind [-Prod, I_Jd, I_Pg, I_Pr, I_Pt, I_Tx, o_bn, upd])
                · unfold m_Jd_evaluate_j178
                  refine o_okB (s_Mk_find  hn h_T0) ?_
                  intro q14_159 _
                  refine o_okB (s_Mk_keyword ) ?_
                  intro q15_160 g161
                  refine o_okG (o_kbM (by first | with_reducible exact True.intro | with_reducible assumption | grind [-Prod] | grind [-Prod, → sc_Jd, → sc_Pg, → sc_Pr, → sc_Pt, → sc_Tx] | grind [-Prod, I_Jd, I_Pg, I_Pr, I_Pt, I_Tx, o_bn, upd])) ?_
                  unfold m_Jd_evaluate_j194
                  refine o_okI (fun c162 => ?_) (fun c162 => ?_)
                  · refine o_okN (fun x7_269_163 ex7_269_163 => ?_)
                    refine o_okS ?_
                    refine ⟨fun _ => ?_, fun h => absurd rfl h⟩
                    refine ⟨?_, ?_, ?_, ?_, ?_, ?_, ?_⟩
                    · first | with_reducible exact True.intro | with_reducible assumption | grind [-Prod] | grind [-Prod, → sc_Jd, → sc_Pg, → sc_Pr, → sc_Pt, → sc_Tx] | grind [-Prod, I_Jd, I_Pg, I_Pr, I_Pt, I_Tx, o_bn, upd]
                    · first | with_reducible exact True.intro | with_reducible assumption | grind [-Prod] | grind [-Prod, → sc_Jd, → sc_Pg, → sc_Pr, → sc_Pt, → sc_Tx] | grind [-Prod, I_Jd, I_Pg, I_Pr, I_Pt, I_Tx, o_bn, upd]
                    · exact g123
                    · exact g124
                    · exact g125
                    · exact g126
                    · first | exact o_muL (by first | with_reducible exact True.intro | with_reducible assumption | grind [-Prod] | grind [-Prod, → sc_Jd, → sc_Pg, → sc_Pr, → sc_Pt, → sc_Tx] | grind [-Prod, I_Jd, I_Pg, I_Pr, I_Pt, I_Tx, o_bn, upd]) | exact o_nuL (by first | with_reducible exact True.intro | with_reducible assumption | grind [-Prod] | grind [-Prod, → sc_Jd, → sc_Pg, → sc_Pr, → sc_Pt, → sc_Tx] | grind [-Prod, I_Jd, I_Pg, I_Pr, I_Pt, I_Tx, o_bn, upd]) | (first | with_reducible exact True.intro | with_reducible assumption | grind [-Prod] | grind [-Prod, → sc_Jd, → sc_Pg, → sc_Pr, → sc_Pt, → sc_Tx] | grind [-Prod, I_Jd, I_Pg, I_Pr, I_Pt, I_Tx, o_bn, upd])
                  · refine o_okB (s_Tx_kind  h_T1) ?_
                    intro q8_164 _
                    refine o_okB (s_Kw_concerns ) ?_
                    intro q9_165 g166
                    refine o_okI (fun c167 => ?_) (fun c167 => ?_)
                    · refine o_okN (fun x7_269_168 ex7_269_168 => ?_)
                      refine o_okS ?_
                      refine ⟨fun _ => ?_, fun h => absurd rfl h⟩
                      refine ⟨?_, ?_, ?_, ?_, ?_, ?_, ?_⟩
                      · first | with_reducible exact True.intro | with_reducible assumption | grind [-Prod] | grind [-Prod, → sc_Jd, → sc_Pg, → sc_Pr, → sc_Pt, → sc_Tx] | grind [-Prod, I_Jd, I_Pg, I_Pr, I_Pt, I_Tx, o_bn, upd]
                      · first | with_reducible exact True.intro | with_reducible assumption | grind [-Prod] | grind [-Prod, → sc_Jd, → sc_Pg, → sc_Pr, → sc_Pt, → sc_Tx] | grind [-Prod, I_Jd, I_Pg, I_Pr, I_Pt, I_Tx, o_bn, upd]
                      · exact g123
                      · exact g124
                      · exact g125
                      · exact g126
                      · first | exact o_muL (by first | with_reducible exact True.intro | with_reducible assumption | grind [-Prod] | grind [-Prod, → sc_Jd, → sc_Pg, → sc_Pr, → sc_Pt, → sc_Tx] | grind [-Prod, I_Jd, I_Pg, I_Pr, I_Pt, I_Tx, o_bn, upd]) | exact o_nuL (by first | with_reducible exact True.intro | with_reducible assumption | grind [-Prod] | grind [-Prod, → sc_Jd, → sc_Pg, → sc_Pr, → sc_Pt, → sc_Tx] | grind [-Prod, I_Jd, I_Pg, I_Pr, I_Pt, I_Tx, o_bn, upd]) | (first | with_reducible exact True.intro | with_reducible assumption | grind [-Prod] | grind [-Prod, → sc_Jd, → sc_Pg, → sc_Pr, → sc_Pt, → sc_Tx] | grind [-Prod, I_Jd, I_Pg, I_Pr, I_Pt, I_Tx, o_bn, upd])
                    · refine o_okI (fun c169 => ?_) (fun c169 => ?_)
                      · refine o_okB (s_Jd_asserts  hn h_T0 h_T1 g123 g124 (by first | with_reducible exact True.intro | with_reducible assumption | grind [-Prod] | grind [-Prod, → sc_Jd, → sc_Pg, → sc_Pr, → sc_Pt, → sc_Tx] | grind [-Prod, I_Jd, I_Pg, I_Pr, I_Pt, I_Tx, o_bn, upd])) ?_
                        intro q12_170 ⟨g171, g172, g173⟩
                        unfold m_Jd_evaluate_j252
                        refine o_okI (fun c174 => ?_) (fun c174 => ?_)
                        · refine o_okB (s_Jd_tell  hn g125 g126) ?_
                          intro q11_175 g176
                          refine o_okN (fun x7_269_177 ex7_269_177 => ?_)
                          refine o_okS ?_
                          refine ⟨fun _ => ?_, fun h => absurd rfl h⟩
                          refine ⟨?_, ?_, ?_, ?_, ?_, ?_, ?_⟩
                          · first | with_reducible exact True.intro | with_reducible assumption | grind [-Prod] | grind [-Prod, → sc_Jd, → sc_Pg, → sc_Pr, → sc_Pt, → sc_Tx] | grind [-Prod, I_Jd, I_Pg, I_Pr, I_Pt, I_Tx, o_bn, upd]
                          · first | with_reducible exact True.intro | with_reducible assumption | grind [-Prod] | grind [-Prod, → sc_Jd, → sc_Pg, → sc_Pr, → sc_Pt, → sc_Tx] | grind [-Prod, I_Jd, I_Pg, I_Pr, I_Pt, I_Tx, o_bn, upd]
                          · exact g172
                          · exact g173
                          · exact g176
                          · exact g126
                          · first | exact o_muL (by first | with_reducible exact True.intro | with_reducible assumption | grind [-Prod] | grind [-Prod, → sc_Jd, → sc_Pg, → sc_Pr, → sc_Pt, → sc_Tx] | grind [-Prod, I_Jd, I_Pg, I_Pr, I_Pt, I_Tx, o_bn, upd]) | exact o_nuL (by first | with_reducible exact True.intro | with_reducible assumption | grind [-Prod] | grind [-Prod, → sc_Jd, → sc_Pg, → sc_Pr, → sc_Pt, → sc_Tx] | grind [-Prod, I_Jd, I_Pg, I_Pr, I_Pt, I_Tx, o_bn, upd]) | (first | with_reducible exact True.intro | with_reducible assumption | grind [-Prod] | grind [-Prod, → sc_Jd, → sc_Pg, → sc_Pr, → sc_Pt, → sc_Tx] | grind [-Prod, I_Jd, I_Pg, I_Pr, I_Pt, I_Tx, o_bn, upd])
                        · refine o_okN (fun x7_269_178 ex7_269_178 => ?_)
                          refine o_okS ?_
                          refine ⟨fun _ => ?_, fun h => absurd rfl h⟩
                          refine ⟨?_, ?_, ?_, ?_, ?_, ?_, ?_⟩
                          · first | with_reducible exact True.intro | with_reducible assumption | grind [-Prod] | grind [-Prod, → sc_Jd, → sc_Pg, → sc_Pr, → sc_Pt, → sc_Tx] | grind [-Prod, I_Jd, I_Pg, I_Pr, I_Pt, I_Tx, o_bn, upd]
                          · first | with_reducible exact True.intro | with_reducible assumption | grind [-Prod] | grind [-Prod, → sc_Jd, → sc_Pg, → sc_Pr, → sc_Pt, → sc_Tx] | grind [-Prod, I_Jd, I_Pg, I_Pr, I_Pt, I_Tx, o_bn, upd]
                          · exact g172
                          · exact g173
                          · exact g125
                          · exact g126
                          · first | exact o_muL (by first | with_reducible exact True.intro | with_reducible assumption | grind [-Prod] | grind [-Prod, → sc_Jd, → sc_Pg, → sc_Pr, → sc_Pt, → sc_Tx] | grind [-Prod, I_Jd, I_Pg, I_Pr, I_Pt, I_Tx, o_bn, upd]) | exact o_nuL (by first | with_reducible exact True.intro | with_reducible assumption | grind [-Prod] | grind [-Prod, → sc_Jd, → sc_Pg, → sc_Pr, → sc_Pt, → sc_Tx] | grind [-Prod, I_Jd, I_Pg, I_Pr, I_Pt, I_Tx, o_bn, upd]) | (first | with_reducible exact True.intro | with_reducible assumption | grind [-Prod] | grind [-Prod, → sc_Jd, → sc_Pg, → sc_Pr, → sc_Pt, → sc_Tx] | grind [-Prod, I_Jd, I_Pg, I_Pr, I_Pt, I_Tx, o_bn, upd])
                      · refine o_okB (s_Jd_apply  hn h_T0 h_T1 g123 g124 g125 g126 (by first | with_reducible exact True.intro | with_reducible assumption | grind [-Prod] | grind [-Prod, → sc_Jd, → sc_Pg, → sc_Pr, → sc_Pt, → sc_Tx] | grind [-Prod, I_Jd, I_Pg, I_Pr, I_Pt, I_Tx, o_bn, upd]) (by first | with_reducible exact True.intro | with_reducible assumption | grind [-Prod] | grind [-Prod, → sc_Jd, → sc_Pg, → sc_Pr, → sc_Pt, → sc_Tx] | grind [-Prod, I_Jd, I_Pg, I_Pr, I_Pt, I_Tx, o_bn, upd]) hrec) ?_
                        intro q10_179 ⟨g180, g181, g182, g183, g184⟩
                        unfold m_Jd_evaluate_j252
                        refine o_okI (fun c185 => ?_) (fun c185 => ?_)
                        · refine o_okB (s_Jd_tell  hn g183 g184) ?_
                          intro q11_186 g187
                          refine o_okN (fun x7_269_188 ex7_269_188 => ?_)
                          refine o_okS ?_
                          refine ⟨fun _ => ?_, fun h => absurd rfl h⟩
                          refine ⟨?_, ?_, ?_, ?_, ?_, ?_, ?_⟩
                          · first | with_reducible exact True.intro | with_reducible assumption | grind [-Prod] | grind [-Prod, → sc_Jd, → sc_Pg, → sc_Pr, → sc_Pt, → sc_Tx] | grind [-Prod, I_Jd, I_Pg, I_Pr, I_Pt, I_Tx, o_bn, upd]
                          · first | with_reducible exact True.intro | with_reducible assumption | grind [-Prod] | grind [-Prod, → sc_Jd, → sc_Pg, → sc_Pr, → sc_Pt, → sc_Tx] | grind [-Prod, I_Jd, I_Pg, I_Pr, I_Pt, I_Tx, o_bn, upd]
                          · exact g181
                          · exact g182
                          · exact g187
                          · exact g184
                          · first | exact o_muL (by first | with_reducible exact True.intro | with_reducible assumption | grind [-Prod] | grind [-Prod, → sc_Jd, → sc_Pg, → sc_Pr, → sc_Pt, → sc_Tx] | grind [-Prod, I_Jd, I_Pg, I_Pr, I_Pt, I_Tx, o_bn, upd]) | exact o_nuL (by first | with_reducible exact True.intro | with_reducible assumption | grind [-Prod] | grind [-Prod, → sc_Jd, → sc_Pg, → sc_Pr, → sc_Pt, → sc_Tx] | grind [-Prod, I_Jd, I_Pg, I_Pr, I_Pt, I_Tx, o_bn, upd]) | (first | with_reducible exact True.intro | with_reducible assumption | grind [-Prod] | grind [-Prod, → sc_Jd, → sc_Pg, → sc_Pr, → sc_Pt, → sc_Tx] | grind [-Prod, I_Jd, I_Pg, I_Pr, I_Pt, I_Tx, o_bn, upd])
                        · refine o_okN (fun x7_269_189 ex7_269_189 => ?_)
                          refine o_okS ?_
                          refine ⟨fun _ => ?_, fun h => absurd rfl h⟩
                          refine ⟨?_, ?_, ?_, ?_, ?_, ?_, ?_⟩
                          · first | with_reducible exact True.intro | with_reducible assumption | grind [-Prod] | grind [-Prod, → sc_Jd, → sc_Pg, → sc_Pr, → sc_Pt, → sc_Tx] | grind [-Prod, I_Jd, I_Pg, I_Pr, I_Pt, I_Tx, o_bn, upd]
                          · first | with_reducible exact True.intro | with_reducible assumption | grind [-Prod] | grind [-Prod, → sc_Jd, → sc_Pg, → sc_Pr, → sc_Pt, → sc_Tx] | grind [-Prod, I_Jd, I_Pg, I_Pr, I_Pt, I_Tx, o_bn, upd]
                          · exact g181
                          · exact g182
                          · exact g183
                          · exact g184
                          · first | exact o_muL (by first | with_reducible exact True.intro | with_reducible assumption | grind [-Prod] | grind [-Prod, → sc_Jd, → sc_Pg, → sc_Pr, → sc_Pt, → sc_Tx] | grind [-Prod, I_Jd, I_Pg, I_Pr, I_Pt, I_Tx, o_bn, upd]) | exact o_nuL (by first | with_reducible exact True.intro | with_reducible assumption | grind [-Prod] | grind [-Prod, → sc_Jd, → sc_Pg, → sc_Pr, → sc_Pt, → sc_Tx] | grind [-Prod, I_Jd, I_Pg, I_Pr, I_Pt, I_Tx, o_bn, upd]) | (first | with_reducible exact True.intro | with_reducible assumption | grind [-Prod] | grind [-Prod, → sc_Jd, → sc_Pg, → sc_Pr, → sc_Pt, → sc_Tx] | grind [-Prod, I_Jd, I_Pg, I_Pr, I_Pt, I_Tx, o_bn, upd])
              · unfold m_Jd_evaluate_j194
                refine o_okI (fun c190 => ?_) (fun c190 => ?_)
                · refine o_okN (fun x7_269_191 ex7_269_191 => ?_)
                  refine o_okS ?_
                  refine ⟨fun _ => ?_, fun h => absurd rfl h⟩
                  refine ⟨?_, ?_, ?_, ?_, ?_, ?_, ?_⟩
                  · first | with_reducible exact True.intro | with_reducible assumption | grind [-Prod] | grind [-Prod, → sc_Jd, → sc_Pg, → sc_Pr, → sc_Pt, → sc_Tx] | grind [-Prod, I_Jd, I_Pg, I_Pr, I_Pt, I_Tx, o_bn, upd]
                  · first | with_reducible exact True.intro | with_reducible assumption | grind [-Prod] | grind [-Prod, → sc_Jd, → sc_Pg, → sc_Pr, → sc_Pt, → sc_Tx] | grind [-Prod, I_Jd, I_Pg, I_Pr, I_Pt, I_Tx, o_bn, upd]
                  · exact l2
                  · exact l3
                  · exact l4
                  · exact l5
                  · first | exact o_muL (by first | with_reducible exact True.intro | with_reducible assumption | grind [-Prod] | grind [-Prod, → sc_Jd, → sc_Pg, → sc_Pr, → sc_Pt, → sc_Tx] | grind [-Prod, I_Jd, I_Pg, I_Pr, I_Pt, I_Tx, o_bn, upd]) | exact o_nuL (by first | with_reducible exact True.intro | with_reducible assumption | grind [-Prod] | grind [-Prod, → sc_Jd, → sc_Pg, → sc_Pr, → sc_Pt, → sc_Tx] | grind [-Prod, I_Jd, I_Pg, I_Pr, I_Pt, I_Tx, o_bn, upd]) | (first | with_reducible exact True.intro | with_reducible assumption | grind [-Prod] | grind [-Prod, → sc_Jd, → sc_Pg, → sc_Pr, → sc_Pt, → sc_Tx] | grind [-Prod, I_Jd, I_Pg, I_Pr, I_Pt, I_Tx, o_bn, upd])
                · refine o_okB (s_Tx_kind  h_T1) ?_
                  intro q8_192 _
                  refine o_okB (s_Kw_concerns ) ?_
                  intro q9_193 g194
                  refine o_okI (fun c195 => ?_) (fun c195 => ?_)
                  · refine o_okN (fun x7_269_196 ex7_269_196 => ?_)
                    refine o_okS ?_
                    refine ⟨fun _ => ?_, fun h => absurd rfl h⟩
                    refine ⟨?_, ?_, ?_, ?_, ?_, ?_, ?_⟩
                    · first | with_reducible exact True.intro | with_reducible assumption | grind [-Prod] | grind [-Prod, → sc_Jd, → sc_Pg, → sc_Pr, → sc_Pt, → sc_Tx] | grind [-Prod, I_Jd, I_Pg, I_Pr, I_Pt, I_Tx, o_bn, upd]
                    · first | with_reducible exact True.intro | with_reducible assumption | grind [-Prod] | grind [-Prod, → sc_Jd, → sc_Pg, → sc_Pr, → sc_Pt, → sc_Tx] | grind [-Prod, I_Jd, I_Pg, I_Pr, I_Pt, I_Tx, o_bn, upd]
                    · exact l2
                    · exact l3
                    · exact l4
                    · exact l5
                    · first | exact o_muL (by first | with_reducible exact True.intro | with_reducible assumption | grind [-Prod] | grind [-Prod, → sc_Jd, → sc_Pg, → sc_Pr, → sc_Pt, → sc_Tx] | grind [-Prod, I_Jd, I_Pg, I_Pr, I_Pt, I_Tx, o_bn, upd]) | exact o_nuL (by first | with_reducible exact True.intro | with_reducible assumption | grind [-Prod] | grind [-Prod, → sc_Jd, → sc_Pg, → sc_Pr, → sc_Pt, → sc_Tx] | grind [-Prod, I_Jd, I_Pg, I_Pr, I_Pt, I_Tx, o_bn, upd]) | (first | with_reducible exact True.intro | with_reducible assumption | grind [-Prod] | grind [-Prod, → sc_Jd, → sc_Pg, → sc_Pr, → sc_Pt, → sc_Tx] | grind [-Prod, I_Jd, I_Pg, I_Pr, I_Pt, I_Tx, o_bn, upd])
                  · refine o_okI (fun c197 => ?_) (fun c197 => ?_)
                    · refine o_okB (s_Jd_asserts  hn h_T0 h_T1 l2 l3 (by first | with_reducible exact True.intro | with_reducible assumption | grind [-Prod] | grind [-Prod, → sc_Jd, → sc_Pg, → sc_Pr, → sc_Pt, → sc_Tx] | grind [-Prod, I_Jd, I_Pg, I_Pr, I_Pt, I_Tx, o_bn, upd])) ?_
                      intro q12_198 ⟨g199, g200, g201⟩
                      unfold m_Jd_evaluate_j252
                      refine o_okI (fun c202 => ?_) (fun c202 => ?_)
                      · refine o_okB (s_Jd_tell  hn l4 l5) ?_
                        intro q11_203 g204
                        refine o_okN (fun x7_269_205 ex7_269_205 => ?_)
                        refine o_okS ?_
                        refine ⟨fun _ => ?_, fun h => absurd rfl h⟩
                        refine ⟨?_, ?_, ?_, ?_, ?_, ?_, ?_⟩
                        · first | with_reducible exact True.intro | with_reducible assumption | grind [-Prod] | grind [-Prod, → sc_Jd, → sc_Pg, → sc_Pr, → sc_Pt, → sc_Tx] | grind [-Prod, I_Jd, I_Pg, I_Pr, I_Pt, I_Tx, o_bn, upd]
                        · first | with_reducible exact True.intro | with_reducible assumption | grind [-Prod] | grind [-Prod, → sc_Jd, → sc_Pg, → sc_Pr, → sc_Pt, → sc_Tx] | grind [-Prod, I_Jd, I_Pg, I_Pr, I_Pt, I_Tx, o_bn, upd]
                        · exact g200
                        · exact g201
                        · exact g204
                        · exact l5
                        · first | exact o_muL (by first | with_reducible exact True.intro | with_reducible assumption | grind [-Prod] | grind [-Prod, → sc_Jd, → sc_Pg, → sc_Pr, → sc_Pt, → sc_Tx] | grind [-Prod, I_Jd, I_Pg, I_Pr, I_Pt, I_Tx, o_bn, upd]) | exact o_nuL (by first | with_reducible exact True.intro | with_reducible assumption | grind [-Prod] | grind [-Prod, → sc_Jd, → sc_Pg, → sc_Pr, → sc_Pt, → sc_Tx] | grind [-Prod, I_Jd, I_Pg, I_Pr, I_Pt, I_Tx, o_bn, upd]) | (first | with_reducible exact True.intro | with_reducible assumption | grind [-Prod] | grind [-Prod, → sc_Jd, → sc_Pg, → sc_Pr, → sc_Pt, → sc_Tx] | grind [-Prod, I_Jd, I_Pg, I_Pr, I_Pt, I_Tx, o_bn, upd])
                      · refine o_okN (fun x7_269_206 ex7_269_206 => ?_)
                        refine o_okS ?_
                        refine ⟨fun _ => ?_, fun h => absurd rfl h⟩
                        refine ⟨?_, ?_, ?_, ?_, ?_, ?_, ?_⟩
                        · first | with_reducible exact True.intro | with_reducible assumption | grind [-Prod] | grind [-Prod, → sc_Jd, → sc_Pg, → sc_Pr, → sc_Pt, → sc_Tx] | grind [-Prod, I_Jd, I_Pg, I_Pr, I_Pt, I_Tx, o_bn, upd]
                        · first | with_reducible exact True.intro | with_reducible assumption | grind [-Prod] | grind [-Prod, → sc_Jd, → sc_Pg, → sc_Pr, → sc_Pt, → sc_Tx] | grind [-Prod, I_Jd, I_Pg, I_Pr, I_Pt, I_Tx, o_bn, upd]
                        · exact g200
                        · exact g201
                        · exact l4
                        · exact l5
                        · first | exact o_muL (by first | with_reducible exact True.intro | with_reducible assumption | grind [-Prod] | grind [-Prod, → sc_Jd, → sc_Pg, → sc_Pr, → sc_Pt, → sc_Tx] | grind [-Prod, I_Jd, I_Pg, I_Pr, I_Pt, I_Tx, o_bn, upd]) | exact o_nuL (by first | with_reducible exact True.intro | with_reducible assumption | grind [-Prod] | grind [-Prod, → sc_Jd, → sc_Pg, → sc_Pr, → sc_Pt, → sc_Tx] | grind [-Prod, I_Jd, I_Pg, I_Pr, I_Pt, I_Tx, o_bn, upd]) | (first | with_reducible exact True.intro | with_reducible assumption | grind [-Prod] | grind [-Prod, → sc_Jd, → sc_Pg, → sc_Pr, → sc_Pt, → sc_Tx] | grind [-Prod, I_Jd, I_Pg, I_Pr, I_Pt, I_Tx, o_bn, upd])
                    · refine o_okB (s_Jd_apply  hn h_T0 h_T1 l2 l3 l4 l5 (by first | with_reducible exact True.intro | with_reducible assumption | grind [-Prod] | grind [-Prod, → sc_Jd, → sc_Pg, → sc_Pr, → sc_Pt, → sc_Tx] | grind [-Prod, I_Jd, I_Pg, I_Pr, I_Pt, I_Tx, o_bn, upd]) (by first | with_reducible exact True.intro | with_reducible assumption | grind [-Prod] | grind [-Prod, → sc_Jd, → sc_Pg, → sc_Pr, → sc_Pt, → sc_Tx] | grind [-Prod, I_Jd, I_Pg, I_Pr, I_Pt, I_Tx, o_bn, upd]) hrec) ?_
                      intro q10_207 ⟨g208, g209, g210, g211, g212⟩
                      unfold m_Jd_evaluate_j252
                      refine o_okI (fun c213 => ?_) (fun c213 => ?_)
                      · refine o_okB (s_Jd_tell  hn g211 g212) ?_
                        intro q11_214 g215
                        refine o_okN (fun x7_269_216 ex7_269_216 => ?_)
                        refine o_okS ?_
                        refine ⟨fun _ => ?_, fun h => absurd rfl h⟩
                        refine ⟨?_, ?_, ?_, ?_, ?_, ?_, ?_⟩
                        · first | with_reducible exact True.intro | with_reducible assumption | grind [-Prod] | grind [-Prod, → sc_Jd, → sc_Pg, → sc_Pr, → sc_Pt, → sc_Tx] | grind [-Prod, I_Jd, I_Pg, I_Pr, I_Pt, I_Tx, o_bn, upd]
                        · first | with_reducible exact True.intro | with_reducible assumption | grind [-Prod] | grind [-Prod, → sc_Jd, → sc_Pg, → sc_Pr, → sc_Pt, → sc_Tx] | grind [-Prod, I_Jd, I_Pg, I_Pr, I_Pt, I_Tx, o_bn, upd]
                        · exact g209
                        · exact g210
                        · exact g215
                        · exact g212
                        · first | exact o_muL (by first | with_reducible exact True.intro | with_reducible assumption | grind [-Prod] | grind [-Prod, → sc_Jd, → sc_Pg, → sc_Pr, → sc_Pt, → sc_Tx] | grind [-Prod, I_Jd, I_Pg, I_Pr, I_Pt, I_Tx, o_bn, upd]) | exact o_nuL (by first | with_reducible exact True.intro | with_reducible assumption | grind [-Prod] | grind [-Prod, → sc_Jd, → sc_Pg, → sc_Pr, → sc_Pt, → sc_Tx] | grind [-Prod, I_Jd, I_Pg, I_Pr, I_Pt, I_Tx, o_bn, upd]) | (first | with_reducible exact True.intro | with_reducible assumption | grind [-Prod] | grind [-Prod, → sc_Jd, → sc_Pg, → sc_Pr, → sc_Pt, → sc_Tx] | grind [-Prod, I_Jd, I_Pg, I_Pr, I_Pt, I_Tx, o_bn, upd])
                      · refine o_okN (fun x7_269_217 ex7_269_217 => ?_)
                        refine o_okS ?_
                        refine ⟨fun _ => ?_, fun h => absurd rfl h⟩
                        refine ⟨?_, ?_, ?_, ?_, ?_, ?_, ?_⟩
                        · first | with_reducible exact True.intro | with_reducible assumption | grind [-Prod] | grind [-Prod, → sc_Jd, → sc_Pg, → sc_Pr, → sc_Pt, → sc_Tx] | grind [-Prod, I_Jd, I_Pg, I_Pr, I_Pt, I_Tx, o_bn, upd]
                        · first | with_reducible exact True.intro | with_reducible assumption | grind [-Prod] | grind [-Prod, → sc_Jd, → sc_Pg, → sc_Pr, → sc_Pt, → sc_Tx] | grind [-Prod, I_Jd, I_Pg, I_Pr, I_Pt, I_Tx, o_bn, upd]
                        · exact g209
                        · exact g210
                        · exact g211
                        · exact g212
                        · first | exact o_muL (by first | with_reducible exact True.intro | with_reducible assumption | grind [-Prod] | grind [-Prod, → sc_Jd, → sc_Pg, → sc_Pr, → sc_Pt, → sc_Tx] | grind [-Prod, I_Jd, I_Pg, I_Pr, I_Pt, I_Tx, o_bn, upd]) | exact o_nuL (by first | with_reducible exact True.intro | with_reducible assumption | grind [-Prod] | grind [-Prod, → sc_Jd, → sc_Pg, → sc_Pr, → sc_Pt, → sc_Tx] | grind [-Prod, I_Jd, I_Pg, I_Pr, I_Pt, I_Tx, o_bn, upd]) | (first | with_reducible exact True.intro | with_reducible assumption | grind [-Prod] | grind [-Prod, → sc_Jd, → sc_Pg, → sc_Pr, → sc_Pt, → sc_Tx] | grind [-Prod, I_Jd, I_Pg, I_Pr, I_Pt, I_Tx, o_bn, upd])
        · refine o_okN (fun x7_269_218 ex7_269_218 => ?_)
          refine o_okS ?_
          refine ⟨fun _ => ?_, fun h => absurd rfl h⟩
          refine ⟨?_, ?_, ?_, ?_, ?_, ?_, ?_⟩
          · first | with_reducible exact True.intro | with_reducible assumption | grind [-Prod] | grind [-Prod, → sc_Jd, → sc_Pg, → sc_Pr, → sc_Pt, → sc_Tx] | grind [-Prod, I_Jd, I_Pg, I_Pr, I_Pt, I_Tx, o_bn, upd]
          · first | with_reducible exact True.intro | with_reducible assumption | grind [-Prod] | grind [-Prod, → sc_Jd, → sc_Pg, → sc_Pr, → sc_Pt, → sc_Tx] | grind [-Prod, I_Jd, I_Pg, I_Pr, I_Pt, I_Tx, o_bn, upd]
          · exact l2
          · exact l3
          · exact l4
          · exact l5
          · first | exact o_muL (by first | with_reducible exact True.intro | with_reducible assumption | grind [-Prod] | grind [-Prod, → sc_Jd, → sc_Pg, → sc_Pr, → sc_Pt, → sc_Tx] | grind [-Prod, I_Jd, I_Pg, I_Pr, I_Pt, I_Tx, o_bn, upd]) | exact o_nuL (by first | with_reducible exact True.intro | with_reducible assumption | grind [-Prod] | grind [-Prod, → sc_Jd, → sc_Pg, → sc_Pr, → sc_Pt, → sc_Tx] | grind [-Prod, I_Jd, I_Pg, I_Pr, I_Pt, I_Tx, o_bn, upd]) | (first | with_reducible exact True.intro | with_reducible assumption | grind [-Prod] | grind [-Prod, → sc_Jd, → sc_Pg, → sc_Pr, → sc_Pt, → sc_Tx] | grind [-Prod, I_Jd, I_Pg, I_Pr, I_Pt, I_Tx, o_bn, upd])
    · refine o_okS ?_
      refine ⟨fun h => absurd (show (1 : Nat) = 0 from h) (by decide), fun _ => ?_⟩
      refine ⟨?_, ?_, ?_, ?_, ?_⟩
      · first | with_reducible exact True.intro | with_reducible assumption | grind [-Prod] | grind [-Prod, → sc_Jd, → sc_Pg, → sc_Pr, → sc_Pt, → sc_Tx] | grind [-Prod, I_Jd, I_Pg, I_Pr, I_Pt, I_Tx, o_bn, upd]
      · exact l2
      · exact l3
      · exact l4
      · exact l5
theorem l_Jd_evaluate_b55 {n : Nat} {rec : Int32 → Int32 → Int32 → STx → STx → SPg → SPt → SMk → SLd → SPr → SJd → Option (Int32 × SPg × SPt × SLd × SPr × SJd)} {x1 : Int32} {x2 : Int32} {x3 : Int32} {x5 : Int32} {T0 : STx} {T1 : STx} {Mk : SMk} {z : Int32 × Int32 × Int32 × SPg × SPt × SLd × SPr × SJd} (hn : o_big ≤ n) (h_T0 : I_Tx T0) (h_T1 : I_Tx T1) (p0 : x3 ≤ 100) (hrec : ∀ (v0 v1 : Int32) (T0 T1 : STx) (Pg : SPg) (Pt : SPt) (Mk : SMk) (Ld : SLd) (Pr : SPr) (Jd : SJd), I_Tx T0 → I_Tx T1 → I_Pg Pg → I_Pt Pt → I_Pr Pr → I_Jd Jd → o_ok (rec v0 v1 (x3 + 1) T0 T1 Pg Pt Mk Ld Pr Jd) (fun r => (r.1 = 0 ∨ r.1 = 1) ∧ I_Pg r.2.1 ∧ I_Pt r.2.2.1 ∧ I_Pr r.2.2.2.2.1 ∧ I_Jd r.2.2.2.2.2)) (l0 : (z.1 = 0 ∨ z.1 = 1)) (l1 : 0 ≤ z.2.2.1) (l2 : I_Pg z.2.2.2.1) (l3 : I_Pt z.2.2.2.2.1) (l4 : I_Pr z.2.2.2.2.2.2.1) (l5 : I_Jd z.2.2.2.2.2.2.2) : o_ok (o_lp n (m_Jd_evaluate_b55 n rec x1 x2 x3 x5 T0 T1 Mk) z) (fun q => q.1 ≠ 0 ∧ (q.2.1 = 0 ∨ q.2.1 = 1) ∧ I_Pg q.2.2.2.2.1 ∧ I_Pt q.2.2.2.2.2.1 ∧ I_Pr q.2.2.2.2.2.2.2.1 ∧ I_Jd q.2.2.2.2.2.2.2.2) := by
  exact o_lpR (fun z => (z.1 = 0 ∨ z.1 = 1) ∧ 0 ≤ z.2.2.1 ∧ I_Pg z.2.2.2.1 ∧ I_Pt z.2.2.2.2.1 ∧ I_Pr z.2.2.2.2.2.2.1 ∧ I_Jd z.2.2.2.2.2.2.2) (fun z => o_mu z.2.2.1) hn (o_muB) ⟨l0, l1, l2, l3, l4, l5⟩
    (fun z hz => by obtain ⟨l0, l1, l2, l3, l4, l5⟩ := hz; exact o_okW (s_Jd_evaluate_b55 hn h_T0 h_T1 p0 hrec l0 l1 l2 l3 l4 l5) (fun q hq => ⟨fun h => by have := hq.1 h; grind, hq.2⟩))
theorem s_Jd_evaluate_b36 {n : Nat} {rec : Int32 → Int32 → Int32 → STx → STx → SPg → SPt → SMk → SLd → SPr → SJd → Option (Int32 × SPg × SPt × SLd × SPr × SJd)} {x1 : Int32} {x2 : Int32} {x3 : Int32} {T0 : STx} {T1 : STx} {Mk : SMk} {z : Int32 × Int32 × SPg × SPt × SLd × SPr × SJd} (hn : o_big ≤ n) (h_T0 : I_Tx T0) (h_T1 : I_Tx T1) (p0 : x3 ≤ 100) (hrec : ∀ (v0 v1 : Int32) (T0 T1 : STx) (Pg : SPg) (Pt : SPt) (Mk : SMk) (Ld : SLd) (Pr : SPr) (Jd : SJd), I_Tx T0 → I_Tx T1 → I_Pg Pg → I_Pt Pt → I_Pr Pr → I_Jd Jd → o_ok (rec v0 v1 (x3 + 1) T0 T1 Pg Pt Mk Ld Pr Jd) (fun r => (r.1 = 0 ∨ r.1 = 1) ∧ I_Pg r.2.1 ∧ I_Pt r.2.2.1 ∧ I_Pr r.2.2.2.2.1 ∧ I_Jd r.2.2.2.2.2)) (l0 : (z.1 = 0 ∨ z.1 = 1)) (l1 : 0 ≤ z.2.1) (l2 : I_Pg z.2.2.1) (l3 : I_Pt z.2.2.2.1) (l4 : I_Pr z.2.2.2.2.2.1) (l5 : I_Jd z.2.2.2.2.2.2) : o_ok (m_Jd_evaluate_b36 n rec x1 x2 x3 T0 T1 Mk z) (fun q => (q.1 = 0 → (q.2.1 = 0 ∨ q.2.1 = 1) ∧ 0 ≤ q.2.2.1 ∧ I_Pg q.2.2.2.1 ∧ I_Pt q.2.2.2.2.1 ∧ I_Pr q.2.2.2.2.2.2.1 ∧ I_Jd q.2.2.2.2.2.2.2 ∧ o_mu q.2.2.1 < o_mu z.2.1) ∧ (q.1 ≠ 0 → (q.2.1 = 0 ∨ q.2.1 = 1) ∧ I_Pg q.2.2.2.1 ∧ I_Pt q.2.2.2.2.1 ∧ I_Pr q.2.2.2.2.2.2.1 ∧ I_Jd q.2.2.2.2.2.2.2)) := by
  unfold m_Jd_evaluate_b36
  refine o_okI (fun c1 => ?_) (fun c1 => ?_)
  · refine o_okS ?_
    refine ⟨fun h => absurd (show (1 : Nat) = 0 from h) (by decide), fun _ => ?_⟩
    refine ⟨?_, ?_, ?_, ?_, ?_⟩
    · first | with_reducible exact True.intro | with_reducible assumption | grind [-Prod] | grind [-Prod, → sc_Jd, → sc_Pg, → sc_Pr, → sc_Pt, → sc_Tx] | grind [-Prod, I_Jd, I_Pg, I_Pr, I_Pt, I_Tx, o_bn, upd]
    · exact l2
    · exact l3
    · exact l4
    · exact l5
  · refine o_okB (s_Tx_firstChild  h_T0) ?_
    intro q3_2 _
    refine o_okB (l_Jd_evaluate_b55  hn h_T0 h_T1 (by first | with_reducible exact True.intro | with_reducible assumption | grind [-Prod] | grind [-Prod, → sc_Jd, → sc_Pg, → sc_Pr, → sc_Pt, → sc_Tx] | grind [-Prod, I_Jd, I_Pg, I_Pr, I_Pt, I_Tx, o_bn, upd]) hrec (by first | with_reducible exact True.intro | with_reducible assumption | grind [-Prod] | grind [-Prod, → sc_Jd, → sc_Pg, → sc_Pr, → sc_Pt, → sc_Tx] | grind [-Prod, I_Jd, I_Pg, I_Pr, I_Pt, I_Tx, o_bn, upd]) (by first | with_reducible exact True.intro | with_reducible assumption | grind [-Prod] | grind [-Prod, → sc_Jd, → sc_Pg, → sc_Pr, → sc_Pt, → sc_Tx] | grind [-Prod, I_Jd, I_Pg, I_Pr, I_Pt, I_Tx, o_bn, upd]) l2 l3 l4 l5) ?_
    intro q16_3 ⟨yq16_3, g4, g5, g6, g7, g8⟩
    refine o_okN (fun x5_275_9 ex5_275_9 => ?_)
    refine o_okS ?_
    refine ⟨fun _ => ?_, fun h => absurd rfl h⟩
    refine ⟨?_, ?_, ?_, ?_, ?_, ?_, ?_⟩
    · first | with_reducible exact True.intro | with_reducible assumption | grind [-Prod] | grind [-Prod, → sc_Jd, → sc_Pg, → sc_Pr, → sc_Pt, → sc_Tx] | grind [-Prod, I_Jd, I_Pg, I_Pr, I_Pt, I_Tx, o_bn, upd]
    · first | with_reducible exact True.intro | with_reducible assumption | grind [-Prod] | grind [-Prod, → sc_Jd, → sc_Pg, → sc_Pr, → sc_Pt, → sc_Tx] | grind [-Prod, I_Jd, I_Pg, I_Pr, I_Pt, I_Tx, o_bn, upd]
    · exact g5
    · exact g6
    · exact g7
    · exact g8
    · first | exact o_muL (by first | with_reducible exact True.intro | with_reducible assumption | grind [-Prod] | grind [-Prod, → sc_Jd, → sc_Pg, → sc_Pr, → sc_Pt, → sc_Tx] | grind [-Prod, I_Jd, I_Pg, I_Pr, I_Pt, I_Tx, o_bn, upd]) | exact o_nuL (by first | with_reducible exact True.intro | with_reducible assumption | grind [-Prod] | grind [-Prod, → sc_Jd, → sc_Pg, → sc_Pr, → sc_Pt, → sc_Tx] | grind [-Prod, I_Jd, I_Pg, I_Pr, I_Pt, I_Tx, o_bn, upd]) | (first | with_reducible exact True.intro | with_reducible assumption | grind [-Prod] | grind [-Prod, → sc_Jd, → sc_Pg, → sc_Pr, → sc_Pt, → sc_Tx] | grind [-Prod, I_Jd, I_Pg, I_Pr, I_Pt, I_Tx, o_bn, upd])
theorem l_Jd_evaluate_b36 {n : Nat} {rec : Int32 → Int32 → Int32 → STx → STx → SPg → SPt → SMk → SLd → SPr → SJd → Option (Int32 × SPg × SPt × SLd × SPr × SJd)} {x1 : Int32} {x2 : Int32} {x3 : Int32} {T0 : STx} {T1 : STx} {Mk : SMk} {z : Int32 × Int32 × SPg × SPt × SLd × SPr × SJd} (hn : o_big ≤ n) (h_T0 : I_Tx T0) (h_T1 : I_Tx T1) (p0 : x3 ≤ 100) (hrec : ∀ (v0 v1 : Int32) (T0 T1 : STx) (Pg : SPg) (Pt : SPt) (Mk : SMk) (Ld : SLd) (Pr : SPr) (Jd : SJd), I_Tx T0 → I_Tx T1 → I_Pg Pg → I_Pt Pt → I_Pr Pr → I_Jd Jd → o_ok (rec v0 v1 (x3 + 1) T0 T1 Pg Pt Mk Ld Pr Jd) (fun r => (r.1 = 0 ∨ r.1 = 1) ∧ I_Pg r.2.1 ∧ I_Pt r.2.2.1 ∧ I_Pr r.2.2.2.2.1 ∧ I_Jd r.2.2.2.2.2)) (l0 : (z.1 = 0 ∨ z.1 = 1)) (l1 : 0 ≤ z.2.1) (l2 : I_Pg z.2.2.1) (l3 : I_Pt z.2.2.2.1) (l4 : I_Pr z.2.2.2.2.2.1) (l5 : I_Jd z.2.2.2.2.2.2) : o_ok (o_lp n (m_Jd_evaluate_b36 n rec x1 x2 x3 T0 T1 Mk) z) (fun q => q.1 ≠ 0 ∧ (q.2.1 = 0 ∨ q.2.1 = 1) ∧ I_Pg q.2.2.2.1 ∧ I_Pt q.2.2.2.2.1 ∧ I_Pr q.2.2.2.2.2.2.1 ∧ I_Jd q.2.2.2.2.2.2.2) := by
  exact o_lpR (fun z => (z.1 = 0 ∨ z.1 = 1) ∧ 0 ≤ z.2.1 ∧ I_Pg z.2.2.1 ∧ I_Pt z.2.2.2.1 ∧ I_Pr z.2.2.2.2.2.1 ∧ I_Jd z.2.2.2.2.2.2) (fun z => o_mu z.2.1) hn (o_muB) ⟨l0, l1, l2, l3, l4, l5⟩
    (fun z hz => by obtain ⟨l0, l1, l2, l3, l4, l5⟩ := hz; exact o_okW (s_Jd_evaluate_b36 hn h_T0 h_T1 p0 hrec l0 l1 l2 l3 l4 l5) (fun q hq => ⟨fun h => by have := hq.1 h; grind, hq.2⟩))
theorem s_Jd_evaluate_F {n : Nat} {rec : Int32 → Int32 → Int32 → STx → STx → SPg → SPt → SMk → SLd → SPr → SJd → Option (Int32 × SPg × SPt × SLd × SPr × SJd)} {x1 : Int32} {x2 : Int32} {x3 : Int32} {T0 : STx} {T1 : STx} {Pg : SPg} {Pt : SPt} {Mk : SMk} {Ld : SLd} {Pr : SPr} {Jd : SJd} (hn : o_big ≤ n) (h_T0 : I_Tx T0) (h_T1 : I_Tx T1) (h_Pg : I_Pg Pg) (h_Pt : I_Pt Pt) (h_Pr : I_Pr Pr) (h_Jd : I_Jd Jd) (hrec : x3 ≤ 100 → ∀ (v0 v1 : Int32) (T0 T1 : STx) (Pg : SPg) (Pt : SPt) (Mk : SMk) (Ld : SLd) (Pr : SPr) (Jd : SJd), I_Tx T0 → I_Tx T1 → I_Pg Pg → I_Pt Pt → I_Pr Pr → I_Jd Jd → o_ok (rec v0 v1 (x3 + 1) T0 T1 Pg Pt Mk Ld Pr Jd) (fun r => (r.1 = 0 ∨ r.1 = 1) ∧ I_Pg r.2.1 ∧ I_Pt r.2.2.1 ∧ I_Pr r.2.2.2.2.1 ∧ I_Jd r.2.2.2.2.2)) : o_ok (m_Jd_evaluate_F n rec x1 x2 x3 T0 T1 Pg Pt Mk Ld Pr Jd) (fun r => (r.1 = 0 ∨ r.1 = 1) ∧ I_Pg r.2.1 ∧ I_Pt r.2.2.1 ∧ I_Pr r.2.2.2.2.1 ∧ I_Jd r.2.2.2.2.2) := by
  unfold m_Jd_evaluate_F
  refine o_okB (s_Jd_enter  h_Jd) ?_
  intro q1_1 ⟨g2, g3, g4⟩
  refine o_okI (fun c5 => ?_) (fun c5 => ?_)
  · refine o_okS ?_
    refine ⟨?_, ?_, ?_, ?_, ?_⟩
    · first | with_reducible exact True.intro | with_reducible assumption | grind [-Prod] | grind [-Prod, → sc_Jd, → sc_Pg, → sc_Pr, → sc_Pt, → sc_Tx] | grind [-Prod, I_Jd, I_Pg, I_Pr, I_Pt, I_Tx, o_bn, upd]
    · exact h_Pg
    · exact h_Pt
    · exact h_Pr
    · exact g4
  · refine o_okB (s_Tx_kind  h_T0) ?_
    intro q2_6 _
    refine o_okI (fun c7 => ?_) (fun c7 => ?_)
    · refine o_okB (s_Jd_tell  hn h_Pr g4) ?_
      intro q18_8 g9
      refine o_okS ?_
      refine ⟨?_, ?_, ?_, ?_, ?_⟩
      · first | with_reducible exact True.intro | with_reducible assumption | grind [-Prod] | grind [-Prod, → sc_Jd, → sc_Pg, → sc_Pr, → sc_Pt, → sc_Tx] | grind [-Prod, I_Jd, I_Pg, I_Pr, I_Pt, I_Tx, o_bn, upd]
      · exact h_Pg
      · exact h_Pt
      · exact g9
      · exact g4
    · refine o_okB (l_Jd_evaluate_b36  hn h_T0 h_T1 (by first | with_reducible exact True.intro | with_reducible assumption | grind [-Prod] | grind [-Prod, → sc_Jd, → sc_Pg, → sc_Pr, → sc_Pt, → sc_Tx] | grind [-Prod, I_Jd, I_Pg, I_Pr, I_Pt, I_Tx, o_bn, upd]) (hrec (by first | assumption | grind)) (by first | with_reducible exact True.intro | with_reducible assumption | grind [-Prod] | grind [-Prod, → sc_Jd, → sc_Pg, → sc_Pr, → sc_Pt, → sc_Tx] | grind [-Prod, I_Jd, I_Pg, I_Pr, I_Pt, I_Tx, o_bn, upd]) (by first | with_reducible exact True.intro | with_reducible assumption | grind [-Prod] | grind [-Prod, → sc_Jd, → sc_Pg, → sc_Pr, → sc_Pt, → sc_Tx] | grind [-Prod, I_Jd, I_Pg, I_Pr, I_Pt, I_Tx, o_bn, upd]) h_Pg h_Pt h_Pr g4) ?_
      intro q17_10 ⟨yq17_10, g11, g12, g13, g14, g15⟩
      refine o_okG (o_zbM (by first | with_reducible exact True.intro | with_reducible assumption | grind [-Prod] | grind [-Prod, → sc_Jd, → sc_Pg, → sc_Pr, → sc_Pt, → sc_Tx] | grind [-Prod, I_Jd, I_Pg, I_Pr, I_Pt, I_Tx, o_bn, upd])) ?_
      refine o_okS ?_
      refine ⟨?_, ?_, ?_, ?_, ?_⟩
      · first | with_reducible exact True.intro | with_reducible assumption | grind [-Prod] | grind [-Prod, → sc_Jd, → sc_Pg, → sc_Pr, → sc_Pt, → sc_Tx] | grind [-Prod, I_Jd, I_Pg, I_Pr, I_Pt, I_Tx, o_bn, upd]
      · exact g12
      · exact g13
      · exact g14
      · exact g15
theorem s_Jd_evaluate {n d : Nat} {v0 v1 v2 : Int32} {T0 T1 : STx} {Pg : SPg} {Pt : SPt} {Mk : SMk} {Ld : SLd} {Pr : SPr} {Jd : SJd} (hn : o_big ≤ n) (hd : v2 ≤ 101 ∧ 102 ≤ v2.toInt + d) (h_T0 : I_Tx T0) (h_T1 : I_Tx T1) (h_Pg : I_Pg Pg) (h_Pt : I_Pt Pt) (h_Pr : I_Pr Pr) (h_Jd : I_Jd Jd) : o_ok (m_Jd_evaluate n d v0 v1 v2 T0 T1 Pg Pt Mk Ld Pr Jd) (fun r => (r.1 = 0 ∨ r.1 = 1) ∧ I_Pg r.2.1 ∧ I_Pt r.2.2.1 ∧ I_Pr r.2.2.2.2.1 ∧ I_Jd r.2.2.2.2.2) := by
  induction d generalizing v0 v1 v2 T0 T1 Pg Pt Mk Ld Pr Jd with
  | zero =>
    have a := Int32.le_iff_toInt_le.mp hd.1
    have z : (101 : Int32).toInt = 101 := rfl
    rw [z] at a
    have b := hd.2
    exfalso; omega
  | succ d ih =>
    refine s_Jd_evaluate_F hn h_T0 h_T1 h_Pg h_Pt h_Pr h_Jd ?_
    intro h v0 v1 T0 T1 Pg Pt Mk Ld Pr Jd k1 k2 k3 k4 k5 k6
    refine ih ?_ k1 k2 k3 k4 k5 k6
    have a := o_add1 (x := v2) (by grind)
    rw [a]
    have b := hd.2
    refine ⟨by grind, by omega⟩
theorem s_Pr_sort_b27 {n : Nat} {x1 : Int32} {x2 : Int32} {x3 : Int32} {z : Int32 × SPr} (hn : o_big ≤ n) (l0 : 0 ≤ z.1) (l1 : z.1 < 300) (l2 : I_Pr z.2) : o_ok (m_Pr_sort_b27 n x1 x2 x3 z) (fun q => (q.1 = 0 → 0 ≤ q.2.1 ∧ q.2.1 < 300 ∧ I_Pr q.2.2 ∧ o_nu q.2.1 < o_nu z.1) ∧ (q.1 ≠ 0 → 0 ≤ q.2.1 ∧ q.2.1 < 300 ∧ I_Pr q.2.2)) := by
  unfold m_Pr_sort_b27
  refine o_okI (fun c1 => ?_) (fun c1 => ?_)
  · refine o_okS ?_
    refine ⟨fun h => absurd (show (1 : Nat) = 0 from h) (by decide), fun _ => ?_⟩
    refine ⟨?_, ?_, ?_⟩
    · first | with_reducible exact True.intro | with_reducible assumption | grind [-Prod] | grind [-Prod, → sc_Pr] | grind [-Prod, I_Pr, o_bn, upd]
    · first | with_reducible exact True.intro | with_reducible assumption | grind [-Prod] | grind [-Prod, → sc_Pr] | grind [-Prod, I_Pr, o_bn, upd]
    · exact l2
  · refine o_okG (o_inM (m := 300) rfl (by first | with_reducible exact True.intro | with_reducible assumption | grind [-Prod] | grind [-Prod, → sc_Pr] | grind [-Prod, I_Pr, o_bn, upd]) (by first | with_reducible exact True.intro | with_reducible assumption | grind [-Prod] | grind [-Prod, → sc_Pr] | grind [-Prod, I_Pr, o_bn, upd])) ?_
    refine o_okI (fun c2 => ?_) (fun c2 => ?_)
    · unfold m_Pr_sort_j71
      refine o_okG (o_inM (m := 300) rfl (by first | with_reducible exact True.intro | with_reducible assumption | grind [-Prod] | grind [-Prod, → sc_Pr] | grind [-Prod, I_Pr, o_bn, upd]) (by first | with_reducible exact True.intro | with_reducible assumption | grind [-Prod] | grind [-Prod, → sc_Pr] | grind [-Prod, I_Pr, o_bn, upd])) ?_
      refine o_okG (o_inM (m := 300) rfl (by first | with_reducible exact True.intro | with_reducible assumption | grind [-Prod] | grind [-Prod, → sc_Pr] | grind [-Prod, I_Pr, o_bn, upd]) (by first | with_reducible exact True.intro | with_reducible assumption | grind [-Prod] | grind [-Prod, → sc_Pr] | grind [-Prod, I_Pr, o_bn, upd])) ?_
      refine o_okG (o_inM (m := 300) rfl (by first | with_reducible exact True.intro | with_reducible assumption | grind [-Prod] | grind [-Prod, → sc_Pr] | grind [-Prod, I_Pr, o_bn, upd]) (by first | with_reducible exact True.intro | with_reducible assumption | grind [-Prod] | grind [-Prod, → sc_Pr] | grind [-Prod, I_Pr, o_bn, upd])) ?_
      refine o_okG (o_inM (m := 300) rfl (by first | with_reducible exact True.intro | with_reducible assumption | grind [-Prod] | grind [-Prod, → sc_Pr] | grind [-Prod, I_Pr, o_bn, upd]) (by first | with_reducible exact True.intro | with_reducible assumption | grind [-Prod] | grind [-Prod, → sc_Pr] | grind [-Prod, I_Pr, o_bn, upd])) ?_
      refine o_okN (fun x4_103_3 ex4_103_3 => ?_)
      refine o_okS ?_
      refine ⟨fun _ => ?_, fun h => absurd rfl h⟩
      refine ⟨?_, ?_, ?_, ?_⟩
      · first | with_reducible exact True.intro | with_reducible assumption | grind [-Prod] | grind [-Prod, → sc_Pr] | grind [-Prod, I_Pr, o_bn, upd]
      · first | with_reducible exact True.intro | with_reducible assumption | grind [-Prod] | grind [-Prod, → sc_Pr] | grind [-Prod, I_Pr, o_bn, upd]
      · exact ⟨l2.1, l2.2⟩
      · first | exact o_muL (by first | with_reducible exact True.intro | with_reducible assumption | grind [-Prod] | grind [-Prod, → sc_Pr] | grind [-Prod, I_Pr, o_bn, upd]) | exact o_nuL (by first | with_reducible exact True.intro | with_reducible assumption | grind [-Prod] | grind [-Prod, → sc_Pr] | grind [-Prod, I_Pr, o_bn, upd]) | (first | with_reducible exact True.intro | with_reducible assumption | grind [-Prod] | grind [-Prod, → sc_Pr] | grind [-Prod, I_Pr, o_bn, upd])
    · refine o_okG (o_inM (m := 300) rfl (by first | with_reducible exact True.intro | with_reducible assumption | grind [-Prod] | grind [-Prod, → sc_Pr] | grind [-Prod, I_Pr, o_bn, upd]) (by first | with_reducible exact True.intro | with_reducible assumption | grind [-Prod] | grind [-Prod, → sc_Pr] | grind [-Prod, I_Pr, o_bn, upd])) ?_
      refine o_okI (fun c4 => ?_) (fun c4 => ?_)
      · refine o_okG (o_inM (m := 300) rfl (by first | with_reducible exact True.intro | with_reducible assumption | grind [-Prod] | grind [-Prod, → sc_Pr] | grind [-Prod, I_Pr, o_bn, upd]) (by first | with_reducible exact True.intro | with_reducible assumption | grind [-Prod] | grind [-Prod, → sc_Pr] | grind [-Prod, I_Pr, o_bn, upd])) ?_
        refine o_okI (fun c5 => ?_) (fun c5 => ?_)
        · refine o_okS ?_
          refine ⟨fun h => absurd (show (1 : Nat) = 0 from h) (by decide), fun _ => ?_⟩
          refine ⟨?_, ?_, ?_⟩
          · first | with_reducible exact True.intro | with_reducible assumption | grind [-Prod] | grind [-Prod, → sc_Pr] | grind [-Prod, I_Pr, o_bn, upd]
          · first | with_reducible exact True.intro | with_reducible assumption | grind [-Prod] | grind [-Prod, → sc_Pr] | grind [-Prod, I_Pr, o_bn, upd]
          · exact l2
        · unfold m_Pr_sort_j71
          refine o_okG (o_inM (m := 300) rfl (by first | with_reducible exact True.intro | with_reducible assumption | grind [-Prod] | grind [-Prod, → sc_Pr] | grind [-Prod, I_Pr, o_bn, upd]) (by first | with_reducible exact True.intro | with_reducible assumption | grind [-Prod] | grind [-Prod, → sc_Pr] | grind [-Prod, I_Pr, o_bn, upd])) ?_
          refine o_okG (o_inM (m := 300) rfl (by first | with_reducible exact True.intro | with_reducible assumption | grind [-Prod] | grind [-Prod, → sc_Pr] | grind [-Prod, I_Pr, o_bn, upd]) (by first | with_reducible exact True.intro | with_reducible assumption | grind [-Prod] | grind [-Prod, → sc_Pr] | grind [-Prod, I_Pr, o_bn, upd])) ?_
          refine o_okG (o_inM (m := 300) rfl (by first | with_reducible exact True.intro | with_reducible assumption | grind [-Prod] | grind [-Prod, → sc_Pr] | grind [-Prod, I_Pr, o_bn, upd]) (by first | with_reducible exact True.intro | with_reducible assumption | grind [-Prod] | grind [-Prod, → sc_Pr] | grind [-Prod, I_Pr, o_bn, upd])) ?_
          refine o_okG (o_inM (m := 300) rfl (by first | with_reducible exact True.intro | with_reducible assumption | grind [-Prod] | grind [-Prod, → sc_Pr] | grind [-Prod, I_Pr, o_bn, upd]) (by first | with_reducible exact True.intro | with_reducible assumption | grind [-Prod] | grind [-Prod, → sc_Pr] | grind [-Prod, I_Pr, o_bn, upd])) ?_
          refine o_okN (fun x4_103_6 ex4_103_6 => ?_)
          refine o_okS ?_
          refine ⟨fun _ => ?_, fun h => absurd rfl h⟩
          refine ⟨?_, ?_, ?_, ?_⟩
          · first | with_reducible exact True.intro | with_reducible assumption | grind [-Prod] | grind [-Prod, → sc_Pr] | grind [-Prod, I_Pr, o_bn, upd]
          · first | with_reducible exact True.intro | with_reducible assumption | grind [-Prod] | grind [-Prod, → sc_Pr] | grind [-Prod, I_Pr, o_bn, upd]
          · exact ⟨l2.1, l2.2⟩
          · first | exact o_muL (by first | with_reducible exact True.intro | with_reducible assumption | grind [-Prod] | grind [-Prod, → sc_Pr] | grind [-Prod, I_Pr, o_bn, upd]) | exact o_nuL (by first | with_reducible exact True.intro | with_reducible assumption | grind [-Prod] | grind [-Prod, → sc_Pr] | grind [-Prod, I_Pr, o_bn, upd]) | (first | with_reducible exact True.intro | with_reducible assumption | grind [-Prod] | grind [-Prod, → sc_Pr] | grind [-Prod, I_Pr, o_bn, upd])
      · refine o_okS ?_
        refine ⟨fun h => absurd (show (1 : Nat) = 0 from h) (by decide), fun _ => ?_⟩
        refine ⟨?_, ?_, ?_⟩
        · first | with_reducible exact True.intro | with_reducible assumption | grind [-Prod] | grind [-Prod, → sc_Pr] | grind [-Prod, I_Pr, o_bn, upd]
        · first | with_reducible exact True.intro | with_reducible assumption | grind [-Prod] | grind [-Prod, → sc_Pr] | grind [-Prod, I_Pr, o_bn, upd]
        · exact l2
theorem l_Pr_sort_b27 {n : Nat} {x1 : Int32} {x2 : Int32} {x3 : Int32} {z : Int32 × SPr} (hn : o_big ≤ n) (l0 : 0 ≤ z.1) (l1 : z.1 < 300) (l2 : I_Pr z.2) : o_ok (o_lp n (m_Pr_sort_b27 n x1 x2 x3) z) (fun q => q.1 ≠ 0 ∧ 0 ≤ q.2.1 ∧ q.2.1 < 300 ∧ I_Pr q.2.2) := by
  exact o_lpR (fun z => 0 ≤ z.1 ∧ z.1 < 300 ∧ I_Pr z.2) (fun z => o_nu z.1) hn (o_nuB) ⟨l0, l1, l2⟩
    (fun z hz => by obtain ⟨l0, l1, l2⟩ := hz; exact o_okW (s_Pr_sort_b27 hn l0 l1 l2) (fun q hq => ⟨fun h => by have := hq.1 h; grind, hq.2⟩))
theorem s_Pr_sort_b2 {n : Nat} {z : Int32 × SPr} (hn : o_big ≤ n) (l0 : 0 ≤ z.1) (l1 : I_Pr z.2) : o_ok (m_Pr_sort_b2 n z) (fun q => (q.1 = 0 → 0 ≤ q.2.1 ∧ I_Pr q.2.2 ∧ o_mu q.2.1 < o_mu z.1) ∧ (q.1 ≠ 0 → I_Pr q.2.2)) := by
  unfold m_Pr_sort_b2
  refine o_okI (fun c1 => ?_) (fun c1 => ?_)
  · refine o_okS ?_
    refine ⟨fun h => absurd (show (1 : Nat) = 0 from h) (by decide), fun _ => ?_⟩
    exact l1
  · refine o_okG (o_inM (m := 300) rfl (by first | with_reducible exact True.intro | with_reducible assumption | grind [-Prod] | grind [-Prod, → sc_Pr] | grind [-Prod, I_Pr, o_bn, upd]) (by first | with_reducible exact True.intro | with_reducible assumption | grind [-Prod] | grind [-Prod, → sc_Pr] | grind [-Prod, I_Pr, o_bn, upd])) ?_
    refine o_okN (fun x2_16_2 ex2_16_2 => ?_)
    refine o_okG (o_inM (m := 300) rfl (by first | with_reducible exact True.intro | with_reducible assumption | grind [-Prod] | grind [-Prod, → sc_Pr] | grind [-Prod, I_Pr, o_bn, upd]) (by first | with_reducible exact True.intro | with_reducible assumption | grind [-Prod] | grind [-Prod, → sc_Pr] | grind [-Prod, I_Pr, o_bn, upd])) ?_
    refine o_okN (fun x3_23_3 ex3_23_3 => ?_)
    refine o_okB (l_Pr_sort_b27  hn (by first | with_reducible exact True.intro | with_reducible assumption | grind [-Prod] | grind [-Prod, → sc_Pr] | grind [-Prod, I_Pr, o_bn, upd]) (by first | with_reducible exact True.intro | with_reducible assumption | grind [-Prod] | grind [-Prod, → sc_Pr] | grind [-Prod, I_Pr, o_bn, upd]) l1) ?_
    intro q1_4 ⟨yq1_4, g5, g6, g7⟩
    unfold m_Pr_sort_j109
    refine o_okG (o_inM (m := 300) rfl (by first | with_reducible exact True.intro | with_reducible assumption | grind [-Prod] | grind [-Prod, → sc_Pr] | grind [-Prod, I_Pr, o_bn, upd]) (by first | with_reducible exact True.intro | with_reducible assumption | grind [-Prod] | grind [-Prod, → sc_Pr] | grind [-Prod, I_Pr, o_bn, upd])) ?_
    refine o_okG (o_inM (m := 300) rfl (by first | with_reducible exact True.intro | with_reducible assumption | grind [-Prod] | grind [-Prod, → sc_Pr] | grind [-Prod, I_Pr, o_bn, upd]) (by first | with_reducible exact True.intro | with_reducible assumption | grind [-Prod] | grind [-Prod, → sc_Pr] | grind [-Prod, I_Pr, o_bn, upd])) ?_
    refine o_okN (fun x1_125_8 ex1_125_8 => ?_)
    refine o_okS ?_
    refine ⟨fun _ => ?_, fun h => absurd rfl h⟩
    refine ⟨?_, ?_, ?_⟩
    · first | with_reducible exact True.intro | with_reducible assumption | grind [-Prod] | grind [-Prod, → sc_Pr] | grind [-Prod, I_Pr, o_bn, upd]
    · exact ⟨g7.1, g7.2⟩
    · first | exact o_muL (by first | with_reducible exact True.intro | with_reducible assumption | grind [-Prod] | grind [-Prod, → sc_Pr] | grind [-Prod, I_Pr, o_bn, upd]) | exact o_nuL (by first | with_reducible exact True.intro | with_reducible assumption | grind [-Prod] | grind [-Prod, → sc_Pr] | grind [-Prod, I_Pr, o_bn, upd]) | (first | with_reducible exact True.intro | with_reducible assumption | grind [-Prod] | grind [-Prod, → sc_Pr] | grind [-Prod, I_Pr, o_bn, upd])
theorem l_Pr_sort_b2 {n : Nat} {z : Int32 × SPr} (hn : o_big ≤ n) (l0 : 0 ≤ z.1) (l1 : I_Pr z.2) : o_ok (o_lp n (m_Pr_sort_b2 n) z) (fun q => q.1 ≠ 0 ∧ I_Pr q.2.2) := by
  exact o_lpR (fun z => 0 ≤ z.1 ∧ I_Pr z.2) (fun z => o_mu z.1) hn (o_muB) ⟨l0, l1⟩
    (fun z hz => by obtain ⟨l0, l1⟩ := hz; exact o_okW (s_Pr_sort_b2 hn l0 l1) (fun q hq => ⟨fun h => by have := hq.1 h; grind, hq.2⟩))
theorem s_Pr_sort {n : Nat} {Pr : SPr} (hn : o_big ≤ n) (h_Pr : I_Pr Pr) : o_ok (m_Pr_sort n Pr) (fun r => I_Pr r) := by
  unfold m_Pr_sort
  refine o_okB (l_Pr_sort_b2  hn (by first | with_reducible exact True.intro | with_reducible assumption | grind [-Prod] | grind [-Prod, → sc_Pr] | grind [-Prod, I_Pr, o_bn, upd]) h_Pr) ?_
  intro q2_1 ⟨yq2_1, g2⟩
  refine o_okS ?_
  exact g2
theorem s_Jd_finish {n : Nat} {Pr : SPr} {Jd : SJd} (hn : o_big ≤ n) (h_Pr : I_Pr Pr) (h_Jd : I_Jd Jd) : o_ok (m_Jd_finish n Pr Jd) (fun r => I_Pr r) := by
  unfold m_Jd_finish
  refine o_okI (fun c1 => ?_) (fun c1 => ?_)
  · unfold m_Jd_finish_j15
    refine o_okB (s_Pr_sort  hn h_Pr) ?_
    intro q1_2 g3
    refine o_okS ?_
    exact g3
  · refine o_okB (s_Pr_cut  h_Pr) ?_
    intro q2_4 g5
    unfold m_Jd_finish_j15
    refine o_okB (s_Pr_sort  hn g5) ?_
    intro q1_6 g7
    refine o_okS ?_
    exact g7
theorem s_Jd_isOver {Jd : SJd} (h_Jd : I_Jd Jd) : o_ok (m_Jd_isOver Jd) (fun r => (r = 0 ∨ r = 1)) := by
  unfold m_Jd_isOver
  refine o_okG (o_zbM (by first | with_reducible exact True.intro | with_reducible assumption | grind [-Prod] | grind [-Prod, → sc_Jd] | grind [-Prod, I_Jd, o_bn, upd])) ?_
  refine o_okS ?_
  first | with_reducible exact True.intro | with_reducible assumption | grind [-Prod] | grind [-Prod, → sc_Jd] | grind [-Prod, I_Jd, o_bn, upd]
theorem s_SJ_validate {n : Nat} {T0 : STx} {T1 : STx} {Pg : SPg} {Pt : SPt} {Mk : SMk} {Ck : SCk} {Ld : SLd} {Pr : SPr} {Jd : SJd} (hn : o_big ≤ n) (h_T0 : I_Tx T0) (h_T1 : I_Tx T1) (h_Pg : I_Pg Pg) (h_Pt : I_Pt Pt) (h_Ck : I_Ck Ck) (h_Pr : I_Pr Pr) (h_Jd : I_Jd Jd) : o_ok (m_SJ_validate n T0 T1 Pg Pt Mk Ck Ld Pr Jd) (fun r => I_Pg r.2.2.1 ∧ I_Pt r.2.2.2.1 ∧ I_Pr r.2.2.2.2.2.1 ∧ I_Jd r.2.2.2.2.2.2) := by
  unfold m_SJ_validate
  refine o_okB (s_Tx_total  h_T1) ?_
  intro q1_1 g2
  refine o_okI (fun c3 => ?_) (fun c3 => ?_)
  · unfold m_SJ_validate_j20
    refine o_okS ?_
    refine ⟨?_, ?_, ?_, ?_⟩
    · exact h_Pg
    · exact h_Pt
    · exact h_Pr
    · exact h_Jd
  · refine o_okB (s_Ck_passed  h_Ck) ?_
    intro q2_4 g5
    refine o_okI (fun c6 => ?_) (fun c6 => ?_)
    · unfold m_SJ_validate_j20
      refine o_okS ?_
      refine ⟨?_, ?_, ?_, ?_⟩
      · exact h_Pg
      · exact h_Pt
      · exact h_Pr
      · exact h_Jd
    · refine o_okB (s_Jd_begin  h_Pr h_Jd) ?_
      intro q3_7 ⟨g8, g9⟩
      refine o_okB (s_Jd_evaluate hn (by decide) h_T0 h_T1 h_Pg h_Pt g8 g9) ?_
      intro q4_10 ⟨g11, g12, g13, g14, g15⟩
      refine o_okB (s_Jd_finish  hn g14 g15) ?_
      intro q5_16 g17
      refine o_okB (s_Jd_isOver  g15) ?_
      intro q6_18 g19
      refine o_okI (fun c20 => ?_) (fun c20 => ?_)
      · refine o_okG (o_zbM (by first | with_reducible exact True.intro | with_reducible assumption | grind [-Prod] | grind [-Prod, → sc_Ck, → sc_Jd, → sc_Pg, → sc_Pr, → sc_Pt, → sc_Tx] | grind [-Prod, I_Ck, I_Jd, I_Pg, I_Pr, I_Pt, I_Tx, o_bn, upd])) ?_
        refine o_okS ?_
        refine ⟨?_, ?_, ?_, ?_⟩
        · exact g12
        · exact g13
        · exact g17
        · exact g15
      · refine o_okS ?_
        refine ⟨?_, ?_, ?_, ?_⟩
        · exact g12
        · exact g13
        · exact g17
        · exact g15
theorem s_Jd_pairsKept {Pr : SPr} (h_Pr : I_Pr Pr) : o_ok (m_Jd_pairsKept Pr) (fun r => True) := by
  unfold m_Jd_pairsKept
  refine o_okB (s_Pr_size  h_Pr) ?_
  intro q1_1 _
  refine o_okS ?_
  trivial
theorem s_SJ_pairs {Pr : SPr} (h_Pr : I_Pr Pr) : o_ok (m_SJ_pairs Pr) (fun r => True) := by
  unfold m_SJ_pairs
  refine o_okB (s_Jd_pairsKept  h_Pr) ?_
  intro q1_1 _
  refine o_okS ?_
  trivial
theorem s_Pr_at {x1 : Int32} {x2 : Int32} {Pr : SPr} (h_Pr : I_Pr Pr) : o_ok (m_Pr_at x1 x2 Pr) (fun r => True) := by
  unfold m_Pr_at
  refine o_okI (fun c1 => ?_) (fun c1 => ?_)
  · refine o_okS ?_
    trivial
  · refine o_okI (fun c2 => ?_) (fun c2 => ?_)
    · refine o_okI (fun c3 => ?_) (fun c3 => ?_)
      · refine o_okG (o_inM (m := 300) rfl (by first | with_reducible exact True.intro | with_reducible assumption | grind [-Prod] | grind [-Prod, → sc_Pr] | grind [-Prod, I_Pr, o_bn, upd]) (by first | with_reducible exact True.intro | with_reducible assumption | grind [-Prod] | grind [-Prod, → sc_Pr] | grind [-Prod, I_Pr, o_bn, upd])) ?_
        refine o_okS ?_
        trivial
      · refine o_okG (o_inM (m := 300) rfl (by first | with_reducible exact True.intro | with_reducible assumption | grind [-Prod] | grind [-Prod, → sc_Pr] | grind [-Prod, I_Pr, o_bn, upd]) (by first | with_reducible exact True.intro | with_reducible assumption | grind [-Prod] | grind [-Prod, → sc_Pr] | grind [-Prod, I_Pr, o_bn, upd])) ?_
        refine o_okS ?_
        trivial
    · refine o_okS ?_
      trivial
theorem s_Jd_pairAt {x1 : Int32} {x2 : Int32} {Pr : SPr} (h_Pr : I_Pr Pr) : o_ok (m_Jd_pairAt x1 x2 Pr) (fun r => True) := by
  unfold m_Jd_pairAt
  refine o_okB (s_Pr_at  h_Pr) ?_
  intro q1_1 _
  refine o_okS ?_
  trivial
theorem s_SJ_pair {x1 : Int32} {x2 : Int32} {Pr : SPr} (h_Pr : I_Pr Pr) : o_ok (m_SJ_pair x1 x2 Pr) (fun r => True) := by
  unfold m_SJ_pair
  refine o_okI (fun c1 => ?_) (fun c1 => ?_)
  · unfold m_SJ_pair_j15
    refine o_okS ?_
    trivial
  · refine o_okB (s_Jd_pairsKept  h_Pr) ?_
    intro q1_2 _
    refine o_okI (fun c3 => ?_) (fun c3 => ?_)
    · refine o_okB (s_Jd_pairAt  h_Pr) ?_
      intro q2_4 _
      refine o_okS ?_
      trivial
    · unfold m_SJ_pair_j15
      refine o_okS ?_
      trivial
theorem s_Tx_has {x1 : Int32} {a0 : STx} (h_a0 : I_Tx a0) : o_ok (m_Tx_has x1 a0) (fun r => (r = 0 ∨ r = 1)) := by
  unfold m_Tx_has
  refine o_okI (fun c1 => ?_) (fun c1 => ?_)
  · refine o_okS ?_
    first | with_reducible exact True.intro | with_reducible assumption | grind [-Prod] | grind [-Prod, → sc_Tx] | grind [-Prod, I_Tx, o_bn, upd]
  · refine o_okI (fun c2 => ?_) (fun c2 => ?_)
    · refine o_okS ?_
      first | with_reducible exact True.intro | with_reducible assumption | grind [-Prod] | grind [-Prod, → sc_Tx] | grind [-Prod, I_Tx, o_bn, upd]
    · refine o_okS ?_
      first | with_reducible exact True.intro | with_reducible assumption | grind [-Prod] | grind [-Prod, → sc_Tx] | grind [-Prod, I_Tx, o_bn, upd]
theorem s_SJ_value_j34v7 {x2 : Int32} {x3 : Int32} {T0 : STx} {T1 : STx} (h_T0 : I_Tx T0) (h_T1 : I_Tx T1) : o_ok (m_SJ_value_j34v7 x2 x3 T0 T1) (fun r => True) := by
  unfold m_SJ_value_j34v7
  refine o_okB (s_Tx_has  h_T0) ?_
  intro q8_1 g2
  refine o_okI (fun c3 => ?_) (fun c3 => ?_)
  · refine o_okS ?_
    trivial
  · refine o_okI (fun c4 => ?_) (fun c4 => ?_)
    · refine o_okB (s_Tx_kind  h_T0) ?_
      intro q9_5 _
      refine o_okS ?_
      trivial
    · refine o_okI (fun c6 => ?_) (fun c6 => ?_)
      · refine o_okB (s_Tx_place  h_T0) ?_
        intro q10_7 _
        refine o_okS ?_
        trivial
      · refine o_okI (fun c8 => ?_) (fun c8 => ?_)
        · refine o_okB (s_Tx_size  h_T0) ?_
          intro q11_9 g10
          refine o_okS ?_
          trivial
        · refine o_okI (fun c11 => ?_) (fun c11 => ?_)
          · refine o_okB (s_Tx_parent  h_T0) ?_
            intro q12_12 _
            refine o_okS ?_
            trivial
          · refine o_okB (s_Tx_exponent  h_T0) ?_
            intro q13_13 _
            refine o_okS ?_
            trivial
theorem s_SJ_value {x1 : Int32} {x2 : Int32} {x3 : Int32} {T0 : STx} {T1 : STx} (h_T0 : I_Tx T0) (h_T1 : I_Tx T1) : o_ok (m_SJ_value x1 x2 x3 T0 T1) (fun r => True) := by
  unfold m_SJ_value
  refine o_okI (fun c1 => ?_) (fun c1 => ?_)
  · unfold m_SJ_value_j9
    refine o_okS ?_
    trivial
  · refine o_okI (fun c2 => ?_) (fun c2 => ?_)
    · refine o_okI (fun c3 => ?_) (fun c3 => ?_)
      · unfold m_SJ_value_j34
        refine o_okB (s_Tx_has  h_T1) ?_
        intro q1_4 g5
        refine o_okI (fun c6 => ?_) (fun c6 => ?_)
        · refine o_okS ?_
          trivial
        · refine o_okI (fun c7 => ?_) (fun c7 => ?_)
          · refine o_okB (s_Tx_kind  h_T1) ?_
            intro q2_8 _
            refine o_okS ?_
            trivial
          · refine o_okI (fun c9 => ?_) (fun c9 => ?_)
            · refine o_okB (s_Tx_place  h_T1) ?_
              intro q3_10 _
              refine o_okS ?_
              trivial
            · refine o_okI (fun c11 => ?_) (fun c11 => ?_)
              · refine o_okB (s_Tx_size  h_T1) ?_
                intro q4_12 g13
                refine o_okS ?_
                trivial
              · refine o_okI (fun c14 => ?_) (fun c14 => ?_)
                · refine o_okB (s_Tx_parent  h_T1) ?_
                  intro q5_15 _
                  refine o_okS ?_
                  trivial
                · refine o_okB (s_Tx_exponent  h_T1) ?_
                  intro q6_16 _
                  refine o_okS ?_
                  trivial
      · refine o_okW (s_SJ_value_j34v7  h_T0 h_T1) (fun r hr => ?_)
        first | exact hr | (first | with_reducible exact True.intro | with_reducible assumption | grind [-Prod] | grind [-Prod, → sc_Tx] | grind [-Prod, I_Tx, o_bn, upd])
    · unfold m_SJ_value_j9
      refine o_okS ?_
      trivial
theorem s_SJ_alike {n : Nat} {x1 : Int32} {x2 : Int32} {T1 : STx} (hn : o_big ≤ n) (h_T1 : I_Tx T1) : o_ok (m_SJ_alike n x1 x2 T1) (fun r => True) := by
  unfold m_SJ_alike
  refine o_okB (s_Tx_has  h_T1) ?_
  intro q1_1 g2
  refine o_okI (fun c3 => ?_) (fun c3 => ?_)
  · unfold m_SJ_alike_j22
    refine o_okS ?_
    trivial
  · refine o_okB (s_Tx_has  h_T1) ?_
    intro q2_4 g5
    refine o_okI (fun c6 => ?_) (fun c6 => ?_)
    · unfold m_SJ_alike_j22
      refine o_okS ?_
      trivial
    · refine o_okB (s_Tx_same hn (by decide) h_T1 h_T1) ?_
      intro q3_7 g8
      refine o_okG (o_zbM (by first | with_reducible exact True.intro | with_reducible assumption | grind [-Prod] | grind [-Prod, → sc_Tx] | grind [-Prod, I_Tx, o_bn, upd])) ?_
      refine o_okS ?_
      trivial
theorem s_SJ_matches {n : Nat} {x1 : Int32} {x2 : Int32} {T1 : STx} {Pg : SPg} {Pt : SPt} (hn : o_big ≤ n) (h_T1 : I_Tx T1) (h_Pg : I_Pg Pg) (h_Pt : I_Pt Pt) : o_ok (m_SJ_matches n x1 x2 T1 Pg Pt) (fun r => I_Pg r.2.2.1 ∧ I_Pt r.2.2.2) := by
  unfold m_SJ_matches
  refine o_okB (s_Tx_has  h_T1) ?_
  intro q1_1 g2
  refine o_okI (fun c3 => ?_) (fun c3 => ?_)
  · unfold m_SJ_matches_j22
    refine o_okS ?_
    refine ⟨?_, ?_⟩
    · exact h_Pg
    · exact h_Pt
  · refine o_okB (s_Tx_has  h_T1) ?_
    intro q2_4 g5
    refine o_okI (fun c6 => ?_) (fun c6 => ?_)
    · unfold m_SJ_matches_j22
      refine o_okS ?_
      refine ⟨?_, ?_⟩
      · exact h_Pg
      · exact h_Pt
    · refine o_okB (s_Tx_kind  h_T1) ?_
      intro q3_7 _
      refine o_okI (fun c8 => ?_) (fun c8 => ?_)
      · refine o_okB (s_Tx_kind  h_T1) ?_
        intro q4_9 _
        refine o_okI (fun c10 => ?_) (fun c10 => ?_)
        · refine o_okB (s_Pt_tokenise  hn h_T1 h_Pt) ?_
          intro q5_11 ⟨g12, g13⟩
          refine o_okI (fun c14 => ?_) (fun c14 => ?_)
          · unfold m_SJ_matches_j91
            refine o_okS ?_
            refine ⟨?_, ?_⟩
            · exact h_Pg
            · exact g13
          · refine o_okB (s_Pt_parse  hn h_Pg g13) ?_
            intro q6_15 ⟨g16, g17, g18⟩
            refine o_okI (fun c19 => ?_) (fun c19 => ?_)
            · unfold m_SJ_matches_j91
              refine o_okS ?_
              refine ⟨?_, ?_⟩
              · exact g17
              · exact g18
            · refine o_okB (s_Pg_finds  hn h_T1 g17) ?_
              intro q7_20 ⟨g21, g22⟩
              refine o_okG (o_zbM (by first | with_reducible exact True.intro | with_reducible assumption | grind [-Prod] | grind [-Prod, → sc_Pg, → sc_Pt, → sc_Tx] | grind [-Prod, I_Pg, I_Pt, I_Tx, o_bn, upd])) ?_
              refine o_okS ?_
              refine ⟨?_, ?_⟩
              · exact g22
              · exact g18
        · unfold m_SJ_matches_j56
          refine o_okS ?_
          refine ⟨?_, ?_⟩
          · exact h_Pg
          · exact h_Pt
      · unfold m_SJ_matches_j56
        refine o_okS ?_
        refine ⟨?_, ?_⟩
        · exact h_Pg
        · exact h_Pt
theorem s_Jd_evaluatedSchemas {Jd : SJd} (h_Jd : I_Jd Jd) : o_ok (m_Jd_evaluatedSchemas Jd) (fun r => True) := by
  unfold m_Jd_evaluatedSchemas
  refine o_okS ?_
  trivial
theorem s_Jd_deepest {Jd : SJd} (h_Jd : I_Jd Jd) : o_ok (m_Jd_deepest Jd) (fun r => True) := by
  unfold m_Jd_deepest
  refine o_okS ?_
  trivial
theorem s_SJ_count {x1 : Int32} {T0 : STx} {T1 : STx} {Jd : SJd} (h_T0 : I_Tx T0) (h_T1 : I_Tx T1) (h_Jd : I_Jd Jd) : o_ok (m_SJ_count x1 T0 T1 Jd) (fun r => True) := by
  unfold m_SJ_count
  refine o_okI (fun c1 => ?_) (fun c1 => ?_)
  · refine o_okB (s_Tx_total  h_T0) ?_
    intro q1_2 g3
    refine o_okS ?_
    trivial
  · refine o_okI (fun c4 => ?_) (fun c4 => ?_)
    · refine o_okB (s_Tx_total  h_T1) ?_
      intro q2_5 g6
      refine o_okS ?_
      trivial
    · refine o_okI (fun c7 => ?_) (fun c7 => ?_)
      · refine o_okB (s_Jd_evaluatedSchemas  h_Jd) ?_
        intro q3_8 _
        refine o_okS ?_
        trivial
      · refine o_okI (fun c9 => ?_) (fun c9 => ?_)
        · refine o_okB (s_Jd_deepest  h_Jd) ?_
          intro q4_10 _
          refine o_okS ?_
          trivial
        · refine o_okS ?_
          trivial
