set_option maxHeartbeats 8000000 in
theorem s_MM_feed_b36 {n : Nat} {x1 : Int32} {x2 : Int32} {x3 : Int32} {x4 : Int32} {x5 : Int32} {z : Int32 × SNI} {f0 : Int32} (hn : o_big ≤ n) (p0 : 0 ≤ f0) (p1 : f0 ≤ 8180) (l0 : z.1 ≤ 20) (l1 : NI_fed z.2 = f0 + z.1) (l2 : NI_err z.2 = 0) (l3 : 0 ≤ z.1) (l4 : I_NI z.2) : o_ok (m_MM_feed_b36 n x1 x2 x3 x4 x5 z) (fun q => (q.1 = 0 → q.2.1 ≤ 20 ∧ NI_fed q.2.2 = f0 + q.2.1 ∧ NI_err q.2.2 = 0 ∧ 0 ≤ q.2.1 ∧ I_NI q.2.2 ∧ o_mu q.2.1 < o_mu z.1) ∧ (q.1 ≠ 0 → NI_fed q.2.2 = f0 + 20 ∧ NI_err q.2.2 = 0 ∧ I_NI q.2.2)) := by
  unfold m_MM_feed_b36
  refine o_okI (fun c1 => ?_) (fun c1 => ?_)
  · refine o_okS ?_
    refine ⟨fun h => absurd (show (1 : Nat) = 0 from h) (by decide), fun _ => ?_⟩
    refine ⟨?_, ?_, ?_⟩
    · first | with_reducible exact True.intro | with_reducible assumption | grind [-Prod] | grind [-Prod, → sc_NI] | grind [-Prod, I_NI, o_bn, upd]
    · first | with_reducible exact True.intro | with_reducible assumption | grind [-Prod] | grind [-Prod, → sc_NI] | grind [-Prod, I_NI, o_bn, upd]
    · exact l4
  · refine o_okI (fun c2 => ?_) (fun c2 => ?_)
    · refine o_okI (fun c3 => ?_) (fun c3 => ?_)
      · refine o_okI (fun c4 => ?_) (fun c4 => ?_)
        · refine o_okI (fun c5 => ?_) (fun c5 => ?_)
          · unfold m_MM_feed_j89
            refine o_okG (o_inM (m := 8200) rfl (by first | with_reducible exact True.intro | with_reducible assumption | grind [-Prod] | grind [-Prod, → sc_NI] | grind [-Prod, I_NI, o_bn, upd]) (by first | with_reducible exact True.intro | with_reducible assumption | grind [-Prod] | grind [-Prod, → sc_NI] | grind [-Prod, I_NI, o_bn, upd])) ?_
            refine o_okN (fun x6_124_6 ex6_124_6 => ?_)
            refine o_okS ?_
            refine ⟨fun _ => ?_, fun h => absurd rfl h⟩
            refine ⟨?_, ?_, ?_, ?_, ?_, ?_⟩
            · first | with_reducible exact True.intro | with_reducible assumption | grind [-Prod] | grind [-Prod, → sc_NI] | grind [-Prod, I_NI, o_bn, upd]
            · first | with_reducible exact True.intro | with_reducible assumption | grind [-Prod] | grind [-Prod, → sc_NI] | grind [-Prod, I_NI, o_bn, upd]
            · first | with_reducible exact True.intro | with_reducible assumption | grind [-Prod] | grind [-Prod, → sc_NI] | grind [-Prod, I_NI, o_bn, upd]
            · first | with_reducible exact True.intro | with_reducible assumption | grind [-Prod] | grind [-Prod, → sc_NI] | grind [-Prod, I_NI, o_bn, upd]
            · exact ⟨(by first | with_reducible exact True.intro | with_reducible assumption | grind [-Prod] | grind [-Prod, → sc_NI] | grind [-Prod, I_NI, o_bn, upd]), (by first | with_reducible exact True.intro | with_reducible assumption | grind [-Prod] | grind [-Prod, → sc_NI] | grind [-Prod, I_NI, o_bn, upd])⟩
            · first | exact o_muL (by first | with_reducible exact True.intro | with_reducible assumption | grind [-Prod] | grind [-Prod, → sc_NI] | grind [-Prod, I_NI, o_bn, upd]) | exact o_nuL (by first | with_reducible exact True.intro | with_reducible assumption | grind [-Prod] | grind [-Prod, → sc_NI] | grind [-Prod, I_NI, o_bn, upd]) | (first | with_reducible exact True.intro | with_reducible assumption | grind [-Prod] | grind [-Prod, → sc_NI] | grind [-Prod, I_NI, o_bn, upd])
          · unfold m_MM_feed_j89
            refine o_okG (o_inM (m := 8200) rfl (by first | with_reducible exact True.intro | with_reducible assumption | grind [-Prod] | grind [-Prod, → sc_NI] | grind [-Prod, I_NI, o_bn, upd]) (by first | with_reducible exact True.intro | with_reducible assumption | grind [-Prod] | grind [-Prod, → sc_NI] | grind [-Prod, I_NI, o_bn, upd])) ?_
            refine o_okN (fun x6_124_7 ex6_124_7 => ?_)
            refine o_okS ?_
            refine ⟨fun _ => ?_, fun h => absurd rfl h⟩
            refine ⟨?_, ?_, ?_, ?_, ?_, ?_⟩
            · first | with_reducible exact True.intro | with_reducible assumption | grind [-Prod] | grind [-Prod, → sc_NI] | grind [-Prod, I_NI, o_bn, upd]
            · first | with_reducible exact True.intro | with_reducible assumption | grind [-Prod] | grind [-Prod, → sc_NI] | grind [-Prod, I_NI, o_bn, upd]
            · first | with_reducible exact True.intro | with_reducible assumption | grind [-Prod] | grind [-Prod, → sc_NI] | grind [-Prod, I_NI, o_bn, upd]
            · first | with_reducible exact True.intro | with_reducible assumption | grind [-Prod] | grind [-Prod, → sc_NI] | grind [-Prod, I_NI, o_bn, upd]
            · exact ⟨(by first | with_reducible exact True.intro | with_reducible assumption | grind [-Prod] | grind [-Prod, → sc_NI] | grind [-Prod, I_NI, o_bn, upd]), (by first | with_reducible exact True.intro | with_reducible assumption | grind [-Prod] | grind [-Prod, → sc_NI] | grind [-Prod, I_NI, o_bn, upd])⟩
            · first | exact o_muL (by first | with_reducible exact True.intro | with_reducible assumption | grind [-Prod] | grind [-Prod, → sc_NI] | grind [-Prod, I_NI, o_bn, upd]) | exact o_nuL (by first | with_reducible exact True.intro | with_reducible assumption | grind [-Prod] | grind [-Prod, → sc_NI] | grind [-Prod, I_NI, o_bn, upd]) | (first | with_reducible exact True.intro | with_reducible assumption | grind [-Prod] | grind [-Prod, → sc_NI] | grind [-Prod, I_NI, o_bn, upd])
        · unfold m_MM_feed_j89
          refine o_okG (o_inM (m := 8200) rfl (by first | with_reducible exact True.intro | with_reducible assumption | grind [-Prod] | grind [-Prod, → sc_NI] | grind [-Prod, I_NI, o_bn, upd]) (by first | with_reducible exact True.intro | with_reducible assumption | grind [-Prod] | grind [-Prod, → sc_NI] | grind [-Prod, I_NI, o_bn, upd])) ?_
          refine o_okN (fun x6_124_8 ex6_124_8 => ?_)
          refine o_okS ?_
          refine ⟨fun _ => ?_, fun h => absurd rfl h⟩
          refine ⟨?_, ?_, ?_, ?_, ?_, ?_⟩
          · first | with_reducible exact True.intro | with_reducible assumption | grind [-Prod] | grind [-Prod, → sc_NI] | grind [-Prod, I_NI, o_bn, upd]
          · first | with_reducible exact True.intro | with_reducible assumption | grind [-Prod] | grind [-Prod, → sc_NI] | grind [-Prod, I_NI, o_bn, upd]
          · first | with_reducible exact True.intro | with_reducible assumption | grind [-Prod] | grind [-Prod, → sc_NI] | grind [-Prod, I_NI, o_bn, upd]
          · first | with_reducible exact True.intro | with_reducible assumption | grind [-Prod] | grind [-Prod, → sc_NI] | grind [-Prod, I_NI, o_bn, upd]
          · exact ⟨(by first | with_reducible exact True.intro | with_reducible assumption | grind [-Prod] | grind [-Prod, → sc_NI] | grind [-Prod, I_NI, o_bn, upd]), (by first | with_reducible exact True.intro | with_reducible assumption | grind [-Prod] | grind [-Prod, → sc_NI] | grind [-Prod, I_NI, o_bn, upd])⟩
          · first | exact o_muL (by first | with_reducible exact True.intro | with_reducible assumption | grind [-Prod] | grind [-Prod, → sc_NI] | grind [-Prod, I_NI, o_bn, upd]) | exact o_nuL (by first | with_reducible exact True.intro | with_reducible assumption | grind [-Prod] | grind [-Prod, → sc_NI] | grind [-Prod, I_NI, o_bn, upd]) | (first | with_reducible exact True.intro | with_reducible assumption | grind [-Prod] | grind [-Prod, → sc_NI] | grind [-Prod, I_NI, o_bn, upd])
      · unfold m_MM_feed_j89
        refine o_okG (o_inM (m := 8200) rfl (by first | with_reducible exact True.intro | with_reducible assumption | grind [-Prod] | grind [-Prod, → sc_NI] | grind [-Prod, I_NI, o_bn, upd]) (by first | with_reducible exact True.intro | with_reducible assumption | grind [-Prod] | grind [-Prod, → sc_NI] | grind [-Prod, I_NI, o_bn, upd])) ?_
        refine o_okN (fun x6_124_9 ex6_124_9 => ?_)
        refine o_okS ?_
        refine ⟨fun _ => ?_, fun h => absurd rfl h⟩
        refine ⟨?_, ?_, ?_, ?_, ?_, ?_⟩
        · first | with_reducible exact True.intro | with_reducible assumption | grind [-Prod] | grind [-Prod, → sc_NI] | grind [-Prod, I_NI, o_bn, upd]
        · first | with_reducible exact True.intro | with_reducible assumption | grind [-Prod] | grind [-Prod, → sc_NI] | grind [-Prod, I_NI, o_bn, upd]
        · first | with_reducible exact True.intro | with_reducible assumption | grind [-Prod] | grind [-Prod, → sc_NI] | grind [-Prod, I_NI, o_bn, upd]
        · first | with_reducible exact True.intro | with_reducible assumption | grind [-Prod] | grind [-Prod, → sc_NI] | grind [-Prod, I_NI, o_bn, upd]
        · exact ⟨(by first | with_reducible exact True.intro | with_reducible assumption | grind [-Prod] | grind [-Prod, → sc_NI] | grind [-Prod, I_NI, o_bn, upd]), (by first | with_reducible exact True.intro | with_reducible assumption | grind [-Prod] | grind [-Prod, → sc_NI] | grind [-Prod, I_NI, o_bn, upd])⟩
        · first | exact o_muL (by first | with_reducible exact True.intro | with_reducible assumption | grind [-Prod] | grind [-Prod, → sc_NI] | grind [-Prod, I_NI, o_bn, upd]) | exact o_nuL (by first | with_reducible exact True.intro | with_reducible assumption | grind [-Prod] | grind [-Prod, → sc_NI] | grind [-Prod, I_NI, o_bn, upd]) | (first | with_reducible exact True.intro | with_reducible assumption | grind [-Prod] | grind [-Prod, → sc_NI] | grind [-Prod, I_NI, o_bn, upd])
    · unfold m_MM_feed_j89
      refine o_okG (o_inM (m := 8200) rfl (by first | with_reducible exact True.intro | with_reducible assumption | grind [-Prod] | grind [-Prod, → sc_NI] | grind [-Prod, I_NI, o_bn, upd]) (by first | with_reducible exact True.intro | with_reducible assumption | grind [-Prod] | grind [-Prod, → sc_NI] | grind [-Prod, I_NI, o_bn, upd])) ?_
      refine o_okN (fun x6_124_10 ex6_124_10 => ?_)
      refine o_okS ?_
      refine ⟨fun _ => ?_, fun h => absurd rfl h⟩
      refine ⟨?_, ?_, ?_, ?_, ?_, ?_⟩
      · first | with_reducible exact True.intro | with_reducible assumption | grind [-Prod] | grind [-Prod, → sc_NI] | grind [-Prod, I_NI, o_bn, upd]
      · first | with_reducible exact True.intro | with_reducible assumption | grind [-Prod] | grind [-Prod, → sc_NI] | grind [-Prod, I_NI, o_bn, upd]
      · first | with_reducible exact True.intro | with_reducible assumption | grind [-Prod] | grind [-Prod, → sc_NI] | grind [-Prod, I_NI, o_bn, upd]
      · first | with_reducible exact True.intro | with_reducible assumption | grind [-Prod] | grind [-Prod, → sc_NI] | grind [-Prod, I_NI, o_bn, upd]
      · exact ⟨(by first | with_reducible exact True.intro | with_reducible assumption | grind [-Prod] | grind [-Prod, → sc_NI] | grind [-Prod, I_NI, o_bn, upd]), (by first | with_reducible exact True.intro | with_reducible assumption | grind [-Prod] | grind [-Prod, → sc_NI] | grind [-Prod, I_NI, o_bn, upd])⟩
      · first | exact o_muL (by first | with_reducible exact True.intro | with_reducible assumption | grind [-Prod] | grind [-Prod, → sc_NI] | grind [-Prod, I_NI, o_bn, upd]) | exact o_nuL (by first | with_reducible exact True.intro | with_reducible assumption | grind [-Prod] | grind [-Prod, → sc_NI] | grind [-Prod, I_NI, o_bn, upd]) | (first | with_reducible exact True.intro | with_reducible assumption | grind [-Prod] | grind [-Prod, → sc_NI] | grind [-Prod, I_NI, o_bn, upd])
theorem l_MM_feed_b36 {n : Nat} {x1 : Int32} {x2 : Int32} {x3 : Int32} {x4 : Int32} {x5 : Int32} {z : Int32 × SNI} {f0 : Int32} (hn : o_big ≤ n) (p0 : 0 ≤ f0) (p1 : f0 ≤ 8180) (l0 : z.1 ≤ 20) (l1 : NI_fed z.2 = f0 + z.1) (l2 : NI_err z.2 = 0) (l3 : 0 ≤ z.1) (l4 : I_NI z.2) : o_ok (o_lp n (m_MM_feed_b36 n x1 x2 x3 x4 x5) z) (fun q => q.1 ≠ 0 ∧ NI_fed q.2.2 = f0 + 20 ∧ NI_err q.2.2 = 0 ∧ I_NI q.2.2) := by
  exact o_lpR (fun z => z.1 ≤ 20 ∧ NI_fed z.2 = f0 + z.1 ∧ NI_err z.2 = 0 ∧ 0 ≤ z.1 ∧ I_NI z.2) (fun z => o_mu z.1) hn (o_muB) ⟨l0, l1, l2, l3, l4⟩
    (fun z hz => by obtain ⟨l0, l1, l2, l3, l4⟩ := hz; exact o_okW (s_MM_feed_b36 (f0 := f0) hn p0 p1 l0 l1 l2 l3 l4) (fun q hq => ⟨fun h => by have := hq.1 h; grind, hq.2⟩))
theorem s_MM_feed {n : Nat} {x1 : Int32} {x2 : Int32} {x3 : Int32} {x4 : Int32} {x5 : Int32} {Ni : SNI} (hn : o_big ≤ n) (h_Ni : I_NI Ni) : o_ok (m_MM_feed n x1 x2 x3 x4 x5 Ni) (fun r => (NI_fed Ni + 20 ≤ 8200 → NI_fed r.2 = NI_fed Ni + 20 ∧ NI_err r.2 = 0 ∧ r.1 = NI_fed Ni + 20) ∧ (¬ NI_fed Ni + 20 ≤ 8200 → NI_fed r.2 = NI_fed Ni ∧ NI_err r.2 = 1) ∧ I_NI r.2) := by
  unfold m_MM_feed
  refine o_okI (fun c1 => ?_) (fun c1 => ?_)
  · unfold m_MM_feed_j24
    refine o_okB (s_MM_fails  ⟨h_Ni.1, h_Ni.2⟩ (by first | with_reducible exact True.intro | with_reducible assumption | grind [-Prod] | grind [-Prod, → sc_NI] | grind [-Prod, I_NI, o_bn, upd])) ?_
    intro q1_2 ⟨g3, g4, g5, g6, g7, g8⟩
    refine o_okI (fun c9 => ?_) (fun c9 => ?_)
    · refine o_okB (l_MM_feed_b36 (f0 := NI_fed (NI_mk (0:Int32) (NI_fed Ni) (NI_wrong Ni) (NI_octets Ni))) hn (by first | with_reducible exact True.intro | with_reducible assumption | grind [-Prod] | grind [-Prod, → sc_NI] | grind [-Prod, I_NI, o_bn, upd]) (by first | with_reducible exact True.intro | with_reducible assumption | grind [-Prod] | grind [-Prod, → sc_NI] | grind [-Prod, I_NI, o_bn, upd]) (by first | with_reducible exact True.intro | with_reducible assumption | grind [-Prod] | grind [-Prod, → sc_NI] | grind [-Prod, I_NI, o_bn, upd]) (by first | with_reducible exact True.intro | with_reducible assumption | grind [-Prod] | grind [-Prod, → sc_NI] | grind [-Prod, I_NI, o_bn, upd]) (by first | with_reducible exact True.intro | with_reducible assumption | grind [-Prod] | grind [-Prod, → sc_NI] | grind [-Prod, I_NI, o_bn, upd]) (by first | with_reducible exact True.intro | with_reducible assumption | grind [-Prod] | grind [-Prod, → sc_NI] | grind [-Prod, I_NI, o_bn, upd]) g8) ?_
      intro q2_10 ⟨yq2_10, g11, g12, g13⟩
      refine o_okS ?_
      refine ⟨?_, ?_, ?_⟩
      · first | with_reducible exact True.intro | with_reducible assumption | grind [-Prod] | grind [-Prod, → sc_NI] | grind [-Prod, I_NI, o_bn, upd]
      · first | with_reducible exact True.intro | with_reducible assumption | grind [-Prod] | grind [-Prod, → sc_NI] | grind [-Prod, I_NI, o_bn, upd]
      · exact g13
    · refine o_okS ?_
      refine ⟨?_, ?_, ?_⟩
      · first | with_reducible exact True.intro | with_reducible assumption | grind [-Prod] | grind [-Prod, → sc_NI] | grind [-Prod, I_NI, o_bn, upd]
      · first | with_reducible exact True.intro | with_reducible assumption | grind [-Prod] | grind [-Prod, → sc_NI] | grind [-Prod, I_NI, o_bn, upd]
      · exact g8
  · unfold m_MM_feed_j24
    refine o_okB (s_MM_fails  ⟨h_Ni.1, h_Ni.2⟩ (by first | with_reducible exact True.intro | with_reducible assumption | grind [-Prod] | grind [-Prod, → sc_NI] | grind [-Prod, I_NI, o_bn, upd])) ?_
    intro q1_14 ⟨g15, g16, g17, g18, g19, g20⟩
    refine o_okI (fun c21 => ?_) (fun c21 => ?_)
    · refine o_okB (l_MM_feed_b36 (f0 := NI_fed (NI_mk (0:Int32) (NI_fed Ni) (NI_wrong Ni) (NI_octets Ni))) hn (by first | with_reducible exact True.intro | with_reducible assumption | grind [-Prod] | grind [-Prod, → sc_NI] | grind [-Prod, I_NI, o_bn, upd]) (by first | with_reducible exact True.intro | with_reducible assumption | grind [-Prod] | grind [-Prod, → sc_NI] | grind [-Prod, I_NI, o_bn, upd]) (by first | with_reducible exact True.intro | with_reducible assumption | grind [-Prod] | grind [-Prod, → sc_NI] | grind [-Prod, I_NI, o_bn, upd]) (by first | with_reducible exact True.intro | with_reducible assumption | grind [-Prod] | grind [-Prod, → sc_NI] | grind [-Prod, I_NI, o_bn, upd]) (by first | with_reducible exact True.intro | with_reducible assumption | grind [-Prod] | grind [-Prod, → sc_NI] | grind [-Prod, I_NI, o_bn, upd]) (by first | with_reducible exact True.intro | with_reducible assumption | grind [-Prod] | grind [-Prod, → sc_NI] | grind [-Prod, I_NI, o_bn, upd]) g20) ?_
      intro q2_22 ⟨yq2_22, g23, g24, g25⟩
      refine o_okS ?_
      refine ⟨?_, ?_, ?_⟩
      · first | with_reducible exact True.intro | with_reducible assumption | grind [-Prod] | grind [-Prod, → sc_NI] | grind [-Prod, I_NI, o_bn, upd]
      · first | with_reducible exact True.intro | with_reducible assumption | grind [-Prod] | grind [-Prod, → sc_NI] | grind [-Prod, I_NI, o_bn, upd]
      · exact g25
    · refine o_okS ?_
      refine ⟨?_, ?_, ?_⟩
      · first | with_reducible exact True.intro | with_reducible assumption | grind [-Prod] | grind [-Prod, → sc_NI] | grind [-Prod, I_NI, o_bn, upd]
      · first | with_reducible exact True.intro | with_reducible assumption | grind [-Prod] | grind [-Prod, → sc_NI] | grind [-Prod, I_NI, o_bn, upd]
      · exact g20
theorem s_MM_wrong {Ni : SNI} (h_Ni : I_NI Ni) : o_ok (m_MM_wrong Ni) (fun r => NI_fed r.2 = NI_fed Ni ∧ I_NI r.2) := by
  unfold m_MM_wrong
  refine o_okS ?_
  refine ⟨?_, ?_⟩
  · first | with_reducible exact True.intro | with_reducible assumption | grind [-Prod] | grind [-Prod, → sc_NI] | grind [-Prod, I_NI, o_bn, upd]
  · exact ⟨h_Ni.1, h_Ni.2⟩
theorem s_MM_fault_1 {Ni : SNI} {Nf : SNF} (h_Ni : I_NI Ni) : o_ok (m_MM_fault_1 Ni Nf) (fun r => NI_fed r.2 = NI_fed Ni ∧ I_NI r.2) := by
  unfold m_MM_fault_1
  refine o_okS ?_
  refine ⟨?_, ?_⟩
  · first | with_reducible exact True.intro | with_reducible assumption | grind [-Prod] | grind [-Prod, → sc_NI] | grind [-Prod, I_NI, o_bn, upd]
  · exact ⟨h_Ni.1, h_Ni.2⟩
theorem s_MM_pairs {Ni : SNI} {Nq : SNQ} (h_Ni : I_NI Ni) (h_Nq : I_NQ Nq) : o_ok (m_MM_pairs Ni Nq) (fun r => NI_fed r.2 = NI_fed Ni ∧ I_NI r.2) := by
  unfold m_MM_pairs
  refine o_okS ?_
  refine ⟨?_, ?_⟩
  · first | with_reducible exact True.intro | with_reducible assumption | grind [-Prod] | grind [-Prod, → sc_NI, → sc_NQ] | grind [-Prod, I_NI, I_NQ, o_bn, upd]
  · exact ⟨h_Ni.1, h_Ni.2⟩
theorem s_MM_pair_1 {x1 : Int32} {x2 : Int32} {Ni : SNI} {Nq : SNQ} (h_Ni : I_NI Ni) (h_Nq : I_NQ Nq) : o_ok (m_MM_pair_1 x1 x2 Ni Nq) (fun r => NI_fed r.2 = NI_fed Ni ∧ I_NI r.2) := by
  unfold m_MM_pair_1
  refine o_okB (s_MM_in ) ?_
  intro q1_1 ⟨g2, g3⟩
  refine o_okI (fun c4 => ?_) (fun c4 => ?_)
  · unfold m_MM_pair_1_j25
    refine o_okB (s_MM_fails  ⟨h_Ni.1, h_Ni.2⟩ (by first | with_reducible exact True.intro | with_reducible assumption | grind [-Prod] | grind [-Prod, → sc_NI, → sc_NQ] | grind [-Prod, I_NI, I_NQ, o_bn, upd])) ?_
    intro q2_5 ⟨g6, g7, g8, g9, g10, g11⟩
    refine o_okI (fun c12 => ?_) (fun c12 => ?_)
    · refine o_okI (fun c13 => ?_) (fun c13 => ?_)
      · refine o_okG (o_inM (m := 300) rfl (by first | with_reducible exact True.intro | with_reducible assumption | grind [-Prod] | grind [-Prod, → sc_NI, → sc_NQ] | grind [-Prod, I_NI, I_NQ, o_bn, upd]) (by first | with_reducible exact True.intro | with_reducible assumption | grind [-Prod] | grind [-Prod, → sc_NI, → sc_NQ] | grind [-Prod, I_NI, I_NQ, o_bn, upd])) ?_
        refine o_okS ?_
        refine ⟨?_, ?_⟩
        · first | with_reducible exact True.intro | with_reducible assumption | grind [-Prod] | grind [-Prod, → sc_NI, → sc_NQ] | grind [-Prod, I_NI, I_NQ, o_bn, upd]
        · exact g11
      · refine o_okG (o_inM (m := 300) rfl (by first | with_reducible exact True.intro | with_reducible assumption | grind [-Prod] | grind [-Prod, → sc_NI, → sc_NQ] | grind [-Prod, I_NI, I_NQ, o_bn, upd]) (by first | with_reducible exact True.intro | with_reducible assumption | grind [-Prod] | grind [-Prod, → sc_NI, → sc_NQ] | grind [-Prod, I_NI, I_NQ, o_bn, upd])) ?_
        refine o_okS ?_
        refine ⟨?_, ?_⟩
        · first | with_reducible exact True.intro | with_reducible assumption | grind [-Prod] | grind [-Prod, → sc_NI, → sc_NQ] | grind [-Prod, I_NI, I_NQ, o_bn, upd]
        · exact g11
    · refine o_okS ?_
      refine ⟨?_, ?_⟩
      · first | with_reducible exact True.intro | with_reducible assumption | grind [-Prod] | grind [-Prod, → sc_NI, → sc_NQ] | grind [-Prod, I_NI, I_NQ, o_bn, upd]
      · exact g11
  · unfold m_MM_pair_1_j25
    refine o_okB (s_MM_fails  ⟨h_Ni.1, h_Ni.2⟩ (by first | with_reducible exact True.intro | with_reducible assumption | grind [-Prod] | grind [-Prod, → sc_NI, → sc_NQ] | grind [-Prod, I_NI, I_NQ, o_bn, upd])) ?_
    intro q2_14 ⟨g15, g16, g17, g18, g19, g20⟩
    refine o_okI (fun c21 => ?_) (fun c21 => ?_)
    · refine o_okI (fun c22 => ?_) (fun c22 => ?_)
      · refine o_okG (o_inM (m := 300) rfl (by first | with_reducible exact True.intro | with_reducible assumption | grind [-Prod] | grind [-Prod, → sc_NI, → sc_NQ] | grind [-Prod, I_NI, I_NQ, o_bn, upd]) (by first | with_reducible exact True.intro | with_reducible assumption | grind [-Prod] | grind [-Prod, → sc_NI, → sc_NQ] | grind [-Prod, I_NI, I_NQ, o_bn, upd])) ?_
        refine o_okS ?_
        refine ⟨?_, ?_⟩
        · first | with_reducible exact True.intro | with_reducible assumption | grind [-Prod] | grind [-Prod, → sc_NI, → sc_NQ] | grind [-Prod, I_NI, I_NQ, o_bn, upd]
        · exact g20
      · refine o_okG (o_inM (m := 300) rfl (by first | with_reducible exact True.intro | with_reducible assumption | grind [-Prod] | grind [-Prod, → sc_NI, → sc_NQ] | grind [-Prod, I_NI, I_NQ, o_bn, upd]) (by first | with_reducible exact True.intro | with_reducible assumption | grind [-Prod] | grind [-Prod, → sc_NI, → sc_NQ] | grind [-Prod, I_NI, I_NQ, o_bn, upd])) ?_
        refine o_okS ?_
        refine ⟨?_, ?_⟩
        · first | with_reducible exact True.intro | with_reducible assumption | grind [-Prod] | grind [-Prod, → sc_NI, → sc_NQ] | grind [-Prod, I_NI, I_NQ, o_bn, upd]
        · exact g20
    · refine o_okS ?_
      refine ⟨?_, ?_⟩
      · first | with_reducible exact True.intro | with_reducible assumption | grind [-Prod] | grind [-Prod, → sc_NI, → sc_NQ] | grind [-Prod, I_NI, I_NQ, o_bn, upd]
      · exact g20
theorem s_MM_count {x1 : Int32} {M0 : SMT} {M1 : SMT} {Ni : SNI} {Nj : SNJ} (h_M0 : I_MT M0) (t_M0 : T_MT M0) (h_M1 : I_MT M1) (t_M1 : T_MT M1) (h_Ni : I_NI Ni) : o_ok (m_MM_count x1 M0 M1 Ni Nj) (fun r => NI_fed r.2 = NI_fed Ni ∧ I_NI r.2) := by
  unfold m_MM_count
  refine o_okB (s_MM_in ) ?_
  intro q1_1 ⟨g2, g3⟩
  refine o_okI (fun c4 => ?_) (fun c4 => ?_)
  · unfold m_MM_count_j20
    refine o_okB (s_MM_fails  ⟨h_Ni.1, h_Ni.2⟩ (by first | with_reducible exact True.intro | with_reducible assumption | grind [-Prod, → sc_EX] | grind [-Prod, → sc_MT, → sc_NI, → sc_EX] | grind [-Prod, I_MT, I_NI, o_bn, upd])) ?_
    intro q2_5 ⟨g6, g7, g8, g9, g10, g11⟩
    refine o_okI (fun c12 => ?_) (fun c12 => ?_)
    · refine o_okI (fun c13 => ?_) (fun c13 => ?_)
      · refine o_okS ?_
        refine ⟨?_, ?_⟩
        · first | with_reducible exact True.intro | with_reducible assumption | grind [-Prod, → sc_EX] | grind [-Prod, → sc_MT, → sc_NI, → sc_EX] | grind [-Prod, I_MT, I_NI, o_bn, upd]
        · exact g11
      · refine o_okI (fun c14 => ?_) (fun c14 => ?_)
        · refine o_okS ?_
          refine ⟨?_, ?_⟩
          · first | with_reducible exact True.intro | with_reducible assumption | grind [-Prod, → sc_EX] | grind [-Prod, → sc_MT, → sc_NI, → sc_EX] | grind [-Prod, I_MT, I_NI, o_bn, upd]
          · exact g11
        · refine o_okI (fun c15 => ?_) (fun c15 => ?_)
          · refine o_okS ?_
            refine ⟨?_, ?_⟩
            · first | with_reducible exact True.intro | with_reducible assumption | grind [-Prod, → sc_EX] | grind [-Prod, → sc_MT, → sc_NI, → sc_EX] | grind [-Prod, I_MT, I_NI, o_bn, upd]
            · exact g11
          · refine o_okS ?_
            refine ⟨?_, ?_⟩
            · first | with_reducible exact True.intro | with_reducible assumption | grind [-Prod, → sc_EX] | grind [-Prod, → sc_MT, → sc_NI, → sc_EX] | grind [-Prod, I_MT, I_NI, o_bn, upd]
            · exact g11
    · refine o_okS ?_
      refine ⟨?_, ?_⟩
      · first | with_reducible exact True.intro | with_reducible assumption | grind [-Prod, → sc_EX] | grind [-Prod, → sc_MT, → sc_NI, → sc_EX] | grind [-Prod, I_MT, I_NI, o_bn, upd]
      · exact g11
  · unfold m_MM_count_j20
    refine o_okB (s_MM_fails  ⟨h_Ni.1, h_Ni.2⟩ (by first | with_reducible exact True.intro | with_reducible assumption | grind [-Prod, → sc_EX] | grind [-Prod, → sc_MT, → sc_NI, → sc_EX] | grind [-Prod, I_MT, I_NI, o_bn, upd])) ?_
    intro q2_16 ⟨g17, g18, g19, g20, g21, g22⟩
    refine o_okI (fun c23 => ?_) (fun c23 => ?_)
    · refine o_okI (fun c24 => ?_) (fun c24 => ?_)
      · refine o_okS ?_
        refine ⟨?_, ?_⟩
        · first | with_reducible exact True.intro | with_reducible assumption | grind [-Prod, → sc_EX] | grind [-Prod, → sc_MT, → sc_NI, → sc_EX] | grind [-Prod, I_MT, I_NI, o_bn, upd]
        · exact g22
      · refine o_okI (fun c25 => ?_) (fun c25 => ?_)
        · refine o_okS ?_
          refine ⟨?_, ?_⟩
          · first | with_reducible exact True.intro | with_reducible assumption | grind [-Prod, → sc_EX] | grind [-Prod, → sc_MT, → sc_NI, → sc_EX] | grind [-Prod, I_MT, I_NI, o_bn, upd]
          · exact g22
        · refine o_okI (fun c26 => ?_) (fun c26 => ?_)
          · refine o_okS ?_
            refine ⟨?_, ?_⟩
            · first | with_reducible exact True.intro | with_reducible assumption | grind [-Prod, → sc_EX] | grind [-Prod, → sc_MT, → sc_NI, → sc_EX] | grind [-Prod, I_MT, I_NI, o_bn, upd]
            · exact g22
          · refine o_okS ?_
            refine ⟨?_, ?_⟩
            · first | with_reducible exact True.intro | with_reducible assumption | grind [-Prod, → sc_EX] | grind [-Prod, → sc_MT, → sc_NI, → sc_EX] | grind [-Prod, I_MT, I_NI, o_bn, upd]
            · exact g22
    · refine o_okS ?_
      refine ⟨?_, ?_⟩
      · first | with_reducible exact True.intro | with_reducible assumption | grind [-Prod, → sc_EX] | grind [-Prod, → sc_MT, → sc_NI, → sc_EX] | grind [-Prod, I_MT, I_NI, o_bn, upd]
      · exact g22
/-! The reference's public ways -/
def SQ (z : Int32 × SNQ) : Prop := (0 ≤ z.1 ∧ z.1 ≤ 299) ∧ I_NQ z.2
def SQ2 (z : Int32 × SNQ) : Prop := 0 ≤ z.1 ∧ I_NQ z.2
def SQ3 (z : Int32 × Int32 × SNQ) : Prop := (0 ≤ z.1 ∧ z.1 ≤ z.2.1 ∧ z.2.1 ≤ 300) ∧ I_NQ z.2.2
theorem a1 {x : Int32} (h : 0 ≤ x) (h2 : x < 300) : 0 ≤ x + 1 ∧ x < x + 1 ∧ x + 1 ≤ 300 := by
  refine ⟨?_, ?_, ?_⟩ <;> grind
theorem a2 {x : Int32} (h : ¬ x ≤ 0) (h2 : x ≤ 299) : 0 ≤ x - 1 ∧ x - 1 < 300 ∧ 0 ≤ x + -1 ∧ x + -1 ≤ 299 ∧ x + -1 < x := by
  refine ⟨?_, ?_, ?_, ?_, ?_⟩ <;> grind
theorem s_MM_sortI {n : Nat} {x1 x2 x3 : Int32} {z : Int32 × SNQ} (hn : o_big ≤ n) (hz : SQ z) : o_ok (o_lp n (m_MM_sort_b27 n x1 x2 x3) z) (fun q => q.1 ≠ 0 ∧ SQ q.2) := by
  refine o_lpR SQ (fun z => o_nu z.1) hn o_nuB hz ?_
  intro z ⟨⟨z0, z1⟩, hq⟩
  have i := sc_NQ hq
  unfold m_MM_sort_b27
  refine o_okI (fun _ => o_okS ⟨fun e => absurd e (Nat.succ_ne_zero 0), fun _ => ⟨⟨z0, z1⟩, hq⟩⟩) (fun c => ?_)
  obtain ⟨b0, b1, b2, b3, b4⟩ := a2 c z1
  have g1 := o_inM (m := 300) (n := 300) rfl b0 b1
  have g2 := o_inM (m := 300) (n := 300) rfl z0 (Int32.lt_of_le_of_lt z1 (by decide))
  have j71 : o_ok (m_MM_sort_j71 n x1 x2 x3 z.1 z.2) (fun q => (q.1 = 0 → SQ q.2 ∧ o_nu q.2.1 < o_nu z.1) ∧ (q.1 ≠ 0 → SQ q.2)) := by
    unfold m_MM_sort_j71
    refine o_okG g1 (o_okG g2 (o_okG g1 (o_okG g2 (o_okN (fun u eu => o_okS ⟨fun _ => ⟨⟨?_, hq⟩, ?_⟩, fun e => absurd rfl e⟩)))))
    · show 0 ≤ u ∧ u ≤ 299
      rw [eu]; exact ⟨b2, b3⟩
    · show o_nu u < o_nu z.1
      rw [eu]; exact o_nuL b4
  refine o_okG g1 (o_okI (fun _ => j71) (fun _ => o_okG g1 (o_okI (fun _ => o_okG g1 (o_okI (fun _ => ?_) (fun _ => j71))) (fun _ => ?_))))
  · exact o_okS ⟨fun e => absurd e (Nat.succ_ne_zero 0), fun _ => ⟨⟨z0, z1⟩, hq⟩⟩
  · exact o_okS ⟨fun e => absurd e (Nat.succ_ne_zero 0), fun _ => ⟨⟨z0, z1⟩, hq⟩⟩
theorem s_MM_sortO {n : Nat} {z : Int32 × SNQ} (hn : o_big ≤ n) (hz : SQ2 z) : o_ok (o_lp n (m_MM_sort_b2 n) z) (fun q => q.1 ≠ 0 ∧ I_NQ q.2.2) := by
  refine o_lpR SQ2 (fun z => o_mu z.1) hn o_muB hz ?_
  intro z ⟨z0, hq⟩
  have i := sc_NQ hq
  unfold m_MM_sort_b2
  refine o_okI (fun _ => o_okS ⟨fun e => absurd e (Nat.succ_ne_zero 0), fun _ => hq⟩) (fun c => ?_)
  have z1 : z.1 < 300 := Int32.lt_of_lt_of_le (Int32.not_le.mp c) i.2
  have z2 : z.1 ≤ 299 := by clear hz hq i c; grind
  obtain ⟨b0, b1, b2⟩ := a1 z0 z1
  have g := o_inM (m := 300) (n := 300) rfl z0 z1
  refine o_okG g (o_okN (fun p _ => o_okG g (o_okN (fun k _ => ?_))))
  refine o_okB (s_MM_sortI hn (z := (z.1, z.2)) ⟨⟨z0, z2⟩, hq⟩) ?_
  intro q1 ⟨_, h1, h2⟩
  have g2 := o_inM (m := 300) (n := 300) rfl h1.1 (Int32.lt_of_le_of_lt h1.2 (by decide))
  unfold m_MM_sort_j109
  refine o_okG g2 (o_okG g2 (o_okN (fun u eu => o_okS ⟨fun _ => ⟨⟨?_, h2⟩, ?_⟩, fun e => absurd rfl e⟩)))
  · show 0 ≤ u
    rw [eu]; exact b0
  · show o_mu u < o_mu z.1
    rw [eu]; exact o_muL b1
theorem s_MM_sortU {n : Nat} {z : Int32 × Int32 × SNQ} (hn : o_big ≤ n) (hz : SQ3 z) : o_ok (o_lp n (m_MM_sort_b135 n) z) (fun q => q.1 ≠ 0 ∧ SQ3 q.2) := by
  refine o_lpR SQ3 (fun z => o_mu z.2.1) hn o_muB hz ?_
  intro z ⟨⟨z0, z1, z2⟩, hq⟩
  have i := sc_NQ hq
  unfold m_MM_sort_b135
  refine o_okI (fun _ => o_okS ⟨fun e => absurd e (Nat.succ_ne_zero 0), fun _ => ⟨⟨z0, z1, z2⟩, hq⟩⟩) (fun c => ?_)
  have y1 : z.2.1 < 300 := Int32.lt_of_lt_of_le (Int32.not_le.mp c) i.2
  have y0 : 0 ≤ z.2.1 := Int32.le_trans z0 z1
  have x1 : z.1 < 300 := Int32.lt_of_le_of_lt z1 y1
  obtain ⟨b0, b1, b2⟩ := a1 y0 y1
  obtain ⟨d0, d1, d2⟩ := a1 z0 x1
  have gy := o_inM (m := 300) (n := 300) rfl y0 y1
  have gx := o_inM (m := 300) (n := 300) rfl z0 x1
  have le1 : z.1 + 1 ≤ z.2.1 + 1 := by clear hz hq i c gy gx; grind
  have j184 : o_ok (m_MM_sort_j184 n z.1 z.2.1 z.2.2) (fun q => (q.1 = 0 → SQ3 q.2 ∧ o_mu q.2.2.1 < o_mu z.2.1) ∧ (q.1 ≠ 0 → SQ3 q.2)) := by
    unfold m_MM_sort_j184
    refine o_okG gy (o_okG gx (o_okN (fun u eu => o_okG gy (o_okG gx (o_okN (fun v ev => o_okS ⟨fun _ => ⟨⟨?_, hq⟩, ?_⟩, fun e => absurd rfl e⟩))))))
    · show 0 ≤ u ∧ u ≤ v ∧ v ≤ 300
      rw [eu, ev]; exact ⟨d0, le1, b2⟩
    · show o_mu v < o_mu z.2.1
      rw [ev]; exact o_muL b1
  refine o_okI (fun _ => j184) (fun c2 => ?_)
  obtain ⟨e0, e1, _⟩ := a2 c2 (by clear hz hq i c gy gx j184; grind)
  have g1 := o_inM (m := 300) (n := 300) rfl e0 e1
  refine o_okG g1 (o_okG gy (o_okI (fun _ => o_okG g1 (o_okG gy (o_okI (fun _ => ?_) (fun _ => j184)))) (fun _ => j184)))
  refine o_okN (fun v ev => o_okS ⟨fun _ => ⟨⟨?_, hq⟩, ?_⟩, fun e => absurd rfl e⟩)
  · show 0 ≤ z.1 ∧ z.1 ≤ v ∧ v ≤ 300
    rw [ev]; exact ⟨z0, Int32.le_of_lt (Int32.lt_of_le_of_lt z1 b1), b2⟩
  · show o_mu v < o_mu z.2.1
    rw [ev]; exact o_muL b1
theorem s_MM_sort {n : Nat} {Nq : SNQ} (hn : o_big ≤ n) (h : I_NQ Nq) : o_ok (m_MM_sort n Nq) (fun r => I_NQ r) := by
  unfold m_MM_sort
  refine o_okB (s_MM_sortO hn (z := ((1:Int32), Nq)) ⟨show (0:Int32) ≤ 1 by decide, h⟩) ?_
  intro q2 ⟨_, h2⟩
  refine o_okB (s_MM_sortU hn (z := ((0:Int32), (0:Int32), q2.2.2)) ⟨⟨Int32.le_refl _, Int32.le_refl _, show (0:Int32) ≤ 300 by decide⟩, h2⟩) ?_
  intro q3 ⟨_, ⟨h3, h4, h5⟩, _⟩
  exact o_okS ⟨h3, Int32.le_trans h4 h5⟩
def VPs (M1 : SMT) (Ni : SNI) (r : Int32 × SMT × SNI × SNP × SNO × SNX × SNQ × SNJ × Nat) : Prop := LF M1 r.2.1 ∧ (NI_fed r.2.2.1 = NI_fed Ni ∧ I_NI r.2.2.1) ∧ I_NP r.2.2.2.1 ∧ I_NQ r.2.2.2.2.2.2.1
theorem s_MM_validate {n : Nat} {M0 M1 : SMT} {Ni : SNI} {Np : SNP} {No : SNO} {Nx : SNX} {Nf : SNF} {Na : SNA} {Nq : SNQ} {Nj : SNJ} {rt : Nat} (hn : o_big ≤ n) (hI : I_MT M0) (hT : T_MT M0) (hI1 : I_MT M1) (hT1 : T_MT M1) (hM : IMx n M0 M1) (hV : NF_checked Nf ≠ 0 → KVx M0 Na) (hN : I_NI Ni) (hP : I_NP Np) (hQ : I_NQ Nq) : o_ok (m_MM_validate n M0 M1 Ni Np No Nx Nf Na Nq Nj rt) (VPs M1 Ni) := by
  have j91 : ∀ (x1 : Int32) (M : SMT) (Ni' : SNI) (Np : SNP) (No : SNO) (Nx : SNX) (Nq : SNQ) (Nj : SNJ) (rt : Nat), (x1 = 0 ∨ x1 = 1) → LF M1 M → NI_fed Ni' = NI_fed Ni → I_NI Ni' → I_NP Np → I_NQ Nq → o_ok (m_MM_validate_j91 n x1 M0 M Ni' Np No Nx Nf Na Nq Nj rt) (VPs M1 Ni) := by
    intro x1 M Ni' Np No Nx Nq Nj rt h1 hM1 hf hN' hP' hQ'
    unfold m_MM_validate_j91
    refine o_okB (s_MM_fails hN' (show (2:Int32) ≠ 0 by decide)) ?_
    intro q3 ⟨_, _, _, e4, _, e6⟩
    refine o_okI (fun _ => ?_) (fun _ => o_okS ⟨hM1, ⟨e4.trans hf, e6⟩, hP', hQ'⟩)
    refine o_okB (s_MM_sort hn hQ') ?_
    intro q4 h4
    exact o_okG (o_zbM h1) (o_okS ⟨hM1, ⟨e4.trans hf, e6⟩, hP', h4⟩)
  have z300 : (0:Int32) ≤ 0 ∧ (0:Int32) ≤ 300 := by decide
  have j38 : ∀ (y : Int32), (y = 0 → MT_values M1 ≠ 0 ∧ MT_values M0 ≠ 0 ∧ NF_checked Nf ≠ 0) → o_ok (m_MM_validate_j38 n y M0 M1 (NI_mk (0:Int32) (NI_fed Ni) (NI_wrong Ni) (NI_octets Ni)) Np No Nx Nf Na Nq Nj rt) (VPs M1 Ni) := by
    intro y hy
    unfold m_MM_validate_j38
    refine o_okB (s_MM_fails (Ni := NI_mk (0:Int32) (NI_fed Ni) (NI_wrong Ni) (NI_octets Ni)) hN (show (1:Int32) ≠ 0 by decide)) ?_
    intro q1 ⟨_, e2, _, e4, _, e6⟩
    refine o_okI (fun e => ?_) (fun _ => o_okS ⟨LF_rfl, ⟨e4, e6⟩, hP, hQ⟩)
    obtain ⟨n1, n0, nc⟩ := hy (e2 e)
    have p0 : 0 < MT_values M0 := by have i := sc_MT hI; clear hV hT hT1 hM j91; grind
    have p1 : 0 < MT_values M1 := by have i := sc_MT hI1; clear hV hT hT1 hM j91; grind
    have hc : JC n M0 M1 Na := ⟨hn, hI, hT, hI1, hT1, hV nc, hM⟩
    refine o_okB (s_MM_judge hc 104 0 (Int32.le_refl _) (by decide) (by decide) 0 0 M1 _ _ _ (NQ_mk (NQ_pairValue Nq) (NQ_pairKey Nq) (0:Int32)) (NJ_mk (0:Int32) (0:Int32) (0:Int32) (0:Int32) (NJ_seen Nj)) _ (Int32.le_refl _) p0 (Int32.le_refl _) p1 ⟨LF_rfl, hP, z300, rfl⟩) ?_
    intro q2 h2
    exact o_okI (fun _ => j91 _ _ _ _ _ _ _ _ _ h2.1 h2.2.1 e4 e6 h2.2.2.1 h2.2.2.2.1) (fun _ => j91 _ _ _ _ _ _ _ _ _ h2.1 h2.2.1 e4 e6 h2.2.2.1 z300)
  unfold m_MM_validate
  have c1 : (1:Int32) = 0 → MT_values M1 ≠ 0 ∧ MT_values M0 ≠ 0 ∧ NF_checked Nf ≠ 0 := fun e => absurd e (by decide)
  exact o_okI (fun _ => j38 1 c1) (fun n1 => o_okI (fun _ => j38 1 c1) (fun n2 => o_okI (fun _ => j38 1 c1) (fun n3 => j38 0 (fun _ => ⟨n1, n2, n3⟩))))
theorem in_val {s : SMT} {x : Int32} (hI : I_MT s) (h : 0 ≤ x ∧ x ≤ MT_values s - 1) : 0 ≤ x ∧ x < MT_values s := by
  have i := sc_MT hI
  refine ⟨h.1, ?_⟩
  clear hI
  grind
theorem s_MM_alike {n : Nat} {x1 x2 : Int32} {M1 : SMT} {Ni : SNI} (hn : o_big ≤ n) (hI : I_MT M1) (hT : T_MT M1) (hN : I_NI Ni) : o_ok (m_MM_alike n x1 x2 M1 Ni) (fun r => NI_fed r.2 = NI_fed Ni ∧ I_NI r.2) := by
  have j45 : ∀ y : Int32, (y = 0 → (0 ≤ x1 ∧ x1 < MT_values M1) ∧ (0 ≤ x2 ∧ x2 < MT_values M1)) → o_ok (m_MM_alike_j45 n x1 x2 y M1 (NI_mk (0:Int32) (NI_fed Ni) (NI_wrong Ni) (NI_octets Ni))) (fun r => NI_fed r.2 = NI_fed Ni ∧ I_NI r.2) := by
    intro y hy
    unfold m_MM_alike_j45
    refine o_okB (s_MM_fails (Ni := NI_mk (0:Int32) (NI_fed Ni) (NI_wrong Ni) (NI_octets Ni)) hN (show (1:Int32) ≠ 0 by decide)) ?_
    intro q1 ⟨_, e2, _, e4, _, e6⟩
    refine o_okI (fun e => ?_) (fun _ => o_okS ⟨e4, e6⟩)
    obtain ⟨⟨v0, v1⟩, w0, w1⟩ := hy (e2 e)
    refine o_okB (s_MT_alike hn hI hT hI hT v0 v1 w0 w1 ?_) ?_
    · have a := Int32.le_iff_toInt_le.mp v0
      have z : (0 : Int32).toInt = 0 := rfl
      rw [z] at a
      omega
    intro q3 h3
    exact o_okG (o_zbM h3) (o_okS ⟨e4, e6⟩)
  have b1 := j45 1 (fun e => absurd e (by decide))
  unfold m_MM_alike
  refine o_okB s_MM_in ?_
  intro q1 ⟨_, h1⟩
  refine o_okI (fun _ => b1) (fun c1 => ?_)
  refine o_okB s_MM_in ?_
  intro q4 ⟨_, h4⟩
  exact o_okI (fun _ => b1) (fun c4 => j45 0 (fun _ => ⟨in_val hI (h1 c1), in_val hI (h4 c4)⟩))
theorem s_MM_matches_1 {n : Nat} {x1 x2 : Int32} {M1 : SMT} {Ni : SNI} {Np : SNP} {No : SNO} {Nx : SNX} {rt : Nat} (hn : o_big ≤ n) (hI : I_MT M1) (hT : T_MT M1) (hN : I_NI Ni) (hP : I_NP Np) : o_ok (m_MM_matches_1 n x1 x2 M1 Ni Np No Nx rt) (fun r => (NI_fed r.2.1 = NI_fed Ni ∧ I_NI r.2.1) ∧ I_NP r.2.2.1) := by
  have j96 : ∀ (y : Int32) (Ni' : SNI) (Np : SNP) (No : SNO) (rt : Nat), NI_fed Ni' = NI_fed Ni → I_NI Ni' → I_NP Np → (y = 0 → (0 ≤ x1 ∧ x1 < MT_values M1) ∧ MT_kind M1 (gi x1) = 4 ∧ PRG No) → o_ok (m_MM_matches_1_j96 n x1 y M1 Ni' Np No Nx rt) (fun r => (NI_fed r.2.1 = NI_fed Ni ∧ I_NI r.2.1) ∧ I_NP r.2.2.1) := by
    intro y Ni' Np No rt hf hN' hP' hy
    unfold m_MM_matches_1_j96
    refine o_okB (s_MM_fails hN' (show (2:Int32) ≠ 0 by decide)) ?_
    intro q1 ⟨_, e2, _, e4, _, e6⟩
    refine o_okI (fun e => ?_) (fun _ => o_okS ⟨⟨e4.trans hf, e6⟩, hP'⟩)
    obtain ⟨⟨v0, v1⟩, vk, hG⟩ := hy (e2 e)
    refine o_okB (s_MM_matches hn hG hP' hI hT v0 v1 vk) ?_
    intro q4 h4
    exact o_okG (o_zbM h4) (o_okS ⟨⟨e4.trans hf, e6⟩, hP'⟩)
  have one : ∀ P : Prop, (1:Int32) = 0 → P := fun P e => absurd e (by decide)
  have j45 : ∀ y : Int32, (y = 0 → (0 ≤ x1 ∧ x1 < MT_values M1) ∧ (0 ≤ x2 ∧ x2 < MT_values M1)) → o_ok (m_MM_matches_1_j45 n x1 x2 y M1 (NI_mk (0:Int32) (NI_fed Ni) (NI_wrong Ni) (NI_octets Ni)) Np No Nx rt) (fun r => (NI_fed r.2.1 = NI_fed Ni ∧ I_NI r.2.1) ∧ I_NP r.2.2.1) := by
    intro y hy
    unfold m_MM_matches_1_j45
    refine o_okB (s_MM_fails (Ni := NI_mk (0:Int32) (NI_fed Ni) (NI_wrong Ni) (NI_octets Ni)) hN (show (1:Int32) ≠ 0 by decide)) ?_
    intro q1 ⟨_, e2, _, e4, _, e6⟩
    refine o_okI (fun e => ?_) (fun _ => o_okS ⟨⟨e4, e6⟩, hP⟩)
    obtain ⟨⟨v0, v1⟩, w0, w1⟩ := hy (e2 e)
    refine o_okG (o_inV hI v0 v1) (o_okI (fun k1 => ?_) (fun _ => j96 _ _ _ _ _ e4 e6 hP (one _)))
    refine o_okG (o_inV hI w0 w1) (o_okI (fun k2 => ?_) (fun _ => j96 _ _ _ _ _ e4 e6 hP (one _)))
    refine o_okB (s_MM_isPattern hn hI hT w0 w1 k2 hP) ?_
    intro q5 ⟨_, p2, _, p4⟩
    exact o_okI (fun _ => j96 _ _ _ _ _ e4 e6 p2 (one _)) (fun ne => j96 _ _ _ _ _ e4 e6 p2 (fun _ => ⟨⟨v0, v1⟩, k1, p4 ne⟩))
  have b1 := j45 1 (one _)
  unfold m_MM_matches_1
  refine o_okB s_MM_in ?_
  intro q1 ⟨_, h1⟩
  refine o_okI (fun _ => b1) (fun c1 => ?_)
  refine o_okB s_MM_in ?_
  intro q4 ⟨_, h4⟩
  exact o_okI (fun _ => b1) (fun c4 => j45 0 (fun _ => ⟨in_val hI (h1 c1), in_val hI (h4 c4)⟩))
