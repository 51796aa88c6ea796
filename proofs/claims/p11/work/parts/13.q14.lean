/-! Values -/
theorem rr_wTop {tc : STx} {a : SMT} {k p p' x s : Int32} (c1 : Tx_total tc = MT_values a) (c2 : 0 ≤ MT_values a) (hv : MT_values a < 1000) (hat : MT_at a = p) (hk : 0 ≤ k ∧ k ≤ 2) : TOP tc a x s (bgT tc k p x s) (atM (frM a x k) p') := by
  have neM : ∀ y : Int32, 0 ≤ y → y < MT_values a → y.toNatClampNeg ≠ (MT_values a).toNatClampNeg := fun y y0 y1 => o_neq y0 c2 (by grind)
  have neT : ∀ y : Int32, 0 ≤ y → y < MT_values a → y.toNatClampNeg ≠ (Tx_total tc).toNatClampNeg := by rw [c1]; exact neM
  have E : ∀ (f : Nat → Int32) (z : Int32), upd f (Tx_total tc).toNatClampNeg z (MT_values a).toNatClampNeg = z := fun f z => rr_upE c1.symm
  have Z : ∀ (f : Nat → Int32) (z : Int32), upd f (MT_values a).toNatClampNeg z (MT_values a).toNatClampNeg = z := fun f z => o_updE
  refine ⟨by show MT_values a < MT_values a + 1; grind, ⟨Int32.le_refl _, by show Tx_total tc ≤ Tx_total tc + 1; rw [c1]; grind, fun _ _ _ => rfl, fun y y0 y1 => ?_⟩, ⟨Int32.le_refl _, Int32.le_refl _, fun _ _ _ => rfl, fun _ _ _ => rfl, fun y y0 y1 => ?_⟩, ?_, E _ _, E _ _, E _ _, Z _ _, Z _ _⟩
  · have n := neT y y0 y1
    exact ⟨o_updN n, o_updN n, o_updN n, o_updN n, o_updN n, o_updN n, o_updN n, o_updN n, o_updN n⟩
  · have n := neM y y0 y1
    exact ⟨o_updN n, o_updN n, o_updN n, o_updN n, o_updN n, o_updN n, o_updN n, o_updN n, rfl, rfl⟩
  · intro y y0 y1
    replace y1 : y < Tx_total tc + 1 := y1
    rw [c1] at y1
    have ey : y = MT_values a := by grind
    subst ey
    exact NODE_leaf (k := k) (m := 0) (E _ _) (Z _ _) ⟨hk.1, by have := hk.2; grind⟩ ((E _ _).trans (hat.symm.trans (Z _ _).symm)) ((E _ _).trans (Z _ _).symm) ((E _ _).trans (Z _ _).symm) (E _ _) (Z _ _) (by first | decide | (dsimp only <;> decide)) (fun _ => rfl) (fun e => absurd hk.2 (by rw [e]; first | decide | (dsimp only <;> decide))) (fun e => absurd hk.2 (by rw [e]; first | decide | (dsimp only <;> decide)))
theorem rr_wordV {n m str : Nat} {w : Nat → Int32} {L p x s k : Int32} {tc : STx} {Rd : SRd} {a : SMT} (h : RO w L p tc Rd a) (hv : MT_values a < 1000) (hk : 0 ≤ k ∧ k ≤ 2) : o_p2 (o_bd (m_Rd_readWord n str Rd) fun q6 => o_gd (o_zb q6.1) <| some (q6.1, bgT tc k p x s, q6.2)) (o_bd (m_MT_word m str x k a) fun q10 => o_gd (o_zb q10.1) <| some (q10.1, q10.2)) (RV w L p tc a x s) := by
  obtain ⟨b1, b2, b3, c1, c2, c3, c5, c6, c7, c8, c9, c10⟩ := RO_v h
  obtain ⟨hR, hM, hb, hC⟩ := id h
  have hcc : Tx_characters tc = MT_used a := hC.2.2.2.1
  refine q2B (Q := RW L p Rd (frM a x k)) ?_ ?_
  · unfold m_MT_word
    refine q2R (fun q1 e1 => ?_)
    have e1 := rr_fresh e1
    subst e1
    exact rr_word hR ⟨hM.1, hM.2.1, hM.2.2.1, hM.2.2.2⟩ hb
  · rintro ⟨r1, R1⟩ ⟨r1', a1⟩ hW
    rcases hW with ⟨f1, f2, p', f3, f4, f5, f6⟩ | ⟨f1, f2, f3⟩
    · replace f1 : r1 = 1 := f1
      replace f2 : r1' = 1 := f2
      replace f5 : R1 = ps Rd p' := f5
      replace f6 : a1 = atM (frM a x k) p' := f6
      subst f1 f2 f5 f6
      refine q2GL (fun _ => q2GR (fun _ => q2S (Or.inr ⟨rfl, rfl, p', ⟨RdOK_ps hR, ⟨hM.1, rfl, hM.2.2.1, hM.2.2.2⟩, f3, ?_⟩, rr_wTop c1 c2 hv hM.2.1 hk⟩)))
      exact ⟨by show Tx_total tc + 1 = MT_values a + 1; rw [c1], by show 0 ≤ MT_values a + 1; grind, by show MT_values a + 1 ≤ 1000; grind, hcc, c5, c6, c7, by show Tx_used tc ≤ p'; grind, c9, by show MT_written a ≤ p'; grind⟩
    · exact q2GL (fun _ => q2GR (fun _ => q2S (Or.inl ⟨f1, f2, f3⟩)))
theorem rr_wrap {γ δ ε : Type} {o : Option (Int32 × γ × δ)} {o' : Option (Int32 × ε)} {R : Int32 × γ × δ → Int32 × ε → Prop} (h : o_p2 o o' R) : o_p2 (o_bd o fun q => o_gd (o_zb q.1) <| some (q.1, q.2.1, q.2.2)) (o_bd o' fun q => o_gd (o_zb q.1) <| some (q.1, q.2)) R :=
  q2B h (fun _ _ hr => q2GL (fun _ => q2GR (fun _ => q2S hr)))
theorem rr_v40 {n m : Nat} {rec : Int32 → Int32 → Int32 → STx → SRd → Option (Int32 × STx × SRd)} {rec' : Int32 → Int32 → SMT → Option (Int32 × SMT)} {w : Nat → Int32} {L p x s x2 kd q y : Int32} {tc : STx} {Rd : SRd} {a : SMT} (h : RO w L p tc Rd a) (hp : p < L)
    (hq : (kd = 0 ∧ q = 110) ∨ (kd = 1 ∧ q = 102) ∨ (kd = 2 ∧ q = 116) ∨ (kd = 4 ∧ q = 34) ∨ (kd = 3 ∧ y ≠ 0 ∧ q ≠ 110 ∧ q ≠ 116 ∧ q ≠ 102 ∧ q ≠ 34) ∨ (kd = 5 ∧ q = 91 ∧ y = 0 ∧ x2 ≠ 40 ∧ HREC n w L rec rec' (x2 + 1)) ∨ (kd = 6 ∧ q = 123 ∧ y = 0 ∧ x2 ≠ 40 ∧ HREC n w L rec rec' (x2 + 1))) :
    o_p2 (m_Rd_readValue_j40 n rec x s (x2 + 1) kd tc Rd) (m_MT_value_j83 m rec' x x2 q y a) (RV w L p tc a x s) := by
  obtain ⟨b1, b2, b3, c1, c2, c3, c5, c6, c7, c8, c9, c10⟩ := RO_v h
  obtain ⟨hR, hM, hb, hC⟩ := id h
  unfold m_Rd_readValue_j40 m_MT_value_j83
  rw [hR.2.2.1, hM.2.1]
  refine q2L (fun q5 e5 => ?_)
  rcases rr_begin e5 with ⟨g1, g2⟩ | ⟨g1, g2⟩
  · subst g2
    rw [c1] at g1
    refine q2fL (by show ¬ Tx_total tc = -1; rw [c1]; grind) (q2fR (by grind) ?_)
    rcases hq with ⟨rfl, rfl⟩ | ⟨rfl, rfl⟩ | ⟨rfl, rfl⟩ | ⟨rfl, rfl⟩ | ⟨rfl, hy, n1, n2, n3, n4⟩ | ⟨rfl, rfl, hy, hx, hr⟩ | ⟨rfl, rfl, hy, hx, hr⟩
    · exact q2tL rfl (q2tR rfl (rr_wordV h g1 ⟨by first | decide | (dsimp only <;> decide), by first | decide | (dsimp only <;> decide)⟩))
    · exact q2fL (by first | decide | (dsimp only <;> decide)) (q2tL rfl (q2fR (by first | decide | (dsimp only <;> decide)) (q2fR (by first | decide | (dsimp only <;> decide)) (q2tR rfl (rr_wordV h g1 ⟨by first | decide | (dsimp only <;> decide), by first | decide | (dsimp only <;> decide)⟩)))))
    · exact q2fL (by first | decide | (dsimp only <;> decide)) (q2fL (by first | decide | (dsimp only <;> decide)) (q2tL rfl (q2fR (by first | decide | (dsimp only <;> decide)) (q2tR rfl (rr_wordV h g1 ⟨by first | decide | (dsimp only <;> decide), by first | decide | (dsimp only <;> decide)⟩)))))
    · refine q2fL (by first | decide | (dsimp only <;> decide)) (q2fL (by first | decide | (dsimp only <;> decide)) (q2fL (by first | decide | (dsimp only <;> decide)) (q2fL (by first | decide | (dsimp only <;> decide)) (q2tL rfl (q2fR (by first | decide | (dsimp only <;> decide)) (q2fR (by first | decide | (dsimp only <;> decide)) (q2fR (by first | decide | (dsimp only <;> decide)) (q2tR rfl (rr_wrap ?_)))))))))
      exact q2W (rr_string h hp g1) (fun _ _ t => t.1)
    · exact q2fL (by first | decide | (dsimp only <;> decide)) (q2fL (by first | decide | (dsimp only <;> decide)) (q2fL (by first | decide | (dsimp only <;> decide)) (q2tL rfl (q2fR n1 (q2fR n2 (q2fR n3 (q2fR n4 (q2fR hy (rr_wrap (rr_number h g1))))))))))
    · exact q2fL (by first | decide | (dsimp only <;> decide)) (q2fL (by first | decide | (dsimp only <;> decide)) (q2fL (by first | decide | (dsimp only <;> decide)) (q2fL (by first | decide | (dsimp only <;> decide)) (q2fL (by first | decide | (dsimp only <;> decide)) (q2tL rfl (q2fR (by first | decide | (dsimp only <;> decide)) (q2fR (by first | decide | (dsimp only <;> decide)) (q2fR (by first | decide | (dsimp only <;> decide)) (q2fR (by first | decide | (dsimp only <;> decide)) (q2tR hy (q2fR hx (q2tR rfl (rr_wrap (rr_array hr h hp g1))))))))))))))
    · exact q2fL (by first | decide | (dsimp only <;> decide)) (q2fL (by first | decide | (dsimp only <;> decide)) (q2fL (by first | decide | (dsimp only <;> decide)) (q2fL (by first | decide | (dsimp only <;> decide)) (q2fL (by first | decide | (dsimp only <;> decide)) (q2fL (by first | decide | (dsimp only <;> decide)) (q2fR (by first | decide | (dsimp only <;> decide)) (q2fR (by first | decide | (dsimp only <;> decide)) (q2fR (by first | decide | (dsimp only <;> decide)) (q2fR (by first | decide | (dsimp only <;> decide)) (q2tR hy (q2fR hx (q2fR (by first | decide | (dsimp only <;> decide)) (rr_wrap (rr_object hr h hp g1))))))))))))))
  · subst g2
    rw [c1] at g1
    refine q2tL rfl (q2tR (by grind) ?_)
    exact NFr_bad hM.2.2.1 b1
theorem rr_valF {n m : Nat} {rec : Int32 → Int32 → Int32 → STx → SRd → Option (Int32 × STx × SRd)} {rec' : Int32 → Int32 → SMT → Option (Int32 × SMT)} {w : Nat → Int32} {L p x s x2 : Int32} {tc : STx} {Rd : SRd} {a : SMT} (hx0 : 0 ≤ x2) (hx1 : x2 ≤ 40) (hrec : x2 ≠ 40 → HREC n w L rec rec' (x2 + 1)) (h : RO w L p tc (ps Rd p) a) (hsk : ∀ R1, m_Rd_skipBlanks n Rd = some R1 → R1 = ps Rd p) : o_p2 (m_Rd_readValue_F n rec x s (x2 + 1) tc Rd) (m_MT_value_F m rec' x x2 a) (RV w L p tc a x s) := by
  obtain ⟨b1, b2, b3, c1, c2, c3, c5, c6, c7, c8, c9, c10⟩ := RO_v h
  obtain ⟨hR, hM, hb, hC⟩ := id h
  unfold m_Rd_readValue_F m_MT_value_F
  refine q2L (fun R1 e1 => ?_)
  have e1 := hsk R1 e1
  subst e1
  rw [hM.2.1]
  have kR : m_Rd_peek (ps Rd p) = some (PK w L p) := rr_peek hR hb
  have kM : m_MT_c p a = some (PK w L p) := rr_c hM b1 b3
  refine q2Le kR (q2Re kM ?_)
  have hlt : PK w L p ≠ -1 → p < L := PK_lt
  have rng := PK_rng (w := w) (L := L) (p := p)
  generalize PK w L p = q at hlt rng
  have bad : o_p2 (m_Rd_readValue_j31 n rec tc (ps Rd p)) (o_bd (m_MT_bad (MT_at a) a) fun q12 => o_gd (o_zb q12.1) <| some (q12.1, q12.2)) (RV w L p tc a x s) := by
    unfold m_Rd_readValue_j31
    rw [hM.2.1]
    exact NFr_bad hM.2.2.1 b1
  have deep : ∀ (kd y : Int32), (kd = 5 ∧ q = 91 ∨ kd = 6 ∧ q = 123) → y = 0 → o_p2 (if x2 + 1 ≤ (40:Int32) then m_Rd_readValue_j40 n rec x s (x2 + 1) kd tc (ps Rd p) else m_Rd_readValue_j31 n rec tc (ps Rd p)) (m_MT_value_j83 m rec' x x2 q y a) (RV w L p tc a x s) := by
    intro kd y hk hy
    have hp : p < L := hlt (by rcases hk with ⟨_, rfl⟩ | ⟨_, rfl⟩ <;> decide)
    refine q2IL (fun c => ?_) (fun c => ?_)
    · have n40 : x2 ≠ 40 := by grind
      refine rr_v40 h hp ?_
      rcases hk with ⟨e1, e2⟩ | ⟨e1, e2⟩
      · exact Or.inr (Or.inr (Or.inr (Or.inr (Or.inr (Or.inl ⟨e1, e2, hy, n40, hrec n40⟩)))))
      · exact Or.inr (Or.inr (Or.inr (Or.inr (Or.inr (Or.inr ⟨e1, e2, hy, n40, hrec n40⟩)))))
    · have n40 : x2 = 40 := by grind
      unfold m_MT_value_j83
      refine q2IR (fun _ => bad) (fun _ => ?_)
      rcases hk with ⟨_, rfl⟩ | ⟨_, rfl⟩
      · exact q2fR (by first | decide | (dsimp only <;> decide)) (q2fR (by first | decide | (dsimp only <;> decide)) (q2fR (by first | decide | (dsimp only <;> decide)) (q2fR (by first | decide | (dsimp only <;> decide)) (q2tR hy (q2tR n40 bad)))))
      · exact q2fR (by first | decide | (dsimp only <;> decide)) (q2fR (by first | decide | (dsimp only <;> decide)) (q2fR (by first | decide | (dsimp only <;> decide)) (q2fR (by first | decide | (dsimp only <;> decide)) (q2tR hy (q2tR n40 bad)))))
  unfold m_MT_value_j31
  by_cases h1 : q = 110
  · subst h1
    exact q2Le (a := 0) rfl (q2fL (by first | decide | (dsimp only <;> decide)) (q2tL (by first | decide | (dsimp only <;> decide)) (q2Re (rr_ind0 (by first | decide | (dsimp only <;> decide))) (q2tR rfl (q2fR (by first | decide | (dsimp only <;> decide)) (q2tR rfl (rr_v40 h (hlt (by first | decide | (dsimp only <;> decide))) (Or.inl ⟨rfl, rfl⟩))))))))
  by_cases h2 : q = 102
  · subst h2
    exact q2Le (a := 1) rfl (q2fL (by first | decide | (dsimp only <;> decide)) (q2tL (by first | decide | (dsimp only <;> decide)) (q2Re (rr_ind0 (by first | decide | (dsimp only <;> decide))) (q2tR rfl (q2fR (by first | decide | (dsimp only <;> decide)) (q2fR (by first | decide | (dsimp only <;> decide)) (q2fR (by first | decide | (dsimp only <;> decide)) (q2tR rfl (rr_v40 h (hlt (by first | decide | (dsimp only <;> decide))) (Or.inr (Or.inl ⟨rfl, rfl⟩)))))))))))
  by_cases h3 : q = 116
  · subst h3
    exact q2Le (a := 2) rfl (q2fL (by first | decide | (dsimp only <;> decide)) (q2tL (by first | decide | (dsimp only <;> decide)) (q2Re (rr_ind0 (by first | decide | (dsimp only <;> decide))) (q2tR rfl (q2fR (by first | decide | (dsimp only <;> decide)) (q2fR (by first | decide | (dsimp only <;> decide)) (q2tR rfl (rr_v40 h (hlt (by first | decide | (dsimp only <;> decide))) (Or.inr (Or.inr (Or.inl ⟨rfl, rfl⟩)))))))))))
  by_cases h4 : q = 34
  · subst h4
    exact q2Le (a := 4) rfl (q2fL (by first | decide | (dsimp only <;> decide)) (q2tL (by first | decide | (dsimp only <;> decide)) (q2Re (rr_ind0 (by first | decide | (dsimp only <;> decide))) (q2tR rfl (q2fR (by first | decide | (dsimp only <;> decide)) (q2fR (by first | decide | (dsimp only <;> decide)) (q2fR (by first | decide | (dsimp only <;> decide)) (q2fR (by first | decide | (dsimp only <;> decide)) (q2tR rfl (rr_v40 h (hlt (by first | decide | (dsimp only <;> decide))) (Or.inr (Or.inr (Or.inr (Or.inl ⟨rfl, rfl⟩))))))))))))))
  by_cases h5 : q = 91
  · subst h5
    exact q2Le (a := 5) rfl (q2fL (by first | decide | (dsimp only <;> decide)) (q2fL (by first | decide | (dsimp only <;> decide)) (q2Re (rr_ind0 (by first | decide | (dsimp only <;> decide))) (q2tR rfl (q2fR (by first | decide | (dsimp only <;> decide)) (q2fR (by first | decide | (dsimp only <;> decide)) (q2fR (by first | decide | (dsimp only <;> decide)) (q2fR (by first | decide | (dsimp only <;> decide)) (q2fR (by first | decide | (dsimp only <;> decide)) (q2tR rfl (deep 5 0 (Or.inl ⟨rfl, rfl⟩) rfl)))))))))))
  by_cases h6 : q = 123
  · subst h6
    exact q2Le (a := 6) rfl (q2fL (by first | decide | (dsimp only <;> decide)) (q2fL (by first | decide | (dsimp only <;> decide)) (q2Re (rr_ind0 (by first | decide | (dsimp only <;> decide))) (q2tR rfl (q2fR (by first | decide | (dsimp only <;> decide)) (q2fR (by first | decide | (dsimp only <;> decide)) (q2fR (by first | decide | (dsimp only <;> decide)) (q2fR (by first | decide | (dsimp only <;> decide)) (q2fR (by first | decide | (dsimp only <;> decide)) (q2fR (by first | decide | (dsimp only <;> decide)) (q2tR rfl (deep 6 0 (Or.inr ⟨rfl, rfl⟩) rfl))))))))))))
  by_cases h7 : q = 45
  · subst h7
    exact q2Le (a := 3) rfl (q2fL (by first | decide | (dsimp only <;> decide)) (q2tL (by first | decide | (dsimp only <;> decide)) (q2Re (rr_ind0 (by first | decide | (dsimp only <;> decide))) (q2tR rfl (q2tR rfl (q2fR (by first | decide | (dsimp only <;> decide)) (q2fR (by first | decide | (dsimp only <;> decide)) (q2fR (by first | decide | (dsimp only <;> decide)) (q2fR (by first | decide | (dsimp only <;> decide)) (q2fR (by first | decide | (dsimp only <;> decide)) (q2fR (by first | decide | (dsimp only <;> decide)) (q2fR (by first | decide | (dsimp only <;> decide)) (rr_v40 h (hlt (by first | decide | (dsimp only <;> decide))) (Or.inr (Or.inr (Or.inr (Or.inr (Or.inl ⟨rfl, by first | decide | (dsimp only <;> decide), by first | decide | (dsimp only <;> decide), by first | decide | (dsimp only <;> decide), by first | decide | (dsimp only <;> decide), by first | decide | (dsimp only <;> decide)⟩))))))))))))))))))
  by_cases h8 : 48 ≤ q ∧ q ≤ 57
  · have kk : m_Rd_kindThatBegins q = some 3 := by
      unfold m_Rd_kindThatBegins
      rw [if_neg h4, if_neg h5, if_neg h2, if_neg h1, if_neg h3, if_neg h6, if_neg h7, rr_isd1 h8]
      rfl
    have key : o_p2 (m_Rd_readValue_j40 n rec x s (x2 + 1) 3 tc (ps Rd p)) (m_MT_value_j83 m rec' x x2 q 1 a) (RV w L p tc a x s) := rr_v40 h (hlt (by grind)) (Or.inr (Or.inr (Or.inr (Or.inr (Or.inl ⟨rfl, by decide, h1, h3, h2, h4⟩)))))
    refine q2Le kk (q2fL (by decide) (q2tL (by decide) (q2Re (rr_ind1 h8) (q2fR (by decide) ?_))))
    exact q2fR h1 (q2fR h3 (q2fR h2 (q2fR h4 (q2fR h5 (q2fR h6 (q2fR (by decide) key))))))
  · have kk : m_Rd_kindThatBegins q = some (-1) := by
      unfold m_Rd_kindThatBegins
      rw [if_neg h4, if_neg h5, if_neg h2, if_neg h1, if_neg h3, if_neg h6, if_neg h7, rr_isd0 h8]
      rfl
    exact q2Le kk (q2tL rfl (q2Re (rr_ind0 h8) (q2tR rfl (q2fR h7 (q2fR h1 (q2fR h3 (q2fR h2 (q2fR h4 (q2fR h5 (q2fR h6 (q2tR rfl bad)))))))))))
theorem rr_valB {m d : Nat} {w : Nat → Int32} {L x dep p : Int32} {a : SMT} (hM : MtOK w L p a) (hb : BP L p) (hq : bgn (PK w L p) = false) : ∀ r, m_MT_value m d x dep a = some r → r.1 = 0 ∧ MT_wrong r.2 = p := by
  intro r e
  cases d with
  | zero => cases e
  | succ d =>
    replace e : m_MT_value_F m (m_MT_value m d) x dep a = some r := e
    unfold m_MT_value_F at e
    rw [hM.2.1] at e
    rw [rr_c hM hb.1 hb.2.2] at e
    replace e : o_bd (m_MM_in (PK w L p) 48 57) _ = some r := e
    generalize PK w L p = q at hq e
    have g : ¬ q = 110 ∧ ¬ q = 116 ∧ ¬ q = 102 ∧ ¬ q = 34 ∧ ¬ q = 91 ∧ ¬ q = 123 ∧ ¬ q = 45 ∧ ¬ (48 ≤ q ∧ q ≤ 57) := by
      unfold bgn at hq
      simp at hq
      grind
    obtain ⟨g1, g2, g3, g4, g5, g6, g7, g8⟩ := g
    rw [rr_ind0 g8] at e
    replace e : (if q = 45 then m_MT_value_j31 m (m_MT_value m d) x dep q 1 a else m_MT_value_j31 m (m_MT_value m d) x dep q 0 a) = some r := e
    have e := o_ff g7 e
    unfold m_MT_value_j31 at e
    have e := o_ff g1 e
    have e := o_ff g2 e
    have e := o_ff g3 e
    have e := o_ff g4 e
    have e := o_ff g5 e
    have e := o_ff g6 e
    have e := o_tt (show (0:Int32) = 0 from rfl) e
    obtain ⟨q12, e12, e⟩ := o_bd_some e
    have e := (o_gd_some e).2
    cases e
    obtain ⟨f1, f2⟩ := rr_bad hM.2.2.1 q12 e12
    exact ⟨f1, f2.trans hM.2.1⟩
theorem rr_value {n m : Nat} {w : Nat → Int32} {L : Int32} : ∀ (d d' : Nat) (dep : Int32), 0 ≤ dep → dep ≤ 40 → HREC n w L (m_Rd_readValue n d) (m_MT_value m d') dep := by
  intro d
  induction d with
  | zero =>
    intro d' dep h0 h1
    exact ⟨fun x s p' tc Rd a _ _ r r' e _ => (by cases e), fun x p a hM hb hq => rr_valB hM hb hq⟩
  | succ d ih =>
    intro d' dep h0 h1
    refine ⟨?_, fun x p a hM hb hq => rr_valB hM hb hq⟩
    intro x s p' tc Rd a hro hsk
    cases d' with
    | zero => intro r r' _ e'; cases e'
    | succ d' =>
      show o_p2 (m_Rd_readValue_F n (m_Rd_readValue n d) x s (dep + 1) tc Rd) (m_MT_value_F m (m_MT_value m d') x dep a) _
      exact rr_valF h0 h1 (fun hne => ih d' (dep + 1) (by grind) (by grind)) hro hsk
/-! A whole text -/
def TREE (tc : STx) (a : SMT) : Prop := Tx_total tc = MT_values a ∧ NR 0 tc a
theorem rr_read {n m : Nat} {x1 : Int32} {tc : STx} {Rd : SRd} {a : SMT} (h0 : 0 ≤ x1) (h1 : x1 ≤ 8192) (ht : TXT (MT_text a) (Rd_words Rd) x1) : o_p2 (m_Rd_read n x1 tc Rd) (m_MT_read m x1 a) (fun r r' => r.1 = r'.1 ∧ -1 ≤ r.1 ∧ TREE r.2.1 r'.2) := by
  obtain ⟨aa, ea⟩ : ∃ t : SMT, t = MT_mk (MT_text a) (MT_kind a) (MT_place a) (MT_many a) (MT_parent a) (MT_power a) (MT_first a) (MT_next a) (MT_name a) (MT_from a) (MT_characters a) (MT_digits a) (MT_minus a) (0:Int32) x1 (0:Int32) (-1:Int32) (0:Int32) (0:Int32) (MT_left a) := ⟨_, rfl⟩
  obtain ⟨t0, et⟩ : ∃ t : STx, t = Tx_mk (Tx_kinds tc) (Tx_places tc) (Tx_sizes tc) (Tx_parents tc) (Tx_exponents tc) (Tx_starts tc) (Tx_afters tc) (Tx_slots tc) (Tx_negatives tc) (Tx_cells tc) (0:Int32) (0:Int32) (0:Int32) := ⟨_, rfl⟩
  obtain ⟨R0, er⟩ : ∃ t : SRd, t = Rd_mk (Rd_words Rd) (Rd_wordCount Rd) (0:Int32) x1 (-1:Int32) := ⟨_, rfl⟩
  have hro : RO (Rd_words Rd) x1 0 t0 R0 aa := by
    rw [ea, et, er]
    exact ⟨⟨rfl, rfl, rfl, rfl⟩, ⟨rfl, rfl, rfl, ht⟩, ⟨by first | decide | (dsimp only <;> decide), h0, h1⟩, rfl, by show (0:Int32) ≤ 0; first | decide | (dsimp only <;> decide), by show (0:Int32) ≤ 1000; first | decide | (dsimp only <;> decide), rfl, by show (0:Int32) ≤ 0; first | decide | (dsimp only <;> decide), by show (0:Int32) ≤ 4000; first | decide | (dsimp only <;> decide), by show (0:Int32) ≤ 0; first | decide | (dsimp only <;> decide), by show (0:Int32) ≤ 0; first | decide | (dsimp only <;> decide), by show (0:Int32) ≤ 0; first | decide | (dsimp only <;> decide), by show (0:Int32) ≤ 0; first | decide | (dsimp only <;> decide)⟩
  unfold m_Rd_read m_MT_read
  rw [← ea, ← er]
  have ec : m_Tx_clear tc = some t0 := by rw [et]; rfl
  refine q2Le ec (q2R (fun q1 e1 => ?_))
  obtain ⟨p', B, hpp, rfl⟩ := rr_blankM hro.2.1 hro.2.2.1 e1
  have hsk := rr_blankS (n := n) hro.1 hro.2.1 hro.2.2.1 e1
  have hro' := RO_mv hro B hpp
  refine q2B ((rr_value (n := n) (m := m) 43 43 0 (by first | decide | (dsimp only <;> decide)) (by first | decide | (dsimp only <;> decide))).1 (-1) 0 p' t0 R0 (atM aa p') hro' hsk) ?_
  have v0 : MT_values aa = 0 := by rw [ea]
  -- refused
  have fin0 : ∀ (tc1 : STx) (Rd1 : SRd) (a1 : SMT), FL Rd1 a1 → o_p2 (m_Rd_read_j63 n tc1 Rd1) (m_MT_read_j67 m a1) (fun r r' => r.1 = r'.1 ∧ -1 ≤ r.1 ∧ TREE r.2.1 r'.2) := by
    rintro tc1 Rd1 a1 ⟨f1, f2⟩
    unfold m_Rd_read_j63 m_MT_read_j67 m_Tx_clear
    refine q2fL (by rw [f1]; intro z; rw [z] at f2; exact absurd f2 (by first | decide | (dsimp only <;> decide))) (q2fR (by grind) (q2S ⟨f1, ?_, rfl, ?_⟩))
    · show -1 ≤ Rd_wrongPlace Rd1
      rw [f1]
      grind
    · intro y y0 y1
      exact absurd (Int32.lt_of_le_of_lt y0 y1) (show ¬ (0:Int32) < 0 by decide)
  rintro ⟨r1, tc1, Rd1⟩ ⟨r1', a1⟩ hV
  rcases hV with ⟨f1, f2, f3⟩ | ⟨f1, f2, p1, f3, f4⟩
  · exact q2tL f1 (q2tR f2 (fin0 _ _ _ f3))
  · replace f1 : r1 = 1 := f1
    replace f2 : r1' = 1 := f2
    subst f1 f2
    replace f3 : RO (Rd_words Rd) x1 p1 tc1 Rd1 a1 := f3
    refine q2fL (by first | decide | (dsimp only <;> decide)) (q2fR (by first | decide | (dsimp only <;> decide)) (q2B (rr_blanks f3.1 f3.2.1 f3.2.2.1) ?_))
    rintro R2 A2 ⟨p2, B2, hp2, rfl, rfl⟩
    have hro2 := RO_mv f3 B2 hp2
    have hcond : (Rd_limit (ps Rd1 p2) ≤ Rd_position (ps Rd1 p2)) ↔ (MT_letters (atM a1 p2) ≤ MT_at (atM a1 p2)) := by
      rw [hro2.1.2.1, hro2.2.1.1]
    refine q2IB hcond (fun _ => ?_) (fun _ => ?_)
    · unfold m_Rd_read_j63 m_MT_read_j67
      have w1 : Rd_wrongPlace (ps Rd1 p2) = -1 := hro2.1.2.2.2
      have w2 : MT_wrong (atM a1 p2) = -1 := hro2.2.1.2.2.1
      refine q2tL w1 (q2tR (by rw [w2]; first | decide | (dsimp only <;> decide)) (q2S ⟨w1.trans w2.symm, by show -1 ≤ Rd_wrongPlace (ps Rd1 p2); rw [w1]; first | decide | (dsimp only <;> decide), hro2.2.2.2.1, ?_⟩))
      have hN := f4.2.2.2.1
      replace hN : NR (MT_values aa) tc1 a1 := hN
      rw [v0] at hN
      exact hN
    · refine q2B (rr_fail (a := atM a1 p2) hro2.2.1.2.2.1 B2.1) ?_
      rintro r r' ⟨g1, g2, g3⟩
      exact fin0 _ _ _ g3
