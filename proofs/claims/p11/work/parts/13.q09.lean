/-! Numbers: from the sign to the end -/
theorem DS_mv {tc tcc : STx} {Rd Rdd : SRd} {a aa : SMT} {k P P' : Int32} (h : DS tc Rd a k P tcc Rdd aa) (hp : P ≤ P') : DS tc Rd a k P' tcc (ps Rdd P') (atM aa P') := by
  obtain ⟨d1, d2, d3, d4, c, d, rfl, rfl, rfl, dS⟩ := h
  exact ⟨d1, Int32.le_trans d2 hp, Int32.le_trans d3 hp, Int32.le_trans d4 hp, c, d, rfl, rfl, rfl, dS⟩
theorem rr_lp1 {σ : Type} {f : σ → Option (Nat × σ)} {z : σ} {y : Nat × σ} {n : Nat} {r : Nat × σ} (hf : f z = some y) (hy : y.1 ≠ 0) (e : o_lp n f z = some r) : r = y := by
  cases n with
  | zero => cases e
  | succ n =>
    obtain ⟨q, e1, e2⟩ := o_bd_some (show o_bd (f z) (fun q => if q.1 = 0 then o_lp n f q.2 else some q) = some r from e)
    rw [hf] at e1
    cases e1
    have e2 := o_ff hy e2
    cases e2
    rfl
theorem rr_dig0 {n : Nat} {w : Nat → Int32} {L P : Int32} {tc : STx} {Rd : SRd} (hR : RdOK w L P Rd) (hb : BP L P) (hd : ¬ (48 ≤ PK w L P ∧ PK w L P ≤ 57)) : ∀ r, m_Rd_readDigits n 8192 tc Rd = some r → r = (0, tc, Rd) := by
  intro r e
  unfold m_Rd_readDigits at e
  obtain ⟨q, e1, e⟩ := o_bd_some e
  have hf : m_Rd_readDigits_b2 n 8192 ((0:Int32), tc, Rd) = some (1, 0, tc, Rd) := by
    unfold m_Rd_readDigits_b2
    rw [if_neg (by first | decide | (dsimp only <;> decide))]
    show o_bd (m_Rd_peek Rd) _ = _
    rw [rr_peek hR hb]
    show o_bd (m_SJ_isDigit (PK w L P)) _ = _
    rw [rr_isd0 hd]
    rfl
  have := rr_lp1 hf (by first | decide | (dsimp only <;> decide)) e1
  subst this
  have e := o_tt (show (1:Nat) = 1 from rfl) e
  cases e
  rfl
theorem rr_expo0 {n : Nat} {w : Nat → Int32} {L P : Int32} {Rd : SRd} (hR : RdOK w L P Rd) (hb : BP L P) (hd : ¬ (48 ≤ PK w L P ∧ PK w L P ≤ 57)) : ∀ r, m_Rd_readExponent n Rd = some r → r = (0, Rd) := by
  intro r e
  unfold m_Rd_readExponent at e
  obtain ⟨q, e1, e⟩ := o_bd_some e
  have hf : m_Rd_readExponent_b4 n ((0:Int32), (0:Int32), Rd) = some (1, 0, 0, Rd) := by
    unfold m_Rd_readExponent_b4
    rw [if_neg (by first | decide | (dsimp only <;> decide))]
    show o_bd (m_Rd_peek Rd) _ = _
    rw [rr_peek hR hb]
    show o_bd (m_SJ_isDigit (PK w L P)) _ = _
    rw [rr_isd0 hd]
    rfl
  have := rr_lp1 hf (by first | decide | (dsimp only <;> decide)) e1
  subst this
  have e := o_tt (show (1:Nat) = 1 from rfl) e
  cases e
  rfl
theorem rr_expoR {n : Nat} {Rd : SRd} {r : Int32 × SRd} (e : m_Rd_readExponent n Rd = some r) : ∃ q, o_lp n (m_Rd_readExponent_b4 n) ((0:Int32), (0:Int32), Rd) = some q ∧ r = (q.2.1, q.2.2.2) := by
  unfold m_Rd_readExponent at e
  obtain ⟨q, e1, e⟩ := o_bd_some e
  refine ⟨q, e1, ?_⟩
  by_cases c : q.1 = 1
  · have e := o_tt c e
    cases e
    rfl
  · have e := o_ff c e
    cases e
    rfl
theorem rr_digR {n : Nat} {most : Int32} {tc : STx} {Rd : SRd} {r : Int32 × STx × SRd} (e : m_Rd_readDigits n most tc Rd = some r) : ∃ q, o_lp n (m_Rd_readDigits_b2 n most) ((0:Int32), tc, Rd) = some q ∧ ((q.1 = 1 ∧ r = (q.2.1, q.2.2.1, q.2.2.2)) ∨ (q.1 ≠ 1 ∧ r = (most, q.2.2.1, q.2.2.2))) := by
  unfold m_Rd_readDigits at e
  obtain ⟨q, e1, e⟩ := o_bd_some e
  refine ⟨q, e1, ?_⟩
  by_cases c : q.1 = 1
  · have e := o_tt c e
    cases e
    exact Or.inl ⟨c, rfl⟩
  · have e := o_ff c e
    cases e
    exact Or.inr ⟨c, rfl⟩
/-- what a loop over digits gives its method -/
theorem rr_digE {w : Nat → Int32} {L P N most : Int32} {tc : STx} {Rd : SRd} {a a' : SMT} {n' : Int32} {q : Nat × Int32 × STx × SRd} {r : Int32 × STx × SRd} (h : DE w L P N most tc Rd a q a' n') (hr : (q.1 = 1 ∧ r = (q.2.1, q.2.2.1, q.2.2.2)) ∨ (q.1 ≠ 1 ∧ r = (most, q.2.2.1, q.2.2.2))) : ∃ k, 0 ≤ k ∧ q.2.1 = k ∧ r.1 = k ∧ n' = N + k ∧ BP L (P + k) ∧ DS tc Rd a (N + k) (P + k) r.2.1 r.2.2 a' := by
  obtain ⟨k, h1, h2, h3, h4, h5, h6, h7⟩ := h
  refine ⟨k, h1, h2, ?_, h4, h5, ?_⟩
  · rcases hr with ⟨_, rfl⟩ | ⟨e, rfl⟩
    · exact h2
    · rcases h3 with g | ⟨_, g⟩
      · exact absurd g e
      · exact g.symm
  · rcases hr with ⟨_, rfl⟩ | ⟨_, rfl⟩
    · exact h6
    · exact h6
theorem rr_e32 {q : Int32} (h0 : -1 ≤ q) (h1 : q ≤ 255) : (q ||| 32 = 101) ↔ (q = 101 ∨ q = 69) := by
  by_cases z : q = -1
  · subst z
    decide
  · have h : ∀ k : Nat, k < 256 → (((Int32.ofNat k) ||| 32 = 101) ↔ ((Int32.ofNat k) = 101 ∨ (Int32.ofNat k) = 69)) := by decide +kernel
    have g0 : 0 ≤ q := by grind
    have := h q.toNatClampNeg (o_tncL (m := 256) rfl g0 (by grind))
    rwa [rr_ofN g0] at this
/-- the frame of a number that is being read -/
def NFr (w : Nat → Int32) (L p : Int32) (tc : STx) (Rd : SRd) (a : SMT) (x s y : Int32) (k P : Int32) (tcc : STx) (Rdd : SRd) (aa : SMT) : Prop := RO w L p tc Rd a ∧ MT_values a < 1000 ∧ p < P ∧ BP L P ∧ (y = 0 ∨ y = 1) ∧ DS (bgT tc 3 p x s) Rd (nmM a x y) k P tcc Rdd aa
theorem NFr_ok {w : Nat → Int32} {L p x s y k P : Int32} {tc tcc : STx} {Rd Rdd : SRd} {a aa : SMT} (h : NFr w L p tc Rd a x s y k P tcc Rdd aa) : RdOK w L P Rdd ∧ MtOK w L P aa := by
  obtain ⟨h1, h2, h3, h4, h5, h6⟩ := h
  exact DS_ok (p1 := p) (a := nmM a x y) h1.1 ⟨h1.2.1.1, h1.2.1.2.1, h1.2.1.2.2.1, h1.2.1.2.2.2⟩ h6
theorem NFr_mv {w : Nat → Int32} {L p x s y k P P' : Int32} {tc tcc : STx} {Rd Rdd : SRd} {a aa : SMT} (h : NFr w L p tc Rd a x s y k P tcc Rdd aa) (hb : BP L P') (hp : P ≤ P') : NFr w L p tc Rd a x s y k P' tcc (ps Rdd P') (atM aa P') := by
  obtain ⟨h1, h2, h3, h4, h5, h6⟩ := h
  exact ⟨h1, h2, Int32.lt_of_lt_of_le h3 hp, hb, h5, DS_mv h6 hp⟩
/-- refused by both, where they are -/
theorem NFr_bad {w : Nat → Int32} {L p x s P : Int32} {tc tcc : STx} {Rdd : SRd} {a aa : SMT} (hw : MT_wrong aa = -1) (hP : 0 ≤ P) : o_p2 (o_bd (m_Rd_refuse P Rdd) fun q15 => o_gd (o_zb q15.1) <| some (q15.1, tcc, q15.2)) (o_bd (m_MT_bad P aa) fun q33 => o_gd (o_zb q33.1) <| some (q33.1, q33.2)) (RV w L p tc a x s) := by
  refine q2B (rr_fail hw hP) ?_
  rintro r r' ⟨f1, f2, f3⟩
  exact q2GL (fun _ => q2GR (fun _ => q2S (Or.inl ⟨f1, f2, f3⟩)))
theorem rr_n207 {n m : Nat} {w : Nat → Int32} {L p x s y k P B few x8 : Int32} {tc tcc : STx} {Rd Rdd : SRd} {a aa : SMT} (h : NFr w L p tc Rd a x s y k P tcc Rdd aa) (hfew : few ≠ 0 ↔ k ≤ 60) : o_p2 (m_Rd_readNumber_j207 n (Tx_total tc) p y B few x8 tcc Rdd) (m_MT_number_j369 m (MT_values a) p k B 0 0 x8 aa) (RV w L p tc a x s) := by
  obtain ⟨hR, hM⟩ := NFr_ok h
  have h0 := h
  obtain ⟨h1, h2, h3, h4, h5, h6⟩ := h
  unfold m_Rd_readNumber_j207 m_MT_number_j369
  rw [hR.2.2.1, hM.2.1]
  refine q2NL (q2Re (rr_c hM h4.1 h4.2.2) ?_)
  by_cases hd : 48 ≤ PK w L P ∧ PK w L P ≤ 57
  · refine q2Re (rr_ind1 hd) (q2fR (by first | decide | (dsimp only <;> decide)) (q2L (fun q7 e7 => q2R (fun q22 e22 => ?_))))
    obtain ⟨q3, e3, rfl⟩ := rr_expoR e7
    obtain ⟨mo, k0, k1, k2, k3, k4, k5, k6⟩ := rr_expo hR hM h4 q3 q22 e3 e22
    have mo1 : mo ≠ 0 := fun z => (k6.mp z) hd
    have hN := NFr_mv h0 k1 (show P ≤ P + mo by obtain ⟨t1, t2, t3⟩ := h4; obtain ⟨t4, t5, t6⟩ := k1; grind)
    rw [← k2, ← k4] at hN
    obtain ⟨g1, g2, g3, g4, g5, g6⟩ := hN
    have ep : Rd_position q3.2.2.2 = P + mo := by rw [k2]
    have em : P + mo - P = mo := by grind
    show o_p2 (if Rd_position q3.2.2.2 = P then _ else if few = 0 then _ else if (3:Int32) < Rd_position q3.2.2.2 - P then _ else _) _ _
    rw [ep, em, k3]
    refine q2fL (by obtain ⟨t1, t2, t3⟩ := h4; obtain ⟨t4, t5, t6⟩ := k1; grind) ?_
    have fin : ∀ f : Int32, (f ≠ 0 ↔ (k ≤ 60 ∧ mo ≤ 3)) → o_p2 (m_Rd_readNumber_j258 n (Tx_total tc) p y B q3.2.1 x8 f tcc q3.2.2.2) (if x8 = 0 then m_MT_number_j466 m (MT_values a) p k B q22.2.1 mo q22.2.2.2 else o_nm (-q22.2.1) fun x7_464 => m_MT_number_j466 m (MT_values a) p k B x7_464 mo q22.2.2.2) (RV w L p tc a x s) := by
      intro f hf
      unfold m_Rd_readNumber_j258
      refine q2IB Iff.rfl (fun _ => rr_numEnd g1 g2 g1.1 g3 g4 g6 g5 hf k5) (fun _ => q2NL (q2NR (rr_numEnd g1 g2 g1.1 g3 g4 g6 g5 hf (fun t => by rw [k5 t]))))
    by_cases cf : few = 0
    · refine q2tL cf (fin 0 ⟨fun z => absurd rfl z, fun t => absurd cf (hfew.mpr t.1)⟩)
    · refine q2fL cf ?_
      by_cases c3 : (3:Int32) < mo
      · exact q2tL c3 (fin 0 ⟨fun z => absurd rfl z, fun t => absurd t.2 (by grind)⟩)
      · exact q2fL c3 (fin 1 ⟨fun _ => ⟨hfew.mp cf, by grind⟩, fun _ => by first | decide | (dsimp only <;> decide)⟩)
  · refine q2Re (rr_ind0 hd) (q2tR rfl (q2L (fun q7 e7 => ?_)))
    have e7 := rr_expo0 hR h4 hd q7 e7
    subst e7
    refine q2tL hR.2.2.1 ?_
    show o_p2 (o_bd (m_Rd_refuse (Rd_position Rdd) Rdd) _) _ _
    rw [hR.2.2.1]
    exact NFr_bad hM.2.2.1 h4.1
theorem rr_n281 {n m : Nat} {w : Nat → Int32} {L p x s y k P B few : Int32} {tc tcc : STx} {Rd Rdd : SRd} {a aa : SMT} (h : NFr w L p tc Rd a x s y k P tcc Rdd aa) (hfew : few ≠ 0 ↔ k ≤ 60) : o_p2 (m_Rd_readNumber_j134 n (Tx_total tc) p y B few tcc Rdd) (m_MT_number_j281 m (MT_values a) p k B aa) (RV w L p tc a x s) := by
  obtain ⟨hR, hM⟩ := NFr_ok h
  have h0 := h
  obtain ⟨h1, h2, h3, h4, h5, h6⟩ := h
  have kP : m_Rd_peek Rdd = some (PK w L P) := rr_peek hR h4
  unfold m_Rd_readNumber_j134 m_MT_number_j281
  rw [hM.2.1]
  refine q2Le kP (q2Re (rr_c hM h4.1 h4.2.2) ?_)
  have hq := rr_e32 (q := PK w L P) PK_rng.1 PK_rng.2
  by_cases ce : PK w L P = 101 ∨ PK w L P = 69
  · have hp : P < L := PK_lt (w := w) (by rcases ce with e | e <;> rw [e] <;> decide)
    have b1 := BP_1 h4 hp
    have hN := NFr_mv h0 b1 (show P ≤ P + 1 by obtain ⟨t1, t2, t3⟩ := h4; obtain ⟨t4, t5, t6⟩ := b1; grind)
    obtain ⟨hR1, hM1⟩ := NFr_ok hN
    refine q2tR (hq.mpr ce) ?_
    have go : o_p2 (m_Rd_readNumber_j157 n (Tx_total tc) p y B few tcc Rdd) (o_bd (m_MT_c (P + (1:Int32)) (atM aa (P + 1))) fun q15 => if q15 = (45:Int32) then m_MT_number_j331 m (MT_values a) p k B (0:Int32) (0:Int32) (1:Int32) (atM aa (P + 1)) else m_MT_number_j331 m (MT_values a) p k B (0:Int32) (0:Int32) (0:Int32) (atM aa (P + 1))) (RV w L p tc a x s) := by
      unfold m_Rd_readNumber_j157
      rw [hR.2.2.1]
      have kP1 : m_Rd_peek (ps Rdd (P + 1)) = some (PK w L (P + 1)) := rr_peek hR1 b1
      have kM1 : m_MT_c (P + 1) (atM aa (P + 1)) = some (PK w L (P + 1)) := rr_c hM1 b1.1 b1.2.2
      have step : ∀ x8 : Int32, PK w L (P + 1) ≠ -1 → o_p2 (m_Rd_readNumber_j197 n (Tx_total tc) p y B few x8 tcc (ps Rdd (P + 1))) (m_MT_number_j359 m (MT_values a) p k B 0 0 x8 (atM aa (P + 1))) (RV w L p tc a x s) := by
        intro x8 hx
        have hp1 : P + 1 < L := PK_lt (w := w) hx
        have b2 := BP_1 b1 hp1
        have hN2 := NFr_mv hN b2 (show P + 1 ≤ P + 1 + 1 by obtain ⟨t1, t2, t3⟩ := b1; obtain ⟨t4, t5, t6⟩ := b2; grind)
        unfold m_Rd_readNumber_j197 m_MT_number_j359
        exact rr_n207 hN2 hfew
      refine q2Le kP1 (q2Re kM1 (q2IB Iff.rfl (fun c45 => ?_) (fun c45 => ?_)))
      · unfold m_Rd_readNumber_j181 m_MT_number_j331
        refine q2fL (by first | decide | (dsimp only <;> decide)) (q2Re kM1 (q2tR c45 (step 1 (by rw [c45]; first | decide | (dsimp only <;> decide)))))
      · unfold m_Rd_readNumber_j181 m_MT_number_j331
        refine q2tL rfl (q2Re kM1 (q2fR c45 (q2Le kP1 (q2Re kM1 (q2IB Iff.rfl (fun c43 => step 0 (by rw [c43]; first | decide | (dsimp only <;> decide))) (fun c43 => rr_n207 hN hfew))))))
    by_cases c1 : PK w L P = 101
    · exact q2tL c1 go
    · refine q2fL c1 (q2Le kP (q2tL (ce.resolve_left c1) go))
  · refine q2fR (fun z => ce (hq.mp z)) (q2fL (fun z => ce (Or.inl z)) (q2Le kP (q2fL (fun z => ce (Or.inr z)) ?_)))
    exact rr_numEnd h1 h2 h1.1 h3 h4 h6 h5 ⟨fun z => ⟨hfew.mp z, by first | decide | (dsimp only <;> decide)⟩, fun z => hfew.mpr z.1⟩ (fun _ => rfl)
theorem rr_n174 {n m : Nat} {w : Nat → Int32} {L p x s y k P : Int32} {tc tcc : STx} {Rd Rdd : SRd} {a aa : SMT} (h : NFr w L p tc Rd a x s y k P tcc Rdd aa) (hk : k ≠ 0) : o_p2 (m_Rd_readNumber_j58 n (Tx_total tc) p y k tcc Rdd) (m_MT_number_j174 m (MT_values a) p k 0 aa) (RV w L p tc a x s) := by
  obtain ⟨hR, hM⟩ := NFr_ok h
  have h0 := h
  obtain ⟨h1, h2, h3, h4, h5, h6⟩ := h
  have kP : m_Rd_peek Rdd = some (PK w L P) := rr_peek hR h4
  unfold m_Rd_readNumber_j58 m_MT_number_j174
  rw [hR.2.2.1, hM.2.1]
  refine q2fL hk (q2Le kP (q2Re (rr_c hM h4.1 h4.2.2) (q2IB Iff.rfl (fun c46 => ?_) (fun c46 => ?_))))
  · have hp : P < L := PK_lt (w := w) (by rw [c46]; first | decide | (dsimp only <;> decide))
    have b1 := BP_1 h4 hp
    have hN := NFr_mv h0 b1 (show P ≤ P + 1 by obtain ⟨t1, t2, t3⟩ := h4; obtain ⟨t4, t5, t6⟩ := b1; grind)
    obtain ⟨hR1, hM1⟩ := NFr_ok hN
    refine q2Re (rr_c hM1 b1.1 b1.2.2) ?_
    by_cases hd : 48 ≤ PK w L (P + 1) ∧ PK w L (P + 1) ≤ 57
    · refine q2Re (rr_ind1 hd) (q2fR (by first | decide | (dsimp only <;> decide)) (q2L (fun q13 e13 => q2R (fun q30 e30 => ?_))))
      obtain ⟨ql, el, hr⟩ := rr_digR e13
      have c7 : 0 ≤ Tx_used tc := (RO_v h1).2.2.2.2.2.2.2.2.1
      have c9 : 0 ≤ MT_written a := (RO_v h1).2.2.2.2.2.2.2.2.2.2.1
      obtain ⟨g1, g2⟩ := rr_dig2 (tc := bgT tc 3 p x s) (a := nmM a x y) (Rd := Rd) (p1 := p) c7 c9 h1.1 ⟨h1.2.1.1, h1.2.1.2.1, h1.2.1.2.2.1, h1.2.1.2.2.2⟩ b1 hN.2.2.2.2.2 ql q30 el e30
      obtain ⟨kk, u1, u2, u3, u4, u5, u6⟩ := rr_digE g1 hr
      have hz : kk ≠ 0 := by
        intro z
        obtain ⟨kx, v1, v2, v3, v4, v5, v6, v7⟩ := g1
        have : kx = 0 := by rw [← v2, u2, z]
        subst this
        exact v7 (by first | decide | (dsimp only <;> decide)) (by rw [Int32.add_zero]; exact hd)
      rw [u2] at g2
      have hN2 : NFr w L p tc Rd a x s y (k + kk) (P + 1 + kk) q13.2.1 q13.2.2 q30.2.2.2 := ⟨h1, h2, by obtain ⟨t1, t2, t3⟩ := h4; obtain ⟨t4, t5, t6⟩ := b1; obtain ⟨t7, t8, t9⟩ := u5; grind, u5, h5, u6⟩
      rw [u3, u4, g2, Int32.zero_add]
      refine q2fL hz ?_
      unfold m_Rd_readNumber_j119
      exact q2IL (fun c => rr_n281 hN2 ⟨fun z => absurd rfl z, fun z => absurd z (by grind)⟩) (fun c => rr_n281 hN2 ⟨fun _ => by grind, fun _ => by first | decide | (dsimp only <;> decide)⟩)
    · refine q2Re (rr_ind0 hd) (q2tR rfl (q2L (fun q13 e13 => ?_)))
      have e13 := rr_dig0 hR1 b1 hd q13 e13
      subst e13
      exact q2tL rfl (NFr_bad (aa := atM aa (P + 1)) hM.2.2.1 b1.1)
  · unfold m_Rd_readNumber_j119
    have ek : k + 0 = k := Int32.add_zero k
    rw [ek]
    exact q2IL (fun c => rr_n281 h0 ⟨fun z => absurd rfl z, fun z => absurd z (by grind)⟩) (fun c => rr_n281 h0 ⟨fun _ => by grind, fun _ => by first | decide | (dsimp only <;> decide)⟩)
theorem rr_n71 {n m : Nat} {w : Nat → Int32} {L p x s y P : Int32} {tc tcc : STx} {Rd Rdd : SRd} {a aa : SMT} (h1 : RO w L p tc Rd a) (h2 : MT_values a < 1000) (h3 : p ≤ P) (h4 : BP L P) (h5 : y = 0 ∨ y = 1) (h6 : DS (bgT tc 3 p x s) Rd (nmM a x y) 0 P tcc Rdd aa) : o_p2 (m_Rd_readNumber_j34 n (Tx_total tc) p y tcc Rdd) (m_MT_number_j71 m (MT_values a) p 0 0 aa) (RV w L p tc a x s) := by
  have hMn : MtOK w L p (nmM a x y) := ⟨h1.2.1.1, h1.2.1.2.1, h1.2.1.2.2.1, h1.2.1.2.2.2⟩
  obtain ⟨hR, hM⟩ := DS_ok h1.1 hMn h6
  have kP : m_Rd_peek Rdd = some (PK w L P) := rr_peek hR h4
  have kM : m_MT_c P aa = some (PK w L P) := rr_c hM h4.1 h4.2.2
  have c7 : 0 ≤ Tx_used tc := (RO_v h1).2.2.2.2.2.2.2.2.1
  have c9 : 0 ≤ MT_written a := (RO_v h1).2.2.2.2.2.2.2.2.2.2.1
  unfold m_Rd_readNumber_j34 m_MT_number_j71
  rw [hM.2.1]
  refine q2Le kP (q2Re kM ?_)
  by_cases hd : 48 ≤ PK w L P ∧ PK w L P ≤ 57
  · refine q2Re (rr_ind1 hd) (q2fR (by first | decide | (dsimp only <;> decide)) (q2Re kM ?_))
    have go : ∀ (most x6 : Int32), ((x6 = 0 ∧ most = 8192) ∨ (x6 = 1 ∧ most = 1)) → o_p2 (o_bd (m_Rd_readDigits n most tcc Rdd) fun q16 => m_Rd_readNumber_j58 n (Tx_total tc) p y q16.1 q16.2.1 q16.2.2) (o_bd (o_lp m (m_MT_number_b118 m (MT_values a) p 0 x6) ((0:Int32), aa)) fun q32 => m_MT_number_j174 m (MT_values a) p q32.2.1 0 q32.2.2) (RV w L p tc a x s) := by
      intro most x6 hx
      refine q2L (fun q16 e16 => q2R (fun q32 e32 => ?_))
      obtain ⟨ql, el, hr⟩ := rr_digR e16
      obtain ⟨g1, g2⟩ := rr_dig1 (tc := bgT tc 3 p x s) (a := nmM a x y) (Rd := Rd) (p1 := p) c7 c9 h1.1 hMn h4 h6 hd hx ql q32 el e32
      obtain ⟨kk, u1, u2, u3, u4, u5, u6⟩ := rr_digE g1 hr
      have hz : kk ≠ 0 := fun z => g2 (u2.trans z)
      rw [Int32.zero_add] at u4 u6
      have hN : NFr w L p tc Rd a x s y kk (P + kk) q16.2.1 q16.2.2 q32.2.2 := ⟨h1, h2, by obtain ⟨t1, t2, t3⟩ := h4; obtain ⟨t7, t8, t9⟩ := u5; have := h1.2.2.1.1; grind, u5, h5, u6⟩
      rw [u3, u4]
      exact rr_n174 hN hz
    exact q2IB Iff.rfl (fun _ => go 1 1 (Or.inr ⟨rfl, rfl⟩)) (fun _ => go 8192 0 (Or.inl ⟨rfl, rfl⟩))
  · refine q2Re (rr_ind0 hd) (q2tR rfl (q2fL (by intro z; rw [z] at hd; exact hd (by first | decide | (dsimp only <;> decide))) (q2L (fun q3 e3 => ?_))))
    have e3 := rr_dig0 hR h4 hd q3 e3
    subst e3
    unfold m_Rd_readNumber_j58
    refine q2tL rfl ?_
    show o_p2 (o_bd (m_Rd_refuse (Rd_position Rdd) Rdd) _) _ _
    rw [hR.2.2.1]
    exact NFr_bad hM.2.2.1 h4.1
theorem rr_number {n m : Nat} {w : Nat → Int32} {L p x s : Int32} {tc : STx} {Rd : SRd} {a : SMT} (h : RO w L p tc Rd a) (hv : MT_values a < 1000) : o_p2 (m_Rd_readNumber n (Tx_total tc) (bgT tc 3 p x s) Rd) (m_MT_number m x a) (RV w L p tc a x s) := by
  obtain ⟨b1, b2, b3, c1, c2, c3, c5, c6, c7, c8, c9, c10⟩ := RO_v h
  have h0 := h
  obtain ⟨hR, hM, hb, hC⟩ := h
  have kP : m_Rd_peek Rd = some (PK w L p) := rr_peek hR hb
  have d0 : ∀ y, DS (bgT tc 3 p x s) Rd (nmM a x y) 0 p (bgT tc 3 p x s) Rd (nmM a x y) := by
    intro y
    refine ⟨by first | decide | (dsimp only <;> decide), b1, by show Tx_used tc + 0 ≤ p; rw [Int32.add_zero]; exact c8, by show MT_written a + 0 ≤ p; rw [Int32.add_zero]; exact c10, Tx_cells tc, MT_digits a, ?_, ?_, ?_, ?_⟩
    · show bgT tc 3 p x s = cl (bgT tc 3 p x s) (Tx_cells tc) (Tx_used tc + 0) (Tx_characters tc)
      rw [Int32.add_zero]
    · rw [← hR.2.2.1]
    · show nmM a x y = dgM (nmM a x y) (MT_digits a) p
      rw [← hM.2.1]
    · show STR (Tx_cells tc) (MT_digits a) (Tx_used tc) (MT_written a) (Tx_cells tc) (MT_digits a) (Tx_used tc + 0) (MT_written a + 0)
      rw [Int32.add_zero, Int32.add_zero]
      exact STR_0
  unfold m_Rd_readNumber m_MT_number
  rw [hR.2.2.1]
  refine q2NL (q2Le kP (q2R (fun q1 e1 => ?_)))
  have e1 := rr_fresh e1
  subst e1
  have kM : m_MT_c (MT_at a) (MT_mk (MT_text a) (upd (MT_kind a) (MT_values a).toNatClampNeg 3) (upd (MT_place a) (MT_values a).toNatClampNeg (MT_at a)) (upd (MT_many a) (MT_values a).toNatClampNeg (0:Int32)) (upd (MT_parent a) (MT_values a).toNatClampNeg x) (upd (MT_power a) (MT_values a).toNatClampNeg (0:Int32)) (upd (MT_first a) (MT_values a).toNatClampNeg (-1:Int32)) (upd (MT_next a) (MT_values a).toNatClampNeg (-1:Int32)) (upd (MT_name a) (MT_values a).toNatClampNeg (-1:Int32)) (upd (MT_from a) (MT_values a).toNatClampNeg (MT_written a)) (MT_characters a) (MT_digits a) (MT_minus a) ((MT_values a) + (1:Int32)) (MT_letters a) (MT_at a) (MT_wrong a) (MT_used a) (MT_written a) (MT_left a)) = some (PK w L p) := by
    have := rr_c (p := MT_at a) (p' := p) (w := w) (L := L) (a := MT_mk (MT_text a) (upd (MT_kind a) (MT_values a).toNatClampNeg 3) (upd (MT_place a) (MT_values a).toNatClampNeg (MT_at a)) (upd (MT_many a) (MT_values a).toNatClampNeg (0:Int32)) (upd (MT_parent a) (MT_values a).toNatClampNeg x) (upd (MT_power a) (MT_values a).toNatClampNeg (0:Int32)) (upd (MT_first a) (MT_values a).toNatClampNeg (-1:Int32)) (upd (MT_next a) (MT_values a).toNatClampNeg (-1:Int32)) (upd (MT_name a) (MT_values a).toNatClampNeg (-1:Int32)) (upd (MT_from a) (MT_values a).toNatClampNeg (MT_written a)) (MT_characters a) (MT_digits a) (MT_minus a) ((MT_values a) + (1:Int32)) (MT_letters a) (MT_at a) (MT_wrong a) (MT_used a) (MT_written a) (MT_left a)) ⟨hM.1, hM.2.1, hM.2.2.1, hM.2.2.2⟩ (by rw [hM.2.1]; exact b1) b3
    rw [this, hM.2.1]
  refine q2NR (q2GR (fun _ => q2Re kM ?_))
  unfold m_Rd_readNumber_j19 m_MT_number_j51
  have upd1 : ∀ (f : Nat → Int32) (v : Int32), upd f (MT_values a).toNatClampNeg v (MT_values a).toNatClampNeg = v := fun f v => o_updE
  refine q2IB Iff.rfl (fun c45 => ?_) (fun c45 => ?_)
  · have hp : p < L := PK_lt (w := w) (by rw [c45]; first | decide | (dsimp only <;> decide))
    have bb := BP_1 hb hp
    refine q2fL (by first | decide | (dsimp only <;> decide)) (q2GR (fun _ => q2GR (fun _ => q2fR (by show ¬ upd _ _ _ _ = (0:Int32); rw [upd1]; first | decide | (dsimp only <;> decide)) ?_)))
    have dd := DS_mv (d0 1) (show p ≤ p + 1 by obtain ⟨t1, t2, t3⟩ := bb; grind)
    have key := rr_n71 (n := n) (m := m) h0 hv (show p ≤ p + 1 by obtain ⟨t1, t2, t3⟩ := bb; grind) bb (Or.inr rfl) dd
    show o_p2 (m_Rd_readNumber_j34 n (Tx_total tc) p 1 (bgT tc 3 p x s) (ps Rd (Rd_position Rd + 1))) (m_MT_number_j71 m (MT_values a) (MT_at a) 0 0 (atM (nmM a x 1) (MT_at a + 1))) _
    rw [hR.2.2.1, hM.2.1]
    exact key
  · refine q2tL rfl (q2GR (fun _ => q2GR (fun _ => q2tR (by show upd _ _ _ _ = (0:Int32); rw [upd1]; rfl) ?_)))
    show o_p2 _ (m_MT_number_j71 m (MT_values a) (MT_at a) 0 0 (nmM a x 0)) _
    have key := rr_n71 (n := n) (m := m) h0 hv (Int32.le_refl p) hb (Or.inl rfl) (d0 0)
    rw [hM.2.1]
    exact key
