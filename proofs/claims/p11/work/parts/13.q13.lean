/-! Objects -/
def OP (n : Nat) (w : Nat → Int32) (L : Int32) (tc0 : STx) (a0 : SMT) (x s : Int32) (q : Nat × Int32 × STx × SRd) (q' : Nat × Int32 × Int32 × SMT) : Prop :=
  (q.1 = 3 ∧ q'.1 = 6 ∧ ∃ p k last, LIr w L tc0 a0 x s 1 k last p q.2.2.1 (ps q.2.2.2 p) q'.2.2.2 ∧ Tx_sizes q.2.2.1 (MT_values a0).toNatClampNeg = k ∧ Tx_afters q.2.2.1 (MT_values a0).toNatClampNeg = Tx_total q.2.2.1 ∧ p < L ∧ Rd_position q.2.2.2 = p + 1)
  ∨ (q.1 = 1 ∧ (q'.1 = 2 ∨ q'.1 = 5) ∧ FL q.2.2.2 q'.2.2.2)
  ∨ (q.1 = 1 ∧ (q'.1 = 1 ∨ q'.1 = 4) ∧ Rd_wrongPlace q.2.2.2 = MT_at q'.2.2.2 ∧ 0 ≤ MT_at q'.2.2.2 ∧ MT_wrong q'.2.2.2 = -1)
  ∨ (q.1 = 1 ∧ q'.1 = 3 ∧ Rd_wrongPlace q.2.2.2 = q'.2.2.1 ∧ 0 ≤ q'.2.2.1 ∧ MT_wrong q'.2.2.2 = -1)
  ∨ (q.1 = 2 ∧ q'.1 = 7 ∧ Rd_position q.2.2.2 = MT_at q'.2.2.2 ∧ 0 ≤ MT_at q'.2.2.2 ∧ MT_wrong q'.2.2.2 = -1)
  ∨ (q.1 = 4 ∧ q'.1 = 1 ∧ (∀ R1, m_Rd_skipBlanks n q.2.2.2 = some R1 → Rd_position R1 = MT_at q'.2.2.2) ∧ 0 ≤ MT_at q'.2.2.2 ∧ MT_wrong q'.2.2.2 = -1)
/-- what a step of the object's loops owes -/
def OS (n : Nat) (rec : Int32 → Int32 → Int32 → STx → SRd → Option (Int32 × STx × SRd)) (w : Nat → Int32) (L : Int32) (tc0 : STx) (a0 : SMT) (x s d : Int32) (q : Nat × Int32 × STx × SRd) (q' : Nat × Int32 × Int32 × SMT) : Prop :=
  (q.1 = 0 ∧ q'.1 = 0 ∧ ∃ p, LIr w L tc0 a0 x s 1 q.2.1 q'.2.1 p q.2.2.1 q.2.2.2 q'.2.2.2 ∧ Tx_sizes q.2.2.1 (MT_values a0).toNatClampNeg = q.2.1)
  ∨ (q.1 ≠ 0 ∧ q'.1 ≠ 0 ∧ OP n w L tc0 a0 x s q q') ∨ (q.1 = 0 ∧ q'.1 ≠ 0 ∧ ∀ m r, o_lp m (m_Rd_readObject_b37 n rec (MT_values a0) d) q.2 = some r → OP n w L tc0 a0 x s r q')
/-- the nodes behind the open one, after more has been read -/
theorem LIr_nr {w : Nat → Int32} {L x s o k last p p1 : Int32} {tc0 tc tc1 : STx} {a0 a a1 : SMT} {Rd Rd1 : SRd} (h : LIr w L tc0 a0 x s o k last p tc Rd a) (hr : RO w L p1 tc1 Rd1 a1) (hC : CF (MT_values a) tc tc1) (hM : MF (MT_values a) a a1) (hN : NR (MT_values a) tc1 a1) : NR (MT_values a0 + 1) tc1 a1 := by
  obtain ⟨h1, h2, h3, h4, h5, h6, _⟩ := h
  obtain ⟨b1, b2, b3, c1, c2, c3, c5, c6, c7, c8, c9, c10⟩ := RO_v h1
  obtain ⟨B1, B2, B3, C1, C2, C3, C5, C6, C7, C8, C9, C10⟩ := RO_v hr
  intro y y0 y1
  by_cases c : y < MT_values a
  · exact NODE_tr (by grind) c c1 c3 (by grind) (by grind) (by grind) hC hM (h6 y y0 (by rw [c1]; exact c))
  · exact hN y (by grind) y1
/-- behind the value: a comma or the end -/
theorem rr_objC {n m : Nat} {rec : Int32 → Int32 → Int32 → STx → SRd → Option (Int32 × STx × SRd)} {rec' : Int32 → Int32 → SMT → Option (Int32 × SMT)} {w : Nat → Int32} {L x s d x2 k p1 wd : Int32} {tc0 tc1 : STx} {a0 A : SMT} {Rd1 : SRd} (hA : ∀ B' : SMT, B' = MT_mk (MT_text A) (MT_kind A) (MT_place A) (upd (MT_many A) (MT_values a0).toNatClampNeg (((MT_many A) (MT_values a0).toNatClampNeg) + (1:Int32))) (MT_parent A) (MT_power A) (MT_first A) (MT_next A) (MT_name A) (MT_from A) (MT_characters A) (MT_digits A) (MT_minus A) (MT_values A) (MT_letters A) (MT_at A) (MT_wrong A) (MT_used A) (MT_written A) (MT_left A) → LIr w L tc0 a0 x s 1 (k + 1) wd p1 tc1 Rd1 B') :
    o_p2 (o_bd (m_Rd_skipBlanks n Rd1) fun q7 => o_bd (m_Rd_peek q7) fun q8 => if q8 = (44:Int32) then m_Rd_readObject_j123 n rec (MT_values a0) d k q8 tc1 q7 else if q8 = (125:Int32) then m_Rd_readObject_j123 n rec (MT_values a0) d k q8 tc1 q7 else some (2, k, tc1, q7)) (m_MT_object_j261 m rec' x2 (MT_values a0) wd A) (OS n rec w L tc0 a0 x s d) := by
  obtain ⟨A2, eA⟩ : ∃ B' : SMT, B' = MT_mk (MT_text A) (MT_kind A) (MT_place A) (upd (MT_many A) (MT_values a0).toNatClampNeg (((MT_many A) (MT_values a0).toNatClampNeg) + (1:Int32))) (MT_parent A) (MT_power A) (MT_first A) (MT_next A) (MT_name A) (MT_from A) (MT_characters A) (MT_digits A) (MT_minus A) (MT_values A) (MT_letters A) (MT_at A) (MT_wrong A) (MT_used A) (MT_written A) (MT_left A) := ⟨_, rfl⟩
  have hL2 := hA A2 eA
  have hro2 := hL2.1
  unfold m_MT_object_j261
  rw [← eA]
  refine q2GR (fun _ => q2GR (fun _ => q2B (rr_blanks hro2.1 hro2.2.1 hro2.2.2.1) ?_))
  rintro R2 A3 ⟨p2, B2, hp2, rfl, rfl⟩
  have hro3 := RO_mv hro2 B2 hp2
  have hL3 := LIr_mv hL2 hro3
  have kR : m_Rd_peek (ps Rd1 p2) = some (PK w L p2) := rr_peek hro3.1 B2
  have kM3 : m_MT_c (MT_at (atM A2 p2)) (atM A2 p2) = some (PK w L p2) := rr_c hro3.2.1 B2.1 B2.2.2
  have hlt : MT_values a0 < Tx_total tc1 := by rw [hro3.2.2.2.1]; exact hL3.2.1
  have h0 : 0 ≤ MT_values a0 := hL3.2.2.1
  refine q2Le kR (q2Re kM3 ?_)
  unfold m_Rd_readObject_j123
  by_cases c125 : PK w L p2 = 125
  · have hp : p2 < L := PK_lt (w := w) (by rw [c125]; first | decide | (dsimp only <;> decide))
    refine q2fL (by rw [c125]; first | decide | (dsimp only <;> decide)) (q2tL c125 (q2tR c125 (q2L (fun q9 e9 => q2tL c125 ?_))))
    have e9 := rr_endP h0 hlt e9
    subst e9
    exact q2S (Or.inr (Or.inl ⟨Nat.succ_ne_zero _, Nat.succ_ne_zero _, Or.inl ⟨rfl, rfl, p2, k + 1, wd, LIr_ep hL3 (Or.inr rfl), o_updE, o_updE, hp, rfl⟩⟩))
  · refine q2fR c125 (q2Re kM3 ?_)
    by_cases c44 : PK w L p2 = 44
    · have hp : p2 < L := PK_lt (w := w) (by rw [c44]; first | decide | (dsimp only <;> decide))
      have b4 := BP_1 B2 hp
      have h4 := RO_mv hro3 b4 (show p2 ≤ p2 + 1 by obtain ⟨u1, u2, u3⟩ := B2; grind)
      refine q2tL c44 (q2L (fun q9 e9 => q2fL c125 (q2NL (q2tR c44 ?_))))
      have e9 := rr_endP h0 hlt e9
      subst e9
      exact q2S (Or.inl ⟨rfl, rfl, p2 + 1, LIr_ep (LIr_mv hL3 h4) (Or.inr rfl), o_updE⟩)
    · refine q2fL c44 (q2fL c125 (q2fR c44 (q2S (Or.inr (Or.inl ⟨Nat.succ_ne_zero _, Nat.succ_ne_zero _, Or.inr (Or.inr (Or.inr (Or.inr (Or.inl ⟨rfl, rfl, rfl, B2.1, hro3.2.1.2.2.1⟩))))⟩)))))
theorem rr_objS {n m : Nat} {rec : Int32 → Int32 → Int32 → STx → SRd → Option (Int32 × STx × SRd)} {rec' : Int32 → Int32 → SMT → Option (Int32 × SMT)} {w : Nat → Int32} {L x s x2 : Int32} {tc0 : STx} {a0 : SMT} (hrec : HREC n w L rec rec' (x2 + 1)) (z : Int32 × STx × SRd) (z' : Int32 × Int32 × SMT) (hz : ∃ p, LIr w L tc0 a0 x s 1 z.1 z'.1 p z.2.1 z.2.2 z'.2.2 ∧ Tx_sizes z.2.1 (MT_values a0).toNatClampNeg = z.1) :
    o_p2 (m_Rd_readObject_b37 n rec (MT_values a0) (x2 + 1) z) (m_MT_object_b50 m rec' x2 (MT_values a0) z') (OS n rec w L tc0 a0 x s (x2 + 1)) := by
  obtain ⟨k, tc, Rd⟩ := z
  obtain ⟨last, x5, a⟩ := z'
  obtain ⟨p, hL, hsz⟩ := hz
  replace hL : LIr w L tc0 a0 x s 1 k last p tc Rd a := hL
  replace hsz : Tx_sizes tc (MT_values a0).toNatClampNeg = k := hsz
  have hro := hL.1
  obtain ⟨hR, hM, hb, hC⟩ := id hro
  obtain ⟨_, l2, l3, l4, l5, l6, l7, l8, l9, l10, l11, l12, l13, l14, l15, lcs⟩ := id hL
  obtain ⟨b1, b2, b3, c1, c2, c3, c5, c6, c7, c8, c9, c10⟩ := RO_v hro
  unfold m_Rd_readObject_b37 m_MT_object_b50
  refine q2R (fun q4 e4 => ?_)
  obtain ⟨p', B, hpp, rfl⟩ := rr_blankM hM hb e4
  have hsk := rr_blankS (n := n) hR hM hb e4
  have hro' := RO_mv hro B hpp
  have hM' : MtOK w L p' (atM a p') := hro'.2.1
  have kM : m_MT_c (MT_at (atM a p')) (atM a p') = some (PK w L p') := rr_c hM' B.1 B.2.2
  have kR : m_Rd_peek (ps Rd p') = some (PK w L p') := rr_peek hro'.1 B
  have em : MT_many (atM a p') (MT_values a0).toNatClampNeg = k := l13
  have pos : ∀ R1, m_Rd_skipBlanks n Rd = some R1 → Rd_position R1 = p' := by
    intro R1 e1
    rw [hsk R1 e1]
  refine q2Re kM ?_
  rw [em]
  -- no name: refused where they are
  have no1 : ∀ (tcx : STx), o_p2 (o_bd (m_Rd_beginName_j31 n (-1) tcx (ps Rd p')) fun q3 => if q3.1 = (-1:Int32) then some (1, k, q3.2.1, q3.2.2) else o_bd (m_Rd_readString n q3.1 q3.2.1 q3.2.2) fun q4 => if q4.1 = 0 then some (1, k, q4.2.1, q4.2.2) else o_bd (m_Rd_endName n (MT_values a0) q3.1 q4.2.1 q4.2.2) fun q5 => if q5.1 = 0 then some (1, k, q4.2.1, q5.2) else o_bd (rec (MT_values a0) k (x2 + 1 + (1:Int32)) q4.2.1 q5.2) fun q6 => if q6.1 = 0 then some (1, k, q6.2.1, q6.2.2) else o_bd (m_Rd_skipBlanks n q6.2.2) fun q7 => o_bd (m_Rd_peek q7) fun q8 => if q8 = (44:Int32) then m_Rd_readObject_j123 n rec (MT_values a0) (x2 + 1) k q8 q6.2.1 q7 else if q8 = (125:Int32) then m_Rd_readObject_j123 n rec (MT_values a0) (x2 + 1) k q8 q6.2.1 q7 else some (2, k, q6.2.1, q7)) (some (1, last, (0:Int32), atM a p')) (OS n rec w L tc0 a0 x s (x2 + 1)) := by
    intro tcx
    unfold m_Rd_beginName_j31 m_Rd_refuse
    refine q2L (fun q3 e3 => ?_)
    have e3 := o_tt (show (-1:Int32) = -1 from rfl) e3
    cases e3
    refine q2tL rfl (q2S (Or.inr (Or.inl ⟨Nat.succ_ne_zero _, Nat.succ_ne_zero _, Or.inr (Or.inr (Or.inl ⟨rfl, Or.inl rfl, rfl, B.1, hM'.2.2.1⟩))⟩)))
  by_cases c60 : k = 60
  · refine q2tL (show (60:Int32) ≤ k by rw [c60]; first | decide | (dsimp only <;> decide)) ?_
    have fin : o_p2 (some (4, k, tc, Rd)) (some (1, last, (0:Int32), atM a p')) (OS n rec w L tc0 a0 x s (x2 + 1)) := q2S (Or.inr (Or.inl ⟨Nat.succ_ne_zero _, Nat.succ_ne_zero _, Or.inr (Or.inr (Or.inr (Or.inr (Or.inr ⟨rfl, rfl, pos, B.1, hM'.2.2.1⟩))))⟩))
    exact q2IR (fun _ => q2GR (fun _ => q2tR c60 fin)) (fun _ => fin)
  refine q2fL (show ¬ (60:Int32) ≤ k by grind) ?_
  unfold m_Rd_beginName
  intro rr rr' er er'
  obtain ⟨q3, e3, er⟩ := o_bd_some er
  obtain ⟨R1, eR1, e3⟩ := o_bd_some e3
  have eR1 := hsk R1 eR1
  subst eR1
  obtain ⟨pk, epk, e3⟩ := o_bd_some e3
  rw [kR] at epk
  cases epk
  by_cases c34 : PK w L p' = 34
  · have e3 := o_tt c34 e3
    have er' := o_tt c34 er'
    have er' := (o_gd_some er').2
    have er' := o_ff c60 er'
    obtain ⟨qb, eqb, e3⟩ := o_bd_some e3
    rcases rr_begin eqb with ⟨g1, g2⟩ | ⟨g1, g2⟩
    · subst g2
      rw [c1] at g1
      have er' := o_ff (show ¬ MT_values (atM a p') = 1000 by show ¬ MT_values a = 1000; grind) er'
      have hpL : p' < L := PK_lt (w := w) (by rw [c34]; first | decide | (dsimp only <;> decide))
      unfold m_Rd_beginName_j31 at e3
      have e3 := o_ff (show ¬ Tx_total tc = -1 by rw [c1]; grind) e3
      cases e3
      have er := o_ff (show ¬ Tx_total tc = -1 by rw [c1]; grind) er
      unfold o_nm at er'
      obtain ⟨qs, eqs, er⟩ := o_bd_some er
      obtain ⟨qt, eqt, er'⟩ := o_bd_some er'
      obtain ⟨hv, hv2⟩ := rr_string (x := MT_values a0) (s := k) hro' hpL g1 qs qt eqs eqt
      rcases hv with ⟨f1, f2, f3⟩ | ⟨f1, f2, pN, f4, f5⟩
      · have er := o_tt f1 er
        have er' := o_tt f2 er'
        cases er
        cases er'
        exact Or.inr (Or.inl ⟨Nat.succ_ne_zero _, Nat.succ_ne_zero _, Or.inr (Or.inl ⟨rfl, Or.inl rfl, f3⟩)⟩)
      · obtain ⟨v1, v2, v3⟩ := hv2 f2
        have er := o_ff (show ¬ qs.1 = 0 by rw [f1]; first | decide | (dsimp only <;> decide)) er
        have er' := o_ff (show ¬ qt.1 = 0 by rw [f2]; first | decide | (dsimp only <;> decide)) er'
        have er' := (o_gd_some er').2
        obtain ⟨t1, t2, t3, t4, t5, t6, t7, t8, t9⟩ := f5
        replace v1 : MT_kind qt.2 (MT_values a).toNatClampNeg = 4 := v1
        replace v2 : MT_values qt.2 = MT_values a + 1 := v2
        replace v3 : MT_place qt.2 (MT_values a).toNatClampNeg = p' := v3
        replace t1 : MT_values a < MT_values qt.2 := t1
        replace t2 : CF (MT_values a) tc qs.2.1 := t2
        replace t3 : MF (MT_values a) a qt.2 := t3
        replace t4 : NR (MT_values a) qs.2.1 qt.2 := t4
        obtain ⟨B1, B2, B3, C1, C2, C3, C5, C6, C7, C8, C9, C10⟩ := RO_v f4
        have hNR := LIr_nr hL f4 t2 t3 t4
        have fV := t2.2.2.2 (MT_values a0) l3 l2
        have gV := t3.2.2.2.2 (MT_values a0) l3 l2
        have kin : KIN qs.2.1 qt.2 (MT_values a0) k 1 := by
          obtain ⟨cs, i1, i2, i3, _⟩ := lcs
          exact KIN_tr l3 l2 (Or.inr rfl) c1 c3 t2 t3 ⟨l14, l15, cs, i1, i2, i3⟩
        have k6 : Tx_kinds qs.2.1 (MT_values a0).toNatClampNeg = 6 := by rw [fV.1, l7.1, l8]; first | decide | (dsimp only <;> decide)
        have s6 : Tx_sizes qs.2.1 (MT_values a0).toNatClampNeg = k := by rw [fV.2.2.1]; exact hsz
        obtain ⟨qe, eqe, er⟩ := o_bd_some er
        obtain ⟨ql, eql, er'⟩ := o_bd_some er'
        unfold m_Rd_endName at eqe
        obtain ⟨qm, eqm, eqe⟩ := o_bd_some eqe
        rw [c1] at eqm
        replace eql : o_lp m (m_MT_object_b127 m rec' x2 (MT_values a0) last p' (MT_values a) qt.2) (MT_first qt.2 (MT_values a0).toNatClampNeg) = some ql := eql
        have hmem := rr_member (x5 := p') (by grind) C1 C3 l3 (by grind) k6 s6 kin hNR (show MT_values a0 + 1 ≤ MT_values a by grind) (by grind) v1 qm ql eqm eql
        rcases hmem with ⟨m1, m2⟩ | ⟨m1, m2⟩
        · have eqe := o_tt m1 eqe
          have er' := o_ff m2 er'
          obtain ⟨A9, eA9, er'⟩ := o_bd_some er'
          obtain ⟨RS, eRS, eqe⟩ := o_bd_some eqe
          obtain ⟨p3, B3', hp3, rfl, rfl⟩ := rr_blanks f4.1 f4.2.1 f4.2.2.1 RS A9 eRS eA9
          have hro3 := RO_mv f4 B3' hp3
          have kR3 : m_Rd_peek (ps qs.2.2 p3) = some (PK w L p3) := rr_peek hro3.1 B3'
          have kM3 : m_MT_c (MT_at (atM qt.2 p3)) (atM qt.2 p3) = some (PK w L p3) := rr_c hro3.2.1 B3'.1 B3'.2.2
          obtain ⟨u, eu, eqe⟩ := o_bd_some eqe
          rw [kR3] at eu
          cases eu
          obtain ⟨u', eu', er'⟩ := o_bd_some er'
          rw [kM3] at eu'
          cases eu'
          by_cases c58 : PK w L p3 = 58
          · have eqe := o_tt c58 eqe
            have er' := o_tt c58 er'
            cases eqe
            have er := o_ff (show ¬ (1:Int32) = 0 by first | decide | (dsimp only <;> decide)) er
            have hp4 : p3 < L := PK_lt (w := w) (by rw [c58]; first | decide | (dsimp only <;> decide))
            have b4 := BP_1 B3' hp4
            have hro4 := RO_mv hro3 b4 (show p3 ≤ p3 + 1 by obtain ⟨u1, u2, u3⟩ := B3'; grind)
            obtain ⟨A11, eA11, er'⟩ := o_bd_some er'
            obtain ⟨p5, B5, hp5, rfl⟩ := rr_blankM hro4.2.1 b4 eA11
            have hsk5 := rr_blankS (n := n) hro4.1 hro4.2.1 b4 eA11
            have hro5 := RO_mv hro4 B5 hp5
            obtain ⟨qc, eqc, er⟩ := o_bd_some er
            obtain ⟨qd, eqd, er'⟩ := o_bd_some er'
            have hv := hrec.1 (MT_values a0) k p5 qs.2.1 (ps (ps qs.2.2 p3) (p3 + 1)) (atM (atM (atM qt.2 p3) (p3 + 1)) p5) hro5 hsk5 qc qd eqc eqd
            rcases hv with ⟨f1, f2, f3⟩ | ⟨f1, f2, p6, g4, g5⟩
            · have er := o_tt f1 er
              have er' := o_tt f2 er'
              cases er
              cases er'
              exact Or.inr (Or.inl ⟨Nat.succ_ne_zero _, Nat.succ_ne_zero _, Or.inr (Or.inl ⟨rfl, Or.inr rfl, f3⟩)⟩)
            · have er := o_ff (show ¬ qc.1 = 0 by rw [f1]; first | decide | (dsimp only <;> decide)) er
              have er' := o_ff (show ¬ qd.1 = 0 by rw [f2]; first | decide | (dsimp only <;> decide)) er'
              have er' := (o_gd_some er').2
              obtain ⟨T1, T2, T3, T4, T5, T6, T7, T8, T9⟩ := g5
              replace T1 : MT_values qt.2 < MT_values qd.2 := T1
              replace T2 : CF (MT_values qt.2) qs.2.1 qc.2.1 := T2
              replace T3 : MF (MT_values qt.2) qt.2 qd.2 := T3
              replace T4 : NR (MT_values qt.2) qc.2.1 qd.2 := T4
              rw [v2] at T1 T2 T3 T4
              replace T5 : Tx_slots qc.2.1 (MT_values qt.2).toNatClampNeg = k := T5
              replace T6 : Tx_parents qc.2.1 (MT_values qt.2).toNatClampNeg = MT_values a0 := T6
              replace T7 : Tx_afters qc.2.1 (MT_values qt.2).toNatClampNeg = Tx_total qc.2.1 := T7
              replace T8 : MT_next qd.2 (MT_values qt.2).toNatClampNeg = -1 := T8
              rw [v2] at T5 T6 T7 T8
              obtain ⟨D1, D2, D3, E1, E2, E3, E5, E6, E7, E8, E9, E10⟩ := RO_v g4
              have le1 : MT_values a ≤ MT_values a + 1 := by grind
              have CFc := CF_trans t2 T2 le1
              have MFc := MF_trans t3 T3 le1
              have ndN : NODE qc.2.1 qd.2 (MT_values a) := NODE_tr c2 (by grind) (by rw [C1, v2]) (by grind) (by grind) (by grind) (by grind) T2 T3 (t4 (MT_values a) (Int32.le_refl _) (by rw [C1]; exact t1))
              have NRc : NR (MT_values a) qc.2.1 qd.2 := by
                intro y y0 y1
                by_cases e : y = MT_values a
                · rw [e]; exact ndN
                · exact T4 y (by grind) y1
              have kN : Tx_kinds qc.2.1 (MT_values a + 1 - 1).toNatClampNeg = 4 := by
                have e : MT_values a + 1 - 1 = MT_values a := by grind
                rw [e, (T2.2.2.2 (MT_values a) c2 (by grind)).1, (t4 (MT_values a) (Int32.le_refl _) (by rw [C1]; exact t1)).1.1]
                exact v1
              have ew : MT_values a + 1 - 1 = MT_values a := by grind
              have step : ∀ A2 : SMT, MT_text A2 = MT_text qd.2 → MT_kind A2 = MT_kind qd.2 → MT_place A2 = MT_place qd.2 → MT_parent A2 = MT_parent qd.2 → MT_power A2 = MT_power qd.2 → MT_from A2 = MT_from qd.2 → MT_characters A2 = MT_characters qd.2 → MT_digits A2 = MT_digits qd.2 → MT_minus A2 = MT_minus qd.2 → MT_used A2 = MT_used qd.2 → MT_written A2 = MT_written qd.2 → MT_values A2 = MT_values qd.2 → MT_letters A2 = MT_letters qd.2 → MT_at A2 = MT_at qd.2 → MT_wrong A2 = MT_wrong qd.2 → MT_many A2 = upd (MT_many qd.2) (MT_values a0).toNatClampNeg (MT_many qd.2 (MT_values a0).toNatClampNeg + 1) → ((0 ≤ last ∧ MT_first A2 = MT_first qd.2 ∧ MT_next A2 = upd (MT_next qd.2) last.toNatClampNeg (MT_values a + 1)) ∨ (last < 0 ∧ MT_first A2 = upd (MT_first qd.2) (MT_values a0).toNatClampNeg (MT_values a + 1) ∧ MT_next A2 = MT_next qd.2)) → MT_name A2 = upd (MT_name qd.2) (MT_values a + 1).toNatClampNeg (MT_values a) → LIr w L tc0 a0 x s 1 (k + 1) (MT_values a + 1) p6 qc.2.1 qc.2.2 A2 := by
                intro A2 z0 z1 z2 z3 z4 z5 z6 z7 z8 z9 z10 z11 z12 z13 z14 y1 y2 y3
                exact LIr_step (wd := MT_values a + 1) hL (Or.inr rfl) (by grind) g4 rfl T1 CFc MFc NRc T5 T6 T7 T8 (fun _ => kN) z0 z1 z2 z3 z4 z5 z6 z7 z8 z9 z10 z11 z12 z13 z14 y1 y2 (Or.inr ⟨rfl, by rw [ew]; exact y3⟩)
              have ev : MT_values (atM (atM (atM qt.2 p3) (p3 + 1)) p5) = MT_values a + 1 := v2
              rw [ev] at er'
              by_cases cl : 0 ≤ last
              · have er' := o_tt cl er'
                have er' := (o_gd_some er').2
                refine rr_objC (rec := rec) (x2 := x2) (p1 := p6) (wd := MT_values a + 1) (fun B' eB => ?_) rr rr' er er'
                exact step B' (by rw [eB]) (by rw [eB]) (by rw [eB]) (by rw [eB]) (by rw [eB]) (by rw [eB]) (by rw [eB]) (by rw [eB]) (by rw [eB]) (by rw [eB]) (by rw [eB]) (by rw [eB]) (by rw [eB]) (by rw [eB]) (by rw [eB]) (by rw [eB]) (Or.inl ⟨cl, by rw [eB], by rw [eB]⟩) (by rw [eB])
              · have er' := o_ff cl er'
                have er' := (o_gd_some er').2
                refine rr_objC (rec := rec) (x2 := x2) (p1 := p6) (wd := MT_values a + 1) (fun B' eB => ?_) rr rr' er er'
                exact step B' (by rw [eB]) (by rw [eB]) (by rw [eB]) (by rw [eB]) (by rw [eB]) (by rw [eB]) (by rw [eB]) (by rw [eB]) (by rw [eB]) (by rw [eB]) (by rw [eB]) (by rw [eB]) (by rw [eB]) (by rw [eB]) (by rw [eB]) (by rw [eB]) (Or.inr ⟨by grind, by rw [eB], by rw [eB]⟩) (by rw [eB])
          · have eqe := o_ff c58 eqe
            have er' := o_ff c58 er'
            cases er'
            unfold m_Rd_refuse at eqe
            obtain ⟨qz, ez, eqe⟩ := o_bd_some eqe
            cases ez
            have eqe := (o_gd_some eqe).2
            cases eqe
            have er := o_tt (show (0:Int32) = 0 from rfl) er
            cases er
            exact Or.inr (Or.inl ⟨Nat.succ_ne_zero _, Nat.succ_ne_zero _, Or.inr (Or.inr (Or.inl ⟨rfl, Or.inr rfl, rfl, B3'.1, hro3.2.1.2.2.1⟩))⟩)
        · have eqe := o_ff m1 eqe
          have er' := o_tt m2 er'
          cases er'
          obtain ⟨pl, epl, eqe⟩ := o_bd_some eqe
          unfold m_Rd_refuse at eqe
          obtain ⟨qz, ez, eqe⟩ := o_bd_some eqe
          cases ez
          have eqe := (o_gd_some eqe).2
          cases eqe
          have er := o_tt (show (0:Int32) = 0 from rfl) er
          cases er
          have epl2 : pl = p' := by
            unfold m_Tx_place at epl
            rw [c1] at epl
            have epl := o_ff (show ¬ MT_values a < 0 by grind) epl
            have epl := o_ff (show ¬ Tx_total qs.2.1 ≤ MT_values a by rw [C1]; grind) epl
            have epl := (o_gd_some epl).2
            cases epl
            rw [(t4 (MT_values a) (Int32.le_refl _) (by rw [C1]; exact t1)).1.2.2.2.1]
            exact v3
          exact Or.inr (Or.inl ⟨Nat.succ_ne_zero _, Nat.succ_ne_zero _, Or.inr (Or.inr (Or.inr (Or.inl ⟨rfl, rfl, epl2, B.1, f4.2.1.2.2.1⟩)))⟩)
    · subst g2
      rw [c1] at g1
      have er' := o_tt (show MT_values (atM a p') = 1000 by show MT_values a = 1000; grind) er'
      have key := no1 tc rr rr' (show o_bd (m_Rd_beginName_j31 n (-1) tc (ps Rd p')) _ = some rr by rw [e3]; exact er) er'
      exact key
  · have e3 := o_ff c34 e3
    have er' := o_ff c34 er'
    have key := no1 tc rr rr' (show o_bd (m_Rd_beginName_j31 n (-1) tc (ps Rd p')) _ = some rr by rw [e3]; exact er) er'
    exact key
theorem rr_object {n m : Nat} {rec : Int32 → Int32 → Int32 → STx → SRd → Option (Int32 × STx × SRd)} {rec' : Int32 → Int32 → SMT → Option (Int32 × SMT)} {w : Nat → Int32} {L p x s x2 : Int32} {tc : STx} {Rd : SRd} {a : SMT} (hrec : HREC n w L rec rec' (x2 + 1)) (h : RO w L p tc Rd a) (hp : p < L) (hv : MT_values a < 1000) : o_p2 (m_Rd_readObject n rec (Tx_total tc) (x2 + 1) (bgT tc 6 p x s) Rd) (m_MT_object m rec' x x2 a) (RV w L p tc a x s) := by
  obtain ⟨b1, b2, b3, c1, c2, c3, c5, c6, c7, c8, c9, c10⟩ := RO_v h
  obtain ⟨hR, hM, hb, hC⟩ := id h
  have bp := BP_1 hb hp
  have p1 : p ≤ p + 1 := by obtain ⟨u1, u2, u3⟩ := bp; grind
  unfold m_Rd_readObject m_MT_object
  rw [hR.2.2.1, c1]
  refine q2R (fun q1 e1 => ?_)
  have e1 := rr_fresh e1
  subst e1
  have hMf : MtOK w L (p + 1) (atM (frM a x 6) (p + 1)) := ⟨hM.1, rfl, hM.2.2.1, hM.2.2.2⟩
  show o_p2 (o_bd (m_Rd_skipBlanks n (ps Rd (p + 1))) _) (o_bd (m_MT_blanks m (atM (frM a x 6) (MT_at a + 1))) _) _
  rw [hM.2.1]
  refine q2B (rr_blanks (RdOK_ps (p' := p + 1) hR) hMf bp) ?_
  rintro R2 A2 ⟨p2, B2, hp2, rfl, rfl⟩
  have hLo : LIr w L tc a x s 1 0 (-1) p2 (bgT tc 6 p x s) (ps Rd p2) (atM (frM a x 6) p2) := LIr_open h hv (Or.inr rfl) B2 (Int32.le_trans p1 hp2)
  have hro := hLo.1
  have kR : m_Rd_peek (ps Rd p2) = some (PK w L p2) := rr_peek hro.1 B2
  have kM : m_MT_c (MT_at (atM (frM a x 6) p2)) (atM (frM a x 6) p2) = some (PK w L p2) := rr_c hro.2.1 B2.1 B2.2.2
  refine q2Le kR (q2Re kM (q2IB Iff.rfl (fun c93 => ?_) (fun c93 => ?_)))
  · have hpl : p2 < L := PK_lt (w := w) (by rw [c93]; first | decide | (dsimp only <;> decide))
    have b4 := BP_1 B2 hpl
    have hro4 := RO_mv hro b4 (show p2 ≤ p2 + 1 by obtain ⟨u1, u2, u3⟩ := B2; grind)
    have hT := LIr_end (LIr_mv hLo hro4) (Or.inr rfl) (rr_upE c1.symm) (rr_upE c1.symm)
    exact q2S (Or.inr ⟨rfl, rfl, p2 + 1, hro4, hT⟩)
  · refine q2B (q2lp (P := OP n w L tc a x s) (fun z z' => ∃ p, LIr w L tc a x s 1 z.1 z'.1 p z.2.1 z.2.2 z'.2.2 ∧ Tx_sizes z.2.1 (MT_values a).toNatClampNeg = z.1) (fun z z' hz => rr_objS hrec z z' hz) n m _ _ ⟨p2, hLo, rr_upE c1.symm⟩) ?_
    rintro ⟨k, kk, tc1, Rd1⟩ ⟨k', last, x5, a1⟩ hP
    rcases hP with ⟨f1, f2, pe, ke, la, f3, f6, f7, f4, f5⟩ | ⟨f1, f2, f3⟩ | ⟨f1, f2, f3, f4, f5⟩ | ⟨f1, f2, f3, f4, f5⟩ | ⟨f1, f2, f3, f4, f5⟩ | ⟨f1, f2, f3, f4, f5⟩
    · replace f1 : k = 3 := f1
      replace f2 : k' = 6 := f2
      subst f1 f2
      replace f3 : LIr w L tc a x s 1 ke la pe tc1 (ps Rd1 pe) a1 := f3
      replace f5 : Rd_position Rd1 = pe + 1 := f5
      have hroe := f3.1
      have B3 := hroe.2.2.1
      have b4 := BP_1 B3 f4
      have hro4 := RO_mv hroe b4 (show pe ≤ pe + 1 by obtain ⟨u1, u2, u3⟩ := B3; grind)
      have hT := LIr_end (LIr_mv f3 hro4) (Or.inr rfl) f6 f7
      have eR : ps (ps Rd1 pe) (pe + 1) = Rd1 := by rw [← f5]
      rw [eR] at hro4
      refine q2fL (by show ¬ 3 = 1; first | decide | (dsimp only <;> decide)) (q2fL (by show ¬ 3 = 2; first | decide | (dsimp only <;> decide)) (q2tL rfl (q2fR (by show ¬ 6 = 1; first | decide | (dsimp only <;> decide)) (q2fR (by show ¬ 6 = 2; first | decide | (dsimp only <;> decide)) (q2fR (by show ¬ 6 = 3; first | decide | (dsimp only <;> decide)) (q2fR (by show ¬ 6 = 4; first | decide | (dsimp only <;> decide)) (q2fR (by show ¬ 6 = 5; first | decide | (dsimp only <;> decide)) (q2tR rfl (q2S (Or.inr ⟨rfl, rfl, pe + 1, ?_, ?_⟩))))))))))
      · show RO w L (pe + 1) tc1 Rd1 (atM a1 (MT_at a1 + 1))
        rw [hroe.2.1.2.1]
        exact hro4
      · show TOP tc a x s tc1 (atM a1 (MT_at a1 + 1))
        rw [hroe.2.1.2.1]
        exact hT
    · replace f1 : k = 1 := f1
      replace f2 : k' = 2 ∨ k' = 5 := f2
      subst f1
      refine q2tL rfl ?_
      rcases f2 with rfl | rfl
      · exact q2fR (by show ¬ 2 = 1; first | decide | (dsimp only <;> decide)) (q2tR rfl (q2S (Or.inl ⟨rfl, rfl, f3⟩)))
      · exact q2fR (by show ¬ 5 = 1; first | decide | (dsimp only <;> decide)) (q2fR (by show ¬ 5 = 2; first | decide | (dsimp only <;> decide)) (q2fR (by show ¬ 5 = 3; first | decide | (dsimp only <;> decide)) (q2fR (by show ¬ 5 = 4; first | decide | (dsimp only <;> decide)) (q2tR rfl (q2S (Or.inl ⟨rfl, rfl, f3⟩))))))
    · replace f1 : k = 1 := f1
      replace f2 : k' = 1 ∨ k' = 4 := f2
      subst f1
      replace f3 : Rd_wrongPlace Rd1 = MT_at a1 := f3
      have fin : o_p2 (some ((0:Int32), tc1, Rd1)) (o_bd (m_MT_bad (MT_at a1) a1) fun q17 => o_gd (o_zb q17.1) <| some (q17.1, q17.2)) (RV w L p tc a x s) := by
        refine q2R (fun q e => q2GR (fun _ => q2S (Or.inl ?_)))
        obtain ⟨g1, g2⟩ := rr_bad f5 q e
        exact ⟨rfl, g1, by rw [g2]; exact f3, by rw [g2]; exact f4⟩
      refine q2tL rfl ?_
      rcases f2 with rfl | rfl
      · refine q2tR rfl ?_
        unfold m_MT_object_j88
        exact fin
      · exact q2fR (by show ¬ 4 = 1; first | decide | (dsimp only <;> decide)) (q2fR (by show ¬ 4 = 2; first | decide | (dsimp only <;> decide)) (q2fR (by show ¬ 4 = 3; first | decide | (dsimp only <;> decide)) (q2tR rfl fin)))
    · replace f1 : k = 1 := f1
      replace f2 : k' = 3 := f2
      subst f1 f2
      replace f3 : Rd_wrongPlace Rd1 = x5 := f3
      refine q2tL rfl (q2fR (by show ¬ 3 = 1; first | decide | (dsimp only <;> decide)) (q2fR (by show ¬ 3 = 2; first | decide | (dsimp only <;> decide)) (q2tR rfl (q2R (fun q e => q2GR (fun _ => q2S (Or.inl ?_)))))))
      obtain ⟨g1, g2⟩ := rr_bad f5 q e
      exact ⟨rfl, g1, by rw [g2]; exact f3, by rw [g2]; exact f4⟩
    · replace f1 : k = 2 := f1
      replace f2 : k' = 7 := f2
      subst f1 f2
      replace f3 : Rd_position Rd1 = MT_at a1 := f3
      refine q2fL (by show ¬ 2 = 1; first | decide | (dsimp only <;> decide)) (q2tL rfl (q2fR (by show ¬ 7 = 1; first | decide | (dsimp only <;> decide)) (q2fR (by show ¬ 7 = 2; first | decide | (dsimp only <;> decide)) (q2fR (by show ¬ 7 = 3; first | decide | (dsimp only <;> decide)) (q2fR (by show ¬ 7 = 4; first | decide | (dsimp only <;> decide)) (q2fR (by show ¬ 7 = 5; first | decide | (dsimp only <;> decide)) (q2fR (by show ¬ 7 = 6; first | decide | (dsimp only <;> decide)) ?_)))))))
      show o_p2 (o_bd (m_Rd_refuse (Rd_position Rd1) Rd1) _) _ _
      rw [f3]
      exact NFr_bad f5 f4
    · replace f1 : k = 4 := f1
      replace f2 : k' = 1 := f2
      subst f1 f2
      refine q2fL (by show ¬ 4 = 1; first | decide | (dsimp only <;> decide)) (q2fL (by show ¬ 4 = 2; first | decide | (dsimp only <;> decide)) (q2fL (by show ¬ 4 = 3; first | decide | (dsimp only <;> decide)) (q2tR rfl (q2L (fun q9 e9 => ?_)))))
      have := f3 q9 e9
      replace this : Rd_position q9 = MT_at a1 := this
      rw [this]
      unfold m_MT_object_j88
      exact NFr_bad f5 f4
