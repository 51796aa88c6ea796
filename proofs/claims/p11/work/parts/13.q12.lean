/-! Arrays -/
theorem rr_blankM {m : Nat} {w : Nat → Int32} {L p : Int32} {a a1 : SMT} (hM : MtOK w L p a) (hb : BP L p) (e : m_MT_blanks m a = some a1) : ∃ p', BP L p' ∧ p ≤ p' ∧ a1 = atM a p' := by
  unfold m_MT_blanks at e
  obtain ⟨q, e1, e⟩ := o_bd_some e
  cases e
  refine q1lp (P := fun q => ∃ p', BP L p' ∧ p ≤ p' ∧ q.2 = atM a p') (fun z => ∃ p', BP L p' ∧ p ≤ p' ∧ z = atM a p') ?_ m a ⟨p, hb, Int32.le_refl _, by rw [← hM.2.1]⟩ q e1
  rintro z ⟨p', b1, b2, rfl⟩
  have k2 : m_MT_c (MT_at (atM a p')) (atM a p') = some (PK w L p') := rr_c (MtOK_at (p' := p') hM) b1.1 b1.2.2
  unfold m_MT_blanks_b0 m_MT_blanks_j52
  rw [k2]
  have go : PK w L p' ≠ -1 → o_pu (some (0, atM (atM a p') (MT_at (atM a p') + 1))) (fun q => (q.1 = 0 ∧ ∃ p', BP L p' ∧ p ≤ p' ∧ q.2 = atM a p') ∨ (q.1 ≠ 0 ∧ ∃ p', BP L p' ∧ p ≤ p' ∧ q.2 = atM a p')) := by
    intro hq
    have hp := PK_lt hq
    refine q1S (Or.inl ⟨rfl, p' + 1, BP_1 b1 hp, ?_, rfl⟩)
    obtain ⟨c1, c2, c3⟩ := b1
    grind
  refine q1I (fun c => go (by rw [c]; first | decide | (dsimp only <;> decide))) (fun _ => q1I (fun c => go (by rw [c]; first | decide | (dsimp only <;> decide))) (fun _ => q1I (fun c => go (by rw [c]; first | decide | (dsimp only <;> decide))) (fun _ => q1I (fun c => go (by rw [c]; first | decide | (dsimp only <;> decide))) (fun _ => q1S (Or.inr ⟨Nat.succ_ne_zero _, p', b1, b2, rfl⟩)))))
/-- the class's blanks lead to the same place -/
theorem rr_blankS {n m : Nat} {w : Nat → Int32} {L p p' : Int32} {Rd : SRd} {a : SMT} (hR : RdOK w L p Rd) (hM : MtOK w L p a) (hb : BP L p) (e : m_MT_blanks m a = some (atM a p')) : ∀ R1, m_Rd_skipBlanks n Rd = some R1 → R1 = ps Rd p' := by
  intro R1 e1
  exact (rr_blankL hR hM hb e R1 e1).1
def bgn (q : Int32) : Bool := q = 110 || q = 116 || q = 102 || q = 34 || q = 91 || q = 123 || q = 45 || (decide (48 ≤ q) && decide (q ≤ 57))
def HREC (n : Nat) (w : Nat → Int32) (L : Int32) (rec : Int32 → Int32 → Int32 → STx → SRd → Option (Int32 × STx × SRd)) (rec' : Int32 → Int32 → SMT → Option (Int32 × SMT)) (dep : Int32) : Prop :=
  (∀ (x s p' : Int32) (tc : STx) (Rd : SRd) (a : SMT), RO w L p' tc (ps Rd p') a → (∀ R1, m_Rd_skipBlanks n Rd = some R1 → R1 = ps Rd p') → o_p2 (rec x s (dep + 1) tc Rd) (rec' x dep a) (RV w L p' tc a x s)) ∧
  (∀ (x p : Int32) (a : SMT), MtOK w L p a → BP L p → bgn (PK w L p) = false → ∀ r, rec' x dep a = some r → r.1 = 0 ∧ MT_wrong r.2 = p)
theorem rr_bgn {q : Int32} : m_MT_begins q = some (if bgn q = true then 1 else 0) := by
  unfold m_MT_begins
  by_cases h1 : q = 110
  · subst h1; rfl
  by_cases h2 : q = 116
  · subst h2; rfl
  by_cases h3 : q = 102
  · subst h3; rfl
  by_cases h4 : q = 34
  · subst h4; rfl
  by_cases h5 : q = 91
  · subst h5; rfl
  by_cases h6 : q = 123
  · subst h6; rfl
  by_cases h7 : q = 45
  · subst h7; rfl
  rw [if_neg h1, if_neg h2, if_neg h3, if_neg h4, if_neg h5, if_neg h6, if_neg h7]
  by_cases h8 : 48 ≤ q ∧ q ≤ 57
  · rw [rr_ind1 h8]
    have : bgn q = true := by
      unfold bgn
      simp [h8.1, h8.2]
    rw [if_pos this]
    rfl
  · rw [rr_ind0 h8]
    have : ¬ bgn q = true := by
      unfold bgn
      intro h
      simp [h1, h2, h3, h4, h5, h6, h7] at h
      exact h8 h
    rw [if_neg this]
    rfl
theorem RO_mv {w : Nat → Int32} {L p p' : Int32} {tc : STx} {Rd : SRd} {a : SMT} (h : RO w L p tc Rd a) (hb : BP L p') (hp : p ≤ p') : RO w L p' tc (ps Rd p') (atM a p') := by
  obtain ⟨hR, hM, _, s1, s2, s3, s4, s5, s6, s7, s8, s9, s10⟩ := h
  exact ⟨RdOK_ps hR, MtOK_at hM, hb, s1, s2, s3, s4, s5, s6, s7, Int32.le_trans s8 hp, s9, Int32.le_trans s10 hp⟩
theorem LIr_open {w : Nat → Int32} {L p p' x s o : Int32} {tc : STx} {Rd : SRd} {a : SMT} (h : RO w L p tc Rd a) (hv : MT_values a < 1000) (ho : o = 0 ∨ o = 1) (hb : BP L p') (hp : p ≤ p') : LIr w L tc a x s o 0 (-1) p' (bgT tc (5 + o) p x s) (ps Rd p') (atM (frM a x (5 + o)) p') := by
  obtain ⟨b1, b2, b3, c1, c2, c3, c5, c6, c7, c8, c9, c10⟩ := RO_v h
  obtain ⟨hR, hM, hb0, hC⟩ := h
  have hcc : Tx_characters tc = MT_used a := hC.2.2.2.1
  have neM : ∀ y : Int32, 0 ≤ y → y < MT_values a → y.toNatClampNeg ≠ (MT_values a).toNatClampNeg := fun y y0 y1 => o_neq y0 c2 (by grind)
  have neT : ∀ y : Int32, 0 ≤ y → y < MT_values a → y.toNatClampNeg ≠ (Tx_total tc).toNatClampNeg := by rw [c1]; exact neM
  have E : ∀ (f : Nat → Int32) (z : Int32), upd f (Tx_total tc).toNatClampNeg z (MT_values a).toNatClampNeg = z := fun f z => rr_upE c1.symm
  have Z : ∀ (f : Nat → Int32) (z : Int32), upd f (MT_values a).toNatClampNeg z (MT_values a).toNatClampNeg = z := fun f z => o_updE
  refine ⟨⟨RdOK_ps hR, ⟨hM.1, rfl, hM.2.2.1, hM.2.2.2⟩, hb, by show Tx_total tc + 1 = MT_values a + 1; rw [c1], by show 0 ≤ MT_values a + 1; grind, by show MT_values a + 1 ≤ 1000; grind, hcc, c5, c6, c7, by show Tx_used tc ≤ p'; grind, c9, by show MT_written a ≤ p'; grind⟩, by show MT_values a < MT_values a + 1; grind, c2, ⟨Int32.le_refl _, by show Tx_total tc ≤ Tx_total tc + 1; rw [c1]; grind, fun _ _ _ => rfl, fun y y0 y1 => ?_⟩, ⟨Int32.le_refl _, Int32.le_refl _, fun _ _ _ => rfl, fun _ _ _ => rfl, fun y y0 y1 => ?_⟩, ?_, ?_, Z _ _, E _ _, E _ _, Z _ _, Z _ _, Z _ _, by first | decide | (dsimp only <;> decide), by first | decide | (dsimp only <;> decide), fun _ => MT_values a + 1 + o, rfl, ?_, ?_, fun _ => ⟨rfl, rfl⟩, fun z => absurd z (by first | decide | (dsimp only <;> decide))⟩
  · have n := neT y y0 y1
    exact ⟨o_updN n, o_updN n, o_updN n, o_updN n, o_updN n, o_updN n, o_updN n, o_updN n, o_updN n⟩
  · have n := neM y y0 y1
    exact ⟨o_updN n, o_updN n, o_updN n, o_updN n, o_updN n, o_updN n, o_updN n, o_updN n, rfl, rfl⟩
  · intro y y0 y1
    replace y1 : y < Tx_total tc + 1 := y1
    rw [c1] at y1
    exact absurd y1 (by grind)
  · refine ⟨(E _ _).trans (Z _ _).symm, ?_, ?_, (E _ _).trans (hM.2.1.symm.trans (Z _ _).symm), (E _ _).trans (Z _ _).symm, (E _ _).trans (Z _ _).symm⟩
    · show 0 ≤ upd _ _ _ _
      rw [Z]
      rcases ho with rfl | rfl <;> decide
    · show upd _ _ _ _ ≤ 6
      rw [Z]
      rcases ho with rfl | rfl <;> decide
  · show upd _ _ _ _ = _
    rw [Z, if_neg (by first | decide | (dsimp only <;> decide))]
  · intro i i0 i1
    exact absurd (Int32.lt_of_le_of_lt i0 i1) (by first | decide | (dsimp only <;> decide))
def AP (n : Nat) (w : Nat → Int32) (L : Int32) (tc0 : STx) (a0 : SMT) (x s : Int32) (q : Nat × Int32 × STx × SRd) (q' : Nat × Int32 × SMT) : Prop :=
  (q.1 = 3 ∧ q'.1 = 3 ∧ ∃ p last, LIr w L tc0 a0 x s 0 (q.2.1 + 1) last p q.2.2.1 (ps q.2.2.2 p) q'.2.2 ∧ p < L ∧ Rd_position q.2.2.2 = p + 1)
  ∨ (q.1 = 1 ∧ q'.1 = 2 ∧ FL q.2.2.2 q'.2.2)
  ∨ (q.1 = 2 ∧ q'.1 = 4 ∧ Rd_position q.2.2.2 = MT_at q'.2.2 ∧ 0 ≤ MT_at q'.2.2 ∧ MT_wrong q'.2.2 = -1)
  ∨ (q.1 = 4 ∧ q'.1 = 1 ∧ (∀ R1, m_Rd_skipBlanks n q.2.2.2 = some R1 → Rd_position R1 = MT_at q'.2.2) ∧ 0 ≤ MT_at q'.2.2 ∧ MT_wrong q'.2.2 = -1)
  ∨ (q.1 = 4 ∧ q'.1 = 2 ∧ (∀ R1, m_Rd_skipBlanks n q.2.2.2 = some R1 → Rd_position R1 = MT_wrong q'.2.2) ∧ 0 ≤ MT_wrong q'.2.2)
theorem rr_arrS {n m : Nat} {rec : Int32 → Int32 → Int32 → STx → SRd → Option (Int32 × STx × SRd)} {rec' : Int32 → Int32 → SMT → Option (Int32 × SMT)} {w : Nat → Int32} {L x s x2 : Int32} {tc0 : STx} {a0 : SMT} (hrec : HREC n w L rec rec' (x2 + 1)) (z : Int32 × STx × SRd) (z' : Int32 × SMT) (hz : ∃ p, LIr w L tc0 a0 x s 0 z.1 z'.1 p z.2.1 z.2.2 z'.2) :
    o_p2 (m_Rd_readArray_b37 n rec (MT_values a0) (x2 + 1) z) (m_MT_array_b49 m rec' x2 (MT_values a0) z') (fun q q' => (q.1 = 0 ∧ q'.1 = 0 ∧ ∃ p, LIr w L tc0 a0 x s 0 q.2.1 q'.2.1 p q.2.2.1 q.2.2.2 q'.2.2) ∨ (q.1 ≠ 0 ∧ q'.1 ≠ 0 ∧ AP n w L tc0 a0 x s q q') ∨ (q.1 = 0 ∧ q'.1 ≠ 0 ∧ ∀ m r, o_lp m (m_Rd_readArray_b37 n rec (MT_values a0) (x2 + 1)) q.2 = some r → AP n w L tc0 a0 x s r q')) := by
  obtain ⟨k, tc, Rd⟩ := z
  obtain ⟨last, a⟩ := z'
  obtain ⟨p, hL⟩ := hz
  replace hL : LIr w L tc0 a0 x s 0 k last p tc Rd a := hL
  have hro := hL.1
  obtain ⟨hR, hM, hb, hC⟩ := id hro
  obtain ⟨_, l2, l3, l4, l5, l6, l7, l8, l9, l10, l11, l12, l13, l14, l15, _⟩ := id hL
  obtain ⟨b1, b2, b3, c1, c2, c3, c5, c6, c7, c8, c9, c10⟩ := RO_v hro
  unfold m_Rd_readArray_b37 m_MT_array_b49
  refine q2R (fun q4 e4 => q2GR (fun _ => ?_))
  obtain ⟨p', B, hpp, rfl⟩ := rr_blankM hM hb e4
  have hsk := rr_blankS (n := n) hR hM hb e4
  have hro' := RO_mv hro B hpp
  have hM' : MtOK w L p' (atM a p') := hro'.2.1
  have kM : m_MT_c (MT_at (atM a p')) (atM a p') = some (PK w L p') := rr_c hM' B.1 B.2.2
  have em : MT_many (atM a p') (MT_values a0).toNatClampNeg = k := l13
  rw [em]
  by_cases c60 : k = 60
  · refine q2tL (show (60:Int32) ≤ k by rw [c60]; first | decide | (dsimp only <;> decide)) (q2tR c60 (q2Re kM (q2Re rr_bgn ?_)))
    have pos : ∀ R1, m_Rd_skipBlanks n Rd = some R1 → Rd_position R1 = p' := by
      intro R1 e1
      rw [hsk R1 e1]
    by_cases cb : bgn (PK w L p') = true
    · rw [if_pos cb]
      refine q2fR (by first | decide | (dsimp only <;> decide)) (q2S (Or.inr (Or.inl ⟨Nat.succ_ne_zero _, Nat.succ_ne_zero _, Or.inr (Or.inr (Or.inr (Or.inl ⟨rfl, rfl, pos, B.1, hM'.2.2.1⟩)))⟩)))
    · rw [if_neg cb]
      refine q2tR rfl ?_
      unfold m_MT_array_j87
      refine q2NR (q2R (fun q5 e5 => ?_))
      obtain ⟨f1, f2⟩ := hrec.2 (MT_values a0) p' (atM a p') hM' B (by simpa using cb) q5 e5
      refine q2tR f1 (q2S (Or.inr (Or.inl ⟨Nat.succ_ne_zero _, Nat.succ_ne_zero _, Or.inr (Or.inr (Or.inr (Or.inr ⟨rfl, rfl, ?_, ?_⟩)))⟩)))
      · intro R1 e1
        show Rd_position R1 = MT_wrong q5.2
        rw [f2]
        exact pos R1 e1
      · show 0 ≤ MT_wrong q5.2
        rw [f2]
        exact B.1
  · refine q2fL (show ¬ (60:Int32) ≤ k by grind) (q2fR c60 ?_)
    unfold m_MT_array_j87
    refine q2NR (q2B (hrec.1 (MT_values a0) k p' tc Rd (atM a p') hro' hsk) ?_)
    rintro ⟨r1, tc1, Rd1⟩ ⟨r1', a1⟩ hv
    rcases hv with ⟨f1, f2, f3⟩ | ⟨f1, f2, p1, f4, f5⟩
    · exact q2tL f1 (q2tR f2 (q2S (Or.inr (Or.inl ⟨Nat.succ_ne_zero _, Nat.succ_ne_zero _, Or.inr (Or.inl ⟨rfl, rfl, f3⟩)⟩))))
    · replace f1 : r1 = 1 := f1
      replace f2 : r1' = 1 := f2
      subst f1 f2
      replace f4 : RO w L p1 tc1 Rd1 a1 := f4
      replace f5 : TOP tc (atM a p') (MT_values a0) k tc1 a1 := f5
      obtain ⟨t1, t2, t3, t4, t5, t6, t7, t8, t9⟩ := f5
      replace t1 : MT_values a < MT_values a1 := t1
      replace t2 : CF (MT_values a) tc tc1 := t2
      replace t3 : MF (MT_values a) a a1 := t3
      replace t4 : NR (MT_values a) tc1 a1 := t4
      refine q2fL (by first | decide | (dsimp only <;> decide)) (q2fR (by first | decide | (dsimp only <;> decide)) ?_)
      -- the rest, for the linked state
      have rest : ∀ A : SMT, (∀ B' : SMT, B' = MT_mk (MT_text A) (MT_kind A) (MT_place A) (upd (MT_many A) (MT_values a0).toNatClampNeg (((MT_many A) (MT_values a0).toNatClampNeg) + (1:Int32))) (MT_parent A) (MT_power A) (MT_first A) (MT_next A) (MT_name A) (MT_from A) (MT_characters A) (MT_digits A) (MT_minus A) (MT_values A) (MT_letters A) (MT_at A) (MT_wrong A) (MT_used A) (MT_written A) (MT_left A) → LIr w L tc0 a0 x s 0 (k + 1) (MT_values a) p1 tc1 Rd1 B') → o_p2 (o_bd (m_Rd_skipBlanks n Rd1) fun q4 => o_bd (m_Rd_peek q4) fun q5 => if q5 = (44:Int32) then m_Rd_readArray_j90 n rec (MT_values a0) (x2 + 1) k q5 tc1 q4 else if q5 = (93:Int32) then m_Rd_readArray_j90 n rec (MT_values a0) (x2 + 1) k q5 tc1 q4 else some (2, k, tc1, q4)) (m_MT_array_j131 m rec' x2 (MT_values a0) (MT_values a) A) (fun q q' => (q.1 = 0 ∧ q'.1 = 0 ∧ ∃ p, LIr w L tc0 a0 x s 0 q.2.1 q'.2.1 p q.2.2.1 q.2.2.2 q'.2.2) ∨ (q.1 ≠ 0 ∧ q'.1 ≠ 0 ∧ AP n w L tc0 a0 x s q q') ∨ (q.1 = 0 ∧ q'.1 ≠ 0 ∧ ∀ m r, o_lp m (m_Rd_readArray_b37 n rec (MT_values a0) (x2 + 1)) q.2 = some r → AP n w L tc0 a0 x s r q')) := by
        intro A hA
        obtain ⟨A2, eA⟩ : ∃ B' : SMT, B' = MT_mk (MT_text A) (MT_kind A) (MT_place A) (upd (MT_many A) (MT_values a0).toNatClampNeg (((MT_many A) (MT_values a0).toNatClampNeg) + (1:Int32))) (MT_parent A) (MT_power A) (MT_first A) (MT_next A) (MT_name A) (MT_from A) (MT_characters A) (MT_digits A) (MT_minus A) (MT_values A) (MT_letters A) (MT_at A) (MT_wrong A) (MT_used A) (MT_written A) (MT_left A) := ⟨_, rfl⟩
        have hL2 := hA A2 eA
        have hro2 := hL2.1
        unfold m_MT_array_j131
        rw [← eA]
        refine q2GR (fun _ => q2GR (fun _ => q2B (rr_blanks hro2.1 hro2.2.1 hro2.2.2.1) ?_))
        rintro R2 A3 ⟨p2, B2, hp2, rfl, rfl⟩
        have hro3 := RO_mv hro2 B2 hp2
        have hL3 := LIr_mv hL2 hro3
        have kR : m_Rd_peek (ps Rd1 p2) = some (PK w L p2) := rr_peek hro3.1 B2
        have kM3 : m_MT_c (MT_at (atM A2 p2)) (atM A2 p2) = some (PK w L p2) := rr_c hro3.2.1 B2.1 B2.2.2
        refine q2Le kR (q2Re kM3 ?_)
        unfold m_Rd_readArray_j90
        by_cases c93 : PK w L p2 = 93
        · have hp : p2 < L := PK_lt (w := w) (by rw [c93]; first | decide | (dsimp only <;> decide))
          refine q2fL (by rw [c93]; first | decide | (dsimp only <;> decide)) (q2tL c93 (q2tL c93 (q2tR c93 (q2S (Or.inr (Or.inl ⟨Nat.succ_ne_zero _, Nat.succ_ne_zero _, Or.inl ⟨rfl, rfl, p2, MT_values a, hL3, hp, rfl⟩⟩))))))
        · refine q2fR c93 (q2Re kM3 ?_)
          by_cases c44 : PK w L p2 = 44
          · have hp : p2 < L := PK_lt (w := w) (by rw [c44]; first | decide | (dsimp only <;> decide))
            have b4 := BP_1 B2 hp
            have h4 := RO_mv hro3 b4 (show p2 ≤ p2 + 1 by obtain ⟨u1, u2, u3⟩ := B2; grind)
            refine q2tL c44 (q2fL c93 (q2NL (q2tR c44 (q2S (Or.inl ⟨rfl, rfl, p2 + 1, LIr_mv hL3 h4⟩)))))
          · refine q2fL c44 (q2fL c93 (q2fR c44 (q2S (Or.inr (Or.inl ⟨Nat.succ_ne_zero _, Nat.succ_ne_zero _, Or.inr (Or.inr (Or.inl ⟨rfl, rfl, rfl, B2.1, hro3.2.1.2.2.1⟩))⟩)))))
      have wz : MT_values a + 0 = MT_values a := Int32.add_zero _
      refine q2IR (fun cl => q2GR (fun _ => rest _ (fun B' eB => ?_))) (fun cl => q2GR (fun _ => rest _ (fun B' eB => ?_)))
      · exact LIr_step (wd := MT_values a) hL (Or.inl rfl) (by grind) f4 wz.symm t1 t2 t3 t4 t5 t6 t7 t8 (fun z => absurd z (by first | decide | (dsimp only <;> decide))) (by rw [eB]) (by rw [eB]) (by rw [eB]) (by rw [eB]) (by rw [eB]) (by rw [eB]) (by rw [eB]) (by rw [eB]) (by rw [eB]) (by rw [eB]) (by rw [eB]) (by rw [eB]) (by rw [eB]) (by rw [eB]) (by rw [eB]) (by rw [eB]) (Or.inl ⟨cl, by rw [eB], by rw [eB]⟩) (Or.inl ⟨rfl, by rw [eB]⟩)
      · exact LIr_step (wd := MT_values a) hL (Or.inl rfl) (by grind) f4 wz.symm t1 t2 t3 t4 t5 t6 t7 t8 (fun z => absurd z (by first | decide | (dsimp only <;> decide))) (by rw [eB]) (by rw [eB]) (by rw [eB]) (by rw [eB]) (by rw [eB]) (by rw [eB]) (by rw [eB]) (by rw [eB]) (by rw [eB]) (by rw [eB]) (by rw [eB]) (by rw [eB]) (by rw [eB]) (by rw [eB]) (by rw [eB]) (by rw [eB]) (Or.inr ⟨by replace cl : ¬ 0 ≤ last := cl; grind, by rw [eB], by rw [eB]⟩) (Or.inl ⟨rfl, by rw [eB]⟩)
theorem rr_array {n m : Nat} {rec : Int32 → Int32 → Int32 → STx → SRd → Option (Int32 × STx × SRd)} {rec' : Int32 → Int32 → SMT → Option (Int32 × SMT)} {w : Nat → Int32} {L p x s x2 : Int32} {tc : STx} {Rd : SRd} {a : SMT} (hrec : HREC n w L rec rec' (x2 + 1)) (h : RO w L p tc Rd a) (hp : p < L) (hv : MT_values a < 1000) : o_p2 (m_Rd_readArray n rec (Tx_total tc) (x2 + 1) (bgT tc 5 p x s) Rd) (m_MT_array m rec' x x2 a) (RV w L p tc a x s) := by
  obtain ⟨b1, b2, b3, c1, c2, c3, c5, c6, c7, c8, c9, c10⟩ := RO_v h
  obtain ⟨hR, hM, hb, hC⟩ := id h
  have bp := BP_1 hb hp
  have p1 : p ≤ p + 1 := by obtain ⟨u1, u2, u3⟩ := bp; grind
  unfold m_Rd_readArray m_MT_array
  rw [hR.2.2.1, c1]
  refine q2R (fun q1 e1 => ?_)
  have e1 := rr_fresh e1
  subst e1
  have hMf : MtOK w L (p + 1) (atM (frM a x 5) (p + 1)) := ⟨hM.1, rfl, hM.2.2.1, hM.2.2.2⟩
  show o_p2 (o_bd (m_Rd_skipBlanks n (ps Rd (p + 1))) _) (o_bd (m_MT_blanks m (atM (frM a x 5) (MT_at a + 1))) _) _
  rw [hM.2.1]
  refine q2B (rr_blanks (RdOK_ps (p' := p + 1) hR) hMf bp) ?_
  rintro R2 A2 ⟨p2, B2, hp2, rfl, rfl⟩
  have hLo : LIr w L tc a x s 0 0 (-1) p2 (bgT tc 5 p x s) (ps Rd p2) (atM (frM a x 5) p2) := LIr_open h hv (Or.inl rfl) B2 (Int32.le_trans p1 hp2)
  have hro := hLo.1
  have kR : m_Rd_peek (ps Rd p2) = some (PK w L p2) := rr_peek hro.1 B2
  have kM : m_MT_c (MT_at (atM (frM a x 5) p2)) (atM (frM a x 5) p2) = some (PK w L p2) := rr_c hro.2.1 B2.1 B2.2.2
  refine q2Le kR (q2Re kM (q2IB Iff.rfl (fun c93 => ?_) (fun c93 => ?_)))
  · have hpl : p2 < L := PK_lt (w := w) (by rw [c93]; first | decide | (dsimp only <;> decide))
    have b4 := BP_1 B2 hpl
    have hro4 := RO_mv hro b4 (show p2 ≤ p2 + 1 by obtain ⟨u1, u2, u3⟩ := B2; grind)
    have hT := LIr_end (LIr_mv hLo hro4) (Or.inl rfl) (rr_upE c1.symm) (rr_upE c1.symm)
    exact q2S (Or.inr ⟨rfl, rfl, p2 + 1, hro4, hT⟩)
  · refine q2B (q2lp (P := AP n w L tc a x s) (fun z z' => ∃ p, LIr w L tc a x s 0 z.1 z'.1 p z.2.1 z.2.2 z'.2) (fun z z' hz => rr_arrS hrec z z' hz) n m _ _ ⟨p2, hLo⟩) ?_
    rintro ⟨k, kk, tc1, Rd1⟩ ⟨k', last, a1⟩ hP
    rcases hP with ⟨f1, f2, pe, la, f3, f4, f5⟩ | ⟨f1, f2, f3⟩ | ⟨f1, f2, f3, f4, f5⟩ | ⟨f1, f2, f3, f4, f5⟩ | ⟨f1, f2, f3, f4⟩
    · replace f1 : k = 3 := f1
      replace f2 : k' = 3 := f2
      subst f1 f2
      replace f3 : LIr w L tc a x s 0 (kk + 1) la pe tc1 (ps Rd1 pe) a1 := f3
      replace f5 : Rd_position Rd1 = pe + 1 := f5
      have hroe := f3.1
      have B3 := hroe.2.2.1
      have b4 := BP_1 B3 f4
      refine q2fL (by show ¬ 3 = 1; first | decide | (dsimp only <;> decide)) (q2fL (by show ¬ 3 = 2; first | decide | (dsimp only <;> decide)) (q2tL rfl (q2fR (by show ¬ 3 = 1; first | decide | (dsimp only <;> decide)) (q2fR (by show ¬ 3 = 2; first | decide | (dsimp only <;> decide)) (q2tR rfl (q2L (fun q8 e8 => ?_)))))))
      have hlt : MT_values a < Tx_total tc1 := by rw [hroe.2.2.2.1]; exact f3.2.1
      have e8 := rr_endP c2 hlt e8
      subst e8
      have hro4 := RO_mv hroe b4 (show pe ≤ pe + 1 by obtain ⟨u1, u2, u3⟩ := B3; grind)
      have hL4 := LIr_ep (kk := kk + 1) (LIr_mv f3 hro4) (Or.inl rfl)
      have hT := LIr_end hL4 (Or.inl rfl) o_updE o_updE
      have eR : ps (ps Rd1 pe) (pe + 1) = Rd1 := by rw [← f5]
      have hr5 := hL4.1
      rw [eR] at hr5
      refine q2S (Or.inr ⟨rfl, rfl, pe + 1, ?_, ?_⟩)
      · show RO w L (pe + 1) (epT tc1 (MT_values a) (kk + 1)) Rd1 (atM a1 (MT_at a1 + 1))
        rw [hroe.2.1.2.1]
        exact hr5
      · show TOP tc a x s (epT tc1 (MT_values a) (kk + 1)) (atM a1 (MT_at a1 + 1))
        rw [hroe.2.1.2.1]
        exact hT
    · replace f1 : k = 1 := f1
      replace f2 : k' = 2 := f2
      subst f1 f2
      exact q2tL rfl (q2fR (by show ¬ 2 = 1; first | decide | (dsimp only <;> decide)) (q2tR rfl (q2S (Or.inl ⟨rfl, rfl, f3⟩))))
    · replace f1 : k = 2 := f1
      replace f2 : k' = 4 := f2
      subst f1 f2
      replace f3 : Rd_position Rd1 = MT_at a1 := f3
      refine q2fL (by show ¬ 2 = 1; first | decide | (dsimp only <;> decide)) (q2tL rfl (q2fR (by show ¬ 4 = 1; first | decide | (dsimp only <;> decide)) (q2fR (by show ¬ 4 = 2; first | decide | (dsimp only <;> decide)) (q2fR (by show ¬ 4 = 3; first | decide | (dsimp only <;> decide)) ?_))))
      show o_p2 (o_bd (m_Rd_refuse (Rd_position Rd1) Rd1) _) _ _
      rw [f3]
      exact NFr_bad f5 f4
    · replace f1 : k = 4 := f1
      replace f2 : k' = 1 := f2
      subst f1 f2
      refine q2fL (by show ¬ 4 = 1; first | decide | (dsimp only <;> decide)) (q2fL (by show ¬ 4 = 2; first | decide | (dsimp only <;> decide)) (q2fL (by show ¬ 4 = 3; first | decide | (dsimp only <;> decide)) (q2tR rfl (q2L (fun q9 e9 => ?_)))))
      have := f3 q9 e9
      replace this : Rd_position q9 = MT_at a1 := this
      rw [this]
      exact NFr_bad f5 f4
    · replace f1 : k = 4 := f1
      replace f2 : k' = 2 := f2
      subst f1 f2
      refine q2fL (by show ¬ 4 = 1; first | decide | (dsimp only <;> decide)) (q2fL (by show ¬ 4 = 2; first | decide | (dsimp only <;> decide)) (q2fL (by show ¬ 4 = 3; first | decide | (dsimp only <;> decide)) (q2fR (by show ¬ 2 = 1; first | decide | (dsimp only <;> decide)) (q2tR rfl (q2L (fun q9 e9 => ?_))))))
      have e := f3 q9 e9
      replace e : Rd_position q9 = MT_wrong a1 := e
      unfold m_Rd_refuse
      exact q2Le rfl (q2GL (fun _ => q2S (Or.inl ⟨rfl, rfl, e, f4⟩)))
