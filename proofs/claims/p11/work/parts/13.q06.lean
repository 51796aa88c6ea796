/-! Numbers: digits -/
abbrev dgM (a : SMT) (d : Nat → Int32) (p : Int32) : SMT := MT_mk (MT_text a) (MT_kind a) (MT_place a) (MT_many a) (MT_parent a) (MT_power a) (MT_first a) (MT_next a) (MT_name a) (MT_from a) (MT_characters a) d (MT_minus a) (MT_values a) (MT_letters a) p (MT_wrong a) (MT_used a) (MT_written a) (MT_left a)
theorem rr_isd {x : Int32} : m_SJ_isDigit x = some (if x < 48 then 0 else if 57 < x then 0 else 1) := by
  unfold m_SJ_isDigit
  by_cases h1 : x < 48
  · rw [if_pos h1, if_pos h1]
  · rw [if_neg h1, if_neg h1]
    by_cases h2 : 57 < x
    · rw [if_pos h2, if_pos h2]
    · rw [if_neg h2, if_neg h2]
theorem rr_isd1 {x : Int32} (h : 48 ≤ x ∧ x ≤ 57) : m_SJ_isDigit x = some 1 := by
  rw [rr_isd, if_neg (by grind), if_neg (by grind)]
theorem rr_isd0 {x : Int32} (h : ¬ (48 ≤ x ∧ x ≤ 57)) : m_SJ_isDigit x = some 0 := by
  rw [rr_isd]
  by_cases h1 : x < 48
  · rw [if_pos h1]
  · rw [if_neg h1, if_pos (by grind)]
theorem rr_ind1 {x : Int32} (h : 48 ≤ x ∧ x ≤ 57) : m_MM_in x 48 57 = some 1 := rr_in1 h.1 h.2
theorem rr_ind0 {x : Int32} (h : ¬ (48 ≤ x ∧ x ≤ 57)) : m_MM_in x 48 57 = some 0 := rr_in0 (by grind)
/-- n digits have been read, both are at p -/
def DS (tc : STx) (Rd : SRd) (a : SMT) (n p : Int32) (tc' : STx) (Rd' : SRd) (a' : SMT) : Prop := 0 ≤ n ∧ n ≤ p ∧ Tx_used tc + n ≤ p ∧ MT_written a + n ≤ p ∧ ∃ c d, tc' = cl tc c (Tx_used tc + n) (Tx_characters tc) ∧ Rd' = ps Rd p ∧ a' = dgM a d p ∧ STR (Tx_cells tc) (MT_digits a) (Tx_used tc) (MT_written a) c d (Tx_used tc + n) (MT_written a + n)
theorem DS_s {tc tc' : STx} {Rd Rd' : SRd} {a a' : SMT} {n p L x : Int32} (u0 : 0 ≤ Tx_used tc) (w0 : 0 ≤ MT_written a) (hb : BP L p) (hp : p < L) (h : DS tc Rd a n p tc' Rd' a') : (∀ q, m_Tx_addDigit x tc' = some q → DS tc Rd a (n + 1) (p + 1) q (ps Rd' (p + 1)) (dgM a' (upd (MT_digits a') (MT_written a' + n).toNatClampNeg x) (p + 1))) := by
  obtain ⟨b1, b2, b3⟩ := hb
  obtain ⟨h1, h2, h3, h4, c, d, rfl, rfl, rfl, h5⟩ := h
  intro q e
  unfold m_Tx_addDigit at e
  have hu : Tx_used tc + n < 8192 := by grind
  have e := o_ff (show ¬ (8192:Int32) ≤ Tx_used tc + n by grind) e
  replace e := (o_gd_some e).2
  cases e
  have a1 : Tx_used tc + n + 1 = Tx_used tc + (n + 1) := Int32.add_assoc _ _ _
  have a2 : MT_written a + n + 1 = MT_written a + (n + 1) := Int32.add_assoc _ _ _
  have s := STR_s (x := x) h5 u0 hu w0 (by grind)
  rw [a1, a2] at s
  refine ⟨by grind, by grind, by grind, by grind, upd c (Tx_used tc + n).toNatClampNeg x, upd d (MT_written a + n).toNatClampNeg x, ?_, rfl, rfl, s⟩
  show Tx_mk _ _ _ _ _ _ _ _ _ _ _ (Tx_used tc + n + 1) _ = _
  rw [a1]
/-- the end of a loop over digits: k of them from P on -/
def DE (w : Nat → Int32) (L P N most : Int32) (tc : STx) (Rd : SRd) (a : SMT) (q : Nat × Int32 × STx × SRd) (a' : SMT) (n' : Int32) : Prop := ∃ k, 0 ≤ k ∧ q.2.1 = k ∧ (q.1 = 1 ∨ (q.1 ≠ 1 ∧ k = most)) ∧ n' = N + k ∧ BP L (P + k) ∧ DS tc Rd a (N + k) (P + k) q.2.2.1 q.2.2.2 a' ∧ (most ≠ 1 → ¬ (48 ≤ PK w L (P + k) ∧ PK w L (P + k) ≤ 57))
theorem DS_ok {w : Nat → Int32} {L p0 p1 p n : Int32} {tc tc' : STx} {Rd Rd' : SRd} {a a' : SMT} (hR : RdOK w L p0 Rd) (hM : MtOK w L p1 a) (h : DS tc Rd a n p tc' Rd' a') : RdOK w L p Rd' ∧ MtOK w L p a' := by
  obtain ⟨h1, h2, h3, h4, c, d, rfl, rfl, rfl, h5⟩ := h
  exact ⟨⟨hR.1, hR.2.1, rfl, hR.2.2.2⟩, ⟨hM.1, rfl, hM.2.2.1, hM.2.2.2⟩⟩
theorem rr_dig2 {n m : Nat} {x2 x3 : Int32} {w : Nat → Int32} {L p0 p1 P N B : Int32} {tc tc1 : STx} {Rd Rd1 : SRd} {a a1 : SMT} (u0 : 0 ≤ Tx_used tc) (w0 : 0 ≤ MT_written a) (hR : RdOK w L p0 Rd) (hM : MtOK w L p1 a) (hb : BP L P) (h : DS tc Rd a N P tc1 Rd1 a1) :
    o_p2 (o_lp n (m_Rd_readDigits_b2 n 8192) ((0:Int32), tc1, Rd1)) (o_lp m (m_MT_number_b224 m x2 x3) (N, B, a1)) (fun q q' => DE w L P N 8192 tc Rd a q q'.2.2.2 q'.2.1 ∧ q'.2.2.1 = B + q.2.1) := by
  refine q2lp (fun z z' => ∃ k, 0 ≤ k ∧ k ≤ P + k ∧ z.1 = k ∧ z'.1 = N + k ∧ z'.2.1 = B + k ∧ BP L (P + k) ∧ DS tc Rd a (N + k) (P + k) z.2.1 z.2.2 z'.2.2) ?_ n m _ _ ?_
  · rintro ⟨k', tc', Rd'⟩ ⟨nk, bk, a'⟩ ⟨k, i0, i1, i2, i3, i4, i5, i6⟩
    replace i2 : k' = k := i2
    replace i3 : nk = N + k := i3
    replace i4 : bk = B + k := i4
    replace i6 : DS tc Rd a (N + k) (P + k) tc' Rd' a' := i6
    subst i2 i3 i4
    obtain ⟨hR', hM'⟩ := DS_ok hR hM i6
    have k1 : m_Rd_peek Rd' = some (PK w L (P + k')) := rr_peek hR' i5
    have k2 : m_MT_c (MT_at a') a' = some (PK w L (P + k')) := by rw [hM'.2.1]; exact rr_c hM' i5.1 i5.2.2
    unfold m_Rd_readDigits_b2 m_MT_number_b224
    by_cases hd : 48 ≤ PK w L (P + k') ∧ PK w L (P + k') ≤ 57
    · have hp : P + k' < L := PK_lt (w := w) (by grind)
      refine q2fL (show ¬ (8192:Int32) ≤ k' by have := i5.2.1; have := i5.2.2; grind) (q2Le k1 (q2Le (rr_isd1 hd) (q2fL (by first | decide | (dsimp only <;> decide)) (q2Re k2 (q2Re (rr_ind1 hd) (q2fR (by first | decide | (dsimp only <;> decide)) (q2NR ?_)))))))
      refine q2L (fun q3 e3 => q2NL (q2Re (rr_c (p' := P + k' + 1) ⟨hM'.1, by show MT_at a' + 1 = _; rw [hM'.2.1], hM'.2.2.1, hM'.2.2.2⟩ (by rw [hM'.2.1]; exact i5.1) i5.2.2) (q2GR (fun _ => q2NR (q2S (Or.inl ⟨rfl, rfl, k' + 1, ?_⟩))))))
      have s := DS_s u0 w0 i5 hp i6 q3 e3
      have e1 : P + k' + 1 = P + (k' + 1) := Int32.add_assoc _ _ _
      have e2 : N + k' + 1 = N + (k' + 1) := Int32.add_assoc _ _ _
      have e4 : B + k' + 1 = B + (k' + 1) := Int32.add_assoc _ _ _
      rw [e1, e2] at s
      have b := BP_1 i5 hp
      rw [e1] at b
      refine ⟨by have := i5.2.1; have := i5.2.2; grind, by obtain ⟨t1, t2, t3⟩ := i5; grind, rfl, e2, e4, b, ?_⟩
      have ea : MT_at a' = P + k' := hM'.2.1
      have er : Rd_position Rd' = P + k' := hR'.2.2.1
      show DS tc Rd a (N + (k' + 1)) (P + (k' + 1)) q3 (Rd_mk (Rd_words Rd') (Rd_wordCount Rd') (Rd_position Rd' + 1) (Rd_limit Rd') (Rd_wrongPlace Rd')) (MT_mk (MT_text a') (MT_kind a') (MT_place a') (MT_many a') (MT_parent a') (MT_power a') (MT_first a') (MT_next a') (MT_name a') (MT_from a') (MT_characters a') (upd (MT_digits a') (MT_written a' + (N + k')).toNatClampNeg (PK w L (MT_at a') - 48)) (MT_minus a') (MT_values a') (MT_letters a') (MT_at a' + 1) (MT_wrong a') (MT_used a') (MT_written a') (MT_left a'))
      rw [ea, er, e1]
      exact s
    · have fin : DE w L P N 8192 tc Rd a (1, k', tc', Rd') a' (N + k') ∧ B + k' = B + k' := ⟨⟨k', i0, rfl, Or.inl rfl, rfl, i5, i6, fun _ => hd⟩, rfl⟩
      refine q2IL (fun c => ?_) (fun c => ?_)
      · have ek : k' = 8192 := by
          have : (8192:Int32) ≤ k' := c
          obtain ⟨t1, t2, t3⟩ := i5
          grind
        refine q2Re k2 (q2Re (rr_ind0 hd) (q2tR rfl (q2S (Or.inr (Or.inl ⟨Nat.succ_ne_zero _, Nat.succ_ne_zero _, ⟨k', i0, rfl, Or.inr ⟨by first | decide | (dsimp only <;> decide), ek⟩, rfl, i5, i6, fun _ => hd⟩, rfl⟩)))))
      · exact q2Le k1 (q2Le (rr_isd0 hd) (q2tL rfl (q2Re k2 (q2Re (rr_ind0 hd) (q2tR rfl (q2S (Or.inr (Or.inl ⟨Nat.succ_ne_zero _, Nat.succ_ne_zero _, fin⟩))))))))
  · have e0 : ∀ y : Int32, y + 0 = y := Int32.add_zero
    refine ⟨0, by first | decide | (dsimp only <;> decide), ?_, rfl, (e0 N).symm, (e0 B).symm, ?_, ?_⟩
    · rw [e0]; exact hb.1
    · rw [e0]; exact hb
    · rw [e0, e0]; exact h
/-- the digits ahead of the point: the reference knows that there is one -/
theorem rr_dig1 {n m : Nat} {x2 x3 x5 x6 most : Int32} {w : Nat → Int32} {L p0 p1 P : Int32} {tc tc1 : STx} {Rd Rd1 : SRd} {a a1 : SMT} (u0 : 0 ≤ Tx_used tc) (w0 : 0 ≤ MT_written a) (hR : RdOK w L p0 Rd) (hM : MtOK w L p1 a) (hb : BP L P) (h : DS tc Rd a 0 P tc1 Rd1 a1) (hd0 : 48 ≤ PK w L P ∧ PK w L P ≤ 57) (hx : (x6 = 0 ∧ most = 8192) ∨ (x6 = 1 ∧ most = 1)) :
    o_p2 (o_lp n (m_Rd_readDigits_b2 n most) ((0:Int32), tc1, Rd1)) (o_lp m (m_MT_number_b118 m x2 x3 x5 x6) ((0:Int32), a1)) (fun q q' => DE w L P 0 most tc Rd a q q'.2.2 q'.2.1 ∧ q.2.1 ≠ 0) := by
  refine q2lp (fun z z' => ∃ k, 0 ≤ k ∧ k ≤ P + k ∧ (x6 = 1 → k = 0) ∧ z.1 = k ∧ z'.1 = 0 + k ∧ BP L (P + k) ∧ DS tc Rd a (0 + k) (P + k) z.2.1 z.2.2 z'.2 ∧ (48 ≤ PK w L (P + k) ∧ PK w L (P + k) ≤ 57)) ?_ n m _ _ ?_
  · rintro ⟨k', tc', Rd'⟩ ⟨nk, a'⟩ ⟨k, i0, i1, ix, i2, i3, i5, i6, hd⟩
    replace i2 : k' = k := i2
    replace i3 : nk = 0 + k := i3
    replace i6 : DS tc Rd a (0 + k) (P + k) tc' Rd' a' := i6
    subst i2 i3
    obtain ⟨hR', hM'⟩ := DS_ok hR hM i6
    have ea : MT_at a' = P + k' := hM'.2.1
    have er : Rd_position Rd' = P + k' := hR'.2.2.1
    have k1 : m_Rd_peek Rd' = some (PK w L (P + k')) := rr_peek hR' i5
    have hp : P + k' < L := PK_lt (w := w) (by grind)
    have e1 : P + k' + 1 = P + (k' + 1) := Int32.add_assoc _ _ _
    have e2 : 0 + k' + 1 = 0 + (k' + 1) := Int32.add_assoc _ _ _
    have b := BP_1 i5 hp
    rw [e1] at b
    have hk : ¬ most ≤ k' := by
      rcases hx with ⟨_, rfl⟩ | ⟨e, rfl⟩
      · have := i5.2.1; have := i5.2.2; grind
      · rw [ix e]; first | decide | (dsimp only <;> decide)
    unfold m_Rd_readDigits_b2 m_MT_number_b118
    refine q2fL hk (q2Le k1 (q2Le (rr_isd1 hd) (q2fL (by first | decide | (dsimp only <;> decide)) (q2NR ?_))))
    refine q2L (fun q3 e3 => q2NL (q2Re (rr_c (p' := P + k' + 1) ⟨hM'.1, by show MT_at a' + 1 = _; rw [ea], hM'.2.2.1, hM'.2.2.2⟩ (by rw [ea]; exact i5.1) i5.2.2) (q2GR (fun _ => ?_))))
    have s := DS_s u0 w0 i5 hp i6 q3 e3
    rw [e1, e2] at s
    obtain ⟨RN, eR⟩ : ∃ R : SRd, R = Rd_mk (Rd_words Rd') (Rd_wordCount Rd') (Rd_position Rd' + 1) (Rd_limit Rd') (Rd_wrongPlace Rd') := ⟨_, rfl⟩
    obtain ⟨AN, eA⟩ : ∃ A : SMT, A = MT_mk (MT_text a') (MT_kind a') (MT_place a') (MT_many a') (MT_parent a') (MT_power a') (MT_first a') (MT_next a') (MT_name a') (MT_from a') (MT_characters a') (upd (MT_digits a') (MT_written a' + (0 + k')).toNatClampNeg (PK w L (MT_at a') - 48)) (MT_minus a') (MT_values a') (MT_letters a') (MT_at a' + 1) (MT_wrong a') (MT_used a') (MT_written a') (MT_left a') := ⟨_, rfl⟩
    have sN : DS tc Rd a (0 + (k' + 1)) (P + (k' + 1)) q3 RN AN := by
      rw [eR, eA, ea, er, e1]
      exact s
    obtain ⟨hRN, hMN⟩ := DS_ok hR hM sN
    have kk : 0 ≤ k' + 1 ∧ k' + 1 ≤ P + (k' + 1) ∧ k' + 1 ≠ 0 ∧ k' + 1 ≤ 8192 := by
      obtain ⟨t1, t2, t3⟩ := b
      obtain ⟨t4, t5, t6⟩ := i5
      have := hb.1
      grind
    -- the class's last look
    have last : (most ≠ 1 → ¬ (48 ≤ PK w L (P + (k' + 1)) ∧ PK w L (P + (k' + 1)) ≤ 57)) → (most = 1 → k' + 1 = most) → ∀ (mm : Nat) (r : Nat × Int32 × STx × SRd), o_lp mm (m_Rd_readDigits_b2 n most) (k' + 1, q3, RN) = some r → DE w L P 0 most tc Rd a r AN (0 + (k' + 1)) ∧ r.2.1 ≠ 0 := by
      intro hn hm1 mm r e
      cases mm with
      | zero => cases e
      | succ mm =>
        obtain ⟨q, f1, f2⟩ := o_bd_some (show o_bd (m_Rd_readDigits_b2 n most (k' + 1, q3, RN)) (fun q => if q.1 = 0 then o_lp mm (m_Rd_readDigits_b2 n most) q.2 else some q) = some r from e)
        unfold m_Rd_readDigits_b2 at f1
        by_cases c : most ≤ k' + 1
        · have f1 := o_tt (show most ≤ k' + 1 from c) f1
          cases f1
          have f2 := o_ff (show ¬ (2:Nat) = 0 by first | decide | (dsimp only <;> decide)) f2
          cases f2
          have em : k' + 1 = most := by
            rcases hx with ⟨_, rfl⟩ | ⟨_, rfl⟩
            · have := kk.2.2.2; grind
            · exact hm1 rfl
          exact ⟨⟨k' + 1, kk.1, rfl, Or.inr ⟨by first | decide | (dsimp only <;> decide), em⟩, rfl, b, sN, hn⟩, kk.2.2.1⟩
        · have f1 := o_ff (show ¬ most ≤ k' + 1 from c) f1
          have n1 : most ≠ 1 := by
            intro e
            exact c (by rw [← hm1 e]; exact Int32.le_refl _)
          have k3 : m_Rd_peek RN = some (PK w L (P + (k' + 1))) := rr_peek hRN b
          replace f1 : o_bd (m_Rd_peek RN) _ = some q := f1
          rw [k3] at f1
          replace f1 : o_bd (m_SJ_isDigit (PK w L (P + (k' + 1)))) _ = some q := f1
          rw [rr_isd0 (hn n1)] at f1
          replace f1 : some (1, k' + 1, q3, RN) = some q := f1
          cases f1
          have f2 := o_ff (show ¬ (1:Nat) = 0 by first | decide | (dsimp only <;> decide)) f2
          cases f2
          exact ⟨⟨k' + 1, kk.1, rfl, Or.inl rfl, rfl, b, sN, hn⟩, kk.2.2.1⟩
    rcases hx with ⟨e6, em⟩ | ⟨e6, em⟩
    · refine q2tR e6 ?_
      have hMN' : MtOK w L (P + (k' + 1)) (MT_mk (MT_text a') (MT_kind a') (MT_place a') (MT_many a') (MT_parent a') (MT_power a') (MT_first a') (MT_next a') (MT_name a') (MT_from a') (MT_characters a') (upd (MT_digits a') (MT_written a' + (0 + k')).toNatClampNeg (PK w L (MT_at a') - 48)) (MT_minus a') (MT_values a') (MT_letters a') (MT_at a' + 1) (MT_wrong a') (MT_used a') (MT_written a') (MT_left a')) := by rw [← eA]; exact hMN
      have k4 : ∀ y, y = MT_at a' + 1 → PK w L y = PK w L (P + (k' + 1)) := by
        intro y ey
        rw [ey, ea, e1]
      refine q2Re (rr_c hMN' (by rw [ea, e1]; exact b.1) b.2.2) ?_
      rw [k4 _ rfl]
      by_cases hd1 : 48 ≤ PK w L (P + (k' + 1)) ∧ PK w L (P + (k' + 1)) ≤ 57
      · refine q2Re (rr_ind1 hd1) (q2fR (by first | decide | (dsimp only <;> decide)) (q2S (Or.inl ⟨rfl, rfl, k' + 1, kk.1, kk.2.1, (fun e => absurd (e6.symm.trans e) (by first | decide | (dsimp only <;> decide))), rfl, e2, b, ?_, hd1⟩)))
        show DS tc Rd a (0 + (k' + 1)) (P + (k' + 1)) q3 (Rd_mk (Rd_words Rd') (Rd_wordCount Rd') (Rd_position Rd' + 1) (Rd_limit Rd') (Rd_wrongPlace Rd')) (MT_mk _ _ _ _ _ _ _ _ _ _ _ _ _ _ _ _ _ _ _ _)
        rw [← eR, ← eA]
        exact sN
      · refine q2Re (rr_ind0 hd1) (q2tR rfl (q2S (Or.inr (Or.inr ⟨rfl, Nat.succ_ne_zero _, ?_⟩))))
        intro mm r er2
        have := last (fun _ => hd1) (fun e => absurd (em.symm.trans e) (by first | decide | (dsimp only <;> decide))) mm r (by rw [eR]; exact er2)
        rw [eA] at this
        rw [e2]
        exact this
    · refine q2fR (by rw [e6]; first | decide | (dsimp only <;> decide)) (q2S (Or.inr (Or.inr ⟨rfl, Nat.succ_ne_zero _, ?_⟩)))
      intro mm r er2
      have := last (fun h => absurd em h) (fun _ => by rw [ix e6, em]; rfl) mm r (by rw [eR]; exact er2)
      rw [eA] at this
      rw [e2]
      exact this
  · have e0 : ∀ y : Int32, y + 0 = y := Int32.add_zero
    refine ⟨0, by first | decide | (dsimp only <;> decide), ?_, fun _ => rfl, rfl, rfl, ?_, ?_, ?_⟩
    · rw [e0]; exact hb.1
    · rw [e0]; exact hb
    · rw [e0, e0]; exact h
    · rw [e0]; exact hd0
