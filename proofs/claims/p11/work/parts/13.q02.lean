/-! Strings: hexadecimal digits, escapes -/
theorem rr_ofN {x : Int32} (h : 0 ≤ x) : Int32.ofNat x.toNatClampNeg = x := by
  have e := o_nneg h
  have t := o_tnc h
  have g : x.toNatClampNeg = x.toBitVec.toNat := by omega
  rw [g]
  apply Int32.toBitVec_inj.mp
  show BitVec.ofNat 32 x.toBitVec.toNat = _
  rw [BitVec.ofNat_toNat]
  exact BitVec.setWidth_eq _
def hxv (c : Int32) : Int32 := if c < 48 then -1 else if c ≤ 57 then c - 48 else if c < 65 then -1 else if c ≤ 70 then c - 65 + 10 else if c < 97 then -1 else if c ≤ 102 then c - 97 + 10 else -1
theorem hxv_r {c : Int32} : hxv c = -1 ∨ (0 ≤ hxv c ∧ hxv c ≤ 15) := by
  unfold hxv
  (repeat' split) <;> first | exact Or.inl rfl | (right; constructor <;> grind)
theorem hxv_n {c : Int32} (h : c < 0) : hxv c = -1 := by
  unfold hxv
  rw [if_pos (by grind)]
theorem rr_hexC {c : Int32} : m_SJ_hexDigit c = some (hxv c) := by
  unfold m_SJ_hexDigit m_SJ_hexDigit_j17 m_SJ_hexDigit_j37 hxv
  (repeat' split) <;> first | rfl | (exfalso; grind)
theorem rr_hexM {c : Int32} (h0 : 0 ≤ c) (h1 : c ≤ 255) : m_MT_hex c = some (hxv c) := by
  have h : ∀ k : Nat, k < 256 → m_MT_hex (Int32.ofNat k) = some (hxv (Int32.ofNat k)) := by decide +kernel
  have := h c.toNatClampNeg (o_tncL (m := 256) rfl h0 (by grind))
  rwa [rr_ofN h0] at this
def HB (i num : Int32) : Prop := 0 ≤ num ∧ ((i = 0 ∧ num ≤ 0) ∨ (i = 1 ∧ num ≤ 15) ∨ (i = 2 ∧ num ≤ 255) ∨ (i = 3 ∧ num ≤ 4095) ∨ (i = 4 ∧ num ≤ 65535))
theorem HB_s {i num h : Int32} (hb : HB i num) (hi : ¬ 4 ≤ i) (h0 : 0 ≤ h) (h1 : h ≤ 15) : HB (i + 1) (num * 16 + h) := by
  obtain ⟨a, b⟩ := hb
  rcases b with ⟨rfl, b⟩ | ⟨rfl, b⟩ | ⟨rfl, b⟩ | ⟨rfl, b⟩ | ⟨rfl, b⟩
  · exact ⟨by grind, Or.inr (Or.inl ⟨rfl, by grind⟩)⟩
  · exact ⟨by grind, Or.inr (Or.inr (Or.inl ⟨rfl, by grind⟩))⟩
  · exact ⟨by grind, Or.inr (Or.inr (Or.inr (Or.inl ⟨rfl, by grind⟩)))⟩
  · exact ⟨by grind, Or.inr (Or.inr (Or.inr (Or.inr ⟨rfl, by grind⟩)))⟩
  · exact absurd (Int32.le_refl 4) hi
theorem HB_4 {i num : Int32} (hb : HB i num) (hi : 4 ≤ i) : i = 4 ∧ 0 ≤ num ∧ num ≤ 65535 := by
  obtain ⟨a, b⟩ := hb
  rcases b with ⟨rfl, b⟩ | ⟨rfl, b⟩ | ⟨rfl, b⟩ | ⟨rfl, b⟩ | ⟨rfl, b⟩
  · exact absurd hi (by decide)
  · exact absurd hi (by decide)
  · exact absurd hi (by decide)
  · exact absurd hi (by decide)
  · exact ⟨rfl, a, b⟩
theorem HB_i {i num : Int32} (hb : HB i num) : 0 ≤ i ∧ i ≤ 4 := by
  obtain ⟨a, b⟩ := hb
  rcases b with ⟨rfl, b⟩ | ⟨rfl, b⟩ | ⟨rfl, b⟩ | ⟨rfl, b⟩ | ⟨rfl, b⟩ <;> decide
theorem rr_hexA {n m : Nat} {w : Nat → Int32} {L p x1 : Int32} {Rd : SRd} {a : SMT} (hR : RdOK w L p Rd) (hM : MtOK w L p a) (hb : BP L p) :
    o_p2 (o_lp n (m_Rd_readHex_b4 n) ((0:Int32), (0:Int32), Rd)) (o_lp m (m_MT_escape_b122 m x1 a) (0:Int32)) (fun q q' => (q.1 = 1 ∧ q'.1 = 1 ∧ (∃ num, q.2 = (num, q'.2, ps Rd (p + q'.2))) ∧ 0 ≤ p + q'.2) ∨ (q.1 = 2 ∧ q'.1 = 2)) := by
  refine q2lp (fun z z' => ∃ num, z = (num, z', ps Rd (p + z')) ∧ HB z' num ∧ BP L (p + z')) ?_ n m _ _ ?_
  · rintro z i ⟨num, rfl, h1, h2⟩
    have k1 : m_Rd_peek (ps Rd (p + i)) = some (PK w L (p + i)) := rr_peek (RdOK_ps hR) h2
    have k2 : m_MT_c (MT_at a + i) a = some (PK w L (p + i)) := by
      rw [hM.2.1]
      exact rr_c hM h2.1 h2.2.2
    unfold m_Rd_readHex_b4 m_MT_escape_b122
    refine q2IB Iff.rfl (fun c => q2S (Or.inr (Or.inl ⟨Nat.succ_ne_zero _, Nat.succ_ne_zero _, Or.inr ⟨rfl, rfl⟩⟩))) (fun c => ?_)
    refine q2Le k1 (q2Le rr_hexC (q2Re k2 ?_))
    have bad : ∀ x : Option (Nat × Int32), x = some (1, i) → hxv (PK w L (p + i)) = -1 → o_p2 (if hxv (PK w L (p + i)) = (-1:Int32) then some (1, num, i, ps Rd (p + i)) else o_nm (num * 16 + hxv (PK w L (p + i))) fun x1_39 => o_nm (i + (1:Int32)) fun x2_50 => some (0, x1_39, x2_50, ps (ps Rd (p + i)) (p + i + 1))) x (fun q q' => (q.1 = 0 ∧ q'.1 = 0 ∧ ∃ num, q.2 = (num, q'.2, ps Rd (p + q'.2)) ∧ HB q'.2 num ∧ BP L (p + q'.2)) ∨ (q.1 ≠ 0 ∧ q'.1 ≠ 0 ∧ ((q.1 = 1 ∧ q'.1 = 1 ∧ (∃ num, q.2 = (num, q'.2, ps Rd (p + q'.2))) ∧ 0 ≤ p + q'.2) ∨ (q.1 = 2 ∧ q'.1 = 2))) ∨ (q.1 = 0 ∧ q'.1 ≠ 0 ∧ ∀ m r, o_lp m (m_Rd_readHex_b4 n) q.2 = some r → ((r.1 = 1 ∧ q'.1 = 1 ∧ (∃ num, r.2 = (num, q'.2, ps Rd (p + q'.2))) ∧ 0 ≤ p + q'.2) ∨ (r.1 = 2 ∧ q'.1 = 2)))) := by
      intro x ex eh
      rw [ex]
      exact q2tL eh (q2S (Or.inr (Or.inl ⟨Nat.succ_ne_zero _, Nat.succ_ne_zero _, Or.inl ⟨rfl, rfl, ⟨num, rfl⟩, h2.1⟩⟩)))
    refine q2IR (fun c1 => ?_) (fun c1 => ?_)
    · exact bad _ rfl (hxv_n c1)
    · refine q2Re k2 (q2Re (rr_hexM (by grind) PK_rng.2) ?_)
      rcases hxv_r (c := PK w L (p + i)) with e | ⟨e1, e2⟩
      · refine q2fR (by rw [e]; decide) ?_
        exact bad _ rfl e
      · refine q2tR e1 (q2fL (by intro e; rw [e] at e1; exact absurd e1 (by decide)) ?_)
        have hp : p + i < L := PK_lt (w := w) (by intro e; rw [e] at e1; exact absurd e1 (by decide))
        have b1 := BP_1 h2 hp
        rw [Int32.add_assoc] at b1
        refine q2NL (q2NL (q2NR (q2S (Or.inl ⟨rfl, rfl, num * 16 + hxv (PK w L (p + i)), ?_, HB_s h1 c e1 e2, b1⟩))))
        show (num * 16 + hxv (PK w L (p + i)), i + 1, ps (ps Rd (p + i)) (p + i + 1)) = _
        rw [Int32.add_assoc]
  · refine ⟨0, ?_, ⟨by decide, Or.inl ⟨rfl, by decide⟩⟩, ?_⟩
    · rw [Int32.add_zero, ← hR.2.2.1]
    · rw [Int32.add_zero]; exact hb
theorem rr_hexB {n m : Nat} {w : Nat → Int32} {L p pa : Int32} {Rd : SRd} {a : SMT} (hR : RdOK w L p Rd) (hM : MtOK w L pa a) (hb : BP L p) :
    o_p2 (o_lp n (m_Rd_readHex_b4 n) ((0:Int32), (0:Int32), Rd)) (o_lp m (m_MT_four_b4 m p a) ((0:Int32), (0:Int32))) (fun q q' => (q.1 = 1 ∧ q'.1 = 1) ∨ (q.1 = 2 ∧ q'.1 = 2 ∧ q.2 = (q'.2.1, 4, ps Rd (p + 4)) ∧ BP L (p + 4) ∧ 0 ≤ q'.2.1 ∧ q'.2.1 ≤ 65535)) := by
  refine q2lp (fun z z' => ∃ num i, z = (num, i, ps Rd (p + i)) ∧ z' = (num, i) ∧ HB i num ∧ BP L (p + i)) ?_ n m _ _ ?_
  · rintro z z' ⟨num, i, rfl, rfl, h1, h2⟩
    have k1 : m_Rd_peek (ps Rd (p + i)) = some (PK w L (p + i)) := rr_peek (RdOK_ps hR) h2
    have k2 : m_MT_c (p + i) a = some (PK w L (p + i)) := rr_c hM h2.1 h2.2.2
    unfold m_Rd_readHex_b4 m_MT_four_b4
    refine q2IB Iff.rfl (fun c => ?_) (fun c => ?_)
    · obtain ⟨rfl, g0, g1⟩ := HB_4 h1 c
      exact q2S (Or.inr (Or.inl ⟨Nat.succ_ne_zero _, Nat.succ_ne_zero _, Or.inr ⟨rfl, rfl, rfl, h2, g0, g1⟩⟩))
    refine q2Le k1 (q2Le rr_hexC (q2Re k2 ?_))
    unfold m_MT_four_j33
    rcases hxv_r (c := PK w L (p + i)) with e | ⟨e1, e2⟩
    · refine q2tL e (q2IR (fun c1 => q2Re k2 (q2Re (rr_hexM c1 PK_rng.2) (q2fR (by rw [e]; decide) ?_))) (fun c1 => q2fR (by decide) ?_))
      · exact q2S (Or.inr (Or.inl ⟨Nat.succ_ne_zero _, Nat.succ_ne_zero _, Or.inl ⟨rfl, rfl⟩⟩))
      · exact q2S (Or.inr (Or.inl ⟨Nat.succ_ne_zero _, Nat.succ_ne_zero _, Or.inl ⟨rfl, rfl⟩⟩))
    · have hn : ¬ PK w L (p + i) < 0 := by intro e; rw [hxv_n e] at e1; exact absurd e1 (by decide)
      refine q2fL (by intro e; rw [e] at e1; exact absurd e1 (by decide)) (q2tR (by grind) (q2Re k2 (q2Re (rr_hexM (by grind) PK_rng.2) (q2tR e1 ?_))))
      have hp : p + i < L := PK_lt (w := w) (by intro e; rw [e] at hn; exact hn (by decide))
      have b1 := BP_1 h2 hp
      rw [Int32.add_assoc] at b1
      refine q2NL (q2NL (q2NR (q2NR (q2S (Or.inl ⟨rfl, rfl, num * 16 + hxv (PK w L (p + i)), i + 1, ?_, ?_, HB_s h1 c e1 e2, b1⟩)))))
      · show (num * 16 + hxv (PK w L (p + i)), i + 1, ps (ps Rd (p + i)) (p + i + 1)) = _
        rw [Int32.add_assoc]
      · show (16 * num + hxv (PK w L (p + i)), i + 1) = _
        rw [Int32.mul_comm]
  · refine ⟨0, 0, ?_, rfl, ⟨by decide, Or.inl ⟨rfl, by decide⟩⟩, ?_⟩
    · rw [Int32.add_zero, ← hR.2.2.1]
    · rw [Int32.add_zero]; exact hb
/-- the class's readHex, in words of its loop -/
theorem rr_hexR {n : Nat} {Rd : SRd} {r : Int32 × SRd} (e : m_Rd_readHex n Rd = some r) : ∃ q, o_lp n (m_Rd_readHex_b4 n) ((0:Int32), (0:Int32), Rd) = some q ∧ ((q.1 = 1 ∧ r.1 = -1 ∧ Rd_wrongPlace r.2 = Rd_position q.2.2.2) ∨ (q.1 ≠ 1 ∧ r = (q.2.1, q.2.2.2))) := by
  unfold m_Rd_readHex at e
  obtain ⟨q, e1, e⟩ := o_bd_some e
  refine ⟨q, e1, ?_⟩
  by_cases c : q.1 = 1
  · have e := o_tt c e
    unfold m_Rd_refuse at e
    obtain ⟨q2, e2, e⟩ := o_bd_some e
    cases e2
    cases e
    exact Or.inl ⟨c, rfl, rfl⟩
  · have e := o_ff c e
    cases e
    exact Or.inr ⟨c, rfl⟩
theorem rr_fourR {m : Nat} {p : Int32} {a : SMT} {r : Int32} (e : m_MT_four m p a = some r) : ∃ q, o_lp m (m_MT_four_b4 m p a) ((0:Int32), (0:Int32)) = some q ∧ ((q.1 = 1 ∧ r = -1) ∨ (q.1 ≠ 1 ∧ r = q.2.1)) := by
  unfold m_MT_four at e
  obtain ⟨q, e1, e⟩ := o_bd_some e
  refine ⟨q, e1, ?_⟩
  by_cases c : q.1 = 1
  · have e := o_tt c e
    cases e
    exact Or.inl ⟨c, rfl⟩
  · have e := o_ff c e
    cases e
    exact Or.inr ⟨c, rfl⟩
def sec (q : Int32) : Int32 := if q = 34 then 34 else if q = 92 then 92 else if q = 47 then 47 else if q = 98 then 8 else if q = 102 then 12 else if q = 110 then 10 else if q = 114 then 13 else if q = 116 then 9 else -1
theorem sec_r {q : Int32} : sec q = -1 ∨ (0 ≤ sec q ∧ q ≠ -1) := by
  unfold sec
  by_cases h1 : q = 34
  · subst h1; exact Or.inr ⟨by decide, by decide⟩
  by_cases h2 : q = 92
  · subst h2; exact Or.inr ⟨by decide, by decide⟩
  by_cases h3 : q = 47
  · subst h3; exact Or.inr ⟨by decide, by decide⟩
  by_cases h4 : q = 98
  · subst h4; exact Or.inr ⟨by decide, by decide⟩
  by_cases h5 : q = 102
  · subst h5; exact Or.inr ⟨by decide, by decide⟩
  by_cases h6 : q = 110
  · subst h6; exact Or.inr ⟨by decide, by decide⟩
  by_cases h7 : q = 114
  · subst h7; exact Or.inr ⟨by decide, by decide⟩
  by_cases h8 : q = 116
  · subst h8; exact Or.inr ⟨by decide, by decide⟩
  rw [if_neg h1, if_neg h2, if_neg h3, if_neg h4, if_neg h5, if_neg h6, if_neg h7, if_neg h8]
  exact Or.inl rfl
theorem rr_se {q : Int32} {R : SRd} : m_Rd_readShortEscape q R = some (if sec q = -1 then (-1, Rd_mk (Rd_words R) (Rd_wordCount R) (Rd_position R + 1) (Rd_limit R) (Rd_position R)) else (sec q, ps R (Rd_position R + 1))) := by
  unfold m_Rd_readShortEscape sec
  by_cases h1 : q = 34
  · subst h1; rfl
  by_cases h2 : q = 92
  · subst h2; rfl
  by_cases h3 : q = 47
  · subst h3; rfl
  by_cases h4 : q = 98
  · subst h4; rfl
  by_cases h5 : q = 102
  · subst h5; rfl
  by_cases h6 : q = 110
  · subst h6; rfl
  by_cases h7 : q = 114
  · subst h7; rfl
  by_cases h8 : q = 116
  · subst h8; rfl
  unfold o_nm
  simp only [if_neg h1, if_neg h2, if_neg h3, if_neg h4, if_neg h5, if_neg h6, if_neg h7, if_neg h8]
  rfl
theorem rr_esM {m : Nat} {p q : Int32} {a : SMT} : (if q = (34:Int32) then m_MT_escape_j86 m p q q a else if q = (92:Int32) then m_MT_escape_j86 m p q q a else if q = (47:Int32) then m_MT_escape_j86 m p q q a else if q = (98:Int32) then m_MT_escape_j86 m p q (8:Int32) a else if q = (102:Int32) then m_MT_escape_j86 m p q (12:Int32) a else if q = (110:Int32) then m_MT_escape_j86 m p q (10:Int32) a else if q = (114:Int32) then m_MT_escape_j86 m p q (13:Int32) a else if q = (116:Int32) then m_MT_escape_j86 m p q (9:Int32) a else m_MT_escape_j86 m p q (-1:Int32) a) = m_MT_escape_j86 m p q (sec q) a := by
  unfold sec
  by_cases h1 : q = 34
  · subst h1; rfl
  by_cases h2 : q = 92
  · subst h2; rfl
  by_cases h3 : q = 47
  · subst h3; rfl
  by_cases h4 : q = 98
  · subst h4; rfl
  by_cases h5 : q = 102
  · subst h5; rfl
  by_cases h6 : q = 110
  · subst h6; rfl
  by_cases h7 : q = 114
  · subst h7; rfl
  by_cases h8 : q = 116
  · subst h8; rfl
  simp only [if_neg h1, if_neg h2, if_neg h3, if_neg h4, if_neg h5, if_neg h6, if_neg h7, if_neg h8]
theorem rr_surr {x : Int32} : m_SJ_isSurrogate x = some (if x < 55296 then 0 else if 57343 < x then 0 else 1) := by
  unfold m_SJ_isSurrogate
  by_cases h1 : x < 55296
  · rw [if_pos h1, if_pos h1]
  · rw [if_neg h1, if_neg h1]
    by_cases h2 : 57343 < x
    · rw [if_pos h2, if_pos h2]
    · rw [if_neg h2, if_neg h2]
theorem rr_inn {x a b : Int32} : m_MM_in x a b = some (if x < a then 0 else if b < x then 0 else 1) := by
  unfold m_MM_in
  by_cases h1 : x < a
  · rw [if_pos h1, if_pos h1]
  · rw [if_neg h1, if_neg h1]
    by_cases h2 : b < x
    · rw [if_pos h2, if_pos h2]
    · rw [if_neg h2, if_neg h2]
theorem rr_in1 {x a b : Int32} (h : a ≤ x) (h2 : x ≤ b) : m_MM_in x a b = some 1 := by
  rw [rr_inn, if_neg (by grind), if_neg (by grind)]
theorem rr_in0 {x a b : Int32} (h : x < a ∨ b < x) : m_MM_in x a b = some 0 := by
  rw [rr_inn]
  by_cases h1 : x < a
  · rw [if_pos h1]
  · rw [if_neg h1, if_pos (h.resolve_left h1)]
/-- a character read: what is put -/
def EC (L p : Int32) (Rd : SRd) (a : SMT) (r : Int32 × SRd) (r' : Int32 × SMT) : Prop := (r.1 = -1 ∧ r'.1 = 0 ∧ FL r.2 r'.2) ∨ (r.1 ≠ -1 ∧ ∃ p', BP L p' ∧ p < p' ∧ r.2 = ps Rd p' ∧ m_MT_put r.1 p (atM a p') = some r')
theorem rr_put {L p : Int32} {Rd : SRd} {a : SMT} {c p' : Int32} {R : SRd} {aa : SMT} (hc : c ≠ -1) (hb : BP L p') (hp : p < p') (hR : R = ps Rd p') (ha : aa = atM a p') : o_p2 (some (c, R)) (o_bd (m_MT_put c p aa) fun q19 => o_gd (o_zb q19.1) <| some (q19.1, q19.2)) (EC L p Rd a) := by
  subst ha
  refine q2R (fun q e => q2GR (fun _ => q2S (Or.inr ⟨hc, p', hb, hp, hR, e⟩)))
theorem rr_badC {L p x : Int32} {Rd R : SRd} {a aa : SMT} (hw : MT_wrong aa = -1) (hx : 0 ≤ x) (hR : Rd_wrongPlace R = x) : o_p2 (some ((-1:Int32), R)) (o_bd (m_MT_bad x aa) fun q19 => o_gd (o_zb q19.1) <| some (q19.1, q19.2)) (EC L p Rd a) := by
  refine q2R (fun q e => q2GR (fun _ => q2S (Or.inl ?_)))
  obtain ⟨a1, a2⟩ := rr_bad hw q e
  exact ⟨rfl, a1, by rw [a2]; exact hR, by rw [a2]; exact hx⟩
theorem rr_low {n m : Nat} {L p num low : Int32} {Rd R : SRd} {a : SMT} (hw : MT_wrong a = -1) (h0 : 0 ≤ p) (hp : p ≤ 8192) (hn0 : 55296 ≤ num) (hn1 : num < 56320) (h : 56320 ≤ low → low ≤ 57343 → R = ps Rd (p + 12) ∧ BP L (p + 12)) : o_p2 (m_Rd_readEscape_j109 n p num low R) (m_MT_escape_j273 m p num low (atM a (p + 2 + 4))) (EC L p Rd a) := by
  unfold m_Rd_readEscape_j109 m_MT_escape_j273 m_Rd_readEscape_j123 m_Rd_refuse
  by_cases c1 : low < 56320
  · exact q2tL c1 (q2Re (rr_in0 (Or.inl c1)) (q2tR rfl (rr_badC (aa := atM a (p + 2 + 4)) hw h0 rfl)))
  · refine q2fL c1 ?_
    by_cases c2 : low ≤ 57343
    · obtain ⟨e1, e2⟩ := h (by grind) c2
      refine q2tL c2 (q2Re (rr_in1 (by grind) c2) (q2fR (by decide) ?_))
      have es : ∀ t : Int32, (65536 + t) + (low - 56320) = (65536 + t) + low - 56320 := by
        intro t
        grind
      have g := o_sur hn0 hn1
      generalize (num - 55296) <<< ((10:Int32) &&& 31) = s at g
      rw [← es]
      exact rr_put (p' := p + 12) (by grind) e2 (by grind) e1 (by
        show atM a (p + 2 + 4 + 6) = atM a (p + 12)
        have : p + 2 + 4 + 6 = p + 12 := by grind
        rw [this])
    · exact q2fL c2 (q2Re (rr_in0 (Or.inr (by grind))) (q2tR rfl (rr_badC (aa := atM a (p + 2 + 4)) hw h0 rfl)))
theorem rr_escape {n m : Nat} {w : Nat → Int32} {L p : Int32} {Rd : SRd} {a : SMT} (hR : RdOK w L p Rd) (hM : MtOK w L p a) (hb : BP L p) (hp : p < L) : o_p2 (m_Rd_readEscape n Rd) (m_MT_escape m p a) (EC L p Rd a) := by
  have hp0 := hb.1
  have hL := hb.2.2
  have b1 := BP_1 hb hp
  have e12 : p + 1 + 1 = p + 2 := by grind
  have e24 : p + 2 + 4 = p + 6 := by grind
  have hw : MT_wrong a = -1 := hM.2.2.1
  unfold m_Rd_readEscape m_MT_escape
  rw [hR.2.2.1, e12]
  refine q2NL (q2Le (rr_peek (p := p + 1) ⟨hR.1, hR.2.1, rfl, hR.2.2.2⟩ b1) (q2Re (rr_c hM b1.1 hL) ?_))
  rw [rr_esM]
  generalize hq : PK w L (p + 1) = q
  by_cases cu : q = 117
  · subst cu
    have hp1 : p + 1 < L := PK_lt (w := w) (by rw [hq]; decide)
    have b2 := BP_1 b1 hp1
    rw [e12] at b2
    refine q2tL rfl (q2L (fun rh eh => ?_))
    obtain ⟨q3, e3, h3⟩ := rr_hexR eh
    unfold m_MT_escape_j86
    refine q2tR (by decide) (q2tR rfl (q2R (fun q5 e5 => ?_)))
    have hR2 : RdOK w L (p + 2) (ps Rd (p + 2)) := RdOK_ps hR
    have hM2 : MtOK w L (p + 2) (atM a (p + 2)) := MtOK_at hM
    rcases rr_hexA hR2 hM2 b2 q3 q5 e3 e5 with ⟨f1, f2, ⟨num, f3⟩, f4⟩ | ⟨f1, f2⟩
    · -- a digit is wrong
      rcases h3 with ⟨_, g2, g3⟩ | ⟨g1, _⟩
      · rw [f3] at g3
        obtain ⟨r1, r2⟩ := rh
        replace g2 : r1 = -1 := g2
        subst g2
        refine q2Le rr_surr (q2tL (if_pos (show (-1:Int32) < 55296 by decide)) (q2tR f2 ?_))
        unfold m_MT_escape_j159
        exact rr_badC (aa := atM a (p + 2)) hw f4 g3
      · exact absurd f1 g1
    · rcases h3 with ⟨g1, _⟩ | ⟨_, g2⟩
      · exact absurd (f1.symm.trans g1) (by decide)
      · refine q2fR (by rw [f2]; decide) (q2R (fun q7 e7 => ?_))
        obtain ⟨q4, e4, h4⟩ := rr_fourR e7
        rcases rr_hexB hR2 hM2 b2 q3 q4 e3 e4 with ⟨k1, _⟩ | ⟨k1, k2, k3, k4, k5, k6⟩
        · exact absurd (f1.symm.trans k1) (by decide)
        rcases h4 with ⟨l1, _⟩ | ⟨_, l2⟩
        · exact absurd (k2.symm.trans l1) (by decide)
        rw [k3] at g2
        rw [← l2] at g2 k5 k6
        replace g2 : rh = (q7, ps Rd (p + 2 + 4)) := g2
        subst g2
        rw [e24] at k4
        refine q2Le rr_surr ?_
        by_cases s1 : q7 < 55296 ∨ 57343 < q7
        · refine q2tL (by
            by_cases t : q7 < 55296
            · rw [if_pos t]
            · rw [if_neg t, if_pos (s1.resolve_left t)]) ?_
          refine q2Re (rr_in0 (by grind)) (q2tR rfl (q2Re (rr_in0 (by grind)) (q2tR rfl ?_)))
          exact rr_put (p' := p + 6) (by grind) k4 (by grind) (by rw [e24]) (by rw [e24])
        · have t1 : 55296 ≤ q7 := by grind
          have t2 : q7 ≤ 57343 := by grind
          refine q2fL (by rw [if_neg (by grind), if_neg (by grind)]; decide) ?_
          by_cases s2 : 56320 ≤ q7
          · refine q2tL s2 (q2Re (rr_in1 s2 t2) (q2fR (by decide) ?_))
            unfold m_Rd_readEscape_j109 m_Rd_readEscape_j123 m_Rd_refuse
            exact q2tL (by decide) (rr_badC (aa := atM a (p + 2 + 4)) hw hp0 rfl)
          · have s3 : q7 < 56320 := by grind
            refine q2fL s2 (q2Re (rr_in0 (Or.inl s3)) (q2tR rfl (q2Re (rr_in1 t1 (by grind)) (q2fR (by decide) ?_))))
            have p68 : p ≤ 8192 := by grind
            have k46 : BP L (p + 2 + 4) := by rw [e24]; exact k4
            have nolow : ∀ R : SRd, o_p2 (m_Rd_readEscape_j109 n p q7 (-1) R) (m_MT_escape_j273 m p q7 (-1) (atM a (p + 2 + 4))) (EC L p Rd a) := fun R => rr_low hw hp0 p68 t1 s3 (fun h _ => absurd h (by decide))
            refine q2Le (rr_peek (p := p + 2 + 4) ⟨hR.1, hR.2.1, rfl, hR.2.2.2⟩ k46) (q2Re (rr_c (MtOK_at (p' := p + 2 + 4) hM) k46.1 hL) ?_)
            refine q2IB Iff.rfl (fun c92 => ?_) (fun _ => nolow _)
            have hp6 : p + 2 + 4 < L := PK_lt (w := w) (by rw [c92]; decide)
            have b7 := BP_1 k46 hp6
            refine q2Le (rr_peek (p := p + 2 + 4 + 1) ⟨hR.1, hR.2.1, rfl, hR.2.2.2⟩ b7) (q2Re (rr_c (MtOK_at (p' := p + 2 + 4) hM) b7.1 hL) ?_)
            refine q2IB Iff.rfl (fun c117 => ?_) (fun _ => nolow _)
            have hp7 : p + 2 + 4 + 1 < L := PK_lt (w := w) (by rw [c117]; decide)
            have b8 := BP_1 b7 hp7
            have e8 : p + 2 + 4 + 1 + 1 = p + 2 + 4 + 2 := by grind
            refine q2L (fun rl el => q2R (fun ql e9 => ?_))
            obtain ⟨u3, v3, w3⟩ := rr_hexR el
            obtain ⟨u4, v4, w4⟩ := rr_fourR e9
            have b8' : BP L (p + 2 + 4 + 2) := by rw [← e8]; exact b8
            have hR8 : RdOK w L (p + 2 + 4 + 2) (Rd_mk (Rd_words (ps Rd (p + 2 + 4))) (Rd_wordCount (ps Rd (p + 2 + 4))) (((Rd_position (ps Rd (p + 2 + 4))) + (1:Int32)) + (1:Int32)) (Rd_limit (ps Rd (p + 2 + 4))) (Rd_wrongPlace (ps Rd (p + 2 + 4)))) := ⟨hR.1, hR.2.1, e8, hR.2.2.2⟩
            rcases rr_hexB hR8 (MtOK_at (p' := p + 2 + 4) hM) b8' u3 u4 v3 v4 with ⟨m1, m2⟩ | ⟨m1, m2, m3, m4, m5, m6⟩
            · rcases w3 with ⟨_, x2, x3⟩ | ⟨x1, _⟩
              · rcases w4 with ⟨_, y2⟩ | ⟨y1, _⟩
                · rw [x2, y2]
                  exact nolow _
                · exact absurd m2 y1
              · exact absurd m1 x1
            · rcases w3 with ⟨x1, _⟩ | ⟨_, x2⟩
              · exact absurd (m1.symm.trans x1) (by decide)
              rcases w4 with ⟨y1, _⟩ | ⟨_, y2⟩
              · exact absurd (m2.symm.trans y1) (by decide)
              rw [m3] at x2
              rw [x2, y2]
              have e12' : p + 2 + 4 + 2 + 4 = p + 12 := by grind
              refine rr_low hw hp0 p68 t1 s3 (fun _ _ => ⟨?_, by rw [← e12']; exact m4⟩)
              show ps Rd (p + 2 + 4 + 2 + 4) = _
              rw [e12']
  · refine q2fL cu (q2Le rr_se ?_)
    unfold m_MT_escape_j86
    rcases sec_r (q := q) with e | ⟨e1, e2⟩
    · rw [if_pos e, e]
      refine q2tR (by decide) (q2fR cu ?_)
      exact rr_badC (aa := atM a (p + 2)) hw b1.1 rfl
    · have ne : ¬ sec q = -1 := by intro e; rw [e] at e1; exact absurd e1 (by decide)
      rw [if_neg ne]
      refine q2fR (by grind) ?_
      have hp1 : p + 1 < L := PK_lt (w := w) (by rw [hq]; exact e2)
      have b2 := BP_1 b1 hp1
      rw [e12] at b2
      refine rr_put (p' := p + 2) ne b2 (by grind) ?_ rfl
      show ps Rd (p + 1 + 1) = _
      rw [e12]
