/-! Numbers: the node -/
abbrev nmM (a : SMT) (x y : Int32) : SMT := MT_mk (MT_text a) (upd (MT_kind a) (MT_values a).toNatClampNeg 3) (upd (MT_place a) (MT_values a).toNatClampNeg (MT_at a)) (upd (MT_many a) (MT_values a).toNatClampNeg (0:Int32)) (upd (MT_parent a) (MT_values a).toNatClampNeg x) (upd (MT_power a) (MT_values a).toNatClampNeg (0:Int32)) (upd (MT_first a) (MT_values a).toNatClampNeg (-1:Int32)) (upd (MT_next a) (MT_values a).toNatClampNeg (-1:Int32)) (upd (MT_name a) (MT_values a).toNatClampNeg (-1:Int32)) (upd (MT_from a) (MT_values a).toNatClampNeg (MT_written a)) (MT_characters a) (MT_digits a) (upd (MT_minus a) (MT_values a).toNatClampNeg (vp_nar .boolean y)) ((MT_values a) + (1:Int32)) (MT_letters a) (MT_at a) (MT_wrong a) (MT_used a) (MT_written a) (MT_left a)
abbrev numT (tc : STx) (c : Nat → Int32) (u p x s fr sz ex ng : Int32) : STx := Tx_mk (upd (Tx_kinds tc) (Tx_total tc).toNatClampNeg 3) (upd (Tx_places tc) (Tx_total tc).toNatClampNeg p) (upd (upd (Tx_sizes tc) (Tx_total tc).toNatClampNeg (0:Int32)) (Tx_total tc).toNatClampNeg sz) (upd (Tx_parents tc) (Tx_total tc).toNatClampNeg x) (upd (upd (Tx_exponents tc) (Tx_total tc).toNatClampNeg (0:Int32)) (Tx_total tc).toNatClampNeg ex) (upd (upd (Tx_starts tc) (Tx_total tc).toNatClampNeg (Tx_used tc)) (Tx_total tc).toNatClampNeg fr) (upd (Tx_afters tc) (Tx_total tc).toNatClampNeg ((Tx_total tc) + (1:Int32))) (upd (Tx_slots tc) (Tx_total tc).toNatClampNeg s) (upd (upd (Tx_negatives tc) (Tx_total tc).toNatClampNeg (vp_nar .boolean (0:Int32))) (Tx_total tc).toNatClampNeg (vp_nar .boolean ng)) c ((Tx_total tc) + (1:Int32)) u (Tx_characters tc)
abbrev numM (a : SMT) (d mi : Nat → Int32) (x p mn pw fm wr : Int32) : SMT := MT_mk (MT_text a) (upd (MT_kind a) (MT_values a).toNatClampNeg 3) (upd (MT_place a) (MT_values a).toNatClampNeg (MT_at a)) (upd (upd (MT_many a) (MT_values a).toNatClampNeg (0:Int32)) (MT_values a).toNatClampNeg mn) (upd (MT_parent a) (MT_values a).toNatClampNeg x) (upd (upd (MT_power a) (MT_values a).toNatClampNeg (0:Int32)) (MT_values a).toNatClampNeg pw) (upd (MT_first a) (MT_values a).toNatClampNeg (-1:Int32)) (upd (MT_next a) (MT_values a).toNatClampNeg (-1:Int32)) (upd (MT_name a) (MT_values a).toNatClampNeg (-1:Int32)) (upd (upd (MT_from a) (MT_values a).toNatClampNeg (MT_written a)) (MT_values a).toNatClampNeg fm) (MT_characters a) d mi ((MT_values a) + (1:Int32)) (MT_letters a) p (MT_wrong a) (MT_used a) wr (MT_left a)
theorem rr_numTop {tc : STx} {a : SMT} {c d mi : Nat → Int32} {u p p' x s fr sz ex ng mn pw fm wr : Int32} (c1 : Tx_total tc = MT_values a) (c2 : 0 ≤ MT_values a) (hv : MT_values a < 1000) (hat : MT_at a = p) (u0 : Tx_used tc ≤ u) (w0 : MT_written a ≤ wr) (hc : ∀ i : Int32, 0 ≤ i → i < Tx_used tc → c i.toNatClampNeg = Tx_cells tc i.toNatClampNeg) (hd : ∀ i : Int32, 0 ≤ i → i < MT_written a → d i.toNatClampNeg = MT_digits a i.toNatClampNeg) (hmi : ∀ y : Int32, 0 ≤ y → y < MT_values a → mi y.toNatClampNeg = MT_minus a y.toNatClampNeg) (hng : mi (MT_values a).toNatClampNeg = vp_nar .boolean ng) (hsz : sz = mn) (m0 : 0 ≤ mn) (m1 : mn ≤ 60) (hex : ex = pw) (g1 : SEG fr u mn) (g2 : SEG fm wr mn) (g3 : CEL c d fr fm mn) : TOP tc a x s (numT tc c u p x s fr sz ex ng) (numM a d mi x p' mn pw fm wr) := by
  have neM : ∀ y : Int32, 0 ≤ y → y < MT_values a → y.toNatClampNeg ≠ (MT_values a).toNatClampNeg := fun y y0 y1 => o_neq y0 c2 (by grind)
  have neT : ∀ y : Int32, 0 ≤ y → y < MT_values a → y.toNatClampNeg ≠ (Tx_total tc).toNatClampNeg := by rw [c1]; exact neM
  have E : ∀ (f : Nat → Int32) (z : Int32), upd f (Tx_total tc).toNatClampNeg z (MT_values a).toNatClampNeg = z := fun f z => rr_upE c1.symm
  refine ⟨by show MT_values a < MT_values a + 1; grind, ⟨u0, by show Tx_total tc ≤ Tx_total tc + 1; rw [c1]; grind, hc, fun y y0 y1 => ?_⟩, ⟨Int32.le_refl _, w0, fun _ _ _ => rfl, hd, fun y y0 y1 => ?_⟩, ?_, E _ _, E _ _, E _ _, o_updE, o_updE⟩
  · exact ⟨o_updN (neT y y0 y1), o_updN (neT y y0 y1), (o_updN (neT y y0 y1)).trans (o_updN (neT y y0 y1)), o_updN (neT y y0 y1), (o_updN (neT y y0 y1)).trans (o_updN (neT y y0 y1)), (o_updN (neT y y0 y1)).trans (o_updN (neT y y0 y1)), o_updN (neT y y0 y1), o_updN (neT y y0 y1), (o_updN (neT y y0 y1)).trans (o_updN (neT y y0 y1))⟩
  · exact ⟨o_updN (neM y y0 y1), o_updN (neM y y0 y1), (o_updN (neM y y0 y1)).trans (o_updN (neM y y0 y1)), o_updN (neM y y0 y1), (o_updN (neM y y0 y1)).trans (o_updN (neM y y0 y1)), o_updN (neM y y0 y1), o_updN (neM y y0 y1), o_updN (neM y y0 y1), (o_updN (neM y y0 y1)).trans (o_updN (neM y y0 y1)), hmi y y0 y1⟩
  · intro y y0 y1
    replace y1 : y < Tx_total tc + 1 := y1
    rw [c1] at y1
    have ey : y = MT_values a := by grind
    subst ey
    obtain ⟨TC, eT⟩ : ∃ t : STx, t = numT tc c u p x s fr sz ex ng := ⟨_, rfl⟩
    obtain ⟨AM, eA⟩ : ∃ t : SMT, t = numM a d mi x p' mn pw fm wr := ⟨_, rfl⟩
    rw [← eT, ← eA]
    have z1 : Tx_sizes TC (MT_values a).toNatClampNeg = mn := by rw [eT]; exact (E _ _).trans hsz
    have z2 : MT_many AM (MT_values a).toNatClampNeg = mn := by rw [eA]; exact o_updE
    have z3 : Tx_starts TC (MT_values a).toNatClampNeg = fr := by rw [eT]; exact E _ _
    have z4 : MT_from AM (MT_values a).toNatClampNeg = fm := by rw [eA]; exact o_updE
    have z5 : Tx_used TC = u := by rw [eT]
    have z6 : MT_written AM = wr := by rw [eA]
    have z7 : Tx_cells TC = c := by rw [eT]
    have z8 : MT_digits AM = d := by rw [eA]
    have z9 : Tx_negatives TC (MT_values a).toNatClampNeg = MT_minus AM (MT_values a).toNatClampNeg := by
      rw [eT, eA]
      exact (E _ _).trans hng.symm
    refine NODE_leaf (k := 3) (m := mn) (by rw [eT]; exact E _ _) (by rw [eA]; exact o_updE) ⟨by first | decide | (dsimp only <;> decide), by first | decide | (dsimp only <;> decide)⟩ ?_ ?_ ?_ z1 z2 m0 (fun e => absurd e (by first | decide | (dsimp only <;> decide))) (fun _ => ?_) (fun e => absurd e (by first | decide | (dsimp only <;> decide)))
    · rw [eT, eA]; exact (E _ _).trans (hat.symm.trans o_updE.symm)
    · rw [eT, eA]; exact (E _ _).trans o_updE.symm
    · rw [eT, eA]; exact (E _ _).trans (hex.trans o_updE.symm)
    · unfold NUM
      rw [z1, z3, z4, z5, z6, z7, z8]
      exact ⟨z9, m1, g1, g2, g3⟩
theorem rr_bool0 : vp_nar .boolean (0:Int32) = 0 := rfl
theorem rr_bool1 : vp_nar .boolean (1:Int32) = 1 := rfl
/-- the class's endNumber, in words of its loops -/
theorem rr_endN {n : Nat} {v y ee : Int32} {tc r : STx} (h0 : 0 ≤ v) (h1 : v < Tx_total tc) (e : m_Tx_endNumber n v y ee tc = some r) : ∃ q1 q2 ex ng, o_lp n (m_Tx_endNumber_b27 n v y ee (Tx_starts tc v.toNatClampNeg) tc) (Tx_used tc) = some q1 ∧ o_lp n (m_Tx_endNumber_b52 n v y ee q1.2 tc) (Tx_starts tc v.toNatClampNeg) = some q2 ∧ ex = (if q1.2 = q2.2 then 0 else ee + Tx_used tc - q1.2) ∧ ng = (if y = 0 then 0 else if q1.2 ≤ q2.2 then 0 else 1) ∧ r = Tx_mk (Tx_kinds tc) (Tx_places tc) (upd (Tx_sizes tc) v.toNatClampNeg (q1.2 - q2.2)) (Tx_parents tc) (upd (Tx_exponents tc) v.toNatClampNeg ex) (upd (Tx_starts tc) v.toNatClampNeg q2.2) (Tx_afters tc) (Tx_slots tc) (upd (Tx_negatives tc) v.toNatClampNeg (vp_nar .boolean ng)) (Tx_cells tc) (Tx_total tc) (Tx_used tc) (Tx_characters tc) := by
  unfold m_Tx_endNumber at e
  have e := o_ff (show ¬ v < 0 by grind) e
  have e := o_tt h1 e
  have e := (o_gd_some e).2
  unfold o_nm at e
  obtain ⟨q1, e1, e⟩ := o_bd_some e
  obtain ⟨q2, e2, e⟩ := o_bd_some e
  refine ⟨q1, q2, _, _, e1, e2, rfl, rfl, ?_⟩
  have fin : ∀ (yy : Int32) (t : STx), m_Tx_endNumber_j119 n v y q2.2 q1.2 v yy t = some r → r = Tx_mk (Tx_kinds t) (Tx_places t) (Tx_sizes t) (Tx_parents t) (upd (Tx_exponents t) v.toNatClampNeg yy) (Tx_starts t) (Tx_afters t) (Tx_slots t) (upd (Tx_negatives t) v.toNatClampNeg (vp_nar .boolean (if y = 0 then 0 else if q1.2 ≤ q2.2 then 0 else 1))) (Tx_cells t) (Tx_total t) (Tx_used t) (Tx_characters t) := by
    intro yy t e
    unfold m_Tx_endNumber_j119 at e
    have e := (o_gd_some e).2
    by_cases cy : y = 0
    · have e := o_tt cy e
      have e := (o_gd_some e).2
      cases e
      rw [if_pos cy]
    · have e := o_ff cy e
      rw [if_neg cy]
      by_cases cz : q1.2 ≤ q2.2
      · have e := o_tt cz e
        have e := (o_gd_some e).2
        cases e
        rw [if_pos cz]
      · have e := o_ff cz e
        have e := (o_gd_some e).2
        cases e
        rw [if_neg cz]
  unfold m_Tx_endNumber_j75 at e
  have e := (o_gd_some (o_gd_some e).2).2
  by_cases cz : q1.2 = q2.2
  · have e := o_tt cz e
    rw [if_pos cz]
    exact fin _ _ e
  · have e := o_ff cz e
    rw [if_neg cz]
    exact fin _ _ e
theorem rr_numEnd {n m : Nat} {w : Nat → Int32} {L p p0 P x s y k B few e e' mo : Int32} {tc tcc : STx} {Rd Rd0 Rdd : SRd} {a aa : SMT} (h : RO w L p tc Rd a) (hv : MT_values a < 1000) (hR0 : RdOK w L p0 Rd0) (hP : p < P) (hb : BP L P) (hD : DS (bgT tc 3 p x s) Rd0 (nmM a x y) k P tcc Rdd aa) (hy : y = 0 ∨ y = 1) (hfew : few ≠ 0 ↔ (k ≤ 60 ∧ mo ≤ 3)) (hee : mo ≤ 3 → e = e') :
    o_p2 (m_Rd_readNumber_j275 n (Tx_total tc) p y B few e tcc Rdd) (m_MT_number_j466 m (MT_values a) p k B e' mo aa) (RV w L p tc a x s) := by
  obtain ⟨b1, b2, b3, c1, c2, c3, c5, c6, c7, c8, c9, c10⟩ := RO_v h
  obtain ⟨hR, hM, _, hC⟩ := h
  have hcc : Tx_characters tc = MT_used a := hC.2.2.2.1
  obtain ⟨d1, d2, d3, d4, c, d, rfl, rfl, rfl, dS⟩ := hD
  replace d3 : Tx_used tc + k ≤ P := d3
  replace d4 : MT_written a + k ≤ P := d4
  replace dS : STR (Tx_cells tc) (MT_digits a) (Tx_used tc) (MT_written a) c d (Tx_used tc + k) (MT_written a + k) := dS
  have hw : MT_wrong a = -1 := hM.2.2.1
  obtain ⟨q1, q2, q3⟩ := hb
  unfold m_Rd_readNumber_j275 m_MT_number_j466
  by_cases cf : few = 0
  · refine q2tL cf ?_
    have bad : o_p2 (o_bd (m_Rd_refuse p (ps Rd0 P)) fun q9 => o_gd (o_zb q9.1) <| some (q9.1, cl (bgT tc 3 p x s) c (Tx_used tc + k) (Tx_characters tc), q9.2)) (m_MT_number_j479 m p (dgM (nmM a x y) d P)) (RV w L p tc a x s) := by
      unfold m_MT_number_j479
      refine q2B (rr_fail (a := dgM (nmM a x y) d P) hw b1) ?_
      rintro r r' ⟨f1, f2, f3⟩
      exact q2GL (fun _ => q2GR (fun _ => q2S (Or.inl ⟨f1, f2, f3⟩)))
    refine q2IR (fun _ => bad) (fun g1 => q2IR (fun g2 => ?_) (fun _ => bad))
    exact absurd cf (hfew.mpr ⟨by grind, g2⟩)
  · obtain ⟨k60, m3⟩ := hfew.mp cf
    have ee := hee m3
    subst ee
    refine q2fL cf (q2fR (by grind) (q2tR m3 ?_))
    refine q2L (fun q8 e8 => q2R (fun q13 e13 => q2R (fun q14 e14 => ?_)))
    have V : (MT_values a).toNatClampNeg = (Tx_total tc).toNatClampNeg := by rw [c1]
    have es : Tx_starts (cl (bgT tc 3 p x s) c (Tx_used tc + k) (Tx_characters tc)) (Tx_total tc).toNatClampNeg = Tx_used tc := o_updE
    obtain ⟨r1, r2, ex, ng, l1, l2, hex, hng, e8⟩ := rr_endN (by rw [c1]; exact c2) (by show Tx_total tc < Tx_total tc + 1; rw [c1]; grind) e8
    rw [es] at l1 l2
    have u8 : Tx_used tc + k ≤ 8192 := by grind
    have uk : Tx_used tc ≤ Tx_used tc + k := by grind
    obtain ⟨t1, t2, t3, t4⟩ := rr_b27 c7 uk u8 r1 l1
    obtain ⟨f1, f2, f3, f4⟩ := rr_b52 c7 t1 (by grind) r2 l2
    obtain ⟨s1, s2, s3, s4⟩ := rr_b488 (a := dgM (nmM a x y) d P) (W := MT_written a) rfl d1 (by grind) q13 e13
    obtain ⟨x1, x2, x6, x3, x5⟩ := rr_b516 (a := dgM (nmM a x y) d P) (W := MT_written a) rfl s1 s2 (by grind) q14 e14
    obtain ⟨S1, S2, S3, S4, S5, S6⟩ := dS
    have ek : Tx_used tc + k - Tx_used tc = k := by grind
    rw [ek] at S6
    have tr := rr_trim c7 u8 d1 (by grind) S6 (by grind) t1 t2 t3 t4 f1 f2 f3 f4 s1 s2 s3 s4 x1 x2 x3 x5
    obtain ⟨to, hto⟩ : ∃ t, t = r1.2 := ⟨_, rfl⟩
    obtain ⟨fr, hfr⟩ : ∃ t, t = r2.2 := ⟨_, rfl⟩
    obtain ⟨sk, hsk⟩ : ∃ t, t = q13.2 := ⟨_, rfl⟩
    obtain ⟨kk, hkk⟩ : ∃ t, t = q14.2.1 := ⟨_, rfl⟩
    obtain ⟨BB, hBB⟩ : ∃ t, t = q14.2.2 := ⟨_, rfl⟩
    rw [← hto] at hex hng e8 t1 t2 f2 tr
    rw [← hfr] at hex hng e8 f1 f2 tr
    rw [← hsk] at s1 s2 x1 tr
    rw [← hkk] at x1 x2 x6 tr
    rw [← hBB] at x6
    rw [← hsk, ← hkk, ← hBB]
    have mn0 : 0 ≤ kk - sk := by grind
    have mn1 : kk - sk ≤ 60 := by grind
    have sz : to - fr = kk - sk := by
      rcases tr with ⟨g1, g2⟩ | ⟨g1, g2, g3⟩
      · rw [g1, g2, Int32.sub_self, Int32.sub_self]
      · grind
    have G1 : SEG fr (Tx_used tc + k) (kk - sk) := ⟨by grind, by grind, by grind⟩
    have G2 : SEG (MT_written a + sk) (MT_written a + kk) (kk - sk) := ⟨by grind, by grind, by grind⟩
    have G3 : CEL c d fr (MT_written a + sk) (kk - sk) := by
      intro i i0 i1
      rcases tr with ⟨g1, g2⟩ | ⟨g1, g2, g3⟩
      · rw [g2, Int32.sub_self] at i1
        exact absurd (Int32.lt_of_le_of_lt i0 i1) (by first | decide | (dsimp only <;> decide))
      · have := S6 (sk + i) (by grind) (by grind)
        rw [g2]
        have a1 : Tx_used tc + (sk + i) = Tx_used tc + sk + i := by grind
        have a2 : MT_written a + (sk + i) = MT_written a + sk + i := by grind
        rw [a1, a2] at this
        exact this
    have zr : kk - sk = 0 ↔ to = fr := by
      constructor
      · intro z
        rw [z] at sz
        grind
      · intro z
        rw [← sz, z, Int32.sub_self]
    unfold m_MT_number_j549 m_MT_number_j596 m_MT_number_j613
    have upd1 : ∀ (f : Nat → Int32) (v : Int32), upd f (MT_values a).toNatClampNeg v (MT_values a).toNatClampNeg = v := fun f v => o_updE
    have outR : ∀ A : SMT, MT_letters A = MT_letters a → MT_at A = P → MT_wrong A = -1 → MT_text A = MT_text a → MT_values A = MT_values a + 1 → MT_used A = MT_used a → MT_written A = MT_written a + kk → TOP tc a x s q8 A → o_p2 (some ((1:Int32), q8, ps Rd0 P)) (some ((1:Int32), A)) (RV w L p tc a x s) := by
      intro A h1 h2 h3 h4 h5 h6 h7 hT
      refine q2S (Or.inr ⟨rfl, rfl, P, ⟨⟨hR0.1, hR0.2.1, rfl, hR0.2.2.2⟩, ⟨h1.trans hM.1, h2, h3, by rw [h4]; exact hM.2.2.2⟩, ⟨q1, q2, q3⟩, ?_⟩, hT⟩)
      rw [e8]
      refine ⟨by rw [h5]; show Tx_total tc + 1 = _; rw [c1], by rw [h5]; grind, by rw [h5]; grind, by rw [h6]; exact hcc, by rw [h6]; exact c5, by rw [h6]; exact c6, by show 0 ≤ Tx_used tc + k; grind, d3, by rw [h7]; grind, by rw [h7]; grind⟩
    refine q2GR (fun _ => q2GR (fun _ => q2GR (fun _ => ?_)))
    have eT : ∀ pw mi, ex = pw → (∀ yy : Int32, 0 ≤ yy → yy < MT_values a → mi yy.toNatClampNeg = MT_minus a yy.toNatClampNeg) → mi (MT_values a).toNatClampNeg = vp_nar .boolean ng → TOP tc a x s q8 (numM a d mi x P (kk - sk) pw (MT_written a + sk) (MT_written a + kk)) := by
      intro pw mi h1 h2 h3
      rw [e8]
      exact rr_numTop (fr := fr) (sz := to - fr) (ex := ex) (ng := ng) c1 c2 hv hM.2.1 uk (by grind) S4 S5 h2 h3 sz mn0 mn1 h1 G1 G2 G3
    have neM : ∀ yy : Int32, 0 ≤ yy → yy < MT_values a → yy.toNatClampNeg ≠ (MT_values a).toNatClampNeg := fun yy y0 y1 => o_neq y0 c2 (by grind)
    refine q2IR (fun z => ?_) (fun z => ?_)
    · have z0 : kk - sk = 0 := by rw [upd1] at z; exact z
      have tf := zr.mp z0
      refine q2GR (fun _ => q2GR (fun _ => q2tR (by show upd _ _ _ _ = (0:Int32); rw [upd1]; exact z0) (q2GR (fun _ => ?_))))
      refine outR _ rfl rfl hw rfl rfl rfl rfl (eT 0 (upd (upd (MT_minus a) (MT_values a).toNatClampNeg (vp_nar .boolean y)) (MT_values a).toNatClampNeg (vp_nar .boolean 0)) ?_ ?_ ?_)
      · rw [hex, if_pos tf]
      · intro yy y0 y1
        rw [o_updN (neM yy y0 y1), o_updN (neM yy y0 y1)]
      · rw [upd1, hng]
        by_cases cy : y = 0
        · rw [if_pos cy]
        · rw [if_neg cy, if_pos (by rw [tf]; exact Int32.le_refl _)]
    · have z0 : ¬ kk - sk = 0 := by rw [upd1] at z; exact z
      have tf : ¬ to = fr := fun t => z0 (zr.mpr t)
      refine q2GR (fun _ => q2GR (fun _ => q2fR (by show ¬ upd _ _ _ _ = (0:Int32); rw [upd1]; exact z0) ?_))
      refine outR _ rfl rfl hw rfl rfl rfl rfl (eT (e - BB) (upd (MT_minus a) (MT_values a).toNatClampNeg (vp_nar .boolean y)) ?_ ?_ ?_)
      · rw [hex, if_neg tf, x6]
        rcases tr with ⟨g1, g2⟩ | ⟨g1, g2, g3⟩
        · exact absurd g1 tf
        · rw [g1]
          show e - B + (Tx_used tc + k) - (Tx_used tc + kk) = _
          grind
      · intro yy y0 y1
        rw [o_updN (neM yy y0 y1)]
      · rw [upd1, hng]
        rcases hy with rfl | rfl
        · rw [if_pos rfl]
        · rw [if_neg (by first | decide | (dsimp only <;> decide)), if_neg (by grind)]
