/-! Strings -/
def CEL (c d : Nat → Int32) (s f k : Int32) : Prop := ∀ i : Int32, 0 ≤ i → i < k → c (s + i).toNatClampNeg = d (f + i).toNatClampNeg
abbrev cl (tc : STx) (c : Nat → Int32) (u h : Int32) : STx := Tx_mk (Tx_kinds tc) (Tx_places tc) (Tx_sizes tc) (Tx_parents tc) (Tx_exponents tc) (Tx_starts tc) (Tx_afters tc) (Tx_slots tc) (Tx_negatives tc) c (Tx_total tc) u h
abbrev chM (a : SMT) (d : Nat → Int32) (p u : Int32) : SMT := MT_mk (MT_text a) (MT_kind a) (MT_place a) (MT_many a) (MT_parent a) (MT_power a) (MT_first a) (MT_next a) (MT_name a) (MT_from a) d (MT_digits a) (MT_minus a) (MT_values a) (MT_letters a) p (MT_wrong a) u (MT_written a) (MT_left a)
def STR (c0 d0 : Nat → Int32) (u0 h0 : Int32) (c d : Nat → Int32) (u h : Int32) : Prop := u0 ≤ u ∧ h0 ≤ h ∧ u - u0 = h - h0 ∧ (∀ i : Int32, 0 ≤ i → i < u0 → c i.toNatClampNeg = c0 i.toNatClampNeg) ∧ (∀ i : Int32, 0 ≤ i → i < h0 → d i.toNatClampNeg = d0 i.toNatClampNeg) ∧ CEL c d u0 h0 (u - u0)
theorem STR_0 {c0 d0 : Nat → Int32} {u0 h0 : Int32} : STR c0 d0 u0 h0 c0 d0 u0 h0 := by
  refine ⟨Int32.le_refl _, Int32.le_refl _, ?_, fun _ _ _ => rfl, fun _ _ _ => rfl, ?_⟩
  · rw [Int32.sub_self, Int32.sub_self]
  · intro i h0 h1
    rw [Int32.sub_self] at h1
    exact absurd (Int32.lt_of_le_of_lt h0 h1) (by first | decide | (dsimp only <;> decide))
theorem rr_upE {f : Nat → Int32} {i j x : Int32} (h : i = j) : upd f j.toNatClampNeg x i.toNatClampNeg = x := by
  subst h
  exact o_updE
theorem rr_upN {f : Nat → Int32} {i j x : Int32} (h0 : 0 ≤ i) (h1 : 0 ≤ j) (h : i ≠ j) : upd f j.toNatClampNeg x i.toNatClampNeg = f i.toNatClampNeg := o_updN (o_neq h0 h1 h)
theorem STR_s {c0 d0 c d : Nat → Int32} {u0 h0 u h x : Int32} (s : STR c0 d0 u0 h0 c d u h) (a0 : 0 ≤ u0) (a1 : u < 8192) (b0 : 0 ≤ h0) (b1 : h < 8192) : STR c0 d0 u0 h0 (upd c u.toNatClampNeg x) (upd d h.toNatClampNeg x) (u + 1) (h + 1) := by
  obtain ⟨s1, s2, s3, s4, s5, s6⟩ := s
  refine ⟨by grind, by grind, by grind, ?_, ?_, ?_⟩
  · intro i i0 i1
    rw [rr_upN i0 (by grind) (by grind)]
    exact s4 i i0 i1
  · intro i i0 i1
    rw [rr_upN i0 (by grind) (by grind)]
    exact s5 i i0 i1
  · intro i i0 i1
    by_cases e : i = u - u0
    · rw [rr_upE (by grind), rr_upE (by grind)]
    · rw [rr_upN (by grind) (by grind) (by grind), rr_upN (by grind) (by grind) (by grind)]
      exact s6 i i0 (by grind)
theorem rr_addc {tc : STx} {c : Nat → Int32} {u h x : Int32} (h0 : 0 ≤ u) (h1 : u < 8192) : m_Tx_addCharacter x (cl tc c u h) = some (if 4000 ≤ h then (0, cl tc c u h) else (1, cl tc (upd c u.toNatClampNeg x) (u + 1) (h + 1))) := by
  unfold m_Tx_addCharacter
  by_cases e : 4000 ≤ h
  · rw [if_pos (show (4000:Int32) ≤ Tx_characters (cl tc c u h) from e), if_pos e]
  · rw [if_neg (show ¬ (4000:Int32) ≤ Tx_characters (cl tc c u h) from e), if_neg e, if_pos (show Tx_used (cl tc c u h) < 8192 from h1)]
    unfold o_gd
    rw [if_pos (o_inM (n := 8192) (m := 8192) rfl h0 h1)]
theorem rr_putc {a : SMT} {d : Nat → Int32} {p p' h x : Int32} (hw : MT_wrong a = -1) : ∀ r, m_MT_put x p (chM a d p' h) = some r → (h = 4000 ∧ r.1 = 0 ∧ MT_wrong r.2 = p) ∨ (h ≠ 4000 ∧ r = (1, chM a (upd d h.toNatClampNeg x) p' (h + 1))) := by
  intro r e
  unfold m_MT_put at e
  by_cases c : h = 4000
  · have e := o_tt (show MT_used (chM a d p' h) = 4000 from c) e
    obtain ⟨q, e1, e⟩ := o_bd_some e
    obtain ⟨_, e⟩ := o_gd_some e
    cases e
    obtain ⟨g1, g2⟩ := rr_bad (a := chM a d p' h) hw q e1
    exact Or.inl ⟨c, g1, g2⟩
  · have e := o_ff (show ¬ MT_used (chM a d p' h) = 4000 from c) e
    obtain ⟨_, e⟩ := o_gd_some e
    cases e
    exact Or.inr ⟨c, rfl⟩
/-- how both loops of a string end -/
def SE (L pp : Int32) (tc : STx) (Rd : SRd) (a : SMT) (q : Nat × Int32 × Int32 × STx × SRd) (q' : Nat × SMT) : Prop :=
  (q.1 = 1 ∧ q'.1 = 2 ∧ ∃ c d u h p', BP L p' ∧ p' < L ∧ pp ≤ p' ∧ u ≤ p' ∧ h ≤ 4000 ∧ STR (Tx_cells tc) (MT_characters a) (Tx_used tc) (MT_used a) c d u h ∧ q.2.2.2 = (cl tc c u h, ps Rd p') ∧ q'.2 = chM a d p' h)
  ∨ (q.1 = 2 ∧ q'.1 = 1 ∧ Rd_wrongPlace q.2.2.2.2 = MT_at q'.2 ∧ MT_wrong q'.2 = -1 ∧ 0 ≤ MT_at q'.2)
  ∨ (q.1 = 2 ∧ q'.1 ≠ 1 ∧ q'.1 ≠ 2 ∧ FL q.2.2.2.2 q'.2)
  ∨ (q.1 = 3 ∧ q'.1 ≠ 1 ∧ q'.1 ≠ 2 ∧ q.2.2.1 = MT_wrong q'.2 ∧ 0 ≤ MT_wrong q'.2)
/-- a step's end: both put the character that was read -/
theorem rr_j73 {n x1 : Int32} {nn : Nat} {w : Nat → Int32} {L pp p' p2 : Int32} {tc : STx} {Rd : SRd} {a : SMT} {c d : Nat → Int32} {u h i y : Int32} {r' : Int32 × SMT} {kf : Nat}
    (hU0 : 0 ≤ Tx_used tc) (hH0 : 0 ≤ MT_used a) (hw : MT_wrong a = -1) (hb : BP L p') (hb2 : BP L p2) (hpp : pp ≤ p') (hp2 : p' < p2) (hi : i ≤ p') (hi0 : 0 ≤ i) (hu : u ≤ p') (hh : h ≤ 4000) (hS : STR (Tx_cells tc) (MT_characters a) (Tx_used tc) (MT_used a) c d u h) (hy : y ≠ -1) (hput : m_MT_put y p' (chM a d p2 h) = some r') (hkf : kf ≠ 0 ∧ kf ≠ 1 ∧ kf ≠ 2) {a2 : SMT} (ha2 : r'.1 ≠ 0 → a2 = r'.2) (I : Int32 × Int32 × STx × SRd → SMT → Prop) (hI : I = fun z z' => ∃ i x4 c d u h p', z = (i, x4, cl tc c u h, ps Rd p') ∧ z' = chM a d p' h ∧ BP L p' ∧ pp ≤ p' ∧ 0 ≤ i ∧ i ≤ p' ∧ u ≤ p' ∧ h ≤ 4000 ∧ STR (Tx_cells tc) (MT_characters a) (Tx_used tc) (MT_used a) c d u h) (g : Int32 × Int32 × STx × SRd → Option (Nat × Int32 × Int32 × STx × SRd)) :
    o_p2 (m_Rd_readString_j73 nn x1 i p' y (cl tc c u h) (ps Rd p2)) (if r'.1 = 0 then some (kf, r'.2) else some (0, a2)) (fun q q' => (q.1 = 0 ∧ q'.1 = 0 ∧ I q.2 q'.2) ∨ (q.1 ≠ 0 ∧ q'.1 ≠ 0 ∧ SE L pp tc Rd a q q') ∨ (q.1 = 0 ∧ q'.1 ≠ 0 ∧ ∀ m r, o_lp m g q.2 = some r → SE L pp tc Rd a r q')) := by
  obtain ⟨b1, b2, b3⟩ := hb
  obtain ⟨b4, b5, b6⟩ := hb2
  have hu0 : 0 ≤ u := by have := hS.1; grind
  have hu1 : u < 8192 := by grind
  unfold m_Rd_readString_j73
  refine q2fL hy (q2Le (rr_addc hu0 hu1) ?_)
  rcases rr_putc hw r' hput with ⟨g1, g2, g3⟩ | ⟨g1, g2⟩
  · rw [if_pos (show 4000 ≤ h by rw [g1]; first | decide | (dsimp only <;> decide))]
    refine q2tL rfl (q2tR g2 (q2S (Or.inr (Or.inl ⟨by first | decide | (dsimp only <;> decide), hkf.1, Or.inr (Or.inr (Or.inr ⟨rfl, hkf.2.1, hkf.2.2, g3.symm, ?_⟩))⟩))))
    show 0 ≤ MT_wrong r'.2
    rw [g3]
    exact b1
  · rw [if_neg (show ¬ 4000 ≤ h by grind)]
    have h1 : ¬ r'.1 = 0 := by rw [g2]; first | decide | (dsimp only <;> decide)
    refine q2fL (by first | decide | (dsimp only <;> decide)) (q2fR h1 (q2NL (q2S (Or.inl ⟨rfl, rfl, ?_⟩))))
    rw [hI]
    refine ⟨i + 1, p', upd c u.toNatClampNeg y, upd d h.toNatClampNeg y, u + 1, h + 1, p2, rfl, ?_, ⟨b4, b5, b6⟩, by grind, by grind, by grind, by grind, by grind, STR_s hS hU0 hu1 hH0 (by grind)⟩
    show a2 = _
    rw [ha2 h1, g2]
theorem rr_strL {n m : Nat} {x1 x2 : Int32} {w : Nat → Int32} {L p : Int32} {tc : STx} {Rd : SRd} {a : SMT} (hR : RdOK w L p Rd) (hM : MtOK w L p a) (hb : BP L p) (hU0 : 0 ≤ Tx_used tc) (hU1 : Tx_used tc ≤ p) (hC : Tx_characters tc = MT_used a) (hH0 : 0 ≤ MT_used a) (hH1 : MT_used a ≤ 4000) :
    o_p2 (o_lp n (m_Rd_readString_b12 n x1) ((0:Int32), (0:Int32), tc, Rd)) (o_lp m (m_MT_string_b27 m x2) a) (SE L p tc Rd a) := by
  have hw : MT_wrong a = -1 := hM.2.2.1
  obtain ⟨I, hI⟩ : ∃ I : Int32 × Int32 × STx × SRd → SMT → Prop, I = fun z z' => ∃ i x4 c d u h p', z = (i, x4, cl tc c u h, ps Rd p') ∧ z' = chM a d p' h ∧ BP L p' ∧ p ≤ p' ∧ 0 ≤ i ∧ i ≤ p' ∧ u ≤ p' ∧ h ≤ 4000 ∧ STR (Tx_cells tc) (MT_characters a) (Tx_used tc) (MT_used a) c d u h := ⟨_, rfl⟩
  refine q2lp I ?_ n m _ _ ?_
  · intro z z' hz
    have hz := hz
    rw [hI] at hz
    obtain ⟨i, x4, c, d, u, h, p', rfl, rfl, b1, b2, b3, b4, b5, b6, b7⟩ := hz
    have k1 : m_Rd_peek (ps Rd p') = some (PK w L p') := rr_peek (RdOK_ps hR) b1
    have hM' : MtOK w L p' (chM a d p' h) := ⟨hM.1, rfl, hw, hM.2.2.2⟩
    have k2 : m_MT_c (MT_at (chM a d p' h)) (chM a d p' h) = some (PK w L p') := rr_c hM' b1.1 b1.2.2
    unfold m_Rd_readString_b12 m_MT_string_b27
    refine q2fL (show ¬ (8192:Int32) < i by have := b1.2.1; have := b1.2.2; grind) (q2Le k1 (q2Re k2 (q2NR ?_)))
    by_cases e34 : PK w L p' = 34
    · refine q2tL e34 (q2tR (by rw [e34]; first | decide | (dsimp only <;> decide)) (q2tR e34 (q2S (Or.inr (Or.inl ⟨Nat.succ_ne_zero _, Nat.succ_ne_zero _, Or.inl ⟨rfl, rfl, c, d, u, h, p', b1, ?_, b2, b5, b6, b7, rfl, rfl⟩⟩)))))
      exact PK_lt (w := w) (by rw [e34]; first | decide | (dsimp only <;> decide))
    refine q2fL e34 (q2NL ?_)
    by_cases e92 : PK w L p' = 92
    · have hp : p' < L := PK_lt (w := w) (by rw [e92]; first | decide | (dsimp only <;> decide))
      refine q2tL e92 (q2tR (by rw [e92]; first | decide | (dsimp only <;> decide)) (q2fR e34 (q2tR e92 (q2B (rr_escape (RdOK_ps (p' := p') hR) hM' b1 hp) ?_))))
      rintro r r' (⟨f1, f2, f3⟩ | ⟨f1, p2, f2, f3, f4, f5⟩)
      · unfold m_Rd_readString_j73
        exact q2tL f1 (q2tR f2 (q2S (Or.inr (Or.inl ⟨Nat.succ_ne_zero _, Nat.succ_ne_zero _, Or.inr (Or.inr (Or.inl ⟨rfl, by first | decide | (dsimp only <;> decide), by first | decide | (dsimp only <;> decide), f3⟩))⟩))))
      · rw [f4]
        exact rr_j73 (n := 0) (w := w) hU0 hH0 hw b1 f2 b2 f3 b4 b3 b5 b6 b7 f1 f5 ⟨by first | decide | (dsimp only <;> decide), by first | decide | (dsimp only <;> decide), by first | decide | (dsimp only <;> decide)⟩ (fun _ => rfl) I hI _
    refine q2fL e92 (q2IR (fun c32 => ?_) (fun c32 => ?_))
    · refine q2fR e34 (q2fR e92 (q2IR (fun c128 => ?_) (fun c128 => ?_)))
      · refine q2B (rr_wide (RdOK_ps (p' := p') hR) hM' b1 c128) ?_
        rintro r r' (⟨f1, f2, f3⟩ | ⟨f1, p2, f2, f3, f4, f5⟩)
        · unfold m_Rd_readString_j73
          exact q2tL f1 (q2tR f2 (q2S (Or.inr (Or.inl ⟨Nat.succ_ne_zero _, Nat.succ_ne_zero _, Or.inr (Or.inr (Or.inl ⟨rfl, by first | decide | (dsimp only <;> decide), by first | decide | (dsimp only <;> decide), f3⟩))⟩))))
        · rw [f4]
          exact rr_j73 (n := 0) (w := w) hU0 hH0 hw b1 f2 b2 f3 b4 b3 b5 b6 b7 f1 f5 ⟨by first | decide | (dsimp only <;> decide), by first | decide | (dsimp only <;> decide), by first | decide | (dsimp only <;> decide)⟩ (fun _ => rfl) I hI _
      · refine q2L (fun r e => ?_)
        have er := rr_ascii (RdOK_ps (p' := p') hR) b1 c32 (by grind) r e
        subst er
        have hp : p' < L := PK_lt (w := w) (by intro e; rw [e] at c32; exact absurd c32 (by first | decide | (dsimp only <;> decide)))
        refine q2R (fun r' e' => ?_)
        have e2 : ∃ r2, m_MT_put (PK w L p') p' (chM a d (p' + 1) h) = some r2 ∧ r2.1 = r'.1 ∧ (r'.1 ≠ 0 → atM r'.2 (MT_at r'.2 + 1) = r2.2) ∧ MT_wrong r2.2 = MT_wrong r'.2 := by
          rcases rr_putc hw r' e' with ⟨g1, g2, g3⟩ | ⟨g1, g2⟩
          · unfold m_MT_put at e' ⊢
            have e' := o_tt (show MT_used (chM a d p' h) = 4000 from g1) e'
            rw [if_pos (show MT_used (chM a d (p' + 1) h) = 4000 from g1)]
            unfold m_MT_bad
            rw [if_neg (show ¬ 0 ≤ MT_wrong (chM a d (p' + 1) h) by show ¬ 0 ≤ MT_wrong a; rw [hw]; first | decide | (dsimp only <;> decide))]
            exact ⟨_, rfl, g2.symm, fun h => absurd g2 h, g3.symm⟩
          · unfold m_MT_put at e' ⊢
            have e' := o_ff (show ¬ MT_used (chM a d p' h) = 4000 from g1) e'
            obtain ⟨gd, e'⟩ := o_gd_some e'
            rw [if_neg (show ¬ MT_used (chM a d (p' + 1) h) = 4000 from g1)]
            unfold o_gd
            rw [if_pos (show o_in (MT_used (chM a d (p' + 1) h)) 4000 = true from gd)]
            rw [g2]
            exact ⟨_, rfl, rfl, fun _ => rfl, rfl⟩
        obtain ⟨r2, s1, s2, s3, s4⟩ := e2
        have key := rr_j73 (n := 0) (w := w) (nn := n) (x1 := x1) (kf := 4) hU0 hH0 hw b1 (BP_1 b1 hp) b2 (show p' < p' + 1 by have := b1.1; have := b1.2.2; grind) b4 b3 b5 b6 b7 (show PK w L p' ≠ -1 by grind) s1 ⟨by first | decide | (dsimp only <;> decide), by first | decide | (dsimp only <;> decide), by first | decide | (dsimp only <;> decide)⟩ (a2 := atM r'.2 (MT_at r'.2 + 1)) (fun h => s3 (by rw [← s2]; exact h)) I hI (m_Rd_readString_b12 n x1)
        by_cases z : r'.1 = 0
        · rw [if_pos (s2.trans z)] at key
          rw [if_pos z]
          intro q q' t1 t2
          cases t2
          rcases key q (4, r2.2) t1 rfl with ⟨_, k, _⟩ | ⟨k1, k2, k3⟩ | ⟨_, _, k3⟩
          · exact absurd k (by first | decide | (dsimp only <;> decide))
          · refine Or.inr (Or.inl ⟨k1, by first | decide | (dsimp only <;> decide), ?_⟩)
            rcases k3 with ⟨_, x, _⟩ | ⟨_, x, _⟩ | ⟨x1, x2, x3, x4, x5⟩ | ⟨x1, x2, x3, x4, x5⟩
            · exact absurd x (by first | decide | (dsimp only <;> decide))
            · exact absurd x (by first | decide | (dsimp only <;> decide))
            · exact Or.inr (Or.inr (Or.inl ⟨x1, by first | decide | (dsimp only <;> decide), by first | decide | (dsimp only <;> decide), x4.trans s4, by rw [← s4]; exact x5⟩))
            · exact Or.inr (Or.inr (Or.inr ⟨x1, by first | decide | (dsimp only <;> decide), by first | decide | (dsimp only <;> decide), x4.trans s4, by rw [← s4]; exact x5⟩))
          · refine Or.inr (Or.inr ⟨by assumption, by first | decide | (dsimp only <;> decide), fun mm rr ee => ?_⟩)
            rcases k3 mm rr ee with ⟨_, x, _⟩ | ⟨_, x, _⟩ | ⟨x1, x2, x3, x4, x5⟩ | ⟨x1, x2, x3, x4, x5⟩
            · exact absurd x (by first | decide | (dsimp only <;> decide))
            · exact absurd x (by first | decide | (dsimp only <;> decide))
            · exact Or.inr (Or.inr (Or.inl ⟨x1, by first | decide | (dsimp only <;> decide), by first | decide | (dsimp only <;> decide), x4.trans s4, by rw [← s4]; exact x5⟩))
            · exact Or.inr (Or.inr (Or.inr ⟨x1, by first | decide | (dsimp only <;> decide), by first | decide | (dsimp only <;> decide), x4.trans s4, by rw [← s4]; exact x5⟩))
        · rw [if_neg (fun t => z (s2.symm.trans t))] at key
          rw [if_neg z]
          exact key
    · refine q2L (fun r e => ?_)
      obtain ⟨f1, f2⟩ := rr_ctl (RdOK_ps (p' := p') hR) b1 (by grind) r e
      unfold m_Rd_readString_j73
      exact q2tL f1 (q2S (Or.inr (Or.inl ⟨Nat.succ_ne_zero _, Nat.succ_ne_zero _, Or.inr (Or.inl ⟨rfl, rfl, f2, hw, b1.1⟩)⟩)))
  · rw [hI]
    refine ⟨0, 0, Tx_cells tc, MT_characters a, Tx_used tc, MT_used a, p, ?_, ?_, hb, Int32.le_refl _, by first | decide | (dsimp only <;> decide), hb.1, hU1, hH1, STR_0⟩
    · rw [← hC, ← hR.2.2.1]
    · rw [← hM.2.1]
