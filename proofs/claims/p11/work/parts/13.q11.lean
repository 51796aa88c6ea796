/-! Arrays and objects: the children -/
theorem KID_lk {tc : STx} {a a' : SMT} {y V m o : Int32} {cs : Int32 → Int32} (hy : 0 ≤ y) (hy1 : y ≤ 1000) (hV : V ≠ y) (ho : o = 0 ∨ o = 1) (hn : ∀ z : Int32, 0 ≤ z → Tx_parents tc z.toNatClampNeg ≠ V → MT_next a' z.toNatClampNeg = MT_next a z.toNatClampNeg ∧ MT_name a' z.toNatClampNeg = MT_name a z.toNatClampNeg) (hT : Tx_total tc ≤ 1000) (h : KID tc a y m o cs) : KID tc a' y m o cs := by
  intro i i0 i1
  obtain ⟨h1, h2, h3, h4, h5, h6, h7⟩ := h i i0 i1
  have c0 : 0 ≤ cs i := by rcases ho with rfl | rfl <;> grind
  obtain ⟨g1, g2⟩ := hn (cs i) c0 (by rw [h3]; exact fun e => hV e.symm)
  refine ⟨h1, h2, h3, h4, ?_, g1.trans h6, h7⟩
  intro e
  obtain ⟨k1, k2⟩ := h5 e
  exact ⟨g2.trans k1, k2⟩
theorem NODE_lk {tc : STx} {a a' : SMT} {y V : Int32} (hV : 0 ≤ V) (hy : V < y) (hy1 : y ≤ 1000) (hT : Tx_total tc ≤ 1000) (e1 : MT_kind a' = MT_kind a) (e2 : MT_place a' = MT_place a) (e3 : MT_parent a' = MT_parent a) (e4 : MT_power a' = MT_power a) (e5 : MT_from a' = MT_from a) (e6 : MT_characters a' = MT_characters a) (e7 : MT_digits a' = MT_digits a) (e8 : MT_minus a' = MT_minus a) (e9 : MT_used a' = MT_used a) (e10 : MT_written a' = MT_written a)
    (hm : ∀ z : Int32, 0 ≤ z → z ≠ V → MT_many a' z.toNatClampNeg = MT_many a z.toNatClampNeg ∧ MT_first a' z.toNatClampNeg = MT_first a z.toNatClampNeg) (hn : ∀ z : Int32, 0 ≤ z → Tx_parents tc z.toNatClampNeg ≠ V → MT_next a' z.toNatClampNeg = MT_next a z.toNatClampNeg ∧ MT_name a' z.toNatClampNeg = MT_name a z.toNatClampNeg) (h : NODE tc a y) : NODE tc a' y := by
  obtain ⟨⟨s1, s2, s3, s4, s5, s6⟩, h2, h3, h4, h5, h6, h7, h8⟩ := h
  have y0 : 0 ≤ y := by grind
  obtain ⟨m1, m2⟩ := hm y y0 (by grind)
  have kin : ∀ mm o, (o = 0 ∨ o = 1) → KIN tc a y mm o → KIN tc a' y mm o := by
    rintro mm o ho ⟨g1, g2, cs, g3, g4, g5⟩
    exact ⟨g1, g2, cs, g3, m2.trans g4, KID_lk y0 hy1 (by grind) ho hn hT g5⟩
  refine ⟨⟨?_, ?_, ?_, ?_, ?_, ?_⟩, ?_, ?_, ?_, ?_, ?_, ?_, ?_⟩
  · rw [e1]; exact s1
  · rw [e1]; exact s2
  · rw [e1]; exact s3
  · rw [e2]; exact s4
  · rw [e3]; exact s5
  · rw [e4]; exact s6
  · rw [m1]; exact h2
  · rw [m1]; exact h3
  · rw [e1, m1]; exact h4
  · rw [e1]
    intro e
    unfold NUM
    rw [e5, e7, e8, e10]
    exact h5 e
  · rw [e1]
    intro e
    unfold STN
    rw [e5, e6, e9]
    exact h6 e
  · rw [e1, m1]
    exact fun e => kin _ _ (Or.inl rfl) (h7 e)
  · rw [e1, m1]
    exact fun e => kin _ _ (Or.inr rfl) (h8 e)
theorem NODE_up {tc tc' : STx} {a : SMT} {y V : Int32} (hV : 0 ≤ V) (hy : V < y) (hy1 : y ≤ 1000) (hT : Tx_total tc ≤ 1000) (e1 : Tx_kinds tc' = Tx_kinds tc) (e2 : Tx_places tc' = Tx_places tc) (e3 : Tx_parents tc' = Tx_parents tc) (e4 : Tx_exponents tc' = Tx_exponents tc) (e5 : Tx_starts tc' = Tx_starts tc) (e6 : Tx_cells tc' = Tx_cells tc) (e7 : Tx_slots tc' = Tx_slots tc) (e8 : Tx_negatives tc' = Tx_negatives tc) (e9 : Tx_used tc' = Tx_used tc) (e10 : Tx_total tc' = Tx_total tc)
    (hm : ∀ z : Int32, 0 ≤ z → z ≠ V → Tx_sizes tc' z.toNatClampNeg = Tx_sizes tc z.toNatClampNeg ∧ Tx_afters tc' z.toNatClampNeg = Tx_afters tc z.toNatClampNeg) (h : NODE tc a y) : NODE tc' a y := by
  obtain ⟨⟨s1, s2, s3, s4, s5, s6⟩, h2, h3, h4, h5, h6, h7, h8⟩ := h
  have y0 : 0 ≤ y := by grind
  obtain ⟨m1, m2⟩ := hm y y0 (by grind)
  have kin : ∀ mm o, (o = 0 ∨ o = 1) → KIN tc a y mm o → KIN tc' a y mm o := by
    rintro mm o ho ⟨g1, g2, cs, g3, g4, g5⟩
    refine ⟨g1, g2, cs, g3, g4, ?_⟩
    intro i i0 i1
    obtain ⟨k1, k2, k3, k4, k5, k6, k7⟩ := g5 i i0 i1
    have c0 : 0 ≤ cs i := by rcases ho with rfl | rfl <;> grind
    have cv : cs i ≠ V := by rcases ho with rfl | rfl <;> grind
    refine ⟨k1, by rw [e10]; exact k2, by rw [e3]; exact k3, by rw [e7]; exact k4, by rw [e1]; exact k5, k6, ?_⟩
    rw [(hm (cs i) c0 cv).2]
    exact k7
  refine ⟨⟨?_, s2, s3, ?_, ?_, ?_⟩, ?_, h3, h4, ?_, ?_, fun e => kin _ _ (Or.inl rfl) (h7 e), fun e => kin _ _ (Or.inr rfl) (h8 e)⟩
  · rw [e1]; exact s1
  · rw [e2]; exact s4
  · rw [e3]; exact s5
  · rw [e4]; exact s6
  · rw [m1]; exact h2
  · intro e
    unfold NUM
    rw [e5, e6, e8, e9, m1]
    exact h5 e
  · intro e
    unfold STN
    rw [e5, e6, e9, m1]
    exact h6 e
/-- an array (o = 0) or an object (o = 1) with k children so far -/
def LIr (w : Nat → Int32) (L : Int32) (tc0 : STx) (a0 : SMT) (x s o k last p : Int32) (tc : STx) (Rd : SRd) (a : SMT) : Prop :=
  RO w L p tc Rd a ∧ MT_values a0 < MT_values a ∧ 0 ≤ MT_values a0 ∧ CF (MT_values a0) tc0 tc ∧ MF (MT_values a0) a0 a ∧ NR (MT_values a0 + 1) tc a ∧ SCA tc a (MT_values a0).toNatClampNeg ∧ MT_kind a (MT_values a0).toNatClampNeg = 5 + o ∧ Tx_slots tc (MT_values a0).toNatClampNeg = s ∧ Tx_parents tc (MT_values a0).toNatClampNeg = x ∧ MT_next a (MT_values a0).toNatClampNeg = -1 ∧ MT_name a (MT_values a0).toNatClampNeg = -1 ∧ MT_many a (MT_values a0).toNatClampNeg = k ∧ 0 ≤ k ∧ k ≤ 60 ∧ ∃ cs : Int32 → Int32, cs 0 = MT_values a0 + 1 + o ∧ MT_first a (MT_values a0).toNatClampNeg = (if 0 < k then cs 0 else -1) ∧ KID tc a (MT_values a0) k o cs ∧ (k = 0 → last = -1 ∧ MT_values a = MT_values a0 + 1) ∧ (0 < k → last = cs (k - 1) ∧ Tx_afters tc last.toNatClampNeg = MT_values a)
theorem LIr_mv {w : Nat → Int32} {L x s o k last p p' : Int32} {tc0 tc : STx} {a0 a : SMT} {Rd Rd' : SRd} (h : LIr w L tc0 a0 x s o k last p tc Rd a) (hr : RO w L p' tc Rd' (atM a p')) : LIr w L tc0 a0 x s o k last p' tc Rd' (atM a p') := by
  obtain ⟨h1, h2, h3, h4, h5, h6, h7, h8, h9, h10, h11, h12, h13, h14, h15, cs, h16, h17, h18, h19, h20⟩ := h
  refine ⟨hr, h2, h3, h4, h5, ?_, h7, h8, h9, h10, h11, h12, h13, h14, h15, cs, h16, h17, h18, h19, h20⟩
  exact h6
/-- closed: the node is as any other -/
theorem LIr_end {w : Nat → Int32} {L x s o k last p : Int32} {tc0 tc : STx} {a0 a : SMT} {Rd : SRd} (h : LIr w L tc0 a0 x s o k last p tc Rd a) (ho : o = 0 ∨ o = 1) (hs : Tx_sizes tc (MT_values a0).toNatClampNeg = k) (haf : Tx_afters tc (MT_values a0).toNatClampNeg = Tx_total tc) : TOP tc0 a0 x s tc a := by
  obtain ⟨h1, h2, h3, h4, h5, h6, h7, h8, h9, h10, h11, h12, h13, h14, h15, cs, h16, h17, h18, h19, h20⟩ := h
  refine ⟨h2, h4, h5, ?_, h9, h10, haf, h11, h12⟩
  intro y y0 y1
  by_cases e : y = MT_values a0
  · subst e
    have kin : KIN tc a (MT_values a0) (MT_many a (MT_values a0).toNatClampNeg) o := by
      rw [h13]
      exact ⟨h14, h15, cs, h16, h17, h18⟩
    refine ⟨h7, hs.trans h13.symm, by rw [h13]; exact h14, ?_, ?_, ?_, ?_, ?_⟩
    · rw [h8]; intro z; rcases ho with rfl | rfl <;> exact absurd z (by first | decide | (dsimp only <;> decide))
    · rw [h8]; intro z; rcases ho with rfl | rfl <;> exact absurd z (by first | decide | (dsimp only <;> decide))
    · rw [h8]; intro z; rcases ho with rfl | rfl <;> exact absurd z (by first | decide | (dsimp only <;> decide))
    · rw [h8]; intro z
      rcases ho with rfl | rfl
      · exact kin
      · exact absurd z (by first | decide | (dsimp only <;> decide))
    · rw [h8]; intro z
      rcases ho with rfl | rfl
      · exact absurd z (by first | decide | (dsimp only <;> decide))
      · exact kin
  · obtain ⟨b1, b2, b3, c1, c2, c3, _⟩ := RO_v h1
    exact h6 y (by rw [c1] at y1; grind) y1
/-- endParent -/
abbrev epT (tc : STx) (v k : Int32) : STx := Tx_mk (Tx_kinds tc) (Tx_places tc) (upd (Tx_sizes tc) v.toNatClampNeg k) (Tx_parents tc) (Tx_exponents tc) (Tx_starts tc) (upd (Tx_afters tc) v.toNatClampNeg (Tx_total tc)) (Tx_slots tc) (Tx_negatives tc) (Tx_cells tc) (Tx_total tc) (Tx_used tc) (Tx_characters tc)
theorem rr_endP {v k : Int32} {tc r : STx} (h0 : 0 ≤ v) (h1 : v < Tx_total tc) (e : m_Tx_endParent v k tc = some r) : r = epT tc v k := by
  unfold m_Tx_endParent at e
  have e := o_ff (show ¬ v < 0 by grind) e
  have e := o_ff (show ¬ Tx_total tc ≤ v by grind) e
  have e := (o_gd_some (o_gd_some e).2).2
  cases e
  rfl
theorem LIr_ep {w : Nat → Int32} {L x s o k last p kk : Int32} {tc0 tc : STx} {a0 a : SMT} {Rd : SRd} (h : LIr w L tc0 a0 x s o k last p tc Rd a) (ho : o = 0 ∨ o = 1) : LIr w L tc0 a0 x s o k last p (epT tc (MT_values a0) kk) Rd a := by
  obtain ⟨h1, h2, h3, h4, h5, h6, h7, h8, h9, h10, h11, h12, h13, h14, h15, cs, h16, h17, h18, h19, h20⟩ := h
  obtain ⟨b1, b2, b3, c1, c2, c3, _⟩ := RO_v h1
  have ne : ∀ z : Int32, 0 ≤ z → z ≠ MT_values a0 → z.toNatClampNeg ≠ (MT_values a0).toNatClampNeg := fun z z0 z1 => o_neq z0 h3 z1
  have V10 : MT_values a0 < 1000 := by grind
  refine ⟨⟨h1.1, h1.2.1, h1.2.2.1, h1.2.2.2⟩, h2, h3, ?_, h5, ?_, h7, h8, h9, h10, h11, h12, h13, h14, h15, cs, h16, h17, ?_, h19, ?_⟩
  · refine CF_trans h4 (lo' := MT_values a0) ⟨Int32.le_refl _, Int32.le_refl _, fun _ _ _ => rfl, fun y y0 y1 => ?_⟩ (Int32.le_refl _)
    have n := ne y y0 (by grind)
    exact ⟨rfl, rfl, o_updN n, rfl, rfl, rfl, o_updN n, rfl, rfl⟩
  · intro y y0 y1
    refine NODE_up (tc := tc) h3 (by grind) (by replace y1 : y < Tx_total tc := y1; rw [c1] at y1; grind) (by rw [c1]; exact c3) rfl rfl rfl rfl rfl rfl rfl rfl rfl rfl (fun z z0 z1 => ⟨o_updN (ne z z0 z1), o_updN (ne z z0 z1)⟩) (h6 y y0 y1)
  · intro i i0 i1
    obtain ⟨k1, k2, k3, k4, k5, k6, k7⟩ := h18 i i0 i1
    have c0 : 0 ≤ cs i := by rcases ho with rfl | rfl <;> grind
    have cv : cs i ≠ MT_values a0 := by rcases ho with rfl | rfl <;> grind
    refine ⟨k1, k2, k3, k4, k5, k6, fun z => ?_⟩
    have := k7 z
    rw [this]
    show _ = upd _ _ _ _ + o
    rw [o_updN (ne (cs i) c0 cv)]
  · intro z
    obtain ⟨l1, l2⟩ := h20 z
    obtain ⟨k1, k2, k3, k4, k5, k6, k7⟩ := h18 (k - 1) (by grind) (by grind)
    have c0 : 0 ≤ last := by rw [l1]; rcases ho with rfl | rfl <;> grind
    have cv : last ≠ MT_values a0 := by rw [l1]; rcases ho with rfl | rfl <;> grind
    refine ⟨l1, ?_⟩
    show upd _ _ _ _ = _
    rw [o_updN (ne last c0 cv)]
    exact l2
/-- a child is hung in -/
theorem LIr_step {w : Nat → Int32} {L x s o k last p p1 wd : Int32} {tc0 tc tc1 : STx} {a0 a a1 a2 : SMT} {Rd Rd1 : SRd} (h : LIr w L tc0 a0 x s o k last p tc Rd a) (ho : o = 0 ∨ o = 1) (hk : k < 60)
    (hr : RO w L p1 tc1 Rd1 a1) (hw : wd = MT_values a + o) (hw1 : wd < MT_values a1) (hC : CF (MT_values a) tc tc1) (hM : MF (MT_values a) a a1) (hN : NR (MT_values a) tc1 a1) (hsl : Tx_slots tc1 wd.toNatClampNeg = k) (hpa : Tx_parents tc1 wd.toNatClampNeg = MT_values a0) (haf : Tx_afters tc1 wd.toNatClampNeg = Tx_total tc1) (hnx : MT_next a1 wd.toNatClampNeg = -1) (hn4 : o = 1 → Tx_kinds tc1 (wd - 1).toNatClampNeg = 4)
    (e0 : MT_text a2 = MT_text a1) (e1 : MT_kind a2 = MT_kind a1) (e2 : MT_place a2 = MT_place a1) (e3 : MT_parent a2 = MT_parent a1) (e4 : MT_power a2 = MT_power a1) (e5 : MT_from a2 = MT_from a1) (e6 : MT_characters a2 = MT_characters a1) (e7 : MT_digits a2 = MT_digits a1) (e8 : MT_minus a2 = MT_minus a1) (e9 : MT_used a2 = MT_used a1) (e10 : MT_written a2 = MT_written a1) (e11 : MT_values a2 = MT_values a1) (e12 : MT_letters a2 = MT_letters a1) (e13 : MT_at a2 = MT_at a1) (e14 : MT_wrong a2 = MT_wrong a1)
    (f1 : MT_many a2 = upd (MT_many a1) (MT_values a0).toNatClampNeg (MT_many a1 (MT_values a0).toNatClampNeg + 1)) (f2 : (0 ≤ last ∧ MT_first a2 = MT_first a1 ∧ MT_next a2 = upd (MT_next a1) last.toNatClampNeg wd) ∨ (last < 0 ∧ MT_first a2 = upd (MT_first a1) (MT_values a0).toNatClampNeg wd ∧ MT_next a2 = MT_next a1)) (f3 : (o = 0 ∧ MT_name a2 = MT_name a1) ∨ (o = 1 ∧ MT_name a2 = upd (MT_name a1) wd.toNatClampNeg (wd - 1))) :
    LIr w L tc0 a0 x s o (k + 1) wd p1 tc1 Rd1 a2 := by
  obtain ⟨h1, h2, h3, h4, h5, h6, h7, h8, h9, h10, h11, h12, h13, h14, h15, cs, h16, h17, h18, h19, h20⟩ := h
  obtain ⟨b1, b2, b3, c1, c2, c3, c5, c6, c7, c8, c9, c10⟩ := RO_v h1
  obtain ⟨B1, B2, B3, C1, C2, C3, C5, C6, C7, C8, C9, C10⟩ := RO_v hr
  have ne : ∀ z v : Int32, 0 ≤ z → 0 ≤ v → z ≠ v → z.toNatClampNeg ≠ v.toNatClampNeg := fun z v z0 v0 z1 => o_neq z0 v0 z1
  have w0 : 0 ≤ wd := by rcases ho with rfl | rfl <;> grind
  have wge : MT_values a ≤ wd := by rcases ho with rfl | rfl <;> grind
  have l0 : 0 < k → 0 ≤ last ∧ MT_values a0 < last ∧ last < MT_values a ∧ Tx_parents tc last.toNatClampNeg = MT_values a0 := by
    intro z
    obtain ⟨l1, l2⟩ := h20 z
    obtain ⟨k1, k2, k3, k4, k5, k6, k7⟩ := h18 (k - 1) (by grind) (by grind)
    rw [l1]
    refine ⟨by rcases ho with rfl | rfl <;> grind, by rcases ho with rfl | rfl <;> grind, by rw [← c1]; exact k2, k3⟩
  have lk : (0 ≤ last ↔ 0 < k) := by
    constructor
    · intro z
      by_cases e : k = 0
      · rw [(h19 e).1] at z
        exact absurd z (by first | decide | (dsimp only <;> decide))
      · grind
    · exact fun z => (l0 z).1
  have fV := hC.2.2.2 (MT_values a0) h3 h2
  have gV := hM.2.2.2.2 (MT_values a0) h3 h2
  have wV : wd ≠ MT_values a0 := by grind
  have m1 : MT_many a1 (MT_values a0).toNatClampNeg = k := gV.2.2.1.trans h13
  have lpar : 0 ≤ last → Tx_parents tc1 last.toNatClampNeg = MT_values a0 := by
    intro z
    obtain ⟨q1, q2, q3, q4⟩ := l0 (lk.mp z)
    rw [(hC.2.2.2 last q1 q3).2.2.2.1]
    exact q4
  have hnn : ∀ z : Int32, 0 ≤ z → (0 ≤ last → z ≠ last) → MT_next a2 z.toNatClampNeg = MT_next a1 z.toNatClampNeg := by
    intro z z0 z1
    rcases f2 with ⟨g1, g2, g3⟩ | ⟨g1, g2, g3⟩
    · rw [g3, o_updN (ne z last z0 g1 (z1 g1))]
    · rw [g3]
  have hnm : ∀ z : Int32, 0 ≤ z → z ≠ wd → MT_name a2 z.toNatClampNeg = MT_name a1 z.toNatClampNeg := by
    intro z z0 z1
    rcases f3 with ⟨_, g⟩ | ⟨_, g⟩
    · rw [g]
    · rw [g, o_updN (ne z wd z0 w0 z1)]
  have hmf : ∀ z : Int32, 0 ≤ z → z ≠ MT_values a0 → MT_many a2 z.toNatClampNeg = MT_many a1 z.toNatClampNeg ∧ MT_first a2 z.toNatClampNeg = MT_first a1 z.toNatClampNeg := by
    intro z z0 z1
    refine ⟨by rw [f1, o_updN (ne z _ z0 h3 z1)], ?_⟩
    rcases f2 with ⟨g1, g2, g3⟩ | ⟨g1, g2, g3⟩
    · rw [g2]
    · rw [g2, o_updN (ne z _ z0 h3 z1)]
  have hpn : ∀ z : Int32, 0 ≤ z → Tx_parents tc1 z.toNatClampNeg ≠ MT_values a0 → MT_next a2 z.toNatClampNeg = MT_next a1 z.toNatClampNeg ∧ MT_name a2 z.toNatClampNeg = MT_name a1 z.toNatClampNeg := by
    intro z z0 z1
    refine ⟨hnn z z0 (fun q e => z1 (by rw [e]; exact lpar q)), hnm z z0 (fun e => z1 (by rw [e]; exact hpa))⟩
  have hr2 : RO w L p1 tc1 Rd1 a2 := by
    obtain ⟨r1, ⟨r2, r3, r4, r5⟩, r6, s1, s2, s3, s4, s5, s6, s7, s8, s9, s10⟩ := hr
    refine ⟨r1, ⟨by rw [e12]; exact r2, by rw [e13]; exact r3, by rw [e14]; exact r4, by rw [e0]; exact r5⟩, r6, ?_⟩
    unfold CT
    rw [e9, e10, e11]
    exact ⟨s1, s2, s3, s4, s5, s6, s7, s8, s9, s10⟩
  refine ⟨hr2, by rw [e11]; grind, h3, CF_trans h4 hC (by grind), ?_, ?_, ?_, ?_, ?_, ?_, ?_, ?_, ?_, by grind, by grind, fun j => if j = k then wd else cs j, ?_, ?_, ?_, ?_, ?_⟩
  · refine MF_trans (MF_trans h5 hM (by grind)) (lo' := MT_values a0) ⟨by rw [e9]; exact Int32.le_refl _, by rw [e10]; exact Int32.le_refl _, fun _ _ _ => by rw [e6], fun _ _ _ => by rw [e7], fun y y0 y1 => ?_⟩ (Int32.le_refl _)
    obtain ⟨q1, q2⟩ := hmf y y0 (by grind)
    refine ⟨by rw [e1], by rw [e2], q1, by rw [e3], by rw [e4], q2, hnn y y0 ?_, hnm y y0 (by grind), by rw [e5], by rw [e8]⟩
    intro z e
    obtain ⟨q1, q2, _⟩ := l0 (lk.mp z)
    grind
  · intro y y0 y1
    rw [C1] at y1
    have nd : NODE tc1 a1 y := by
      by_cases c : y < MT_values a
      · exact NODE_tr (by grind) c c1 c3 (by grind) (by grind) (by grind) hC hM (h6 y y0 (by rw [c1]; exact c))
      · exact hN y (by grind) (by rw [C1]; exact y1)
    exact NODE_lk h3 (by grind) (by grind) (by rw [C1]; exact C3) e1 e2 e3 e4 e5 e6 e7 e8 e9 e10 hmf hpn nd
  · obtain ⟨t1, t2, t3, t4, t5, t6⟩ := h7
    unfold SCA
    rw [e1, e2, e3, e4, fV.1, fV.2.1, fV.2.2.2.1, fV.2.2.2.2.1, gV.1, gV.2.1, gV.2.2.2.1, gV.2.2.2.2.1]
    exact ⟨t1, t2, t3, t4, t5, t6⟩
  · rw [e1, gV.1]; exact h8
  · rw [fV.2.2.2.2.2.2.2.1]; exact h9
  · rw [fV.2.2.2.1]; exact h10
  · rw [hnn _ h3 (fun z e => by have := (l0 (lk.mp z)).2.1; grind), gV.2.2.2.2.2.2.1]; exact h11
  · rw [hnm _ h3 (by grind), gV.2.2.2.2.2.2.2.1]; exact h12
  · rw [f1, o_updE, m1]
  · show (if (0:Int32) = k then wd else cs 0) = _
    by_cases e : (0:Int32) = k
    · rw [if_pos e, hw, (h19 e.symm).2]
    · rw [if_neg e]; exact h16
  · rw [if_pos (show 0 < k + 1 by grind)]
    show _ = (if (0:Int32) = k then wd else cs 0)
    by_cases e : (0:Int32) = k
    · rw [if_pos e]
      rcases f2 with ⟨g1, g2, g3⟩ | ⟨g1, g2, g3⟩
      · have := lk.mp g1
        grind
      · rw [g2, o_updE]
    · rw [if_neg e]
      have kp : 0 < k := by grind
      rcases f2 with ⟨g1, g2, g3⟩ | ⟨g1, g2, g3⟩
      · rw [g2, gV.2.2.2.2.2.1, h17, if_pos kp]
      · have := (l0 kp).1
        grind
  · intro i i0 i1
    show MT_values a0 + o < (if i = k then wd else cs i) ∧ (if i = k then wd else cs i) < Tx_total tc1 ∧ Tx_parents tc1 (if i = k then wd else cs i).toNatClampNeg = MT_values a0 ∧ Tx_slots tc1 (if i = k then wd else cs i).toNatClampNeg = i ∧ (o = 1 → MT_name a2 (if i = k then wd else cs i).toNatClampNeg = (if i = k then wd else cs i) - 1 ∧ Tx_kinds tc1 ((if i = k then wd else cs i) - 1).toNatClampNeg = 4) ∧ MT_next a2 (if i = k then wd else cs i).toNatClampNeg = (if i + 1 < k + 1 then (if i + 1 = k then wd else cs (i + 1)) else -1) ∧ (i + 1 < k + 1 → (if i + 1 = k then wd else cs (i + 1)) = Tx_afters tc1 (if i = k then wd else cs i).toNatClampNeg + o)
    by_cases e : i = k
    · rw [if_pos e, if_neg (by rw [e]; grind)]
      refine ⟨by rcases ho with rfl | rfl <;> grind, by rw [C1]; exact hw1, hpa, by rw [e]; exact hsl, ?_, ?_, fun z => absurd z (by rw [e]; grind)⟩
      · intro z
        refine ⟨?_, hn4 z⟩
        rcases f3 with ⟨g, _⟩ | ⟨_, g⟩
        · exact absurd (z.symm.trans g) (by first | decide | (dsimp only <;> decide))
        · rw [g, o_updE]
      · rw [hnn wd w0 (fun z q => by have := (l0 (lk.mp z)).2.2.1; grind)]
        exact hnx
    · rw [if_neg e]
      have ik : i < k := by grind
      obtain ⟨k1, k2, k3, k4, k5, k6, k7⟩ := h18 i i0 ik
      have c0 : 0 ≤ cs i := by rcases ho with rfl | rfl <;> grind
      have clt : cs i < MT_values a := by rw [← c1]; exact k2
      have F := hC.2.2.2 (cs i) c0 clt
      have G := hM.2.2.2.2 (cs i) c0 clt
      refine ⟨k1, by rw [C1]; grind, by rw [F.2.2.2.1]; exact k3, by rw [F.2.2.2.2.2.2.2.1]; exact k4, ?_, ?_, ?_⟩
      · intro z
        subst z
        obtain ⟨u1, u2⟩ := k5 rfl
        rw [hnm (cs i) c0 (by grind), G.2.2.2.2.2.2.2.1]
        refine ⟨u1, ?_⟩
        rw [(hC.2.2.2 (cs i - 1) (by grind) (by grind)).1]
        exact u2
      · rw [if_pos (show i + 1 < k + 1 by grind)]
        by_cases e2 : i + 1 = k
        · rw [if_pos e2]
          have kp : 0 < k := by grind
          have li : last = cs i := by
            rw [(h20 kp).1]
            have : k - 1 = i := by grind
            rw [this]
          rcases f2 with ⟨g1, g2, g3⟩ | ⟨g1, g2, g3⟩
          · rw [g3, li, o_updE]
          · have := (l0 kp).1
            grind
        · rw [if_neg e2]
          have kp : 0 < k := by grind
          have li : cs i ≠ last := by
            intro z
            obtain ⟨v1, v2, v3, v4, _⟩ := h18 (k - 1) (by grind) (by grind)
            rw [(h20 kp).1] at z
            rw [← z, k4] at v4
            grind
          rw [hnn (cs i) c0 (fun _ => li), G.2.2.2.2.2.2.1, k6, if_pos (show i + 1 < k by grind)]
      · intro _
        rw [F.2.2.2.2.2.2.1]
        by_cases e2 : i + 1 = k
        · rw [if_pos e2]
          have kp : 0 < k := by grind
          have li : last = cs i := by
            rw [(h20 kp).1]
            have : k - 1 = i := by grind
            rw [this]
          rw [← li, (h20 kp).2]
          exact hw
        · rw [if_neg e2]
          exact k7 (by grind)
  · intro z
    exact absurd z (by grind)
  · intro _
    have e : k + 1 - 1 = k := by grind
    rw [e]
    refine ⟨(if_pos rfl).symm, ?_⟩
    rw [haf, C1, e11]
