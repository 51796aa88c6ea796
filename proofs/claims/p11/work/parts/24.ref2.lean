/-! The reference's reading: arrays, objects, values -/
abbrev p_ok (s : SMT) (p : Int32) (r : Int32 × SMT) : Prop := (r.1 = 0 ∨ r.1 = 1) ∧ VP s r.2 r.1 p ∧ I_MT r.2 ∧ T_MT r.2
abbrev p_rec (rec : Int32 → Int32 → SMT → Option (Int32 × SMT)) (d : Int32) : Prop := ∀ (p : Int32) (s : SMT), I_MT s → T_MT s → (0 < MT_values s → 0 ≤ p ∧ p < MT_values s) → o_ok (rec p d s) (p_ok s p)
/-- what holds while the children of v are read -/
def LV (aa s : SMT) (v pp kd : Int32) : Prop := EX aa s ∧ MT_values aa = v ∧ 0 ≤ v ∧ v < MT_values s ∧ MT_kind s v.toNatClampNeg = kd ∧ ND s v pp ∧ I_MT s ∧ T_MT s
theorem LV_ext {aa s t : SMT} {v pp kd : Int32} (h : LV aa s v pp kd) (hE : EX s t) (hI : I_MT t) (hT : T_MT t) : LV aa t v pp kd := by
  obtain ⟨h1, h2, h3, h4, h5, h6, h7, h8⟩ := h
  exact ⟨EX_trans h1 hE, h2, h3, Int32.lt_of_lt_of_le h4 hE.1, by rw [EX_k hE h3 h4]; exact h5, EX_ND hE h3 h4 h6, hI, hT⟩
theorem I_at1 {s : SMT} (h : I_MT s) (ha : MT_at s < MT_letters s) : I_MT (MT_mk (MT_text s) (MT_kind s) (MT_place s) (MT_many s) (MT_parent s) (MT_power s) (MT_first s) (MT_next s) (MT_name s) (MT_from s) (MT_characters s) (MT_digits s) (MT_minus s) (MT_values s) (MT_letters s) (MT_at s + 1) (MT_wrong s) (MT_used s) (MT_written s) (MT_left s)) := by
  have j := sc_MT h
  refine ⟨j.1, j.2.1, j.2.2.1, j.2.2.2.1, ?_, ?_, j.2.2.2.2.2.2.1, j.2.2.2.2.2.2.2.1, j.2.2.2.2.2.2.2.2.1, j.2.2.2.2.2.2.2.2.2.1, ?_⟩
  · show 0 ≤ MT_at s + 1
    grind
  · show MT_at s + 1 ≤ 8300
    grind
  · show MT_written s ≤ MT_at s + 1
    grind
theorem T_at1 {s : SMT} {a : Int32} (hI : I_MT s) (h : T_MT s) : T_MT (MT_mk (MT_text s) (MT_kind s) (MT_place s) (MT_many s) (MT_parent s) (MT_power s) (MT_first s) (MT_next s) (MT_name s) (MT_from s) (MT_characters s) (MT_digits s) (MT_minus s) (MT_values s) (MT_letters s) a (MT_wrong s) (MT_used s) (MT_written s) (MT_left s)) :=
  SA_T (a := s) ⟨rfl, rfl, rfl, rfl, rfl, rfl, rfl, rfl, rfl, rfl⟩ h ⟨(sc_MT hI).2.2.2.2.2.2.1, (sc_MT hI).2.2.2.2.2.2.2.2.1⟩ ⟨(sc_MT hI).2.2.2.2.2.2.2.1, (sc_MT hI).2.2.2.2.2.2.2.2.2.1⟩ (Int32.le_refl _) (Int32.le_refl _)
theorem E_at1 {s : SMT} {a : Int32} : EX s (MT_mk (MT_text s) (MT_kind s) (MT_place s) (MT_many s) (MT_parent s) (MT_power s) (MT_first s) (MT_next s) (MT_name s) (MT_from s) (MT_characters s) (MT_digits s) (MT_minus s) (MT_values s) (MT_letters s) a (MT_wrong s) (MT_used s) (MT_written s) (MT_left s)) :=
  SA_EX (a := s) ⟨rfl, rfl, rfl, rfl, rfl, rfl, rfl, rfl, rfl, rfl⟩ (Int32.le_refl _) (Int32.le_refl _)
theorem o_m1 : (-1:Int32) < 0 := by decide
/-- the loop's step of an array, from the child on -/
theorem s_MT_array_j87 {n : Nat} {rec : Int32 → Int32 → SMT → Option (Int32 × SMT)} {x2 x3 x4 : Int32} {a0 aa : SMT} {pp : Int32} (hn : o_big ≤ n) (hrec : p_rec rec (x2 + 1)) (hL : LV aa a0 x3 pp 5) (hS : LST a0 x3 x4) : o_ok (m_MT_array_j87 n rec x2 x3 x4 a0) (fun q => (q.1 = 0 → LV aa q.2.2 x3 pp 5 ∧ LST q.2.2 x3 q.2.1 ∧ MT_values a0 < MT_values q.2.2) ∧ (q.1 ≠ 0 → LV aa q.2.2 x3 pp 5 ∧ (q.1 = 3 → MT_at q.2.2 < MT_letters q.2.2))) := by
  have hL0 := hL
  obtain ⟨h1, h2, h3, h4, h5, h6, h7, h8⟩ := hL
  have i := sc_MT h7
  have hx3 : x3 < 1000 := by have := i.2.1; clear h1 h8 hL0 hS hrec; grind
  have g3 : o_in x3 1000 = true := o_inM (m := 1000) rfl h3 hx3
  have hm := (h8 x3 h3 h4).2.2.2.2.2.2.2.2.2.2 (by rw [h5]; decide)
  unfold m_MT_array_j87
  refine o_okN (fun k ek => ?_)
  refine o_okB (hrec x3 a0 h7 h8 (fun _ => ⟨h3, h4⟩)) ?_
  intro q5 ⟨b0, ⟨v1, v2⟩, v3, v4⟩
  have hL5 := LV_ext hL0 v1 v3 v4
  refine o_okI (fun c1 => ?_) (fun c1 => ?_)
  · exact o_okS ⟨fun z => absurd (show (2 : Nat) = 0 from z) (by decide), fun _ => ⟨hL5, fun z => absurd (show (2 : Nat) = 3 from z) (by decide)⟩⟩
  obtain ⟨w1, w2⟩ := v2 c1
  rw [← ek] at w1 w2
  have hS5 := LST_EX v1 h3 h4 hS
  have i5 := sc_MT v3
  have hvk : x3 < k := by rw [ek]; exact h4
  have hm5 : MT_many q5.2 x3.toNatClampNeg < k := by rw [EX_m v1 h3 h4, ek]; exact hm.2.1
  have hlk : x4 < k := by
    rw [ek]
    rcases hS with l | l
    · rw [l.1]; have := i.1; clear h1 h8 hL0 hrec hS5 v1 v4 hL5; grind
    · exact l.2.1
  have hk5 : MT_kind q5.2 x3.toNatClampNeg = 5 := by rw [EX_k v1 h3 h4]; exact h5
  -- the rest, for the state with the child hung in
  have rest : ∀ u : SMT, (∀ t : SMT, t = MT_mk (MT_text u) (MT_kind u) (MT_place u) (upd (MT_many u) x3.toNatClampNeg ((MT_many u x3.toNatClampNeg) + (1:Int32))) (MT_parent u) (MT_power u) (MT_first u) (MT_next u) (MT_name u) (MT_from u) (MT_characters u) (MT_digits u) (MT_minus u) (MT_values u) (MT_letters u) (MT_at u) (MT_wrong u) (MT_used u) (MT_written u) (MT_left u) → LV aa t x3 pp 5 ∧ LST t x3 k ∧ MT_values a0 < MT_values t) → o_ok (m_MT_array_j131 n rec x2 x3 k u) (fun q => (q.1 = 0 → LV aa q.2.2 x3 pp 5 ∧ LST q.2.2 x3 q.2.1 ∧ MT_values a0 < MT_values q.2.2) ∧ (q.1 ≠ 0 → LV aa q.2.2 x3 pp 5 ∧ (q.1 = 3 → MT_at q.2.2 < MT_letters q.2.2))) := by
    intro u hu
    obtain ⟨t, et⟩ : ∃ t : SMT, t = MT_mk (MT_text u) (MT_kind u) (MT_place u) (upd (MT_many u) x3.toNatClampNeg ((MT_many u x3.toNatClampNeg) + (1:Int32))) (MT_parent u) (MT_power u) (MT_first u) (MT_next u) (MT_name u) (MT_from u) (MT_characters u) (MT_digits u) (MT_minus u) (MT_values u) (MT_letters u) (MT_at u) (MT_wrong u) (MT_used u) (MT_written u) (MT_left u) := ⟨_, rfl⟩
    obtain ⟨u1, u2, u3⟩ := hu t et
    unfold m_MT_array_j131
    refine o_okG g3 (o_okG g3 ?_)
    rw [← et]
    obtain ⟨y1, y2, y3, y4, y5, y6, y7, y8⟩ := id u1
    refine o_okB (s_MT_blanks hn y7 y8) ?_
    intro q6 ⟨b1, b2, b3, b4, b5, b6⟩
    have hL6 := LV_ext u1 b1 b5 b6
    have hS6 := LST_EX b1 y3 y4 u2
    have hv6 : MT_values a0 < MT_values q6 := by rw [b3]; exact u3
    refine o_okB (s_MT_c b5 b6 b5.2.2.2.2.1) ?_
    intro q7 ⟨d1, d2⟩
    refine o_okI (fun c2 => ?_) (fun c2 => ?_)
    · exact o_okS ⟨fun z => absurd (show (3 : Nat) = 0 from z) (by decide), fun _ => ⟨hL6, fun _ => d1 (by rw [c2]; decide)⟩⟩
    refine o_okB (s_MT_c b5 b6 b5.2.2.2.2.1) ?_
    intro q8 ⟨d3, d4⟩
    refine o_okI (fun c3 => ?_) (fun c3 => ?_)
    · refine o_okS ⟨fun _ => ⟨LV_ext hL6 E_at1 (I_at1 b5 (d3 (by rw [c3]; decide))) (T_at1 b5 b6), LST_EX E_at1 hL6.2.2.1 hL6.2.2.2.1 hS6, hv6⟩, fun z => absurd rfl z⟩
    · exact o_okS ⟨fun z => absurd (show (4 : Nat) = 0 from z) (by decide), fun _ => ⟨hL6, fun z => absurd (show (4 : Nat) = 3 from z) (by decide)⟩⟩
  have fin : ∀ t : SMT, I_MT t → MT_kind t = MT_kind q5.2 → MT_values t = MT_values q5.2 → ND t x3 pp → (EX aa t ∧ T_MT t ∧ LST t x3 k) → LV aa t x3 pp 5 ∧ LST t x3 k ∧ MT_values a0 < MT_values t := fun t k1 k2 k3 k4 k5 => ⟨⟨k5.1, h2, h3, by rw [k3]; exact Int32.lt_trans hvk w1, by rw [k2]; exact hk5, k4, k1, k5.2.1⟩, k5.2.2, by rw [k3, ← ek]; exact w1⟩
  have nd5 := hL5.2.2.2.2.2.1
  refine o_okI (fun c4 => ?_) (fun c4 => ?_)
  · have hx4 : x4 < 1000 := by have := i.2.1; rw [ek] at hlk; clear h1 h8 hL0 hS hrec v1 v4 hL5 hS5 rest fin; grind
    refine o_okG (o_inM (m := 1000) rfl c4 hx4) ?_
    refine rest _ (fun t et => ?_)
    have lk := T_link (aa := aa) (s := q5.2) (t := t) (v := x3) (last := x4) (k := k) (nm := 0) v3 v4 hL5.1 h2 h3 hvk w1 ⟨w2.1, w2.2.2⟩ hS5 hlk hm5 (Or.inl hk5) (by rw [et]) (by rw [et]) (by rw [et]) (by rw [et]) (by rw [et, if_pos c4]) (by rw [et, if_pos c4]) (Or.inl ⟨by rw [et], hk5, w2.2.1⟩) (by rw [et]) (by rw [et]) (by rw [et]) (by rw [et]) (by rw [et])
    refine fin t (by rw [et]; exact v3) (by rw [et]) (by rw [et]) ?_ lk
    have xl : x3.toNatClampNeg ≠ x4.toNatClampNeg := by
      rcases hS with l | l
      · rw [l.1] at c4; exact absurd c4 (by decide)
      · exact o_neq h3 c4 (by intro e; rw [e] at l; exact absurd l.1 (by grind))
    rw [et]
    exact ⟨by show upd _ _ _ _ = _; rw [o_updN xl]; exact nd5.1, nd5.2.1, nd5.2.2⟩
  · refine o_okG g3 ?_
    refine rest _ (fun t et => ?_)
    have lk := T_link (aa := aa) (s := q5.2) (t := t) (v := x3) (last := x4) (k := k) (nm := 0) v3 v4 hL5.1 h2 h3 hvk w1 ⟨w2.1, w2.2.2⟩ hS5 hlk hm5 (Or.inl hk5) (by rw [et]) (by rw [et]) (by rw [et]) (by rw [et]) (by rw [et, if_neg c4]) (by rw [et, if_neg c4]) (Or.inl ⟨by rw [et], hk5, w2.2.1⟩) (by rw [et]) (by rw [et]) (by rw [et]) (by rw [et]) (by rw [et])
    exact fin t (by rw [et]; exact v3) (by rw [et]) (by rw [et]) (by rw [et]; exact nd5) lk
theorem s_MT_array_b49 {n : Nat} {rec : Int32 → Int32 → SMT → Option (Int32 × SMT)} {x2 x3 : Int32} {z : Int32 × SMT} {aa : SMT} {pp : Int32} (hn : o_big ≤ n) (hrec : p_rec rec (x2 + 1)) (hL : LV aa z.2 x3 pp 5) (hS : LST z.2 x3 z.1) : o_ok (m_MT_array_b49 n rec x2 x3 z) (fun q => (q.1 = 0 → (LV aa q.2.2 x3 pp 5 ∧ LST q.2.2 x3 q.2.1) ∧ o_mu (MT_values q.2.2) < o_mu (MT_values z.2)) ∧ (q.1 ≠ 0 → LV aa q.2.2 x3 pp 5 ∧ (q.1 = 3 → MT_at q.2.2 < MT_letters q.2.2))) := by
  obtain ⟨h1, h2, h3, h4, h5, h6, h7, h8⟩ := id hL
  have i := sc_MT h7
  have hx3 : x3 < 1000 := by have := i.2.1; clear h1 h8 hL hS hrec; grind
  unfold m_MT_array_b49
  refine o_okB (s_MT_blanks hn h7 h8) ?_
  intro q4 ⟨b1, b2, b3, b4, b5, b6⟩
  have hL4 := LV_ext hL b1 b5 b6
  have hS4 := LST_EX b1 h3 h4 hS
  have tail : o_ok (m_MT_array_j87 n rec x2 x3 z.1 q4) (fun q => (q.1 = 0 → (LV aa q.2.2 x3 pp 5 ∧ LST q.2.2 x3 q.2.1) ∧ o_mu (MT_values q.2.2) < o_mu (MT_values z.2)) ∧ (q.1 ≠ 0 → LV aa q.2.2 x3 pp 5 ∧ (q.1 = 3 → MT_at q.2.2 < MT_letters q.2.2))) := by
    refine o_okW (s_MT_array_j87 hn hrec hL4 hS4) (fun q hq => ⟨fun e => ?_, hq.2⟩)
    obtain ⟨a1, a2, a3⟩ := hq.1 e
    exact ⟨⟨a1, a2⟩, o_muL (by rw [← b3]; exact a3)⟩
  refine o_okG (o_inM (m := 1000) rfl h3 hx3) ?_
  refine o_okI (fun c1 => ?_) (fun c1 => tail)
  refine o_okB (s_MT_c b5 b6 b5.2.2.2.2.1) ?_
  intro q9 _
  refine o_okB s_MT_begins ?_
  intro q10 _
  refine o_okI (fun c2 => tail) (fun c2 => ?_)
  exact o_okS ⟨fun e => absurd (show (1 : Nat) = 0 from e) (by decide), fun _ => ⟨hL4, fun e => absurd (show (1 : Nat) = 3 from e) (by decide)⟩⟩
/-- how an array and an object begin -/
theorem s_open {a0 b : SMT} {x1 kd : Int32} (h_a0 : I_MT a0) (t_a0 : T_MT a0) (p0 : MT_values a0 < 1000) (p1 : 0 < MT_values a0 → 0 ≤ x1 ∧ x1 < MT_values a0) (hk : kd = 5 ∨ kd = 6) (fr : FR a0 b x1 kd) (hi : I_MT b) : LV a0 b (MT_values a0) x1 kd ∧ LST b (MT_values a0) (-1) := by
  have i0 := sc_MT h_a0
  have i := sc_MT hi
  have nd := FR_ND fr
  have fr0 := fr
  obtain ⟨e1, e2, e3, e4, e5, e6, e7, e8, e9, e10, e11, e12, e13⟩ := fr0
  have k6 : 0 ≤ kd ∧ kd ≤ 6 := by rcases hk with z | z <;> rw [z] <;> decide
  have key : EX a0 b ∧ T_MT b := FR_T (c := b) h_a0 t_a0 p0 fr k6 p1 rfl rfl rfl rfl rfl rfl rfl rfl rfl (fun x h0 hx => rfl) ⟨by rw [e10]; exact Int32.le_refl _, i.2.2.2.2.2.2.2.1⟩ ⟨by rw [e11]; exact Int32.le_refl _, i.2.2.2.2.2.2.2.2.2.1⟩ (fun z => by rcases hk with y | y <;> rw [y] at z <;> exact absurd z (by decide)) (fun z => by rcases hk with y | y <;> rw [y] at z <;> exact absurd z (by decide))
  refine ⟨⟨key.1, rfl, i0.1, ?_, by rw [e1, o_updE], nd, hi, key.2⟩, Or.inl ⟨rfl, by rw [e2, o_updE], by rw [e5, o_updE]⟩⟩
  rw [e9]
  clear t_a0 fr key nd
  grind
theorem LV_VP {aa s : SMT} {v pp kd r : Int32} (h : LV aa s v pp kd) : VP aa s r pp := ⟨h.1, fun _ => ⟨by rw [h.2.1]; exact h.2.2.2.1, by rw [h.2.1]; exact h.2.2.2.2.2.1⟩⟩
theorem s_MT_array {n : Nat} {rec : Int32 → Int32 → SMT → Option (Int32 × SMT)} {x1 x2 : Int32} {a0 : SMT} (hn : o_big ≤ n) (hrec : p_rec rec (x2 + 1)) (h_a0 : I_MT a0) (t_a0 : T_MT a0) (p0 : MT_values a0 < 1000) (p1 : 0 < MT_values a0 → 0 ≤ x1 ∧ x1 < MT_values a0) (p2 : MT_at a0 < MT_letters a0) : o_ok (m_MT_array n rec x1 x2 a0) (p_ok a0 x1) := by
  unfold m_MT_array
  refine o_okB (s_MT_fresh h_a0 p0) ?_
  intro q1 ⟨e, fr, hi⟩
  obtain ⟨hL, hS⟩ := s_open h_a0 t_a0 p0 p1 (Or.inl rfl) fr hi
  have hat : MT_at q1.2 < MT_letters q1.2 := by rw [fr.2.2.2.2.2.2.2.2.2.2.2.1, fr.2.2.2.2.2.2.2.2.2.2.2.2]; exact p2
  have hI1 := I_at1 hi hat
  have hT1 := T_at1 (a := MT_at q1.2 + 1) hi hL.2.2.2.2.2.2.2
  have hL1 := LV_ext hL (E_at1 (a := MT_at q1.2 + 1)) hI1 hT1
  have hS1 := LST_EX (E_at1 (a := MT_at q1.2 + 1)) hL.2.2.1 hL.2.2.2.1 hS
  refine o_okB (s_MT_blanks hn hI1 hT1) ?_
  intro q2 ⟨b1, b2, b3, b4, b5, b6⟩
  have hL2 := LV_ext hL1 b1 b5 b6
  have hS2 := LST_EX b1 hL1.2.2.1 hL1.2.2.2.1 hS1
  refine o_okB (s_MT_c b5 b6 b5.2.2.2.2.1) ?_
  intro q3 ⟨d1, d2⟩
  refine o_okI (fun c1 => ?_) (fun c1 => ?_)
  · have hI3 := I_at1 b5 (d1 (by rw [c1]; decide))
    have hL3 := LV_ext hL2 (E_at1 (a := MT_at q2 + 1)) hI3 (T_at1 b5 b6)
    exact o_okS ⟨Or.inr rfl, LV_VP hL3, hI3, hL3.2.2.2.2.2.2.2⟩
  rw [e]
  refine o_okB (o_lpR (fun z : Int32 × SMT => LV a0 z.2 (MT_values a0) x1 5 ∧ LST z.2 (MT_values a0) z.1) (fun z => o_mu (MT_values z.2)) hn o_muB ⟨hL2, hS2⟩ (fun z hz => s_MT_array_b49 hn hrec hz.1 hz.2)) ?_
  intro q11 ⟨y0, g1, g2⟩
  have gI := g1.2.2.2.2.2.2.1
  have gT := g1.2.2.2.2.2.2.2
  have badc : o_ok (o_bd (m_MT_bad (MT_at q11.2.2) q11.2.2) fun q12 => o_gd (o_zb q12.1) (some (q12.1, q12.2))) (p_ok a0 x1) := by
    refine o_okB (s_MT_bad gI gT) ?_
    intro q12 ⟨k0, k1, k2, k3, k4, k5, k6⟩
    exact o_okG (o_zbM k0) (o_okS ⟨k0, ⟨EX_trans g1.1 k1, fun z => absurd k2 z⟩, k5, k6⟩)
  refine o_okI (fun c2 => badc) (fun c2 => ?_)
  refine o_okI (fun c3 => o_okS ⟨Or.inl rfl, ⟨g1.1, fun z => absurd rfl z⟩, gI, gT⟩) (fun c3 => ?_)
  refine o_okI (fun c4 => ?_) (fun c4 => badc)
  have hI4 := I_at1 gI (g2 c4)
  have hL4 := LV_ext g1 (E_at1 (a := MT_at q11.2.2 + 1)) hI4 (T_at1 gI gT)
  exact o_okS ⟨Or.inr rfl, LV_VP hL4, hI4, hL4.2.2.2.2.2.2.2⟩
/-- a walk along a chain -/
def o_xi (z : Int32) : Nat := if z < 0 then 0 else o_mu z
theorem o_xiB {z : Int32} : o_xi z < o_big := by
  unfold o_xi
  split
  · decide
  · exact o_muB
theorem o_mu0 {z : Int32} : 0 < o_mu z := by
  have := o_i32 z
  unfold o_mu
  omega
theorem o_xiL {z w : Int32} (hz : ¬ z < 0) (h : w = -1 ∨ z < w) : o_xi w < o_xi z := by
  unfold o_xi
  rw [if_neg hz]
  rcases h with h | h
  · rw [h, if_pos o_m1]; exact o_mu0
  · rw [if_neg (by grind)]; exact o_muL h
theorem s_MT_object_b127 {n : Nat} {rec : Int32 → Int32 → SMT → Option (Int32 × SMT)} {x2 x3 x4 x5 x6 z : Int32} {a0 : SMT} (hn : o_big ≤ n) (hI : I_MT a0) (hT : T_MT a0) (h6 : 0 ≤ x6 ∧ x6 < MT_values a0 ∧ MT_kind a0 x6.toNatClampNeg = 4) (hz : z = -1 ∨ (0 ≤ z ∧ z < MT_values a0 ∧ MT_name a0 z.toNatClampNeg ≠ -1)) : o_ok (m_MT_object_b127 n rec x2 x3 x4 x5 x6 a0 z) (fun q => (q.1 = 0 → (q.2 = -1 ∨ (0 ≤ q.2 ∧ q.2 < MT_values a0 ∧ MT_name a0 q.2.toNatClampNeg ≠ -1)) ∧ o_xi q.2 < o_xi z) ∧ (q.1 ≠ 0 → True)) := by
  unfold m_MT_object_b127
  have i := sc_MT hI
  refine o_okI (fun c1 => ?_) (fun c1 => ?_)
  · exact o_okS ⟨fun e => absurd (show (2 : Nat) = 0 from e) (by decide), fun _ => True.intro⟩
  rcases hz with e | hz
  · rw [e] at c1; exact absurd o_m1 c1
  obtain ⟨z0, z1, z2⟩ := hz
  have zb : z < 1000 := by have := i.2.1; clear hT; grind
  have g : o_in z 1000 = true := o_inM (m := 1000) rfl z0 zb
  obtain ⟨n1, n2, n3, n4, n5, n6, n7, n8, n9, n10, n11⟩ := hT z z0 z1
  have nm : 0 ≤ MT_name a0 z.toNatClampNeg ∧ MT_name a0 z.toNatClampNeg < z ∧ MT_kind a0 (MT_name a0 z.toNatClampNeg).toNatClampNeg = 4 := by
    rcases n4 with h | h
    · exact absurd h z2
    · exact h
  refine o_okG g ?_
  refine o_okB (s_MT_same hn hI hT hI hT nm.1 (Int32.lt_trans nm.2.1 z1) nm.2.2 h6.1 h6.2.1 h6.2.2) ?_
  intro q7 _
  refine o_okI (fun c2 => ?_) (fun c2 => ?_)
  · refine o_okG g ?_
    refine o_okN (fun y ey => ?_)
    refine o_okS ⟨fun _ => ?_, fun e => absurd rfl e⟩
    show (y = -1 ∨ (0 ≤ y ∧ y < MT_values a0 ∧ MT_name a0 y.toNatClampNeg ≠ -1)) ∧ o_xi y < o_xi z
    rcases n3 with h | h
    · rw [ey, h]; exact ⟨Or.inl rfl, o_xiL c1 (Or.inl rfl)⟩
    · have nn : MT_next a0 z.toNatClampNeg ≠ -1 := by intro e; rw [e] at h; exact absurd (Int32.lt_of_le_of_lt z0 h.1) (by decide)
      rw [ey]
      exact ⟨Or.inr ⟨Int32.le_of_lt (Int32.lt_of_le_of_lt z0 h.1), h.2, (n10 z2 nn).1⟩, o_xiL c1 (Or.inr h.1)⟩
  · exact o_okS ⟨fun e => absurd (show (1 : Nat) = 0 from e) (by decide), fun _ => True.intro⟩
abbrev p_ob6 (aa : SMT) (x3 pp : Int32) (vz : Int32) (q : Nat × Int32 × Int32 × SMT) : Prop := (q.1 = 0 → LV aa q.2.2.2 x3 pp 6 ∧ LST q.2.2.2 x3 q.2.1 ∧ vz < MT_values q.2.2.2) ∧ (q.1 ≠ 0 → LV aa q.2.2.2 x3 pp 6 ∧ (q.1 = 6 → MT_at q.2.2.2 < MT_letters q.2.2.2))
theorem p_ob6_k {aa s : SMT} {x3 pp vz l m : Int32} {k : Nat} (hk : k ≠ 0) (hk6 : k ≠ 6) (h : LV aa s x3 pp 6) : p_ob6 aa x3 pp vz (k, l, m, s) := ⟨fun e => absurd e hk, fun _ => ⟨h, fun e => absurd e hk6⟩⟩
theorem s_MT_object_b50 {n : Nat} {rec : Int32 → Int32 → SMT → Option (Int32 × SMT)} {x2 x3 : Int32} {z : Int32 × Int32 × SMT} {aa : SMT} {pp : Int32} (hn : o_big ≤ n) (hrec : p_rec rec (x2 + 1)) (hL : LV aa z.2.2 x3 pp 6) (hS : LST z.2.2 x3 z.1) : o_ok (m_MT_object_b50 n rec x2 x3 z) (p_ob6 aa x3 pp (MT_values z.2.2)) := by
  obtain ⟨h1, h2, h3, h4, h5, h6, h7, h8⟩ := id hL
  have i := sc_MT h7
  have hx3 : x3 < 1000 := by have := i.2.1; clear h1 h8 hL hS hrec; grind
  have g3 : o_in x3 1000 = true := o_inM (m := 1000) rfl h3 hx3
  unfold m_MT_object_b50
  refine o_okB (s_MT_blanks hn h7 h8) ?_
  intro q4 ⟨b1, b2, b3, b4, b5, b6⟩
  have hL4 := LV_ext hL b1 b5 b6
  have hS4 := LST_EX b1 h3 h4 hS
  obtain ⟨j1, j2, j3, j4, j5, j6, j7, j8⟩ := id hL4
  have i4 := sc_MT b5
  refine o_okB (s_MT_c b5 b6 b5.2.2.2.2.1) ?_
  intro q5 ⟨d1, d2⟩
  refine o_okI (fun c1 => ?_) (fun c1 => o_okS (p_ob6_k (by decide) (by decide) hL4))
  have hat4 := d1 (by rw [c1]; decide)
  refine o_okG g3 ?_
  refine o_okI (fun c2 => o_okS (p_ob6_k (by decide) (by decide) hL4)) (fun c2 => ?_)
  refine o_okI (fun c3 => o_okS (p_ob6_k (by decide) (by decide) hL4)) (fun c3 => ?_)
  have hv4 : MT_values q4 < 1000 := by have := i4.2.1; clear h1 h8 hL hS hrec b1 b6 hL4 hS4 j1 j8; grind
  refine o_okN (fun x5 ex5 => ?_)
  refine o_okN (fun x6 ex6 => ?_)
  refine o_okB (s_MT_string hn b5 b6 hv4 (fun _ => ⟨j3, j4⟩) hat4) ?_
  intro q6 ⟨r0, ⟨v1, v2⟩, vk, v3, v4⟩
  have hL6 := LV_ext hL4 v1 v3 v4
  have hS6 := LST_EX v1 j3 j4 hS4
  obtain ⟨m1, m2, m3, m4, m5, m6, m7, m8⟩ := id hL6
  refine o_okI (fun c4 => o_okS (p_ob6_k (by decide) (by decide) hL6)) (fun c4 => ?_)
  obtain ⟨vk4, vv⟩ := vk c4
  rw [← ex6] at vk4 vv
  have x60 : 0 ≤ x6 := by rw [ex6]; exact i4.1
  have x6v : x6 < MT_values q6.2 := by rw [vv]; rw [← ex6] at hv4; clear h1 h8 hL hS hrec b1 b6 hL4 hS4 j1 j8 v1 v4 hL6 hS6 m1 m8; grind
  refine o_okG g3 ?_
  refine o_okN (fun x7 ex7 => ?_)
  have first7 : x7 = -1 ∨ (0 ≤ x7 ∧ x7 < MT_values q6.2 ∧ MT_name q6.2 x7.toNatClampNeg ≠ -1) := by
    obtain ⟨n1, n2, n3, n4, n5, n6, n7, n8, n9, n10, n11⟩ := m8 x3 m3 m4
    rcases n2 with h | h
    · rw [ex7, h]; exact Or.inl rfl
    · have nn : MT_first q6.2 x3.toNatClampNeg ≠ -1 := by intro e; rw [e] at h; exact absurd (Int32.lt_of_le_of_lt m3 h.1) (by decide)
      rw [ex7]; exact Or.inr ⟨Int32.le_of_lt (Int32.lt_of_le_of_lt m3 h.1), h.2, (n9 m5 nn).1⟩
  refine o_okB (o_lpR (fun y : Int32 => y = -1 ∨ (0 ≤ y ∧ y < MT_values q6.2 ∧ MT_name q6.2 y.toNatClampNeg ≠ -1)) o_xi hn o_xiB first7 (fun y hy => s_MT_object_b127 hn m7 m8 ⟨x60, x6v, vk4⟩ hy)) ?_
  intro q8 _
  refine o_okI (fun c5 => o_okS (p_ob6_k (by decide) (by decide) hL6)) (fun c5 => ?_)
  refine o_okB (s_MT_blanks hn m7 m8) ?_
  intro q9 ⟨a1, a2, a3, a4, a5, a6⟩
  have hL9 := LV_ext hL6 a1 a5 a6
  have hS9 := LST_EX a1 m3 m4 hS6
  refine o_okB (s_MT_c a5 a6 a5.2.2.2.2.1) ?_
  intro q10 ⟨d3, d4⟩
  refine o_okI (fun c6 => ?_) (fun c6 => o_okS (p_ob6_k (by decide) (by decide) hL9))
  have hIa := I_at1 a5 (d3 (by rw [c6]; decide))
  have hTa := T_at1 (a := MT_at q9 + 1) a5 a6
  have hLa := LV_ext hL9 (E_at1 (a := MT_at q9 + 1)) hIa hTa
  have hSa := LST_EX (E_at1 (a := MT_at q9 + 1)) hL9.2.2.1 hL9.2.2.2.1 hS9
  refine o_okB (s_MT_blanks hn hIa hTa) ?_
  intro q11 ⟨f1, f2, f3, f4, f5, f6⟩
  have hLb := LV_ext hLa f1 f5 f6
  have hSb := LST_EX f1 hLa.2.2.1 hLa.2.2.2.1 hSa
  obtain ⟨o1, o2, o3, o4, o5, o6, o7, o8⟩ := id hLb
  have v11 : MT_values q11 = x6 + 1 := by rw [f3]; show MT_values q9 = _; rw [a3, vv]
  have E11 : EX q6.2 q11 := EX_trans (EX_trans a1 (E_at1 (a := MT_at q9 + 1))) f1
  have k11 : MT_kind q11 x6.toNatClampNeg = 4 := by rw [EX_k E11 x60 x6v]; exact vk4
  refine o_okN (fun w ew => ?_)
  refine o_okB (hrec x3 q11 f5 f6 (fun _ => ⟨o3, o4⟩)) ?_
  intro q12 ⟨s0, ⟨u1, u2⟩, u3, u4⟩
  have hL12 := LV_ext hLb u1 u3 u4
  refine o_okI (fun c7 => o_okS (p_ob6_k (by decide) (by decide) hL12)) (fun c7 => ?_)
  obtain ⟨w1, w2⟩ := u2 c7
  rw [← ew] at w1 w2
  have hS12 := LST_EX u1 o3 o4 hSb
  have i12 := sc_MT u3
  have hwx : w = x6 + 1 := by rw [ew, v11]
  have x6b : x6 < 1000 := by rw [ex6]; exact hv4
  have hw0 : 0 ≤ w := by rw [hwx]; clear h1 h8 hL hS hrec b1 b6 hL4 hS4 j1 j8 v1 v4 hL6 hS6 m1 m8 a1 a6 hL9 hS9 hTa hLa hSa f1 f6 hLb hSb o1 o8 E11 u1 u4 hL12 hS12; grind
  have hwb : w < 1000 := by have := i12.2.1; clear h1 h8 hL hS hrec b1 b6 hL4 hS4 j1 j8 v1 v4 hL6 hS6 m1 m8 a1 a6 hL9 hS9 hTa hLa hSa f1 f6 hLb hSb o1 o8 E11 u1 u4 hL12 hS12; grind
  have h3x : x3 < x6 := by rw [ex6]; exact j4
  have hvw : x3 < w := by rw [hwx]; clear h1 h8 hL hS hrec b1 b6 hL4 hS4 j1 j8 v1 v4 hL6 hS6 m1 m8 a1 a6 hL9 hS9 hTa hLa hSa f1 f6 hLb hSb o1 o8 E11 u1 u4 hL12 hS12; grind
  have hv2 : x3 + 2 ≤ w := by rw [hwx]; clear h1 h8 hL hS hrec b1 b6 hL4 hS4 j1 j8 v1 v4 hL6 hS6 m1 m8 a1 a6 hL9 hS9 hTa hLa hSa f1 f6 hLb hSb o1 o8 E11 u1 u4 hL12 hS12; grind
  have hl6 : z.1 < x6 := by
    rw [ex6]
    rcases hS4 with l | l
    · rw [l.1]; have := i4.1; clear h1 h8 hL hS hrec b1 b6 hL4 j1 j8 v1 v4 hL6 hS6 m1 m8 a1 a6 hL9 hS9 hTa hLa hSa f1 f6 hLb hSb o1 o8 E11 u1 u4 hL12 hS12; grind
    · exact l.2.1
  have hlw : z.1 < w := by rw [hwx]; clear h1 h8 hL hS hrec b1 b6 hL4 hS4 j1 j8 v1 v4 hL6 hS6 m1 m8 a1 a6 hL9 hS9 hTa hLa hSa f1 f6 hLb hSb o1 o8 E11 u1 u4 hL12 hS12; grind
  have hl2 : 0 ≤ z.1 → z.1 + 2 ≤ w := by intro l0; rw [hwx]; clear h1 h8 hL hS hrec b1 b6 hL4 hS4 j1 j8 v1 v4 hL6 hS6 m1 m8 a1 a6 hL9 hS9 hTa hLa hSa f1 f6 hLb hSb o1 o8 E11 u1 u4 hL12 hS12; grind
  have hm12 : MT_many q12.2 x3.toNatClampNeg < w := by
    have hm := (o8 x3 o3 o4).2.2.2.2.2.2.2.2.2.2 (by rw [o5]; decide)
    rw [EX_m u1 o3 o4, ew]; exact hm.2.1
  have hk12 : MT_kind q12.2 x3.toNatClampNeg = 6 := hL12.2.2.2.2.1
  have k612 : MT_kind q12.2 x6.toNatClampNeg = 4 := by rw [EX_k u1 x60 (by rw [v11, ← hwx]; rw [hwx]; clear h1 h8 hL hS hrec b1 b6 hL4 hS4 j1 j8 v1 v4 hL6 hS6 m1 m8 a1 a6 hL9 hS9 hTa hLa hSa f1 f6 hLb hSb o1 o8 E11 u1 u4 hL12 hS12; grind)]; exact k11
  have x6w : x6 < w := by rw [hwx]; clear h1 h8 hL hS hrec b1 b6 hL4 hS4 j1 j8 v1 v4 hL6 hS6 m1 m8 a1 a6 hL9 hS9 hTa hLa hSa f1 f6 hLb hSb o1 o8 E11 u1 u4 hL12 hS12; grind
  have vz : MT_values z.2.2 < w := by rw [← b3, ← ex6]; exact x6w
  refine o_okG (o_inM (m := 1000) rfl hw0 hwb) ?_
  have rest : ∀ u : SMT, (∀ t : SMT, t = MT_mk (MT_text u) (MT_kind u) (MT_place u) (upd (MT_many u) x3.toNatClampNeg ((MT_many u x3.toNatClampNeg) + (1:Int32))) (MT_parent u) (MT_power u) (MT_first u) (MT_next u) (MT_name u) (MT_from u) (MT_characters u) (MT_digits u) (MT_minus u) (MT_values u) (MT_letters u) (MT_at u) (MT_wrong u) (MT_used u) (MT_written u) (MT_left u) → LV aa t x3 pp 6 ∧ LST t x3 w ∧ MT_values z.2.2 < MT_values t) → o_ok (m_MT_object_j261 n rec x2 x3 w u) (p_ob6 aa x3 pp (MT_values z.2.2)) := by
    intro u hu
    obtain ⟨t, et⟩ : ∃ t : SMT, t = MT_mk (MT_text u) (MT_kind u) (MT_place u) (upd (MT_many u) x3.toNatClampNeg ((MT_many u x3.toNatClampNeg) + (1:Int32))) (MT_parent u) (MT_power u) (MT_first u) (MT_next u) (MT_name u) (MT_from u) (MT_characters u) (MT_digits u) (MT_minus u) (MT_values u) (MT_letters u) (MT_at u) (MT_wrong u) (MT_used u) (MT_written u) (MT_left u) := ⟨_, rfl⟩
    obtain ⟨k1, k2, k3⟩ := hu t et
    unfold m_MT_object_j261
    refine o_okG g3 (o_okG g3 ?_)
    rw [← et]
    obtain ⟨y1, y2, y3, y4, y5, y6, y7, y8⟩ := id k1
    refine o_okB (s_MT_blanks hn y7 y8) ?_
    intro q13 ⟨e1, e2, e3, e4, e5, e6⟩
    have hL13 := LV_ext k1 e1 e5 e6
    have hS13 := LST_EX e1 y3 y4 k2
    have hv13 : MT_values z.2.2 < MT_values q13 := by rw [e3]; exact k3
    refine o_okB (s_MT_c e5 e6 e5.2.2.2.2.1) ?_
    intro q14 ⟨d5, d6⟩
    refine o_okI (fun c8 => ?_) (fun c8 => ?_)
    · exact o_okS ⟨fun e => absurd (show (6 : Nat) = 0 from e) (by decide), fun _ => ⟨hL13, fun _ => d5 (by rw [c8]; decide)⟩⟩
    refine o_okB (s_MT_c e5 e6 e5.2.2.2.2.1) ?_
    intro q15 ⟨d7, d8⟩
    refine o_okI (fun c9 => ?_) (fun c9 => o_okS (p_ob6_k (by decide) (by decide) hL13))
    exact o_okS ⟨fun _ => ⟨LV_ext hL13 E_at1 (I_at1 e5 (d7 (by rw [c9]; decide))) (T_at1 e5 e6), LST_EX E_at1 hL13.2.2.1 hL13.2.2.2.1 hS13, hv13⟩, fun e => absurd rfl e⟩
  have nd12 := hL12.2.2.2.2.2.1
  have nwx : x3.toNatClampNeg ≠ w.toNatClampNeg := o_nev h3 hw0 hvw
  have fin : ∀ t : SMT, I_MT t → MT_kind t = MT_kind q12.2 → MT_values t = MT_values q12.2 → ND t x3 pp → (EX aa t ∧ T_MT t ∧ LST t x3 w) → LV aa t x3 pp 6 ∧ LST t x3 w ∧ MT_values z.2.2 < MT_values t := fun t k1 k2 k3 k4 k5 => ⟨⟨k5.1, h2, h3, by rw [k3]; exact Int32.lt_trans hvw w1, by rw [k2]; exact hk12, k4, k1, k5.2.1⟩, k5.2.2, by rw [k3]; exact Int32.lt_trans vz w1⟩
  refine o_okI (fun c10 => ?_) (fun c10 => ?_)
  · have hzb : z.1 < 1000 := Int32.lt_trans hlw hwb
    refine o_okG (o_inM (m := 1000) rfl c10 hzb) ?_
    refine rest _ (fun t et => ?_)
    have lk := T_link (aa := aa) (s := q12.2) (t := t) (v := x3) (last := z.1) (k := w) (nm := x6) u3 u4 hL12.1 h2 h3 hvw w1 ⟨w2.1, w2.2.2⟩ hS12 hlw hm12 (Or.inr hk12) (by rw [et]) (by rw [et]) (by rw [et]) (by rw [et]) (by rw [et, if_pos c10]) (by rw [et, if_pos c10]) (Or.inr ⟨by rw [et], hk12, x60, x6w, k612, hv2, hl2⟩) (by rw [et]) (by rw [et]) (by rw [et]) (by rw [et]) (by rw [et])
    refine fin t (by rw [et]; exact u3) (by rw [et]) (by rw [et]) ?_ lk
    have xl : x3.toNatClampNeg ≠ z.1.toNatClampNeg := by
      rcases hS with l | l
      · rw [l.1] at c10; exact absurd c10 (by decide)
      · exact o_neq h3 c10 (by intro e; rw [← e] at l; exact absurd l.1 (by grind))
    rw [et]
    exact ⟨by show upd _ _ _ _ = _; rw [o_updN xl]; exact nd12.1, by show upd _ _ _ _ = _; rw [o_updN nwx]; exact nd12.2.1, nd12.2.2⟩
  · refine o_okG g3 ?_
    refine rest _ (fun t et => ?_)
    have lk := T_link (aa := aa) (s := q12.2) (t := t) (v := x3) (last := z.1) (k := w) (nm := x6) u3 u4 hL12.1 h2 h3 hvw w1 ⟨w2.1, w2.2.2⟩ hS12 hlw hm12 (Or.inr hk12) (by rw [et]) (by rw [et]) (by rw [et]) (by rw [et]) (by rw [et, if_neg c10]) (by rw [et, if_neg c10]) (Or.inr ⟨by rw [et], hk12, x60, x6w, k612, hv2, hl2⟩) (by rw [et]) (by rw [et]) (by rw [et]) (by rw [et]) (by rw [et])
    exact fin t (by rw [et]; exact u3) (by rw [et]) (by rw [et]) (by rw [et]; exact ⟨nd12.1, by show upd _ _ _ _ = _; rw [o_updN nwx]; exact nd12.2.1, nd12.2.2⟩) lk
set_option maxHeartbeats 4000000 in
theorem s_MT_object {n : Nat} {rec : Int32 → Int32 → SMT → Option (Int32 × SMT)} {x1 x2 : Int32} {a0 : SMT} (hn : o_big ≤ n) (hrec : p_rec rec (x2 + 1)) (h_a0 : I_MT a0) (t_a0 : T_MT a0) (p0 : MT_values a0 < 1000) (p1 : 0 < MT_values a0 → 0 ≤ x1 ∧ x1 < MT_values a0) (p2 : MT_at a0 < MT_letters a0) : o_ok (m_MT_object n rec x1 x2 a0) (p_ok a0 x1) := by
  unfold m_MT_object
  refine o_okB (s_MT_fresh h_a0 p0) ?_
  intro q1 ⟨e, fr, hi⟩
  obtain ⟨hL, hS⟩ := s_open h_a0 t_a0 p0 p1 (Or.inr rfl) fr hi
  have hat : MT_at q1.2 < MT_letters q1.2 := by rw [fr.2.2.2.2.2.2.2.2.2.2.2.1, fr.2.2.2.2.2.2.2.2.2.2.2.2]; exact p2
  have hI1 := I_at1 hi hat
  have hT1 := T_at1 (a := MT_at q1.2 + 1) hi hL.2.2.2.2.2.2.2
  have hL1 := LV_ext hL (E_at1 (a := MT_at q1.2 + 1)) hI1 hT1
  have hS1 := LST_EX (E_at1 (a := MT_at q1.2 + 1)) hL.2.2.1 hL.2.2.2.1 hS
  refine o_okB (s_MT_blanks hn hI1 hT1) ?_
  intro q2 ⟨b1, b2, b3, b4, b5, b6⟩
  have hL2 := LV_ext hL1 b1 b5 b6
  have hS2 := LST_EX b1 hL1.2.2.1 hL1.2.2.2.1 hS1
  refine o_okB (s_MT_c b5 b6 b5.2.2.2.2.1) ?_
  intro q3 ⟨d1, d2⟩
  refine o_okI (fun c1 => ?_) (fun c1 => ?_)
  · have hI3 := I_at1 b5 (d1 (by rw [c1]; decide))
    have hL3 := LV_ext hL2 (E_at1 (a := MT_at q2 + 1)) hI3 (T_at1 b5 b6)
    exact o_okS ⟨Or.inr rfl, LV_VP hL3, hI3, hL3.2.2.2.2.2.2.2⟩
  rw [e]
  refine o_okB (o_lpR (P := fun q => LV a0 q.2.2.2 (MT_values a0) x1 6 ∧ (q.1 = 6 → MT_at q.2.2.2 < MT_letters q.2.2.2)) (fun z : Int32 × Int32 × SMT => LV a0 z.2.2 (MT_values a0) x1 6 ∧ LST z.2.2 (MT_values a0) z.1) (fun z => o_mu (MT_values z.2.2)) hn o_muB ⟨hL2, hS2⟩ (fun z hz => o_okW (s_MT_object_b50 hn hrec hz.1 hz.2) (fun q hq => ⟨fun h => ⟨⟨(hq.1 h).1, (hq.1 h).2.1⟩, o_muL (hq.1 h).2.2⟩, hq.2⟩))) ?_
  intro q16 ⟨y0, g1, g2⟩
  have gI := g1.2.2.2.2.2.2.1
  have gT := g1.2.2.2.2.2.2.2
  have badc : ∀ p : Int32, o_ok (o_bd (m_MT_bad p q16.2.2.2) fun q12 => o_gd (o_zb q12.1) (some (q12.1, q12.2))) (p_ok a0 x1) := by
    intro p
    refine o_okB (s_MT_bad gI gT) ?_
    intro q12 ⟨k0, k1, k2, k3, k4, k5, k6⟩
    exact o_okG (o_zbM k0) (o_okS ⟨k0, ⟨EX_trans g1.1 k1, fun z => absurd k2 z⟩, k5, k6⟩)
  have no : o_ok (some ((0:Int32), q16.2.2.2)) (p_ok a0 x1) := o_okS ⟨Or.inl rfl, ⟨g1.1, fun z => absurd rfl z⟩, gI, gT⟩
  refine o_okI (fun c2 => badc _) (fun c2 => ?_)
  refine o_okI (fun c3 => no) (fun c3 => ?_)
  refine o_okI (fun c4 => badc _) (fun c4 => ?_)
  refine o_okI (fun c5 => badc _) (fun c5 => ?_)
  refine o_okI (fun c6 => no) (fun c6 => ?_)
  refine o_okI (fun c7 => ?_) (fun c7 => badc _)
  have hI4 := I_at1 gI (g2 c7)
  have hL4 := LV_ext g1 (E_at1 (a := MT_at q16.2.2.2 + 1)) hI4 (T_at1 gI gT)
  exact o_okS ⟨Or.inr rfl, LV_VP hL4, hI4, hL4.2.2.2.2.2.2.2⟩
theorem s_MT_value_j83 {n : Nat} {rec : Int32 → Int32 → SMT → Option (Int32 × SMT)} {x1 x2 x3 x4 : Int32} {a0 : SMT} (hn : o_big ≤ n) (hrec : x2 ≠ 40 → p_rec rec (x2 + 1)) (h_a0 : I_MT a0) (t_a0 : T_MT a0) (p1 : 0 < MT_values a0 → 0 ≤ x1 ∧ x1 < MT_values a0) (p2 : x3 ≠ -1 → MT_at a0 < MT_letters a0) (p3 : x4 = 0 → x3 ≠ -1) : o_ok (m_MT_value_j83 n rec x1 x2 x3 x4 a0) (p_ok a0 x1) := by
  have i := sc_MT h_a0
  have badc : o_ok (o_bd (m_MT_bad (MT_at a0) a0) fun q12 => o_gd (o_zb q12.1) (some (q12.1, q12.2))) (p_ok a0 x1) := by
    refine o_okB (s_MT_bad h_a0 t_a0) ?_
    intro q12 ⟨k0, k1, k2, k3, k4, k5, k6⟩
    exact o_okG (o_zbM k0) (o_okS ⟨k0, ⟨k1, fun z => absurd k2 z⟩, k5, k6⟩)
  unfold m_MT_value_j83
  refine o_okI (fun c1 => badc) (fun c1 => ?_)
  have p0 : MT_values a0 < 1000 := by have := i.2.1; clear t_a0 hrec badc; grind
  have ret : ∀ o : Option (Int32 × SMT), o_ok o (p_ok a0 x1) → o_ok (o_bd o fun q => o_gd (o_zb q.1) (some (q.1, q.2))) (p_ok a0 x1) := by
    intro o ho
    refine o_okB ho ?_
    intro q hq
    exact o_okG (o_zbM hq.1) (o_okS hq)
  refine o_okI (fun c2 => ret _ (o_okW (s_MT_word hn h_a0 t_a0 p0 p1 (by decide) (by decide) (p2 (by rw [c2]; decide))) (fun r h => h))) (fun c2 => ?_)
  refine o_okI (fun c3 => ret _ (o_okW (s_MT_word hn h_a0 t_a0 p0 p1 (by decide) (by decide) (p2 (by rw [c3]; decide))) (fun r h => h))) (fun c3 => ?_)
  refine o_okI (fun c4 => ret _ (o_okW (s_MT_word hn h_a0 t_a0 p0 p1 (by decide) (by decide) (p2 (by rw [c4]; decide))) (fun r h => h))) (fun c4 => ?_)
  refine o_okI (fun c5 => ret _ (o_okW (s_MT_string hn h_a0 t_a0 p0 p1 (p2 (by rw [c5]; decide))) (fun r h => ⟨h.1, h.2.1, h.2.2.2.1, h.2.2.2.2⟩))) (fun c5 => ?_)
  refine o_okI (fun c6 => ?_) (fun c6 => ret _ (o_okW (s_MT_number hn h_a0 t_a0 p0 p1) (fun r h => h)))
  refine o_okI (fun c7 => badc) (fun c7 => ?_)
  have hat := p2 (p3 c6)
  refine o_okI (fun c8 => ret _ (s_MT_array hn (hrec c7) h_a0 t_a0 p0 p1 hat)) (fun c8 => ret _ (s_MT_object hn (hrec c7) h_a0 t_a0 p0 p1 hat))
theorem s_MT_value_F {n : Nat} {rec : Int32 → Int32 → SMT → Option (Int32 × SMT)} {x1 x2 : Int32} {a0 : SMT} (hn : o_big ≤ n) (hrec : x2 ≠ 40 → p_rec rec (x2 + 1)) (h_a0 : I_MT a0) (t_a0 : T_MT a0) (p1 : 0 < MT_values a0 → 0 ≤ x1 ∧ x1 < MT_values a0) : o_ok (m_MT_value_F n rec x1 x2 a0) (p_ok a0 x1) := by
  unfold m_MT_value_F
  refine o_okB (s_MT_c h_a0 t_a0 h_a0.2.2.2.2.1) ?_
  intro q1 ⟨d1, d2⟩
  have j31 : ∀ y : Int32, (y ≠ 0 → True) → o_ok (m_MT_value_j31 n rec x1 x2 q1 y a0) (p_ok a0 x1) := by
    intro y _
    unfold m_MT_value_j31
    have go : (y = 0 → q1 ≠ -1) → o_ok (m_MT_value_j83 n rec x1 x2 q1 y a0) (p_ok a0 x1) := fun h => s_MT_value_j83 hn hrec h_a0 t_a0 p1 d1 h
    refine o_okI (fun c => go (fun _ => by rw [c]; decide)) (fun _ => ?_)
    refine o_okI (fun c => go (fun _ => by rw [c]; decide)) (fun _ => ?_)
    refine o_okI (fun c => go (fun _ => by rw [c]; decide)) (fun _ => ?_)
    refine o_okI (fun c => go (fun _ => by rw [c]; decide)) (fun _ => ?_)
    refine o_okI (fun c => go (fun _ => by rw [c]; decide)) (fun _ => ?_)
    refine o_okI (fun c => go (fun _ => by rw [c]; decide)) (fun _ => ?_)
    refine o_okI (fun c => ?_) (fun c => go (fun z => absurd z c))
    refine o_okB (s_MT_bad h_a0 t_a0) ?_
    intro q12 ⟨k0, k1, k2, k3, k4, k5, k6⟩
    exact o_okG (o_zbM k0) (o_okS ⟨k0, ⟨k1, fun z => absurd k2 z⟩, k5, k6⟩)
  refine o_okB s_MM_in ?_
  intro q2 _
  refine o_okI (fun _ => ?_) (fun _ => j31 _ (fun _ => True.intro))
  exact o_okI (fun _ => j31 _ (fun _ => True.intro)) (fun _ => j31 _ (fun _ => True.intro))
theorem s_MT_value {n d : Nat} {v0 v1 : Int32} {a0 : SMT} (hn : o_big ≤ n) (hd : 0 ≤ v1 ∧ v1 ≤ 40 ∧ 41 ≤ v1.toInt + d) (h_a0 : I_MT a0) (t_a0 : T_MT a0) (p1 : 0 < MT_values a0 → 0 ≤ v0 ∧ v0 < MT_values a0) : o_ok (m_MT_value n d v0 v1 a0) (p_ok a0 v0) := by
  induction d generalizing v0 v1 a0 with
  | zero =>
    have a := Int32.le_iff_toInt_le.mp hd.2.1
    have z : (40 : Int32).toInt = 40 := rfl
    rw [z] at a
    have b := hd.2.2
    exfalso; omega
  | succ d ih =>
    refine s_MT_value_F hn ?_ h_a0 t_a0 p1
    intro h p s hI hT hp
    refine ih ?_ hI hT hp
    have a := o_add1 (x := v1) (by have := hd.2.1; grind)
    rw [a]
    have b := hd.2.2
    have c := hd.1
    have e := hd.2.1
    refine ⟨by clear hT hI ih t_a0; grind, by clear hT hI ih t_a0; grind, by omega⟩
theorem s_MT_read {n : Nat} {x1 : Int32} {a0 : SMT} (hn : o_big ≤ n) (h0 : 0 ≤ x1) (h1 : x1 ≤ 8192) : o_ok (m_MT_read n x1 a0) (fun r => I_MT r.2 ∧ T_MT r.2) := by
  unfold m_MT_read
  obtain ⟨c, hc⟩ : ∃ c : SMT, c = MT_mk (MT_text a0) (MT_kind a0) (MT_place a0) (MT_many a0) (MT_parent a0) (MT_power a0) (MT_first a0) (MT_next a0) (MT_name a0) (MT_from a0) (MT_characters a0) (MT_digits a0) (MT_minus a0) (0:Int32) x1 (0:Int32) (-1:Int32) (0:Int32) (0:Int32) (MT_left a0) := ⟨_, rfl⟩
  have vac : ∀ s : SMT, MT_values s = 0 → T_MT s := by
    intro s e x x0 hx
    rw [e] at hx
    exact absurd (Int32.lt_of_le_of_lt x0 hx) (by decide)
  have hI : I_MT c := by
    rw [hc]
    have z0 : (0:Int32) ≤ 0 := by decide
    have z1 : (0:Int32) ≤ 1000 := by decide
    have z2 : (0:Int32) ≤ 8300 := by decide
    have z3 : (0:Int32) ≤ 4000 := by decide
    have z4 : (0:Int32) ≤ 8192 := by decide
    exact ⟨z0, z1, h0, h1, z0, z2, z0, z3, z0, z4, z0⟩
  have hv : MT_values c = 0 := by rw [hc]
  have hT : T_MT c := vac c hv
  rw [← hc]
  refine o_okB (s_MT_blanks hn hI hT) ?_
  intro q1 ⟨b1, b2, b3, b4, b5, b6⟩
  have fin : ∀ s : SMT, I_MT s → T_MT s → o_ok (m_MT_read_j67 n s) (fun r => I_MT r.2 ∧ T_MT r.2) := by
    intro s hs ts
    unfold m_MT_read_j67
    refine o_okI (fun _ => o_okS ⟨hs, ts⟩) (fun _ => o_okS ⟨⟨(show (0:Int32) ≤ 0 by decide), (show (0:Int32) ≤ 1000 by decide), hs.2.2⟩, vac _ rfl⟩)
  refine o_okB (s_MT_value hn (by decide) b5 b6 (fun z => ?_)) ?_
  · rw [b3, hv] at z
    exact absurd z (by decide)
  intro q2 ⟨r0, v1, v2, v3⟩
  refine o_okI (fun _ => fin _ v2 v3) (fun _ => ?_)
  refine o_okB (s_MT_blanks hn v2 v3) ?_
  intro q3 ⟨f1, f2, f3, f4, f5, f6⟩
  refine o_okI (fun _ => fin _ f5 f6) (fun _ => ?_)
  refine o_okB (s_MT_bad f5 f6) ?_
  intro q4 ⟨k0, k1, k2, k3, k4, k5, k6⟩
  exact fin _ k5 k6
