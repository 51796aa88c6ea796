/-! How deep the nodes of a text lie -/
def PVr (a b : SMT) : Prop := MT_parent b = MT_parent a ∧ MT_values b = MT_values a
theorem PV_rfl {a : SMT} : PVr a a := ⟨rfl, rfl⟩
theorem PV_trans {a b c : SMT} (h : PVr a b) (g : PVr b c) : PVr a c := ⟨g.1.trans h.1, g.2.trans h.2⟩
theorem d_bad {x1 : Int32} {a0 : SMT} : o_pc (m_MT_bad x1 a0) (fun r => PVr a0 r.2) := by
  unfold m_MT_bad
  exact pcI (fun _ => pcS PV_rfl) (fun _ => pcS ⟨rfl, rfl⟩)
theorem d_put {x1 x2 : Int32} {a0 : SMT} : o_pc (m_MT_put x1 x2 a0) (fun r => PVr a0 r.2) := by
  unfold m_MT_put
  exact pcI (fun _ => pcB d_bad (fun q hq => pcG (fun _ => pcS hq))) (fun _ => pcG (fun _ => pcS ⟨rfl, rfl⟩))
theorem d_blanks {n : Nat} {a0 : SMT} : o_pc (m_MT_blanks n a0) (fun r => PVr a0 r) := by
  unfold m_MT_blanks
  refine pcB (pcLs (fun z => PVr a0 z) ?_ n a0 PV_rfl) (fun q hq => pcS hq)
  intro z hz
  have j : o_pc (m_MT_blanks_j52 n z) (fun q => PVr a0 q.2) := by
    unfold m_MT_blanks_j52
    exact pcS hz
  unfold m_MT_blanks_b0
  exact pcX (fun _ => pcI (fun _ => j) (fun _ => pcX (fun _ => pcI (fun _ => j) (fun _ => pcX (fun _ => pcI (fun _ => j) (fun _ => pcX (fun _ => pcI (fun _ => j) (fun _ => pcS hz))))))))
theorem d_esc273 {n : Nat} {x1 x3 y0 : Int32} {a0 : SMT} : o_pc (m_MT_escape_j273 n x1 x3 y0 a0) (fun r => PVr a0 r.2) := by
  unfold m_MT_escape_j273
  exact pcX (fun _ => pcI (fun _ => pcB d_bad (fun q hq => pcG (fun _ => pcS hq))) (fun _ => pcB d_put (fun q hq => pcG (fun _ => pcS hq))))
theorem d_esc159 {n : Nat} {x4 : Int32} {a0 : SMT} : o_pc (m_MT_escape_j159 n x4 a0) (fun r => PVr a0 r.2) := by
  unfold m_MT_escape_j159
  exact pcB d_bad (fun q hq => pcG (fun _ => pcS hq))
theorem d_esc86 {n : Nat} {x1 x2 y0 : Int32} {a0 : SMT} : o_pc (m_MT_escape_j86 n x1 x2 y0 a0) (fun r => PVr a0 r.2) := by
  unfold m_MT_escape_j86
  refine pcI (fun _ => pcI (fun _ => pcX (fun _ => pcI (fun _ => d_esc159) (fun _ => pcX (fun _ => pcX (fun _ => pcI (fun _ => pcX (fun _ => pcI (fun _ => ?_) (fun _ => pcX (fun _ => pcI (fun _ => pcX (fun _ => pcI (fun _ => pcX (fun _ => d_esc273)) (fun _ => d_esc273))) (fun _ => d_esc273))))) (fun _ => ?_)))))) (fun _ => ?_)) (fun _ => ?_)
  · exact pcB d_put (fun q hq => pcG (fun _ => pcS hq))
  · exact pcB d_bad (fun q hq => pcG (fun _ => pcS hq))
  · exact pcB d_bad (fun q hq => pcG (fun _ => pcS hq))
  · exact pcB d_put (fun q hq => pcG (fun _ => pcS hq))
theorem d_escape {n : Nat} {x1 : Int32} {a0 : SMT} : o_pc (m_MT_escape n x1 a0) (fun r => PVr a0 r.2) := by
  unfold m_MT_escape
  refine pcX (fun _ => ?_)
  iterate 8 refine pcI (fun _ => d_esc86) (fun _ => ?_)
  exact d_esc86
theorem d_w210 {n : Nat} {x1 x3 x4 : Int32} {a0 : SMT} : o_pc (m_MT_wide_j210 n x1 x3 x4 a0) (fun r => PVr a0 r.2) := by
  unfold m_MT_wide_j210
  exact pcB d_put (fun q hq => pcG (fun _ => pcS hq))
theorem d_w204 {n : Nat} {x1 : Int32} {a0 : SMT} : o_pc (m_MT_wide_j204 n x1 a0) (fun r => PVr a0 r.2) := by
  unfold m_MT_wide_j204
  exact pcB d_bad (fun q hq => pcG (fun _ => pcS hq))
theorem d_w187 {n : Nat} {x1 x3 x4 : Int32} {a0 : SMT} : o_pc (m_MT_wide_j187 n x1 x3 x4 a0) (fun r => PVr a0 r.2) := by
  unfold m_MT_wide_j187
  exact pcI (fun _ => pcX (fun _ => pcI (fun _ => d_w204) (fun _ => d_w210))) (fun _ => d_w210)
theorem d_w90 {n : Nat} {x1 x3 y0 : Int32} {a0 : SMT} : o_pc (m_MT_wide_j90 n x1 x3 y0 a0) (fun r => PVr a0 r.2) := by
  unfold m_MT_wide_j90
  refine pcI (fun _ => pcB d_bad (fun q hq => pcG (fun _ => pcS hq))) (fun _ => pcX (fun _ => pcI (fun _ => pcB d_bad (fun q hq => pcG (fun _ => pcS hq))) (fun _ => ?_)))
  exact pcI (fun _ => pcI (fun _ => d_w204) (fun _ => pcX (fun _ => pcI (fun _ => d_w187) (fun _ => d_w204)))) (fun _ => d_w187)
theorem d_w61 {n : Nat} {x1 x2 y0 : Int32} {a0 : SMT} : o_pc (m_MT_wide_j61 n x1 x2 y0 a0) (fun r => PVr a0 r.2) := by
  unfold m_MT_wide_j61
  exact pcI (fun _ => d_w90) (fun _ => pcI (fun _ => d_w90) (fun _ => d_w90))
theorem d_w42 {n : Nat} {x1 x2 : Int32} {a0 : SMT} : o_pc (m_MT_wide_j42 n x1 x2 a0) (fun r => PVr a0 r.2) := by
  unfold m_MT_wide_j42
  exact pcI (fun _ => d_w61) (fun _ => pcI (fun _ => d_w61) (fun _ => d_w61))
theorem d_w24 {n : Nat} {x1 x2 : Int32} {a0 : SMT} : o_pc (m_MT_wide_j24 n x1 x2 a0) (fun r => PVr a0 r.2) := by
  unfold m_MT_wide_j24
  exact pcI (fun _ => d_w42) (fun _ => pcI (fun _ => d_w42) (fun _ => d_w61))
theorem d_wide {n : Nat} {x1 : Int32} {a0 : SMT} : o_pc (m_MT_wide n x1 a0) (fun r => PVr a0 r.2) := by
  unfold m_MT_wide
  exact pcX (fun _ => pcI (fun _ => d_w24) (fun _ => pcI (fun _ => d_w24) (fun _ => d_w61)))
theorem d_466 {n : Nat} {x2 x3 x4 x5 x7 x8 : Int32} {a0 : SMT} : o_pc (m_MT_number_j466 n x2 x3 x4 x5 x7 x8 a0) (fun r => PVr a0 r.2) := by
  have bad : o_pc (m_MT_number_j479 n x3 a0) (fun r => PVr a0 r.2) := by
    unfold m_MT_number_j479
    exact pcB d_bad (fun q hq => pcG (fun _ => pcS hq))
  unfold m_MT_number_j466
  refine pcI (fun _ => bad) (fun _ => pcI (fun _ => pcX (fun _ => pcX (fun _ => ?_))) (fun _ => bad))
  unfold m_MT_number_j549 m_MT_number_j596 m_MT_number_j613
  exact pcG (fun _ => pcG (fun _ => pcG (fun _ => pcI (fun _ => pcG (fun _ => pcG (fun _ => pcI (fun _ => pcG (fun _ => pcS ⟨rfl, rfl⟩)) (fun _ => pcS ⟨rfl, rfl⟩)))) (fun _ => pcG (fun _ => pcG (fun _ => pcI (fun _ => pcG (fun _ => pcS ⟨rfl, rfl⟩)) (fun _ => pcS ⟨rfl, rfl⟩)))))))
theorem d_369 {n : Nat} {x2 x3 x4 x5 x7 x8 x9 : Int32} {a0 : SMT} : o_pc (m_MT_number_j369 n x2 x3 x4 x5 x7 x8 x9 a0) (fun r => PVr a0 r.2) := by
  unfold m_MT_number_j369
  refine pcX (fun _ => pcX (fun _ => pcI (fun _ => pcB d_bad (fun q hq => pcG (fun _ => pcS hq))) (fun _ => ?_)))
  refine pcB (pcLs (fun z : Int32 × Int32 × SMT => PVr a0 z.2.2) ?_ n _ PV_rfl) (fun q hq => ?_)
  · intro z hz
    unfold m_MT_number_b396 m_MT_number_j440
    exact pcX (fun _ => pcX (fun _ => pcI (fun _ => pcS hz) (fun _ => pcI (fun _ => pcN (fun _ _ => pcS hz)) (fun _ => pcX (fun _ => pcN (fun _ _ => pcN (fun _ _ => pcS hz)))))))
  · exact pcI (fun _ => pcW d_466 (fun r hr => PV_trans hq hr)) (fun _ => pcN (fun _ _ => pcW d_466 (fun r hr => PV_trans hq hr)))
theorem d_281 {n : Nat} {x2 x3 x4 x5 : Int32} {a0 : SMT} : o_pc (m_MT_number_j281 n x2 x3 x4 x5 a0) (fun r => PVr a0 r.2) := by
  have j331 : ∀ (x7 x8 y0 : Int32) (s : SMT), PVr a0 s → o_pc (m_MT_number_j331 n x2 x3 x4 x5 x7 x8 y0 s) (fun r => PVr a0 r.2) := by
    intro x7 x8 y0 s hs
    unfold m_MT_number_j331 m_MT_number_j359
    exact pcX (fun _ => pcI (fun _ => pcW d_369 (fun r hr => PV_trans hs hr)) (fun _ => pcX (fun _ => pcI (fun _ => pcW d_369 (fun r hr => PV_trans hs hr)) (fun _ => pcW d_369 (fun r hr => PV_trans hs hr)))))
  unfold m_MT_number_j281
  exact pcX (fun _ => pcI (fun _ => pcX (fun _ => pcI (fun _ => j331 _ _ _ _ ⟨rfl, rfl⟩) (fun _ => j331 _ _ _ _ ⟨rfl, rfl⟩))) (fun _ => d_466))
theorem d_174 {n : Nat} {x2 x3 x4 x5 : Int32} {a0 : SMT} : o_pc (m_MT_number_j174 n x2 x3 x4 x5 a0) (fun r => PVr a0 r.2) := by
  unfold m_MT_number_j174
  refine pcX (fun _ => pcI (fun _ => pcX (fun _ => pcX (fun _ => pcI (fun _ => pcB d_bad (fun q hq => pcG (fun _ => pcS hq))) (fun _ => ?_)))) (fun _ => d_281))
  refine pcB (pcLs (fun z : Int32 × Int32 × SMT => PVr a0 z.2.2) ?_ n _ ⟨rfl, rfl⟩) (fun q hq => pcW d_281 (fun r hr => PV_trans hq hr))
  intro z hz
  unfold m_MT_number_b224
  exact pcX (fun _ => pcX (fun _ => pcI (fun _ => pcS hz) (fun _ => pcN (fun _ _ => pcX (fun _ => pcG (fun _ => pcN (fun _ _ => pcS hz)))))))
theorem d_71 {n : Nat} {x2 x3 x4 x5 : Int32} {a0 : SMT} : o_pc (m_MT_number_j71 n x2 x3 x4 x5 a0) (fun r => PVr a0 r.2) := by
  have lp : ∀ (x6 : Int32), o_pc (o_bd (o_lp n (m_MT_number_b118 n x2 x3 x5 x6) (x4, a0)) fun q32 => m_MT_number_j174 n x2 x3 q32.2.1 x5 q32.2.2) (fun r => PVr a0 r.2) := by
    intro x6
    refine pcB (pcLs (fun z : Int32 × SMT => PVr a0 z.2) ?_ n _ PV_rfl) (fun q hq => pcW d_174 (fun r hr => PV_trans hq hr))
    intro z hz
    unfold m_MT_number_b118
    exact pcN (fun _ _ => pcX (fun _ => pcG (fun _ => pcI (fun _ => pcX (fun _ => pcX (fun _ => pcI (fun _ => pcS hz) (fun _ => pcS hz)))) (fun _ => pcS hz))))
  unfold m_MT_number_j71
  exact pcX (fun _ => pcX (fun _ => pcI (fun _ => pcB d_bad (fun q hq => pcG (fun _ => pcS hq))) (fun _ => pcX (fun _ => pcI (fun _ => lp 1) (fun _ => lp 0)))))
theorem d_51 {n : Nat} {x2 x3 x4 x5 y1 y2 : Int32} {a0 : SMT} : o_pc (m_MT_number_j51 n x2 x3 x4 x5 y1 y2 a0) (fun r => PVr a0 r.2) := by
  unfold m_MT_number_j51
  exact pcG (fun _ => pcG (fun _ => pcI (fun _ => pcW d_71 (fun r hr => hr)) (fun _ => pcW d_71 (fun r hr => hr))))
/-! what a reading adds -/
def PF (a b : SMT) : Prop := MT_values a ≤ MT_values b ∧ ∀ y : Int32, 0 ≤ y → y < MT_values a → MT_parent b y.toNatClampNeg = MT_parent a y.toNatClampNeg
def DD (a b : SMT) : Prop := PF a b ∧ DEEP b
theorem DD_trans {a b c : SMT} (h : DD a b) (g : DD b c) : DD a c := ⟨⟨Int32.le_trans h.1.1 g.1.1, fun y y0 y1 => (g.1.2 y y0 (Int32.lt_of_lt_of_le y1 h.1.1)).trans (h.1.2 y y0 y1)⟩, g.2⟩
theorem DD_pv {a s t : SMT} (h : DD a s) (g : PVr s t) : DD a t := by
  obtain ⟨⟨h1, h2⟩, h3⟩ := h
  obtain ⟨g1, g2⟩ := g
  refine ⟨⟨by rw [g2]; exact h1, fun y y0 y1 => by rw [g1]; exact h2 y y0 y1⟩, ?_⟩
  unfold DEEP
  rw [g1, g2]
  exact h3
theorem DD_of {s t : SMT} (h : DEEP s) (g : PVr s t) : DD s t := DD_pv ⟨⟨Int32.le_refl _, fun _ _ _ => rfl⟩, h⟩ g
theorem d_fresh {x1 x2 : Int32} {a0 : SMT} {D : Nat} (h : DEEP a0) (hx : DPL (MT_parent a0) (MT_values a0) D x1) (hD : D ≤ 40) : o_pc (m_MT_fresh x1 x2 a0) (fun r => DD a0 r.2 ∧ DPL (MT_parent r.2) (MT_values r.2) (D + 1) r.1) := by
  intro r e
  have g : 0 ≤ MT_values a0 ∧ MT_values a0 < 1000 := by
    unfold m_MT_fresh o_nm at e
    exact rr_inE (m := 1000) rfl (o_gd_some e).1
  have e := rr_fresh e
  subst e
  have ne : ∀ y : Int32, 0 ≤ y → y < MT_values a0 → y.toNatClampNeg ≠ (MT_values a0).toNatClampNeg := fun y y0 y1 => o_neq y0 g.1 (by grind)
  have fr : ∀ y : Int32, 0 ≤ y → y < MT_values a0 → upd (MT_parent a0) (MT_values a0).toNatClampNeg x1 y.toNatClampNeg = MT_parent a0 y.toNatClampNeg := fun y y0 y1 => o_updN (ne y y0 y1)
  have le : MT_values a0 ≤ MT_values a0 + 1 := by grind
  have top : DPL (upd (MT_parent a0) (MT_values a0).toNatClampNeg x1) (MT_values a0 + 1) (D + 1) (MT_values a0) := by
    refine Or.inr ⟨g.1, by grind, ?_⟩
    rw [o_updE]
    exact DPL_mono le fr D x1 hx
  refine ⟨⟨⟨le, fr⟩, ?_⟩, top⟩
  intro y y0 y1
  replace y1 : y < MT_values a0 + 1 := y1
  show DPL (upd (MT_parent a0) (MT_values a0).toNatClampNeg x1) (MT_values a0 + 1) 41 y
  by_cases c : y = MT_values a0
  · rw [c]
    exact DPL_le top (by omega)
  · exact DPL_mono le fr 41 y (h y y0 (by grind))
theorem d_word {n x1 : Nat} {x2 x3 : Int32} {a0 : SMT} {D : Nat} (h : DEEP a0) (hx : DPL (MT_parent a0) (MT_values a0) D x2) (hD : D ≤ 40) : o_pc (m_MT_word n x1 x2 x3 a0) (fun r => DD a0 r.2) := by
  unfold m_MT_word
  refine pcB (d_fresh h hx hD) (fun q1 h1 => ?_)
  refine pcB (pcLs (fun z => PVr q1.2 z.2) ?_ n _ PV_rfl) (fun q5 h5 => ?_)
  · intro z hz
    unfold m_MT_word_b10
    exact pcX (fun _ => pcI (fun _ => pcS hz) (fun _ => pcX (fun _ => pcX (fun _ => pcI (fun _ => pcN (fun _ _ => pcS hz)) (fun _ => pcS hz)))))
  · exact pcI (fun _ => pcB d_bad (fun q hq => pcG (fun _ => pcS (DD_pv h1.1 (PV_trans h5 hq))))) (fun _ => pcS (DD_pv h1.1 h5))
theorem d_string {n : Nat} {x1 : Int32} {a0 : SMT} {D : Nat} (h : DEEP a0) (hx : DPL (MT_parent a0) (MT_values a0) D x1) (hD : D ≤ 40) : o_pc (m_MT_string n x1 a0) (fun r => DD a0 r.2) := by
  unfold m_MT_string
  refine pcB (d_fresh h hx hD) (fun q1 ⟨h1, h2⟩ => pcG (fun _ => ?_))
  refine pcB (pcLs (fun z => PVr q1.2 z) ?_ n _ ⟨rfl, rfl⟩) (fun q6 h6 => ?_)
  · intro z hz
    unfold m_MT_string_b27
    refine pcX (fun _ => pcN (fun _ _ => pcI (fun _ => pcI (fun _ => pcS hz) (fun _ => pcI (fun _ => ?_) (fun _ => pcI (fun _ => ?_) (fun _ => ?_)))) (fun _ => pcS hz)))
    · exact pcB d_escape (fun q hq => pcI (fun _ => pcS (PV_trans hz hq)) (fun _ => pcS (PV_trans hz hq)))
    · exact pcB d_wide (fun q hq => pcI (fun _ => pcS (PV_trans hz hq)) (fun _ => pcS (PV_trans hz hq)))
    · exact pcB d_put (fun q hq => pcI (fun _ => pcS (PV_trans hz hq)) (fun _ => pcS (PV_trans hz hq)))
  have h7 : DD a0 q6.2 := DD_pv h1 h6
  exact pcI (fun _ => pcB d_bad (fun q hq => pcG (fun _ => pcS (DD_pv h7 hq)))) (fun _ => pcI (fun _ => pcG (fun _ => pcG (fun _ => pcS (DD_pv h7 ⟨rfl, rfl⟩)))) (fun _ => pcI (fun _ => pcS h7) (fun _ => pcI (fun _ => pcS h7) (fun _ => pcS h7))))
theorem d_number {n : Nat} {x1 : Int32} {a0 : SMT} {D : Nat} (h : DEEP a0) (hx : DPL (MT_parent a0) (MT_values a0) D x1) (hD : D ≤ 40) : o_pc (m_MT_number n x1 a0) (fun r => DD a0 r.2) := by
  unfold m_MT_number
  refine pcB (d_fresh h hx hD) (fun q1 ⟨h1, h2⟩ => pcN (fun x3 _ => pcG (fun _ => ?_)))
  exact pcX (fun _ => pcI (fun _ => pcW d_51 (fun r hr => DD_pv h1 hr)) (fun _ => pcW d_51 (fun r hr => DD_pv h1 hr)))
def OBD (a : SMT) (v : Int32) (D : Nat) (s : SMT) : Prop := DD a s ∧ DPL (MT_parent s) (MT_values s) D v
theorem OBD_step {a s t : SMT} {v : Int32} {D : Nat} (h : OBD a v D s) (g : DD s t) : OBD a v D t := ⟨DD_trans h.1 g, DPL_mono g.1.1 g.1.2 D v h.2⟩
theorem OBD_pv {a s t : SMT} {v : Int32} {D : Nat} (h : OBD a v D s) (g : PVr s t) : OBD a v D t := OBD_step h (DD_of h.1.2 g)
abbrev TRx : Type := Int32 → Int32 → SMT → Option (Int32 × SMT)
def RDx (rec : TRx) (y : Int32) : Prop := ∀ (x : Int32) (s : SMT) (D : Nat), DEEP s → DPL (MT_parent s) (MT_values s) D x → y.toInt = D → D ≤ 40 → o_pc (rec x y s) (fun r => DD s r.2)
theorem d_array {n : Nat} {rec : TRx} {x1 x2 : Int32} {a0 : SMT} {D : Nat} (hr : RDx rec (x2 + 1)) (h : DEEP a0) (hx : DPL (MT_parent a0) (MT_values a0) D x1) (hy : (x2 + 1).toInt = D + 1) (hD : D < 40) : o_pc (m_MT_array n rec x1 x2 a0) (fun r => DD a0 r.2) := by
  unfold m_MT_array
  refine pcB (d_fresh h hx (by omega)) (fun q1 h1 => pcB d_blanks (fun q2 hq2 => ?_))
  have o1 : OBD a0 q1.1 (D + 1) q1.2 := h1
  have o2 : OBD a0 q1.1 (D + 1) q2 := OBD_pv o1 (PV_trans ⟨rfl, rfl⟩ hq2)
  have j131 : ∀ (x5 : Int32) (s : SMT), OBD a0 q1.1 (D + 1) s → o_pc (m_MT_array_j131 n rec x2 q1.1 x5 s) (fun q => OBD a0 q1.1 (D + 1) q.2.2) := by
    intro x5 s hs
    unfold m_MT_array_j131
    refine pcG (fun _ => pcG (fun _ => pcB d_blanks (fun q6 h6 => ?_)))
    have o6 : OBD a0 q1.1 (D + 1) q6 := OBD_pv hs (PV_trans ⟨rfl, rfl⟩ h6)
    exact pcX (fun _ => pcI (fun _ => pcS o6) (fun _ => pcX (fun _ => pcI (fun _ => pcS (OBD_pv o6 ⟨rfl, rfl⟩)) (fun _ => pcS o6))))
  have j87 : ∀ (x4 : Int32) (s : SMT), OBD a0 q1.1 (D + 1) s → o_pc (m_MT_array_j87 n rec x2 q1.1 x4 s) (fun q => OBD a0 q1.1 (D + 1) q.2.2) := by
    intro x4 s hs
    unfold m_MT_array_j87
    refine pcN (fun _ _ => pcB (hr _ _ (D + 1) hs.1.2 hs.2 hy (by omega)) (fun q5 h5 => ?_))
    have o5 := OBD_step hs h5
    exact pcI (fun _ => pcS o5) (fun _ => pcI (fun _ => pcG (fun _ => j131 _ _ (OBD_pv o5 ⟨rfl, rfl⟩))) (fun _ => pcG (fun _ => j131 _ _ (OBD_pv o5 ⟨rfl, rfl⟩))))
  refine pcX (fun _ => pcI (fun _ => pcS (DD_pv o2.1 ⟨rfl, rfl⟩)) (fun _ => ?_))
  refine pcB (pcLs (fun z : Int32 × SMT => OBD a0 q1.1 (D + 1) z.2) ?_ n _ o2) (fun q hq => ?_)
  · intro z hz
    unfold m_MT_array_b49
    refine pcB d_blanks (fun q4 h4 => pcG (fun _ => ?_))
    have o4 := OBD_pv hz h4
    exact pcI (fun _ => pcX (fun _ => pcX (fun _ => pcI (fun _ => j87 _ _ o4) (fun _ => pcS o4)))) (fun _ => j87 _ _ o4)
  have hq : DD a0 q.2.2 := hq.1
  exact pcI (fun _ => pcB d_bad (fun r hr => pcG (fun _ => pcS (DD_pv hq hr)))) (fun _ => pcI (fun _ => pcS hq) (fun _ => pcI (fun _ => pcS (DD_pv hq ⟨rfl, rfl⟩)) (fun _ => pcB d_bad (fun r hr => pcG (fun _ => pcS (DD_pv hq hr))))))
theorem d_object {n : Nat} {rec : TRx} {x1 x2 : Int32} {a0 : SMT} {D : Nat} (hr : RDx rec (x2 + 1)) (h : DEEP a0) (hx : DPL (MT_parent a0) (MT_values a0) D x1) (hy : (x2 + 1).toInt = D + 1) (hD : D < 40) : o_pc (m_MT_object n rec x1 x2 a0) (fun r => DD a0 r.2) := by
  unfold m_MT_object
  refine pcB (d_fresh h hx (by omega)) (fun q1 h1 => pcB d_blanks (fun q2 hq2 => ?_))
  have o1 : OBD a0 q1.1 (D + 1) q1.2 := h1
  have o2 : OBD a0 q1.1 (D + 1) q2 := OBD_pv o1 (PV_trans ⟨rfl, rfl⟩ hq2)
  have j261 : ∀ (x7 : Int32) (s : SMT), OBD a0 q1.1 (D + 1) s → o_pc (m_MT_object_j261 n rec x2 q1.1 x7 s) (fun q => OBD a0 q1.1 (D + 1) q.2.2.2) := by
    intro x7 s hs
    unfold m_MT_object_j261
    refine pcG (fun _ => pcG (fun _ => pcB d_blanks (fun q6 h6 => ?_)))
    have o6 : OBD a0 q1.1 (D + 1) q6 := OBD_pv hs (PV_trans ⟨rfl, rfl⟩ h6)
    exact pcX (fun _ => pcI (fun _ => pcS o6) (fun _ => pcX (fun _ => pcI (fun _ => pcS (OBD_pv o6 ⟨rfl, rfl⟩)) (fun _ => pcS o6))))
  refine pcX (fun _ => pcI (fun _ => pcS (DD_pv o2.1 ⟨rfl, rfl⟩)) (fun _ => ?_))
  refine pcB (pcLs (fun z : Int32 × Int32 × SMT => OBD a0 q1.1 (D + 1) z.2.2) ?_ n _ o2) (fun q hq => ?_)
  · intro z hz
    unfold m_MT_object_b50
    refine pcB d_blanks (fun q4 h4 => pcX (fun _ => ?_))
    have o4 := OBD_pv hz h4
    refine pcI (fun _ => pcG (fun _ => pcI (fun _ => pcS o4) (fun _ => pcI (fun _ => pcS o4) (fun _ => pcN (fun _ _ => pcN (fun _ _ => ?_)))))) (fun _ => pcS o4)
    refine pcB (d_string o4.1.2 o4.2 (by omega)) (fun q6 h6 => ?_)
    have o6 := OBD_step o4 h6
    refine pcI (fun _ => pcS o6) (fun _ => pcG (fun _ => pcN (fun _ _ => pcX (fun _ => pcI (fun _ => pcS o6) (fun _ => ?_)))))
    refine pcB d_blanks (fun q9 h9 => pcX (fun _ => ?_))
    have o9 := OBD_pv o6 h9
    refine pcI (fun _ => ?_) (fun _ => pcS o9)
    refine pcB d_blanks (fun q11 h11 => pcN (fun _ _ => ?_))
    have o11 : OBD a0 q1.1 (D + 1) q11 := OBD_pv o9 (PV_trans ⟨rfl, rfl⟩ h11)
    refine pcB (hr _ _ (D + 1) o11.1.2 o11.2 hy (by omega)) (fun q12 h12 => ?_)
    have o12 := OBD_step o11 h12
    exact pcI (fun _ => pcS o12) (fun _ => pcG (fun _ => pcI (fun _ => pcG (fun _ => j261 _ _ (OBD_pv o12 ⟨rfl, rfl⟩))) (fun _ => pcG (fun _ => j261 _ _ (OBD_pv o12 ⟨rfl, rfl⟩)))))
  have hq : DD a0 q.2.2.2 := hq.1
  have bad : ∀ x : Int32, o_pc (m_MT_bad x q.2.2.2) (fun r => DD a0 r.2) := fun x => pcW d_bad (fun r hr => DD_pv hq hr)
  have j88 : o_pc (m_MT_object_j88 n rec q.2.2.2) (fun r => DD a0 r.2) := by
    unfold m_MT_object_j88
    exact pcB (bad _) (fun r hr => pcG (fun _ => pcS hr))
  refine pcI (fun _ => j88) (fun _ => pcI (fun _ => pcS hq) (fun _ => pcI (fun _ => pcB (bad _) (fun r hr => pcG (fun _ => pcS hr))) (fun _ => pcI (fun _ => pcB (bad _) (fun r hr => pcG (fun _ => pcS hr))) (fun _ => pcI (fun _ => pcS hq) (fun _ => pcI (fun _ => pcS ?_) (fun _ => pcB (bad _) (fun r hr => pcG (fun _ => pcS hr))))))))
  exact DD_pv hq ⟨rfl, rfl⟩
theorem d_value83 {n : Nat} {rec : TRx} {x1 x2 x3 x4 : Int32} {a0 : SMT} {D : Nat} (hr : x2 ≠ 40 → RDx rec (x2 + 1)) (h : DEEP a0) (hx : DPL (MT_parent a0) (MT_values a0) D x1) (hy : x2.toInt = D) (hD : D ≤ 40) : o_pc (m_MT_value_j83 n rec x1 x2 x3 x4 a0) (fun r => DD a0 r.2) := by
  have bad : ∀ x : Int32, o_pc (m_MT_bad x a0) (fun r => DD a0 r.2) := fun x => pcW d_bad (fun r hr => DD_of h hr)
  have lt : x2 ≠ 40 → D < 40 := by
    intro z
    have : D ≠ 40 := by
      intro e
      apply z
      apply Int32.toInt_inj.mp
      rw [hy, e]
      rfl
    omega
  have s1 : x2 ≠ 40 → (x2 + 1).toInt = D + 1 := by
    intro z
    have hlt : x2 < 2147483647 := by
      rw [Int32.lt_iff_toInt_lt, hy]
      have : (2147483647:Int32).toInt = 2147483647 := rfl
      rw [this]
      omega
    rw [o_add1 hlt, hy]
  unfold m_MT_value_j83
  refine pcI (fun _ => pcB (bad _) (fun r hr => pcG (fun _ => pcS hr))) (fun _ => pcI (fun _ => ?_) (fun _ => pcI (fun _ => ?_) (fun _ => pcI (fun _ => ?_) (fun _ => pcI (fun _ => ?_) (fun _ => pcI (fun _ => pcI (fun _ => ?_) (fun z => pcI (fun _ => ?_) (fun _ => ?_))) (fun _ => ?_))))))
  · exact pcB (d_word h hx hD) (fun r hr => pcG (fun _ => pcS hr))
  · exact pcB (d_word h hx hD) (fun r hr => pcG (fun _ => pcS hr))
  · exact pcB (d_word h hx hD) (fun r hr => pcG (fun _ => pcS hr))
  · exact pcB (d_string h hx hD) (fun r hr => pcG (fun _ => pcS hr))
  · exact pcB (bad _) (fun r hr => pcG (fun _ => pcS hr))
  · exact pcB (d_array (hr z) h hx (s1 z) (lt z)) (fun r hr => pcG (fun _ => pcS hr))
  · exact pcB (d_object (hr z) h hx (s1 z) (lt z)) (fun r hr => pcG (fun _ => pcS hr))
  · exact pcB (d_number h hx hD) (fun r hr => pcG (fun _ => pcS hr))
theorem d_value {n : Nat} : ∀ (d : Nat) (y : Int32), RDx (m_MT_value n d) y := by
  intro d
  induction d with
  | zero => intro y x s D _ _ _ _ r e; cases e
  | succ d ih =>
    intro y x s D h hx hy hD
    show o_pc (m_MT_value_F n (m_MT_value n d) x y s) (fun r => DD s r.2)
    have bad : ∀ x : Int32, o_pc (m_MT_bad x s) (fun r => DD s r.2) := fun x => pcW d_bad (fun r hr => DD_of h hr)
    have j31 : ∀ (x3 y0 : Int32), o_pc (m_MT_value_j31 n (m_MT_value n d) x y x3 y0 s) (fun r => DD s r.2) := by
      intro x3 y0
      have j := d_value83 (n := n) (rec := m_MT_value n d) (x1 := x) (x2 := y) (x3 := x3) (x4 := y0) (a0 := s) (fun _ => ih (y + 1)) h hx hy hD
      unfold m_MT_value_j31
      exact pcI (fun _ => j) (fun _ => pcI (fun _ => j) (fun _ => pcI (fun _ => j) (fun _ => pcI (fun _ => j) (fun _ => pcI (fun _ => j) (fun _ => pcI (fun _ => j) (fun _ => pcI (fun _ => pcB (bad _) (fun r hr => pcG (fun _ => pcS hr))) (fun _ => j)))))))
    unfold m_MT_value_F
    exact pcX (fun _ => pcX (fun _ => pcI (fun _ => pcI (fun _ => j31 _ _) (fun _ => j31 _ _)) (fun _ => j31 _ _)))
theorem DEEP_0 {a : SMT} (h : MT_values a = 0) : DEEP a := by
  intro x x0 x1
  rw [h] at x1
  exact absurd (Int32.lt_of_le_of_lt x0 x1) (by decide)
theorem d_read {n : Nat} {x1 : Int32} {a0 : SMT} : o_pc (m_MT_read n x1 a0) (fun r => DEEP r.2) := by
  have j67 : ∀ s : SMT, DEEP s → o_pc (m_MT_read_j67 n s) (fun r => DEEP r.2) := by
    intro s hs
    unfold m_MT_read_j67
    exact pcI (fun _ => pcS hs) (fun _ => pcS (DEEP_0 rfl))
  unfold m_MT_read
  refine pcB d_blanks (fun q1 h1 => ?_)
  have g1 : DEEP q1 := DEEP_0 h1.2
  refine pcB (d_value 43 0 (-1) q1 0 g1 rfl rfl (by omega)) (fun q2 h2 => ?_)
  refine pcI (fun _ => j67 _ h2.2) (fun _ => pcB d_blanks (fun q3 h3 => ?_))
  have g3 : DEEP q3 := (DD_pv h2 h3).2
  exact pcI (fun _ => j67 _ g3) (fun _ => pcB d_bad (fun q4 h4 => j67 _ (DD_pv ⟨h2.1, h2.2⟩ (PV_trans h3 h4)).2))
