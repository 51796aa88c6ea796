/-! Names: alike strings, members -/
theorem rr_sameL {n m : Nat} {x y k s1 s2 f1 f2 : Int32} {tc : STx} {a : SMT} (hm : MT_many a x.toNatClampNeg = k) (hf1 : MT_from a x.toNatClampNeg = f1) (hf2 : MT_from a y.toNatClampNeg = f2) (h1 : CEL (Tx_cells tc) (MT_characters a) s1 f1 k) (h2 : CEL (Tx_cells tc) (MT_characters a) s2 f2 k) (k8 : k ≤ 8192) :
    o_p2 (o_lp n (m_Tx_sameString_b102 n s1 s2 k tc tc) (0:Int32)) (o_lp m (m_MT_same_b20 m x y a a) (0:Int32)) (fun q q' => q.1 = 1 ↔ q'.1 = 1) := by
  refine q2lp (fun z z' => 0 ≤ z ∧ z = z') ?_ n m _ _ ⟨by first | decide | (dsimp only <;> decide), rfl⟩
  rintro z z' ⟨z0, rfl⟩
  unfold m_Tx_sameString_b102 m_MT_same_b20
  rw [hm, hf1, hf2]
  refine q2GR (fun _ => q2IB Iff.rfl (fun c => q2S (Or.inr (Or.inl ⟨Nat.succ_ne_zero _, Nat.succ_ne_zero _, Iff.rfl⟩))) (fun c => ?_))
  refine q2GL (fun _ => q2GL (fun _ => q2GR (fun _ => q2GR (fun _ => q2GR (fun _ => q2GR (fun _ => ?_))))))
  rw [h1 z z0 (by grind), h2 z z0 (by grind)]
  refine q2IB Iff.rfl (fun _ => q2NL (q2NR (q2S (Or.inl ⟨rfl, rfl, ?_, rfl⟩)))) (fun _ => q2S (Or.inr (Or.inl ⟨Nat.succ_ne_zero _, Nat.succ_ne_zero _, Iff.rfl⟩)))
  show 0 ≤ z + 1
  grind
theorem rr_same {n m : Nat} {x y : Int32} {tc : STx} {a : SMT} (hu : Tx_used tc ≤ 8192) (hT : Tx_total tc = MT_values a) (x0 : 0 ≤ x) (x1 : x < MT_values a) (y0 : 0 ≤ y) (y1 : y < MT_values a) (hx : NODE tc a x) (hy : NODE tc a y) (kx : MT_kind a x.toNatClampNeg = 4) (ky : MT_kind a y.toNatClampNeg = 4) : o_p2 (m_Tx_sameString n x y tc tc) (m_MT_same m x y a a) (fun r r' => r = r' ∧ (r = 0 ∨ r = 1)) := by
  obtain ⟨sx, mx, nx, _, _, tx, _, _⟩ := hx
  obtain ⟨sy, my, ny, _, _, ty, _, _⟩ := hy
  obtain ⟨g1, g2, g3⟩ := tx kx
  obtain ⟨g4, g5, g6⟩ := ty ky
  unfold m_Tx_sameString m_MT_same
  rw [hT]
  refine q2fL (by grind) (q2fL (by grind) (q2fL (by grind) (q2fL (by grind) (q2GL (fun _ => q2GL (fun _ => q2GR (fun _ => q2GR (fun _ => ?_))))))))
  rw [← mx, ← my]
  refine q2IB Iff.rfl (fun c => ?_) (fun c => q2S ⟨rfl, Or.inl rfl⟩)
  refine q2GL (fun _ => q2NL (q2GL (fun _ => q2NL (q2GL (fun _ => q2NL ?_)))))
  obtain ⟨a1, a2, a3⟩ := g1
  obtain ⟨a4, a5, a6⟩ := g4
  refine q2fL (by grind) (q2fL (by grind) (q2fL (by grind) (q2tL (by rw [c]; grind) ?_)))
  rw [← c] at g6
  refine q2B (rr_sameL (x := x) (y := y) (m := m) mx.symm rfl rfl g3 g6 (by grind)) ?_
  intro q q' hq
  exact q2IB hq (fun _ => q2S ⟨rfl, Or.inl rfl⟩) (fun _ => q2S ⟨rfl, Or.inr rfl⟩)
theorem rr_first {v k o : Int32} {tc : STx} {r : Int32} (v0 : 0 ≤ v) (v1 : v < Tx_total tc) (ho : o = 0 ∨ o = 1) (hk : Tx_kinds tc v.toNatClampNeg = 5 + o) (hs : Tx_sizes tc v.toNatClampNeg = k) (k0 : 0 ≤ k) (e : m_Tx_firstChild v tc = some r) : r = (if 0 < k then v + 1 + o else -1) := by
  unfold m_Tx_firstChild at e
  have e := o_ff (show ¬ v < 0 by grind) e
  have e := o_ff (show ¬ Tx_total tc ≤ v by grind) e
  have e := (o_gd_some e).2
  rw [hs] at e
  by_cases c : k = 0
  · have e := o_tt c e
    cases e
    rw [if_neg (by grind)]
  · have e := o_ff c e
    have e := (o_gd_some e).2
    rw [hk] at e
    rw [if_pos (by grind)]
    rcases ho with rfl | rfl
    · have e := o_tt (show (5:Int32) ≤ 5 + 0 by first | decide | (dsimp only <;> decide)) e
      have e := (o_gd_some e).2
      have e := o_tt (show (5:Int32) + 0 = 5 by first | decide | (dsimp only <;> decide)) e
      cases e
      rw [Int32.add_zero]
    · have e := o_tt (show (5:Int32) ≤ 5 + 1 by first | decide | (dsimp only <;> decide)) e
      have e := (o_gd_some e).2
      have e := o_ff (show ¬ (5:Int32) + 1 = 5 by first | decide | (dsimp only <;> decide)) e
      cases e
      show v + 2 = v + 1 + 1
      rw [Int32.add_assoc]
      rfl
theorem rr_next {v k o i : Int32} {tc : STx} {a : SMT} {cs : Int32 → Int32} {r : Int32} (v0 : 0 ≤ v) (v1 : v < Tx_total tc) (hT : Tx_total tc ≤ 1000) (ho : o = 0 ∨ o = 1) (hk : Tx_kinds tc v.toNatClampNeg = 5 + o) (hs : Tx_sizes tc v.toNatClampNeg = k) (hK : KID tc a v k o cs) (i0 : 0 ≤ i) (i1 : i < k) (e : m_Tx_nextChild (cs i) tc = some r) : r = (if i + 1 < k then cs (i + 1) else -1) := by
  obtain ⟨h1, h2, h3, h4, h5, h6, h7⟩ := hK i i0 i1
  have c0 : 0 ≤ cs i := by rcases ho with rfl | rfl <;> grind
  unfold m_Tx_nextChild m_Tx_nextChild_j22 at e
  have e := o_ff (show ¬ cs i < 0 by grind) e
  have e := o_ff (show ¬ Tx_total tc ≤ cs i by grind) e
  have e := (o_gd_some e).2
  rw [h3] at e
  have e := o_ff (show ¬ v < 0 by grind) e
  have e := o_ff (show ¬ Tx_total tc ≤ v by grind) e
  have e := (o_gd_some (o_gd_some e).2).2
  rw [h4, hs] at e
  by_cases c : i + 1 < k
  · have e := o_tt c e
    have e := (o_gd_some e).2
    rw [hk] at e
    rw [if_pos c, h7 c]
    rcases ho with rfl | rfl
    · have e := o_tt (show (5:Int32) + 0 = 5 by first | decide | (dsimp only <;> decide)) e
      have e := (o_gd_some e).2
      cases e
      rw [Int32.add_zero]
    · have e := o_ff (show ¬ (5:Int32) + 1 = 5 by first | decide | (dsimp only <;> decide)) e
      have e := (o_gd_some e).2
      cases e
      rfl
  · have e := o_ff c e
    cases e
    rw [if_neg c]
theorem rr_member {n m : Nat} {rec : Int32 → Int32 → SMT → Option (Int32 × SMT)} {x2 x4 x5 v nm k : Int32} {tc : STx} {a : SMT} (hu : Tx_used tc ≤ 8192) (hT : Tx_total tc = MT_values a) (h10 : MT_values a ≤ 1000) (v0 : 0 ≤ v) (v1 : v < MT_values a) (hk : Tx_kinds tc v.toNatClampNeg = 6) (hs : Tx_sizes tc v.toNatClampNeg = k) (hK : KIN tc a v k 1) (hN : NR (v + 1) tc a) (n0 : v + 1 ≤ nm) (n1 : nm < MT_values a) (n4 : MT_kind a nm.toNatClampNeg = 4) :
    o_p2 (m_Tx_member n v nm tc tc) (o_lp m (m_MT_object_b127 m rec x2 v x4 x5 nm a) (MT_first a v.toNatClampNeg)) (fun r q => (r = -1 ∧ q.1 ≠ 1) ∨ (r ≠ -1 ∧ q.1 = 1)) := by
  obtain ⟨k0, k60, cs, g1, g2, g3⟩ := hK
  have hvT : v < Tx_total tc := by rw [hT]; exact v1
  have hT10 : Tx_total tc ≤ 1000 := by rw [hT]; exact h10
  unfold m_Tx_member
  refine q2L (fun q1 e1 => ?_)
  have e1 := rr_first v0 hvT (Or.inr rfl) hk hs k0 e1
  have hv1000 : v < 1000 := by grind
  intro r q' er eq'
  obtain ⟨q5, e5, er⟩ := o_bd_some er
  have key := q2lp (f := m_Tx_member_b10 n v nm tc tc) (g := m_MT_object_b127 m rec x2 v x4 x5 nm a) (P := fun q q' => (q.1 = 1 ∧ q'.1 = 1 ∧ 0 ≤ q.2.1) ∨ (q.1 ≠ 1 ∧ q'.1 ≠ 1)) (fun z z' => ∃ i, 0 ≤ i ∧ i ≤ k ∧ z.2 = i ∧ (i < k → z.1 = cs i ∧ z' = cs i) ∧ (i = k → z' = -1)) ?_ n m (q1, 0) (MT_first a v.toNatClampNeg) ?_ q5 q' e5 eq'
  · rcases key with ⟨p1, p2, p3⟩ | ⟨p1, p2⟩
    · have er := o_tt p1 er
      cases er
      exact Or.inr ⟨by intro z; rw [z] at p3; exact absurd p3 (by first | decide | (dsimp only <;> decide)), p2⟩
    · have er := o_ff p1 er
      cases er
      exact Or.inl ⟨rfl, p2⟩
  · rintro ⟨c, i'⟩ c' ⟨i, i0, i1, i2, i3, i4⟩
    replace i2 : i' = i := i2
    subst i2
    unfold m_Tx_member_b10 m_MT_object_b127
    have hsz : ∀ q2, m_Tx_size v tc = some q2 → q2 = k := by
      intro q2 e
      unfold m_Tx_size at e
      have e := o_ff (show ¬ v < 0 by grind) e
      have e := o_ff (show ¬ Tx_total tc ≤ v by grind) e
      have e := (o_gd_some e).2
      cases e
      exact hs
    refine q2L (fun q2 e2 => ?_)
    have e2 := hsz q2 e2
    subst e2
    by_cases ci : i' = q2
    · have := i4 ci
      subst this
      refine q2tL (show q2 ≤ i' by rw [ci]; exact Int32.le_refl _) (q2tR (by first | decide | (dsimp only <;> decide)) (q2S (Or.inr (Or.inl ⟨Nat.succ_ne_zero _, Nat.succ_ne_zero _, Or.inr ⟨by first | decide | (dsimp only <;> decide), by first | decide | (dsimp only <;> decide)⟩⟩))))
    · have il : i' < q2 := by grind
      obtain ⟨j1, j2⟩ := i3 il
      replace j1 : c = cs i' := j1
      subst j1 j2
      obtain ⟨h1, h2, h3, h4, h5, h6, h7⟩ := g3 i' i0 il
      obtain ⟨h5, h8⟩ := h5 rfl
      have c0 : 0 ≤ cs i' := by grind
      have cl : cs i' < MT_values a := by rw [← hT]; exact h2
      have hNn := hN (cs i' - 1) (by grind) (by grind)
      refine q2fL (show ¬ q2 ≤ i' by grind) (q2fR (by grind) (q2GR (fun _ => ?_)))
      rw [h5, h6]
      refine q2B (rr_same hu hT (by grind) (by grind) (by grind) n1 hNn (hN nm n0 (by rw [hT]; exact n1)) (by rw [← hNn.1.1]; exact h8) n4) ?_
      rintro t t' ⟨rfl, t01⟩
      refine q2IB Iff.rfl (fun ct => ?_) (fun ct => ?_)
      · refine q2L (fun q4 e4 => q2NL (q2GR (fun _ => q2NR ?_)))
        have e4 := rr_next v0 hvT hT10 (Or.inr rfl) hk hs g3 i0 il e4
        subst e4
        refine q2S (Or.inl ⟨rfl, rfl, i' + 1, by grind, by grind, rfl, ?_, ?_⟩)
        · intro z
          show (if i' + 1 < q2 then cs (i' + 1) else -1) = _ ∧ (if i' + 1 < q2 then cs (i' + 1) else -1) = _
          rw [if_pos z]
          exact ⟨rfl, rfl⟩
        · intro z
          show (if i' + 1 < q2 then cs (i' + 1) else -1) = _
          rw [if_neg (by rw [z]; grind)]
      · exact q2S (Or.inr (Or.inl ⟨Nat.succ_ne_zero _, Nat.succ_ne_zero _, Or.inl ⟨rfl, rfl, c0⟩⟩))
  · refine ⟨0, by first | decide | (dsimp only <;> decide), k0, rfl, ?_, ?_⟩
    · intro z
      show q1 = _ ∧ _
      rw [e1, g2, if_pos z, if_pos z]
      exact ⟨g1.symm, rfl⟩
    · intro z
      rw [g2, if_neg (by rw [← z]; first | decide | (dsimp only <;> decide))]
