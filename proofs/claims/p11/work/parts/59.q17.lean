/-! alike -/
def sgn (a : SMT) (x : Int32) : Int32 := if MT_many a x.toNatClampNeg = 0 then 0 else if MT_minus a x.toNatClampNeg = 0 then 1 else -1
theorem sgn_r {a : SMT} {x : Int32} : sgn a x = 0 ∨ sgn a x = 1 ∨ sgn a x = -1 := by
  unfold sgn
  by_cases c : MT_many a x.toNatClampNeg = 0
  · rw [if_pos c]; exact Or.inl rfl
  · rw [if_neg c]
    by_cases d : MT_minus a x.toNatClampNeg = 0
    · rw [if_pos d]; exact Or.inr (Or.inl rfl)
    · rw [if_neg d]; exact Or.inr (Or.inr rfl)
/-- a number of both trees -/
def NMB (tc : STx) (a : SMT) (x : Int32) : Prop := 0 ≤ x ∧ x < Tx_total tc ∧ Tx_sizes tc x.toNatClampNeg = MT_many a x.toNatClampNeg ∧ 0 ≤ MT_many a x.toNatClampNeg ∧ Tx_exponents tc x.toNatClampNeg = MT_power a x.toNatClampNeg ∧ NUM tc a x.toNatClampNeg
theorem rr_sign {tc : STx} {a : SMT} {x q : Int32} (h : NMB tc a x) (e : m_Tx_sign x tc = some q) : q = sgn a x := by
  obtain ⟨h0, h1, h2, h3, h4, h5, _⟩ := h
  unfold m_Tx_sign at e
  have e := o_ff (show ¬ x < 0 by grind) e
  have e := o_ff (show ¬ Tx_total tc ≤ x by grind) e
  have e := (o_gd_some e).2
  rw [h2] at e
  unfold sgn
  by_cases c : MT_many a x.toNatClampNeg = 0
  · have e := o_tt c e
    cases e
    rw [if_pos c]
  · have e := o_ff c e
    have e := (o_gd_some e).2
    rw [h5] at e
    rw [if_neg c]
    by_cases d : MT_minus a x.toNatClampNeg = 0
    · have e := o_tt d e
      cases e
      rw [if_pos d]
    · have e := o_ff d e
      cases e
      rw [if_neg d]
/-- digit i of a number, zeros behind -/
def dgt (a : SMT) (x i : Int32) : Int32 := if i < MT_many a x.toNatClampNeg then MT_digits a (MT_from a x.toNatClampNeg + i).toNatClampNeg else 0
theorem rr_cell {tc : STx} {a : SMT} {x i q : Int32} (hu : Tx_used tc ≤ 8192) (h : NMB tc a x) (i0 : 0 ≤ i) (e : m_Tx_cell x i tc = some q) : q = dgt a x i := by
  obtain ⟨h0, h1, h2, h3, h4, h5, h6, ⟨g1, g2, g3⟩, h8, h9⟩ := h
  unfold m_Tx_cell at e
  have e := o_ff (show ¬ x < 0 by grind) e
  have e := o_ff (show ¬ Tx_total tc ≤ x by grind) e
  have e := o_ff (show ¬ i < 0 by grind) e
  have e := (o_gd_some e).2
  unfold dgt
  rw [h2] at e g3 h6
  by_cases c : i < MT_many a x.toNatClampNeg
  · have e := o_tt c e
    have e := (o_gd_some e).2
    unfold o_nm at e
    have e := o_ff (show ¬ Tx_starts tc x.toNatClampNeg + i < 0 by grind) e
    have e := o_ff (show ¬ (8192:Int32) ≤ Tx_starts tc x.toNatClampNeg + i by grind) e
    have e := (o_gd_some e).2
    cases e
    rw [if_pos c]
    exact h9 i i0 (by rw [h2]; exact c)
  · have e := o_ff c e
    cases e
    rw [if_neg c]
theorem rr_cmpL {n m : Nat} {x y s t : Int32} {tc : STx} {a : SMT} (hu : Tx_used tc ≤ 8192) (hx : NMB tc a x) (hy : NMB tc a y) :
    o_p2 (o_lp n (m_Tx_compare_b83 n x y s tc tc) ((0:Int32), (0:Int32), (0:Int32))) (o_lp m (m_MT_compare_b150 m x y t a a) ((0:Int32), (0:Int32), (0:Int32))) (fun q q' => q.1 = 1 ↔ q'.1 = 1) := by
  have mx : MT_many a x.toNatClampNeg ≤ 60 := by have := hx.2.2.2.2.2.2.1; rw [hx.2.2.1] at this; exact this
  have my : MT_many a y.toNatClampNeg ≤ 60 := by have := hy.2.2.2.2.2.2.1; rw [hy.2.2.1] at this; exact this
  -- behind the last digit the class finds zeros alone
  have tailL : ∀ (mm : Nat) (z : Int32 × Int32 × Int32), (0 ≤ z.1 ∧ MT_many a x.toNatClampNeg ≤ z.1 ∧ MT_many a y.toNatClampNeg ≤ z.1) → o_pu (o_lp mm (m_Tx_compare_b83 n x y s tc tc) z) (fun q => q.1 ≠ 1) := by
    refine q1lp (fun z : Int32 × Int32 × Int32 => 0 ≤ z.1 ∧ MT_many a x.toNatClampNeg ≤ z.1 ∧ MT_many a y.toNatClampNeg ≤ z.1) ?_
    rintro ⟨i, u, v⟩ ⟨i0, i1, i2⟩
    replace i0 : 0 ≤ i := i0
    replace i1 : MT_many a x.toNatClampNeg ≤ i := i1
    replace i2 : MT_many a y.toNatClampNeg ≤ i := i2
    unfold m_Tx_compare_b83
    refine q1I (fun _ => q1S (Or.inr ⟨Nat.succ_ne_zero _, by simp⟩)) (fun c => q1B (fun q8 e8 => q1B (fun q9 e9 => ?_)))
    have e8 := rr_cell hu hx i0 e8
    have e9 := rr_cell hu hy i0 e9
    have z8 : q8 = 0 := by rw [e8]; unfold dgt; rw [if_neg (by grind)]
    have z9 : q9 = 0 := by rw [e9]; unfold dgt; rw [if_neg (by grind)]
    rw [z8, z9]
    refine q1I (fun _ => q1S (r := (0, i + 1, 0, 0)) (Or.inl ⟨rfl, ?_, ?_, ?_⟩)) (fun z => absurd rfl z)
    · show 0 ≤ i + 1
      replace c : ¬ 60 ≤ i := c
      grind
    · show _ ≤ i + 1
      replace c : ¬ 60 ≤ i := c
      grind
    · show _ ≤ i + 1
      replace c : ¬ 60 ≤ i := c
      grind
  refine q2lp (fun z z' => 0 ≤ z.1 ∧ z.1 ≤ 60 ∧ z'.1 = z.1) ?_ n m _ _ ⟨by first | decide | (dsimp only <;> decide), by first | decide | (dsimp only <;> decide), rfl⟩
  rintro ⟨i, u, v⟩ ⟨i', u', v'⟩ ⟨i0, i1, i2⟩
  replace i0 : 0 ≤ i := i0
  replace i1 : i ≤ 60 := i1
  replace i2 : i' = i := i2
  subst i2
  unfold m_MT_compare_b150
  have cont : o_p2 (m_Tx_compare_b83 n x y s tc tc (i', u, v)) (m_MT_compare_j172 m x y t i' a a) (fun q q' => (q.1 = 0 ∧ q'.1 = 0 ∧ 0 ≤ q.2.1 ∧ q.2.1 ≤ 60 ∧ q'.2.1 = q.2.1) ∨ (q.1 ≠ 0 ∧ q'.1 ≠ 0 ∧ (q.1 = 1 ↔ q'.1 = 1)) ∨ (q.1 = 0 ∧ q'.1 ≠ 0 ∧ ∀ mm r, o_lp mm (m_Tx_compare_b83 n x y s tc tc) q.2 = some r → (r.1 = 1 ↔ q'.1 = 1))) ∨ 60 ≤ i' := by
    by_cases c60 : (60:Int32) ≤ i'
    · exact Or.inr c60
    · left
      unfold m_Tx_compare_b83 m_MT_compare_j172
      refine q2fL c60 (q2L (fun q8 e8 => q2L (fun q9 e9 => ?_)))
      have e8 := rr_cell hu hx i0 e8
      have e9 := rr_cell hu hy i0 e9
      subst e8 e9
      have fin : o_p2 (if dgt a x i' = dgt a y i' then o_nm (i' + (1:Int32)) fun x7_131 => some (0, x7_131, dgt a x i', dgt a y i') else some (1, i', dgt a x i', dgt a y i')) (m_MT_compare_j232 m x y t i' (dgt a x i') (dgt a y i') a a) (fun q q' => (q.1 = 0 ∧ q'.1 = 0 ∧ 0 ≤ q.2.1 ∧ q.2.1 ≤ 60 ∧ q'.2.1 = q.2.1) ∨ (q.1 ≠ 0 ∧ q'.1 ≠ 0 ∧ (q.1 = 1 ↔ q'.1 = 1)) ∨ (q.1 = 0 ∧ q'.1 ≠ 0 ∧ ∀ mm r, o_lp mm (m_Tx_compare_b83 n x y s tc tc) q.2 = some r → (r.1 = 1 ↔ q'.1 = 1))) := by
        unfold m_MT_compare_j232
        refine q2IB Iff.rfl (fun _ => q2NL (q2NR (q2S (Or.inl ⟨rfl, rfl, ?_, ?_, rfl⟩)))) (fun _ => q2S (Or.inr (Or.inl ⟨Nat.succ_ne_zero _, Nat.succ_ne_zero _, Iff.rfl⟩)))
        · show 0 ≤ i' + 1
          grind
        · show i' + 1 ≤ 60
          grind
      have yy : o_p2 (if dgt a x i' = dgt a y i' then o_nm (i' + (1:Int32)) fun x7_131 => some (0, x7_131, dgt a x i', dgt a y i') else some (1, i', dgt a x i', dgt a y i')) (m_MT_compare_j201 m x y t i' (dgt a x i') a a) (fun q q' => (q.1 = 0 ∧ q'.1 = 0 ∧ 0 ≤ q.2.1 ∧ q.2.1 ≤ 60 ∧ q'.2.1 = q.2.1) ∨ (q.1 ≠ 0 ∧ q'.1 ≠ 0 ∧ (q.1 = 1 ↔ q'.1 = 1)) ∨ (q.1 = 0 ∧ q'.1 ≠ 0 ∧ ∀ mm r, o_lp mm (m_Tx_compare_b83 n x y s tc tc) q.2 = some r → (r.1 = 1 ↔ q'.1 = 1))) := by
        unfold m_MT_compare_j201
        refine q2GR (fun _ => q2IR (fun cy => ?_) (fun cy => q2GR (fun _ => q2GR (fun _ => ?_))))
        · have : dgt a y i' = 0 := by unfold dgt; rw [if_neg (by grind)]
          rw [this] at fin ⊢
          exact fin
        · have : dgt a y i' = MT_digits a (MT_from a y.toNatClampNeg + i').toNatClampNeg := by unfold dgt; rw [if_pos (by grind)]
          rw [this] at fin ⊢
          exact fin
      refine q2GR (fun _ => q2IR (fun cx => ?_) (fun cx => q2GR (fun _ => q2GR (fun _ => ?_))))
      · have : dgt a x i' = 0 := by unfold dgt; rw [if_neg (by grind)]
        rw [this] at yy ⊢
        exact yy
      · have : dgt a x i' = MT_digits a (MT_from a x.toNatClampNeg + i').toNatClampNeg := by unfold dgt; rw [if_pos (by grind)]
        rw [this] at yy ⊢
        exact yy
  refine q2GR (fun _ => q2IR (fun cx => ?_) (fun cx => q2GR (fun _ => q2IR (fun cy => ?_) (fun cy => ?_))))
  · rcases cont with h | h
    · exact h
    · replace cx : i' < MT_many a x.toNatClampNeg := cx
      exact absurd h (by grind)
  · replace cx : ¬ i' < MT_many a x.toNatClampNeg := cx
    replace cy : MT_many a y.toNatClampNeg ≤ i' := cy
    intro q q' e e'
    cases e'
    have t1 := tailL 1 (i', u, v) ⟨i0, by show MT_many a x.toNatClampNeg ≤ i'; grind, cy⟩
    by_cases z : q.1 = 0
    · right; right
      refine ⟨z, Nat.succ_ne_zero _, ?_⟩
      intro mm r er
      have := tailL (mm + 1) (i', u, v) ⟨i0, by show MT_many a x.toNatClampNeg ≤ i'; grind, cy⟩ r (by
        show o_bd (m_Tx_compare_b83 n x y s tc tc (i', u, v)) (fun q => if q.1 = 0 then o_lp mm (m_Tx_compare_b83 n x y s tc tc) q.2 else some q) = some r
        rw [e]
        show (if q.1 = 0 then o_lp mm (m_Tx_compare_b83 n x y s tc tc) q.2 else some q) = some r
        rw [if_pos z]
        exact er)
      exact ⟨fun h => absurd h this, fun h => absurd h (by simp)⟩
    · right; left
      have := tailL 1 (i', u, v) ⟨i0, by show MT_many a x.toNatClampNeg ≤ i'; grind, cy⟩ q (by
        show o_bd (m_Tx_compare_b83 n x y s tc tc (i', u, v)) (fun q => if q.1 = 0 then o_lp 0 (m_Tx_compare_b83 n x y s tc tc) q.2 else some q) = some q
        rw [e]
        show (if q.1 = 0 then o_lp 0 (m_Tx_compare_b83 n x y s tc tc) q.2 else some q) = some q
        rw [if_neg z])
      exact ⟨z, Nat.succ_ne_zero _, fun h => absurd h this, fun h => absurd h (by simp)⟩
  · rcases cont with h | h
    · exact h
    · replace cy : ¬ MT_many a y.toNatClampNeg ≤ i' := cy
      exact absurd h (by grind)
theorem rr_compare {n m : Nat} {x y : Int32} {tc : STx} {a : SMT} (hu : Tx_used tc ≤ 8192) (hx : NMB tc a x) (hy : NMB tc a y) : o_p2 (m_Tx_compare n x y tc tc) (m_MT_compare m x y a a) (fun r r' => r = 0 ↔ r' = 0) := by
  -- the reference's compare in words of the signs
  have ref : ∀ r', m_MT_compare m x y a a = some r' → m_MT_compare_j56 m x y (sgn a x) (sgn a y) a a = some r' := by
    intro r' e
    have j27 : ∀ s, m_MT_compare_j27 m x y s a a = some r' → m_MT_compare_j56 m x y s (sgn a y) a a = some r' := by
      intro s e
      unfold m_MT_compare_j27 at e
      have e := (o_gd_some e).2
      unfold sgn
      by_cases c : MT_many a y.toNatClampNeg = 0
      · rw [if_pos c]
        exact o_tt c e
      · rw [if_neg c]
        have e := (o_gd_some (o_ff c e)).2
        by_cases d : MT_minus a y.toNatClampNeg = 0
        · rw [if_pos d]
          exact o_tt d e
        · rw [if_neg d]
          exact o_ff d e
    unfold m_MT_compare at e
    have e := (o_gd_some e).2
    apply j27
    unfold sgn
    by_cases c : MT_many a x.toNatClampNeg = 0
    · rw [if_pos c]
      exact o_tt c e
    · rw [if_neg c]
      have e := (o_gd_some (o_ff c e)).2
      by_cases d : MT_minus a x.toNatClampNeg = 0
      · rw [if_pos d]
        exact o_tt d e
      · rw [if_neg d]
        exact o_ff d e
  intro r r' e e'
  have e' := ref r' e'
  revert e e'
  suffices h : o_p2 (m_Tx_compare n x y tc tc) (m_MT_compare_j56 m x y (sgn a x) (sgn a y) a a) (fun r r' => r = 0 ↔ r' = 0) from fun e e' => h r r' e e'
  have rx := sgn_r (a := a) (x := x)
  have ry := sgn_r (a := a) (x := y)
  unfold m_Tx_compare m_MT_compare_j56
  refine q2L (fun q1 e1 => q2L (fun q2 e2 => ?_))
  have e1 := rr_sign hx e1
  have e2 := rr_sign hy e2
  subst e1 e2
  generalize sgn a x = s at rx
  have j22 : ∀ (st : s ≠ sgn a y ∨ (s = sgn a y ∧ s = 0)), o_p2 (m_Tx_compare_j22 n y s tc tc) (m_MT_compare_j70 m s (sgn a y) a a) (fun r r' => r = 0 ↔ r' = 0) := by
    intro st
    unfold m_Tx_compare_j22 m_MT_compare_j70
    refine q2L (fun q3 e3 => ?_)
    have e3 := rr_sign hy e3
    subst e3
    generalize sgn a y = t at ry st
    refine q2IR (fun c1 => q2IR (fun c2 => q2S ?_) (fun c2 => q2S ?_)) (fun c1 => q2S ?_)
    · have : s = t := by grind
      subst this
      exact ⟨fun _ => rfl, fun _ => Int32.sub_self _⟩
    · refine ⟨fun z => ?_, fun z => absurd z (by first | decide | (dsimp only <;> decide))⟩
      exfalso
      rcases rx with rfl | rfl | rfl <;> rcases ry with rfl | rfl | rfl <;> revert z c1 c2 <;> decide
    · refine ⟨fun z => ?_, fun z => absurd z (by first | decide | (dsimp only <;> decide))⟩
      exfalso
      rcases rx with rfl | rfl | rfl <;> rcases ry with rfl | rfl | rfl <;> revert z c1 <;> decide
  refine q2IB Iff.rfl (fun cs => ?_) (fun cs => j22 (Or.inl cs))
  refine q2IB Iff.rfl (fun cz => j22 (Or.inr ⟨cs, cz⟩)) (fun cz => ?_)
  have nz : s ≠ 0 := cz
  have nz2 : -s ≠ 0 := by rcases rx with rfl | rfl | rfl <;> first | exact absurd rfl cz | decide
  refine q2L (fun q4 e4 => q2L (fun q5 e5 => q2NL (q2L (fun q6 e6 => q2L (fun q7 e7 => q2NL ?_)))))
  have g4 := (rr_get hx.1 hx.2.1 e4).trans hx.2.2.1
  have g5 := (rr_get hx.1 hx.2.1 e5).trans hx.2.2.2.2.1
  have g6 := (rr_get hy.1 hy.2.1 e6).trans hy.2.2.1
  have g7 := (rr_get hy.1 hy.2.1 e7).trans hy.2.2.2.2.1
  rw [g4, g5, g6, g7]
  refine q2GR (fun _ => q2GR (fun _ => q2NR (q2GR (fun _ => q2GR (fun _ => q2NR ?_)))))
  have sg : ∀ (P P' : Prop) [Decidable P] [Decidable P'], o_p2 (if P then some s else some (-s)) (if P' then some s else some (-s)) (fun r r' => r = 0 ↔ r' = 0) := by
    intro P P' _ _
    refine q2IL (fun _ => q2IR (fun _ => q2S Iff.rfl) (fun _ => q2S ⟨fun z => absurd z nz, fun z => absurd z nz2⟩)) (fun _ => q2IR (fun _ => q2S ⟨fun z => absurd z nz2, fun z => absurd z nz⟩) (fun _ => q2S Iff.rfl))
  refine q2IB Iff.rfl (fun _ => q2B (rr_cmpL hu hx hy) ?_) (fun _ => sg _ _)
  intro q q' hq
  exact q2IB hq (fun _ => sg _ _) (fun _ => q2S Iff.rfl)
/-! strings, the other way round; members -/
theorem rr_sameLx {n m : Nat} {x y k s1 s2 f1 f2 : Int32} {tc : STx} {a : SMT} (hm : MT_many a y.toNatClampNeg = k) (hf1 : MT_from a x.toNatClampNeg = f1) (hf2 : MT_from a y.toNatClampNeg = f2) (h1 : CEL (Tx_cells tc) (MT_characters a) s1 f1 k) (h2 : CEL (Tx_cells tc) (MT_characters a) s2 f2 k) (k8 : k ≤ 8192) :
    o_p2 (o_lp n (m_Tx_sameString_b102 n s1 s2 k tc tc) (0:Int32)) (o_lp m (m_MT_same_b20 m y x a a) (0:Int32)) (fun q q' => q.1 = 1 ↔ q'.1 = 1) := by
  refine q2lp (fun z z' => 0 ≤ z ∧ z = z') ?_ n m _ _ ⟨by first | decide | (dsimp only <;> decide), rfl⟩
  rintro z z' ⟨z0, rfl⟩
  unfold m_Tx_sameString_b102 m_MT_same_b20
  rw [hm, hf1, hf2]
  refine q2GR (fun _ => q2IB Iff.rfl (fun c => q2S (Or.inr (Or.inl ⟨Nat.succ_ne_zero _, Nat.succ_ne_zero _, Iff.rfl⟩))) (fun c => ?_))
  refine q2GL (fun _ => q2GL (fun _ => q2GR (fun _ => q2GR (fun _ => q2GR (fun _ => q2GR (fun _ => ?_))))))
  rw [h1 z z0 (by grind), h2 z z0 (by grind)]
  refine q2IB ⟨fun h => h.symm, fun h => h.symm⟩ (fun _ => q2NL (q2NR (q2S (Or.inl ⟨rfl, rfl, ?_, rfl⟩)))) (fun _ => q2S (Or.inr (Or.inl ⟨Nat.succ_ne_zero _, Nat.succ_ne_zero _, Iff.rfl⟩)))
  show 0 ≤ z + 1
  grind
theorem rr_samex {n m : Nat} {x y : Int32} {tc : STx} {a : SMT} (hu : Tx_used tc ≤ 8192) (hT : Tx_total tc = MT_values a) (x0 : 0 ≤ x) (x1 : x < MT_values a) (y0 : 0 ≤ y) (y1 : y < MT_values a) (hx : NODE tc a x) (hy : NODE tc a y) (kx : MT_kind a x.toNatClampNeg = 4) (ky : MT_kind a y.toNatClampNeg = 4) : o_p2 (m_Tx_sameString n x y tc tc) (m_MT_same m y x a a) (fun r r' => r = r' ∧ (r = 0 ∨ r = 1)) := by
  obtain ⟨sx, mx, nx, _, _, tx, _, _⟩ := hx
  obtain ⟨sy, my, ny, _, _, ty, _, _⟩ := hy
  obtain ⟨g1, g2, g3⟩ := tx kx
  obtain ⟨g4, g5, g6⟩ := ty ky
  unfold m_Tx_sameString m_MT_same
  rw [hT]
  refine q2fL (by grind) (q2fL (by grind) (q2fL (by grind) (q2fL (by grind) (q2GL (fun _ => q2GL (fun _ => q2GR (fun _ => q2GR (fun _ => ?_))))))))
  rw [← mx, ← my]
  refine q2IB ⟨fun h => h.symm, fun h => h.symm⟩ (fun c => ?_) (fun c => q2S ⟨rfl, Or.inl rfl⟩)
  refine q2GL (fun _ => q2NL (q2GL (fun _ => q2NL (q2GL (fun _ => q2NL ?_)))))
  obtain ⟨a1, a2, a3⟩ := g1
  obtain ⟨a4, a5, a6⟩ := g4
  refine q2fL (by grind) (q2fL (by grind) (q2fL (by grind) (q2tL (by rw [c]; grind) ?_)))
  rw [← c] at g6
  refine q2B (rr_sameLx (x := x) (y := y) (m := m) (my.symm.trans c.symm) rfl rfl g3 g6 (by grind)) ?_
  intro q q' hq
  exact q2IB hq (fun _ => q2S ⟨rfl, Or.inl rfl⟩) (fun _ => q2S ⟨rfl, Or.inr rfl⟩)
theorem rr_size {tc : STx} {v q : Int32} (v0 : 0 ≤ v) (v1 : v < Tx_total tc) (e : m_Tx_size v tc = some q) : q = Tx_sizes tc v.toNatClampNeg := rr_get v0 v1 e
theorem rr_mem1 {n m : Nat} {v nm k : Int32} {tc : STx} {a : SMT} {cs : Int32 → Int32} (hu : Tx_used tc ≤ 8192) (hT : Tx_total tc = MT_values a) (h10 : MT_values a ≤ 1000) (v0 : 0 ≤ v) (v1 : v < MT_values a) (hk : Tx_kinds tc v.toNatClampNeg = 6) (hs : Tx_sizes tc v.toNatClampNeg = k) (k0 : 0 ≤ k) (g1 : cs 0 = v + 1 + 1) (g2 : MT_first a v.toNatClampNeg = (if 0 < k then cs 0 else -1)) (g3 : KID tc a v k 1 cs) (hN : NR 0 tc a) (n0 : 0 ≤ nm) (n1 : nm < MT_values a) (n4 : MT_kind a nm.toNatClampNeg = 4) :
    o_p2 (m_Tx_member n v nm tc tc) (m_MT_member_1 m v nm a a) (fun r r' => r = r' ∧ (r = -1 ∨ (0 ≤ r ∧ r < MT_values a))) := by
  have hvT : v < Tx_total tc := by rw [hT]; exact v1
  have hT10 : Tx_total tc ≤ 1000 := by rw [hT]; exact h10
  unfold m_Tx_member m_MT_member_1
  refine q2L (fun q1 e1 => q2GR (fun _ => q2NR ?_))
  have e1 := rr_first v0 hvT (Or.inr rfl) hk hs k0 e1
  refine q2B (q2lp (P := fun q q' => (q.1 = 1 ∧ q'.1 = 1 ∧ q.2.1 = q'.2 ∧ 0 ≤ q.2.1 ∧ q.2.1 < MT_values a) ∨ (q.1 ≠ 1 ∧ q'.1 ≠ 1)) (fun z z' => ∃ i, 0 ≤ i ∧ i ≤ k ∧ z.2 = i ∧ (i < k → z.1 = cs i ∧ z' = cs i) ∧ (i = k → z' = -1)) ?_ n m (q1, 0) (MT_first a v.toNatClampNeg) ?_) ?_
  · rintro ⟨c, i'⟩ c' ⟨i, i0, i1, i2, i3, i4⟩
    replace i2 : i' = i := i2
    subst i2
    unfold m_Tx_member_b10 m_MT_member_1_b8
    refine q2L (fun q2 e2 => ?_)
    have e2 := (rr_size v0 hvT e2).trans hs
    subst e2
    by_cases ci : i' = q2
    · have := i4 ci
      subst this
      exact q2tL (show q2 ≤ i' by rw [ci]; exact Int32.le_refl _) (q2tR (by first | decide | (dsimp only <;> decide)) (q2S (Or.inr (Or.inl ⟨Nat.succ_ne_zero _, Nat.succ_ne_zero _, Or.inr ⟨by simp, by simp⟩⟩))))
    · have il : i' < q2 := by grind
      obtain ⟨j1, j2⟩ := i3 il
      replace j1 : c = cs i' := j1
      subst j1 j2
      obtain ⟨h1, h2, h3, h4, h5, h6, h7⟩ := g3 i' i0 il
      obtain ⟨h5, h8⟩ := h5 rfl
      have c0 : 0 ≤ cs i' := by grind
      have clt : cs i' < MT_values a := by rw [← hT]; exact h2
      have hNn := hN (cs i' - 1) (by grind) (by grind)
      refine q2fL (show ¬ q2 ≤ i' by grind) (q2fR (by grind) (q2GR (fun _ => ?_)))
      rw [h5, h6]
      refine q2B (rr_samex hu hT (by grind) (by grind) n0 n1 hNn (hN nm n0 (by rw [hT]; exact n1)) (by rw [← hNn.1.1]; exact h8) n4) ?_
      rintro t t' ⟨rfl, t01⟩
      refine q2IB Iff.rfl (fun ct => ?_) (fun ct => ?_)
      · refine q2L (fun q4 e4 => q2NL (q2GR (fun _ => q2NR ?_)))
        have e4 := rr_next v0 hvT hT10 (Or.inr rfl) hk hs g3 i0 il e4
        subst e4
        refine q2S (Or.inl ⟨rfl, rfl, i' + 1, by grind, by grind, rfl, ?_, ?_⟩)
        · intro z
          show (if i' + 1 < q2 then cs (i' + 1) else -1) = _ ∧ (if i' + 1 < q2 then cs (i' + 1) else -1) = _
          rw [if_pos z]
          exact ⟨rfl, rfl⟩
        · intro z
          show (if i' + 1 < q2 then cs (i' + 1) else -1) = _
          rw [if_neg (by rw [z]; grind)]
      · exact q2S (Or.inr (Or.inl ⟨Nat.succ_ne_zero _, Nat.succ_ne_zero _, Or.inl ⟨rfl, rfl, rfl, c0, clt⟩⟩))
  · refine ⟨0, by first | decide | (dsimp only <;> decide), k0, rfl, ?_, ?_⟩
    · intro z
      show q1 = _ ∧ _
      rw [e1, g2, if_pos z, if_pos z]
      exact ⟨g1.symm, rfl⟩
    · intro z
      rw [g2, if_neg (by rw [← z]; first | decide | (dsimp only <;> decide))]
  · rintro q q' (⟨p1, p2, p3, p4, p5⟩ | ⟨p1, p2⟩)
    · exact q2tL p1 (q2tR p2 (q2S ⟨p3, Or.inr ⟨p4, p5⟩⟩))
    · exact q2fL p1 (q2fR p2 (q2S ⟨rfl, Or.inl rfl⟩))
/-! how deep a node lies, by its parents -/
def DPL (par : Nat → Int32) (vals : Int32) : Nat → Int32 → Prop
  | 0, x => x = -1
  | n + 1, x => x = -1 ∨ (0 ≤ x ∧ x < vals ∧ DPL par vals n (par x.toNatClampNeg))
theorem DPL_up {par : Nat → Int32} {vals : Int32} : ∀ (n : Nat) (x : Int32), DPL par vals n x → DPL par vals (n + 1) x := by
  intro n
  induction n with
  | zero => intro x h; exact Or.inl h
  | succ n ih =>
    intro x h
    rcases h with h | ⟨h1, h2, h3⟩
    · exact Or.inl h
    · exact Or.inr ⟨h1, h2, ih _ h3⟩
theorem DPL_le {par : Nat → Int32} {vals x : Int32} {n m : Nat} (h : DPL par vals n x) (hm : n ≤ m) : DPL par vals m x := by
  induction hm with
  | refl => exact h
  | step _ ih => exact DPL_up _ _ ih
theorem DPL_mono {par par' : Nat → Int32} {vals vals' : Int32} (hv : vals ≤ vals') (hp : ∀ y : Int32, 0 ≤ y → y < vals → par' y.toNatClampNeg = par y.toNatClampNeg) : ∀ (n : Nat) (x : Int32), DPL par vals n x → DPL par' vals' n x := by
  intro n
  induction n with
  | zero => intro x h; exact h
  | succ n ih =>
    intro x h
    rcases h with h | ⟨h1, h2, h3⟩
    · exact Or.inl h
    · refine Or.inr ⟨h1, Int32.lt_of_lt_of_le h2 hv, ?_⟩
      rw [hp x h1 h2]
      exact ih _ h3
/-- no node lies deeper than 41 -/
def DEEP (a : SMT) : Prop := ∀ x : Int32, 0 ≤ x → x < MT_values a → DPL (MT_parent a) (MT_values a) 41 x
/-- x lies d below where the comparison began -/
def BLW (a : SMT) (d : Int32) (x : Int32) : Prop := ∀ n, DPL (MT_parent a) (MT_values a) n x → d.toInt + 1 ≤ n
theorem BLW_0 {a : SMT} {x : Int32} (h : 0 ≤ x) : BLW a 0 x := by
  intro n hn
  cases n with
  | zero => replace hn : x = -1 := hn; rw [hn] at h; exact absurd h (by first | decide | (dsimp only <;> decide))
  | succ n =>
    have : (0:Int32).toInt = 0 := rfl
    rw [this]
    omega
theorem BLW_s {a : SMT} {d x c : Int32} (h : BLW a d x) (c0 : 0 ≤ c) (hp : MT_parent a c.toNatClampNeg = x) (hd : d ≤ 40) (hd0 : 0 ≤ d) : BLW a (d + 1) c := by
  intro n hn
  have e : (d + 1).toInt = d.toInt + 1 := o_add1 (by grind)
  cases n with
  | zero => replace hn : c = -1 := hn; rw [hn] at c0; exact absurd c0 (by first | decide | (dsimp only <;> decide))
  | succ n =>
    rcases hn with z | ⟨_, _, h3⟩
    · rw [z] at c0; exact absurd c0 (by first | decide | (dsimp only <;> decide))
    · rw [hp] at h3
      have := h n h3
      rw [e]
      omega
theorem BLW_le {a : SMT} {d x : Int32} (h : BLW a d x) (hD : DEEP a) (x0 : 0 ≤ x) (x1 : x < MT_values a) : d ≤ 40 := by
  have := h 41 (hD x x0 x1)
  rw [Int32.le_iff_toInt_le]
  have z : (40:Int32).toInt = 40 := rfl
  rw [z]
  omega
def ALr (tc : STx) (a : SMT) (rec : Int32 → Int32 → Int32 → STx → STx → Option (Int32)) (rec' : Int32 → Int32 → SMT → SMT → Option (Int32)) : Prop := ∀ (x y d : Int32), 0 ≤ x → x < MT_values a → 0 ≤ y → y < MT_values a → 0 ≤ d → BLW a d x → o_p2 (rec x y d tc tc) (rec' x y a a) (fun r r' => r = r' ∧ (r = 0 ∨ r = 1))
theorem rr_alF {n m : Nat} {rec : Int32 → Int32 → Int32 → STx → STx → Option (Int32)} {rec' : Int32 → Int32 → SMT → SMT → Option (Int32)} {tc : STx} {a : SMT} {x y d : Int32} (hu : Tx_used tc ≤ 8192) (h : TREE tc a) (h10 : MT_values a ≤ 1000) (hD : DEEP a) (hr : ALr tc a rec rec') (x0 : 0 ≤ x) (x1 : x < MT_values a) (y0 : 0 ≤ y) (y1 : y < MT_values a) (d0 : 0 ≤ d) (hB : BLW a d x) : o_p2 (m_Tx_same_F n rec x y d tc tc) (m_MT_alike_F m rec' x y a a) (fun r r' => r = r' ∧ (r = 0 ∨ r = 1)) := by
  obtain ⟨hT, hN⟩ := h
  have xT : x < Tx_total tc := by rw [hT]; exact x1
  have yT : y < Tx_total tc := by rw [hT]; exact y1
  have hT10 : Tx_total tc ≤ 1000 := by rw [hT]; exact h10
  have nx := hN x x0 xT
  have ny := hN y y0 yT
  have d40 : d ≤ 40 := BLW_le hB hD x0 x1
  have kid : ∀ (k o : Int32) (cs : Int32 → Int32), (o = 0 ∨ o = 1) → ∀ (v : Int32), 0 ≤ v → v < MT_values a → KID tc a v k o cs → ∀ i, 0 ≤ i → i < k → 0 ≤ cs i ∧ cs i < MT_values a ∧ MT_parent a (cs i).toNatClampNeg = v := by
    intro k o cs ho v v0 v1 hK i i0 i1
    obtain ⟨h1, h2, h3, _⟩ := hK i i0 i1
    have c0 : 0 ≤ cs i := by rcases ho with rfl | rfl <;> grind
    refine ⟨c0, by rw [← hT]; exact h2, ?_⟩
    rw [← (hN (cs i) c0 h2).1.2.2.2.2.1]
    exact h3
  unfold m_Tx_same_F m_MT_alike_F
  refine q2L (fun q1 e1 => q2L (fun q2 e2 => q2GR (fun _ => q2GR (fun _ => ?_))))
  have e1 := (rr_get x0 xT e1).trans nx.1.1
  have e2 := (rr_get y0 yT e2).trans ny.1.1
  subst e1 e2
  refine q2IB Iff.rfl (fun ck => ?_) (fun _ => q2S ⟨rfl, Or.inl rfl⟩)
  refine q2tL d40 (q2GR (fun _ => ?_))
  refine q2IB Iff.rfl (fun k3 => ?_) (fun k3 => q2GR (fun _ => ?_))
  · have bx : NMB tc a x := ⟨x0, xT, nx.2.1, nx.2.2.1, nx.1.2.2.2.2.2, nx.2.2.2.2.1 k3⟩
    have bY : NMB tc a y := ⟨y0, yT, ny.2.1, ny.2.2.1, ny.1.2.2.2.2.2, ny.2.2.2.2.1 (ck.symm.trans k3)⟩
    refine q2B (rr_compare hu bx bY) ?_
    intro r r' hr
    exact q2IB hr (fun _ => q2S ⟨rfl, Or.inr rfl⟩) (fun _ => q2S ⟨rfl, Or.inl rfl⟩)
  refine q2IB Iff.rfl (fun k4 => ?_) (fun k4 => q2GR (fun _ => ?_))
  · refine q2B (rr_same hu hT x0 x1 y0 y1 nx ny k4 (ck.symm.trans k4)) ?_
    rintro r r' ⟨rfl, r01⟩
    exact q2GL (fun _ => q2GR (fun _ => q2S ⟨rfl, r01⟩))
  refine q2L (fun q3 e3 => q2L (fun q4 e4 => ?_))
  have e3 := (rr_size x0 xT e3).trans nx.2.1
  have e4 := (rr_size y0 yT e4).trans ny.2.1
  by_cases c3 : (3:Int32) ≤ MT_kind a x.toNatClampNeg
  · refine q2tR c3 (q2GR (fun _ => q2GR (fun _ => ?_)))
    rw [e3, e4]
    refine q2IB Iff.rfl (fun cm => ?_) (fun _ => q2S ⟨rfl, Or.inl rfl⟩)
    refine q2L (fun q5 e5 => q2L (fun q6 e6 => q2GR (fun _ => ?_)))
    obtain ⟨k, ek⟩ : ∃ k, k = MT_many a x.toNatClampNeg := ⟨_, rfl⟩
    have sx : Tx_sizes tc x.toNatClampNeg = k := by rw [ek]; exact nx.2.1
    have sy : Tx_sizes tc y.toNatClampNeg = k := by rw [ek, cm]; exact ny.2.1
    have k0 : 0 ≤ k := by rw [ek]; exact nx.2.2.1
    have k6 := nx.1.2.2.1
    refine q2IR (fun c5 => ?_) (fun c5 => ?_)
    · -- arrays
      have kx : Tx_kinds tc x.toNatClampNeg = 5 + 0 := nx.1.1.trans c5
      have ky : Tx_kinds tc y.toNatClampNeg = 5 + 0 := ny.1.1.trans (ck.symm.trans c5)
      obtain ⟨_, b60, cx, f1, f2, f3⟩ := nx.2.2.2.2.2.2.1 c5
      obtain ⟨_, _, cy, f4, f5, f6⟩ := ny.2.2.2.2.2.2.1 (ck.symm.trans c5)
      rw [← cm, ← ek] at f5 f6
      rw [← ek] at f2 f3 b60
      have e5 := rr_first x0 xT (Or.inl rfl) kx sx k0 e5
      have e6 := rr_first y0 yT (Or.inl rfl) ky sy k0 e6
      refine q2GR (fun _ => q2NR (q2GR (fun _ => q2NR (q2B (q2lp (P := fun q q' => q.1 = 1 ↔ q'.1 = 1) (fun z z' => ∃ i, 0 ≤ i ∧ i ≤ k ∧ z.2.2 = i ∧ (i < k → z.1 = cx i ∧ z.2.1 = cy i ∧ z' = (cy i, cx i)) ∧ (i = k → z'.2 = -1)) ?_ n m _ _ ?_) ?_))))
      · rintro ⟨c, w, i'⟩ z' ⟨i, i0, i1, i2, i3, i4⟩
        replace i2 : i' = i := i2
        subst i2
        unfold m_Tx_same_b94 m_MT_alike_b116
        refine q2L (fun q7 e7 => ?_)
        have e7 := (rr_size x0 xT e7).trans sx
        subst e7
        by_cases ci : i' = q7
        · refine q2tL (show q7 ≤ i' by rw [ci]; exact Int32.le_refl _) (q2tR (by rw [i4 ci]; first | decide | (dsimp only <;> decide)) (q2S (Or.inr (Or.inl ⟨Nat.succ_ne_zero _, Nat.succ_ne_zero _, ⟨fun z => absurd z (by simp), fun z => absurd z (by simp)⟩⟩))))
        · have il : i' < q7 := by grind
          obtain ⟨j1, j2, j3⟩ := i3 il
          replace j1 : c = cx i' := j1
          replace j2 : w = cy i' := j2
          subst j1 j2 j3
          obtain ⟨u0, u1, u2⟩ := kid q7 0 cx (Or.inl rfl) x x0 x1 f3 i' i0 il
          obtain ⟨v0, v1, v2⟩ := kid q7 0 cy (Or.inl rfl) y y0 y1 f6 i' i0 il
          refine q2fL (show ¬ q7 ≤ i' by grind) (q2tL c5 (q2fR (show ¬ cx i' < 0 by grind) ?_))
          unfold m_Tx_same_j125
          refine q2fL (show ¬ cy i' = -1 by grind) (q2B (hr (cx i') (cy i') (d + 1) u0 u1 v0 v1 (by grind) (BLW_s hB u0 u2 d40 d0)) ?_)
          rintro t t' ⟨rfl, t01⟩
          refine q2IB Iff.rfl (fun _ => q2S (Or.inr (Or.inl ⟨Nat.succ_ne_zero _, Nat.succ_ne_zero _, Iff.rfl⟩))) (fun _ => ?_)
          refine q2L (fun q10 e10 => q2L (fun q11 e11 => q2NL (q2GR (fun _ => q2NR (q2GR (fun _ => q2NR ?_))))))
          have e10 := rr_next x0 xT hT10 (Or.inl rfl) kx sx f3 i0 il e10
          have e11 := rr_next y0 yT hT10 (Or.inl rfl) ky sy f6 i0 il e11
          have n1 := (f3 i' i0 il).2.2.2.2.2.1
          have n2 := (f6 i' i0 il).2.2.2.2.2.1
          subst e10 e11
          refine q2S (Or.inl ⟨rfl, rfl, i' + 1, by grind, by grind, rfl, ?_, ?_⟩)
          · intro z
            show (if i' + 1 < q7 then cx (i' + 1) else -1) = _ ∧ (if i' + 1 < q7 then cy (i' + 1) else -1) = _ ∧ (MT_next a (cy i').toNatClampNeg, MT_next a (cx i').toNatClampNeg) = _
            rw [n1, n2, if_pos z, if_pos z]
            exact ⟨rfl, rfl, rfl⟩
          · intro z
            show MT_next a (cx i').toNatClampNeg = _
            rw [n1, if_neg (by rw [z]; grind)]
      · refine ⟨0, by first | decide | (dsimp only <;> decide), k0, rfl, ?_, ?_⟩
        · intro z
          show q5 = _ ∧ q6 = _ ∧ (MT_first a y.toNatClampNeg, MT_first a x.toNatClampNeg) = _
          rw [e5, e6, f2, f5, if_pos z, if_pos z, if_pos z, if_pos z, f1, f4]
          exact ⟨rfl, rfl, rfl⟩
        · intro z
          show MT_first a x.toNatClampNeg = _
          rw [f2, if_neg (by rw [← z]; first | decide | (dsimp only <;> decide))]
      · intro q q' hq
        exact q2IB hq (fun _ => q2S ⟨rfl, Or.inl rfl⟩) (fun _ => q2S ⟨rfl, Or.inr rfl⟩)
    · -- objects
      have c6 : MT_kind a x.toNatClampNeg = 6 := by grind
      have kx : Tx_kinds tc x.toNatClampNeg = 5 + 1 := nx.1.1.trans c6
      have ky : Tx_kinds tc y.toNatClampNeg = 5 + 1 := ny.1.1.trans (ck.symm.trans c6)
      obtain ⟨_, b60, cx, f1, f2, f3⟩ := nx.2.2.2.2.2.2.2 c6
      obtain ⟨_, _, cy, f4, f5, f6⟩ := ny.2.2.2.2.2.2.2 (ck.symm.trans c6)
      rw [← cm, ← ek] at f5 f6
      rw [← ek] at f2 f3 b60
      have e5 := rr_first x0 xT (Or.inr rfl) kx sx k0 e5
      refine q2GR (fun _ => q2NR (q2B (q2lp (P := fun q q' => q.1 = 1 ↔ q'.1 = 1) (fun z z' => ∃ i, 0 ≤ i ∧ i ≤ k ∧ z.2.2 = i ∧ (i < k → z.1 = cx i ∧ z' = cx i) ∧ (i = k → z' = -1)) ?_ n m _ _ ?_) ?_))
      · rintro ⟨c, w, i'⟩ z' ⟨i, i0, i1, i2, i3, i4⟩
        replace i2 : i' = i := i2
        subst i2
        unfold m_Tx_same_b94 m_MT_alike_b166
        refine q2L (fun q7 e7 => ?_)
        have e7 := (rr_size x0 xT e7).trans sx
        subst e7
        by_cases ci : i' = q7
        · refine q2tL (show q7 ≤ i' by rw [ci]; exact Int32.le_refl _) (q2tR (by rw [i4 ci]; first | decide | (dsimp only <;> decide)) (q2S (Or.inr (Or.inl ⟨Nat.succ_ne_zero _, Nat.succ_ne_zero _, ⟨fun z => absurd z (by simp), fun z => absurd z (by simp)⟩⟩))))
        · have il : i' < q7 := by grind
          obtain ⟨j1, j2⟩ := i3 il
          replace j1 : c = cx i' := j1
          subst j1 j2
          obtain ⟨u0, u1, u2⟩ := kid q7 1 cx (Or.inr rfl) x x0 x1 f3 i' i0 il
          obtain ⟨h1, h2, h3, h4, h5, h6, h7⟩ := f3 i' i0 il
          obtain ⟨h5, h8⟩ := h5 rfl
          have m0 : 0 ≤ cx i' - 1 := by grind
          have m1 : cx i' - 1 < MT_values a := by grind
          have m4 : MT_kind a (cx i' - 1).toNatClampNeg = 4 := by rw [← (hN (cx i' - 1) m0 (by rw [hT]; exact m1)).1.1]; exact h8
          refine q2fL (show ¬ q7 ≤ i' by grind) (q2fL c5 (q2fR (show ¬ cx i' < 0 by grind) (q2GR (fun _ => ?_))))
          rw [h5, h6]
          refine q2B (rr_mem1 hu hT h10 y0 y1 ky sy k0 f4 f5 f6 hN m0 m1 m4) ?_
          rintro o o' ⟨rfl, o1⟩
          unfold m_Tx_same_j125
          rcases o1 with rfl | ⟨o2, o3⟩
          · exact q2tL rfl (q2tR (by first | decide | (dsimp only <;> decide)) (q2S (Or.inr (Or.inl ⟨Nat.succ_ne_zero _, Nat.succ_ne_zero _, Iff.rfl⟩))))
          · refine q2fL (show ¬ o = -1 by grind) (q2fR (show ¬ o < 0 by grind) (q2B (hr (cx i') o (d + 1) u0 u1 o2 o3 (by grind) (BLW_s hB u0 u2 d40 d0)) ?_))
            rintro t t' ⟨rfl, t01⟩
            refine q2IB Iff.rfl (fun _ => q2S (Or.inr (Or.inl ⟨Nat.succ_ne_zero _, Nat.succ_ne_zero _, Iff.rfl⟩))) (fun _ => ?_)
            refine q2L (fun q10 e10 => q2L (fun q11 e11 => q2NL (q2GR (fun _ => q2NR ?_))))
            have e10 := rr_next x0 xT hT10 (Or.inr rfl) kx sx f3 i0 il e10
            subst e10
            refine q2S (Or.inl ⟨rfl, rfl, i' + 1, by grind, by grind, rfl, ?_, ?_⟩)
            · intro z
              show (if i' + 1 < q7 then cx (i' + 1) else -1) = _ ∧ (if i' + 1 < q7 then cx (i' + 1) else -1) = _
              rw [if_pos z]
              exact ⟨rfl, rfl⟩
            · intro z
              show (if i' + 1 < q7 then cx (i' + 1) else -1) = _
              rw [if_neg (by rw [z]; grind)]
      · refine ⟨0, by first | decide | (dsimp only <;> decide), k0, rfl, ?_, ?_⟩
        · intro z
          show q5 = _ ∧ MT_first a x.toNatClampNeg = _
          rw [e5, f2, if_pos z, if_pos z, f1]
          exact ⟨rfl, rfl⟩
        · intro z
          show MT_first a x.toNatClampNeg = _
          rw [f2, if_neg (by rw [← z]; first | decide | (dsimp only <;> decide))]
      · intro q q' hq
        exact q2IB hq (fun _ => q2S ⟨rfl, Or.inl rfl⟩) (fun _ => q2S ⟨rfl, Or.inr rfl⟩)
  · refine q2fR c3 ?_
    have z3 : q3 = 0 := e3.trans (nx.2.2.2.1 (by grind))
    have z4 : q4 = 0 := e4.trans (ny.2.2.2.1 (by rw [← ck]; grind))
    rw [z3, z4]
    refine q2tL rfl (q2L (fun q5 e5 => q2L (fun q6 e6 => q2L (fun q12 e12 => ?_))))
    have hf : ∀ zz : Int32 × Int32 × Int32, zz.2.2 = 0 → ∀ r, m_Tx_same_b94 n rec x y d (MT_kind a x.toNatClampNeg) tc tc zz = some r → r.1 = 2 := by
      intro zz hz r e
      unfold m_Tx_same_b94 at e
      obtain ⟨q7, e7, e⟩ := o_bd_some e
      have e7 := (rr_size x0 xT e7).trans (nx.2.1.trans (nx.2.2.2.1 (by grind)))
      have e := o_tt (show q7 ≤ zz.2.2 by rw [e7, hz]; first | decide | (dsimp only <;> decide)) e
      cases e
      rfl
    have g12 : q12.1 = 2 := by
      cases n with
      | zero => cases e12
      | succ n =>
        obtain ⟨qq, f1, f2⟩ := o_bd_some (show o_bd (m_Tx_same_b94 (n + 1) rec x y d (MT_kind a x.toNatClampNeg) tc tc (q5, q6, 0)) (fun q => if q.1 = 0 then o_lp n (m_Tx_same_b94 (n + 1) rec x y d (MT_kind a x.toNatClampNeg) tc tc) q.2 else some q) = some q12 from e12)
        have g := hf (q5, q6, 0) rfl qq f1
        have f2 := o_ff (show ¬ qq.1 = 0 by rw [g]; first | decide | (dsimp only <;> decide)) f2
        cases f2
        exact g
    exact q2fL (by rw [g12]; first | decide | (dsimp only <;> decide)) (q2S ⟨rfl, Or.inr rfl⟩)
theorem rr_al {n m : Nat} {tc : STx} {a : SMT} (hu : Tx_used tc ≤ 8192) (h : TREE tc a) (h10 : MT_values a ≤ 1000) (hD : DEEP a) : ∀ (d d' : Nat), ALr tc a (m_Tx_same n d) (m_MT_alike m d') := by
  intro d
  induction d with
  | zero => intro d' x y dd _ _ _ _ _ _ r r' e _; cases e
  | succ d ih =>
    intro d' x y dd x0 x1 y0 y1 d0 hB
    cases d' with
    | zero => intro r r' _ e'; cases e'
    | succ d' =>
      show o_p2 (m_Tx_same_F n (m_Tx_same n d) x y dd tc tc) (m_MT_alike_F m (m_MT_alike m d') x y a a) _
      exact rr_alF hu h h10 hD (ih d') x0 x1 y0 y1 d0 hB
def ALq (r : Nat × Int32) (r' : Int32 × SNI) : Prop := NI_err r'.2 = (if r.1 = 0 then (0:Int32) else 1) ∧ (r.1 = 0 → r.2 = r'.1)
theorem rr_alike {n m : Nat} {x y : Int32} {T1 : STx} {M1 : SMT} {Ni : SNI} (hu : Tx_used T1 ≤ 8192) (h : TREE T1 M1) (h0 : 0 ≤ MT_values M1) (h10 : MT_values M1 ≤ 1000) (hD : DEEP M1) : o_p2 (m_SJ_alike n x y T1) (m_MM_alike m x y M1 Ni) ALq := by
  have bad : o_p2 (m_SJ_alike_j22 n T1) (m_MM_alike_j45 m x y 1 M1 (NI_mk (0:Int32) (NI_fed Ni) (NI_wrong Ni) (NI_octets Ni))) ALq := by
    unfold m_SJ_alike_j22 m_MM_alike_j45
    refine q2R (fun q2 e2 => ?_)
    rcases rr_fails rfl (by first | decide | (dsimp only <;> decide)) e2 with ⟨z, _⟩ | ⟨_, rfl⟩
    · exact absurd z (by first | decide | (dsimp only <;> decide))
    · exact q2fR (by first | decide | (dsimp only <;> decide)) (q2S ⟨rfl, fun z => absurd z (Nat.succ_ne_zero _)⟩)
  unfold m_SJ_alike m_MM_alike
  rcases rr_has (x := x) h h0 h10 with ⟨x0, x1, e1, e2⟩ | ⟨_, e1, e2⟩
  · refine q2Le e1 (q2fL (by first | decide | (dsimp only <;> decide)) (q2Re e2 (q2fR (by first | decide | (dsimp only <;> decide)) ?_)))
    rcases rr_has (x := y) h h0 h10 with ⟨y0, y1, e3, e4⟩ | ⟨_, e3, e4⟩
    · refine q2Le e3 (q2fL (by first | decide | (dsimp only <;> decide)) (q2Re e4 (q2fR (by first | decide | (dsimp only <;> decide)) ?_)))
      unfold m_MM_alike_j45
      refine q2R (fun q2 e2 => ?_)
      rcases rr_fails rfl (by first | decide | (dsimp only <;> decide)) e2 with ⟨_, rfl⟩ | ⟨z, _⟩
      · refine q2tR rfl (q2B (rr_al hu h h10 hD 43 1003 x y 0 x0 x1 y0 y1 (by first | decide | (dsimp only <;> decide)) (BLW_0 x0)) ?_)
        rintro r r' ⟨rfl, r01⟩
        exact q2GL (fun _ => q2GR (fun _ => q2S ⟨rfl, fun _ => rfl⟩))
      · exact absurd rfl z
    · exact q2Le e3 (q2tL rfl (q2Re e4 (q2tR rfl bad)))
  · exact q2Le e1 (q2tL rfl (q2Re e2 (q2tR rfl bad)))
