/-! value -/
def VALq (r : Nat × Int32) (r' : Int32 × SNI) : Prop := NI_err r'.2 = (if r.1 = 0 then (0:Int32) else if r.1 = 1 then 2 else 1) ∧ (r.1 = 0 → r.2 = r'.1)
theorem rr_has {tc : STx} {a : SMT} {x : Int32} (h : TREE tc a) (h0 : 0 ≤ MT_values a) (h1 : MT_values a ≤ 1000) : (0 ≤ x ∧ x < MT_values a ∧ m_Tx_has x tc = some 1 ∧ m_MM_in x 0 (MT_values a - 1) = some 1) ∨ (¬ (0 ≤ x ∧ x < MT_values a) ∧ m_Tx_has x tc = some 0 ∧ m_MM_in x 0 (MT_values a - 1) = some 0) := by
  unfold m_Tx_has
  rw [h.1]
  by_cases c : x < 0
  · right
    rw [if_pos c]
    exact ⟨by grind, rfl, rr_in0 (Or.inl c)⟩
  · rw [if_neg c]
    by_cases d : MT_values a ≤ x
    · right
      rw [if_pos d]
      exact ⟨by grind, rfl, rr_in0 (Or.inr (by grind))⟩
    · left
      rw [if_neg d]
      exact ⟨by grind, by grind, rfl, rr_in1 (by grind) (by grind)⟩
theorem rr_get {tc : STx} {x d q : Int32} {f : Nat → Int32} (x0 : 0 ≤ x) (x1 : x < Tx_total tc) (e : (if x < 0 then some d else if Tx_total tc ≤ x then some d else o_gd (o_in x 1000) <| some (f x.toNatClampNeg)) = some q) : q = f x.toNatClampNeg := by
  have e := o_ff (show ¬ x < 0 by grind) e
  have e := o_ff (show ¬ Tx_total tc ≤ x by grind) e
  have e := (o_gd_some e).2
  cases e
  rfl
theorem rr_val1 {tc : STx} {a : SMT} {N : SNI} {x2 x3 : Int32} (h : TREE tc a) (h0 : 0 ≤ MT_values a) (h1 : MT_values a ≤ 1000) (he : NI_err N = 0) :
    o_p2 (o_bd (m_Tx_has x2 tc) fun q1 => if q1 = 0 then some ((1:Nat), (0:Int32)) else if x3 = (0:Int32) then o_bd (m_Tx_kind x2 tc) fun q2 => some (0, q2) else if x3 = (1:Int32) then o_bd (m_Tx_place x2 tc) fun q3 => some (0, q3) else if x3 = (2:Int32) then o_bd (m_Tx_size x2 tc) fun q4 => some (0, q4) else if x3 = (3:Int32) then o_bd (m_Tx_parent x2 tc) fun q5 => some (0, q5) else o_bd (m_Tx_exponent x2 tc) fun q6 => some (0, q6))
      (o_bd (m_MM_fails 0 (1:Int32) N) fun q2 => if q2.1 = 0 then o_bd (m_MM_in x2 (0:Int32) ((MT_values a) - (1:Int32))) fun q3 => if q3 = 0 then (o_bd (m_MM_fails 1 (2:Int32) q2.2) fun q4 => if q4.1 = 0 then if x3 = 0 then o_gd (o_in x2 1000) <| some (((MT_kind a) x2.toNatClampNeg), q4.2) else if x3 = (1:Int32) then o_gd (o_in x2 1000) <| some (((MT_place a) x2.toNatClampNeg), q4.2) else if x3 = (2:Int32) then o_gd (o_in x2 1000) <| some (((MT_many a) x2.toNatClampNeg), q4.2) else if x3 = (3:Int32) then o_gd (o_in x2 1000) <| some (((MT_parent a) x2.toNatClampNeg), q4.2) else o_gd (o_in x2 1000) <| some (((MT_power a) x2.toNatClampNeg), q4.2) else some ((0:Int32), q4.2)) else (o_bd (m_MM_fails 0 (2:Int32) q2.2) fun q4 => if q4.1 = 0 then if x3 = 0 then o_gd (o_in x2 1000) <| some (((MT_kind a) x2.toNatClampNeg), q4.2) else if x3 = (1:Int32) then o_gd (o_in x2 1000) <| some (((MT_place a) x2.toNatClampNeg), q4.2) else if x3 = (2:Int32) then o_gd (o_in x2 1000) <| some (((MT_many a) x2.toNatClampNeg), q4.2) else if x3 = (3:Int32) then o_gd (o_in x2 1000) <| some (((MT_parent a) x2.toNatClampNeg), q4.2) else o_gd (o_in x2 1000) <| some (((MT_power a) x2.toNatClampNeg), q4.2) else some ((0:Int32), q4.2)) else some ((0:Int32), q2.2)) VALq := by
  refine q2R (fun q2 e2 => ?_)
  rcases rr_fails he (by first | decide | (dsimp only <;> decide)) e2 with ⟨_, rfl⟩ | ⟨z, _⟩
  · refine q2tR rfl ?_
    rcases rr_has h h0 h1 with ⟨x0, x1, e3, e4⟩ | ⟨_, e3, e4⟩
    · refine q2Le e3 (q2fL (by first | decide | (dsimp only <;> decide)) (q2Re e4 (q2fR (by first | decide | (dsimp only <;> decide)) (q2R (fun q4 e5 => ?_)))))
      rcases rr_fails he (by first | decide | (dsimp only <;> decide)) e5 with ⟨_, rfl⟩ | ⟨z, _⟩
      · refine q2tR rfl ?_
        have xT : x2 < Tx_total tc := by rw [h.1]; exact x1
        obtain ⟨⟨s1, s2, s3, s4, s5, s6⟩, s7, _⟩ := h.2 x2 x0 xT
        refine q2IB Iff.rfl (fun _ => q2L (fun q e => q2GR (fun _ => q2S ⟨he, fun _ => ?_⟩))) (fun _ => q2IB Iff.rfl (fun _ => q2L (fun q e => q2GR (fun _ => q2S ⟨he, fun _ => ?_⟩))) (fun _ => q2IB Iff.rfl (fun _ => q2L (fun q e => q2GR (fun _ => q2S ⟨he, fun _ => ?_⟩))) (fun _ => q2IB Iff.rfl (fun _ => q2L (fun q e => q2GR (fun _ => q2S ⟨he, fun _ => ?_⟩))) (fun _ => q2L (fun q e => q2GR (fun _ => q2S ⟨he, fun _ => ?_⟩))))))
        · exact (rr_get x0 xT e).trans s1
        · exact (rr_get x0 xT e).trans s4
        · exact (rr_get x0 xT e).trans s7
        · exact (rr_get x0 xT e).trans s5
        · exact (rr_get x0 xT e).trans s6
      · exact absurd rfl z
    · refine q2Le e3 (q2tL rfl (q2Re e4 (q2tR rfl (q2R (fun q4 e5 => ?_)))))
      rcases rr_fails he (by first | decide | (dsimp only <;> decide)) e5 with ⟨z, _⟩ | ⟨_, rfl⟩
      · exact absurd z (by first | decide | (dsimp only <;> decide))
      · exact q2fR (by first | decide | (dsimp only <;> decide)) (q2S ⟨rfl, fun z => absurd z (Nat.succ_ne_zero _)⟩)
  · exact absurd rfl z
theorem rr_val {x1 x2 x3 : Int32} {T0 T1 : STx} {M0 M1 : SMT} {Ni : SNI} (h : TREE T0 M0) (h0 : 0 ≤ MT_values M0) (h1 : MT_values M0 ≤ 1000) (g : TREE T1 M1) (g0 : 0 ≤ MT_values M1) (g1 : MT_values M1 ≤ 1000) : o_p2 (m_SJ_value x1 x2 x3 T0 T1) (m_MM_value x1 x2 x3 M0 M1 Ni) VALq := by
  have bad : ∀ (o : Option (Int32 × SNI)), (∀ r', o = some r' → NI_err r'.2 = 1) → o_p2 (m_SJ_value_j9 T0 T1) o VALq := by
    intro o ho r r' e e'
    unfold m_SJ_value_j9 at e
    cases e
    exact ⟨ho r' e', fun z => absurd z (Nat.succ_ne_zero _)⟩
  have b1 : ∀ r', m_MM_value_j37 x2 x3 1 M0 M1 (NI_mk (0:Int32) (NI_fed Ni) (NI_wrong Ni) (NI_octets Ni)) = some r' → NI_err r'.2 = 1 := by
    intro r' e
    unfold m_MM_value_j37 at e
    obtain ⟨q, e1, e⟩ := o_bd_some e
    rcases rr_fails rfl (by first | decide | (dsimp only <;> decide)) e1 with ⟨z, _⟩ | ⟨_, rfl⟩
    · exact absurd z (by first | decide | (dsimp only <;> decide))
    · have e := o_ff (show ¬ (1:Int32) = 0 by first | decide | (dsimp only <;> decide)) e
      cases e
      rfl
  have b2 : ∀ r', m_MM_value_j37v7 x2 x3 1 M0 M1 (NI_mk (0:Int32) (NI_fed Ni) (NI_wrong Ni) (NI_octets Ni)) = some r' → NI_err r'.2 = 1 := by
    intro r' e
    unfold m_MM_value_j37v7 at e
    obtain ⟨q, e1, e⟩ := o_bd_some e
    rcases rr_fails rfl (by first | decide | (dsimp only <;> decide)) e1 with ⟨z, _⟩ | ⟨_, rfl⟩
    · exact absurd z (by first | decide | (dsimp only <;> decide))
    · have e := o_ff (show ¬ (1:Int32) = 0 by first | decide | (dsimp only <;> decide)) e
      cases e
      rfl
  have in0 : ¬ (0 ≤ x3 ∧ x3 ≤ 4) → m_MM_in x3 0 4 = some 0 := fun h => rr_in0 (by grind)
  unfold m_SJ_value m_MM_value m_MM_value_j20 m_MM_value_j20v5
  have bads : ¬ (0 ≤ x3 ∧ x3 ≤ 4) → o_p2 (m_SJ_value_j9 T0 T1) (if x1 = 0 then o_bd (m_MM_in x3 (0:Int32) (4:Int32)) fun q1 => if q1 = 0 then m_MM_value_j37 x2 x3 (1:Int32) M0 M1 (NI_mk (0:Int32) (NI_fed Ni) (NI_wrong Ni) (NI_octets Ni)) else m_MM_value_j37 x2 x3 (0:Int32) M0 M1 (NI_mk (0:Int32) (NI_fed Ni) (NI_wrong Ni) (NI_octets Ni)) else o_bd (m_MM_in x3 (0:Int32) (4:Int32)) fun q6 => if q6 = 0 then m_MM_value_j37v7 x2 x3 (1:Int32) M0 M1 (NI_mk (0:Int32) (NI_fed Ni) (NI_wrong Ni) (NI_octets Ni)) else m_MM_value_j37v7 x2 x3 (0:Int32) M0 M1 (NI_mk (0:Int32) (NI_fed Ni) (NI_wrong Ni) (NI_octets Ni))) VALq := by
    intro hn
    exact q2IR (fun _ => q2Re (in0 hn) (q2tR rfl (bad _ b1))) (fun _ => q2Re (in0 hn) (q2tR rfl (bad _ b2)))
  refine q2IL (fun c => bads (by grind)) (fun c => q2IL (fun c4 => ?_) (fun c4 => bads (by grind)))
  have i1 : m_MM_in x3 0 4 = some 1 := rr_in1 (by grind) c4
  refine q2IB Iff.rfl (fun _ => q2Re i1 (q2fR (by first | decide | (dsimp only <;> decide)) ?_)) (fun _ => q2Re i1 (q2fR (by first | decide | (dsimp only <;> decide)) ?_))
  · unfold m_SJ_value_j34 m_MM_value_j37 m_MM_value_j65
    exact rr_val1 g g0 g1 rfl
  · unfold m_SJ_value_j34v7 m_MM_value_j37v7 m_MM_value_j65v10
    exact rr_val1 h h0 h1 rfl
