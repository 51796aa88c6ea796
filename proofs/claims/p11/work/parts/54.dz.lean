/-! The digits of the numbers: the whole reading -/
theorem pcA {α : Type} {o : Option α} {P Q : α → Prop} (h : o_pc o P) (g : o_pc o Q) : o_pc o (fun r => P r ∧ Q r) := fun r e => ⟨h r e, g r e⟩
theorem c_freshm {x1 x2 : Int32} {a0 : SMT} : o_pc (m_MT_fresh x1 x2 a0) (fun r => MT_many r.2 (gi r.1) = 0) := by
  unfold m_MT_fresh
  exact pcN (fun v ev => pcG (fun g => pcG (fun _ => pcG (fun _ => pcG (fun _ => pcG (fun _ => pcG (fun _ => pcG (fun _ => pcG (fun _ => pcS o_updE)))))))))
theorem DK_from0 {a s t : SMT} (x : Nat) (h : DK a s) (e1 : MT_digits t = MT_digits s) (e2 : MT_written t = MT_written s) (e3 : MT_kind t = MT_kind s) (e4 : MT_values t = MT_values s) (hx : MT_many s x = 0) (hm : MT_many t = MT_many s) (hf : ∀ i, i ≠ x → MT_from t i = MT_from s i) : DK a t := by
  obtain ⟨⟨k1, k2⟩, d1, d2, d3⟩ := h
  refine ⟨⟨by rw [e4]; exact k1, fun i hi => by rw [e3]; exact k2 i hi⟩, by rw [e1]; exact d1, by rw [e2]; exact d2, ?_⟩
  intro i hi k3 hmi
  rw [e4] at hi
  rw [e3] at k3
  rw [hm] at hmi
  have ne : i ≠ x := fun e => hmi (by rw [e]; exact hx)
  obtain ⟨k, a1, a2, a3, a4⟩ := d3 i hi k3 hmi
  unfold NZd
  rw [hm, hf i ne, e1, e2]
  exact ⟨k, a1, a2, a3, a4⟩
theorem c_number {n : Nat} {x1 : Int32} {a0 : SMT} (h : DZ a0) : o_pc (m_MT_number n x1 a0) (fun r => DK a0 r.2) := by
  unfold m_MT_number
  refine pcB (pcA (c_fresh h) c_freshm) (fun q1 ⟨⟨h1, h2, h3⟩, h4⟩ => pcN (fun x3 _ => pcG (fun _ => ?_)))
  obtain ⟨b, eb⟩ : ∃ b : SMT, b = MT_mk (MT_text q1.2) (MT_kind q1.2) (MT_place q1.2) (MT_many q1.2) (MT_parent q1.2) (MT_power q1.2) (MT_first q1.2) (MT_next q1.2) (MT_name q1.2) (upd (MT_from q1.2) (gi q1.1) (MT_written q1.2)) (MT_characters q1.2) (MT_digits q1.2) (MT_minus q1.2) (MT_values q1.2) (MT_letters q1.2) (MT_at q1.2) (MT_wrong q1.2) (MT_used q1.2) (MT_written q1.2) (MT_left q1.2) := ⟨_, rfl⟩
  have hb : DK a0 b := by
    rw [eb]
    exact DK_from0 (gi q1.1) h1 rfl rfl rfl rfl h4 rfl (fun i hi => o_updN hi)
  have z0 : (0:Int32).toInt = 0 := rfl
  have hn : DN a0 b 0 := by
    refine ⟨hb, ?_⟩
    unfold CN
    have := hb.2.2.1
    rw [z0]
    omega
  rw [← eb]
  exact pcX (fun _ => pcI (fun _ => c_51 hn) (fun _ => c_51 hn))
def OBJ (a : SMT) (k : Int32) (x : Nat) (s : SMT) : Prop := DK a s ∧ MT_kind s x = k ∧ x < gi (MT_values s)
theorem OBJ_step {a s t : SMT} {k : Int32} {x : Nat} (h : OBJ a k x s) (g : DK s t) : OBJ a k x t := ⟨DK_trans h.1 g, (g.1.2 x h.2.2).trans h.2.1, Nat.lt_of_lt_of_le h.2.2 g.1.1⟩
theorem DK_of {s t : SMT} (h : DZ s) (g : SMr s t) : DK s t := DK_sm ⟨KF_rfl, h⟩ g
theorem OBJ_sm {a s t : SMT} {k : Int32} {x : Nat} (h : OBJ a k x s) (g : SMr s t) : OBJ a k x t := OBJ_step h (DK_of h.1.2 g)
theorem OBJ_many {a s t : SMT} {k : Int32} {x : Nat} (h : OBJ a k x s) (hk : k ≠ 3) (e1 : MT_digits t = MT_digits s) (e2 : MT_written t = MT_written s) (e3 : MT_kind t = MT_kind s) (e4 : MT_values t = MT_values s) (hm : ∀ i, i ≠ x → MT_many t i = MT_many s i) (hf : MT_from t = MT_from s) : OBJ a k x t :=
  OBJ_step h (DK_alt x ⟨KF_rfl, h.1.2⟩ e1 e2 e3 e4 (by rw [h.2.1]; exact hk) hm (fun _ _ => by rw [hf]))
abbrev TRd : Type := Int32 → Int32 → SMT → Option (Int32 × SMT)
def RC (rec : TRd) : Prop := ∀ (x y : Int32) (s : SMT), DZ s → o_pc (rec x y s) (fun r => DK s r.2)
theorem c_array {n : Nat} {rec : TRd} {x1 x2 : Int32} {a0 : SMT} (hr : RC rec) (h : DZ a0) : o_pc (m_MT_array n rec x1 x2 a0) (fun r => DK a0 r.2) := by
  unfold m_MT_array
  refine pcB (c_fresh h) (fun q1 ⟨h1, h2, h3⟩ => pcB c_blanks (fun q2 hq2 => ?_))
  have o1 : OBJ a0 5 (gi q1.1) q1.2 := ⟨h1, h2, h3⟩
  have o2 : OBJ a0 5 (gi q1.1) q2 := OBJ_sm o1 (SM_trans ⟨rfl, rfl, rfl, rfl, rfl, rfl⟩ hq2)
  have j131 : ∀ (x5 : Int32) (s : SMT), OBJ a0 5 (gi q1.1) s → o_pc (m_MT_array_j131 n rec x2 q1.1 x5 s) (fun q => OBJ a0 5 (gi q1.1) q.2.2) := by
    intro x5 s hs
    unfold m_MT_array_j131
    refine pcG (fun _ => pcG (fun _ => pcB c_blanks (fun q6 h6 => ?_)))
    have o6 : OBJ a0 5 (gi q1.1) q6 := by
      refine OBJ_sm (OBJ_many hs (by decide) ?_ ?_ ?_ ?_ ?_ ?_) h6 <;> first | rfl | exact fun i hi => o_updN hi
    exact pcX (fun _ => pcI (fun _ => pcS o6) (fun _ => pcX (fun _ => pcI (fun _ => pcS (OBJ_sm o6 ⟨rfl, rfl, rfl, rfl, rfl, rfl⟩)) (fun _ => pcS o6))))
  have j87 : ∀ (x4 : Int32) (s : SMT), OBJ a0 5 (gi q1.1) s → o_pc (m_MT_array_j87 n rec x2 q1.1 x4 s) (fun q => OBJ a0 5 (gi q1.1) q.2.2) := by
    intro x4 s hs
    unfold m_MT_array_j87
    refine pcN (fun _ _ => pcB (hr _ _ _ hs.1.2) (fun q5 h5 => ?_))
    have o5 := OBJ_step hs h5
    exact pcI (fun _ => pcS o5) (fun _ => pcI (fun _ => pcG (fun _ => j131 _ _ (OBJ_sm o5 ⟨rfl, rfl, rfl, rfl, rfl, rfl⟩))) (fun _ => pcG (fun _ => j131 _ _ (OBJ_sm o5 ⟨rfl, rfl, rfl, rfl, rfl, rfl⟩))))
  refine pcX (fun _ => pcI (fun _ => pcS (DK_sm o2.1 ⟨rfl, rfl, rfl, rfl, rfl, rfl⟩)) (fun _ => ?_))
  refine pcB (pcLs (fun z : Int32 × SMT => OBJ a0 5 (gi q1.1) z.2) ?_ n _ o2) (fun q hq => ?_)
  · intro z hz
    unfold m_MT_array_b49
    refine pcB c_blanks (fun q4 h4 => pcG (fun _ => ?_))
    have o4 := OBJ_sm hz h4
    exact pcI (fun _ => pcX (fun _ => pcX (fun _ => pcI (fun _ => j87 _ _ o4) (fun _ => pcS o4)))) (fun _ => j87 _ _ o4)
  have hq : DK a0 q.2.2 := hq.1
  refine pcI (fun _ => pcB c_bad (fun r hr => pcG (fun _ => pcS (DK_sm hq hr)))) (fun _ => pcI (fun _ => pcS hq) (fun _ => pcI (fun _ => pcS (DK_sm hq ⟨rfl, rfl, rfl, rfl, rfl, rfl⟩)) (fun _ => pcB c_bad (fun r hr => pcG (fun _ => pcS (DK_sm hq hr))))))
theorem c_object {n : Nat} {rec : TRd} {x1 x2 : Int32} {a0 : SMT} (hr : RC rec) (h : DZ a0) : o_pc (m_MT_object n rec x1 x2 a0) (fun r => DK a0 r.2) := by
  unfold m_MT_object
  refine pcB (c_fresh h) (fun q1 ⟨h1, h2, h3⟩ => pcB c_blanks (fun q2 hq2 => ?_))
  have o1 : OBJ a0 6 (gi q1.1) q1.2 := ⟨h1, h2, h3⟩
  have o2 : OBJ a0 6 (gi q1.1) q2 := OBJ_sm o1 (SM_trans ⟨rfl, rfl, rfl, rfl, rfl, rfl⟩ hq2)
  have j261 : ∀ (x7 : Int32) (s : SMT), OBJ a0 6 (gi q1.1) s → o_pc (m_MT_object_j261 n rec x2 q1.1 x7 s) (fun q => OBJ a0 6 (gi q1.1) q.2.2.2) := by
    intro x7 s hs
    unfold m_MT_object_j261
    refine pcG (fun _ => pcG (fun _ => pcB c_blanks (fun q6 h6 => ?_)))
    have o6 : OBJ a0 6 (gi q1.1) q6 := by
      refine OBJ_sm (OBJ_many hs (by decide) ?_ ?_ ?_ ?_ ?_ ?_) h6 <;> first | rfl | exact fun i hi => o_updN hi
    exact pcX (fun _ => pcI (fun _ => pcS o6) (fun _ => pcX (fun _ => pcI (fun _ => pcS (OBJ_sm o6 ⟨rfl, rfl, rfl, rfl, rfl, rfl⟩)) (fun _ => pcS o6))))
  refine pcX (fun _ => pcI (fun _ => pcS (DK_sm o2.1 ⟨rfl, rfl, rfl, rfl, rfl, rfl⟩)) (fun _ => ?_))
  refine pcB (pcLs (fun z : Int32 × Int32 × SMT => OBJ a0 6 (gi q1.1) z.2.2) ?_ n _ o2) (fun q hq => ?_)
  · intro z hz
    unfold m_MT_object_b50
    refine pcB c_blanks (fun q4 h4 => pcX (fun _ => ?_))
    have o4 := OBJ_sm hz h4
    refine pcI (fun _ => pcG (fun _ => pcI (fun _ => pcS o4) (fun _ => pcI (fun _ => pcS o4) (fun _ => pcN (fun _ _ => pcN (fun _ _ => ?_)))))) (fun _ => pcS o4)
    refine pcB (c_string o4.1.2) (fun q6 h6 => ?_)
    have o6 := OBJ_step o4 h6
    refine pcI (fun _ => pcS o6) (fun _ => pcG (fun _ => pcN (fun _ _ => pcX (fun _ => pcI (fun _ => pcS o6) (fun _ => ?_)))))
    refine pcB c_blanks (fun q9 h9 => pcX (fun _ => ?_))
    have o9 := OBJ_sm o6 h9
    refine pcI (fun _ => ?_) (fun _ => pcS o9)
    refine pcB c_blanks (fun q11 h11 => pcN (fun _ _ => ?_))
    have o11 : OBJ a0 6 (gi q1.1) q11 := OBJ_sm o9 (SM_trans ⟨rfl, rfl, rfl, rfl, rfl, rfl⟩ h11)
    refine pcB (hr _ _ _ o11.1.2) (fun q12 h12 => ?_)
    have o12 := OBJ_step o11 h12
    exact pcI (fun _ => pcS o12) (fun _ => pcG (fun _ => pcI (fun _ => pcG (fun _ => j261 _ _ (OBJ_sm o12 ⟨rfl, rfl, rfl, rfl, rfl, rfl⟩))) (fun _ => pcG (fun _ => j261 _ _ (OBJ_sm o12 ⟨rfl, rfl, rfl, rfl, rfl, rfl⟩)))))
  have hq : DK a0 q.2.2.2 := hq.1
  have bad : ∀ x : Int32, o_pc (m_MT_bad x q.2.2.2) (fun r => DK a0 r.2) := fun x => pcW c_bad (fun r hr => DK_sm hq hr)
  have j88 : o_pc (m_MT_object_j88 n rec q.2.2.2) (fun r => DK a0 r.2) := by
    unfold m_MT_object_j88
    exact pcB (bad _) (fun r hr => pcG (fun _ => pcS hr))
  refine pcI (fun _ => j88) (fun _ => pcI (fun _ => pcS hq) (fun _ => pcI (fun _ => pcB (bad _) (fun r hr => pcG (fun _ => pcS hr))) (fun _ => pcI (fun _ => pcB (bad _) (fun r hr => pcG (fun _ => pcS hr))) (fun _ => pcI (fun _ => pcS hq) (fun _ => pcI (fun _ => pcS ?_) (fun _ => pcB (bad _) (fun r hr => pcG (fun _ => pcS hr))))))))
  exact DK_sm hq ⟨rfl, rfl, rfl, rfl, rfl, rfl⟩
theorem c_value83 {n : Nat} {rec : TRd} {x1 x2 x3 x4 : Int32} {a0 : SMT} (hr : RC rec) (h : DZ a0) : o_pc (m_MT_value_j83 n rec x1 x2 x3 x4 a0) (fun r => DK a0 r.2) := by
  have bad : ∀ x : Int32, o_pc (m_MT_bad x a0) (fun r => DK a0 r.2) := fun x => pcW c_bad (fun r hr => DK_of h hr)
  unfold m_MT_value_j83
  refine pcI (fun _ => pcB (bad _) (fun r hr => pcG (fun _ => pcS hr))) (fun _ => pcI (fun _ => ?_) (fun _ => pcI (fun _ => ?_) (fun _ => pcI (fun _ => ?_) (fun _ => pcI (fun _ => ?_) (fun _ => pcI (fun _ => pcI (fun _ => ?_) (fun _ => pcI (fun _ => ?_) (fun _ => ?_))) (fun _ => ?_))))))
  · exact pcB (c_word h) (fun r hr => pcG (fun _ => pcS hr))
  · exact pcB (c_word h) (fun r hr => pcG (fun _ => pcS hr))
  · exact pcB (c_word h) (fun r hr => pcG (fun _ => pcS hr))
  · exact pcB (c_string h) (fun r hr => pcG (fun _ => pcS hr))
  · exact pcB (bad _) (fun r hr => pcG (fun _ => pcS hr))
  · exact pcB (c_array hr h) (fun r hr => pcG (fun _ => pcS hr))
  · exact pcB (c_object hr h) (fun r hr => pcG (fun _ => pcS hr))
  · exact pcB (c_number h) (fun r hr => pcG (fun _ => pcS hr))
theorem c_value {n : Nat} : ∀ d : Nat, RC (m_MT_value n d) := by
  intro d
  induction d with
  | zero => intro x y s _ r e; cases e
  | succ d ih =>
    intro x y s h
    show o_pc (m_MT_value_F n (m_MT_value n d) x y s) (fun r => DK s r.2)
    have bad : ∀ x : Int32, o_pc (m_MT_bad x s) (fun r => DK s r.2) := fun x => pcW c_bad (fun r hr => DK_of h hr)
    have j31 : ∀ (x3 y0 : Int32), o_pc (m_MT_value_j31 n (m_MT_value n d) x y x3 y0 s) (fun r => DK s r.2) := by
      intro x3 y0
      have j := c_value83 (n := n) (rec := m_MT_value n d) (x1 := x) (x2 := y) (x3 := x3) (x4 := y0) (a0 := s) ih h
      unfold m_MT_value_j31
      exact pcI (fun _ => j) (fun _ => pcI (fun _ => j) (fun _ => pcI (fun _ => j) (fun _ => pcI (fun _ => j) (fun _ => pcI (fun _ => j) (fun _ => pcI (fun _ => j) (fun _ => pcI (fun _ => pcB (bad _) (fun r hr => pcG (fun _ => pcS hr))) (fun _ => j)))))))
    unfold m_MT_value_F
    exact pcX (fun _ => pcX (fun _ => pcI (fun _ => pcI (fun _ => j31 _ _) (fun _ => j31 _ _)) (fun _ => j31 _ _)))
theorem gi0 : gi (0:Int32) = 0 := rfl
theorem c_read {n : Nat} {x1 : Int32} {a0 : SMT} (h : o_bn 0 9 (MT_digits a0)) : o_pc (m_MT_read n x1 a0) (fun r => DZ r.2) := by
  have j67 : ∀ s : SMT, DZ s → o_pc (m_MT_read_j67 n s) (fun r => DZ r.2) := by
    intro s hs
    unfold m_MT_read_j67
    exact pcI (fun _ => pcS hs) (fun _ => pcS ⟨hs.1, hs.2.1, fun i hi => absurd hi (Nat.not_lt_zero i)⟩)
  unfold m_MT_read
  obtain ⟨c, hc⟩ : ∃ c : SMT, c = MT_mk (MT_text a0) (MT_kind a0) (MT_place a0) (MT_many a0) (MT_parent a0) (MT_power a0) (MT_first a0) (MT_next a0) (MT_name a0) (MT_from a0) (MT_characters a0) (MT_digits a0) (MT_minus a0) (0:Int32) x1 (0:Int32) (-1:Int32) (0:Int32) (0:Int32) (MT_left a0) := ⟨_, rfl⟩
  have h0 : DZ c := by
    rw [hc]
    refine ⟨h, ⟨show (0:Int) ≤ (0:Int32).toInt by decide, show (0:Int32).toInt ≤ (8192:Int) by decide⟩, fun i hi => absurd hi (Nat.not_lt_zero i)⟩
  rw [← hc]
  refine pcB c_blanks (fun q1 h1 => ?_)
  have d1 : DZ q1 := (DK_of h0 h1).2
  refine pcB (c_value 43 _ _ _ d1) (fun q2 h2 => pcI (fun _ => j67 _ h2.2) (fun _ => ?_))
  refine pcB c_blanks (fun q3 h3 => ?_)
  have d3 : DZ q3 := (DK_of h2.2 h3).2
  exact pcI (fun _ => j67 _ d3) (fun _ => pcB c_bad (fun q4 h4 => j67 _ (DK_of d3 h4).2))
