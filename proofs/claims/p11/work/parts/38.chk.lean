/-! The reference's check: names of keywords -/
def MKs (a : SMT) (v : Int32) (k : Nat) : Prop := MT_many a (gi v) = o_sl k ∧ ∀ j : Int32, 0 ≤ j → j < o_sl k → m_JS_charAt k j = some (MT_characters a (gi (MT_from a (gi v) + j)))
theorem s_is_ext {n : Nat} {x1 : Int32} {x2 : Nat} {a0 : SMT} (hn : o_big ≤ n) (hI : I_MT a0) (hT : T_MT a0) (p0 : 0 ≤ x1) (p1 : x1 < MT_values a0) (p2 : MT_kind a0 (gi x1) = 4) : o_ok (m_MT_is n x1 x2 a0) (fun r => (r = 0 ∨ r = 1) ∧ (r ≠ 0 → MKs a0 x1 x2) ∧ (MKs a0 x1 x2 → r ≠ 0)) := by
  obtain ⟨f1, f2, f3, f4⟩ := (hT x1 p0 p1).2.2.2.2.1 p2
  have i := sc_MT hI
  have g := o_inV hI p0 p1
  unfold m_MT_is
  refine o_okG g ?_
  refine o_okB s_JS_length ?_
  intro q1 e1
  subst e1
  refine o_okI (fun hm => ?_) (fun hm => o_okS ⟨Or.inl rfl, fun e => absurd rfl e, fun h => absurd h.1 hm⟩)
  have hm : MT_many a0 (gi x1) = o_sl x2 := hm
  have f4 : o_sl x2 ≤ MT_used a0 - MT_from a0 (gi x1) := by rw [← hm]; exact f4
  have ar : ∀ f m u v : Int32, 0 ≤ f → f ≤ u → u ≤ 4000 → 0 ≤ u → m ≤ u - f → 0 ≤ v → v < m → 0 ≤ f + v ∧ f + v < 4000 ∧ 0 ≤ v + 1 ∧ v < v + 1 ∧ (∀ a : Int32, a < v + 1 → a = v ∨ a < v) := by
    clear hI hT i g f1 f2 f3 f4 hm
    intro f m u v h1 h2 h3 h4 h5 h6 h7
    refine ⟨?_, ?_, ?_, ?_, fun a h => ?_⟩ <;> grind
  refine o_okB (o_lpR (z := (0:Int32)) (P := fun q => (q.1 = 1 ∧ ∃ j : Int32, 0 ≤ j ∧ j < o_sl x2 ∧ m_JS_charAt x2 j ≠ some (MT_characters a0 (gi (MT_from a0 (gi x1) + j)))) ∨ (q.1 ≠ 1 ∧ ∀ j : Int32, 0 ≤ j → j < o_sl x2 → m_JS_charAt x2 j = some (MT_characters a0 (gi (MT_from a0 (gi x1) + j)))))
    (fun z : Int32 => 0 ≤ z ∧ ∀ j : Int32, 0 ≤ j → j < z → m_JS_charAt x2 j = some (MT_characters a0 (gi (MT_from a0 (gi x1) + j)))) o_mu hn o_muB ⟨show (0:Int32) ≤ 0 by decide, fun a b0 hb => absurd (Int32.lt_of_le_of_lt b0 hb) (by decide)⟩ (fun z hz => ?_)) ?_
  · obtain ⟨z0, z1⟩ := hz
    unfold m_MT_is_b17
    refine o_okB s_JS_length ?_
    intro q2 e2
    subst e2
    refine o_okI (fun c => o_okS ⟨fun e => absurd e (Nat.succ_ne_zero 1), fun _ => Or.inr ⟨show (2:Nat) ≠ 1 by decide, fun a b0 hb => z1 a b0 (Int32.lt_of_lt_of_le hb c)⟩⟩) (fun c => ?_)
    have c : z < o_sl x2 := Int32.not_le.mp c
    obtain ⟨r1, r2, r3, r4, r5⟩ := ar (MT_from a0 (gi x1)) _ _ z f1 f3 i.2.2.2.2.2.2.2.1 i.2.2.2.2.2.2.1 f4 z0 c
    have gc : o_in (MT_from a0 (gi x1) + z) 4000 = true := o_inM (m := 4000) rfl r1 r2
    obtain ⟨ch, ec, _⟩ := s_JS_charAt (x0 := x2) z0 c
    refine o_okG g (o_okG gc ?_)
    refine o_okB (o_okE ec) ?_
    intro q3 e3
    subst e3
    refine o_okI (fun h => o_okN (fun w ew => o_okS ⟨fun _ => ⟨⟨?_, fun a b0 hb => ?_⟩, ?_⟩, fun e => absurd rfl e⟩)) (fun h => o_okS ⟨fun e => absurd e (Nat.succ_ne_zero 0), fun _ => Or.inl ⟨rfl, z, z0, c, ?_⟩⟩)
    · show 0 ≤ w
      rw [ew]; exact r3
    · have hb : a < w := hb
      rw [ew] at hb
      rcases r5 a hb with e | e
      · rw [e, ec]
        have h : MT_characters a0 (gi (MT_from a0 (gi x1) + z)) = q3 := h
        rw [h]
      · exact z1 a b0 e
    · show o_mu w < o_mu z
      rw [ew]; exact o_muL r4
    · rw [ec]
      intro e
      have e := Option.some.inj e
      exact h e.symm
  · intro q4 ⟨_, h4⟩
    refine o_okI (fun e => o_okS ⟨Or.inl rfl, fun e => absurd rfl e, fun h => ?_⟩) (fun e => o_okS ⟨Or.inr rfl, fun _ => ⟨hm, ?_⟩, fun _ => (by decide)⟩)
    · rcases h4 with ⟨_, j, j0, j1, j2⟩ | ⟨h1, _⟩
      · exact absurd (h.2 j j0 j1) j2
      · exact absurd e h1
    · rcases h4 with ⟨h1, _⟩ | ⟨_, h2⟩
      · exact absurd h1 e
      · exact h2
def kq (k1 k2 : Nat) : Bool := (k1 == k2) || !(o_sl (mk_keys k1) == o_sl (mk_keys k2)) || (List.range 41).any (fun j => decide (Int32.ofNat j < o_sl (mk_keys k1)) && !(m_JS_charAt (mk_keys k1) (Int32.ofNat j) == m_JS_charAt (mk_keys k2) (Int32.ofNat j)))
theorem kq_all : ((List.range 44).all fun k1 => (List.range 44).all fun k2 => kq k1 k2) = true := by decide +kernel
theorem keys_uq (k1 : Nat) (h1 : k1 < 44) (k2 : Nat) (h2 : k2 < 44) (e : o_sl (mk_keys k1) = o_sl (mk_keys k2)) (h : ∀ j, j < 41 → Int32.ofNat j < o_sl (mk_keys k1) → m_JS_charAt (mk_keys k1) (Int32.ofNat j) = m_JS_charAt (mk_keys k2) (Int32.ofNat j)) : k1 = k2 := by
  have a := List.all_eq_true.mp kq_all k1 (List.mem_range.mpr h1)
  have b := List.all_eq_true.mp a k2 (List.mem_range.mpr h2)
  unfold kq at b
  rw [Bool.or_eq_true, Bool.or_eq_true] at b
  rcases b with (b | b) | b
  · exact eq_of_beq b
  · rw [e, beq_self_eq_true] at b
    cases b
  · obtain ⟨j, j1, j2⟩ := List.any_eq_true.mp b
    rw [Bool.and_eq_true] at j2
    have j3 := h j (List.mem_range.mp j1) (of_decide_eq_true j2.1)
    rw [j3, beq_self_eq_true] at j2
    cases j2.2
theorem MKs_uq {a : SMT} {v : Int32} {k1 k2 : Nat} (h1 : k1 < 44) (h2 : k2 < 44) (a1 : MKs a v (mk_keys k1)) (a2 : MKs a v (mk_keys k2)) : k1 = k2 := by
  have e := a1.1.symm.trans a2.1
  refine keys_uq k1 h1 k2 h2 e (fun j _ hj2 => ?_)
  have h0 : 0 ≤ Int32.ofNat j := by
    have : ∀ j, j < 41 → 0 ≤ Int32.ofNat j := by decide
    exact this j (by assumption)
  rw [a1.2 _ h0 hj2, a2.2 _ h0 (by rw [← e]; exact hj2)]
/-- what the kind of a keyword's value must be -/
def KOK (s : SMT) (m k : Int32) : Prop := (15 ≤ k → k ≤ 17 → MT_kind s (gi m) = 6) ∧ (18 ≤ k → k ≤ 22 → MT_kind s (gi m) = 3) ∧ (k = 22 → MT_many s (gi m) ≠ 0) ∧ (23 ≤ k → k ≤ 30 → MT_kind s (gi m) = 3) ∧ (31 ≤ k → k ≤ 32 → MT_kind s (gi m) = 4) ∧ (k = 38 → ASTR s m) ∧ (k = 39 → MT_kind s (gi m) = 6 ∧ ∃ L, CL (MT_next s) L (MT_first s (gi m)) ∧ ∀ c ∈ L, ASTR s c)
def VIS (s : SMT) (key : Nat → Int32) (m : Int32) : Prop := ∀ k, k < 44 → MKs s (MT_name s (gi m)) (mk_keys k) → 0 ≤ key (gi m) ∧ gi (key (gi m)) = k
def KI (s : SMT) (Es Em : Int32 → Prop) (f : SNF) (a : SNA) : Prop := ANx s a ∧
  (∀ m : Int32, 0 ≤ m → m < MT_values s → NA_key a (gi m) = -1 ∨ (0 ≤ NA_key a (gi m) ∧ NA_key a (gi m) ≤ 43 ∧ MT_name s (gi m) ≠ -1 ∧ 0 < m ∧ NA_isSchema a (gi (MT_parent s (gi m))) ≠ 0 ∧ MKs s (MT_name s (gi m)) (mk_keys (gi (NA_key a (gi m)))))) ∧
  (NF_faultKind f = 0 → ∀ m : Int32, 0 ≤ m → m < MT_values s → 0 ≤ NA_key a (gi m) → ¬ Em m → KOK s m (NA_key a (gi m))) ∧
  (∀ x : Int32, 0 ≤ x → x < MT_values s → NA_isSchema a (gi x) ≠ 0 → ¬ Es x → MT_kind s (gi x) = 6 → ∀ L, CL (MT_next s) L (MT_first s (gi x)) → ∀ m ∈ L, VIS s (NA_key a) m)
/-- the later keys -/
def KR (s : SMT) (a b : SNA) : Prop := (∀ m : Int32, 0 ≤ m → m < MT_values s → NA_key b (gi m) = NA_key a (gi m) ∨ ∃ k, k < 44 ∧ 0 ≤ NA_key b (gi m) ∧ gi (NA_key b (gi m)) = k ∧ MKs s (MT_name s (gi m)) (mk_keys k)) ∧ (∀ x : Int32, 0 ≤ x → x < MT_values s → NA_isSchema a (gi x) ≠ 0 → NA_isSchema b (gi x) ≠ 0)
theorem KR_rfl {s : SMT} {a : SNA} : KR s a a := ⟨fun _ _ _ => Or.inl rfl, fun _ _ _ h => h⟩
theorem KR_trans {s : SMT} {a b c : SNA} (h : KR s a b) (g : KR s b c) : KR s a c := by
  refine ⟨fun m m0 m1 => ?_, fun x x0 x1 hx => g.2 x x0 x1 (h.2 x x0 x1 hx)⟩
  rcases g.1 m m0 m1 with e | e
  · rcases h.1 m m0 m1 with e2 | ⟨k, k1, k2, k3, k4⟩
    · exact Or.inl (e.trans e2)
    · exact Or.inr ⟨k, k1, by rw [e]; exact k2, by rw [e]; exact k3, k4⟩
  · exact Or.inr e
theorem VIS_KR {s : SMT} {a b : SNA} {m : Int32} (m0 : 0 ≤ m) (m1 : m < MT_values s) (h : VIS s (NA_key a) m) (g : KR s a b) : VIS s (NA_key b) m := by
  intro k k1 hk
  rcases g.1 m m0 m1 with e | ⟨k', k2, k3, k4, k5⟩
  · rw [e]; exact h k k1 hk
  · exact ⟨k3, k4.trans (MKs_uq k2 k1 k5 hk)⟩
/-- what a fault leaves standing -/
theorem KI_f {s : SMT} {Es Em : Int32 → Prop} {f f' : SNF} {a : SNA} (h : KI s Es Em f a) (hf : NF_faultKind f' = 0 → NF_faultKind f = 0) : KI s Es Em f' a := ⟨h.1, h.2.1, fun e => h.2.2.1 (hf e), h.2.2.2⟩
