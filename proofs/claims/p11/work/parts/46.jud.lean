/-! The reference's validate: what the keywords ask -/
abbrev MTL (a : SMT) (l : Nat → Int32) : SMT := MT_mk (MT_text a) (MT_kind a) (MT_place a) (MT_many a) (MT_parent a) (MT_power a) (MT_first a) (MT_next a) (MT_name a) (MT_from a) (MT_characters a) (MT_digits a) (MT_minus a) (MT_values a) (MT_letters a) (MT_at a) (MT_wrong a) (MT_used a) (MT_written a) l
/-- alike but for the remainder's row -/
def LF (a b : SMT) : Prop := ∃ l, b = MTL a l
theorem LF_rfl {a : SMT} : LF a a := ⟨MT_left a, rfl⟩
theorem LF_trans {a b c : SMT} (h : LF a b) (g : LF b c) : LF a c := by
  obtain ⟨l, rfl⟩ := h
  obtain ⟨k, rfl⟩ := g
  exact ⟨k, rfl⟩
theorem LF_I {a b : SMT} (h : LF a b) (hI : I_MT a) : I_MT b := by
  obtain ⟨l, rfl⟩ := h
  exact hI
theorem LF_T {a b : SMT} (h : LF a b) (hT : T_MT a) : T_MT b := by
  obtain ⟨l, rfl⟩ := h
  exact hT
theorem LF_next {a b : SMT} (h : LF a b) : MT_next b = MT_next a := by
  obtain ⟨l, rfl⟩ := h
  rfl
theorem LF_first {a b : SMT} (h : LF a b) : MT_first b = MT_first a := by
  obtain ⟨l, rfl⟩ := h
  rfl
theorem LF_name {a b : SMT} (h : LF a b) : MT_name b = MT_name a := by
  obtain ⟨l, rfl⟩ := h
  rfl
theorem LF_kind {a b : SMT} (h : LF a b) : MT_kind b = MT_kind a := by
  obtain ⟨l, rfl⟩ := h
  rfl
theorem LF_many {a b : SMT} (h : LF a b) : MT_many b = MT_many a := by
  obtain ⟨l, rfl⟩ := h
  rfl
theorem LF_values {a b : SMT} (h : LF a b) : MT_values b = MT_values a := by
  obtain ⟨l, rfl⟩ := h
  rfl
theorem o_len {n : Nat} (hn : o_big ≤ n) {L : List Int32} (h : L.length ≤ 2000) : L.length < n := Nat.lt_of_le_of_lt h (Nat.lt_of_lt_of_le (by decide) hn)
theorem s_member_x {n : Nat} {x1 : Int32} {x2 : Nat} {a : SMT} (hn : o_big ≤ n) (hI : I_MT a) (hT : T_MT a) (v0 : 0 ≤ x1) (v1 : x1 < MT_values a) (hk : MT_kind a (gi x1) = 6) : o_ok (m_MT_member n x1 x2 a) (fun r => r = -1 ∨ ((0 ≤ r ∧ r < MT_values a) ∧ (∃ L, CL (MT_next a) L (MT_first a (gi x1)) ∧ r ∈ L) ∧ MKs a (MT_name a (gi r)) x2)) := by
  obtain ⟨L, l1, l2, l3⟩ := tchainN hI hT v0 v1 hk
  unfold m_MT_member
  refine o_okG (o_inV hI v0 v1) (o_okN (fun w ew => ?_))
  have ew : w = MT_first a (gi x1) := ew
  refine o_okB (cl_lp (P := fun q => q.1 = 1 → (q.2 ∈ L ∧ MKs a (MT_name a (gi q.2)) x2)) (V := fun z : Int32 => z) (fun L2 z => ∀ y ∈ L2, y ∈ L) ?_ ?_ L n w (o_len hn l2) (by rw [ew]; exact l1) (fun y h => h)) ?_
  · intro L2 z hJ hL e
    rw [e] at hL
    have hz : z = -1 := hL
    subst hz
    unfold m_MT_member_b7
    exact o_okI (fun _ => o_okS ⟨Nat.succ_ne_zero 1, fun e => absurd (show (2:Nat) = 1 from e) (by decide)⟩) (fun c => absurd (show (-1:Int32) < 0 by decide) c)
  · intro y L2 z hJ ey y0' _
    have hy := hJ y List.mem_cons_self
    obtain ⟨_, w0, w1, wn⟩ := l3 y hy
    obtain ⟨nm0, nm1, nm2, _⟩ := nameOK hT w0 w1 wn
    have gy := o_inV hI w0 w1
    have ey : z = y := ey
    subst ey
    unfold m_MT_member_b7
    refine o_okI (fun c => absurd w0 (Int32.not_le.mpr c)) (fun _ => o_okG gy ?_)
    refine o_okB (s_is_ext hn hI hT nm0 nm1 nm2) ?_
    intro q1 ⟨_, q2, _⟩
    refine o_okI (fun _ => o_okG gy (o_okN (fun u eu => o_okS ⟨fun _ => ⟨fun w hw => hJ w (List.mem_cons_of_mem _ hw), eu⟩, fun e => absurd rfl e⟩))) (fun ne => o_okS ⟨fun e => absurd e (Nat.succ_ne_zero 0), fun _ _ => ⟨hy, q2 ne⟩⟩)
  · intro q ⟨_, hq⟩
    refine o_okI (fun e => o_okS (Or.inr ?_)) (fun _ => o_okS (Or.inl rfl))
    obtain ⟨h1, h2⟩ := hq e
    exact ⟨⟨(l3 _ h1).2.1, (l3 _ h1).2.2.1⟩, ⟨L, l1, h1⟩, h2⟩
theorem s_member_1x {n : Nat} {x1 x3 : Int32} {a a2 : SMT} (hn : o_big ≤ n) (hI : I_MT a) (hT : T_MT a) (hI2 : I_MT a2) (hT2 : T_MT a2) (v0 : 0 ≤ x1) (v1 : x1 < MT_values a) (hk : MT_kind a (gi x1) = 6) (k0 : 0 ≤ x3) (k1 : x3 < MT_values a2) (k4 : MT_kind a2 (gi x3) = 4) : o_ok (m_MT_member_1 n x1 x3 a a2) (fun r => r = -1 ∨ ((0 ≤ r ∧ r < MT_values a) ∧ ∃ L, CL (MT_next a) L (MT_first a (gi x1)) ∧ L.length ≤ 2000 ∧ r ∈ L)) := by
  obtain ⟨L, l1, l2, l3⟩ := tchainN hI hT v0 v1 hk
  unfold m_MT_member_1
  refine o_okG (o_inV hI v0 v1) (o_okN (fun w ew => ?_))
  have ew : w = MT_first a (gi x1) := ew
  refine o_okB (cl_lp (P := fun q => q.1 = 1 → q.2 ∈ L) (V := fun z : Int32 => z) (fun L2 z => ∀ y ∈ L2, y ∈ L) ?_ ?_ L n w (o_len hn l2) (by rw [ew]; exact l1) (fun y h => h)) ?_
  · intro L2 z hJ hL e
    rw [e] at hL
    have hz : z = -1 := hL
    subst hz
    unfold m_MT_member_1_b8
    exact o_okI (fun _ => o_okS ⟨Nat.succ_ne_zero 1, fun e => absurd (show (2:Nat) = 1 from e) (by decide)⟩) (fun c => absurd (show (-1:Int32) < 0 by decide) c)
  · intro y L2 z hJ ey y0' _
    have hy := hJ y List.mem_cons_self
    obtain ⟨_, w0, w1, wn⟩ := l3 y hy
    obtain ⟨nm0, nm1, nm2, _⟩ := nameOK hT w0 w1 wn
    have gy := o_inV hI w0 w1
    have ey : z = y := ey
    subst ey
    unfold m_MT_member_1_b8
    refine o_okI (fun c => absurd w0 (Int32.not_le.mpr c)) (fun _ => o_okG gy ?_)
    refine o_okB (s_MT_same hn hI2 hT2 hI hT k0 k1 k4 nm0 nm1 nm2) ?_
    intro q1 _
    exact o_okI (fun _ => o_okG gy (o_okN (fun u eu => o_okS ⟨fun _ => ⟨fun w hw => hJ w (List.mem_cons_of_mem _ hw), eu⟩, fun e => absurd rfl e⟩))) (fun _ => o_okS ⟨fun e => absurd e (Nat.succ_ne_zero 0), fun _ _ => hy⟩)
  · intro q ⟨_, hq⟩
    refine o_okI (fun e => o_okS (Or.inr ?_)) (fun _ => o_okS (Or.inl rfl))
    have h1 := hq e
    exact ⟨⟨(l3 _ h1).2.1, (l3 _ h1).2.2.1⟩, L, l1, l2, h1⟩
theorem s_MM_requires {n : Nat} {x1 x2 : Int32} {M0 M1 : SMT} (hn : o_big ≤ n) (hI : I_MT M0) (hT : T_MT M0) (hI1 : I_MT M1) (hT1 : T_MT M1) (v0 : 0 ≤ x1) (v1 : x1 < MT_values M0) (hA : ASTR M0 x1) (w0 : 0 ≤ x2) (w1 : x2 < MT_values M1) (wk : MT_kind M1 (gi x2) = 6) : o_ok (m_MM_requires n x1 x2 M0 M1) (fun r => r = 0 ∨ r = 1) := by
  obtain ⟨L, l1, l2, l3⟩ := tchain hI hT v0 v1
  obtain ⟨_, L', a1, a2⟩ := hA
  have eL := CL_det L' L _ a1 l1
  rw [eL] at a2
  unfold m_MM_requires
  refine o_okG (o_inV hI v0 v1) (o_okN (fun w ew => ?_))
  have ew : w = MT_first M0 (gi x1) := ew
  refine o_okB (cl_lp (P := fun _ => True) (V := fun z : Int32 => z) (fun L2 z => ∀ y ∈ L2, y ∈ L) ?_ ?_ L n w (o_len hn l2) (by rw [ew]; exact l1) (fun y h => h)) ?_
  · intro L2 z hJ hL e
    rw [e] at hL
    have hz : z = -1 := hL
    subst hz
    unfold m_MM_requires_b10
    exact o_okI (fun _ => o_okS ⟨Nat.succ_ne_zero 1, trivial⟩) (fun c => absurd (show (-1:Int32) < 0 by decide) c)
  · intro y L2 z hJ ey y0' _
    have hy := hJ y List.mem_cons_self
    obtain ⟨_, u0, u1⟩ := l3 y hy
    have gy := o_inV hI u0 u1
    have ey : z = y := ey
    subst ey
    unfold m_MM_requires_b10
    refine o_okI (fun c => absurd u0 (Int32.not_le.mpr c)) (fun _ => ?_)
    refine o_okB (s_member_1x hn hI1 hT1 hI hT w0 w1 wk u0 u1 (a2 _ hy)) ?_
    intro q1 _
    exact o_okI (fun _ => o_okG gy (o_okN (fun u eu => o_okS ⟨fun _ => ⟨fun w hw => hJ w (List.mem_cons_of_mem _ hw), eu⟩, fun e => absurd rfl e⟩))) (fun _ => o_okS ⟨fun e => absurd e (Nat.succ_ne_zero 0), fun _ => trivial⟩)
  · intro q _
    exact o_okI (fun _ => o_okS (Or.inl rfl)) (fun _ => o_okS (Or.inr rfl))
theorem s_MM_placeOf {n : Nat} {x1 x2 : Int32} {M1 : SMT} {L : List Int32} (hn : o_big ≤ n) (hI : I_MT M1) (hT : T_MT M1) (v0 : 0 ≤ x1) (v1 : x1 < MT_values M1) (l1 : CL (MT_next M1) L (MT_first M1 (gi x1))) (l2 : L.length ≤ 2000) (hm : x2 ∈ L) : o_ok (m_MM_placeOf n x1 x2 M1) (fun _ => True) := by
  obtain ⟨L', c1, c2, c3⟩ := tchain hI hT v0 v1
  have eL := CL_det L' L _ c1 l1
  rw [eL] at c3
  unfold m_MM_placeOf
  refine o_okG (o_inV hI v0 v1) (o_okN (fun w ew => ?_))
  have ew : w = MT_first M1 (gi x1) := ew
  refine o_okB (cl_lp (P := fun _ => True) (V := fun z : Int32 × Int32 => z.2) (fun L2 z => x2 ∈ L2 ∧ ∀ y ∈ L2, y ∈ L) ?_ ?_ L n ((0:Int32), w) (o_len hn l2) (by rw [ew]; exact l1) ⟨hm, fun y h => h⟩) ?_
  · intro L2 z hJ hL e
    rw [e] at hJ
    cases hJ.1
  · intro y L2 z hJ ey y0' _
    obtain ⟨j1, j2⟩ := hJ
    obtain ⟨_, u0, u1⟩ := c3 y (j2 y List.mem_cons_self)
    have ey : z.2 = y := ey
    unfold m_MM_placeOf_b13
    rw [ey]
    refine o_okI (fun _ => o_okS ⟨fun e => absurd e (Nat.succ_ne_zero 0), fun _ => trivial⟩) (fun ne => o_okN (fun u eu => o_okG (o_inV hI u0 u1) (o_okN (fun v ev => o_okS ⟨fun _ => ⟨⟨?_, fun w hw => j2 w (List.mem_cons_of_mem _ hw)⟩, ev⟩, fun e => absurd rfl e⟩))))
    rcases List.mem_cons.mp j1 with e | e
    · exact absurd e.symm ne
    · exact e
  · intro q _
    exact o_okS trivial
theorem s_MM_has {n : Nat} {x1 x2 x3 : Int32} {M0 M1 : SMT} (hn : o_big ≤ n) (hI : I_MT M0) (hT : T_MT M0) (hI1 : I_MT M1) (hT1 : T_MT M1) (v0 : 0 ≤ x1) (v1 : x1 < MT_values M0) (w0 : 0 ≤ x2) (w1 : x2 < MT_values M1) : o_ok (m_MM_has n x1 x2 x3 M0 M1) (fun r => r = 0 ∨ r = 1) := by
  have y1 : o_ok (some (1:Int32)) (fun r => r = 0 ∨ r = 1) := o_okS (Or.inr rfl)
  have y0 : o_ok (some (0:Int32)) (fun r => r = 0 ∨ r = 1) := o_okS (Or.inl rfl)
  unfold m_MM_has
  refine o_okG (o_inV hI1 w0 w1) (o_okN (fun k ek => ?_))
  refine o_okB (s_MM_typeOf hn hI hT v0 v1) ?_
  intro q1 _
  refine o_okI (fun _ => o_okI (fun _ => y1) (fun _ => y0)) (fun _ => ?_)
  refine o_okI (fun _ => o_okI (fun _ => y1) (fun _ => o_okI (fun _ => y1) (fun _ => y0))) (fun _ => ?_)
  refine o_okI (fun _ => o_okI (fun _ => y1) (fun _ => y0)) (fun _ => ?_)
  refine o_okI (fun _ => o_okI (fun _ => y1) (fun _ => y0)) (fun _ => ?_)
  refine o_okI (fun _ => o_okI (fun _ => y1) (fun _ => y0)) (fun _ => ?_)
  refine o_okI (fun _ => o_okI (fun _ => y1) (fun _ => y0)) (fun _ => ?_)
  refine o_okB (s_MT_isWhole hI1 hT1 w0 w1) ?_
  intro q2 _
  exact o_okI (fun _ => y0) (fun _ => o_okI (fun _ => y0) (fun _ => y1))
theorem s_MM_isType {n : Nat} {x1 x2 : Int32} {M0 M1 : SMT} (hn : o_big ≤ n) (hI : I_MT M0) (hT : T_MT M0) (hI1 : I_MT M1) (hT1 : T_MT M1) (v0 : 0 ≤ x1) (v1 : x1 < MT_values M0) (w0 : 0 ≤ x2) (w1 : x2 < MT_values M1) : o_ok (m_MM_isType n x1 x2 M0 M1) (fun r => r = 0 ∨ r = 1) := by
  obtain ⟨L, l1, l2, l3⟩ := tchain hI hT v0 v1
  have gx := o_inV hI v0 v1
  unfold m_MM_isType
  refine o_okG gx (o_okI (fun _ => o_okG gx (o_okN (fun w ew => ?_))) (fun _ => ?_))
  · have ew : w = MT_first M0 (gi x1) := ew
    refine o_okB (cl_lp (P := fun _ => True) (V := fun z : Int32 => z) (fun L2 z => ∀ y ∈ L2, y ∈ L) ?_ ?_ L n w (o_len hn l2) (by rw [ew]; exact l1) (fun y h => h)) ?_
    · intro L2 z hJ hL e
      rw [e] at hL
      have hz : z = -1 := hL
      subst hz
      unfold m_MM_isType_b31
      exact o_okI (fun _ => o_okS ⟨Nat.succ_ne_zero 1, trivial⟩) (fun c => absurd (show (-1:Int32) < 0 by decide) c)
    · intro y L2 z hJ ey y0' _
      have hy := hJ y List.mem_cons_self
      obtain ⟨_, u0, u1⟩ := l3 y hy
      have gy := o_inV hI u0 u1
      have ey : z = y := ey
      subst ey
      unfold m_MM_isType_b31
      refine o_okI (fun c => absurd u0 (Int32.not_le.mpr c)) (fun _ => ?_)
      refine o_okB (s_MM_has hn hI hT hI1 hT1 u0 u1 w0 w1) ?_
      intro q1 _
      exact o_okI (fun _ => o_okG gy (o_okN (fun u eu => o_okS ⟨fun _ => ⟨fun w hw => hJ w (List.mem_cons_of_mem _ hw), eu⟩, fun e => absurd rfl e⟩))) (fun _ => o_okS ⟨fun e => absurd e (Nat.succ_ne_zero 0), fun _ => trivial⟩)
    · intro q _
      exact o_okI (fun _ => o_okS (Or.inr rfl)) (fun _ => o_okS (Or.inl rfl))
  · refine o_okB (s_MM_has hn hI hT hI1 hT1 v0 v1 w0 w1) ?_
    intro q3 h3
    exact o_okG (o_zbM h3) (o_okS h3)
abbrev T4p : Type := SNP × SNO × SNX × Nat
theorem s_MM_isIn {n : Nat} {x1 x2 : Int32} {M0 M1 : SMT} {Np : SNP} {No : SNO} {Nx : SNX} {Na : SNA} {rt : Nat} (hn : o_big ≤ n) (hI : I_MT M0) (hT : T_MT M0) (hI1 : I_MT M1) (hT1 : T_MT M1) (hV : KVx M0 Na) (v0 : 0 ≤ x1) (v1 : x1 < MT_values M0) (vk : MT_kind M0 (gi x1) = 6) (vs : NA_isSchema Na (gi x1) ≠ 0) (w0 : 0 ≤ x2) (w1 : x2 < MT_values M1) (wk : MT_kind M1 (gi x2) = 4) (hP : I_NP Np) : o_ok (m_MM_isIn n x1 x2 M0 M1 Np No Nx rt) (fun r => I_NP r.2.1) := by
  have kok : ∀ (q : Int32) (k : Nat), k < 44 → ((0 ≤ q ∧ q < MT_values M0) ∧ (∃ L, CL (MT_next M0) L (MT_first M0 (gi x1)) ∧ q ∈ L) ∧ MKs M0 (MT_name M0 (gi q)) (mk_keys k)) → 0 ≤ NA_key Na (gi q) ∧ gi (NA_key Na (gi q)) = k ∧ KOK M0 q (NA_key Na (gi q)) := by
    intro q k hk ⟨⟨q0, q1⟩, ⟨L, l1, l2⟩, hmk⟩
    obtain ⟨a, b⟩ := hV.2.2.1 x1 v0 v1 vs vk L l1 q l2 k hk hmk
    exact ⟨a, b, hV.2.1 q q0 q1 a⟩
  have obj : ∀ (q : Int32) (k : Nat), (k = 15 ∨ k = 16) → ((0 ≤ q ∧ q < MT_values M0) ∧ (∃ L, CL (MT_next M0) L (MT_first M0 (gi x1)) ∧ q ∈ L) ∧ MKs M0 (MT_name M0 (gi q)) (mk_keys k)) → MT_kind M0 (gi q) = 6 := by
    intro q k hk h
    obtain ⟨a, b, c⟩ := kok q k (by omega) h
    have g := gi_tnc a
    refine c.1 ?_ ?_
    · rw [Int32.le_iff_toInt_le]
      have z : (15 : Int32).toInt = 15 := rfl
      rw [z]; omega
    · rw [Int32.le_iff_toInt_le]
      have z : (17 : Int32).toInt = 17 := rfl
      rw [z]; omega
  have j45 : ∀ q : Int32, (q = -1 ∨ ((0 ≤ q ∧ q < MT_values M0) ∧ MT_kind M0 (gi q) = 6)) → o_ok (m_MM_isIn_j45 n x2 q M0 M1 Np No Nx rt) (fun r => I_NP r.2.1) := by
    intro q hq
    unfold m_MM_isIn_j45
    refine o_okI (fun _ => o_okS hP) (fun c => ?_)
    obtain ⟨⟨q0, q1⟩, qk⟩ : (0 ≤ q ∧ q < MT_values M0) ∧ MT_kind M0 (gi q) = 6 := by
      rcases hq with h | h
      · rw [h] at c; exact absurd (by decide) c
      · exact h
    obtain ⟨L, l1, l2, l3⟩ := tchainN hI hT q0 q1 qk
    refine o_okG (o_inV hI q0 q1) (o_okN (fun w ew => ?_))
    have ew : w = MT_first M0 (gi q) := ew
    refine o_okB (cl_lp (P := fun r => I_NP r.2.2.1) (V := fun z : Int32 × T4p => z.1) (fun L2 z => I_NP z.2.1 ∧ ∀ y ∈ L2, y ∈ L) ?_ ?_ L n (w, Np, No, Nx, rt) (o_len hn l2) (by rw [ew]; exact l1) ⟨hP, fun y h => h⟩) ?_
    · intro L2 z hJ hL e
      rw [e] at hL
      have hz : z.1 = -1 := hL
      unfold m_MM_isIn_b62
      exact o_okI (fun _ => o_okS ⟨Nat.succ_ne_zero 1, hJ.1⟩) (fun c => absurd (show z.1 < 0 by rw [hz]; decide) c)
    · intro y L2 z hJ ey y0' _
      obtain ⟨hz, hL2⟩ := hJ
      obtain ⟨_, u0, u1, un⟩ := l3 y (hL2 y List.mem_cons_self)
      obtain ⟨nm0, nm1, nm2, _⟩ := nameOK hT u0 u1 un
      have gy := o_inV hI u0 u1
      have ey : z.1 = y := ey
      have j102 : ∀ (Np' : SNP) (No' : SNO) (Nx' : SNX) (r' : Nat), I_NP Np' → o_ok (m_MM_isIn_j102 n x2 y M0 M1 Np' No' Nx' r') (fun q => (q.1 = 0 → (I_NP q.2.2.1 ∧ ∀ u ∈ L2, u ∈ L) ∧ q.2.1 = MT_next M0 (gi y)) ∧ (q.1 ≠ 0 → I_NP q.2.2.1)) := by
        intro Np' No' Nx' r' h
        unfold m_MM_isIn_j102
        exact o_okG gy (o_okN (fun u eu => o_okS ⟨fun _ => ⟨⟨h, fun w hw => hL2 w (List.mem_cons_of_mem _ hw)⟩, eu⟩, fun e => absurd rfl e⟩))
      unfold m_MM_isIn_b62
      rw [ey]
      refine o_okI (fun c => absurd u0 (Int32.not_le.mpr c)) (fun _ => o_okG gy ?_)
      refine o_okB (s_MM_isPattern hn hI hT nm0 nm1 nm2 hz) ?_
      intro q3 ⟨_, p2, _, p4⟩
      refine o_okI (fun _ => j102 _ _ _ _ p2) (fun ne => ?_)
      refine o_okB (s_MM_matches hn (p4 ne) p2 hI1 hT1 w0 w1 wk) ?_
      intro q4 _
      exact o_okI (fun _ => j102 _ _ _ _ p2) (fun _ => o_okS ⟨fun e => absurd e (Nat.succ_ne_zero 0), fun _ => p2⟩)
    · intro q5 ⟨_, h5⟩
      exact o_okI (fun _ => o_okS h5) (fun _ => o_okS h5)
  unfold m_MM_isIn
  refine o_okB (s_member_x hn hI hT v0 v1 vk) ?_
  intro q1 h1
  refine o_okB (s_member_x hn hI hT v0 v1 vk) ?_
  intro q2 h2
  have hj := j45 q2 (by
    rcases h2 with h | h
    · exact Or.inl h
    · exact Or.inr ⟨h.1, obj q2 16 (Or.inr rfl) h⟩)
  refine o_okI (fun _ => hj) (fun c => ?_)
  have hq : (0 ≤ q1 ∧ q1 < MT_values M0) ∧ MT_kind M0 (gi q1) = 6 := by
    rcases h1 with h | h
    · rw [h] at c; exact absurd (by decide) c
    · exact ⟨h.1, obj q1 15 (Or.inl rfl) h⟩
  refine o_okB (s_member_1x hn hI hT hI1 hT1 hq.1.1 hq.1.2 hq.2 w0 w1 wk) ?_
  intro q6 _
  exact o_okI (fun _ => hj) (fun _ => o_okS hP)
