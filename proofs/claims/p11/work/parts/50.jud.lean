/-! The reference's judge: one keyword, one schema -/
theorem s_asks203 {n : Nat} {rec : TJR} {x1 x2 x3 x4 x7 D : Int32} {M0 M1 A : SMT} {Np : SNP} {No : SNO} {Nx : SNX} {Na : SNA} {Nq : SNQ} {Nj : SNJ} {rt : Nat} (h : JC n M0 A Na) (hr : JR rec M0 A Na D) (hO : OCx M0 A Na x1 x2 x3 x4) (e7 : x7 = MT_kind A (gi x4)) (hS : JS A D M1 Np Nq Nj) : o_ok (m_MM_asks_j203 n rec x1 x2 x3 x4 x7 M0 M1 Np No Nx Na Nq Nj rt) (JP A D) := by
  have hO' := hO
  obtain ⟨⟨v0, v1⟩, hK, ⟨⟨s0, s1⟩, sk, ss⟩, w0, w1⟩ := hO'
  have one : o_ok (some ((1:Int32), M1, Np, No, Nx, Nq, Nj, rt)) (JP A D) := o_okS ⟨Or.inr rfl, hS⟩
  have zero : o_ok (some ((0:Int32), M1, Np, No, Nx, Nq, Nj, rt)) (JP A D) := o_okS ⟨Or.inl rfl, hS⟩
  have gx4 := o_inV h.hA w0 w1
  have gx2 := o_inV h.hI v0 v1
  have I1 := LF_I hS.1 h.hA
  have T1 := LF_T hS.1 h.tA
  have w1' : x4 < MT_values M1 := by rw [LF_values hS.1]; exact w1
  have io : 23 ≤ x1 → x1 ≤ 30 → o_ok (m_MM_intOf n x2 M0) (fun _ => True) := fun a b => s_MM_intOf h.hn h.hI h.hT v0 v1 (hK.2.2.2.1 a b)
  have al : ∀ w : Int32, 0 ≤ w → w < MT_values M0 → o_ok (m_MT_alike n 1003 x4 w M1 M0) (fun r => r = 0 ∨ r = 1) := by
    intro w t0 t1
    refine s_MT_alike h.hn I1 T1 h.hI h.hT w0 w1' t0 t1 ?_
    have a := Int32.le_iff_toInt_le.mp w0
    have z : (0 : Int32).toInt = 0 := rfl
    rw [z] at a
    omega
  unfold m_MM_asks_j203
  refine o_okI (fun _ => ?_) (fun _ => ?_)
  · refine o_okB (s_MM_isType h.hn h.hI h.hT I1 T1 v0 v1 w0 w1') ?_
    intro q hq
    exact o_okG (o_zbM hq) (o_okS ⟨hq, hS⟩)
  refine o_okI (fun _ => o_okG gx2 (o_okN (fun w ew => ?_))) (fun _ => ?_)
  · have ew : w = MT_first M0 (gi x2) := ew
    obtain ⟨L, l1, l2, l3⟩ := tchain h.hI h.hT v0 v1
    refine o_okB (jl (X := MT_next M0) (V := fun z : Int32 => z) (G := fun _ => True) h.hn l2 (by show CL _ _ w; rw [ew]; exact l1) trivial ?_ ?_) ?_
    · intro v hG ez
      unfold m_MM_asks_b234
      exact o_okI (fun _ => o_okS ⟨Nat.succ_ne_zero 1, trivial⟩) (fun c => absurd (neg1 ez) c)
    · intro u v hu eu _
      obtain ⟨_, u0, u1⟩ := l3 u hu
      have eu : v = u := eu
      subst eu
      unfold m_MM_asks_b234
      refine o_okI (fun c => absurd u0 (Int32.not_le.mpr c)) (fun _ => ?_)
      refine o_okB (al v u0 u1) ?_
      intro q15 _
      exact o_okI (fun _ => o_okG (o_inV h.hI u0 u1) (o_okN (fun t et => o_okS ⟨trivial, fun _ => et⟩))) (fun _ => o_okS ⟨trivial, fun e => absurd e (Nat.succ_ne_zero 0)⟩)
    · intro q _
      exact o_okI (fun _ => one) (fun _ => zero)
  refine o_okI (fun _ => ?_) (fun _ => ?_)
  · refine o_okB (al x2 v0 v1) ?_
    intro q hq
    exact o_okG (o_zbM hq) (o_okS ⟨hq, hS⟩)
  refine o_okI (fun e4 => ?_) (fun _ => ?_)
  · refine o_okI (fun e => o_okG gx4 (o_okB (io (by rw [e]; decide) (by rw [e]; decide)) (fun q _ => o_okI (fun _ => zero) (fun _ => one)))) (fun _ => ?_)
    refine o_okI (fun e => o_okG gx4 (o_okB (io (by rw [e]; decide) (by rw [e]; decide)) (fun q _ => o_okI (fun _ => zero) (fun _ => one)))) (fun _ => ?_)
    refine o_okI (fun e => ?_) (fun _ => one)
    refine o_okB (s_MM_isPattern h.hn h.hI h.hT v0 v1 (hK.2.2.2.2.1 (by rw [e]; decide) (by rw [e]; decide)) hS.2.1) ?_
    intro q ⟨_, p2, _, p4⟩
    have hj : JS A D M1 q.2.1 Nq Nj := ⟨hS.1, p2, hS.2.2⟩
    refine o_okI (fun _ => o_okS ⟨Or.inl rfl, hj⟩) (fun ne => ?_)
    refine o_okB (s_MM_matches h.hn (p4 ne) p2 I1 T1 w0 w1' (by rw [LF_kind hS.1, ← e7]; exact e4)) ?_
    intro q4 _
    exact o_okI (fun _ => o_okS ⟨Or.inl rfl, hj⟩) (fun _ => o_okS ⟨Or.inr rfl, hj⟩)
  refine o_okI (fun _ => ?_) (fun _ => ?_)
  · refine o_okB (s_MM_array h hr hO hS) ?_
    intro q hq
    exact o_okG (o_zbM hq.1) (o_okS ⟨hq.1, hq.2⟩)
  refine o_okI (fun e6 => ?_) (fun _ => one)
  refine o_okB (s_MM_object h hr hO (by rw [← e7]; exact e6) hS) ?_
  intro q hq
  exact o_okI (fun _ => o_okS ⟨Or.inl rfl, hq.2⟩) (fun _ => o_okS ⟨Or.inr rfl, hq.2⟩)
theorem s_asks139 {n : Nat} {rec : TJR} {x1 x2 x3 x4 x7 D : Int32} {M0 M1 A : SMT} {Np : SNP} {No : SNO} {Nx : SNX} {Na : SNA} {Nq : SNQ} {Nj : SNJ} {rt : Nat} (h : JC n M0 A Na) (hr : JR rec M0 A Na D) (hO : OCx M0 A Na x1 x2 x3 x4) (e7 : x7 = MT_kind A (gi x4)) (hS : JS A D M1 Np Nq Nj) : o_ok (m_MM_asks_j139 n rec x1 x2 x3 x4 x7 M0 M1 Np No Nx Na Nq Nj rt) (JP A D) := by
  have hO' := hO
  obtain ⟨⟨v0, v1⟩, hK, ⟨⟨s0, s1⟩, sk, ss⟩, w0, w1⟩ := hO'
  have one : o_ok (some ((1:Int32), M1, Np, No, Nx, Nq, Nj, rt)) (JP A D) := o_okS ⟨Or.inr rfl, hS⟩
  unfold m_MM_asks_j139
  refine o_okI (fun e => o_okI (fun e6 => ?_) (fun _ => one)) (fun _ => ?_)
  · refine o_okB (s_MM_dependent h hr v0 v1 (hK.1 (by rw [e]; decide) (by rw [e]; decide)) w0 w1 (by rw [← e7]; exact e6) hS) ?_
    intro q hq
    exact o_okI (fun _ => o_okS ⟨Or.inl rfl, hq.2⟩) (fun _ => o_okS ⟨Or.inr rfl, hq.2⟩)
  refine o_okI (fun _ => s_asks203 h hr hO e7 hS) (fun c1 => o_okI (fun _ => s_asks203 h hr hO e7 hS) (fun c2 => o_okI (fun e3 => ?_) (fun _ => one)))
  refine o_okB (s_MM_number_1 (D := D) h hS.1 v0 v1 (hK.2.1 (Int32.not_lt.mp c1) (Int32.not_lt.mp c2)) hK.2.2.1 w0 w1 (by rw [← e7]; exact e3)) ?_
  intro q hq
  exact o_okI (fun _ => o_okS ⟨Or.inl rfl, ⟨hq.2, hS.2⟩⟩) (fun _ => o_okS ⟨Or.inr rfl, ⟨hq.2, hS.2⟩⟩)
theorem s_MM_asks {n : Nat} {rec : TJR} {x1 x2 x3 x4 D : Int32} {M0 M1 A : SMT} {Np : SNP} {No : SNO} {Nx : SNX} {Na : SNA} {Nq : SNQ} {Nj : SNJ} {rt : Nat} (h : JC n M0 A Na) (hr : JR rec M0 A Na D) (hO : OCx M0 A Na x1 x2 x3 x4) (ek : NA_key Na (gi x2) = x1) (hS : JS A D M1 Np Nq Nj) : o_ok (m_MM_asks n rec x1 x2 x3 x4 M0 M1 Np No Nx Na Nq Nj rt) (JP A D) := by
  have hO' := hO
  obtain ⟨⟨v0, v1⟩, hK, ⟨⟨s0, s1⟩, sk, ss⟩, w0, w1⟩ := hO'
  have i := sc_NQ hS.2.2.1
  unfold m_MM_asks
  refine o_okN (fun x5 _ => o_okG (o_inV h.hA w0 w1) (o_okN (fun x7 e7 => ?_)))
  have e7 : x7 = MT_kind A (gi x4) := e7.trans (congrFun (LF_kind hS.1) _)
  refine o_okI (fun e => o_okG (o_inV h.hI v0 v1) ?_) (fun _ => ?_)
  · obtain ⟨t0, t1⟩ := h.hV.2.2.2 x2 v0 v1 (ek.trans e)
    refine o_okB (hr _ x4 _ _ _ _ _ _ _ t0 t1 w0 w1 hS) ?_
    intro q hq
    exact o_okI (fun _ => o_okG (o_zbM hq.1) (o_okS ⟨hq.1, hq.2⟩)) (fun _ => o_okG (o_zbM hq.1) (o_okS ⟨hq.1, hq.2⟩))
  refine o_okI (fun _ => o_okN (fun x8 e8 => ?_)) (fun _ => ?_)
  · have h8 : 0 ≤ x8 ∧ x8 ≤ 300 := by rw [e8]; exact i
    refine o_okB (hr x2 x4 _ _ _ _ _ _ _ v0 v1 w0 w1 hS) ?_
    intro q hq
    exact o_okI (fun _ => o_okS ⟨Or.inr rfl, ⟨hq.2.1, hq.2.2.1, h8, hq.2.2.2.2⟩⟩) (fun _ => o_okS ⟨Or.inl rfl, ⟨hq.2.1, hq.2.2.1, h8, hq.2.2.2.2⟩⟩)
  refine o_okI (fun _ => ?_) (fun _ => ?_)
  · refine o_okB (s_MM_ifs h hr v0 v1 s0 s1 sk w0 w1 hS) ?_
    intro q hq
    exact o_okG (o_zbM hq.1) (o_okS ⟨hq.1, hq.2⟩)
  refine o_okI (fun _ => s_asks139 h hr hO e7 hS) (fun _ => o_okI (fun _ => s_asks139 h hr hO e7 hS) (fun _ => ?_))
  refine o_okB (s_MM_several h hr v0 v1 w0 w1 hS) ?_
  intro q hq
  exact o_okG (o_zbM hq.1) (o_okS ⟨hq.1, hq.2⟩)
def GJ (A : SMT) (D : Int32) (z : Int32 × Int64 × Int32 × T7) : Prop := (z.1 = 0 ∨ z.1 = 1) ∧ JZ A D z.2.2.2
theorem s_jd161 {n : Nat} {rec : TJR} {x1 x2 x6 D : Int32} {a : Int32} {b : Int64} {M0 M1 A : SMT} {Np : SNP} {No : SNO} {Nx : SNX} {Na : SNA} {Nq : SNQ} {Nj : SNJ} {rt : Nat} (h : JC n M0 A Na) (hr : JR rec M0 A Na D) (v0 : 0 ≤ x1) (v1 : x1 < MT_values M0) (vk : MT_kind M0 (gi x1) = 6) (w0 : 0 ≤ x2) (w1 : x2 < MT_values A) (ha : a = 0 ∨ a = 1) (hS : JS A D M1 Np Nq Nj) :
    o_ok (o_lp n (m_MM_judge_b161 n rec x1 x2 x6 M0 Na) (a, b, MT_first M0 (gi x1), M1, Np, No, Nx, Nq, Nj, rt)) (fun q => q.1 ≠ 0 ∧ GJ A D q.2) := by
  obtain ⟨L, l1, l2, l3⟩ := tchain h.hI h.hT v0 v1
  have N := (h.hT x1 v0 v1).2.2.2.2.2.2.2.2.2.2 (by have h : MT_kind M0 x1.toNatClampNeg = 6 := vk; rw [h]; decide)
  have lp : ∀ y ∈ L, MT_parent M0 (gi y) = x1 := CH_par L _ _ l1 N.2.2
  have j273 : ∀ (y : Int32) (x3 : Int32) (x4 : Int64) (M1 : SMT) (Np : SNP) (No : SNO) (Nx : SNX) (Nq : SNQ) (Nj : SNJ) (rt : Nat), 0 ≤ y → y < MT_values M0 → (x3 = 0 ∨ x3 = 1) → JS A D M1 Np Nq Nj → o_ok (m_MM_judge_j273 n rec x1 x2 x3 x4 x6 y M0 M1 Np No Nx Na Nq Nj rt) (fun q => GJ A D q.2 ∧ (q.1 = 0 → q.2.2.2.1 = MT_next M0 (gi y))) := by
    intro y x3 x4 M1 Np No Nx Nq Nj rt y0 y1 h3 hJ
    unfold m_MM_judge_j273
    exact o_okG (o_inV h.hI y0 y1) (o_okN (fun u eu => o_okS ⟨⟨h3, hJ⟩, fun _ => eu⟩))
  have j217 : ∀ (y : Int32) (x3 : Int32) (x4 : Int64) (x8 p p' : Int32) (M1 : SMT) (Np : SNP) (No : SNO) (Nx : SNX) (Nq : SNQ) (Nj : SNJ) (rt : Nat), OCx M0 A Na x8 y x1 x2 → NA_key Na (gi y) = x8 → (x3 = 0 ∨ x3 = 1) → JS A D M1 Np Nq Nj → o_ok (m_MM_judge_j217 n rec x1 x2 x3 x4 x6 y x8 p p' M0 M1 Np No Nx Na Nq Nj rt) (fun q => GJ A D q.2 ∧ (q.1 = 0 → q.2.2.2.1 = MT_next M0 (gi y))) := by
    intro y x3 x4 x8 p p' M1 Np No Nx Nq Nj rt hO ek h3 hJ
    obtain ⟨y0, y1⟩ := hO.1
    unfold m_MM_judge_j217
    refine o_okI (fun _ => ?_) (fun _ => j273 _ _ _ _ _ _ _ _ _ _ y0 y1 h3 hJ)
    refine o_okB (s_MM_asks h hr hO ek hJ) ?_
    intro q hq
    refine o_okN (fun u _ => o_okI (fun _ => o_okI (fun _ => j273 _ _ _ _ _ _ _ _ _ _ y0 y1 (Or.inl rfl) hq.2) (fun _ => ?_)) (fun _ => j273 _ _ _ _ _ _ _ _ _ _ y0 y1 h3 hq.2))
    refine o_okB (s_MM_pair hq.2.2.2.1) ?_
    intro q2 h2
    exact j273 _ _ _ _ _ _ _ _ _ _ y0 y1 (Or.inl rfl) ⟨hq.2.1, hq.2.2.1, h2, hq.2.2.2.2⟩
  have j206 : ∀ (y : Int32) (x3 : Int32) (x4 : Int64) (x8 p : Int32) (M1 : SMT) (Np : SNP) (No : SNO) (Nx : SNX) (Nq : SNQ) (Nj : SNJ) (rt : Nat), OCx M0 A Na x8 y x1 x2 → NA_key Na (gi y) = x8 → (x3 = 0 ∨ x3 = 1) → JS A D M1 Np Nq Nj → o_ok (m_MM_judge_j206 n rec x1 x2 x3 x4 x6 y x8 p M0 M1 Np No Nx Na Nq Nj rt) (fun q => GJ A D q.2 ∧ (q.1 = 0 → q.2.2.2.1 = MT_next M0 (gi y))) := by
    intro y x3 x4 x8 p M1 Np No Nx Nq Nj rt hO ek h3 hJ
    unfold m_MM_judge_j206
    exact o_okI (fun _ => j217 _ _ _ _ _ _ _ _ _ _ _ _ _ hO ek h3 hJ) (fun _ => j217 _ _ _ _ _ _ _ _ _ _ _ _ _ hO ek h3 hJ)
  refine jl (X := MT_next M0) (V := fun z : Int32 × Int64 × Int32 × T7 => z.2.2.1) (G := GJ A D) h.hn l2 l1 ⟨ha, hS⟩ ?_ ?_
  · intro z hG ez
    unfold m_MM_judge_b161
    exact o_okI (fun _ => o_okS ⟨Nat.succ_ne_zero 0, hG⟩) (fun c => absurd (neg1 ez) c)
  · intro y z hy ey hG
    obtain ⟨_, y0, y1⟩ := l3 y hy
    have ey : z.2.2.1 = y := ey
    have hz : JS A D z.2.2.2.1 z.2.2.2.2.1 z.2.2.2.2.2.2.2.1 z.2.2.2.2.2.2.2.2.1 := hG.2
    unfold m_MM_judge_b161
    rw [ey]
    refine o_okI (fun c => absurd y0 (Int32.not_le.mpr c)) (fun _ => o_okI (fun _ => o_okG (o_inV h.hI y0 y1) (o_okN (fun x8 e8 => ?_))) (fun _ => o_okS ⟨⟨hG.1, hG.2⟩, fun e => absurd e (Nat.succ_ne_zero 0)⟩))
    have e8 : NA_key Na (gi y) = x8 := e8.symm
    refine o_okI (fun _ => j273 _ _ _ _ _ _ _ _ _ _ y0 y1 hG.1 hz) (fun c => ?_)
    have k0 : 0 ≤ NA_key Na (gi y) := by rw [e8]; exact Int32.not_lt.mp c
    have hO : OCx M0 A Na x8 y x1 x2 := by
      refine ⟨⟨y0, y1⟩, by rw [← e8]; exact h.hV.2.1 y y0 y1 k0, ⟨⟨v0, v1⟩, vk, ?_⟩, w0, w1⟩
      rcases h.hV.1 y y0 y1 with e | e
      · rw [e] at k0; exact absurd k0 (by decide)
      · have g := e.2.2.2.2
        rw [lp y hy] at g
        exact g
    exact o_okI (fun _ => j206 _ _ _ _ _ _ _ _ _ _ _ _ hO e8 hG.1 hz) (fun _ => o_okI (fun _ => j206 _ _ _ _ _ _ _ _ _ _ _ _ hO e8 hG.1 hz) (fun _ => j206 _ _ _ _ _ _ _ _ _ _ _ _ hO e8 hG.1 hz))
def GK (A : SMT) (D : Int32) (z : Int32 × Int64 × Int32 × T7) : Prop := GJ A D z ∧ 0 ≤ z.2.2.1
def muK (z : Int32 × Int64 × Int32 × T7) : Nat := o_mu z.2.2.1
theorem s_jd144 {n : Nat} {rec : TJR} {x1 x2 D : Int32} {b : Int64} {M0 M1 A : SMT} {Np : SNP} {No : SNO} {Nx : SNX} {Na : SNA} {Nq : SNQ} {Nj : SNJ} {rt : Nat} (h : JC n M0 A Na) (hr : JR rec M0 A Na D) (v0 : 0 ≤ x1) (v1 : x1 < MT_values M0) (vk : MT_kind M0 (gi x1) = 6) (w0 : 0 ≤ x2) (w1 : x2 < MT_values A) (hS : JS A D M1 Np Nq Nj) :
    o_ok (o_lp n (m_MM_judge_b144 n rec x1 x2 M0 Na) ((1:Int32), b, (0:Int32), M1, Np, No, Nx, Nq, Nj, rt)) (fun q => q.1 ≠ 0 ∧ GJ A D q.2) := by
  refine o_lpR (GK A D) muK h.hn o_muB ⟨⟨Or.inr rfl, hS⟩, Int32.le_refl _⟩ ?_
  intro z hz
  have hj : JS A D z.2.2.2.1 z.2.2.2.2.1 z.2.2.2.2.2.2.2.1 z.2.2.2.2.2.2.2.2.1 := hz.1.2
  have z0 : 0 ≤ z.2.2.1 := hz.2
  unfold m_MM_judge_b144
  refine o_okI (fun _ => o_okS ⟨fun e => absurd e (Nat.succ_ne_zero 0), fun _ => ⟨hz.1.1, hz.1.2⟩⟩) (fun c => o_okG (o_inV h.hI v0 v1) (o_okN (fun w ew => ?_)))
  rw [ew]
  refine o_okB (s_jd161 h hr v0 v1 vk w0 w1 hz.1.1 hj) ?_
  intro q3 ⟨_, h3⟩
  refine o_okN (fun u eu => o_okS ⟨fun _ => ⟨⟨⟨h3.1, h3.2⟩, ?_⟩, ?_⟩, fun e => absurd rfl e⟩)
  · show 0 ≤ u
    rw [eu]
    have c2 : z.2.2.1 < 2 := Int32.not_le.mp c
    clear hz hj h3 eu ew
    grind
  · show o_mu u < o_mu z.2.2.1
    rw [eu]
    have c2 : z.2.2.1 < 2 := Int32.not_le.mp c
    refine o_muL ?_
    clear hz hj h3 eu ew
    grind
theorem s_MM_judge_F {n : Nat} {rec : TJR} {x1 x2 D : Int32} {M0 M1 A : SMT} {Np : SNP} {No : SNO} {Nx : SNX} {Na : SNA} {Nq : SNQ} {Nj : SNJ} {rt : Nat} (h : JC n M0 A Na) (d0 : 0 ≤ D) (d1 : D ≤ 100) (hr : D + 1 ≤ 100 → JR rec M0 A Na (D + 1)) (v0 : 0 ≤ x1) (v1 : x1 < MT_values M0) (w0 : 0 ≤ x2) (w1 : x2 < MT_values A) (hS : JS A D M1 Np Nq Nj) : o_ok (m_MM_judge_F n rec x1 x2 M0 M1 Np No Nx Na Nq Nj rt) (JP A D) := by
  have dd : D + 1 - 1 = D := by clear hr hS; grind
  have gx := o_inV h.hI v0 v1
  have up : ∀ (a b : Int32) (c : Int32) (s : Int64), JS A (D + 1) M1 Np Nq (NJ_mk a b (NJ_depth Nj + 1) c s) := by
    intro a b c s
    refine ⟨hS.1, hS.2.1, hS.2.2.1, ?_⟩
    show NJ_depth Nj + 1 = D + 1
    rw [hS.2.2.2]
  have j45 : ∀ (Nj : SNJ), JS A (D + 1) M1 Np Nq Nj → o_ok (m_MM_judge_j45 n rec M0 M1 Np No Nx Na Nq Nj rt) (JP A D) := by
    intro Nj hJ
    unfold m_MM_judge_j45
    refine o_okS ⟨Or.inl rfl, hJ.1, hJ.2.1, hJ.2.2.1, ?_⟩
    show NJ_depth Nj - 1 = D
    rw [hJ.2.2.2]; exact dd
  have j294 : ∀ (x3 : Int32) (x4 : Int64) (M1 : SMT) (Np : SNP) (No : SNO) (Nx : SNX) (Nq : SNQ) (Nj : SNJ) (rt : Nat), JS A (D + 1) M1 Np Nq Nj → o_ok (m_MM_judge_j294 n rec x3 x4 M0 M1 Np No Nx Na Nq Nj rt) (JP A D) := by
    intro x3 x4 M1 Np No Nx Nq Nj rt hJ
    have hd : NJ_depth Nj - 1 = D := by rw [hJ.2.2.2]; exact dd
    unfold m_MM_judge_j294
    exact o_okI (fun _ => o_okS ⟨Or.inl rfl, hJ.1, hJ.2.1, hJ.2.2.1, hd⟩) (fun _ => o_okI (fun _ => o_okS ⟨Or.inr rfl, hJ.1, hJ.2.1, hJ.2.2.1, hd⟩) (fun _ => o_okS ⟨Or.inl rfl, hJ.1, hJ.2.1, hJ.2.2.1, hd⟩))
  have j99 : D + 1 ≤ 100 → ∀ (y : Int32) (Nj : SNJ), JS A (D + 1) M1 Np Nq Nj → o_ok (m_MM_judge_j99 n rec x1 x2 y M0 M1 Np No Nx Na Nq Nj rt) (JP A D) := by
    intro hd y Nj hJ
    unfold m_MM_judge_j99
    refine o_okG gx (o_okI (fun _ => ?_) (fun _ => o_okG gx (o_okI (fun ek => ?_) (fun _ => j294 _ _ _ _ _ _ _ _ _ hJ))))
    · refine o_okB (s_MM_pair hJ.2.2.1) ?_
      intro q hq
      exact j294 _ _ _ _ _ _ _ _ _ ⟨hJ.1, hJ.2.1, hq, hJ.2.2.2⟩
    · refine o_okB (s_jd144 h (hr hd) v0 v1 ek w0 w1 hJ) ?_
      intro q4 ⟨_, h4⟩
      exact j294 _ _ _ _ _ _ _ _ _ h4.2
  have j81 : D + 1 ≤ 100 → ∀ (Nj : SNJ), JS A (D + 1) M1 Np Nq Nj → o_ok (m_MM_judge_j81 n rec x1 x2 M0 M1 Np No Nx Na Nq Nj rt) (JP A D) := by
    intro hd Nj hJ
    unfold m_MM_judge_j81
    exact o_okG gx (o_okI (fun _ => j99 hd _ _ hJ) (fun _ => j99 hd _ _ hJ))
  unfold m_MM_judge_F
  refine o_okI (fun _ => ?_) (fun _ => o_okS ⟨Or.inl rfl, hS⟩)
  refine o_okI (fun _ => j45 _ (up _ _ _ _)) (fun _ => o_okI (fun c => ?_) (fun _ => j45 _ (up _ _ _ _)))
  have c : D + 1 ≤ 100 := by rw [hS.2.2.2] at c; exact c
  exact o_okI (fun _ => j81 c _ (up _ _ _ _)) (fun _ => j81 c _ (up _ _ _ _))
theorem s_MM_judge {n : Nat} {M0 A : SMT} {Na : SNA} (h : JC n M0 A Na) : ∀ (d : Nat) (D : Int32), 0 ≤ D → D ≤ 100 → 101 ≤ D.toInt + d → JR (m_MM_judge n d) M0 A Na D := by
  intro d
  induction d with
  | zero =>
    intro D d0 d1 hd
    have a := Int32.le_iff_toInt_le.mp d1
    have z : (100 : Int32).toInt = 100 := rfl
    rw [z] at a
    exfalso; omega
  | succ d ih =>
    intro D d0 d1 hd x v M1 Np No Nx Nq Nj rt v0 v1 w0 w1 hS
    show o_ok (m_MM_judge_F n (m_MM_judge n d) x v M0 M1 Np No Nx Na Nq Nj rt) (JP A D)
    refine s_MM_judge_F h d0 d1 (fun c => ?_) v0 v1 w0 w1 hS
    have a := Int32.le_iff_toInt_le.mp d1
    have z : (100 : Int32).toInt = 100 := rfl
    rw [z] at a
    obtain ⟨e1, e2, _⟩ := i32p (n := D) (by omega) d0
    refine ih (D + 1) e2 c ?_
    rw [e1]
    push_cast at hd
    omega
