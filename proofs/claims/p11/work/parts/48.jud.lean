/-! The reference's judge: what is asked of an object -/
def G2 (A : SMT) (D : Int32) (z : Int32 × Int32 × T7) : Prop := (z.1 = 0 ∨ z.1 = 1) ∧ JZ A D z.2.2
/-- what an object's rows share -/
def OCx (M0 A : SMT) (Na : SNA) (x1 x2 x3 x4 : Int32) : Prop := (0 ≤ x2 ∧ x2 < MT_values M0) ∧ KOK M0 x2 x1 ∧ ((0 ≤ x3 ∧ x3 < MT_values M0) ∧ MT_kind M0 (gi x3) = 6 ∧ NA_isSchema Na (gi x3) ≠ 0) ∧ (0 ≤ x4 ∧ x4 < MT_values A)
theorem s_obj6 {n : Nat} {rec : TJR} {x1 x2 x3 x4 D : Int32} {x5 : Int64} {M0 M1 A : SMT} {Np : SNP} {No : SNO} {Nx : SNX} {Na : SNA} {Nq : SNQ} {Nj : SNJ} {rt : Nat} (h : JC n M0 A Na) (hr : JR rec M0 A Na D) (hO : OCx M0 A Na x1 x2 x3 x4) (wk : MT_kind A (gi x4) = 6) (hS : JS A D M1 Np Nq Nj) :
    o_ok (o_lp n (m_MM_object_b555 n rec x1 x2 x3 M0 Na) (x5, (1:Int32), (0:Int32), MT_first M1 (gi x4), M1, Np, No, Nx, Nq, Nj, rt)) (fun q => q.1 ≠ 0 ∧ G4 A D q.2) := by
  obtain ⟨⟨v0, v1⟩, hK, ⟨⟨s0, s1⟩, sk, ss⟩, w0, w1⟩ := hO
  obtain ⟨L, l1, l2, l3⟩ := tchainN h.hA h.tA w0 w1 wk
  have j636 : ∀ (y : Int32) (x5 : Int64) (x7 x9 : Int32) (M1 : SMT) (Np : SNP) (No : SNO) (Nx : SNX) (Nq : SNQ) (Nj : SNJ) (rt : Nat), 0 ≤ y → y < MT_values A → (x7 = 0 ∨ x7 = 1) → JS A D M1 Np Nq Nj → o_ok (m_MM_object_j636 n rec x1 x2 x3 x5 x7 x9 y M0 M1 Np No Nx Na Nq Nj rt) (fun q => G4 A D q.2 ∧ (q.1 = 0 → q.2.2.2.2.1 = MT_next A (gi y))) := by
    intro y x5 x7 x9 M1 Np No Nx Nq Nj rt y0 y1 h7 hJ
    unfold m_MM_object_j636
    exact o_okG (o_inV h.hA y0 y1) (o_okN (fun u eu => o_okN (fun u2 _ => o_okS ⟨⟨h7, hJ⟩, fun _ => eu.trans (congrFun (LF_next hJ.1) _)⟩)))
  have j609 : ∀ (y : Int32) (x5 : Int64) (x7 x9 : Int32) (M1 : SMT) (Np : SNP) (No : SNO) (Nx : SNX) (Nq : SNQ) (Nj : SNJ) (rt : Nat), 0 ≤ y → y < MT_values A → (x7 = 0 ∨ x7 = 1) → JS A D M1 Np Nq Nj → o_ok (m_MM_object_j609 n rec x1 x2 x3 x5 x7 x9 y M0 M1 Np No Nx Na Nq Nj rt) (fun q => G4 A D q.2 ∧ (q.1 = 0 → q.2.2.2.2.1 = MT_next A (gi y))) := by
    intro y x5 x7 x9 M1 Np No Nx Nq Nj rt y0 y1 h7 hJ
    unfold m_MM_object_j609
    refine o_okB (hr x2 y _ _ _ _ _ _ _ v0 v1 y0 y1 hJ) ?_
    intro q1 h1
    refine o_okN (fun x7' e7 => ?_)
    have h7' : x7' = 0 ∨ x7' = 1 := by rw [e7]; exact and01 h7 h1.1
    exact o_okI (fun _ => o_okN (fun u _ => j636 _ _ _ _ _ _ _ _ _ _ _ y0 y1 h7' h1.2)) (fun _ => j636 _ _ _ _ _ _ _ _ _ _ _ y0 y1 h7' h1.2)
  refine jl (X := MT_next A) (V := fun z : Int64 × Int32 × Int32 × Int32 × T7 => z.2.2.2.1) (G := G4 A D) h.hn l2 (by show CL _ _ (MT_first M1 (gi x4)); rw [LF_first hS.1]; exact l1) ⟨Or.inr rfl, hS⟩ ?_ ?_
  · intro z hG ez
    unfold m_MM_object_b555
    exact o_okI (fun _ => o_okS ⟨Nat.succ_ne_zero 0, hG⟩) (fun c => absurd (neg1 ez) c)
  · intro y z hy ey hG
    obtain ⟨_, y0, y1, yn⟩ := l3 y hy
    obtain ⟨nm0, nm1, nm2, _⟩ := nameOK h.tA y0 y1 yn
    have ey : z.2.2.2.1 = y := ey
    have hz : JS A D z.2.2.2.2.1 z.2.2.2.2.2.1 z.2.2.2.2.2.2.2.2.1 z.2.2.2.2.2.2.2.2.2.1 := hG.2
    unfold m_MM_object_b555
    rw [ey]
    refine o_okI (fun c => absurd y0 (Int32.not_le.mpr c)) (fun _ => o_okI (fun _ => ?_) (fun _ => o_okS ⟨⟨hG.1, hG.2⟩, fun e => absurd e (Nat.succ_ne_zero 0)⟩))
    refine o_okI (fun _ => o_okG (o_inV h.hA y0 y1) ?_) (fun _ => o_okI (fun _ => j609 _ _ _ _ _ _ _ _ _ _ _ y0 y1 hG.1 hz) (fun _ => j636 _ _ _ _ _ _ _ _ _ _ _ y0 y1 hG.1 hz))
    have en : MT_name z.2.2.2.2.1 (gi y) = MT_name A (gi y) := congrFun (LF_name hz.1) _
    refine o_okB (s_MM_isIn h.hn h.hI h.hT (LF_I hz.1 h.hA) (LF_T hz.1 h.tA) h.hV s0 s1 sk ss (by show 0 ≤ MT_name z.2.2.2.2.1 (gi y); rw [en]; exact nm0) (by show MT_name z.2.2.2.2.1 (gi y) < _; rw [en, LF_values hz.1]; exact nm1) (by show MT_kind z.2.2.2.2.1 (gi (MT_name z.2.2.2.2.1 (gi y))) = 4; rw [en, LF_kind hz.1]; exact nm2) hz.2.1) ?_
    intro q2 h2
    have hj : JS A D z.2.2.2.2.1 q2.2.1 z.2.2.2.2.2.2.2.2.1 z.2.2.2.2.2.2.2.2.2.1 := ⟨hz.1, h2, hz.2.2⟩
    exact o_okI (fun _ => j609 _ _ _ _ _ _ _ _ _ _ _ y0 y1 hG.1 hj) (fun _ => j636 _ _ _ _ _ _ _ _ _ _ _ y0 y1 hG.1 hj)
theorem s_obj7 {n : Nat} {rec : TJR} {x1 x2 x3 x4 D : Int32} {x5 : Int64} {M0 M1 A : SMT} {Np : SNP} {No : SNO} {Nx : SNX} {Na : SNA} {Nq : SNQ} {Nj : SNJ} {rt : Nat} (h : JC n M0 A Na) (hr : JR rec M0 A Na D) (hO : OCx M0 A Na x1 x2 x3 x4) (wk : MT_kind A (gi x4) = 6) (hS : JS A D M1 Np Nq Nj) :
    o_ok (o_lp n (m_MM_object_b680 n rec x2 x5 M0 Na) ((1:Int32), MT_first M1 (gi x4), M1, Np, No, Nx, Nq, Nj, rt)) (fun q => q.1 ≠ 0 ∧ G2 A D q.2) := by
  obtain ⟨⟨v0, v1⟩, hK, ⟨⟨s0, s1⟩, sk, ss⟩, w0, w1⟩ := hO
  obtain ⟨L, l1, l2, l3⟩ := tchainN h.hA h.tA w0 w1 wk
  refine jl (X := MT_next A) (V := fun z : Int32 × Int32 × T7 => z.2.1) (G := G2 A D) h.hn l2 (by show CL _ _ (MT_first M1 (gi x4)); rw [LF_first hS.1]; exact l1) ⟨Or.inr rfl, hS⟩ ?_ ?_
  · intro z hG ez
    unfold m_MM_object_b680
    exact o_okI (fun _ => o_okS ⟨Nat.succ_ne_zero 0, hG⟩) (fun c => absurd (neg1 ez) c)
  · intro y z hy ey hG
    obtain ⟨_, y0, y1, yn⟩ := l3 y hy
    obtain ⟨nm0, nm1, nm2, _⟩ := nameOK h.tA y0 y1 yn
    have ey : z.2.1 = y := ey
    have hz : JS A D z.2.2.1 z.2.2.2.1 z.2.2.2.2.2.2.1 z.2.2.2.2.2.2.2.1 := hG.2
    unfold m_MM_object_b680
    rw [ey]
    have gy := o_inV h.hA y0 y1
    refine o_okI (fun c => absurd y0 (Int32.not_le.mpr c)) (fun _ => o_okI (fun _ => o_okG gy ?_) (fun _ => o_okS ⟨⟨hG.1, hG.2⟩, fun e => absurd e (Nat.succ_ne_zero 0)⟩))
    have en : MT_name z.2.2.1 (gi y) = MT_name A (gi y) := congrFun (LF_name hz.1) _
    refine o_okB (hr x2 (MT_name z.2.2.1 (gi y)) _ _ _ _ _ _ _ v0 v1 (by rw [en]; exact nm0) (by rw [en]; exact nm1) hz) ?_
    intro q4 h4
    refine o_okN (fun x7' e7 => o_okG gy (o_okN (fun u eu => o_okS ⟨⟨?_, h4.2⟩, fun _ => eu.trans (congrFun (LF_next h4.2.1) _)⟩)))
    show x7' = 0 ∨ x7' = 1
    rw [e7]; exact and01 hG.1 h4.1
theorem s_obj15 {n : Nat} {rec : TJR} {x1 x2 x3 x4 D : Int32} {x5 : Int64} {M0 M1 A : SMT} {Np : SNP} {No : SNO} {Nx : SNX} {Na : SNA} {Nq : SNQ} {Nj : SNJ} {rt : Nat} (h : JC n M0 A Na) (hr : JR rec M0 A Na D) (hO : OCx M0 A Na x1 x2 x3 x4) (wk : MT_kind A (gi x4) = 6) (vk : MT_kind M0 (gi x2) = 6) (hS : JS A D M1 Np Nq Nj) :
    o_ok (o_lp n (m_MM_object_b299 n rec x4 M0 Na) (x5, (1:Int32), MT_first M0 (gi x2), M1, Np, No, Nx, Nq, Nj, rt)) (fun q => q.1 ≠ 0 ∧ G3 A D q.2) := by
  obtain ⟨⟨v0, v1⟩, hK, ⟨⟨s0, s1⟩, sk, ss⟩, w0, w1⟩ := hO
  obtain ⟨L, l1, l2, l3⟩ := tchainN h.hI h.hT v0 v1 vk
  have j372 : ∀ (y : Int32) (x5 : Int64) (x7 : Int32) (M1 : SMT) (Np : SNP) (No : SNO) (Nx : SNX) (Nq : SNQ) (Nj : SNJ) (rt : Nat), 0 ≤ y → y < MT_values M0 → (x7 = 0 ∨ x7 = 1) → JS A D M1 Np Nq Nj → o_ok (m_MM_object_j372 n rec x4 x5 x7 y M0 M1 Np No Nx Na Nq Nj rt) (fun q => G3 A D q.2 ∧ (q.1 = 0 → q.2.2.2.1 = MT_next M0 (gi y))) := by
    intro y x5 x7 M1 Np No Nx Nq Nj rt y0 y1 h7 hJ
    unfold m_MM_object_j372
    exact o_okG (o_inV h.hI y0 y1) (o_okN (fun u eu => o_okS ⟨⟨h7, hJ⟩, fun _ => eu⟩))
  refine jl (X := MT_next M0) (V := fun z : Int64 × Int32 × Int32 × T7 => z.2.2.1) (G := G3 A D) h.hn l2 l1 ⟨Or.inr rfl, hS⟩ ?_ ?_
  · intro z hG ez
    unfold m_MM_object_b299
    exact o_okI (fun _ => o_okS ⟨Nat.succ_ne_zero 0, hG⟩) (fun c => absurd (neg1 ez) c)
  · intro y z hy ey hG
    obtain ⟨_, y0, y1, yn⟩ := l3 y hy
    obtain ⟨nm0, nm1, nm2, _⟩ := nameOK h.hT y0 y1 yn
    have ey : z.2.2.1 = y := ey
    have hz : JS A D z.2.2.2.1 z.2.2.2.2.1 z.2.2.2.2.2.2.2.1 z.2.2.2.2.2.2.2.2.1 := hG.2
    unfold m_MM_object_b299
    rw [ey]
    refine o_okI (fun c => absurd y0 (Int32.not_le.mpr c)) (fun _ => o_okI (fun _ => o_okG (o_inV h.hI y0 y1) ?_) (fun _ => o_okS ⟨⟨hG.1, hG.2⟩, fun e => absurd e (Nat.succ_ne_zero 0)⟩))
    refine o_okB (s_member_1x h.hn (LF_I hz.1 h.hA) (LF_T hz.1 h.tA) h.hI h.hT w0 (by rw [LF_values hz.1]; exact w1) (by rw [LF_kind hz.1]; exact wk) nm0 nm1 nm2) ?_
    intro q7 h7
    refine o_okI (fun c => ?_) (fun _ => j372 _ _ _ _ _ _ _ _ _ _ y0 y1 hG.1 hz)
    obtain ⟨⟨a0, a1⟩, La, b1, b2, b3⟩ : (0 ≤ q7 ∧ q7 < MT_values z.2.2.2.1) ∧ ∃ L, CL (MT_next z.2.2.2.1) L (MT_first z.2.2.2.1 (gi x4)) ∧ L.length ≤ 2000 ∧ q7 ∈ L := by
      rcases h7 with e | e
      · rw [e] at c; exact absurd c (by decide)
      · exact e
    rw [LF_values hz.1] at a1
    rw [LF_next hz.1, LF_first hz.1] at b1
    refine o_okB (hr y q7 _ _ _ _ _ _ _ y0 y1 a0 a1 hz) ?_
    intro q8 h8
    have g8 : JS A D q8.2.1 q8.2.2.1 q8.2.2.2.2.2.1 q8.2.2.2.2.2.2.1 := h8.2
    refine o_okN (fun x7' e7 => ?_)
    have h7' : x7' = 0 ∨ x7' = 1 := by rw [e7]; exact and01 hG.1 h8.1
    refine o_okB (s_MM_placeOf (L := La) h.hn (LF_I g8.1 h.hA) (LF_T g8.1 h.tA) w0 (by rw [LF_values g8.1]; exact w1) (by rw [LF_next g8.1, LF_first g8.1]; exact b1) b2 b3) ?_
    intro q9 _
    exact o_okN (fun u _ => j372 _ _ _ _ _ _ _ _ _ _ y0 y1 h7' g8)
theorem s_obj16i {n : Nat} {rec : TJR} {x4 y D b c : Int32} {a : Int64} {M0 M1 A : SMT} {Np : SNP} {No : SNO} {Nx : SNX} {Na : SNA} {Nq : SNQ} {Nj : SNJ} {rt : Nat} (h : JC n M0 A Na) (hr : JR rec M0 A Na D) (w0 : 0 ≤ x4) (w1 : x4 < MT_values A) (wk : MT_kind A (gi x4) = 6) (v0 : 0 ≤ y) (v1 : y < MT_values M0) (vn : MT_name M0 (gi y) ≠ -1) (hb : b = 0 ∨ b = 1) (hS : JS A D M1 Np Nq Nj) :
    o_ok (o_lp n (m_MM_object_b428 n rec x4 y M0 Na) (a, b, c, MT_first M1 (gi x4), M1, Np, No, Nx, Nq, Nj, rt)) (fun q => q.1 ≠ 0 ∧ G4 A D q.2) := by
  obtain ⟨m0, m1, m2, _⟩ := nameOK h.hT v0 v1 vn
  obtain ⟨L, l1, l2, l3⟩ := tchainN h.hA h.tA w0 w1 wk
  have j507 : ∀ (u : Int32) (x5 : Int64) (x7 x9 : Int32) (M1 : SMT) (Np : SNP) (No : SNO) (Nx : SNX) (Nq : SNQ) (Nj : SNJ) (rt : Nat), 0 ≤ u → u < MT_values A → (x7 = 0 ∨ x7 = 1) → JS A D M1 Np Nq Nj → o_ok (m_MM_object_j507 n rec x4 x5 x7 x9 y u M0 M1 Np No Nx Na Nq Nj rt) (fun q => G4 A D q.2 ∧ (q.1 = 0 → q.2.2.2.2.1 = MT_next A (gi u))) := by
    intro u x5 x7 x9 M1 Np No Nx Nq Nj rt y0 y1 h7 hJ
    unfold m_MM_object_j507
    exact o_okG (o_inV h.hA y0 y1) (o_okN (fun u eu => o_okN (fun u2 _ => o_okS ⟨⟨h7, hJ⟩, fun _ => eu.trans (congrFun (LF_next hJ.1) _)⟩)))
  refine jl (X := MT_next A) (V := fun z : Int64 × Int32 × Int32 × Int32 × T7 => z.2.2.2.1) (G := G4 A D) h.hn l2 (by show CL _ _ (MT_first M1 (gi x4)); rw [LF_first hS.1]; exact l1) ⟨hb, hS⟩ ?_ ?_
  · intro z hG ez
    unfold m_MM_object_b428
    exact o_okI (fun _ => o_okS ⟨Nat.succ_ne_zero 0, hG⟩) (fun c => absurd (neg1 ez) c)
  · intro u z hu eu hG
    obtain ⟨_, u0, u1, un⟩ := l3 u hu
    obtain ⟨nm0, nm1, nm2, _⟩ := nameOK h.tA u0 u1 un
    have eu : z.2.2.2.1 = u := eu
    have hz : JS A D z.2.2.2.2.1 z.2.2.2.2.2.1 z.2.2.2.2.2.2.2.2.1 z.2.2.2.2.2.2.2.2.2.1 := hG.2
    unfold m_MM_object_b428
    rw [eu]
    refine o_okI (fun c => absurd u0 (Int32.not_le.mpr c)) (fun _ => o_okI (fun _ => o_okG (o_inV h.hI v0 v1) ?_) (fun _ => o_okS ⟨⟨hG.1, hG.2⟩, fun e => absurd e (Nat.succ_ne_zero 0)⟩))
    refine o_okB (s_MM_isPattern h.hn h.hI h.hT m0 m1 m2 hz.2.1) ?_
    intro q ⟨_, p2, _, p4⟩
    have hj : JS A D z.2.2.2.2.1 q.2.1 z.2.2.2.2.2.2.2.2.1 z.2.2.2.2.2.2.2.2.2.1 := ⟨hz.1, p2, hz.2.2⟩
    refine o_okI (fun _ => j507 _ _ _ _ _ _ _ _ _ _ _ u0 u1 hG.1 hj) (fun ne => o_okG (o_inV h.hA u0 u1) ?_)
    have en : MT_name z.2.2.2.2.1 (gi u) = MT_name A (gi u) := congrFun (LF_name hz.1) _
    refine o_okB (s_MM_matches h.hn (p4 ne) p2 (LF_I hz.1 h.hA) (LF_T hz.1 h.tA) (by show 0 ≤ MT_name z.2.2.2.2.1 (gi u); rw [en]; exact nm0) (by show MT_name z.2.2.2.2.1 (gi u) < _; rw [en, LF_values hz.1]; exact nm1) (by show MT_kind z.2.2.2.2.1 (gi (MT_name z.2.2.2.2.1 (gi u))) = 4; rw [en, LF_kind hz.1]; exact nm2)) ?_
    intro q12 _
    refine o_okI (fun _ => j507 _ _ _ _ _ _ _ _ _ _ _ u0 u1 hG.1 hj) (fun _ => ?_)
    refine o_okB (hr y u _ _ _ _ _ _ _ v0 v1 u0 u1 hj) ?_
    intro q13 h13
    refine o_okN (fun x7' e7 => o_okN (fun _ _ => j507 _ _ _ _ _ _ _ _ _ _ _ u0 u1 ?_ h13.2))
    rw [e7]; exact and01 hG.1 h13.1
theorem s_obj16 {n : Nat} {rec : TJR} {x1 x2 x3 x4 D : Int32} {x5 : Int64} {M0 M1 A : SMT} {Np : SNP} {No : SNO} {Nx : SNX} {Na : SNA} {Nq : SNQ} {Nj : SNJ} {rt : Nat} (h : JC n M0 A Na) (hr : JR rec M0 A Na D) (hO : OCx M0 A Na x1 x2 x3 x4) (wk : MT_kind A (gi x4) = 6) (vk : MT_kind M0 (gi x2) = 6) (hS : JS A D M1 Np Nq Nj) :
    o_ok (o_lp n (m_MM_object_b401 n rec x4 M0 Na) (x5, (1:Int32), MT_first M0 (gi x2), M1, Np, No, Nx, Nq, Nj, rt)) (fun q => q.1 ≠ 0 ∧ G3 A D q.2) := by
  obtain ⟨⟨v0, v1⟩, hK, ⟨⟨s0, s1⟩, sk, ss⟩, w0, w1⟩ := hO
  obtain ⟨L, l1, l2, l3⟩ := tchainN h.hI h.hT v0 v1 vk
  refine jl (X := MT_next M0) (V := fun z : Int64 × Int32 × Int32 × T7 => z.2.2.1) (G := G3 A D) h.hn l2 l1 ⟨Or.inr rfl, hS⟩ ?_ ?_
  · intro z hG ez
    unfold m_MM_object_b401
    exact o_okI (fun _ => o_okS ⟨Nat.succ_ne_zero 0, hG⟩) (fun c => absurd (neg1 ez) c)
  · intro y z hy ey hG
    obtain ⟨_, y0, y1, yn⟩ := l3 y hy
    have ey : z.2.2.1 = y := ey
    have hz : JS A D z.2.2.2.1 z.2.2.2.2.1 z.2.2.2.2.2.2.2.1 z.2.2.2.2.2.2.2.2.1 := hG.2
    unfold m_MM_object_b401
    rw [ey]
    refine o_okI (fun c => absurd y0 (Int32.not_le.mpr c)) (fun _ => o_okI (fun _ => o_okG (o_inV h.hA w0 w1) (o_okN (fun w ew => ?_))) (fun _ => o_okS ⟨⟨hG.1, hG.2⟩, fun e => absurd e (Nat.succ_ne_zero 0)⟩))
    have ew : w = MT_first z.2.2.2.1 (gi x4) := ew
    rw [ew]
    refine o_okB (s_obj16i h hr w0 w1 wk y0 y1 yn hG.1 hz) ?_
    intro q14 ⟨_, h14⟩
    unfold m_MM_object_j525
    exact o_okG (o_inV h.hI y0 y1) (o_okN (fun u eu => o_okS ⟨⟨h14.1, h14.2⟩, fun _ => eu⟩))
theorem s_obj39 {n : Nat} {rec : TJR} {x1 x2 x3 x4 D : Int32} {M0 M1 A : SMT} {Np : SNP} {No : SNO} {Nx : SNX} {Na : SNA} {Nq : SNQ} {Nj : SNJ} {rt : Nat} (h : JC n M0 A Na) (hO : OCx M0 A Na x1 x2 x3 x4) (wk : MT_kind A (gi x4) = 6) (vk : MT_kind M0 (gi x2) = 6) (hc : ∃ L, CL (MT_next M0) L (MT_first M0 (gi x2)) ∧ ∀ c ∈ L, ASTR M0 c) (hS : JS A D M1 Np Nq Nj) :
    o_ok (o_lp n (m_MM_object_b227 n rec x4 M0 M1 Np No Nx Na Nq Nj rt) (MT_first M0 (gi x2))) (fun q => q.1 ≠ 0 ∧ True) := by
  obtain ⟨⟨v0, v1⟩, hK, ⟨⟨s0, s1⟩, sk, ss⟩, w0, w1⟩ := hO
  obtain ⟨L, l1, l2, l3⟩ := tchainN h.hI h.hT v0 v1 vk
  obtain ⟨L', c1, c2⟩ := hc
  have eL := CL_det L' L _ c1 l1
  rw [eL] at c2
  have w1' : x4 < MT_values M1 := by rw [LF_values hS.1]; exact w1
  have wk' : MT_kind M1 (gi x4) = 6 := by rw [LF_kind hS.1]; exact wk
  refine jl (X := MT_next M0) (V := fun z : Int32 => z) (G := fun _ => True) h.hn l2 l1 trivial ?_ ?_
  · intro z hG ez
    unfold m_MM_object_b227
    exact o_okI (fun _ => o_okS ⟨Nat.succ_ne_zero 1, trivial⟩) (fun c => absurd (neg1 ez) c)
  · intro y z hy ey hG
    obtain ⟨_, y0, y1, yn⟩ := l3 y hy
    obtain ⟨nm0, nm1, nm2, _⟩ := nameOK h.hT y0 y1 yn
    have ey : z = y := ey
    subst ey
    have j271 : o_ok (m_MM_object_j271 n rec x4 z M0 M1 Np No Nx Na Nq Nj rt) (fun q => True ∧ (q.1 = 0 → q.2 = MT_next M0 (gi z))) := by
      unfold m_MM_object_j271
      exact o_okG (o_inV h.hI y0 y1) (o_okN (fun u eu => o_okS ⟨trivial, fun _ => eu⟩))
    unfold m_MM_object_b227
    refine o_okI (fun c => absurd y0 (Int32.not_le.mpr c)) (fun _ => o_okG (o_inV h.hI y0 y1) ?_)
    refine o_okB (s_member_1x h.hn (LF_I hS.1 h.hA) (LF_T hS.1 h.tA) h.hI h.hT w0 w1' wk' nm0 nm1 nm2) ?_
    intro q19 _
    refine o_okI (fun _ => j271) (fun _ => ?_)
    refine o_okB (s_MM_requires h.hn h.hI h.hT (LF_I hS.1 h.hA) (LF_T hS.1 h.tA) y0 y1 (c2 z hy) w0 w1' wk') ?_
    intro q20 _
    exact o_okI (fun _ => o_okS ⟨trivial, fun e => absurd e (Nat.succ_ne_zero 0)⟩) (fun _ => j271)
theorem s_MM_object {n : Nat} {rec : TJR} {x1 x2 x3 x4 D : Int32} {M0 M1 A : SMT} {Np : SNP} {No : SNO} {Nx : SNX} {Na : SNA} {Nq : SNQ} {Nj : SNJ} {rt : Nat} (h : JC n M0 A Na) (hr : JR rec M0 A Na D) (hO : OCx M0 A Na x1 x2 x3 x4) (wk : MT_kind A (gi x4) = 6) (hS : JS A D M1 Np Nq Nj) : o_ok (m_MM_object n rec x1 x2 x3 x4 M0 M1 Np No Nx Na Nq Nj rt) (JP A D) := by
  have hO' := hO
  obtain ⟨⟨v0, v1⟩, hK, ⟨⟨s0, s1⟩, sk, ss⟩, w0, w1⟩ := hO'
  have one : o_ok (some ((1:Int32), M1, Np, No, Nx, Nq, Nj, rt)) (JP A D) := o_okS ⟨Or.inr rfl, hS⟩
  have zero : o_ok (some ((0:Int32), M1, Np, No, Nx, Nq, Nj, rt)) (JP A D) := o_okS ⟨Or.inl rfl, hS⟩
  have gx4 := o_inV h.hA w0 w1
  have gx2 := o_inV h.hI v0 v1
  have w1' : x4 < MT_values M1 := by rw [LF_values hS.1]; exact w1
  have wk' : MT_kind M1 (gi x4) = 6 := by rw [LF_kind hS.1]; exact wk
  have j654 : ∀ (x5 : Int64) (x7 : Int32) (M1 : SMT) (Np : SNP) (No : SNO) (Nx : SNX) (Nq : SNQ) (Nj : SNJ) (rt : Nat), (x7 = 0 ∨ x7 = 1) → JS A D M1 Np Nq Nj → o_ok (m_MM_object_j654 n rec x1 x5 x7 M0 M1 Np No Nx Na Nq Nj rt) (JP A D) := by
    intro x5 x7 M1 Np No Nx Nq Nj rt h7 hJ
    unfold m_MM_object_j654
    have g := o_zbM h7
    exact o_okI (fun _ => o_okG g (o_okS ⟨h7, hJ⟩)) (fun _ => o_okG g (o_okS ⟨h7, hJ⟩))
  have io : 23 ≤ x1 → x1 ≤ 30 → o_ok (m_MM_intOf n x2 M0) (fun _ => True) := fun a b => s_MM_intOf h.hn h.hI h.hT v0 v1 (hK.2.2.2.1 a b)
  unfold m_MM_object
  refine o_okN (fun x5 _ => o_okG gx4 (o_okN (fun x8 _ => ?_)))
  refine o_okI (fun _ => o_okG gx4 (o_okN (fun w ew => ?_))) (fun _ => ?_)
  · rw [ew]
    refine o_okB (s_obj6 h hr hO wk hS) ?_
    intro q ⟨_, hq⟩
    exact j654 _ _ _ _ _ _ _ _ _ hq.1 hq.2
  refine o_okI (fun _ => o_okG gx4 (o_okN (fun w ew => ?_))) (fun _ => ?_)
  · rw [ew]
    refine o_okB (s_obj7 h hr hO wk hS) ?_
    intro q ⟨_, hq⟩
    exact o_okG (o_zbM hq.1) (o_okS ⟨hq.1, hq.2⟩)
  refine o_okI (fun _ => one) (fun _ => ?_)
  refine o_okI (fun _ => o_okG gx4 (o_okN (fun w ew => ?_))) (fun _ => ?_)
  · rw [ew]
    refine o_okB (s_obj6 h hr hO wk hS) ?_
    intro q ⟨_, hq⟩
    exact j654 _ _ _ _ _ _ _ _ _ hq.1 hq.2
  iterate 5 refine o_okI (fun _ => one) (fun _ => ?_)
  refine o_okI (fun e => o_okG gx2 (o_okN (fun w ew => ?_))) (fun _ => ?_)
  · rw [ew]
    refine o_okB (s_obj15 h hr hO wk (hK.1 (by rw [e]; decide) (by rw [e]; decide)) hS) ?_
    intro q ⟨_, hq⟩
    exact o_okG (o_zbM hq.1) (o_okS ⟨hq.1, hq.2⟩)
  refine o_okI (fun e => o_okG gx2 (o_okN (fun w ew => ?_))) (fun _ => ?_)
  · rw [ew]
    refine o_okB (s_obj16 h hr hO wk (hK.1 (by rw [e]; decide) (by rw [e]; decide)) hS) ?_
    intro q ⟨_, hq⟩
    exact o_okG (o_zbM hq.1) (o_okS ⟨hq.1, hq.2⟩)
  iterate 12 refine o_okI (fun _ => one) (fun _ => ?_)
  refine o_okI (fun e => o_okB (io (by rw [e]; decide) (by rw [e]; decide)) (fun q _ => o_okI (fun _ => zero) (fun _ => one))) (fun _ => ?_)
  refine o_okI (fun e => o_okB (io (by rw [e]; decide) (by rw [e]; decide)) (fun q _ => o_okI (fun _ => zero) (fun _ => one))) (fun _ => ?_)
  iterate 7 refine o_okI (fun _ => one) (fun _ => ?_)
  refine o_okI (fun e => ?_) (fun _ => ?_)
  · refine o_okB (s_MM_requires h.hn h.hI h.hT (LF_I hS.1 h.hA) (LF_T hS.1 h.tA) v0 v1 (hK.2.2.2.2.2.1 e) w0 w1' wk') ?_
    intro q hq
    exact o_okG (o_zbM hq) (o_okS ⟨hq, hS⟩)
  refine o_okI (fun e => o_okG gx2 (o_okN (fun w ew => ?_))) (fun _ => one)
  rw [ew]
  obtain ⟨k1, k2⟩ := hK.2.2.2.2.2.2 e
  refine o_okB (s_obj39 h hO wk k1 k2 hS) ?_
  intro q _
  exact o_okI (fun _ => zero) (fun _ => one)
