/-! The reference's judge: the state that it carries -/
abbrev T7 : Type := SMT × SNP × SNO × SNX × SNQ × SNJ × Nat
abbrev TJR : Type := Int32 → Int32 → SMT → SMT → SNP → SNO → SNX → SNA → SNQ → SNJ → Nat → Option (Int32 × T7)
def JS (A : SMT) (D : Int32) (M1 : SMT) (Np : SNP) (Nq : SNQ) (Nj : SNJ) : Prop := LF A M1 ∧ I_NP Np ∧ I_NQ Nq ∧ NJ_depth Nj = D
def JZ (A : SMT) (D : Int32) (t : T7) : Prop := JS A D t.1 t.2.1 t.2.2.2.2.1 t.2.2.2.2.2.1
def JP (A : SMT) (D : Int32) (r : Int32 × T7) : Prop := (r.1 = 0 ∨ r.1 = 1) ∧ JZ A D r.2
def JR (rec : TJR) (M0 A : SMT) (Na : SNA) (D : Int32) : Prop := ∀ (x v : Int32) (M1 : SMT) (Np : SNP) (No : SNO) (Nx : SNX) (Nq : SNQ) (Nj : SNJ) (rt : Nat), 0 ≤ x → x < MT_values M0 → 0 ≤ v → v < MT_values A → JS A D M1 Np Nq Nj → o_ok (rec x v M0 M1 Np No Nx Na Nq Nj rt) (JP A D)
def IMx (n : Nat) (M0 A : SMT) : Prop := ∀ (x y : Int32) (M1 : SMT), LF A M1 → 0 ≤ x → x < MT_values A → MT_kind A (gi x) = 3 → 0 ≤ y → y < MT_values M0 → MT_kind M0 (gi y) = 3 → MT_many M0 (gi y) ≠ 0 → o_ok (m_MT_isMultiple n x y M1 M0) (fun r => (r.1 = 0 ∨ r.1 = 1) ∧ LF A r.2)
def JC (n : Nat) (M0 A : SMT) (Na : SNA) : Prop := o_big ≤ n ∧ I_MT M0 ∧ T_MT M0 ∧ I_MT A ∧ T_MT A ∧ KVx M0 Na ∧ IMx n M0 A
theorem JC.hn {n : Nat} {M0 A : SMT} {Na : SNA} (h : JC n M0 A Na) : o_big ≤ n := h.1
theorem JC.hI {n : Nat} {M0 A : SMT} {Na : SNA} (h : JC n M0 A Na) : I_MT M0 := h.2.1
theorem JC.hT {n : Nat} {M0 A : SMT} {Na : SNA} (h : JC n M0 A Na) : T_MT M0 := h.2.2.1
theorem JC.hA {n : Nat} {M0 A : SMT} {Na : SNA} (h : JC n M0 A Na) : I_MT A := h.2.2.2.1
theorem JC.tA {n : Nat} {M0 A : SMT} {Na : SNA} (h : JC n M0 A Na) : T_MT A := h.2.2.2.2.1
theorem JC.hV {n : Nat} {M0 A : SMT} {Na : SNA} (h : JC n M0 A Na) : KVx M0 Na := h.2.2.2.2.2.1
theorem JC.hM {n : Nat} {M0 A : SMT} {Na : SNA} (h : JC n M0 A Na) : IMx n M0 A := h.2.2.2.2.2.2
theorem and01 {a b : Int32} (h : a = 0 ∨ a = 1) (g : b = 0 ∨ b = 1) : a &&& b = 0 ∨ a &&& b = 1 := by
  rcases h with rfl | rfl <;> rcases g with rfl | rfl <;> decide
theorem LF_vv {a b : SMT} (h : LF a b) : MT_values a = MT_values b := (LF_values h).symm
theorem jl {σ : Type} {X : Nat → Int32} {f : σ → Option (Nat × σ)} {V : σ → Int32} {G : σ → Prop} {L0 : List Int32} {n : Nat} {z : σ} (hn : o_big ≤ n) (hl : L0.length ≤ 2000) (hc : CL X L0 (V z)) (hG : G z)
    (hstop : ∀ z, G z → V z = -1 → o_ok (f z) (fun q => q.1 ≠ 0 ∧ G q.2))
    (hgo : ∀ y z, y ∈ L0 → V z = y → G z → o_ok (f z) (fun q => G q.2 ∧ (q.1 = 0 → V q.2 = X (gi y)))) : o_ok (o_lp n f z) (fun q => q.1 ≠ 0 ∧ G q.2) := by
  refine cl_lp (P := fun q => G q.2) (V := V) (fun L2 z => G z ∧ ∀ y ∈ L2, y ∈ L0) ?_ ?_ L0 n z (o_len hn hl) hc ⟨hG, fun y h => h⟩
  · intro L2 z hJ hL e
    rw [e] at hL
    exact hstop z hJ.1 hL
  · intro y L2 z hJ ey _ _
    exact o_okW (hgo y z (hJ.2 y List.mem_cons_self) ey hJ.1) (fun q hq => ⟨fun e => ⟨⟨hq.1, fun w hw => hJ.2 w (List.mem_cons_of_mem _ hw)⟩, hq.2 e⟩, fun _ => hq.1⟩)
theorem m1neg : (-1:Int32) < 0 := by decide
theorem neg1 {a : Int32} (h : a = -1) : a < 0 := by rw [h]; decide
theorem s_MM_pair {x1 x2 : Int32} {Nq : SNQ} (h : I_NQ Nq) : o_ok (m_MM_pair x1 x2 Nq) (fun r => I_NQ r) := by
  have i := sc_NQ h
  unfold m_MM_pair
  refine o_okI (fun _ => o_okS h) (fun c => ?_)
  have c1 : NQ_pairs Nq < 300 := by clear h; grind
  have g := o_inM (m := 300) (n := 300) rfl i.1 c1
  refine o_okG g (o_okG g (o_okS ?_))
  show 0 ≤ NQ_pairs Nq + 1 ∧ NQ_pairs Nq + 1 ≤ 300
  clear h
  constructor <;> grind
theorem s_MM_number_1 {n : Nat} {x1 x2 x3 D : Int32} {M0 M1 A : SMT} {Na : SNA} (h : JC n M0 A Na) (hL : LF A M1) (v0 : 0 ≤ x2) (v1 : x2 < MT_values M0) (vk : MT_kind M0 (gi x2) = 3) (v2 : x1 = 22 → MT_many M0 (gi x2) ≠ 0) (w0 : 0 ≤ x3) (w1 : x3 < MT_values A) (wk : MT_kind A (gi x3) = 3) : o_ok (m_MM_number_1 n x1 x2 x3 M0 M1) (fun r => (r.1 = 0 ∨ r.1 = 1) ∧ LF A r.2) := by
  have y1 : o_ok (some ((1:Int32), M1)) (fun r => (r.1 = 0 ∨ r.1 = 1) ∧ LF A r.2) := o_okS ⟨Or.inr rfl, hL⟩
  have y0 : o_ok (some ((0:Int32), M1)) (fun r => (r.1 = 0 ∨ r.1 = 1) ∧ LF A r.2) := o_okS ⟨Or.inl rfl, hL⟩
  unfold m_MM_number_1
  refine o_okI (fun e => ?_) (fun _ => ?_)
  · refine o_okB (h.hM x3 x2 M1 hL w0 w1 wk v0 v1 vk (v2 e)) ?_
    intro q ⟨q1, q2⟩
    exact o_okG (o_zbM q1) (o_okS ⟨q1, q2⟩)
  · refine o_okB (s_MT_compare h.hn (LF_I hL h.hA) (LF_T hL h.tA) h.hI h.hT w0 (by rw [LF_values hL]; exact w1) (by rw [LF_kind hL]; exact wk) v0 v1 vk) ?_
    intro q1 _
    exact o_okI (fun _ => o_okI (fun _ => y0) (fun _ => y1)) (fun _ => o_okI (fun _ => o_okI (fun _ => y0) (fun _ => y1)) (fun _ => o_okI (fun _ => o_okI (fun _ => y0) (fun _ => y1)) (fun _ => o_okI (fun _ => y0) (fun _ => y1))))
/-- a loop's state with a flag in front -/
def G3 (A : SMT) (D : Int32) (z : Int64 × Int32 × Int32 × T7) : Prop := (z.2.1 = 0 ∨ z.2.1 = 1) ∧ JZ A D z.2.2.2
def G4 (A : SMT) (D : Int32) (z : Int64 × Int32 × Int32 × Int32 × T7) : Prop := (z.2.1 = 0 ∨ z.2.1 = 1) ∧ JZ A D z.2.2.2.2
theorem s_MM_dependent {n : Nat} {rec : TJR} {x1 x2 D : Int32} {M0 M1 A : SMT} {Np : SNP} {No : SNO} {Nx : SNX} {Na : SNA} {Nq : SNQ} {Nj : SNJ} {rt : Nat} (h : JC n M0 A Na) (hr : JR rec M0 A Na D) (v0 : 0 ≤ x1) (v1 : x1 < MT_values M0) (vk : MT_kind M0 (gi x1) = 6) (w0 : 0 ≤ x2) (w1 : x2 < MT_values A) (wk : MT_kind A (gi x2) = 6) (hS : JS A D M1 Np Nq Nj) : o_ok (m_MM_dependent n rec x1 x2 M0 M1 Np No Nx Na Nq Nj rt) (JP A D) := by
  obtain ⟨L, l1, l2, l3⟩ := tchainN h.hI h.hT v0 v1 vk
  have j82 : ∀ (y : Int32) (x3 : Int64) (x5 : Int32) (M1 : SMT) (Np : SNP) (No : SNO) (Nx : SNX) (Nq : SNQ) (Nj : SNJ) (rt : Nat), 0 ≤ y → y < MT_values M0 → (x5 = 0 ∨ x5 = 1) → JS A D M1 Np Nq Nj → o_ok (m_MM_dependent_j82 n rec x2 x3 x5 y M0 M1 Np No Nx Na Nq Nj rt) (fun q => G3 A D q.2 ∧ (q.1 = 0 → q.2.2.2.1 = MT_next M0 (gi y))) := by
    intro y x3 x5 M1 Np No Nx Nq Nj rt y0 y1 h5 hJ
    unfold m_MM_dependent_j82
    exact o_okG (o_inV h.hI y0 y1) (o_okN (fun u eu => o_okS ⟨⟨h5, hJ⟩, fun _ => eu⟩))
  unfold m_MM_dependent
  refine o_okN (fun x3 _ => o_okG (o_inV h.hI v0 v1) (o_okN (fun w ew => ?_)))
  have ew : w = MT_first M0 (gi x1) := ew
  refine o_okB (jl (X := MT_next M0) (V := fun z : Int64 × Int32 × Int32 × T7 => z.2.2.1) (G := G3 A D) h.hn l2 (by rw [ew]; exact l1) ⟨Or.inr rfl, hS⟩ ?_ ?_) ?_
  · intro z hG ez
    unfold m_MM_dependent_b19
    exact o_okI (fun _ => o_okS ⟨Nat.succ_ne_zero 0, hG⟩) (fun c => absurd (neg1 ez) c)
  · intro y z hy ey hG
    obtain ⟨_, y0, y1, yn⟩ := l3 y hy
    obtain ⟨nm0, nm1, nm2, _⟩ := nameOK h.hT y0 y1 yn
    have ey : z.2.2.1 = y := ey
    have hz : JS A D z.2.2.2.1 z.2.2.2.2.1 z.2.2.2.2.2.2.2.1 z.2.2.2.2.2.2.2.2.1 := hG.2
    unfold m_MM_dependent_b19
    rw [ey]
    refine o_okI (fun c => absurd y0 (Int32.not_le.mpr c)) (fun _ => o_okI (fun _ => o_okG (o_inV h.hI y0 y1) ?_) (fun _ => o_okS ⟨⟨hG.1, hG.2⟩, fun e => absurd e (Nat.succ_ne_zero 0)⟩))
    refine o_okB (s_member_1x h.hn (LF_I hz.1 h.hA) (LF_T hz.1 h.tA) h.hI h.hT w0 (by rw [LF_values hz.1]; exact w1) (by rw [LF_kind hz.1]; exact wk) nm0 nm1 nm2) ?_
    intro q1 _
    refine o_okI (fun _ => ?_) (fun _ => j82 _ _ _ _ _ _ _ _ _ _ y0 y1 hG.1 hz)
    refine o_okB (hr y x2 _ _ _ _ _ _ _ y0 y1 w0 w1 hz) ?_
    intro q2 h2
    exact o_okI (fun _ => j82 _ _ _ _ _ _ _ _ _ _ y0 y1 (Or.inl rfl) h2.2) (fun _ => o_okN (fun u _ => j82 _ _ _ _ _ _ _ _ _ _ y0 y1 hG.1 h2.2))
  · intro q3 ⟨_, h3⟩
    exact o_okG (o_zbM h3.1) (o_okS ⟨h3.1, h3.2⟩)
def G4j (A : SMT) (D : Int32) (z : Int64 × Int32 × Int32 × Int32 × T7) : Prop := JZ A D z.2.2.2.2
theorem s_MM_several {n : Nat} {rec : TJR} {x1 x2 x3 D : Int32} {M0 M1 A : SMT} {Np : SNP} {No : SNO} {Nx : SNX} {Na : SNA} {Nq : SNQ} {Nj : SNJ} {rt : Nat} (h : JC n M0 A Na) (hr : JR rec M0 A Na D) (v0 : 0 ≤ x2) (v1 : x2 < MT_values M0) (w0 : 0 ≤ x3) (w1 : x3 < MT_values A) (hS : JS A D M1 Np Nq Nj) : o_ok (m_MM_several n rec x1 x2 x3 M0 M1 Np No Nx Na Nq Nj rt) (JP A D) := by
  obtain ⟨L, l1, l2, l3⟩ := tchain h.hI h.hT v0 v1
  have j69 : ∀ (y : Int32) (x4 : Int64) (x6 x7 x8 : Int32) (M1 : SMT) (Np : SNP) (No : SNO) (Nx : SNX) (Nq : SNQ) (Nj : SNJ) (rt : Nat), 0 ≤ y → y < MT_values M0 → JS A D M1 Np Nq Nj → o_ok (m_MM_several_j69 n rec x1 x3 x4 x6 x7 x8 y M0 M1 Np No Nx Na Nq Nj rt) (fun q => G4j A D q.2 ∧ (q.1 = 0 → q.2.2.2.2.1 = MT_next M0 (gi y))) := by
    intro y x4 x6 x7 x8 M1 Np No Nx Nq Nj rt y0 y1 hJ
    unfold m_MM_several_j69
    exact o_okG (o_inV h.hI y0 y1) (o_okN (fun u eu => o_okS ⟨hJ, fun _ => eu⟩))
  have j141 : ∀ (x6 b : Int32) (M1 : SMT) (Np : SNP) (No : SNO) (Nx : SNX) (Nq : SNQ) (Nj : SNJ) (rt : Nat), (0 ≤ x6 ∧ x6 ≤ 300) → (b = 0 ∨ b = 1) → JS A D M1 Np Nq Nj → o_ok (m_MM_several_j141 n rec x1 x6 b M0 M1 Np No Nx Na Nq Nj rt) (JP A D) := by
    intro x6 b M1 Np No Nx Nq Nj rt h6 hb hJ
    unfold m_MM_several_j141
    have g := o_zbM hb
    exact o_okI (fun _ => o_okG g (o_okS ⟨hb, hJ⟩)) (fun _ => o_okI (fun _ => o_okG g (o_okS ⟨hb, hJ⟩)) (fun _ => o_okG g (o_okS ⟨hb, ⟨hJ.1, hJ.2.1, h6, hJ.2.2.2⟩⟩)))
  have i := sc_NQ hS.2.2.1
  unfold m_MM_several
  refine o_okN (fun x4 _ => o_okN (fun x6 e6 => o_okG (o_inV h.hI v0 v1) (o_okN (fun w ew => ?_))))
  have ew : w = MT_first M0 (gi x2) := ew
  refine o_okB (jl (X := MT_next M0) (V := fun z : Int64 × Int32 × Int32 × Int32 × T7 => z.2.2.2.1) (G := G4j A D) h.hn l2 (by rw [ew]; exact l1) hS ?_ ?_) ?_
  · intro z hG ez
    unfold m_MM_several_b29
    exact o_okI (fun _ => o_okS ⟨Nat.succ_ne_zero 0, hG⟩) (fun c => absurd (neg1 ez) c)
  · intro y z hy ey hG
    obtain ⟨_, y0, y1⟩ := l3 y hy
    have ey : z.2.2.2.1 = y := ey
    have hz : JS A D z.2.2.2.2.1 z.2.2.2.2.2.1 z.2.2.2.2.2.2.2.2.1 z.2.2.2.2.2.2.2.2.2.1 := hG
    unfold m_MM_several_b29
    rw [ey]
    refine o_okI (fun c => absurd y0 (Int32.not_le.mpr c)) (fun _ => o_okI (fun _ => o_okN (fun x8 _ => ?_)) (fun _ => o_okS ⟨hG, fun e => absurd e (Nat.succ_ne_zero 0)⟩))
    refine o_okB (hr y x3 _ _ _ _ _ _ _ y0 y1 w0 w1 hz) ?_
    intro q1 h1
    exact o_okI (fun _ => j69 _ _ _ _ _ _ _ _ _ _ _ _ y0 y1 h1.2) (fun _ => o_okN (fun u _ => o_okN (fun u2 _ => j69 _ _ _ _ _ _ _ _ _ _ _ _ y0 y1 h1.2)))
  · intro q2 ⟨_, h2⟩
    have h6 : 0 ≤ x6 ∧ x6 ≤ 300 := by rw [e6]; exact i
    have t1 := fun M1 Np No Nx Nq Nj rt => j141 x6 1 M1 Np No Nx Nq Nj rt h6 (Or.inr rfl)
    have t0 := fun M1 Np No Nx Nq Nj rt => j141 x6 0 M1 Np No Nx Nq Nj rt h6 (Or.inl rfl)
    unfold m_MM_several_j84
    exact o_okI (fun _ => o_okI (fun _ => t1 _ _ _ _ _ _ _ h2) (fun _ => t0 _ _ _ _ _ _ _ h2)) (fun _ => o_okI (fun _ => o_okI (fun _ => t0 _ _ _ _ _ _ _ h2) (fun _ => t1 _ _ _ _ _ _ _ h2)) (fun _ => o_okI (fun _ => t1 _ _ _ _ _ _ _ h2) (fun _ => t0 _ _ _ _ _ _ _ h2)))
theorem s_MM_ifs {n : Nat} {rec : TJR} {x1 x2 x3 D : Int32} {M0 M1 A : SMT} {Np : SNP} {No : SNO} {Nx : SNX} {Na : SNA} {Nq : SNQ} {Nj : SNJ} {rt : Nat} (h : JC n M0 A Na) (hr : JR rec M0 A Na D) (u0 : 0 ≤ x1) (u1 : x1 < MT_values M0) (v0 : 0 ≤ x2) (v1 : x2 < MT_values M0) (vk : MT_kind M0 (gi x2) = 6) (w0 : 0 ≤ x3) (w1 : x3 < MT_values A) (hS : JS A D M1 Np Nq Nj) : o_ok (m_MM_ifs n rec x1 x2 x3 M0 M1 Np No Nx Na Nq Nj rt) (JP A D) := by
  have j57 : ∀ (k : Nat) (x4 : Int64) (M1 : SMT) (Np : SNP) (No : SNO) (Nx : SNX) (Nq : SNQ) (Nj : SNJ) (rt : Nat), JS A D M1 Np Nq Nj → o_ok (m_MM_ifs_j57 n rec x3 x4 x2 k M0 M1 Np No Nx Na Nq Nj rt) (JP A D) := by
    intro k x4 M1 Np No Nx Nq Nj rt hJ
    unfold m_MM_ifs_j57
    refine o_okB (s_member_x h.hn h.hI h.hT v0 v1 vk) ?_
    intro q2 h2
    refine o_okI (fun _ => o_okS ⟨Or.inr rfl, hJ⟩) (fun c => o_okI (fun _ => ?_) (fun _ => o_okS ⟨Or.inr rfl, hJ⟩))
    obtain ⟨q0, q1⟩ : 0 ≤ q2 ∧ q2 < MT_values M0 := by
      rcases h2 with e | e
      · rw [e] at c; exact absurd m1neg c
      · exact e.1
    refine o_okB (hr q2 x3 _ _ _ _ _ _ _ q0 q1 w0 w1 hJ) ?_
    intro q3 h3
    have g := o_zbM h3.1
    refine o_okI (fun _ => ?_) (fun _ => o_okN (fun u _ => o_okG g (o_okS ⟨h3.1, h3.2⟩)))
    refine o_okB (s_MM_pair h3.2.2.2.1) ?_
    intro q4 h4
    exact o_okG g (o_okS ⟨h3.1, ⟨h3.2.1, h3.2.2.1, h4, h3.2.2.2.2⟩⟩)
  have j40 : ∀ (x7 : Int32) (x4 : Int64) (M1 : SMT) (Np : SNP) (No : SNO) (Nx : SNX) (Nq : SNQ) (Nj : SNJ) (rt : Nat), JS A D M1 Np Nq Nj → o_ok (m_MM_ifs_j40 n rec x2 x3 x4 x7 M0 M1 Np No Nx Na Nq Nj rt) (JP A D) := by
    intro x7 x4 M1 Np No Nx Nq Nj rt hJ
    unfold m_MM_ifs_j40
    exact o_okI (fun _ => j57 _ _ _ _ _ _ _ _ _ hJ) (fun _ => j57 _ _ _ _ _ _ _ _ _ hJ)
  have i := sc_NQ hS.2.2.1
  unfold m_MM_ifs
  refine o_okN (fun x4 _ => o_okN (fun x6 e6 => ?_))
  have h6 : 0 ≤ x6 ∧ x6 ≤ 300 := by rw [e6]; exact i
  refine o_okB (hr x1 x3 _ _ _ _ _ _ _ u0 u1 w0 w1 hS) ?_
  intro q1 h1
  have hj : JS A D q1.2.1 q1.2.2.1 (NQ_mk (NQ_pairValue q1.2.2.2.2.2.1) (NQ_pairKey q1.2.2.2.2.2.1) x6) q1.2.2.2.2.2.2.1 := ⟨h1.2.1, h1.2.2.1, h6, h1.2.2.2.2⟩
  exact o_okI (fun _ => j40 _ _ _ _ _ _ _ _ _ hj) (fun _ => o_okN (fun u _ => j40 _ _ _ _ _ _ _ _ _ hj))
