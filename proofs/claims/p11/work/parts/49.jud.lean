/-! The reference's judge: what is asked of an array -/
theorem CL_tail {X : Nat → Int32} : ∀ (L : List Int32) (k : Int32), CL X L k → ∀ y ∈ L, ∃ L', CL X L' (X (gi y)) ∧ L'.length ≤ L.length ∧ ∀ w ∈ L', w ∈ L := by
  intro L
  induction L with
  | nil => intro k _ y hy; cases hy
  | cons u L ih =>
    intro k h y hy
    obtain ⟨e, k0, hL⟩ := h
    rcases List.mem_cons.mp hy with e2 | e2
    · exact ⟨L, by rw [e2, e]; exact hL, Nat.le_succ _, fun w hw => List.mem_cons_of_mem _ hw⟩
    · obtain ⟨L', a, b, c⟩ := ih _ hL y e2
      exact ⟨L', a, Nat.le_succ_of_le b, fun w hw => List.mem_cons_of_mem _ (c w hw)⟩
theorem kok3 {M0 : SMT} {Na : SNA} {x q : Int32} {k : Nat} (hV : KVx M0 Na) (s0 : 0 ≤ x) (s1 : x < MT_values M0) (sk : MT_kind M0 (gi x) = 6) (ss : NA_isSchema Na (gi x) ≠ 0) (hk : k < 44) (k1 : 23 ≤ k) (k2 : k ≤ 30) (h : (0 ≤ q ∧ q < MT_values M0) ∧ (∃ L, CL (MT_next M0) L (MT_first M0 (gi x)) ∧ q ∈ L) ∧ MKs M0 (MT_name M0 (gi q)) (mk_keys k)) : MT_kind M0 (gi q) = 3 := by
  obtain ⟨⟨q0, q1⟩, ⟨L, l1, l2⟩, hmk⟩ := h
  obtain ⟨a, b⟩ := hV.2.2.1 x s0 s1 ss sk L l1 q l2 k hk hmk
  have c := hV.2.1 q q0 q1 a
  have g := gi_tnc a
  refine c.2.2.2.1 ?_ ?_
  · rw [Int32.le_iff_toInt_le]
    have z : (23 : Int32).toInt = 23 := rfl
    rw [z]; omega
  · rw [Int32.le_iff_toInt_le]
    have z : (30 : Int32).toInt = 30 := rfl
    rw [z]; omega
theorem s_arr4 {n : Nat} {rec : TJR} {x1 x2 x3 x4 x12 D : Int32} {x5 : Int64} {M0 M1 A : SMT} {Np : SNP} {No : SNO} {Nx : SNX} {Na : SNA} {Nq : SNQ} {Nj : SNJ} {rt : Nat} (h : JC n M0 A Na) (hr : JR rec M0 A Na D) (hO : OCx M0 A Na x1 x2 x3 x4) (hS : JS A D M1 Np Nq Nj) :
    o_ok (m_MM_array_j360 n rec x1 x2 x4 x5 (1:Int32) (0:Int32) x12 M0 M1 Np No Nx Na Nq Nj rt) (JP A D) := by
  obtain ⟨⟨v0, v1⟩, hK, ⟨⟨s0, s1⟩, sk, ss⟩, w0, w1⟩ := hO
  obtain ⟨L, l1, l2, l3⟩ := tchain h.hA h.tA w0 w1
  have j440 : ∀ (y : Int32) (x5 : Int64) (x7 x9 : Int32) (M1 : SMT) (Np : SNP) (No : SNO) (Nx : SNX) (Nq : SNQ) (Nj : SNJ) (rt : Nat), 0 ≤ y → y < MT_values A → (x7 = 0 ∨ x7 = 1) → JS A D M1 Np Nq Nj → o_ok (m_MM_array_j440 n rec x1 x2 x5 x7 x9 x12 y M0 M1 Np No Nx Na Nq Nj rt) (fun q => G4 A D q.2 ∧ (q.1 = 0 → q.2.2.2.2.1 = MT_next A (gi y))) := by
    intro y x5 x7 x9 M1 Np No Nx Nq Nj rt y0 y1 h7 hJ
    unfold m_MM_array_j440
    exact o_okG (o_inV h.hA y0 y1) (o_okN (fun u eu => o_okN (fun u2 _ => o_okS ⟨⟨h7, hJ⟩, fun _ => eu.trans (congrFun (LF_next hJ.1) _)⟩)))
  have j414 : ∀ (y : Int32) (x5 : Int64) (x7 x9 : Int32) (M1 : SMT) (Np : SNP) (No : SNO) (Nx : SNX) (Nq : SNQ) (Nj : SNJ) (rt : Nat), 0 ≤ y → y < MT_values A → (x7 = 0 ∨ x7 = 1) → JS A D M1 Np Nq Nj → o_ok (m_MM_array_j414 n rec x1 x2 x5 x7 x9 x12 y M0 M1 Np No Nx Na Nq Nj rt) (fun q => G4 A D q.2 ∧ (q.1 = 0 → q.2.2.2.2.1 = MT_next A (gi y))) := by
    intro y x5 x7 x9 M1 Np No Nx Nq Nj rt y0 y1 h7 hJ
    unfold m_MM_array_j414
    refine o_okB (hr x2 y _ _ _ _ _ _ _ v0 v1 y0 y1 hJ) ?_
    intro q1 h1
    refine o_okN (fun x7' e7 => ?_)
    have h7' : x7' = 0 ∨ x7' = 1 := by rw [e7]; exact and01 h7 h1.1
    exact o_okI (fun _ => o_okN (fun u _ => j440 _ _ _ _ _ _ _ _ _ _ _ y0 y1 h7' h1.2)) (fun _ => j440 _ _ _ _ _ _ _ _ _ _ _ y0 y1 h7' h1.2)
  unfold m_MM_array_j360
  refine o_okG (o_inV h.hA w0 w1) (o_okN (fun w ew => ?_))
  have ew : w = MT_first M1 (gi x4) := ew
  refine o_okB (jl (X := MT_next A) (V := fun z : Int64 × Int32 × Int32 × Int32 × T7 => z.2.2.2.1) (G := G4 A D) h.hn l2 (by show CL _ _ w; rw [ew, LF_first hS.1]; exact l1) ⟨Or.inr rfl, hS⟩ ?_ ?_) ?_
  · intro z hG ez
    unfold m_MM_array_b374
    exact o_okI (fun _ => o_okS ⟨Nat.succ_ne_zero 0, hG⟩) (fun c => absurd (neg1 ez) c)
  · intro y z hy ey hG
    obtain ⟨_, y0, y1⟩ := l3 y hy
    have ey : z.2.2.2.1 = y := ey
    have hz : JS A D z.2.2.2.2.1 z.2.2.2.2.2.1 z.2.2.2.2.2.2.2.2.1 z.2.2.2.2.2.2.2.2.2.1 := hG.2
    unfold m_MM_array_b374
    rw [ey]
    refine o_okI (fun c => absurd y0 (Int32.not_le.mpr c)) (fun _ => o_okI (fun _ => ?_) (fun _ => o_okS ⟨⟨hG.1, hG.2⟩, fun e => absurd e (Nat.succ_ne_zero 0)⟩))
    exact o_okI (fun _ => j440 _ _ _ _ _ _ _ _ _ _ _ y0 y1 hG.1 hz) (fun _ => o_okI (fun _ => o_okI (fun _ => j414 _ _ _ _ _ _ _ _ _ _ _ y0 y1 hG.1 hz) (fun _ => j440 _ _ _ _ _ _ _ _ _ _ _ y0 y1 hG.1 hz)) (fun _ => j414 _ _ _ _ _ _ _ _ _ _ _ y0 y1 hG.1 hz))
  · intro q ⟨_, hq⟩
    unfold m_MM_array_j458
    have g := o_zbM hq.1
    exact o_okI (fun _ => o_okG g (o_okS ⟨hq.1, hq.2⟩)) (fun _ => o_okG g (o_okS ⟨hq.1, hq.2⟩))
theorem s_arr5 {n : Nat} {rec : TJR} {x1 x2 x3 x4 x11 x12 x13 D a b : Int32} {x5 : Int64} {M0 M1 A : SMT} {Np : SNP} {No : SNO} {Nx : SNX} {Na : SNA} {Nq : SNQ} {Nj : SNJ} {rt : Nat} (h : JC n M0 A Na) (hr : JR rec M0 A Na D) (hO : OCx M0 A Na x1 x2 x3 x4) (hS : JS A D M1 Np Nq Nj) :
    o_ok (o_lp n (m_MM_array_b514 n rec x2 x11 x12 x13 M0 Na) (x5, a, b, MT_first M1 (gi x4), M1, Np, No, Nx, Nq, Nj, rt)) (fun q => q.1 ≠ 0 ∧ G4j A D q.2) := by
  obtain ⟨⟨v0, v1⟩, hK, ⟨⟨s0, s1⟩, sk, ss⟩, w0, w1⟩ := hO
  obtain ⟨L, l1, l2, l3⟩ := tchain h.hA h.tA w0 w1
  have j548 : ∀ (y : Int32) (x5 : Int64) (x9 x10 : Int32) (M1 : SMT) (Np : SNP) (No : SNO) (Nx : SNX) (Nq : SNQ) (Nj : SNJ) (rt : Nat), 0 ≤ y → y < MT_values A → JS A D M1 Np Nq Nj → o_ok (m_MM_array_j548 n rec x2 x5 x9 x10 x11 x12 x13 y M0 M1 Np No Nx Na Nq Nj rt) (fun q => G4j A D q.2 ∧ (q.1 = 0 → q.2.2.2.2.1 = MT_next A (gi y))) := by
    intro y x5 x9 x10 M1 Np No Nx Nq Nj rt y0 y1 hJ
    unfold m_MM_array_j548
    exact o_okG (o_inV h.hA y0 y1) (o_okN (fun u eu => o_okN (fun u2 _ => o_okS ⟨hJ, fun _ => eu.trans (congrFun (LF_next hJ.1) _)⟩)))
  refine jl (X := MT_next A) (V := fun z : Int64 × Int32 × Int32 × Int32 × T7 => z.2.2.2.1) (G := G4j A D) h.hn l2 (by show CL _ _ (MT_first M1 (gi x4)); rw [LF_first hS.1]; exact l1) hS ?_ ?_
  · intro z hG ez
    unfold m_MM_array_b514
    exact o_okI (fun _ => o_okS ⟨Nat.succ_ne_zero 0, hG⟩) (fun c => absurd (neg1 ez) c)
  · intro y z hy ey hG
    obtain ⟨_, y0, y1⟩ := l3 y hy
    have ey : z.2.2.2.1 = y := ey
    have hz : JS A D z.2.2.2.2.1 z.2.2.2.2.2.1 z.2.2.2.2.2.2.2.2.1 z.2.2.2.2.2.2.2.2.2.1 := hG
    unfold m_MM_array_b514
    rw [ey]
    refine o_okI (fun c => absurd y0 (Int32.not_le.mpr c)) (fun _ => o_okI (fun _ => ?_) (fun _ => o_okS ⟨hG, fun e => absurd e (Nat.succ_ne_zero 0)⟩))
    refine o_okB (hr x2 y _ _ _ _ _ _ _ v0 v1 y0 y1 hz) ?_
    intro q6 h6
    exact o_okI (fun _ => j548 _ _ _ _ _ _ _ _ _ _ _ y0 y1 h6.2) (fun _ => o_okN (fun u _ => o_okN (fun u2 _ => j548 _ _ _ _ _ _ _ _ _ _ _ y0 y1 h6.2)))
def G5 (M0 A : SMT) (D : Int32) (z : Int64 × Int32 × Int32 × Int32 × Int32 × T7) : Prop := ((z.2.1 = 0 ∨ z.2.1 = 1) ∧ JZ A D z.2.2.2.2.2) ∧ ∃ L, CL (MT_next M0) L z.2.2.2.1 ∧ ∀ y ∈ L, 0 ≤ y ∧ y < MT_values M0
theorem s_arr13 {n : Nat} {rec : TJR} {x1 x2 x3 x4 D : Int32} {x5 : Int64} {M0 M1 A : SMT} {Np : SNP} {No : SNO} {Nx : SNX} {Na : SNA} {Nq : SNQ} {Nj : SNJ} {rt : Nat} (h : JC n M0 A Na) (hr : JR rec M0 A Na D) (hO : OCx M0 A Na x1 x2 x3 x4) (hS : JS A D M1 Np Nq Nj) :
    o_ok (o_lp n (m_MM_array_b252 n rec M0 Na) (x5, (1:Int32), (0:Int32), MT_first M0 (gi x2), MT_first M1 (gi x4), M1, Np, No, Nx, Nq, Nj, rt)) (fun q => q.1 ≠ 0 ∧ G5 M0 A D q.2) := by
  obtain ⟨⟨v0, v1⟩, hK, ⟨⟨s0, s1⟩, sk, ss⟩, w0, w1⟩ := hO
  obtain ⟨L, l1, l2, l3⟩ := tchain h.hA h.tA w0 w1
  obtain ⟨Ls, c1, c2, c3⟩ := tchain h.hI h.hT v0 v1
  refine jl (X := MT_next A) (V := fun z : Int64 × Int32 × Int32 × Int32 × Int32 × T7 => z.2.2.2.2.1) (G := G5 M0 A D) h.hn l2 (by show CL _ _ (MT_first M1 (gi x4)); rw [LF_first hS.1]; exact l1) ⟨⟨Or.inr rfl, hS⟩, Ls, c1, fun y hy => (c3 y hy).2⟩ ?_ ?_
  · intro z hG ez
    unfold m_MM_array_b252
    exact o_okI (fun _ => o_okS ⟨Nat.succ_ne_zero 0, hG⟩) (fun c => absurd (neg1 ez) c)
  · intro y z hy ey hG
    obtain ⟨_, y0, y1⟩ := l3 y hy
    have ey : z.2.2.2.2.1 = y := ey
    have hz : JS A D z.2.2.2.2.2.1 z.2.2.2.2.2.2.1 z.2.2.2.2.2.2.2.2.2.1 z.2.2.2.2.2.2.2.2.2.2.1 := hG.1.2
    obtain ⟨hG1, Lz, d1, d2⟩ := hG
    unfold m_MM_array_b252
    rw [ey]
    refine o_okI (fun c => absurd y0 (Int32.not_le.mpr c)) (fun _ => o_okI (fun _ => o_okS ⟨⟨hG1, Lz, d1, d2⟩, fun e => absurd e (Nat.succ_ne_zero 0)⟩) (fun nc => o_okI (fun _ => ?_) (fun _ => o_okS ⟨⟨hG1, Lz, d1, d2⟩, fun e => absurd e (Nat.succ_ne_zero 0)⟩)))
    cases Lz with
    | nil => exact absurd (neg1 d1) nc
    | cons u Lz =>
      obtain ⟨e, _, d3⟩ := d1
      obtain ⟨u0, u1⟩ := d2 u List.mem_cons_self
      rw [e] at u0 u1
      refine o_okB (hr z.2.2.2.1 y _ _ _ _ _ _ _ u0 u1 y0 y1 hz) ?_
      intro q11 h11
      refine o_okN (fun x7' e7 => o_okN (fun _ _ => o_okN (fun _ _ => o_okG (o_inV h.hA y0 y1) (o_okN (fun t et => o_okG (o_inV h.hI u0 u1) (o_okN (fun t2 et2 => o_okS ⟨⟨⟨?_, h11.2⟩, Lz, ?_, fun w hw => d2 w (List.mem_cons_of_mem _ hw)⟩, fun _ => et.trans (congrFun (LF_next h11.2.1) _)⟩)))))))
      · show x7' = 0 ∨ x7' = 1
        rw [e7]; exact and01 hG1.1 h11.1
      · show CL _ _ t2
        rw [et2]; exact d3
theorem s_arr37 {n : Nat} {rec : TJR} {x4 D : Int32} {M0 M1 A : SMT} {Np : SNP} {No : SNO} {Nx : SNX} {Na : SNA} {Nq : SNQ} {Nj : SNJ} {rt : Nat} (h : JC n M0 A Na) (w0 : 0 ≤ x4) (w1 : x4 < MT_values A) (hS : JS A D M1 Np Nq Nj) :
    o_ok (o_lp n (m_MM_array_b155 n rec M0 M1 Np No Nx Na Nq Nj rt) (MT_first M1 (gi x4))) (fun q => q.1 ≠ 0 ∧ True) := by
  obtain ⟨L, l1, l2, l3⟩ := tchain h.hA h.tA w0 w1
  have al : ∀ u w : Int32, 0 ≤ u → u < MT_values A → 0 ≤ w → w < MT_values A → o_ok (m_MT_alike n 1003 u w M1 M1) (fun r => r = 0 ∨ r = 1) := by
    intro u w u0 u1 t0 t1
    refine s_MT_alike h.hn (LF_I hS.1 h.hA) (LF_T hS.1 h.tA) (LF_I hS.1 h.hA) (LF_T hS.1 h.tA) u0 (by rw [LF_values hS.1]; exact u1) t0 (by rw [LF_values hS.1]; exact t1) ?_
    have a := Int32.le_iff_toInt_le.mp u0
    have z : (0 : Int32).toInt = 0 := rfl
    rw [z] at a
    omega
  refine jl (X := MT_next A) (V := fun z : Int32 => z) (G := fun _ => True) h.hn l2 (by show CL _ _ (MT_first M1 (gi x4)); rw [LF_first hS.1]; exact l1) trivial ?_ ?_
  · intro z hG ez
    unfold m_MM_array_b155
    exact o_okI (fun _ => o_okS ⟨Nat.succ_ne_zero 1, trivial⟩) (fun c => absurd (neg1 ez) c)
  · intro y z hy ey hG
    obtain ⟨_, y0, y1⟩ := l3 y hy
    obtain ⟨L2, a1, a2, a3⟩ := CL_tail L _ l1 y hy
    have ey : z = y := ey
    subst ey
    have gy := o_inV h.hA y0 y1
    unfold m_MM_array_b155
    refine o_okI (fun c => absurd y0 (Int32.not_le.mpr c)) (fun _ => o_okG gy (o_okN (fun w ew => ?_)))
    have ew : w = MT_next M1 (gi z) := ew
    refine o_okB (jl (X := MT_next A) (V := fun z : Int32 => z) (G := fun _ => True) h.hn (Nat.le_trans a2 l2) (by show CL _ _ w; rw [ew, LF_next hS.1]; exact a1) trivial ?_ ?_) ?_
    · intro v hG ez
      unfold m_MM_array_b172
      exact o_okI (fun _ => o_okS ⟨Nat.succ_ne_zero 1, trivial⟩) (fun c => absurd (neg1 ez) c)
    · intro u v hu eu _
      obtain ⟨_, u0, u1⟩ := l3 u (a3 u hu)
      have eu : v = u := eu
      subst eu
      unfold m_MM_array_b172
      refine o_okI (fun c => absurd u0 (Int32.not_le.mpr c)) (fun _ => ?_)
      refine o_okB (al z v y0 y1 u0 u1) ?_
      intro q15 _
      exact o_okI (fun _ => o_okG (o_inV h.hA u0 u1) (o_okN (fun t et => o_okS ⟨trivial, fun _ => et.trans (congrFun (LF_next hS.1) _)⟩))) (fun _ => o_okS ⟨trivial, fun e => absurd e (Nat.succ_ne_zero 0)⟩)
    · intro q16 _
      exact o_okI (fun _ => o_okS ⟨trivial, fun e => absurd e (Nat.succ_ne_zero 0)⟩) (fun _ => o_okG gy (o_okN (fun t et => o_okS ⟨trivial, fun _ => et.trans (congrFun (LF_next hS.1) _)⟩)))
theorem s_MM_array {n : Nat} {rec : TJR} {x1 x2 x3 x4 D : Int32} {M0 M1 A : SMT} {Np : SNP} {No : SNO} {Nx : SNX} {Na : SNA} {Nq : SNQ} {Nj : SNJ} {rt : Nat} (h : JC n M0 A Na) (hr : JR rec M0 A Na D) (hO : OCx M0 A Na x1 x2 x3 x4) (hS : JS A D M1 Np Nq Nj) : o_ok (m_MM_array n rec x1 x2 x3 x4 M0 M1 Np No Nx Na Nq Nj rt) (JP A D) := by
  have hO' := hO
  obtain ⟨⟨v0, v1⟩, hK, ⟨⟨s0, s1⟩, sk, ss⟩, w0, w1⟩ := hO'
  have one : o_ok (some ((1:Int32), M1, Np, No, Nx, Nq, Nj, rt)) (JP A D) := o_okS ⟨Or.inr rfl, hS⟩
  have zero : o_ok (some ((0:Int32), M1, Np, No, Nx, Nq, Nj, rt)) (JP A D) := o_okS ⟨Or.inl rfl, hS⟩
  have gx4 := o_inV h.hA w0 w1
  have gx2 := o_inV h.hI v0 v1
  have i := sc_NQ hS.2.2.1
  have io : 23 ≤ x1 → x1 ≤ 30 → o_ok (m_MM_intOf n x2 M0) (fun _ => True) := fun a b => s_MM_intOf h.hn h.hI h.hT v0 v1 (hK.2.2.2.1 a b)
  have ne : ∀ q : Int32, ∀ P : Prop, (q = -1 ∨ P) → ¬ q < 0 → P := by
    intro q P hq c
    rcases hq with e | e
    · rw [e] at c; exact absurd m1neg c
    · exact e
  unfold m_MM_array
  refine o_okN (fun x5 _ => o_okG gx4 (o_okN (fun x8 _ => ?_)))
  refine o_okI (fun _ => ?_) (fun _ => ?_)
  · refine o_okB (s_member_x h.hn h.hI h.hT s0 s1 sk) ?_
    intro q1 h1
    refine o_okI (fun _ => o_okI (fun _ => s_arr4 h hr hO hS) (fun c => ?_)) (fun _ => s_arr4 h hr hO hS)
    exact o_okG (o_inV h.hI (ne _ _ h1 c).1.1 (ne _ _ h1 c).1.2) (s_arr4 h hr hO hS)
  refine o_okI (fun _ => o_okN (fun x11 e11 => ?_)) (fun _ => ?_)
  · have h11 : 0 ≤ x11 ∧ x11 ≤ 300 := by rw [e11]; exact i
    refine o_okB (s_member_x h.hn h.hI h.hT s0 s1 sk) ?_
    intro q4 h4
    refine o_okB (s_member_x h.hn h.hI h.hT s0 s1 sk) ?_
    intro q5 h5
    refine o_okG gx4 (o_okN (fun w ew => ?_))
    rw [ew]
    refine o_okB (s_arr5 h hr hO hS) ?_
    intro q7 ⟨_, h7⟩
    have h7 : JZ A D q7.2.2.2.2.2 := h7
    have hj : JS A D q7.2.2.2.2.2.1 q7.2.2.2.2.2.2.1 (NQ_mk (NQ_pairValue q7.2.2.2.2.2.2.2.2.2.1) (NQ_pairKey q7.2.2.2.2.2.2.2.2.2.1) x11) q7.2.2.2.2.2.2.2.2.2.2.1 := ⟨h7.1, h7.2.1, h11, h7.2.2.2⟩
    have j589 : ∀ (x5 : Int64) (x10 y0 y1 : Int32) (M1 : SMT) (Np : SNP) (No : SNO) (Nx : SNX) (Nq : SNQ) (Nj : SNJ) (rt : Nat), JS A D M1 Np Nq Nj → o_ok (m_MM_array_j589 n rec x5 x10 q5 y0 y1 M0 M1 Np No Nx Na Nq Nj rt) (JP A D) := by
      intro x5 x10 y0 y1 M1 Np No Nx Nq Nj rt hJ
      unfold m_MM_array_j589
      refine o_okI (fun _ => o_okS ⟨Or.inl rfl, hJ⟩) (fun _ => o_okI (fun _ => o_okS ⟨Or.inr rfl, hJ⟩) (fun c => ?_))
      have e5 := ne _ _ h5 c
      refine o_okB (s_MM_intOf h.hn h.hI h.hT e5.1.1 e5.1.2 (kok3 (k := 27) h.hV s0 s1 sk ss (by decide) (by decide) (by decide) e5)) ?_
      intro q9 _
      exact o_okI (fun _ => o_okS ⟨Or.inl rfl, hJ⟩) (fun _ => o_okS ⟨Or.inr rfl, hJ⟩)
    unfold m_MM_array_j566
    refine o_okI (fun c => ?_) (fun _ => j589 _ _ _ _ _ _ _ _ _ _ _ hj)
    have e4 := ne _ _ h4 (Int32.not_lt.mpr c)
    refine o_okB (s_MM_intOf h.hn h.hI h.hT e4.1.1 e4.1.2 (kok3 (k := 28) h.hV s0 s1 sk ss (by decide) (by decide) (by decide) e4)) ?_
    intro q8 _
    exact j589 _ _ _ _ _ _ _ _ _ _ _ hj
  refine o_okI (fun _ => ?_) (fun _ => ?_)
  · refine o_okB (s_member_x h.hn h.hI h.hT s0 s1 sk) ?_
    intro q1 h1
    refine o_okI (fun _ => o_okI (fun _ => s_arr4 h hr hO hS) (fun c => ?_)) (fun _ => s_arr4 h hr hO hS)
    exact o_okG (o_inV h.hI (ne _ _ h1 c).1.1 (ne _ _ h1 c).1.2) (s_arr4 h hr hO hS)
  refine o_okI (fun _ => o_okG gx2 (o_okN (fun w ew => o_okG gx4 (o_okN (fun w2 ew2 => ?_))))) (fun _ => ?_)
  · rw [ew, ew2]
    refine o_okB (s_arr13 h hr hO hS) ?_
    intro q ⟨_, hq⟩
    exact o_okG (o_zbM hq.1.1) (o_okS ⟨hq.1.1, hq.1.2⟩)
  refine o_okI (fun e => o_okB (io (by rw [e]; decide) (by rw [e]; decide)) (fun q _ => o_okI (fun _ => zero) (fun _ => one))) (fun _ => ?_)
  refine o_okI (fun e => o_okB (io (by rw [e]; decide) (by rw [e]; decide)) (fun q _ => o_okI (fun _ => zero) (fun _ => one))) (fun _ => ?_)
  refine o_okI (fun _ => o_okG gx2 (o_okI (fun _ => one) (fun _ => o_okG gx4 (o_okN (fun w ew => ?_))))) (fun _ => one)
  rw [ew]
  refine o_okB (s_arr37 h w0 w1 hS) ?_
  intro q _
  exact o_okI (fun _ => zero) (fun _ => one)
