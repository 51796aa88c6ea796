/-! The reference's check: part, leads -/
def PI (x2 x3 ps : Int32) (z : Int32 × Int32 × SNH) : Prop := x2 ≤ z.2.1 ∧ z.2.1 ≤ x3 ∧ 0 ≤ z.1 ∧ z.1 ≤ z.2.1 - x2 ∧ NH_pathSize z.2.2 = ps
def pmu (z : Int32 × Int32 × SNH) : Nat := o_mu z.2.1
theorem pa_ar {a k b n : Int32} (a0 : 0 ≤ a) (h1 : a ≤ k) (h2 : k < b) (h3 : b ≤ 4000) (n0 : 0 ≤ n) (n1 : n ≤ k - a) : (0 ≤ k ∧ k < 8192) ∧ (0 ≤ k + 1 ∧ k + 1 < 8192 ∧ k + 1 ≤ b ∧ a ≤ k + 1 ∧ k < k + 1) ∧ (n < 4004 ∧ 0 ≤ n + 1 ∧ n + 1 ≤ k + 1 - a ∧ n + 1 ≤ k + 1 + 1 - a) ∧ (¬ k + 1 = b → k + 1 + 1 ≤ b ∧ a ≤ k + 1 + 1 ∧ k < k + 1 + 1) := by
  refine ⟨⟨?_, ?_⟩, ⟨?_, ?_, ?_, ?_, ?_⟩, ⟨?_, ?_, ?_, ?_⟩, fun h => ⟨?_, ?_, ?_⟩⟩ <;> grind
theorem s_part_b6 {n : Nat} {x1 x2 x3 ps : Int32} {M0 : SMT} {z : Int32 × Int32 × SNH} (h2 : 0 ≤ x2) (h3 : x3 ≤ 4000) (hz : PI x2 x3 ps z) : o_ok (m_MM_part_b6 n x1 x3 M0 z) (fun q => (q.1 = 0 → PI x2 x3 ps q.2 ∧ pmu q.2 < pmu z) ∧ (q.1 ≠ 0 → PI x2 x3 ps q.2)) := by
  obtain ⟨m, k, H⟩ := z
  obtain ⟨a1, a2, a3, a4, a5⟩ := hz
  have a1 : x2 ≤ k := a1
  have a2 : k ≤ x3 := a2
  have a3 : 0 ≤ m := a3
  have a4 : m ≤ k - x2 := a4
  have a5 : NH_pathSize H = ps := a5
  unfold m_MM_part_b6
  refine o_okI (fun _ => o_okS ⟨fun e => absurd e (Nat.succ_ne_zero 1), fun _ => ⟨a1, a2, a3, a4, a5⟩⟩) (fun c => ?_)
  have c : k < x3 := Int32.not_le.mp c
  obtain ⟨⟨r1, r2⟩, ⟨s1, s2, s3, s4, s5⟩, ⟨t1, t2, t3, t4⟩, u⟩ := pa_ar h2 a1 c h3 a3 a4
  have g0 : o_in k 8192 = true := o_inM (m := 8192) rfl r1 r2
  have g1 : o_in (k + 1) 8192 = true := o_inM (m := 8192) rfl s1 s2
  have gm : o_in m 4004 = true := o_inM (m := 4004) rfl a3 t1
  have ex : o_ok (some ((1, m, k, H) : Nat × Int32 × Int32 × SNH)) (fun q => (q.1 = 0 → PI x2 x3 ps q.2 ∧ pmu q.2 < pmu (m, k, H)) ∧ (q.1 ≠ 0 → PI x2 x3 ps q.2)) := o_okS ⟨fun e => absurd e (Nat.succ_ne_zero 0), fun _ => ⟨a1, a2, a3, a4, a5⟩⟩
  refine o_okG g0 (o_okN (fun ch ec => o_okI (fun _ => ?_) (fun _ => ?_)))
  · refine o_okI (fun _ => ex) (fun c2 => ?_)
    obtain ⟨u1, u2, u3⟩ := u c2
    have j66 : o_ok (m_MM_part_j66 n x1 x3 m k M0 H) (fun q => (q.1 = 0 → PI x2 x3 ps q.2 ∧ pmu q.2 < pmu (m, k, H)) ∧ (q.1 ≠ 0 → PI x2 x3 ps q.2)) := by
      unfold m_MM_part_j66
      refine o_okN (fun w ew => ?_)
      subst ew
      have j90 : ∀ v : Int32, o_ok (m_MM_part_j90 n x1 x3 m (k + 1) v M0 H) (fun q => (q.1 = 0 → PI x2 x3 ps q.2 ∧ pmu q.2 < pmu (m, k, H)) ∧ (q.1 ≠ 0 → PI x2 x3 ps q.2)) := by
        intro v
        unfold m_MM_part_j90
        refine o_okN (fun w ew => o_okG gm (o_okN (fun y ey => ?_)))
        subst ew
        subst ey
        exact o_okS ⟨fun _ => ⟨⟨u2, u1, t2, t4, a5⟩, o_muL u3⟩, fun e => absurd rfl e⟩
      exact o_okG g1 (o_okI (fun _ => j90 _) (fun _ => j90 _))
    exact o_okG g1 (o_okI (fun _ => j66) (fun _ => o_okG g1 (o_okI (fun _ => j66) (fun _ => ex))))
  · unfold m_MM_part_j90
    refine o_okN (fun w ew => o_okG gm (o_okN (fun y ey => ?_)))
    subst ew
    subst ey
    exact o_okS ⟨fun _ => ⟨⟨s4, s3, t2, t3, a5⟩, o_muL s5⟩, fun e => absurd rfl e⟩
theorem s_b175 {n : Nat} {x4 x5 x6 b : Int32} {M0 : SMT} {Nh : SNH} (hn : o_big ≤ n) (hI : I_MT M0) (hT : T_MT M0) (v0 : 0 ≤ x6) (v1 : x6 < MT_values M0) (vk : MT_kind M0 (gi x6) = 4) (hb : b ≠ 0 → MT_many M0 (gi x6) = x4) : o_ok (o_lp n (m_MM_part_b175 n x4 x5 x6 M0 Nh) (b, (0:Int32))) (fun q => q.1 ≠ 0 ∧ True) := by
  have i := sc_MT hI
  have g := o_inV hI v0 v1
  obtain ⟨f1, f2, f3, f4⟩ := (hT x6 v0 v1).2.2.2.2.1 vk
  refine o_lpR (z := (b, (0:Int32))) (P := fun _ => True) (fun z : Int32 × Int32 => (z.1 ≠ 0 → MT_many M0 (gi x6) = x4) ∧ 0 ≤ z.2) (fun z => o_mu z.2) hn o_muB ⟨hb, show (0:Int32) ≤ 0 by decide⟩ (fun z hz => ?_)
  obtain ⟨z1, z2⟩ := hz
  unfold m_MM_part_b175
  refine o_okI (fun _ => o_okS ⟨fun e => absurd e (Nat.succ_ne_zero 0), fun _ => trivial⟩) (fun c => ?_)
  have e4 := z1 c
  refine o_okI (fun _ => o_okS ⟨fun e => absurd e (Nat.succ_ne_zero 0), fun _ => trivial⟩) (fun c2 => ?_)
  have c2 : z.2 < MT_many M0 (gi x6) := by rw [e4]; exact Int32.not_le.mp c2
  have ar : ∀ f m u v : Int32, 0 ≤ f → f ≤ u → u ≤ 4000 → 0 ≤ u → m ≤ u - f → 0 ≤ v → v < m → 0 ≤ f + v ∧ f + v < 4000 ∧ 0 ≤ v + 1 ∧ v < v + 1 ∧ v < 4004 := by
    clear hI hT i g f1 f2 f3 f4 c2 z1 z2 hb e4 vk
    intro f m u v h1 h2 h3 h4 h5 h6 h7
    refine ⟨?_, ?_, ?_, ?_, ?_⟩ <;> grind
  obtain ⟨r1, r2, r3, r4, r5⟩ := ar (MT_from M0 (gi x6)) _ _ z.2 f1 f3 i.2.2.2.2.2.2.2.1 i.2.2.2.2.2.2.1 f4 z2 c2
  have gc : o_in (MT_from M0 (gi x6) + z.2) 4000 = true := o_inM (m := 4000) rfl r1 r2
  have gz : o_in z.2 4004 = true := o_inM (m := 4004) rfl z2 r5
  refine o_okG g (o_okG gc (o_okG gz (o_okI (fun _ => o_okN (fun w ew => o_okS ⟨fun _ => ⟨⟨fun _ => e4, ?_⟩, ?_⟩, fun e => absurd rfl e⟩)) (fun _ => o_okN (fun w ew => o_okS ⟨fun _ => ⟨⟨fun _ => e4, ?_⟩, ?_⟩, fun e => absurd rfl e⟩)))))
  · show 0 ≤ w
    rw [ew]; exact r3
  · show o_mu w < o_mu z.2
    rw [ew]; exact o_muL r4
  · show 0 ≤ w
    rw [ew]; exact r3
  · show o_mu w < o_mu z.2
    rw [ew]; exact o_muL r4
theorem s_MM_part {n : Nat} {x1 x2 x3 : Int32} {M0 : SMT} {Nh : SNH} (hn : o_big ≤ n) (hI : I_MT M0) (hT : T_MT M0) (v0 : 0 ≤ x1) (v1 : x1 < MT_values M0) (h2 : 0 ≤ x2) (h23 : x2 ≤ x3) (h3 : x3 ≤ 4000) : o_ok (m_MM_part n x1 x2 x3 M0 Nh) (fun r => (r.1 < 0 ∨ (0 ≤ r.1 ∧ r.1 < MT_values M0)) ∧ NH_pathSize r.2 = NH_pathSize Nh) := by
  have gx := o_inV hI v0 v1
  have m1 : (-1:Int32) < 0 := by decide
  have hz : PI x2 x3 (NH_pathSize Nh) ((0:Int32), x2, Nh) := ⟨Int32.le_refl _, h23, show (0:Int32) ≤ 0 by decide, by show (0:Int32) ≤ x2 - x2; clear hI hT gx; grind, rfl⟩
  have hb : pmu ((0:Int32), x2, Nh) < o_big := by unfold pmu; exact o_muB
  have st : ∀ z, PI x2 x3 (NH_pathSize Nh) z → o_ok (m_MM_part_b6 n x1 x3 M0 z) (fun q => (q.1 = 0 → PI x2 x3 (NH_pathSize Nh) q.2 ∧ pmu q.2 < pmu z) ∧ (q.1 ≠ 0 → PI x2 x3 (NH_pathSize Nh) q.2)) := fun z hz => s_part_b6 h2 h3 hz
  unfold m_MM_part
  generalize hf : m_MM_part_b6 n x1 x3 M0 = f at st ⊢
  refine o_okB (o_lpR (P := fun q => PI x2 x3 (NH_pathSize Nh) q.2) (PI x2 x3 (NH_pathSize Nh)) pmu hn hb hz st) ?_
  intro q1 ⟨_, a1, a2, a3, a4, a5⟩
  have no : o_ok (some ((-1:Int32), q1.2.2.2)) (fun r => (r.1 < 0 ∨ (0 ≤ r.1 ∧ r.1 < MT_values M0)) ∧ NH_pathSize r.2 = NH_pathSize Nh) := o_okS ⟨Or.inl m1, a5⟩
  refine o_okI (fun _ => no) (fun _ => ?_)
  refine o_okG gx (o_okI (fun k6 => ?_) (fun _ => o_okG gx (o_okI (fun _ => ?_) (fun _ => no))))
  · have k6 : MT_kind M0 (gi x1) = 6 := k6
    obtain ⟨L, l1, l2, l3⟩ := tchainN hI hT v0 v1 k6
    refine o_okG gx (o_okN (fun w ew => ?_))
    have ew : w = MT_first M0 (gi x1) := ew
    refine o_okB (cl_lp (P := fun q => q.1 = 1 → 0 ≤ q.2 ∧ q.2 < MT_values M0) (V := fun z : Int32 => z) (fun L2 z => ∀ y ∈ L2, y ∈ L) ?_ ?_ L n w (Nat.lt_of_le_of_lt l2 (Nat.lt_of_lt_of_le (by decide) hn)) (by rw [ew]; exact l1) (fun y h => h)) ?_
    · intro L2 z hJ hL e
      rw [e] at hL
      have hz : z = -1 := hL
      subst hz
      unfold m_MM_part_b133
      exact o_okI (fun _ => o_okS ⟨Nat.succ_ne_zero 1, fun e => absurd (show (2:Nat) = 1 from e) (by decide)⟩) (fun c => absurd m1 c)
    · intro y L2 z hJ ey y0' _
      have hy := hJ y List.mem_cons_self
      obtain ⟨_, w0, w1, wn⟩ := l3 y hy
      obtain ⟨nm0, nm1, nm2, _⟩ := nameOK hT w0 w1 wn
      have gy := o_inV hI w0 w1
      have ey : z = y := ey
      subst ey
      have j231 : ∀ b : Int32, o_ok (m_MM_part_j231 n q1.2.1 z b M0 q1.2.2.2) (fun q => (q.1 = 0 → (∀ u ∈ L2, u ∈ L) ∧ q.2 = MT_next M0 (gi z)) ∧ (q.1 ≠ 0 → (q.1 = 1 → 0 ≤ q.2 ∧ q.2 < MT_values M0))) := by
        intro b
        unfold m_MM_part_j231
        exact o_okI (fun _ => o_okG gy (o_okN (fun u eu => o_okS ⟨fun _ => ⟨fun w hw => hJ w (List.mem_cons_of_mem _ hw), eu⟩, fun e => absurd rfl e⟩))) (fun _ => o_okS ⟨fun e => absurd e (Nat.succ_ne_zero 0), fun _ _ => ⟨w0, w1⟩⟩)
      unfold m_MM_part_b133
      refine o_okI (fun c => absurd w0 (Int32.not_le.mpr c)) (fun _ => o_okG gy (o_okN (fun nm en => ?_)))
      have en : nm = MT_name M0 (gi z) := en
      subst en
      refine o_okG (o_inV hI nm0 nm1) (o_okI (fun em => ?_) (fun _ => ?_))
      · exact o_okB (s_b175 hn hI hT nm0 nm1 nm2 (fun _ => em)) (fun q _ => j231 _)
      · exact o_okB (s_b175 hn hI hT nm0 nm1 nm2 (fun e => absurd rfl e)) (fun q _ => j231 _)
    · intro q7 ⟨_, h7⟩
      exact o_okI (fun e => o_okS ⟨Or.inr (h7 e), a5⟩) (fun _ => no)
  · have j291 : o_ok (m_MM_part_j291 n x1 q1.2.1 M0 q1.2.2.2) (fun r => (r.1 < 0 ∨ (0 ≤ r.1 ∧ r.1 < MT_values M0)) ∧ NH_pathSize r.2 = NH_pathSize Nh) := by
      unfold m_MM_part_j291
      refine o_okI (fun c3 => ?_) (fun _ => no)
      refine o_okB (o_lpR (z := ((0:Int32), (0:Int32))) (P := fun _ => True) (fun z : Int32 × Int32 => 0 ≤ z.2) (fun z => o_mu z.2) hn o_muB (show (0:Int32) ≤ 0 by decide) (fun z hz => ?_)) ?_
      · have hz : 0 ≤ z.2 := hz
        unfold m_MM_part_b305
        refine o_okI (fun _ => o_okS ⟨fun e => absurd e (Nat.succ_ne_zero 1), fun _ => trivial⟩) (fun c => ?_)
        have c : z.2 < q1.2.1 := Int32.not_le.mp c
        have c4 : z.2 < 3 := Int32.lt_of_lt_of_le c c3
        have ar : 0 ≤ z.2 + 1 ∧ z.2 < z.2 + 1 := by generalize z.2 = v at hz c4; clear c; constructor <;> grind
        have gz : o_in z.2 4004 = true := o_inM (m := 4004) rfl hz (Int32.lt_trans c4 (by decide))
        refine o_okG gz ?_
        refine o_okB s_MM_in ?_
        intro q2 _
        refine o_okI (fun _ => o_okS ⟨fun e => absurd e (Nat.succ_ne_zero 0), fun _ => trivial⟩) (fun _ => o_okG gz (o_okN (fun w ew => o_okN (fun u eu => o_okS ⟨fun _ => ⟨?_, ?_⟩, fun e => absurd rfl e⟩))))
        · show 0 ≤ u
          rw [eu]; exact ar.1
        · show o_mu u < o_mu z.2
          rw [eu]; exact o_muL ar.2
      · intro q3 _
        refine o_okI (fun _ => no) (fun _ => o_okG gx (o_okN (fun w ew => ?_)))
        have ew : w = MT_first M0 (gi x1) := ew
        obtain ⟨L, l1, l2, l3⟩ := tchain hI hT v0 v1
        refine o_okB (cl_lp (P := fun q => q.2.2 < 0 ∨ (0 ≤ q.2.2 ∧ q.2.2 < MT_values M0)) (V := fun z : Int32 × Int32 => z.2) (fun L2 z => ∀ y ∈ L2, y ∈ L) ?_ ?_ L n (q3.2.1, w) (Nat.lt_of_le_of_lt l2 (Nat.lt_of_lt_of_le (by decide) hn)) (by rw [ew]; exact l1) (fun y h => h)) ?_
        · intro L2 z hJ hL e
          rw [e] at hL
          have hz : z.2 = -1 := hL
          have hz0 : z.2 < 0 := by rw [hz]; decide
          unfold m_MM_part_b366
          exact o_okI (fun _ => o_okS ⟨Nat.succ_ne_zero 0, Or.inl hz0⟩) (fun c => absurd hz0 c)
        · intro y L2 z hJ ey y0' _
          have hy := hJ y List.mem_cons_self
          obtain ⟨_, w0, w1⟩ := l3 y hy
          have ey : z.2 = y := ey
          unfold m_MM_part_b366
          rw [ey]
          refine o_okI (fun c => absurd w0 (Int32.not_le.mpr c)) (fun _ => o_okI (fun _ => o_okS ⟨fun e => absurd e (Nat.succ_ne_zero 0), fun _ => Or.inr ⟨w0, w1⟩⟩) (fun _ => ?_))
          exact o_okG (o_inV hI w0 w1) (o_okN (fun u eu => o_okN (fun v ev => o_okS ⟨fun _ => ⟨fun w hw => hJ w (List.mem_cons_of_mem _ hw), eu⟩, fun e => absurd rfl e⟩)))
        · intro q4 ⟨_, h4⟩
          exact o_okS ⟨h4, a5⟩
    refine o_okI (fun _ => no) (fun _ => o_okI (fun _ => j291) (fun _ => ?_))
    exact o_okG (o_inM (m := 4004) rfl (by decide) (by decide)) (o_okI (fun _ => no) (fun _ => j291))
def LI (s : SMT) (ps : Int32) (z : Int32 × Int32 × SNH) : Prop := (0 ≤ z.1 ∧ z.1 < MT_values s) ∧ 0 ≤ z.2.1 ∧ z.2.1 ≤ ps ∧ NH_pathSize z.2.2 = ps
theorem s_leads_b217 {n : Nat} {M0 : SMT} {Na : SNA} {ps : Int32} {z : Int32 × Int32 × SNH} (hn : o_big ≤ n) (hI : I_MT M0) (hT : T_MT M0) (hp : ps ≤ 4000) (hz : LI M0 ps z) : o_ok (m_MM_leads_b217 n M0 Na z) (fun q => (q.1 = 0 → LI M0 ps q.2 ∧ pmu q.2 < pmu z) ∧ (q.1 ≠ 0 → NH_pathSize q.2.2.2 = ps ∧ (q.1 ≠ 1 → 0 ≤ q.2.1 ∧ q.2.1 < MT_values M0))) := by
  obtain ⟨v, a, H⟩ := z
  obtain ⟨⟨v0, v1⟩, a0, a1, a2⟩ := hz
  have v0 : 0 ≤ v := v0
  have v1 : v < MT_values M0 := v1
  have a0 : 0 ≤ a := a0
  have a1 : a ≤ ps := a1
  have a2 : NH_pathSize H = ps := a2
  unfold m_MM_leads_b217
  refine o_okB (o_lpR (z := a) (P := fun q => a ≤ q.2 ∧ q.2 ≤ ps) (fun z : Int32 => a ≤ z ∧ z ≤ ps) o_mu hn o_muB ⟨Int32.le_refl _, a1⟩ (fun z hz => ?_)) ?_
  · obtain ⟨z0, z1⟩ := hz
    unfold m_MM_leads_b221
    rw [a2]
    refine o_okI (fun _ => o_okS ⟨fun e => absurd e (Nat.succ_ne_zero 0), fun _ => ⟨z0, z1⟩⟩) (fun c => ?_)
    have c : z < ps := Int32.not_le.mp c
    have ar : a ≤ z + 1 ∧ z + 1 ≤ ps ∧ z < z + 1 ∧ z < 8192 ∧ 0 ≤ z := by clear hI hT; refine ⟨?_, ?_, ?_, ?_, ?_⟩ <;> grind
    refine o_okG (o_inM (m := 8192) rfl ar.2.2.2.2 ar.2.2.2.1) (o_okI (fun _ => o_okS ⟨fun e => absurd e (Nat.succ_ne_zero 0), fun _ => ⟨z0, z1⟩⟩) (fun _ => o_okN (fun w ew => ?_)))
    subst ew
    exact o_okS ⟨fun _ => ⟨⟨ar.1, ar.2.1⟩, o_muL ar.2.2.1⟩, fun e => absurd rfl e⟩
  · intro q2 ⟨_, b0, b1⟩
    unfold m_MM_leads_j248
    refine o_okB (s_MM_part hn hI hT v0 v1 a0 b0 (Int32.le_trans b1 hp)) ?_
    intro q3 ⟨c1, c2⟩
    have c2 : NH_pathSize q3.2 = ps := c2.trans a2
    refine o_okI (fun c => ?_) (fun _ => o_okS ⟨fun e => absurd e (Nat.succ_ne_zero 0), fun _ => ⟨c2, fun e => absurd rfl e⟩⟩)
    have hv : 0 ≤ q3.1 ∧ q3.1 < MT_values M0 := by
      rcases c1 with h | h
      · exact absurd c (Int32.not_le.mpr h)
      · exact h
    refine o_okI (fun _ => o_okS ⟨fun e => absurd e (Nat.succ_ne_zero 1), fun _ => ⟨c2, fun _ => hv⟩⟩) (fun ne => o_okN (fun w ew => ?_))
    rw [c2] at ne
    subst ew
    have ar : 0 ≤ q2.2 + 1 ∧ q2.2 + 1 ≤ ps ∧ a < q2.2 + 1 := by
      generalize q2.2 = e at *
      clear hI hT c1 c2 hv c
      refine ⟨?_, ?_, ?_⟩ <;> grind
    exact o_okS ⟨fun _ => ⟨⟨hv, ar.1, ar.2.1, c2⟩, o_muL ar.2.2⟩, fun e => absurd rfl e⟩
theorem s_MM_leads {n : Nat} {x1 : Int32} {M0 : SMT} {Na : SNA} {Nh : SNH} (hn : o_big ≤ n) (hI : I_MT M0) (hT : T_MT M0) (v0 : 0 ≤ x1) (v1 : x1 < MT_values M0) (vk : MT_kind M0 (gi x1) = 4) (hA : ANx M0 Na) : o_ok (m_MM_leads n x1 M0 Na Nh) (fun r => r.1 < 0 ∨ (0 ≤ r.1 ∧ r.1 < MT_values M0)) := by
  have i := sc_MT hI
  have gx := o_inV hI v0 v1
  obtain ⟨f1, f2, f3, f4⟩ := (hT x1 v0 v1).2.2.2.2.1 vk
  have no : ∀ H : SNH, o_ok (some ((-1:Int32), H)) (fun r => r.1 < 0 ∨ (0 ≤ r.1 ∧ r.1 < MT_values M0)) := fun H => o_okS (Or.inl (show (-1:Int32) < 0 by decide))
  have vp : 0 < MT_values M0 := Int32.lt_of_le_of_lt v0 v1
  unfold m_MM_leads
  refine o_okG gx (o_okN (fun m em => o_okG gx (o_okN (fun f ef => ?_))))
  have em : m = MT_many M0 (gi x1) := em
  have ef : f = MT_from M0 (gi x1) := ef
  have ar : 0 ≤ f ∧ (¬ m = 0 → f < 4000) ∧ (¬ m = 0 → ¬ m = 1 → 0 ≤ f + 1 ∧ f + 1 < 4000 ∧ 0 ≤ f + 2 ∧ f + 2 ≤ 4000 ∧ f + m ≤ 4000) ∧ (∀ k : Int32, ¬ m = 0 → ¬ m = 1 → 0 ≤ k → k < m - 1 → 0 ≤ f + 1 + k ∧ f + 1 + k < 4000 ∧ 0 ≤ k + 1 ∧ k < k + 1) := by
    have f1 : 0 ≤ f := by rw [ef]; exact f1
    have f2 : 0 ≤ m := by rw [em]; exact f2
    have f3 : f ≤ MT_used M0 := by rw [ef]; exact f3
    have f4 : m ≤ MT_used M0 - f := by rw [em, ef]; exact f4
    have u := i.2.2.2.2.2.2.2.1
    have u0 := i.2.2.2.2.2.2.1
    generalize MT_used M0 = uu at *
    clear hI hT i gx em ef no hA vk vp
    refine ⟨f1, fun h => ?_, fun h h2 => ⟨?_, ?_, ?_, ?_, ?_⟩, fun k h h2 k0 k1 => ⟨?_, ?_, ?_, ?_⟩⟩ <;> grind
  obtain ⟨r1, r2, r3, r4⟩ := ar
  refine o_okI (fun _ => no Nh) (fun c0 => ?_)
  refine o_okG (o_inM (m := 4000) rfl r1 (r2 c0)) (o_okI (fun _ => ?_) (fun _ => no Nh))
  refine o_okI (fun _ => o_okS (Or.inr ⟨show (0:Int32) ≤ 0 by decide, vp⟩)) (fun c1 => ?_)
  obtain ⟨s1, s2, s3, s4, s5⟩ := r3 c0 c1
  refine o_okG (o_inM (m := 4000) rfl s1 s2) (o_okI (fun _ => ?_) (fun _ => ?_))
  · refine o_okB (s_MM_decode hn s3 s4 s5) ?_
    intro q1 h1
    refine o_okI (fun _ => no _) (fun _ => ?_)
    have hz : LI M0 (NH_pathSize q1.2) ((0:Int32), (0:Int32), q1.2) := ⟨⟨show (0:Int32) ≤ 0 by decide, vp⟩, show (0:Int32) ≤ 0 by decide, h1.1, rfl⟩
    have hb : pmu ((0:Int32), (0:Int32), q1.2) < o_big := by unfold pmu; exact o_muB
    have st : ∀ z, LI M0 (NH_pathSize q1.2) z → o_ok (m_MM_leads_b217 n M0 Na z) (fun q => (q.1 = 0 → LI M0 (NH_pathSize q1.2) q.2 ∧ pmu q.2 < pmu z) ∧ (q.1 ≠ 0 → NH_pathSize q.2.2.2 = NH_pathSize q1.2 ∧ (q.1 ≠ 1 → 0 ≤ q.2.1 ∧ q.2.1 < MT_values M0))) := fun z hz => s_leads_b217 hn hI hT h1.2 hz
    generalize hf : m_MM_leads_b217 n M0 Na = ff at st ⊢
    refine o_okB (o_lpR (P := fun q => NH_pathSize q.2.2.2 = NH_pathSize q1.2 ∧ (q.1 ≠ 1 → 0 ≤ q.2.1 ∧ q.2.1 < MT_values M0)) (LI M0 (NH_pathSize q1.2)) pmu hn hb hz st) ?_
    intro q4 ⟨_, _, h4⟩
    refine o_okI (fun _ => no _) (fun ne => ?_)
    obtain ⟨w0, w1⟩ := h4 ne
    exact o_okG (o_inV hI w0 w1) (o_okI (fun _ => no _) (fun _ => o_okS (Or.inr ⟨w0, w1⟩)))
  · obtain ⟨K, hK⟩ : ∃ K : Nat, K = 1000 := ⟨1000, rfl⟩
    obtain ⟨a1, a2, a3⟩ := hA K hK
    refine o_okB (o_lpR (z := (0:Int32)) (P := fun q => q.1 = 1 → 0 ≤ q.2 ∧ q.2 < NA_anchors Na) (fun z : Int32 => 0 ≤ z) o_mu hn o_muB (show (0:Int32) ≤ 0 by decide) (fun z hz => ?_)) ?_
    · have hz : 0 ≤ z := hz
      unfold m_MM_leads_b66
      refine o_okI (fun _ => o_okS ⟨fun e => absurd e (Nat.succ_ne_zero 1), fun _ e => absurd (show (2:Nat) = 1 from e) (by decide)⟩) (fun c => ?_)
      have c : z < NA_anchors Na := Int32.not_le.mp c
      have ct := Int32.lt_iff_toInt_lt.mp c
      obtain ⟨p1, p2, p3⟩ := i32p (n := z) (by omega) hz
      obtain ⟨⟨w0, w1, w2⟩, _⟩ := a3 z hz c
      have gz : o_in z 1000 = true := o_inM (m := 1000) rfl hz (i32lt (k := 1000) rfl (by omega))
      have gw := o_inV hI w0 w1
      have j175 : ∀ b : Int32, o_ok (m_MM_leads_j175 n m f z b M0 Na Nh) (fun q => (q.1 = 0 → 0 ≤ q.2 ∧ o_mu q.2 < o_mu z) ∧ (q.1 ≠ 0 → (q.1 = 1 → 0 ≤ q.2 ∧ q.2 < NA_anchors Na))) := by
        intro b
        unfold m_MM_leads_j175
        refine o_okI (fun _ => o_okN (fun w ew => ?_)) (fun _ => o_okS ⟨fun e => absurd e (Nat.succ_ne_zero 0), fun _ _ => ⟨hz, c⟩⟩)
        subst ew
        exact o_okS ⟨fun _ => ⟨p2, o_muL p3⟩, fun e => absurd rfl e⟩
      obtain ⟨h1, h2, h3, h4⟩ := (hT _ w0 w1).2.2.2.2.1 w2
      have l106 : ∀ b : Int32, (b ≠ 0 → MT_many M0 (gi (NA_anchorValue Na (gi z))) = m - 1) → o_ok (o_lp n (m_MM_leads_b106 n m f z M0 Na Nh) (b, (0:Int32))) (fun q => q.1 ≠ 0 ∧ True) := by
        intro b hb
        refine o_lpR (z := (b, (0:Int32))) (P := fun _ => True) (fun y : Int32 × Int32 => (y.1 ≠ 0 → MT_many M0 (gi (NA_anchorValue Na (gi z))) = m - 1) ∧ 0 ≤ y.2) (fun y => o_mu y.2) hn o_muB ⟨hb, show (0:Int32) ≤ 0 by decide⟩ (fun y hy => ?_)
        obtain ⟨y1, y2⟩ := hy
        unfold m_MM_leads_b106
        refine o_okI (fun _ => o_okS ⟨fun e => absurd e (Nat.succ_ne_zero 0), fun _ => trivial⟩) (fun cc => ?_)
        have e4 := y1 cc
        refine o_okI (fun _ => o_okS ⟨fun e => absurd e (Nat.succ_ne_zero 0), fun _ => trivial⟩) (fun c2 => ?_)
        have c2 : y.2 < m - 1 := Int32.not_le.mp c2
        obtain ⟨t1, t2, t3, t4⟩ := r4 y.2 c0 c1 y2 c2
        have ar : ∀ f m u v : Int32, 0 ≤ f → f ≤ u → u ≤ 4000 → 0 ≤ u → m ≤ u - f → 0 ≤ v → v < m → 0 ≤ f + v ∧ f + v < 4000 := by
          intro f m u v h1 h2 h3 h4 h5 h6 h7
          constructor <;> grind
        obtain ⟨u1, u2⟩ := ar (MT_from M0 (gi (NA_anchorValue Na (gi z)))) _ _ y.2 h1 h3 i.2.2.2.2.2.2.2.1 i.2.2.2.2.2.2.1 h4 y2 (by show y.2 < MT_many M0 (gi (NA_anchorValue Na (gi z))); rw [e4]; exact c2)
        have gc : o_in (MT_from M0 (gi (NA_anchorValue Na (gi z))) + y.2) 4000 = true := o_inM (m := 4000) rfl u1 u2
        have gd : o_in (f + 1 + y.2) 4000 = true := o_inM (m := 4000) rfl t1 t2
        refine o_okG gz (o_okG gw (o_okG gc (o_okG gd (o_okI (fun _ => o_okN (fun w ew => ?_)) (fun _ => o_okN (fun w ew => ?_))))))
        · subst ew
          exact o_okS ⟨fun _ => ⟨⟨fun _ => e4, t3⟩, o_muL t4⟩, fun e => absurd rfl e⟩
        · subst ew
          exact o_okS ⟨fun _ => ⟨⟨fun _ => e4, t3⟩, o_muL t4⟩, fun e => absurd rfl e⟩
      refine o_okG gz (o_okG gw (o_okI (fun e => ?_) (fun _ => ?_)))
      · exact o_okB (l106 1 (fun _ => e)) (fun q _ => j175 _)
      · exact o_okB (l106 0 (fun e => absurd rfl e)) (fun q _ => j175 _)
    · intro q7 ⟨_, h7⟩
      refine o_okI (fun e => ?_) (fun _ => no Nh)
      obtain ⟨w0, w1⟩ := h7 e
      have ct := Int32.lt_iff_toInt_lt.mp w1
      exact o_okG (o_inM (m := 1000) rfl w0 (i32lt (k := 1000) rfl (by omega))) (o_okS (Or.inr (a3 _ w0 w1).2))
