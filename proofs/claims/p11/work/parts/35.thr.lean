theorem s_turn {n : Nat} {x : SNX} (hn : o_big ≤ n) : o_ok (m_MM_turn n x) (fun r => NX_now r = NX_now x) := by
  unfold m_MM_turn
  refine o_okI (fun _ => ?_) (fun _ => o_okS rfl)
  refine o_okB (o_lpR (P := fun q => NX_now q.2.2 = NX_now x) (fun z : Int32 × SNX => 0 ≤ z.1 ∧ NX_now z.2 = NX_now x) (fun z => o_mu z.1) hn o_muB ⟨show (0:Int32) ≤ 0 by decide, rfl⟩ (fun z hz => ?_)) ?_
  · unfold m_MM_turn_b12
    refine o_okI (fun _ => o_okS ⟨fun e => absurd e (Nat.succ_ne_zero 0), fun _ => hz.2⟩) (fun c => ?_)
    have c : z.1 < 25000 := Int32.not_le.mp c
    have h0 := hz.1
    refine o_okG (o_inM (m := 25000) rfl hz.1 c) (o_okN (fun w ew => o_okS ⟨fun _ => ⟨⟨?_, hz.2⟩, ?_⟩, fun e => absurd rfl e⟩))
    · show 0 ≤ w
      rw [ew]; grind
    · show o_mu w < o_mu z.1
      refine o_muL ?_
      rw [ew]; grind
  · intro q hq
    exact o_okS hq.2
theorem s_has_1 {n : Nat} {x1 x2 : Int32} {s : SNP} (hn : o_big ≤ n) (hI : I_NP s) (h0 : 0 ≤ x1) (h1 : x1 < 8000) : o_ok (m_MM_has_1 n x1 x2 s) (fun _ => True) := by
  have g : o_in x1 8000 = true := o_inM (m := 8000) rfl h0 h1
  have f1 := hI.2.2.2.2.2.2.2.2.2.1 x1.toNatClampNeg
  have f2 := hI.2.2.2.2.2.2.2.2.2.2 x1.toNatClampNeg
  unfold m_MM_has_1
  refine o_okG g (o_okN (fun k ek => ?_))
  refine o_okB (o_lpR (P := fun _ => True) (fun z : Int32 × Int32 => 0 ≤ z.2) (fun z => o_mu z.2) hn o_muB (by show 0 ≤ k; rw [ek]; exact f1.1) (fun z hz => ?_)) ?_
  · unfold m_MM_has_1_b10
    refine o_okG g (o_okI (fun _ => o_okS ⟨fun e => absurd e (Nat.succ_ne_zero 0), fun _ => trivial⟩) (fun c => ?_))
    have hlt : z.2 < 48000 := Int32.lt_of_lt_of_le (Int32.not_le.mp c) f2.2
    have gz : o_in z.2 48000 = true := o_inM (m := 48000) rfl hz hlt
    have go : ∀ (b w : Int32), w = z.2 + 1 → ((0, b, w) : Nat × Int32 × Int32).1 = 0 → 0 ≤ w ∧ o_mu w < o_mu z.2 := by
      intro b w ew _
      have p1 : 0 ≤ z.2 + 1 ∧ z.2 < z.2 + 1 := by clear hI f1 f2 c ew; constructor <;> grind
      rw [ew]
      exact ⟨p1.1, o_muL p1.2⟩
    refine o_okI (fun _ => o_okG gz (o_okI (fun _ => o_okN (fun w ew => o_okS ⟨go 0 w ew, fun e => absurd rfl e⟩)) (fun _ => o_okG gz (o_okI (fun _ => o_okN (fun w ew => o_okS ⟨go 0 w ew, fun e => absurd rfl e⟩)) (fun _ => o_okN (fun w ew => o_okS ⟨go 1 w ew, fun e => absurd rfl e⟩)))))) (fun _ => o_okS ⟨fun e => absurd e (Nat.succ_ne_zero 0), fun _ => trivial⟩)
  · intro q _
    unfold m_MM_has_1_j59
    exact o_okG g (o_okI (fun _ => o_okS trivial) (fun _ => o_okS trivial))
theorem TX_zero {K : Nat} (hK : K = 25000) {o : SNO} {l f : Nat → Int32} {r : Int32} : TX K o l f r 0 := by
  have u := ucn_le (f := f) (r := r) K
  have z0 : (0 : Int32).toInt = 0 := rfl
  exact ⟨by decide, by rw [z0]; omega, fun i i0 hi => absurd (Int32.lt_of_le_of_lt i0 hi) (by decide)⟩
theorem s_b110 {K : Nat} {n : Nat} {x2 x3 x4 x5 x6 : Int32} {a1 : SMT} {Np : SNP} {o : SNO} {x : SNX} {nw : Nat → Int32} (hK : K = 25000) (hn : o_big ≤ n) (hP : PRG o) (hI : I_NP Np) (h4 : x4.toInt ≤ 25000) (hl : ∀ i : Int32, 0 ≤ i → i < x4 → SETK o (nw (gi i))) (hx : RE2 K o nw x) :
    o_ok (o_lp n (m_MM_matches_b110 n x2 x3 x4 x5 x6 a1 Np o) (0, x)) (fun q => q.1 ≠ 0 ∧ RE2 K o nw q.2.2) := by
  refine o_lpR (z := ((0:Int32), x)) (P := fun q => RE2 K o nw q.2.2) (fun z : Int32 × SNX => 0 ≤ z.1 ∧ RE2 K o nw z.2) (fun z => o_mu z.1) hn o_muB ⟨show (0:Int32) ≤ 0 by decide, hx⟩ (fun z hz => ?_)
  obtain ⟨z0, zx⟩ := hz
  have zw := zx.1
  unfold m_MM_matches_b110
  refine o_okI (fun _ => o_okS ⟨fun e => absurd e (Nat.succ_ne_zero 1), fun _ => zx⟩) (fun c => ?_)
  have c : z.1 < x4 := Int32.not_le.mp c
  have ct := Int32.lt_iff_toInt_lt.mp c
  obtain ⟨p1, p2, p3⟩ := i32p (n := z.1) (by omega) z0
  have gz : o_in z.1 25000 = true := o_inM (m := 25000) rfl z0 (i32lt (k := 25000) rfl (by omega))
  obtain ⟨k0, k1, k2, k3⟩ := hl z.1 z0 c
  rw [zw]
  have ks : nw (gi z.1) < NO_steps o := hl_ar hP.1 hP.2.1 (Int32.le_of_lt k1)
  have ks1 : 0 ≤ nw (gi z.1) + 1 ∧ nw (gi z.1) + 1 < NO_steps o := kp_ar hP.1 hP.2.1 k0 k1
  have gk : o_in (nw (gi z.1)) 25000 = true := o_inM (m := 25000) rfl k0 (Int32.lt_of_lt_of_le ks (Int32.le_trans hP.2.1 (by decide)))
  refine o_okG gz (o_okG gk ?_)
  refine o_okB (s_has_1 hn hI k2 k3) ?_
  intro q3 _
  refine o_okI (fun _ => ?_) (fun _ => ?_)
  · refine o_okN (fun w ew => o_okS ⟨fun _ => ⟨⟨?_, zx⟩, ?_⟩, fun e => absurd rfl e⟩)
    · show 0 ≤ w
      rw [ew]; exact p2
    · show o_mu w < o_mu z.1
      rw [ew]; exact o_muL p3
  have tail : ∀ y4 : Int32, o_ok (m_MM_matches_j166 n x2 x3 x4 x5 x6 z.1 (nw (gi z.1) + 1) 0 y4 a1 Np o z.2) (fun q => (q.1 = 0 → (0 ≤ q.2.1 ∧ RE2 K o nw q.2.2) ∧ o_mu q.2.1 < o_mu z.1) ∧ (q.1 ≠ 0 → RE2 K o nw q.2.2)) := by
    intro y4
    unfold m_MM_matches_j166
    refine o_okB (s_thread_then hK hn hP ks1.1 ks1.2 zx) ?_
    intro q4 t1
    refine o_okI (fun _ => ?_) (fun _ => o_okS ⟨fun e => absurd e (Nat.succ_ne_zero 0), fun _ => t1⟩)
    refine o_okN (fun w ew => o_okS ⟨fun _ => ⟨⟨?_, t1⟩, ?_⟩, fun e => absurd rfl e⟩)
    · show 0 ≤ w
      rw [ew]; exact p2
    · show o_mu w < o_mu z.1
      rw [ew]; exact o_muL p3
  exact o_okG gz (o_okI (fun _ => tail 1) (fun _ => tail 0))
def MI (K : Nat) (o : SNO) (z : Int32 × SNX) : Prop := 0 ≤ z.1 ∧ (z.1 ≠ 0 → QE K o z.2)
def mmu (z : Int32 × SNX) : Nat := o_mu z.1
theorem mmuB {z : Int32 × SNX} : mmu z < o_big := by
  unfold mmu
  exact o_muB
def CI (K : Nat) (o : SNO) (z : Int32 × SNX) : Prop := 0 ≤ z.1 ∧ TX K o (NX_then z.2) (NX_mark z.2) (NX_round z.2) (NX_many1 z.2) ∧ ∀ i : Int32, 0 ≤ i → i < z.1 → i < NX_many1 z.2 → SETK o (NX_now z.2 (gi i))
theorem b183_st {K n : Nat} {x2 x3 x5 : Int32} {a1 : SMT} {Np : SNP} {o : SNO} (z : Int32 × SNX) (hz : CI K o z) : o_ok (m_MM_matches_b183 n x2 x3 x5 a1 Np o z) (fun q => (q.1 = 0 → CI K o q.2 ∧ mmu q.2 < mmu z) ∧ (q.1 ≠ 0 → QPn K o q)) := by
  obtain ⟨z0, zx, zw⟩ := hz
  obtain ⟨t1, t2, t3⟩ := zx
  unfold m_MM_matches_b183
  refine o_okI (fun c => o_okS ⟨fun e => absurd e (Nat.succ_ne_zero 0), fun _ => ⟨t1, t2, fun i i0 hi => zw i i0 (Int32.lt_of_lt_of_le hi c) hi⟩⟩) (fun c => ?_)
  have c : z.1 < NX_many1 z.2 := Int32.not_le.mp c
  have ct := Int32.lt_iff_toInt_lt.mp c
  obtain ⟨p1, p2, p3⟩ := i32p (n := z.1) (by omega) z0
  have gz : o_in z.1 25000 = true := o_inM (m := 25000) rfl z0 (i32lt (k := 25000) rfl (by omega))
  refine o_okG gz (o_okG gz (o_okN (fun w ew => ?_)))
  have w0 : 0 ≤ w := by rw [ew]; exact p2
  have wm : o_mu w < o_mu z.1 := by rw [ew]; exact o_muL p3
  have hs : ∀ i : Int32, 0 ≤ i → i < w → i < NX_many1 z.2 → SETK o (upd (NX_now z.2) (gi z.1) (NX_then z.2 (gi z.1)) (gi i)) := by
    intro i i0 hi hm
    by_cases e : i = z.1
    · rw [e, o_updE]; exact t3 z.1 z0 c
    · rw [o_updN (o_neq i0 z0 e)]
      refine zw i i0 ?_ hm
      rw [ew] at hi
      have h1 := Int32.lt_iff_toInt_lt.mp hi
      rw [Int32.lt_iff_toInt_lt]
      have : i.toInt ≠ z.1.toInt := fun z => e (Int32.toInt_inj.mp z)
      omega
  exact o_okS ⟨fun _ => ⟨⟨w0, ⟨t1, t2, t3⟩, hs⟩, wm⟩, fun e => absurd rfl e⟩
theorem s_b183 {K n : Nat} {x2 x3 x5 : Int32} {a1 : SMT} {Np : SNP} {o : SNO} {x : SNX} {nw : Nat → Int32} (hn : o_big ≤ n) (hx : RE2 K o nw x) :
    o_ok (o_lp n (m_MM_matches_b183 n x2 x3 x5 a1 Np o) (0, x)) (fun q => q.1 ≠ 0 ∧ QPn K o q) := by
  have h0 : CI K o ((0:Int32), x) := ⟨show (0:Int32) ≤ 0 by decide, hx.2, fun i i0 hi => absurd (Int32.lt_of_le_of_lt i0 hi) (show ¬ (0:Int32) < 0 by decide)⟩
  have hb : mmu ((0:Int32), x) < o_big := mmuB
  have st := b183_st (K := K) (n := n) (x2 := x2) (x3 := x3) (x5 := x5) (a1 := a1) (Np := Np) (o := o)
  generalize hf : m_MM_matches_b183 n x2 x3 x5 a1 Np o = f at st ⊢
  exact o_lpR (CI K o) mmu hn hb h0 st
theorem fx_ar {f n k : Int32} (f0 : 0 ≤ f) (f1 : f ≤ 4000) (f2 : n ≤ 4000 - f) (k0 : 0 ≤ k) (k1 : k ≤ n) (c : ¬ k = n) : 0 ≤ f + k ∧ f + k < 4000 ∧ 0 ≤ k + 1 ∧ k < k + 1 := by
  refine ⟨?_, ?_, ?_, ?_⟩ <;> grind
theorem s_j60 {K : Nat} {n : Nat} {x2 x3 x5 y3 y4 : Int32} {a1 : SMT} {Np : SNP} {o : SNO} {x z2 : SNX} (hK : K = 25000) (hn : o_big ≤ n) (hP : PRG o) (hI : I_NP Np) (hT : I_MT a1) (h0 : 0 ≤ x2) (h1 : x2 < MT_values a1) (f0 : 0 ≤ MT_from a1 (gi x2)) (f1 : MT_from a1 (gi x2) ≤ 4000) (f2 : x3 ≤ 4000 - MT_from a1 (gi x2)) (k0 : 0 ≤ x5) (k1 : x5 ≤ x3) (hx : QE K o x) :
    o_ok (m_MM_matches_j60 n x2 x3 x5 0 y3 y4 a1 Np o x) (fun q => (q.1 = 0 → MI K o q.2 ∧ mmu q.2 < mmu (x5, z2)) ∧ (q.1 ≠ 0 → True)) := by
  unfold m_MM_matches_j60
  refine o_okB (s_thread_now hK hn hP (by decide) (Int32.lt_of_lt_of_le (by decide) hP.1) hx) ?_
  intro q1 t1
  refine o_okI (fun _ => ?_) (fun _ => o_okS ⟨fun e => absurd e (Nat.succ_ne_zero 0), fun _ => trivial⟩)
  refine o_okN (fun m em => ?_)
  refine o_okI (fun _ => o_okS ⟨fun e => absurd e (Nat.succ_ne_zero 1), fun _ => trivial⟩) (fun c => ?_)
  have gi2 : o_in x2 1000 = true := o_inV hT h0 h1
  have gc : o_in (MT_from a1 (gi x2) + x5) 4000 = true := by
    refine o_inM (m := 4000) rfl ?_ ?_
    · exact (fx_ar f0 f1 f2 k0 k1 c).1
    · exact (fx_ar f0 f1 f2 k0 k1 c).2.1
  refine o_okG gi2 (o_okG gc (o_okN (fun ch ec => ?_)))
  refine o_okB (s_turn hn) ?_
  intro q2 e2
  have hm := t1.2.1
  refine o_okB (s_b110 (nw := NX_now q1.2) hK hn hP hI (by rw [em]; omega) (by rw [em]; exact t1.2.2) ⟨e2, TX_zero hK⟩) ?_
  intro q5 ⟨_, h5⟩
  refine o_okI (fun _ => o_okS ⟨fun e => absurd e (Nat.succ_ne_zero 2), fun _ => trivial⟩) (fun _ => ?_)
  refine o_okB (s_b183 hn h5) ?_
  intro q6 ⟨_, h6⟩
  have p5 : 0 ≤ x5 + 1 ∧ x5 < x5 + 1 := (fx_ar f0 f1 f2 k0 k1 c).2.2
  refine o_okN (fun w ew => o_okS ⟨fun _ => ⟨⟨?_, fun _ => h6⟩, ?_⟩, fun e => absurd rfl e⟩)
  · show 0 ≤ w
    rw [ew]; exact p5.1
  · show o_mu w < o_mu x5
    rw [ew]; exact o_muL p5.2
theorem s_MM_matches {n : Nat} {x2 : Int32} {a1 : SMT} {Np : SNP} {o : SNO} {x : SNX} (hn : o_big ≤ n) (hP : PRG o) (hI : I_NP Np) (hT : I_MT a1) (hT2 : T_MT a1) (h0 : 0 ≤ x2) (h1 : x2 < MT_values a1) (hk : MT_kind a1 (gi x2) = 4) : o_ok (m_MM_matches n x2 a1 Np o x) (fun r => r.1 = 0 ∨ r.1 = 1) := by
  obtain ⟨K, hK⟩ : ∃ K : Nat, K = 25000 := ⟨25000, rfl⟩
  obtain ⟨f1, f2, f3, f4⟩ := (hT2 x2 h0 h1).2.2.2.2.1 hk
  have i := sc_MT hT
  have f0 : 0 ≤ MT_from a1 (gi x2) := f1
  have f5 : MT_from a1 (gi x2) ≤ 4000 := Int32.le_trans f3 i.2.2.2.2.2.2.2.1
  have f6 : MT_many a1 (gi x2) ≤ 4000 - MT_from a1 (gi x2) := by
    have f4 : MT_many a1 (gi x2) ≤ MT_used a1 - MT_from a1 (gi x2) := f4
    have f3 : MT_from a1 (gi x2) ≤ MT_used a1 := f3
    have u := i.2.2.2.2.2.2.2.1
    have u0 := i.2.2.2.2.2.2.1
    clear hP hI hT hT2 i hK
    generalize MT_from a1 (gi x2) = f at *
    generalize MT_many a1 (gi x2) = m at *
    grind
  unfold m_MM_matches
  refine o_okG (o_inV hT h0 h1) (o_okN (fun m em => ?_))
  have em : m = MT_many a1 (gi x2) := em
  rw [← em] at f6
  refine o_okB (o_lpR (P := fun _ => True) (MI K o) mmu hn mmuB (show MI K o (0, x) from ⟨show (0:Int32) ≤ 0 by decide, fun e => absurd rfl e⟩) (fun z hz => ?_)) ?_
  · obtain ⟨z0, zx⟩ := hz
    unfold m_MM_matches_b13
    refine o_okI (fun _ => o_okS ⟨fun e => absurd e (Nat.succ_ne_zero 3), fun _ => trivial⟩) (fun c => ?_)
    have c : z.1 ≤ m := Int32.not_lt.mp c
    have j49 : ∀ (y3 : Int32) (w : SNX), QE K o w → o_ok (m_MM_matches_j49 n x2 m z.1 0 y3 a1 Np o w) (fun q => (q.1 = 0 → MI K o q.2 ∧ mmu q.2 < mmu z) ∧ (q.1 ≠ 0 → True)) := by
      intro y3 w hw
      unfold m_MM_matches_j49
      exact o_okI (fun _ => s_j60 hK hn hP hI hT h0 h1 f0 f5 f6 z0 c hw) (fun _ => s_j60 hK hn hP hI hT h0 h1 f0 f5 f6 z0 c hw)
    have j33 : ∀ w : SNX, QE K o w → o_ok (m_MM_matches_j33 n x2 m z.1 a1 Np o w) (fun q => (q.1 = 0 → MI K o q.2 ∧ mmu q.2 < mmu z) ∧ (q.1 ≠ 0 → True)) := by
      intro w hw
      unfold m_MM_matches_j33
      exact o_okI (fun _ => j49 1 w hw) (fun _ => j49 0 w hw)
    refine o_okI (fun _ => ?_) (fun c2 => j33 _ (zx c2))
    refine o_okB (s_turn hn) ?_
    intro q7 _
    exact j33 _ (show QE K o _ from TX_zero hK)
  · intro q8 _
    exact o_okI (fun _ => o_okS (Or.inr rfl)) (fun _ => o_okI (fun _ => o_okS (Or.inl rfl)) (fun _ => o_okI (fun _ => o_okS (Or.inr rfl)) (fun _ => o_okS (Or.inl rfl))))
