/-! Long division: the whole -/
theorem LF_back {a b c : SMT} (h : LF a b) (g : LF b c) : LF a c := LF_trans h g
theorem s_150 {n : Nat} {x1 x3 x4 x5 x6 : Int32} {a0 a2 : SMT} {X F : Nat} (h : MC n a2 x3 x5 X F) : ∀ (t N : Nat) (z : SMT), t < N → LF a0 z → dg9 (lv z) X → Sm (lv z) X (X + 1) < (t:Int) * Sm (ed a2 F) X (X + 1) → o_ok (o_lp N (m_MT_isMultiple_b150 n x1 x3 x4 x5 x6 a2) z) (fun q => LF a0 q.2 ∧ dg9 (lv q.2) X ∧ Sm (lv q.2) X (X + 1) < Sm (ed a2 F) X (X + 1)) := by
  intro t
  induction t with
  | zero =>
    intro N z _ _ hz hl
    have b := (Sm_bd hz (X + 1)).1
    exfalso
    have e : ((0:Nat):Int) * Sm (ed a2 F) X (X + 1) = 0 := Int.zero_mul _
    rw [e] at hl
    omega
  | succ t ih =>
    intro N z hN hL hz hl
    cases N with
    | zero => exact absurd hN (Nat.not_lt_zero _)
    | succ N =>
      show o_ok (o_bd (m_MT_isMultiple_b150 n x1 x3 x4 x5 x6 a2 z) fun q => if q.1 = 0 then o_lp N (m_MT_isMultiple_b150 n x1 x3 x4 x5 x6 a2) q.2 else some q) _
      refine o_okB (Q := fun q => (q.1 = 0 → LF a0 q.2 ∧ dg9 (lv q.2) X ∧ Sm (lv q.2) X (X + 1) < (t:Int) * Sm (ed a2 F) X (X + 1)) ∧ (q.1 ≠ 0 → LF a0 q.2 ∧ dg9 (lv q.2) X ∧ Sm (lv q.2) X (X + 1) < Sm (ed a2 F) X (X + 1))) ?_ ?_
      · unfold m_MT_isMultiple_b150
        refine o_okB (s_reaches h hz) ?_
        intro q3 ⟨r1, r0⟩
        refine o_okI (fun e => o_okS ⟨fun e => absurd e (Nat.succ_ne_zero 0), fun _ => ⟨hL, hz, r0 e⟩⟩) (fun ne => ?_)
        refine o_okB (s_sub h hz) ?_
        intro q4 ⟨_, s1, s2, s3⟩
        refine o_okS ⟨fun _ => ⟨LF_trans hL s1, s2, ?_⟩, fun e => absurd rfl e⟩
        show Sm (lv q4.2.2.2) X (X + 1) < _
        rw [s3 (r1 ne)]
        have e : ((t + 1 : Nat) : Int) = (t:Int) + 1 := rfl
        rw [e, Int.add_mul, Int.one_mul] at hl
        omega
      · intro q ⟨q0, q1⟩
        refine o_okI (fun e => ?_) (fun ne => o_okS (q1 ne))
        obtain ⟨a, b, c⟩ := q0 e
        exact ih N q.2 (Nat.lt_of_succ_lt_succ hN) a b c
def ZI (a0 : SMT) (X : Nat) (z : Int32 × SMT) : Prop := ∃ k : Nat, z.1.toInt = (k:Int) ∧ k ≤ X + 1 ∧ LF a0 z.2 ∧ ∀ j, j < k → lv z.2 j = 0
theorem s_44 {n : Nat} {x1 x3 x4 x5 : Int32} {a0 a2 : SMT} {X F : Nat} (h : MC n a2 x3 x5 X F) : o_ok (o_lp n (m_MT_isMultiple_b44 n x1 x3 x4 x5 a2) ((0:Int32), a0)) (fun q => q.1 ≠ 0 ∧ LF a0 q.2.2 ∧ ∀ j, j ≤ X → lv q.2.2 j = 0) := by
  obtain ⟨hn, g3, hX, hX6, hF, hFX, hb⟩ := h
  refine o_lpR (ZI a0 X) (fun z => o_mu z.1) hn o_muB ⟨0, rfl, Nat.zero_le _, LF_rfl, fun j hj => absurd hj (Nat.not_lt_zero j)⟩ ?_
  intro z ⟨k, k1, k2, k3, k4⟩
  unfold m_MT_isMultiple_b44
  refine o_okI (fun c => o_okS ⟨fun e => absurd e (Nat.succ_ne_zero 0), fun _ => ⟨k3, fun j hj => k4 j ?_⟩⟩) (fun c => ?_)
  · have c := Int32.lt_iff_toInt_lt.mp c
    omega
  · have c := Int32.le_iff_toInt_le.mp (Int32.not_lt.mp c)
    have kX : k ≤ X := by omega
    have w1 := tI1 k1 (by omega)
    have lu : z.1 < z.1 + 1 := Int32.lt_iff_toInt_lt.mpr (by omega)
    refine o_okG (in_of k1 (by omega)) (o_okN (fun u eu => o_okS ⟨fun _ => ⟨⟨k + 1, by show u.toInt = _; rw [eu]; exact w1, Nat.succ_le_succ kX, LF_upd k3, ?_⟩, by show o_mu u < _; rw [eu]; exact o_muL lu⟩, fun e => absurd rfl e⟩))
    intro j hj
    show (upd (MT_left z.2) (gi z.1) 0 j).toInt = 0
    by_cases ej : j = gi z.1
    · rw [ej, o_updE]; rfl
    · rw [o_updN ej]
      rw [gi_of k1] at ej
      exact k4 j (by omega)
def HI (s0 : SMT) (X : Nat) (z : Int32 × SMT) : Prop := ∃ k : Nat, z.1.toInt = (k:Int) ∧ k ≤ X ∧ LF s0 z.2 ∧ (∀ j, j < k → lv z.2 j = lv s0 (j + 1)) ∧ (∀ j, k ≤ j → lv z.2 j = lv s0 j)
theorem s_85 {n : Nat} {x1 x3 x4 x5 x6 : Int32} {s0 a2 : SMT} {X F : Nat} (h : MC n a2 x3 x5 X F) : o_ok (o_lp n (m_MT_isMultiple_b85 n x1 x3 x4 x5 x6 a2) ((0:Int32), s0)) (fun q => q.1 ≠ 0 ∧ LF s0 q.2.2 ∧ ∀ j, j < X → lv q.2.2 j = lv s0 (j + 1)) := by
  obtain ⟨hn, g3, hX, hX6, hF, hFX, hb⟩ := h
  refine o_lpR (HI s0 X) (fun z => o_mu z.1) hn o_muB ⟨0, rfl, Nat.zero_le _, LF_rfl, fun j hj => absurd hj (Nat.not_lt_zero j), fun _ _ => rfl⟩ ?_
  intro z ⟨k, k1, k2, k3, k4, k5⟩
  unfold m_MT_isMultiple_b85
  refine o_okI (fun c => o_okS ⟨fun e => absurd e (Nat.succ_ne_zero 0), fun _ => ⟨k3, fun j hj => k4 j ?_⟩⟩) (fun c => ?_)
  · have c := Int32.le_iff_toInt_le.mp c
    omega
  · have c := Int32.lt_iff_toInt_lt.mp (Int32.not_le.mp c)
    have kX : k < X := by omega
    have w1 := tI1 k1 (by omega)
    have lu : z.1 < z.1 + 1 := Int32.lt_iff_toInt_lt.mpr (by omega)
    refine o_okG (in_of w1 (by omega)) (o_okG (in_of k1 (by omega)) (o_okN (fun u eu => o_okS ⟨fun _ => ⟨⟨k + 1, by show u.toInt = _; rw [eu]; exact w1, kX, LF_upd k3, ?_, ?_⟩, by show o_mu u < _; rw [eu]; exact o_muL lu⟩, fun e => absurd rfl e⟩)))
    · intro j hj
      show (upd (MT_left z.2) (gi z.1) (MT_left z.2 (gi (z.1 + 1))) j).toInt = _
      by_cases ej : j = gi z.1
      · rw [ej, o_updE, gi_of w1, gi_of k1]
        exact k5 (k + 1) (Nat.le_succ k)
      · rw [o_updN ej]
        rw [gi_of k1] at ej
        exact k4 j (by omega)
    · intro j hj
      show (upd (MT_left z.2) (gi z.1) (MT_left z.2 (gi (z.1 + 1))) j).toInt = _
      rw [o_updN (by rw [gi_of k1]; omega)]
      exact k5 j (by omega)
def DIm (a0 : SMT) (E : Int) (X : Nat) (z : Int32 × SMT) : Prop := (0 ≤ z.1.toInt ∧ z.1.toInt ≤ 7000000) ∧ LF a0 z.2 ∧ dg9 (lv z.2) X ∧ Sm (lv z.2) X (X + 1) < E
theorem LF_from {a b : SMT} (h : LF a b) : MT_from b = MT_from a := by
  obtain ⟨l, rfl⟩ := h
  rfl
theorem LF_digits {a b : SMT} (h : LF a b) : MT_digits b = MT_digits a := by
  obtain ⟨l, rfl⟩ := h
  rfl
/-- a digit drawn in -/
theorem s_68b {n : Nat} {x1 x3 x4 x5 x6 d : Int32} {a0 a2 s0 s : SMT} {X F : Nat} (h : MC n a2 x3 x5 X F) (hn10 : 10 < n) (hL0 : LF a0 s0) (h0 : dg9 (lv s0) X) (hl : Sm (lv s0) X (X + 1) < Sm (ed a2 F) X (X + 1)) (hL : LF s0 s) (hs : ∀ j, j < X → lv s j = lv s0 (j + 1)) (d0 : 0 ≤ d.toInt) (d9 : d.toInt ≤ 9) : o_ok (o_lp n (m_MT_isMultiple_b150 n x1 x3 x4 x5 x6 a2) (MT_mk (MT_text s) (MT_kind s) (MT_place s) (MT_many s) (MT_parent s) (MT_power s) (MT_first s) (MT_next s) (MT_name s) (MT_from s) (MT_characters s) (MT_digits s) (MT_minus s) (MT_values s) (MT_letters s) (MT_at s) (MT_wrong s) (MT_used s) (MT_written s) (upd (MT_left s) (gi x5) d))) (fun q => LF a0 q.2 ∧ dg9 (lv q.2) X ∧ Sm (lv q.2) X (X + 1) < Sm (ed a2 F) X (X + 1)) := by
  have hX := h.2.2.1
  obtain ⟨t, et⟩ : ∃ t : SMT, t = MT_mk (MT_text s) (MT_kind s) (MT_place s) (MT_many s) (MT_parent s) (MT_power s) (MT_first s) (MT_next s) (MT_name s) (MT_from s) (MT_characters s) (MT_digits s) (MT_minus s) (MT_values s) (MT_letters s) (MT_at s) (MT_wrong s) (MT_used s) (MT_written s) (upd (MT_left s) (gi x5) d) := ⟨_, rfl⟩
  have ht : LF a0 t := by
    rw [et]
    exact LF_upd (LF_trans hL0 hL)
  have tX : lv t X = d.toInt := by
    rw [et]
    show (upd (MT_left s) (gi x5) d X).toInt = _
    rw [gi_of hX, o_updE]
  have tj : ∀ j, j < X → lv t j = lv s0 (j + 1) := by
    intro j hj
    rw [et]
    show (upd (MT_left s) (gi x5) d j).toInt = _
    rw [o_updN (by rw [gi_of hX]; omega)]
    exact hs j hj
  rw [← et]
  clear et
  refine s_150 h 10 n t hn10 ht ?_ ?_
  · intro j hj
    by_cases ej : j = X
    · rw [ej, tX]; exact ⟨d0, d9⟩
    · rw [tj j (by omega)]; exact h0 (j + 1) (by omega)
  · exact Sm_next h0 tX d9 tj hl
theorem s_68 {n : Nat} {x1 x3 x4 x5 : Int32} {a0 a1 a2 : SMT} {X F K G : Nat} (h : MC n a2 x3 x5 X F) (hn10 : 10 < n) (g1 : o_in x1 1000 = true) (hm : (MT_many a0 (gi x1)).toInt = (K:Int)) (hK : K ≤ 60) (hf : (MT_from a0 (gi x1)).toInt = (G:Int)) (hG : G + K ≤ 8192) (hb0 : o_bn 0 9 (MT_digits a0)) (h4 : 0 ≤ x4.toInt ∧ x4.toInt ≤ 6000000) (hL : LF a0 a1) (hd : dg9 (lv a1) X) (hl : Sm (lv a1) X (X + 1) < Sm (ed a2 F) X (X + 1)) : o_ok (o_lp n (m_MT_isMultiple_b68 n x1 x3 x4 x5 a2) ((0:Int32), a1)) (fun q => q.1 ≠ 0 ∧ LF a0 q.2.2) := by
  have hX := h.2.2.1
  have hX6 := h.2.2.2.1
  have g5 := in_of hX (show X < 80 by omega)
  have z0 : (0:Int32).toInt = 0 := rfl
  refine o_lpR (DIm a0 (Sm (ed a2 F) X (X + 1)) X) (fun z => o_mu z.1) h.1 o_muB ⟨⟨Int.le_refl _, show (0:Int32).toInt ≤ 7000000 by decide⟩, hL, hd, hl⟩ ?_
  intro z ⟨⟨y0, y1⟩, zL, zd, zl⟩
  have em : MT_many z.2 (gi x1) = MT_many a0 (gi x1) := congrFun (LF_many zL) _
  have sx : (MT_many a0 (gi x1) + x4).toInt = K + x4.toInt := by
    have e := i32a (a := MT_many a0 (gi x1)) (b := x4) (by omega) (by omega)
    rw [e, hm]
  unfold m_MT_isMultiple_b68
  refine o_okG g1 (o_okI (fun _ => o_okS ⟨fun e => absurd e (Nat.succ_ne_zero 0), fun _ => zL⟩) (fun c => ?_))
  have c : z.1.toInt < (MT_many z.2 (gi x1) + x4).toInt := Int32.lt_iff_toInt_lt.mp (Int32.not_le.mp c)
  rw [em, sx] at c
  obtain ⟨k, hk⟩ : ∃ k : Nat, z.1.toInt = (k:Int) := ⟨z.1.toInt.toNat, by omega⟩
  have w1 := tI1 hk (by omega)
  have lu : z.1 < z.1 + 1 := Int32.lt_iff_toInt_lt.mpr (by omega)
  have wb : 0 ≤ (z.1 + 1).toInt ∧ (z.1 + 1).toInt ≤ 7000000 := by omega
  refine o_okB (s_85 h) ?_
  intro q2 ⟨_, hL2, hs⟩
  have aL := LF_trans zL hL2
  have em2 : MT_many q2.2.2 (gi x1) = MT_many a0 (gi x1) := congrFun (LF_many aL) _
  have ef2 : MT_from q2.2.2 (gi x1) = MT_from a0 (gi x1) := congrFun (LF_from aL) _
  refine o_okG g1 (o_okI (fun _ => o_okG g5 ?_) (fun c2 => ?_))
  · refine o_okB (s_68b h hn10 zL zd zl hL2 hs (d := 0) (by rw [z0]; omega) (by rw [z0]; omega)) ?_
    intro q ⟨r1, r2, r3⟩
    exact o_okN (fun u eu => o_okS ⟨fun _ => ⟨⟨by show 0 ≤ u.toInt ∧ _; rw [eu]; exact wb, r1, r2, r3⟩, by show o_mu u < _; rw [eu]; exact o_muL lu⟩, fun e => absurd rfl e⟩)
  · have c2 : z.1.toInt < (MT_many q2.2.2 (gi x1)).toInt := Int32.lt_iff_toInt_lt.mp (Int32.not_le.mp c2)
    rw [em2] at c2
    have f1 := tIa hf hk (by omega)
    have gf : o_in (MT_from q2.2.2 (gi x1) + z.1) 8192 = true := by rw [ef2]; exact in_of f1 (by omega)
    refine o_okG g1 (o_okG gf (o_okG g5 ?_))
    have bd := bn9 hb0 (gi (MT_from q2.2.2 (gi x1) + z.1))
    rw [← LF_digits aL] at bd
    refine o_okB (s_68b h hn10 zL zd zl hL2 hs (d := MT_digits q2.2.2 (gi (MT_from q2.2.2 (gi x1) + z.1))) bd.1 bd.2) ?_
    intro q ⟨r1, r2, r3⟩
    exact o_okN (fun u eu => o_okS ⟨fun _ => ⟨⟨by show 0 ≤ u.toInt ∧ _; rw [eu]; exact wb, r1, r2, r3⟩, by show o_mu u < _; rw [eu]; exact o_muL lu⟩, fun e => absurd rfl e⟩)
def FI (X : Nat) (z : Int32) : Prop := ∃ k : Nat, z.toInt = (k:Int) ∧ k ≤ X + 1
theorem s_256 {n : Nat} {x3 x5 : Int32} {a0 a2 : SMT} {X F : Nat} (h : MC n a2 x3 x5 X F) : o_ok (o_lp n (m_MT_isMultiple_b256 n x5 a0 a2) (0:Int32)) (fun q => q.1 ≠ 0 ∧ True) := by
  obtain ⟨hn, g3, hX, hX6, hF, hFX, hb⟩ := h
  refine o_lpR (FI X) o_mu hn o_muB ⟨0, rfl, Nat.zero_le _⟩ ?_
  intro z ⟨k, k1, k2⟩
  unfold m_MT_isMultiple_b256
  refine o_okI (fun c => o_okS ⟨fun e => absurd e (Nat.succ_ne_zero 1), fun _ => trivial⟩) (fun c => ?_)
  have c := Int32.le_iff_toInt_le.mp (Int32.not_lt.mp c)
  have kX : k ≤ X := by omega
  have w1 := tI1 k1 (by omega)
  have lu : z < z + 1 := Int32.lt_iff_toInt_lt.mpr (by omega)
  refine o_okG (in_of k1 (by omega)) (o_okI (fun _ => o_okN (fun u eu => o_okS ⟨fun _ => ⟨⟨k + 1, by rw [eu]; exact w1, Nat.succ_le_succ kX⟩, by rw [eu]; exact o_muL lu⟩, fun e => absurd rfl e⟩)) (fun _ => o_okS ⟨fun e => absurd e (Nat.succ_ne_zero 0), fun _ => trivial⟩))
theorem s_MT_isMultiple {n : Nat} {x1 x3 : Int32} {a0 a2 : SMT} (hn : o_big ≤ n) (hI : I_MT a0) (hT : T_MT a0) (hI2 : I_MT a2) (hT2 : T_MT a2) (hb0 : o_bn 0 9 (MT_digits a0)) (hD : DZ a2) (v0 : 0 ≤ x1) (v1 : x1 < MT_values a0) (vk : MT_kind a0 (gi x1) = 3) (w0 : 0 ≤ x3) (w1 : x3 < MT_values a2) (wk : MT_kind a2 (gi x3) = 3) (wm : MT_many a2 (gi x3) ≠ 0) : o_ok (m_MT_isMultiple n x1 x3 a0 a2) (fun r => (r.1 = 0 ∨ r.1 = 1) ∧ LF a0 r.2) := by
  have g1 := o_inV hI v0 v1
  have g3 := o_inV hI2 w0 w1
  have nat : ∀ i : Int32, 0 ≤ i → ∃ k : Nat, i.toInt = (k:Int) := by
    intro i h
    have h : (0:Int32).toInt ≤ i.toInt := Int32.le_iff_toInt_le.mp h
    have z0 : (0:Int32).toInt = 0 := rfl
    exact ⟨i.toInt.toNat, by omega⟩
  have fit : ∀ (s : SMT) (x : Int32), I_MT s → T_MT s → 0 ≤ x → x < MT_values s → MT_kind s (gi x) = 3 → ∃ K G : Nat, (MT_many s (gi x)).toInt = (K:Int) ∧ (MT_from s (gi x)).toInt = (G:Int) ∧ K ≤ 60 ∧ G + K ≤ 8192 ∧ (-3000000 ≤ (MT_power s (gi x)).toInt ∧ (MT_power s (gi x)).toInt ≤ 3000000) := by
    intro s x sI sT x0 x1 xk
    obtain ⟨f1, f2, f3, f4, f5⟩ := (sT x x0 x1).2.2.2.2.2.1 xk
    obtain ⟨p1, p2⟩ := (sT x x0 x1).2.2.2.2.2.2.1
    have i := sc_MT sI
    have f1 : 0 ≤ MT_from s (gi x) := f1
    have f2 : 0 ≤ MT_many s (gi x) := f2
    obtain ⟨G, hG⟩ := nat _ f1
    obtain ⟨K, hK⟩ := nat _ f2
    have p1 : (-3000000:Int32).toInt ≤ (MT_power s (gi x)).toInt := Int32.le_iff_toInt_le.mp p1
    have p2 : (MT_power s (gi x)).toInt ≤ (3000000:Int32).toInt := Int32.le_iff_toInt_le.mp p2
    have e1 : (-3000000:Int32).toInt = -3000000 := rfl
    have e2 : (3000000:Int32).toInt = 3000000 := rfl
    have f3 : (MT_many s (gi x)).toInt ≤ (60:Int32).toInt := Int32.le_iff_toInt_le.mp f3
    have e3 : (60:Int32).toInt = 60 := rfl
    have iw : (MT_written s).toInt ≤ (8192:Int32).toInt := Int32.le_iff_toInt_le.mp i.2.2.2.2.2.2.2.2.2.1
    have e4 : (8192:Int32).toInt = 8192 := rfl
    have f4 : (MT_from s (gi x)).toInt ≤ (MT_written s).toInt := Int32.le_iff_toInt_le.mp f4
    have sw := i32s (a := MT_written s) (b := MT_from s (gi x)) (by omega) (by omega)
    have f5 : (MT_many s (gi x)).toInt ≤ (MT_written s - MT_from s (gi x)).toInt := Int32.le_iff_toInt_le.mp f5
    rw [sw] at f5
    rw [e1] at p1
    rw [e2] at p2
    rw [e3] at f3
    rw [e4] at iw
    exact ⟨K, G, hK, hG, by omega, by omega, p1, p2⟩
  obtain ⟨K, G, hK, hG, K6, GK, pw⟩ := fit a0 x1 hI hT v0 v1 vk
  obtain ⟨X, F, hX, hF, X6, FX, pw2⟩ := fit a2 x3 hI2 hT2 w0 w1 wk
  have hc : MC n a2 x3 (MT_many a2 (gi x3)) X F := ⟨hn, g3, hX, X6, hF, FX, hD.1⟩
  have hn10 : 10 < n := Nat.lt_of_lt_of_le (by decide) hn
  have hE : 1 ≤ Sm (ed a2 F) X (X + 1) := by
    have wv : gi x3 < gi (MT_values a2) := by
      have a := gi_tnc w0
      have b := Int32.lt_iff_toInt_lt.mp w1
      have d := gi_tnc (i := MT_values a2) (sc_MT hI2).1
      omega
    obtain ⟨k, a1, a2', a3, a4⟩ := hD.2.2 (gi x3) wv wk wm
    obtain ⟨k', hk⟩ := nat k a1
    have a2' := Int32.lt_iff_toInt_lt.mp a2'
    have kX : k' < X := by omega
    have fi := tIa hF hk (by omega)
    rw [gi_of fi] at a4
    refine Sm_pos (ed9 hD.1) (p := k' + 1) (by omega) ?_
    rw [ed_s]
    have b := bn9 hD.1 (F + k')
    have ne : (MT_digits a2 (F + k')).toInt ≠ 0 := fun e => a4 (Int32.toInt_inj.mp e)
    omega
  unfold m_MT_isMultiple
  refine o_okG g1 (o_okI (fun _ => o_okS ⟨Or.inr rfl, LF_rfl⟩) (fun _ => o_okG g1 (o_okG g3 (o_okN (fun x4 e4 => o_okG g3 (o_okN (fun x5 e5 => ?_)))))))
  have e5 : x5 = MT_many a2 (gi x3) := e5
  rw [← e5] at hc
  have t4 : x4.toInt ≤ 6000000 := by
    have e4 : x4 = MT_power a0 (gi x1) - MT_power a2 (gi x3) := e4
    rw [e4, i32s (by omega) (by omega)]
    omega
  refine o_okI (fun c => ?_) (fun _ => o_okS ⟨Or.inl rfl, LF_rfl⟩)
  have c : 0 ≤ x4.toInt := Int32.le_iff_toInt_le.mp c
  refine o_okB (s_44 hc) ?_
  intro q1 ⟨_, l1, l2⟩
  have dz : dg9 (lv q1.2.2) X := by
    intro j hj
    rw [l2 j hj]
    decide
  have lz : Sm (lv q1.2.2) X (X + 1) = 0 := by
    have z : ∀ k, Sm (fun _ => 0) X k = 0 := by
      intro k
      induction k with
      | zero => rfl
      | succ k ih =>
        show Sm (fun _ => 0) X k + 0 * 10 ^ k = 0
        rw [ih, Int.zero_mul]
        rfl
    rw [Sm_congr (f := lv q1.2.2) (g := fun _ => 0) (X := X) (X + 1) (fun j _ => l2 (X - j) (Nat.sub_le _ _))]
    exact z _
  refine o_okB (s_68 hc hn10 g1 hK K6 hG GK hb0 ⟨c, t4⟩ l1 dz (by rw [lz]; omega)) ?_
  intro q7 ⟨_, l7⟩
  refine o_okB (s_256 hc) ?_
  intro q8 _
  exact o_okI (fun _ => o_okS ⟨Or.inl rfl, l7⟩) (fun _ => o_okS ⟨Or.inr rfl, l7⟩)
theorem IM_all {n : Nat} {M0 A : SMT} (hn : o_big ≤ n) (hI : I_MT M0) (hT : T_MT M0) (hD : DZ M0) (hI1 : I_MT A) (hT1 : T_MT A) (hD1 : DZ A) : IMx n M0 A := by
  intro x y M1 hL x0 x1 xk y0 y1 yk ym
  refine o_okW (s_MT_isMultiple hn (LF_I hL hI1) (LF_T hL hT1) hI hT (by rw [LF_digits hL]; exact hD1.1) hD x0 (by rw [LF_values hL]; exact x1) (by rw [LF_kind hL]; exact xk) y0 y1 yk ym) ?_
  intro r ⟨h1, h2⟩
  exact ⟨h1, LF_trans hL h2⟩
