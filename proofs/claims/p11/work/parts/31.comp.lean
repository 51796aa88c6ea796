theorem sz_leaf {n d : Nat} {s : SNP} {x : Int32} {o : Int32} (x0 : 0 ≤ x) (gx : o_in x 16000 = true) (hk : NP_nodeKind s (gi x) = 1 ∨ NP_nodeKind s (gi x) = 2 ∨ NP_nodeKind s (gi x) = 3) (h1 : NP_nodeKind s (gi x) = 1 → 0 ≤ NP_nodeA s (gi x) ∧ NP_nodeA s (gi x) < 8000) : m_MM_size n (d + 1) x s = some 1 ∧ CC (m_MM_compile n (d + 1)) s x 1 := by
  constructor
  · have h : o_ok (m_MM_size_F n (m_MM_size n d) x s) (fun v => v = 1) := by
      unfold m_MM_size_F
      refine o_okG gx (o_okN (fun w ew => ?_))
      subst ew
      refine o_okI (fun c => ?_) (fun _ => ?_)
      · exfalso
        have c : NP_nodeKind s (gi x) = 0 := c
        rcases hk with h | h | h <;> rw [h] at c <;> exact absurd c (by decide)
      refine o_okI (fun c => o_okS rfl) (fun n1 => ?_)
      refine o_okI (fun c => o_okS rfl) (fun n2 => ?_)
      refine o_okI (fun c => o_okS rfl) (fun n3 => ?_)
      exfalso
      rcases hk with h | h | h
      · exact n1 h
      · exact n2 h
      · exact n3 h
    obtain ⟨v, e, hv⟩ := h
    rw [hv] at e
    exact e
  · intro b b0 hb
    have hb : (NO_steps b).toInt + 2 ≤ 24000 := hb
    show o_ok (m_MM_compile_F n (m_MM_compile n d) x s b) (fun r => CP b r 2)
    unfold m_MM_compile_F
    refine o_okG gx (o_okN (fun w ew => ?_))
    subst ew
    refine o_okI (fun c => ?_) (fun n1 => ?_)
    · refine o_okG gx ?_
      refine o_okB (s_step b0 (by omega)) ?_
      intro q e
      subst e
      exact o_okS (CP_leaf b0 (by omega) (Or.inl rfl) (fun _ => h1 c))
    refine o_okI (fun c => ?_) (fun n2 => ?_)
    · refine o_okB (s_step b0 (by omega)) ?_
      intro q e
      subst e
      exact o_okS (CP_leaf b0 (by omega) (Or.inr (Or.inl rfl)) (fun e => absurd e (by decide)))
    refine o_okI (fun c => ?_) (fun n3 => ?_)
    · refine o_okB (s_step b0 (by omega)) ?_
      intro q e
      subst e
      exact o_okS (CP_leaf b0 (by omega) (Or.inr (Or.inr rfl)) (fun e => absurd e (by decide)))
    exfalso
    rcases hk with h | h | h
    · exact n1 h
    · exact n2 h
    · exact n3 h
theorem sz_row {n d : Nat} {s : SNP} {x : Int32} {L : List Int32} {sv : Int32 → Int64} (hn : o_big ≤ n) (gx : o_in x 16000 = true) (hk : NP_nodeKind s (gi x) = 4) (hL : CL (NP_nodeNext s) L (NP_nodeA s (gi x))) (hlen : L.length ≤ 20000)
    (hy : ∀ y ∈ L, y < 16000 ∧ m_MM_size n d y s = some (sv y) ∧ 0 ≤ (sv y).toInt ∧ (sv y).toInt ≤ 1010000 ∧ ((sv y).toInt ≤ 400 → CC (m_MM_compile n d) s y (sv y).toInt)) : ∃ v, m_MM_size n (d + 1) x s = some v ∧ 0 ≤ v.toInt ∧ v.toInt ≤ 1010000 ∧ (v.toInt ≤ 400 → CC (m_MM_compile n (d + 1)) s x v.toInt) := by
  have hN : L.length < n := Nat.lt_of_lt_of_le (Nat.lt_of_le_of_lt hlen (by decide)) hn
  have h : o_ok (m_MM_size_F n (m_MM_size n d) x s) (fun v => 0 ≤ v.toInt ∧ v.toInt ≤ 1000000 ∧ (v.toInt ≤ 999999 → v.toInt = sumI sv L)) := by
    unfold m_MM_size_F
    refine o_okG gx (o_okN (fun w ew => ?_))
    have ew : w = 4 := ew.trans hk
    subst ew
    refine o_okI (fun c => absurd c (by decide)) (fun _ => ?_)
    refine o_okI (fun c => absurd c (by decide)) (fun _ => ?_)
    refine o_okI (fun c => absurd c (by decide)) (fun _ => ?_)
    refine o_okI (fun c => absurd c (by decide)) (fun _ => ?_)
    refine o_okI (fun _ => ?_) (fun c => absurd rfl c)
    refine o_okG gx (o_okN (fun k ek => ?_))
    refine o_okB (size_lp (sv := sv) L n 0 k hN (by rw [ek]; exact hL) (fun y h => ⟨(hy y h).1, (hy y h).2.1, (hy y h).2.2.1, (hy y h).2.2.2.1⟩) (by decide) (by decide)) ?_
    intro q ⟨q1, q2, q3⟩
    refine o_okG gx (o_okI (fun c => ?_) (fun _ => o_okS ⟨q1, q2, fun h => ?_⟩))
    · have c : NP_nodeKind s (gi x) = 5 := c
      rw [hk] at c
      exact absurd c (by decide)
    · have := q3 h
      have z : (0 : Int64).toInt = 0 := rfl
      rw [z] at this
      omega
  obtain ⟨v, e, v1, v2, v3⟩ := h
  refine ⟨v, e, v1, by omega, fun h4 => ?_⟩
  have ev := v3 (by omega)
  have h0 : ∀ y ∈ L, 0 ≤ (sv y).toInt := fun y h => (hy y h).2.2.1
  intro b b0 hb
  have hkl := kvs_le (sv := sv) L h0
  rw [ev] at hb
  show o_ok (m_MM_compile_F n (m_MM_compile n d) x s b) _
  unfold m_MM_compile_F
  refine o_okG gx (o_okN (fun w ew => ?_))
  have ew : w = 4 := ew.trans hk
  subst ew
  refine o_okI (fun c => absurd c (by decide)) (fun _ => ?_)
  refine o_okI (fun c => absurd c (by decide)) (fun _ => ?_)
  refine o_okI (fun c => absurd c (by decide)) (fun _ => ?_)
  refine o_okI (fun _ => ?_) (fun c => absurd rfl c)
  refine o_okG gx (o_okN (fun k ek => ?_))
  refine o_okB (row_lp (sv := sv) L n k b hN (by rw [ek]; exact hL) (fun y h => ⟨(hy y h).1, (hy y h).2.2.2.2 (by have := sumI_mem L h0 y h; omega)⟩) b0 (by omega)) ?_
  intro q hq
  exact o_okS (CP_mono hq (by rw [ev]; exact hkl))
theorem sz_ways {n d : Nat} {s : SNP} {x : Int32} {L : List Int32} {sv : Int32 → Int64} (hn : o_big ≤ n) (gx : o_in x 16000 = true) (hk : NP_nodeKind s (gi x) = 5) (hB1 : 1 ≤ (NP_nodeB s (gi x)).toInt) (hB2 : (NP_nodeB s (gi x)).toInt ≤ 4002) (hL : CL (NP_nodeNext s) L (NP_nodeA s (gi x))) (hlen : L.length ≤ 20000) (hlB : (L.length : Int) ≤ (NP_nodeB s (gi x)).toInt)
    (hy : ∀ y ∈ L, y < 16000 ∧ m_MM_size n d y s = some (sv y) ∧ 0 ≤ (sv y).toInt ∧ (sv y).toInt ≤ 1010000 ∧ ((sv y).toInt ≤ 400 → CC (m_MM_compile n d) s y (sv y).toInt)) : ∃ v, m_MM_size n (d + 1) x s = some v ∧ 0 ≤ v.toInt ∧ v.toInt ≤ 1010000 ∧ (v.toInt ≤ 400 → CC (m_MM_compile n (d + 1)) s x v.toInt) := by
  have hN : L.length < n := Nat.lt_of_lt_of_le (Nat.lt_of_le_of_lt hlen (by decide)) hn
  have h : o_ok (m_MM_size_F n (m_MM_size n d) x s) (fun v => 0 ≤ v.toInt ∧ v.toInt ≤ 1010000 ∧ (v.toInt ≤ 400 → v.toInt = sumI sv L + (NP_nodeB s (gi x)).toInt - 1)) := by
    unfold m_MM_size_F
    refine o_okG gx (o_okN (fun w ew => ?_))
    have ew : w = 5 := ew.trans hk
    subst ew
    refine o_okI (fun c => absurd c (by decide)) (fun _ => ?_)
    refine o_okI (fun c => absurd c (by decide)) (fun _ => ?_)
    refine o_okI (fun c => absurd c (by decide)) (fun _ => ?_)
    refine o_okI (fun c => absurd c (by decide)) (fun _ => ?_)
    refine o_okI (fun c => absurd c (by decide)) (fun _ => ?_)
    refine o_okI (fun _ => ?_) (fun c => absurd rfl c)
    refine o_okG gx (o_okN (fun k ek => ?_))
    refine o_okB (size_lp (sv := sv) L n 0 k hN (by rw [ek]; exact hL) (fun y h => ⟨(hy y h).1, (hy y h).2.1, (hy y h).2.2.1, (hy y h).2.2.2.1⟩) (by decide) (by decide)) ?_
    intro q ⟨q1, q2, q3⟩
    refine o_okG gx (o_okI (fun _ => o_okG gx (o_okS ?_)) (fun c => absurd hk c))
    have t1 : (NP_nodeB s (gi x)).toInt64.toInt = (NP_nodeB s (gi x)).toInt := Int32.toInt_toInt64 _
    have z1 : (1 : Int64).toInt = 1 := rfl
    have e1 := i64a (a := q.2.1) (b := (NP_nodeB s (gi x)).toInt64) (by omega) (by omega)
    have e2 := i64s (a := q.2.1 + (NP_nodeB s (gi x)).toInt64) (b := 1) (by omega) (by omega)
    have e3 : ((q.2.1 + (NP_nodeB s (gi x)).toInt64) - 1).toInt = q.2.1.toInt + (NP_nodeB s (gi x)).toInt - 1 := by omega
    refine ⟨?_, ?_, fun h => ?_⟩
    · show 0 ≤ ((q.2.1 + (NP_nodeB s (gi x)).toInt64) - 1).toInt
      omega
    · show ((q.2.1 + (NP_nodeB s (gi x)).toInt64) - 1).toInt ≤ 1010000
      omega
    · have h : ((q.2.1 + (NP_nodeB s (gi x)).toInt64) - 1).toInt ≤ 400 := h
      show ((q.2.1 + (NP_nodeB s (gi x)).toInt64) - 1).toInt = _
      have := q3 (by omega)
      have z : (0 : Int64).toInt = 0 := rfl
      rw [z] at this
      omega
  obtain ⟨v, e, v1, v2, v3⟩ := h
  refine ⟨v, e, v1, v2, fun h4 => ?_⟩
  have ev := v3 h4
  have h0 : ∀ y ∈ L, 0 ≤ (sv y).toInt := fun y h => (hy y h).2.2.1
  have hs0 := sumI_0 (sv := sv) L h0
  have hC : ∀ y ∈ L, y < 16000 ∧ CC (m_MM_compile n d) s y (sv y).toInt := fun y h => ⟨(hy y h).1, (hy y h).2.2.2.2 (by have := sumI_mem L h0 y h; omega)⟩
  intro b b0 hb
  have hkl := kvs_le (sv := sv) L h0
  show o_ok (m_MM_compile_F n (m_MM_compile n d) x s b) _
  unfold m_MM_compile_F
  refine o_okG gx (o_okN (fun w ew => ?_))
  have ew : w = 5 := ew.trans hk
  subst ew
  refine o_okI (fun c => absurd c (by decide)) (fun _ => ?_)
  refine o_okI (fun c => absurd c (by decide)) (fun _ => ?_)
  refine o_okI (fun c => absurd c (by decide)) (fun _ => ?_)
  refine o_okI (fun c => absurd c (by decide)) (fun _ => ?_)
  refine o_okI (fun _ => ?_) (fun c => absurd rfl c)
  refine o_okG gx (o_okN (fun k ek => ?_))
  have kv0 := kv_0 v.toInt
  have W0 : WL true b b [] (-1) 0 := ⟨b0, Int32.le_refl _, by omega, fun _ _ _ => ⟨rfl, rfl, rfl⟩, rfl, fun j h1 h2 => (i32irr (Int32.lt_of_le_of_lt h1 h2)).elim⟩
  cases L with
  | nil =>
    have hk1 : k = -1 := by rw [ek]; exact hL
    subst hk1
    obtain ⟨M, rfl⟩ : ∃ M, n = M + 1 := ⟨n - 1, by have : 0 < n := hN; omega⟩
    refine o_okB (Q := fun q => q = (2, -1, -1, b)) (lp_stop ?_) ?_
    · unfold m_MM_compile_b120
      exact o_okI (fun _ => o_okS ⟨Nat.succ_ne_zero 1, rfl⟩) (fun c => absurd (show (-1:Int32) < 0 by decide) c)
    · intro q eq
      subst eq
      refine o_okI (fun c => absurd (show (2:Nat) = 1 from c) (by decide)) (fun _ => ?_)
      refine o_okB (patch5 (t := 0) [] (M + 1) (-1) b (Nat.succ_pos M) W0 (by omega)) ?_
      intro q hq
      exact o_okS (CP_mono hq kv0)
  | cons y0 L =>
    obtain ⟨ey, k0, hL'⟩ := hL
    have ek : k = y0 := ek.trans ey.symm
    subst ek
    have hlB : (L.length : Int) + 1 ≤ (NP_nodeB s (gi x)).toInt := hlB
    have kw := kv_ways (a := sumI sv (k :: L)) (t := L.length) (u := (NP_nodeB s (gi x)).toInt - 1) hs0 (Int.natCast_nonneg _) (by omega)
    rw [show sumI sv (k :: L) + ((NP_nodeB s (gi x)).toInt - 1) = v.toInt by omega] at kw
    refine o_okB (ways_lp (sv := sv) L k n (-1) b [] 0 hN ⟨rfl, by rw [ey]; exact k0, by rw [ey]; exact hL'⟩ hC W0 (by omega)) ?_
    intro q ⟨r1, P', t', r2, r3, r4, r5⟩
    have r4 : P'.length ≤ 0 + L.length := r4
    have hlen : L.length + 1 ≤ 20000 := hlen
    refine o_okI (fun _ => ?_) (fun c => absurd r1 c)
    obtain ⟨w1, w2⟩ := hC _ r2
    have g3 := r3.2.2.1
    refine o_okB (w2 q.2.2.2 (Int32.le_trans r3.1 r3.2.1) (by omega)) ?_
    intro b1 hb1
    have W1 := WL_CP r3 hb1
    have g4 := W1.2.2.1
    refine o_okB (patch5 P' n q.2.1 b1 (Nat.lt_of_le_of_lt (show P'.length ≤ 20000 by omega) (Nat.lt_of_lt_of_le (by decide) hn)) W1 (by omega)) ?_
    intro q hq
    exact o_okS (CP_mono hq (by omega))
theorem kv_max {v S : Int} (hS : S = if v < 1 then 1 else v) : kv v + 1 ≤ 3 * S ∧ 1 ≤ S ∧ v ≤ S := by
  unfold kv
  rw [hS]
  repeat' split
  all_goals omega
theorem sz_times {n d : Nat} {s : SNP} {x : Int32} {vy : Int64} (hn : o_big ≤ n) (gx : o_in x 16000 = true) (hk : NP_nodeKind s (gi x) = 6) (hB0 : 0 ≤ (NP_nodeB s (gi x)).toInt) (hB1 : (NP_nodeB s (gi x)).toInt ≤ 50) (hC1 : (NP_nodeC s (gi x)).toInt ≤ 50) (hBC : (NP_nodeC s (gi x)).toInt < 0 ∨ (NP_nodeB s (gi x)).toInt ≤ (NP_nodeC s (gi x)).toInt)
    (y2 : m_MM_size n d (NP_nodeA s (gi x)) s = some vy) (y3 : 0 ≤ vy.toInt) (y4 : vy.toInt ≤ 1010000) (y5 : vy.toInt ≤ 400 → CC (m_MM_compile n d) s (NP_nodeA s (gi x)) vy.toInt) : ∃ v, m_MM_size n (d + 1) x s = some v ∧ 0 ≤ v.toInt ∧ v.toInt ≤ 1010000 ∧ (v.toInt ≤ 400 → CC (m_MM_compile n (d + 1)) s x v.toInt) := by
  obtain ⟨S, hS⟩ : ∃ S : Int, S = if vy.toInt < 1 then 1 else vy.toInt := ⟨_, rfl⟩
  obtain ⟨m1, m2, m3⟩ := kv_max hS
  have S1 : S ≤ 1010000 := by rw [hS]; split <;> omega
  obtain ⟨B, hBe⟩ : ∃ B : Int, B = (NP_nodeB s (gi x)).toInt := ⟨_, rfl⟩
  obtain ⟨C, hCe⟩ : ∃ C : Int, C = (NP_nodeC s (gi x)).toInt := ⟨_, rfl⟩
  rw [← hBe] at hB0 hB1 hBC
  rw [← hCe] at hC1 hBC
  have pB0 : 0 ≤ B * S := Int.mul_nonneg hB0 (by omega)
  have pB1 : B * S ≤ 50 * 1010000 := Int.mul_le_mul hB1 S1 (by omega) (by omega)
  have h : o_ok (m_MM_size_F n (m_MM_size n d) x s) (fun v => 0 ≤ v.toInt ∧ v.toInt ≤ 1000000 ∧ (v.toInt ≤ 400 → (0 ≤ C → v.toInt = C * S + 1) ∧ (C < 0 → v.toInt = B * S + S + 1))) := by
    unfold m_MM_size_F
    refine o_okG gx (o_okN (fun w ew => ?_))
    have ew : w = 6 := ew.trans hk
    subst ew
    refine o_okI (fun c => absurd c (by decide)) (fun _ => ?_)
    refine o_okI (fun c => absurd c (by decide)) (fun _ => ?_)
    refine o_okI (fun c => absurd c (by decide)) (fun _ => ?_)
    refine o_okI (fun c => absurd c (by decide)) (fun _ => ?_)
    refine o_okI (fun c => absurd c (by decide)) (fun _ => ?_)
    refine o_okI (fun c => absurd c (by decide)) (fun _ => ?_)
    refine o_okI (fun _ => ?_) (fun c => absurd rfl c)
    refine o_okG gx ?_
    refine o_okB (o_okE y2) ?_
    intro q eq
    rw [eq]
    refine o_okN (fun T eT => ?_)
    have z1 : (1 : Int64).toInt = 1 := rfl
    have hT : T.toInt = S := by
      rw [eT, hS]
      by_cases c : vy < (1:Int64)
      · rw [if_pos c]
        have c := Int64.lt_iff_toInt_lt.mp c
        rw [z1] at c
        rw [if_pos c, z1]
      · rw [if_neg c]
        have c : ¬ vy.toInt < 1 := fun e => c (Int64.lt_iff_toInt_lt.mpr (by rw [z1]; exact e))
        rw [if_neg c]
    have tB : (NP_nodeB s (gi x)).toInt64.toInt = B := by rw [hBe]; exact Int32.toInt_toInt64 _
    have eB := i64m (a := (NP_nodeB s (gi x)).toInt64) (b := T) (by rw [tB, hT]; omega) (by rw [tB, hT]; omega)
    rw [tB, hT] at eB
    refine o_okG gx (o_okG gx (o_okI (fun c => o_okG gx (o_okG gx ?_)) (fun c => ?_)))
    · have c : 0 ≤ NP_nodeC s (gi x) := c
      have c0 : 0 ≤ C := by rw [hCe]; exact Int32.le_iff_toInt_le.mp c
      have hb : B ≤ C := by omega
      have pC0 : 0 ≤ C * S := Int.mul_nonneg c0 (by omega)
      have pC1 : C * S ≤ 50 * 1010000 := Int.mul_le_mul hC1 S1 (by omega) (by omega)
      have pBC : B * S ≤ C * S := Int.mul_le_mul_of_nonneg_right hb (by omega)
      have sC : (NP_nodeC s (gi x) - NP_nodeB s (gi x)).toInt = C - B := by
        rw [Int32.toInt_sub, ← hBe, ← hCe]
        apply Int.bmod_eq_of_le <;> omega
      have tC : (NP_nodeC s (gi x) - NP_nodeB s (gi x)).toInt64.toInt = C - B := by rw [Int32.toInt_toInt64]; exact sC
      have eC := i64m (a := (NP_nodeC s (gi x) - NP_nodeB s (gi x)).toInt64) (b := T) (by rw [tC, hT, Int.sub_mul]; omega) (by rw [tC, hT, Int.sub_mul]; omega)
      rw [tC, hT, Int.sub_mul] at eC
      unfold m_MM_size_j171
      have a1 := i64a (a := (NP_nodeB s (gi x)).toInt64 * T) (b := (NP_nodeC s (gi x) - NP_nodeB s (gi x)).toInt64 * T) (by omega) (by omega)
      have a2 := i64a (a := (NP_nodeB s (gi x)).toInt64 * T + (NP_nodeC s (gi x) - NP_nodeB s (gi x)).toInt64 * T) (b := 1) (by omega) (by omega)
      have mi := i64min (v := (NP_nodeB s (gi x)).toInt64 * T + (NP_nodeC s (gi x) - NP_nodeB s (gi x)).toInt64 * T + 1) (by omega)
      refine o_okS (show 0 ≤ (if (1000000:Int64) < (NP_nodeB s (gi x)).toInt64 * T + (NP_nodeC s (gi x) - NP_nodeB s (gi x)).toInt64 * T + 1 then (1000000:Int64) else (NP_nodeB s (gi x)).toInt64 * T + (NP_nodeC s (gi x) - NP_nodeB s (gi x)).toInt64 * T + 1).toInt ∧ (if (1000000:Int64) < (NP_nodeB s (gi x)).toInt64 * T + (NP_nodeC s (gi x) - NP_nodeB s (gi x)).toInt64 * T + 1 then (1000000:Int64) else (NP_nodeB s (gi x)).toInt64 * T + (NP_nodeC s (gi x) - NP_nodeB s (gi x)).toInt64 * T + 1).toInt ≤ 1000000 ∧ ((if (1000000:Int64) < (NP_nodeB s (gi x)).toInt64 * T + (NP_nodeC s (gi x) - NP_nodeB s (gi x)).toInt64 * T + 1 then (1000000:Int64) else (NP_nodeB s (gi x)).toInt64 * T + (NP_nodeC s (gi x) - NP_nodeB s (gi x)).toInt64 * T + 1).toInt ≤ 400 → (0 ≤ C → (if (1000000:Int64) < (NP_nodeB s (gi x)).toInt64 * T + (NP_nodeC s (gi x) - NP_nodeB s (gi x)).toInt64 * T + 1 then (1000000:Int64) else (NP_nodeB s (gi x)).toInt64 * T + (NP_nodeC s (gi x) - NP_nodeB s (gi x)).toInt64 * T + 1).toInt = C * S + 1) ∧ (C < 0 → (if (1000000:Int64) < (NP_nodeB s (gi x)).toInt64 * T + (NP_nodeC s (gi x) - NP_nodeB s (gi x)).toInt64 * T + 1 then (1000000:Int64) else (NP_nodeB s (gi x)).toInt64 * T + (NP_nodeC s (gi x) - NP_nodeB s (gi x)).toInt64 * T + 1).toInt = B * S + S + 1)) from ⟨mi.1, mi.2.1, fun h => ⟨fun _ => ?_, fun z => by omega⟩⟩)
      have := mi.2.2 (by omega)
      omega
    · have c0 : C < 0 := by
        rw [hCe]
        have c : ¬ 0 ≤ NP_nodeC s (gi x) := c
        have c := Int32.not_le.mp c
        exact Int32.lt_iff_toInt_lt.mp c
      unfold m_MM_size_j171
      have a1 := i64a (a := (NP_nodeB s (gi x)).toInt64 * T) (b := T) (by omega) (by omega)
      have a2 := i64a (a := (NP_nodeB s (gi x)).toInt64 * T + T) (b := 1) (by omega) (by omega)
      have mi := i64min (v := (NP_nodeB s (gi x)).toInt64 * T + T + 1) (by omega)
      refine o_okS (show 0 ≤ (if (1000000:Int64) < (NP_nodeB s (gi x)).toInt64 * T + T + 1 then (1000000:Int64) else (NP_nodeB s (gi x)).toInt64 * T + T + 1).toInt ∧ (if (1000000:Int64) < (NP_nodeB s (gi x)).toInt64 * T + T + 1 then (1000000:Int64) else (NP_nodeB s (gi x)).toInt64 * T + T + 1).toInt ≤ 1000000 ∧ ((if (1000000:Int64) < (NP_nodeB s (gi x)).toInt64 * T + T + 1 then (1000000:Int64) else (NP_nodeB s (gi x)).toInt64 * T + T + 1).toInt ≤ 400 → (0 ≤ C → (if (1000000:Int64) < (NP_nodeB s (gi x)).toInt64 * T + T + 1 then (1000000:Int64) else (NP_nodeB s (gi x)).toInt64 * T + T + 1).toInt = C * S + 1) ∧ (C < 0 → (if (1000000:Int64) < (NP_nodeB s (gi x)).toInt64 * T + T + 1 then (1000000:Int64) else (NP_nodeB s (gi x)).toInt64 * T + T + 1).toInt = B * S + S + 1)) from ⟨mi.1, mi.2.1, fun h => ⟨fun z => by omega, fun _ => ?_⟩⟩)
      have := mi.2.2 (by omega)
      omega
  obtain ⟨v, e, v1, v2, v3⟩ := h
  refine ⟨v, e, v1, by omega, fun h4 => ?_⟩
  obtain ⟨v5, v6⟩ := v3 h4
  intro b b0 hb
  have k0 := kv_0 vy.toInt
  have kvv : ∀ u : Int, v.toInt = u + 1 → 0 ≤ u → kv v.toInt = 3 * u + 2 := by
    intro u hu u0
    unfold kv
    split <;> omega
  show o_ok (m_MM_compile_F n (m_MM_compile n d) x s b) _
  unfold m_MM_compile_F
  refine o_okG gx (o_okN (fun w ew => ?_))
  have ew : w = 6 := ew.trans hk
  subst ew
  refine o_okI (fun c => absurd c (by decide)) (fun _ => ?_)
  refine o_okI (fun c => absurd c (by decide)) (fun _ => ?_)
  refine o_okI (fun c => absurd c (by decide)) (fun _ => ?_)
  refine o_okI (fun c => absurd c (by decide)) (fun _ => ?_)
  refine o_okI (fun c => absurd c (by decide)) (fun _ => ?_)
  refine o_okI (fun _ => ?_) (fun c => absurd rfl c)
  have hnB : B.toNat < n := Nat.lt_of_lt_of_le (show B.toNat < 51 by omega) (Nat.le_trans (by decide) hn)
  have cB : ((B.toNat : Nat) : Int) = B := Int.toNat_of_nonneg hB0
  have z0 : (0 : Int32).toInt = 0 := rfl
  by_cases hC : 0 ≤ C
  · have ev := v5 hC
    have hb2 : B ≤ C := by omega
    have pC0 : 0 ≤ C * S := Int.mul_nonneg hC (by omega)
    have ek := kvv (C * S) ev pC0
    -- the whole price
    have pr : B * kv vy.toInt + (C - B) * (kv vy.toInt + 1) ≤ 3 * (C * S) := by
      have a1 : C * (kv vy.toInt + 1) ≤ C * (3 * S) := Int.mul_le_mul_of_nonneg_left m1 hC
      have a2 : C * (3 * S) = 3 * (C * S) := by rw [← Int.mul_assoc, Int.mul_comm C 3, Int.mul_assoc]
      have a3 : (C - B) * (kv vy.toInt + 1) = C * (kv vy.toInt + 1) - B * (kv vy.toInt + 1) := Int.sub_mul _ _ _
      have a4 : B * (kv vy.toInt + 1) = B * kv vy.toInt + B := by rw [Int.mul_add, Int.mul_one]
      omega
    have p1 : 0 ≤ B * kv vy.toInt := Int.mul_nonneg hB0 k0
    have p2 : 0 ≤ (C - B) * (kv vy.toInt + 1) := Int.mul_nonneg (by omega) (by omega)
    have hCC : 1 ≤ C → CC (m_MM_compile n d) s (NP_nodeA s (gi x)) vy.toInt := by
      intro c1
      refine y5 ?_
      have : 1 * S ≤ C * S := Int.mul_le_mul_of_nonneg_right c1 (by omega)
      omega
    refine o_okB (times_lp1 (v := vy.toInt) gx (by omega) B.toNat n 0 b hnB (by decide) (by rw [cB, z0]; omega) (fun hp => hCC (by omega)) b0 (by rw [cB]; omega)) ?_
    intro q14 h14
    rw [cB] at h14
    have h143 := h14.2.2.1
    refine o_okG gx (o_okI (fun _ => ?_) (fun c => absurd (show 0 ≤ NP_nodeC s (gi x) from Int32.le_iff_toInt_le.mpr (by rw [z0]; omega)) c))
    refine o_okG gx (o_okN (fun i0 ei => ?_))
    have cC : (((C - B).toNat : Nat) : Int) = C - B := Int.toNat_of_nonneg (by omega)
    have hnC : (C - B).toNat < n := Nat.lt_of_lt_of_le (show (C - B).toNat < 51 by omega) (Nat.le_trans (by decide) hn)
    have b10 : 0 ≤ NO_steps q14.2.2 := Int32.le_trans h14.1 h14.2.1
    have W0 : WL false q14.2.2 q14.2.2 [] (-1) 0 := ⟨b10, Int32.le_refl _, by omega, fun _ _ _ => ⟨rfl, rfl, rfl⟩, rfl, fun j h1 h2 => (i32irr (Int32.lt_of_le_of_lt h1 h2)).elim⟩
    refine o_okB (times_lp2 (v := vy.toInt) (a := q14.2.2) gx (by omega) (C - B).toNat n (-1) i0 q14.2.2 [] 0 hnC (by rw [ei, ← hBe]; exact hB0) (by rw [cC, ei, ← hBe, ← hCe]) (fun hp => hCC (by omega)) W0 (by rw [cC]; omega)) ?_
    intro q17 ⟨P', r1, r2⟩
    rw [cC] at r1
    have r13 := r1.2.2.1
    have r2 : P'.length ≤ 0 + (C - B).toNat := r2
    refine o_okB (patch4 P' n q17.2.1 q17.2.2.2 (by omega) r1 (by omega)) ?_
    intro q18 h18
    exact o_okS (CP_mono (CP_trans h14 h18) (by omega))
  · have hC : C < 0 := by omega
    have ev := v6 hC
    have ek := kvv (B * S + S) ev (by omega)
    have hCC : CC (m_MM_compile n d) s (NP_nodeA s (gi x)) vy.toInt := y5 (by omega)
    have pr : B * kv vy.toInt ≤ 3 * (B * S) := by
      have a1 : B * kv vy.toInt ≤ B * (3 * S) := Int.mul_le_mul_of_nonneg_left (by omega) hB0
      have a2 : B * (3 * S) = 3 * (B * S) := by rw [← Int.mul_assoc, Int.mul_comm B 3, Int.mul_assoc]
      omega
    have p1 : 0 ≤ B * kv vy.toInt := Int.mul_nonneg hB0 k0
    refine o_okB (times_lp1 (v := vy.toInt) gx (by omega) B.toNat n 0 b hnB (by decide) (by rw [cB, z0]; omega) (fun _ => hCC) b0 (by rw [cB]; omega)) ?_
    intro q14 h14
    rw [cB] at h14
    have h143 := h14.2.2.1
    have b10 : 0 ≤ NO_steps q14.2.2 := Int32.le_trans h14.1 h14.2.1
    have bl : (NO_steps q14.2.2).toInt < 25000 := by omega
    refine o_okG gx (o_okI (fun c => ?_) (fun _ => ?_))
    · have c : 0 ≤ NP_nodeC s (gi x) := c
      have c := Int32.le_iff_toInt_le.mp c
      rw [z0] at c
      exfalso; omega
    refine o_okB (s_step b10 (by omega)) ?_
    intro q19 e19
    subst e19
    obtain ⟨n1, n2, n3⟩ := stp_n (a := q14.2.2) (o := 4) (x := NO_steps q14.2.2 + 1) (y := 0) b10 (by omega)
    refine o_okG gx ?_
    refine o_okB (hCC (stp q14.2.2 4 (NO_steps q14.2.2 + 1) 0) n3 (by omega)) ?_
    intro b2 hc
    have c3 := hc.2.2.1
    have b20 : 0 ≤ NO_steps b2 := Int32.le_trans n3 hc.2.1
    refine o_okB (s_step (o := 5) (x := NO_steps q14.2.2) (y := 0) b20 (by omega)) ?_
    intro q21 e21
    subst e21
    refine o_okG (o_inM (m := 25000) rfl b10 (Int32.lt_iff_toInt_lt.mpr bl)) (o_okS ?_)
    exact CP_mono (CP_trans h14 (star_CP b10 (stp_P b10 (by omega)) ⟨n3, Int32.le_refl _⟩ hc (stp_P b20 (by omega)) mk_op mk_A mk_B mk_n)) (by omega)
theorem sz_cmp {n : Nat} {s : SNP} {g : GH} (hn : o_big ≤ n) (hI : I_NP s) (hg : GN s g) : ∀ (d : Nat) (x : Int32), 0 ≤ x → x < NP_nodes s → (g (gi x)).1 < d → (NP_nodeKind s (gi x) = 5 → 1 ≤ NP_nodeB s (gi x)) → ∃ v, m_MM_size n d x s = some v ∧ 0 ≤ v.toInt ∧ v.toInt ≤ 1010000 ∧ (v.toInt ≤ 400 → CC (m_MM_compile n d) s x v.toInt) := by
  have i := sc_NP hI
  intro d
  induction d with
  | zero => intro x _ _ h; exact absurd h (Nat.not_lt_zero _)
  | succ d ih =>
    intro x x0 xm hr h5
    have l16 : ∀ y : Int32, y < NP_nodes s → y < 16000 := fun y hy => Int32.lt_of_lt_of_le hy (Int32.le_trans i.2.2.2.2.1 (by decide))
    have gx : o_in x 16000 = true := o_inM (m := 16000) rfl x0 (l16 x xm)
    have G := hg x x0 xm
    obtain ⟨⟨_, _, k0, k6⟩, _, _, g5, g6, g1⟩ := G
    obtain ⟨sv, hsv⟩ : ∃ sv : Int32 → Int64, ∀ y v, m_MM_size n d y s = some v → sv y = v := ⟨fun y => (m_MM_size n d y s).getD 0, fun y v e => by show (m_MM_size n d y s).getD 0 = v; rw [e]; rfl⟩
    have hK : NP_nodeKind s (gi x) = 0 ∨ NP_nodeKind s (gi x) = 1 ∨ NP_nodeKind s (gi x) = 2 ∨ NP_nodeKind s (gi x) = 3 ∨ NP_nodeKind s (gi x) = 4 ∨ NP_nodeKind s (gi x) = 5 ∨ NP_nodeKind s (gi x) = 6 := by
      generalize NP_nodeKind s (gi x) = k at k0 k6
      clear ih hI hg g5 g6 g1 h5 hsv; grind
    have z0 : (0 : Int32).toInt = 0 := rfl
    have z1 : (1 : Int32).toInt = 1 := rfl
    have z50 : (50 : Int32).toInt = 50 := rfl
    have z4 : (4002 : Int32).toInt = 4002 := rfl
    rcases hK with hk | hk | hk | hk | hk | hk | hk
    · refine ⟨0, ?_, by decide, by decide, fun _ => ?_⟩
      · have h : o_ok (m_MM_size_F n (m_MM_size n d) x s) (fun v => v = 0) := by
          unfold m_MM_size_F
          refine o_okG gx (o_okN (fun w ew => ?_))
          have ew : w = 0 := ew.trans hk
          subst ew
          exact o_okI (fun _ => o_okS rfl) (fun c => absurd rfl c)
        obtain ⟨v, e, hv⟩ := h
        rw [hv] at e
        exact e
      · intro b b0 hb
        show o_ok (m_MM_compile_F n (m_MM_compile n d) x s b) _
        unfold m_MM_compile_F
        refine o_okG gx (o_okN (fun w ew => ?_))
        have ew : w = 0 := ew.trans hk
        subst ew
        refine o_okI (fun c => absurd c (by decide)) (fun _ => ?_)
        refine o_okI (fun c => absurd c (by decide)) (fun _ => ?_)
        refine o_okI (fun c => absurd c (by decide)) (fun _ => ?_)
        refine o_okI (fun c => absurd c (by decide)) (fun _ => ?_)
        refine o_okI (fun c => absurd c (by decide)) (fun _ => ?_)
        exact o_okI (fun c => absurd c (by decide)) (fun _ => o_okS (CP_rfl b0 (kv_0 _)))
    · obtain ⟨a1, a2⟩ := sz_leaf (n := n) (d := d) (o := 1) x0 gx (Or.inl hk) g1
      exact ⟨1, a1, by decide, by decide, fun _ => a2⟩
    · obtain ⟨a1, a2⟩ := sz_leaf (n := n) (d := d) (o := 1) x0 gx (Or.inr (Or.inl hk)) g1
      exact ⟨1, a1, by decide, by decide, fun _ => a2⟩
    · obtain ⟨a1, a2⟩ := sz_leaf (n := n) (d := d) (o := 1) x0 gx (Or.inr (Or.inr hk)) g1
      exact ⟨1, a1, by decide, by decide, fun _ => a2⟩
    · obtain ⟨L, c1, c2, c3⟩ := chain4 hI hg x0 xm hk
      refine sz_row (sv := sv) hn gx hk c1 c2 (fun y hy => ?_)
      obtain ⟨q1, q2, q3, q4⟩ := c3 y hy
      obtain ⟨v, e1, e2, e3, e4⟩ := ih y q1 q2 (by omega) q4
      rw [hsv y v e1]
      exact ⟨l16 y q2, e1, e2, e3, e4⟩
    · have hB := h5 hk
      obtain ⟨L, c1, c2, c3, c4⟩ := chain5 hI hg x0 xm hk hB
      have b1 := Int32.le_iff_toInt_le.mp hB
      have b2 := Int32.le_iff_toInt_le.mp (g5 hk).2.2
      rw [z1] at b1
      rw [z4] at b2
      refine sz_ways (sv := sv) hn gx hk b1 b2 c1 c2 c3 (fun y hy => ?_)
      obtain ⟨q1, q2, q3, q4⟩ := c4 y hy
      obtain ⟨v, e1, e2, e3, e4⟩ := ih y q1 q2 (by omega) (fun e => absurd (q4.symm.trans e) (by decide))
      rw [hsv y v e1]
      exact ⟨l16 y q2, e1, e2, e3, e4⟩
    · obtain ⟨⟨a1, a2, a3, a4⟩, b1, b2, b3, b4⟩ := g6 hk
      obtain ⟨v, e1, e2, e3, e4⟩ := ih _ a1 a2 (by omega) a4
      have b1 := Int32.le_iff_toInt_le.mp b1
      have b2 := Int32.le_iff_toInt_le.mp b2
      have b3 := Int32.le_iff_toInt_le.mp b3
      rw [z0] at b1
      rw [z50] at b2 b3
      refine sz_times hn gx hk b1 b2 b3 ?_ e1 e2 e3 e4
      rcases b4 with h | h
      · have h := Int32.lt_iff_toInt_lt.mp h
        rw [z0] at h
        exact Or.inl h
      · exact Or.inr (Int32.le_iff_toInt_le.mp h)
/-- a program that may be run -/
def PRG (o : SNO) : Prop := 1 ≤ NO_steps o ∧ NO_steps o ≤ 24500 ∧ NO_op o (gi (NO_steps o - 1)) = 9 ∧ ∀ j : Int32, 0 ≤ j → j < NO_steps o - 1 → OPX (NO_op o) (NO_opA o) (NO_opB o) (NO_steps o - 1) j
theorem s_MM_isPattern {n : Nat} {x2 : Int32} {a1 : SMT} {Np : SNP} {No : SNO} (hn : o_big ≤ n) (hI : I_MT a1) (hT : T_MT a1) (h0 : 0 ≤ x2) (h1 : x2 < MT_values a1) (hk : MT_kind a1 (gi x2) = 4) (hP : I_NP Np) : o_ok (m_MM_isPattern n x2 a1 Np No) (fun r => (r.1 = 0 ∨ r.1 = 1) ∧ I_NP r.2.1 ∧ (r.1 = 0 → r.2.2 = No) ∧ (r.1 ≠ 0 → PRG r.2.2)) := by
  have i := sc_MT hI
  have gx : o_in x2 1000 = true := o_inV hI h0 h1
  obtain ⟨f1, f2, f3, f4⟩ := (hT x2 h0 h1).2.2.2.2.1 hk
  unfold m_MM_isPattern
  refine o_okG gx (o_okG gx ?_)
  have b1 : 0 ≤ MT_from a1 (gi x2) := f1
  have b2 : MT_from a1 (gi x2) ≤ 4000 := Int32.le_trans f3 i.2.2.2.2.2.2.2.1
  have b3 : 0 ≤ MT_many a1 (gi x2) := f2
  have b4 : MT_from a1 (gi x2) + MT_many a1 (gi x2) ≤ 4000 := by
    have u := i.2.2.2.2.2.2.2.1
    have u0 := i.2.2.2.2.2.2.1
    clear hI hT i gx hP
    generalize MT_from a1 (gi x2) = p at *
    generalize MT_many a1 (gi x2) = q at *
    grind
  have I0 : I_NP (NP_mk (NP_nodeKind Np) (NP_nodeA Np) (NP_nodeB Np) (NP_nodeC Np) (NP_nodeNext Np) (NP_low Np) (NP_high Np) (NP_setFrom Np) (NP_setTo Np) (NP_setNot Np) (0:Int32) (0:Int32) (0:Int32) (MT_from a1 (gi x2)) (MT_from a1 (gi x2) + MT_many a1 (gi x2)) (0:Int32)) := by
    refine ⟨b1, Int32.le_trans b2 (by decide), b4, show (0:Int32) ≤ 0 by decide, show (0:Int32) ≤ 15000 by decide, show (0:Int32) ≤ 0 by decide, b1, show (0:Int32) ≤ 0 by decide, ?_, hP.2.2.2.2.2.2.2.2.2⟩
    show 0 ≤ 6 * MT_from a1 (gi x2)
    clear hI hT i gx hP
    generalize MT_from a1 (gi x2) = p at *
    grind
  have nd : (0:Int32) ≤ 2 * MT_from a1 (gi x2) := by
    clear hI hT i gx hP I0
    generalize MT_from a1 (gi x2) = p at *
    grind
  have hz : (31 : Int) ≤ (0 : Int32).toInt + (33 : Nat) := by decide
  refine o_okB (s_MM_ways hn 33 0 (by decide) (by decide) hz a1 _ hI hT I0 rfl nd) ?_
  intro q ⟨a1', a2, a3, a4, a5, a6⟩
  have hz0 : ∀ c : Prop, (c → o_ok (some ((0:Int32), q.2, No)) (fun r => (r.1 = 0 ∨ r.1 = 1) ∧ I_NP r.2.1 ∧ (r.1 = 0 → r.2.2 = No) ∧ (r.1 ≠ 0 → PRG r.2.2))) := fun c _ => o_okS ⟨Or.inl rfl, a1', fun _ => rfl, fun z => absurd rfl z⟩
  refine o_okI (fun c => ?_) (fun _ => hz0 True trivial)
  obtain ⟨k1, k2, k3, k4⟩ := a6 c
  refine o_okI (fun _ => hz0 True trivial) (fun _ => ?_)
  obtain ⟨g', m1, m2, m3⟩ := k4 (fun _ => (0, 1, 0, 0)) (fun x x0 xm => absurd (Int32.lt_of_le_of_lt x0 xm) (by show ¬ (0:Int32) < 0; decide))
  obtain ⟨_, m4, m5, m6, m7⟩ := m3
  obtain ⟨v, e1, e2, e3, e4⟩ := sz_cmp hn a1' m1 110 q.1 a3.1 a3.2 (by have : rh 0 + 3 = 97 := rfl; omega) m7
  refine o_okB (o_okE e1) ?_
  intro w ew
  subst ew
  refine o_okI (fun c2 => ?_) (fun _ => hz0 True trivial)
  have le : w.toInt ≤ 400 := by
    have h := Int64.le_iff_toInt_le.mp ((lg_cmp_le w 400).mp c2)
    have z4 : (400 : Int64).toInt = 400 := rfl
    rw [z4] at h; exact h
  have kb : kv w.toInt ≤ 1200 := by unfold kv; split <;> omega
  have k0 := kv_0 w.toInt
  have z0 : (0 : Int32).toInt = 0 := rfl
  refine o_okB (e4 le (NO_mk (NO_op No) (NO_opA No) (NO_opB No) 0) (by show (0:Int32) ≤ 0; decide) (by show (0 : Int32).toInt + kv w.toInt ≤ 24000; omega)) ?_
  intro b ⟨c1, c2', c3, c4, c5⟩
  have c2' : (0:Int32) ≤ NO_steps b := c2'
  have c3 : (NO_steps b).toInt ≤ (0 : Int32).toInt + kv w.toInt := c3
  refine o_okB (s_step c2' (by omega)) ?_
  intro q4 e4'
  subst e4'
  obtain ⟨n1, n2, n3⟩ := stp_n (a := b) (o := 9) (x := 0) (y := 0) c2' (by omega)
  have hm1 : NO_steps (stp b 9 0 0) - 1 = NO_steps b := by
    show NO_steps b + 1 - 1 = NO_steps b
    generalize NO_steps b = p
    grind
  have z24 : (24500 : Int32).toInt = 24500 := rfl
  have z1 : (1 : Int32).toInt = 1 := rfl
  have c20 := Int32.le_iff_toInt_le.mp c2'
  refine o_okS ⟨Or.inr rfl, a1', fun z => absurd (show (1:Int32) = 0 from z) (by decide), fun _ => ⟨?_, ?_, ?_, fun j j0 hj => ?_⟩⟩
  · show 1 ≤ NO_steps (stp b 9 0 0)
    rw [Int32.le_iff_toInt_le, z1]; omega
  · show NO_steps (stp b 9 0 0) ≤ 24500
    rw [Int32.le_iff_toInt_le, z24]; omega
  · show NO_op (stp b 9 0 0) (gi (NO_steps (stp b 9 0 0) - 1)) = 9
    rw [hm1]; exact (stp_e (a := b) (o := 9) (x := 0) (y := 0)).1
  · have hj : j < NO_steps (stp b 9 0 0) - 1 := hj
    show OPX (NO_op (stp b 9 0 0)) (NO_opA (stp b 9 0 0)) (NO_opB (stp b 9 0 0)) (NO_steps (stp b 9 0 0) - 1) j
    rw [hm1] at hj ⊢
    obtain ⟨y1, y2, y3⟩ := stp_f (a := b) (o := 9) (x := 0) (y := 0) c2' j j0 hj
    exact OPX_mv y1 y2 y3 (Int32.le_refl _) (c5 j j0 hj)
