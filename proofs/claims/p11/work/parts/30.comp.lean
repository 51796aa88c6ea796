/-! The reference's patterns: rows of nodes as lists, size -/
def CL (X : Nat → Int32) : List Int32 → Int32 → Prop
  | [], k => k = -1
  | y :: L, k => y = k ∧ 0 ≤ k ∧ CL X L (X (gi k))
theorem CL_ex {X : Nat → Int32} {m : Int32} {Q : Nat → Int32 → Prop} (hq : ∀ i k, Q i k → 0 ≤ k ∧ k < m ∧ (X (gi k) = -1 ∨ (k < X (gi k) ∧ Q (i + 1) (X (gi k))))) :
    ∀ (f i : Nat) (k : Int32), (k = -1 ∨ (Q i k ∧ (m.toInt - k.toInt).toNat < f)) → ∃ L, CL X L k ∧ L.length ≤ f ∧ ∀ (j : Nat) (y : Int32), L[j]? = some y → Q (i + j) y := by
  intro f
  induction f with
  | zero =>
    intro i k h
    rcases h with h | h
    · exact ⟨[], h, Nat.le_refl _, fun j y e => by cases e⟩
    · exact absurd h.2 (Nat.not_lt_zero _)
  | succ f ih =>
    intro i k h
    rcases h with h | ⟨h, hf⟩
    · exact ⟨[], h, Nat.zero_le _, fun j y e => by cases e⟩
    · obtain ⟨k0, km, hx⟩ := hq i k h
      have hx2 : X (gi k) = -1 ∨ (Q (i + 1) (X (gi k)) ∧ (m.toInt - (X (gi k)).toInt).toNat < f) := by
        rcases hx with e | ⟨e1, e2⟩
        · exact Or.inl e
        · right
          refine ⟨e2, ?_⟩
          have l1 := Int32.lt_iff_toInt_lt.mp e1
          have l2 := Int32.lt_iff_toInt_lt.mp km
          omega
      obtain ⟨L, h1, h2, h3⟩ := ih (i + 1) _ hx2
      refine ⟨k :: L, ⟨rfl, k0, h1⟩, Nat.succ_le_succ h2, fun j y e => ?_⟩
      cases j with
      | zero => cases e; exact h
      | succ j =>
        have := h3 j y e
        rwa [show i + (j + 1) = i + 1 + j by omega]
theorem lp_stop {σ : Type} {f : σ → Option (Nat × σ)} {z : σ} {N : Nat} {P : Nat × σ → Prop} (h : o_ok (f z) (fun q => q.1 ≠ 0 ∧ P q)) : o_ok (o_lp (N + 1) f z) P := by
  show o_ok (o_bd (f z) fun q => if q.1 = 0 then o_lp N f q.2 else some q) P
  refine o_okB h ?_
  intro q ⟨h0, hp⟩
  exact o_okI (fun e => absurd e h0) (fun _ => o_okS hp)
theorem lp_go {σ : Type} {f : σ → Option (Nat × σ)} {z : σ} {N : Nat} {P : Nat × σ → Prop} (h : o_ok (f z) (fun q => q.1 = 0 ∧ o_ok (o_lp N f q.2) P)) : o_ok (o_lp (N + 1) f z) P := by
  show o_ok (o_bd (f z) fun q => if q.1 = 0 then o_lp N f q.2 else some q) P
  refine o_okB h ?_
  intro q ⟨h0, hp⟩
  exact o_okI (fun _ => hp) (fun e => absurd h0 e)
theorem i64a {a b : Int64} (h1 : -4611686018427387904 ≤ a.toInt + b.toInt) (h2 : a.toInt + b.toInt ≤ 4611686018427387903) : (a + b).toInt = a.toInt + b.toInt := by
  rw [Int64.toInt_add]
  apply Int.bmod_eq_of_le <;> omega
theorem i64s {a b : Int64} (h1 : -4611686018427387904 ≤ a.toInt - b.toInt) (h2 : a.toInt - b.toInt ≤ 4611686018427387903) : (a - b).toInt = a.toInt - b.toInt := by
  rw [Int64.toInt_sub]
  apply Int.bmod_eq_of_le <;> omega
theorem i64m {a b : Int64} (h1 : -4611686018427387904 ≤ a.toInt * b.toInt) (h2 : a.toInt * b.toInt ≤ 4611686018427387903) : (a * b).toInt = a.toInt * b.toInt := by
  rw [Int64.toInt_mul]
  apply Int.bmod_eq_of_le <;> omega
def sumI (sv : Int32 → Int64) : List Int32 → Int
  | [] => 0
  | y :: L => (sv y).toInt + sumI sv L
theorem i64min {v : Int64} (h0 : 0 ≤ v.toInt) : 0 ≤ (if (1000000:Int64) < v then (1000000:Int64) else v).toInt ∧ (if (1000000:Int64) < v then (1000000:Int64) else v).toInt ≤ 1000000 ∧ ((if (1000000:Int64) < v then (1000000:Int64) else v).toInt ≤ 999999 → (if (1000000:Int64) < v then (1000000:Int64) else v).toInt = v.toInt) := by
  have z : (1000000 : Int64).toInt = 1000000 := rfl
  by_cases h : (1000000:Int64) < v
  · rw [if_pos h, z]
    exact ⟨by omega, by omega, fun h => by omega⟩
  · rw [if_neg h]
    have h2 : ¬ (1000000 : Int64).toInt < v.toInt := fun e => h (Int64.lt_iff_toInt_lt.mpr e)
    rw [z] at h2
    exact ⟨h0, by omega, fun _ => rfl⟩
theorem size_lp {n : Nat} {rec : Int32 → SNP → Option Int64} {x : Int32} {s : SNP} {sv : Int32 → Int64} : ∀ (L : List Int32) (N : Nat) (a : Int64) (k : Int32), L.length < N → CL (NP_nodeNext s) L k →
    (∀ y ∈ L, y < 16000 ∧ rec y s = some (sv y) ∧ 0 ≤ (sv y).toInt ∧ (sv y).toInt ≤ 1010000) → 0 ≤ a.toInt → a.toInt ≤ 1000000 →
    o_ok (o_lp N (m_MM_size_b60 n rec x s) (a, k)) (fun q => 0 ≤ q.2.1.toInt ∧ q.2.1.toInt ≤ 1000000 ∧ (q.2.1.toInt ≤ 999999 → q.2.1.toInt = a.toInt + sumI sv L)) := by
  intro L
  induction L with
  | nil =>
    intro N a k hN hL _ a0 a1
    obtain ⟨M, rfl⟩ : ∃ M, N = M + 1 := ⟨N - 1, by have : 0 < N := hN; omega⟩
    have hk : k = -1 := hL
    subst hk
    refine lp_stop ?_
    unfold m_MM_size_b60
    refine o_okI (fun _ => o_okS ⟨Nat.succ_ne_zero 0, a0, a1, fun _ => ?_⟩) (fun c => absurd (show (-1:Int32) < 0 by decide) c)
    show a.toInt = a.toInt + 0
    omega
  | cons y L ih =>
    intro N a k hN hL hy a0 a1
    obtain ⟨M, rfl⟩ : ∃ M, N = M + 1 := ⟨N - 1, by have := Nat.lt_of_le_of_lt (Nat.zero_le _) hN; omega⟩
    obtain ⟨e, k0, hL⟩ := hL
    subst e
    obtain ⟨y1, y2, y3, y4⟩ := hy y List.mem_cons_self
    refine lp_go ?_
    unfold m_MM_size_b60
    refine o_okI (fun c => absurd k0 (by have c : y < 0 := c; clear ih; grind)) (fun _ => ?_)
    refine o_okB (o_okE y2) ?_
    intro v hv
    subst hv
    refine o_okN (fun a' ea => ?_)
    refine o_okG (o_inM (m := 16000) rfl k0 y1) ?_
    refine o_okN (fun k' ek => ?_)
    have es := i64a (a := a) (b := sv y) (by omega) (by omega)
    have em := i64min (v := a + sv y) (by omega)
    rw [← ea] at em
    refine o_okS ⟨rfl, ?_⟩
    refine o_okW (ih M a' k' (by have : (y :: L).length = L.length + 1 := rfl; omega) (by rw [ek]; exact hL) (fun w hw => hy w (List.mem_cons_of_mem _ hw)) em.1 em.2.1) ?_
    intro q ⟨q1, q2, q3⟩
    refine ⟨q1, q2, fun h => ?_⟩
    have h3 := q3 h
    have : 0 ≤ sumI sv L := by
      clear ih hL q3 h3
      have hz : ∀ w ∈ L, 0 ≤ (sv w).toInt := fun w hw => (hy w (List.mem_cons_of_mem _ hw)).2.2.1
      clear hy
      induction L with
      | nil => exact Int.le_refl _
      | cons u L ih2 =>
        have u1 := hz u List.mem_cons_self
        have u2 := ih2 (by have : (y :: u :: L).length = (y :: L).length + 1 := rfl; omega) (fun w hw => hz w (List.mem_cons_of_mem _ hw))
        show 0 ≤ (sv u).toInt + sumI sv L
        omega
    have h4 := em.2.2 (by omega)
    show q.2.1.toInt = a.toInt + ((sv y).toInt + sumI sv L)
    omega
/-- the rows and elements below a node, as lists -/
theorem chain4 {s : SNP} {g : GH} {x : Int32} (hI : I_NP s) (hg : GN s g) (x0 : 0 ≤ x) (xm : x < NP_nodes s) (hk : NP_nodeKind s (gi x) = 4) : ∃ L, CL (NP_nodeNext s) L (NP_nodeA s (gi x)) ∧ L.length ≤ 20000 ∧ ∀ y ∈ L, 0 ≤ y ∧ y < NP_nodes s ∧ (g (gi y)).1 < (g (gi x)).1 ∧ (NP_nodeKind s (gi y) = 5 → 1 ≤ NP_nodeB s (gi y)) := by
  have i := sc_NP hI
  have hm := Int32.le_iff_toInt_le.mp i.2.2.2.2.1
  have z1 : (15000 : Int32).toInt = 15000 := rfl
  rw [z1] at hm
  obtain ⟨L, h1, h2, h3⟩ := CL_ex (X := NP_nodeNext s) (m := NP_nodes s) (Q := fun _ k => 0 ≤ k ∧ k < NP_nodes s ∧ (g (gi k)).2.1 ≤ (g (gi x)).1 ∧ (NP_nodeKind s (gi k) = 5 → 1 ≤ NP_nodeB s (gi k)))
    (fun _ k ⟨q1, q2, q3, q4⟩ => by
      refine ⟨q1, q2, ?_⟩
      rcases (hg k q1 q2).2.1 with e | ⟨d1, d2, d3, d4, d5⟩
      · exact Or.inl e
      · exact Or.inr ⟨d1, Int32.le_of_lt (Int32.lt_of_le_of_lt q1 d1), d2, Nat.le_trans d3 q3, d4⟩) 20000 0 (NP_nodeA s (gi x)) (by
      rcases (hg x x0 xm).2.2.1 hk with e | ⟨d1, d2, d3, d4⟩
      · exact Or.inl e
      · refine Or.inr ⟨⟨d1, d2, d3, d4⟩, ?_⟩
        have d1 := Int32.le_iff_toInt_le.mp d1
        have z0 : (0 : Int32).toInt = 0 := rfl
        rw [z0] at d1
        omega)
  refine ⟨L, h1, h2, fun y hy => ?_⟩
  obtain ⟨j, hj⟩ := List.getElem?_of_mem hy
  obtain ⟨q1, q2, q3, q4⟩ := h3 j y hj
  exact ⟨q1, q2, Nat.lt_of_lt_of_le (hg y q1 q2).1.1 q3, q4⟩
theorem chain5 {s : SNP} {g : GH} {x : Int32} (hI : I_NP s) (hg : GN s g) (x0 : 0 ≤ x) (xm : x < NP_nodes s) (hk : NP_nodeKind s (gi x) = 5) (hB : 1 ≤ NP_nodeB s (gi x)) : ∃ L, CL (NP_nodeNext s) L (NP_nodeA s (gi x)) ∧ L.length ≤ 20000 ∧ (L.length : Int) ≤ (NP_nodeB s (gi x)).toInt ∧ ∀ y ∈ L, 0 ≤ y ∧ y < NP_nodes s ∧ (g (gi y)).1 < (g (gi x)).1 ∧ NP_nodeKind s (gi y) = 4 := by
  have i := sc_NP hI
  have hm := Int32.le_iff_toInt_le.mp i.2.2.2.2.1
  have z1 : (15000 : Int32).toInt = 15000 := rfl
  rw [z1] at hm
  have hB := Int32.le_iff_toInt_le.mp hB
  have z2 : (1 : Int32).toInt = 1 := rfl
  rw [z2] at hB
  obtain ⟨L, h1, h2, h3⟩ := CL_ex (X := NP_nodeNext s) (m := NP_nodes s) (Q := fun i k => 0 ≤ k ∧ k < NP_nodes s ∧ (g (gi k)).2.1 ≤ (g (gi x)).1 ∧ NP_nodeKind s (gi k) = 4 ∧ (g (gi k)).2.2.1 = x ∧ (g (gi k)).2.2.2 = i ∧ (i : Int) ≤ (NP_nodeB s (gi x)).toInt)
    (fun _ k ⟨q1, q2, q3, q4, q5, q6, q7⟩ => by
      refine ⟨q1, q2, ?_⟩
      rcases (hg k q1 q2).2.1 with e | ⟨d1, d2, d3, d4, d5⟩
      · exact Or.inl e
      · obtain ⟨f1, f2, f3, f4, f5, f6⟩ := d5 q4
        rw [q5] at f2 f6
        rw [q6] at f3
        rw [f3] at f6
        exact Or.inr ⟨d1, Int32.le_of_lt (Int32.lt_of_le_of_lt q1 d1), d2, Nat.le_trans d3 q3, f1, f2, f3, f6⟩) 20000 1 (NP_nodeA s (gi x)) (by
      rcases ((hg x x0 xm).2.2.2.1 hk).1 with e | ⟨d1, d2, d3, d4, d5, d6⟩
      · exact Or.inl e
      · refine Or.inr ⟨⟨d1, d2, d3, d4, d5, d6, hB⟩, ?_⟩
        have d1 := Int32.le_iff_toInt_le.mp d1
        have z0 : (0 : Int32).toInt = 0 := rfl
        rw [z0] at d1
        omega)
  refine ⟨L, h1, h2, ?_, fun y hy => ?_⟩
  · by_cases hl : L.length = 0
    · rw [hl]; omega
    · have hlt : L.length - 1 < L.length := by omega
      have := (h3 (L.length - 1) L[L.length - 1] (List.getElem?_eq_getElem hlt)).2.2.2.2.2.2
      omega
  · obtain ⟨j, hj⟩ := List.getElem?_of_mem hy
    obtain ⟨q1, q2, q3, q4, q5, q6, q7⟩ := h3 j y hj
    exact ⟨q1, q2, Nat.lt_of_lt_of_le (hg y q1 q2).1.1 q3, q4⟩
/-! The reference's patterns: compile -/
def kv (v : Int) : Int := if v ≤ 0 then 0 else 3 * v - 1
theorem kv_0 (v : Int) : 0 ≤ kv v := by unfold kv; split <;> omega
theorem kv_add {a b : Int} (ha : 0 ≤ a) (hb : 0 ≤ b) : kv a + kv b ≤ kv (a + b) := by
  unfold kv
  repeat' split
  all_goals omega
theorem kv_ways {a t u : Int} (ha : 0 ≤ a) (ht : 0 ≤ t) (htu : t ≤ u) : kv a + 2 * t ≤ kv (a + u) := by
  unfold kv
  repeat' split
  all_goals omega
def kvs (sv : Int32 → Int64) : List Int32 → Int
  | [] => 0
  | y :: L => kv (sv y).toInt + kvs sv L
theorem kvs_0 {sv : Int32 → Int64} : ∀ L, 0 ≤ kvs sv L := by
  intro L
  induction L with
  | nil => exact Int.le_refl _
  | cons y L ih => have := kv_0 (sv y).toInt; show 0 ≤ kv (sv y).toInt + kvs sv L; omega
theorem sumI_0 {sv : Int32 → Int64} : ∀ L, (∀ y ∈ L, 0 ≤ (sv y).toInt) → 0 ≤ sumI sv L := by
  intro L
  induction L with
  | nil => intro _; exact Int.le_refl _
  | cons y L ih =>
    intro h
    have h1 := h y List.mem_cons_self
    have h2 := ih (fun w hw => h w (List.mem_cons_of_mem _ hw))
    show 0 ≤ (sv y).toInt + sumI sv L
    omega
theorem kvs_le {sv : Int32 → Int64} : ∀ L, (∀ y ∈ L, 0 ≤ (sv y).toInt) → kvs sv L ≤ kv (sumI sv L) := by
  intro L
  induction L with
  | nil => intro _; exact kv_0 0
  | cons y L ih =>
    intro h
    have h1 := h y List.mem_cons_self
    have hr := fun w hw => h w (List.mem_cons_of_mem y hw)
    have h2 := ih hr
    have h3 := kv_add h1 (sumI_0 L hr)
    show kv (sv y).toInt + kvs sv L ≤ kv ((sv y).toInt + sumI sv L)
    omega
theorem sumI_mem {sv : Int32 → Int64} : ∀ L, (∀ y ∈ L, 0 ≤ (sv y).toInt) → ∀ y ∈ L, (sv y).toInt ≤ sumI sv L := by
  intro L
  induction L with
  | nil => intro _ y h; cases h
  | cons u L ih =>
    intro h y hy
    have h1 := h u List.mem_cons_self
    have hr := fun w hw => h w (List.mem_cons_of_mem u hw)
    have h0 := sumI_0 L hr
    show (sv y).toInt ≤ (sv u).toInt + sumI sv L
    rcases List.mem_cons.mp hy with e | e
    · rw [e]; omega
    · have := ih hr y e; omega
def OPX (O A B : Nat → Int32) (hi j : Int32) : Prop := (1 ≤ O (gi j) ∧ O (gi j) ≤ 5) ∧ (O (gi j) = 1 → 0 ≤ A (gi j) ∧ A (gi j) < 8000) ∧ (O (gi j) = 4 → (0 ≤ A (gi j) ∧ A (gi j) ≤ hi) ∧ 0 ≤ B (gi j) ∧ B (gi j) ≤ hi) ∧ (O (gi j) = 5 → 0 ≤ A (gi j) ∧ A (gi j) ≤ hi)
theorem OPX_mv {O A B O' A' B' : Nat → Int32} {hi hi' j : Int32} (e1 : O' (gi j) = O (gi j)) (e2 : A' (gi j) = A (gi j)) (e3 : B' (gi j) = B (gi j)) (h : hi ≤ hi') (k : OPX O A B hi j) : OPX O' A' B' hi' j := by
  unfold OPX at k ⊢
  rw [e1, e2, e3]
  exact ⟨k.1, k.2.1, fun e => ⟨⟨(k.2.2.1 e).1.1, Int32.le_trans (k.2.2.1 e).1.2 h⟩, (k.2.2.1 e).2.1, Int32.le_trans (k.2.2.1 e).2.2 h⟩, fun e => ⟨(k.2.2.2 e).1, Int32.le_trans (k.2.2.2 e).2 h⟩⟩
/-- the steps below m are as they were -/
def FRO (m : Int32) (a b : SNO) : Prop := ∀ j : Int32, 0 ≤ j → j < m → NO_op b (gi j) = NO_op a (gi j) ∧ NO_opA b (gi j) = NO_opA a (gi j) ∧ NO_opB b (gi j) = NO_opB a (gi j)
theorem FRO_trans {m m' : Int32} {a b c : SNO} (hm : m ≤ m') (h : FRO m a b) (k : FRO m' b c) : FRO m a c := fun j h0 hj => by
  obtain ⟨x1, x2, x3⟩ := h j h0 hj
  obtain ⟨y1, y2, y3⟩ := k j h0 (Int32.lt_of_lt_of_le hj hm)
  exact ⟨y1.trans x1, y2.trans x2, y3.trans x3⟩
theorem i32irr {a : Int32} (h : a < a) : False := by
  have := Int32.lt_iff_toInt_lt.mp h
  omega
def CP (a b : SNO) (k : Int) : Prop := 0 ≤ NO_steps a ∧ NO_steps a ≤ NO_steps b ∧ (NO_steps b).toInt ≤ (NO_steps a).toInt + k ∧ FRO (NO_steps a) a b ∧ ∀ j : Int32, NO_steps a ≤ j → j < NO_steps b → OPX (NO_op b) (NO_opA b) (NO_opB b) (NO_steps b) j
theorem CP_rfl {a : SNO} {k : Int} (h : 0 ≤ NO_steps a) (hk : 0 ≤ k) : CP a a k := ⟨h, Int32.le_refl _, by omega, fun _ _ _ => ⟨rfl, rfl, rfl⟩, fun j h1 h2 => (i32irr (Int32.lt_of_le_of_lt h1 h2)).elim⟩
theorem CP_mono {a b : SNO} {k l : Int} (h : CP a b k) (hk : k ≤ l) : CP a b l := ⟨h.1, h.2.1, by have := h.2.2.1; omega, h.2.2.2⟩
theorem CP_trans {a b c : SNO} {k l : Int} (h : CP a b k) (g : CP b c l) : CP a c (k + l) := by
  obtain ⟨a1, a2, a3, a4, a5⟩ := h
  obtain ⟨b1, b2, b3, b4, b5⟩ := g
  refine ⟨a1, Int32.le_trans a2 b2, by omega, FRO_trans a2 a4 b4, fun j h1 h2 => ?_⟩
  by_cases hj : j < NO_steps b
  · obtain ⟨e1, e2, e3⟩ := b4 j (Int32.le_trans a1 h1) hj
    exact OPX_mv e1 e2 e3 b2 (a5 j h1 hj)
  · exact b5 j (Int32.not_lt.mp hj) h2
def stp (a : SNO) (o x y : Int32) : SNO := NO_mk (upd (NO_op a) (gi (NO_steps a)) o) (upd (NO_opA a) (gi (NO_steps a)) x) (upd (NO_opB a) (gi (NO_steps a)) y) (NO_steps a + 1)
theorem s_step {a : SNO} {o x y : Int32} (h0 : 0 ≤ NO_steps a) (h1 : (NO_steps a).toInt < 25000) : o_ok (m_MM_step o x y a) (fun r => r = (NO_steps a, stp a o x y)) := by
  have g : o_in (NO_steps a) 25000 = true := o_inM (m := 25000) rfl h0 (Int32.lt_iff_toInt_lt.mpr h1)
  unfold m_MM_step
  exact o_okG g (o_okG g (o_okG g (o_okS rfl)))
theorem stp_n {a : SNO} {o x y : Int32} (h0 : 0 ≤ NO_steps a) (h1 : (NO_steps a).toInt < 25000) : (NO_steps (stp a o x y)).toInt = (NO_steps a).toInt + 1 ∧ NO_steps a < NO_steps (stp a o x y) ∧ 0 ≤ NO_steps (stp a o x y) := by
  have l : NO_steps a < 25000 := Int32.lt_iff_toInt_lt.mpr h1
  refine ⟨o_add1 (Int32.lt_trans l (by decide)), ?_, ?_⟩
  · show NO_steps a < NO_steps a + 1
    grind
  · show 0 ≤ NO_steps a + 1
    grind
theorem stp_f {a : SNO} {o x y : Int32} (h0 : 0 ≤ NO_steps a) : FRO (NO_steps a) a (stp a o x y) := fun j j0 hj => by
  have nn := o_nev j0 h0 hj
  exact ⟨o_updN nn, o_updN nn, o_updN nn⟩
theorem stp_e {a : SNO} {o x y : Int32} : NO_op (stp a o x y) (gi (NO_steps a)) = o ∧ NO_opA (stp a o x y) (gi (NO_steps a)) = x ∧ NO_opB (stp a o x y) (gi (NO_steps a)) = y := ⟨o_updE, o_updE, o_updE⟩
theorem stp_eq {a : SNO} {o x y j : Int32} (h1 : NO_steps a ≤ j) (h2 : j < NO_steps (stp a o x y)) (h0 : 0 ≤ NO_steps a) (hl : (NO_steps a).toInt < 25000) : j = NO_steps a := by
  have e := (stp_n (o := o) (x := x) (y := y) h0 hl).1
  have h1 := Int32.le_iff_toInt_le.mp h1
  have h2 := Int32.lt_iff_toInt_lt.mp h2
  apply Int32.toInt_inj.mp
  omega
/-- a step more -/
def STP (a b : SNO) (o x y : Int32) : Prop := ((NO_steps b).toInt = (NO_steps a).toInt + 1 ∧ NO_steps a < NO_steps b ∧ 0 ≤ NO_steps b) ∧ FRO (NO_steps a) a b ∧ NO_op b (gi (NO_steps a)) = o ∧ NO_opA b (gi (NO_steps a)) = x ∧ NO_opB b (gi (NO_steps a)) = y
theorem stp_P {a : SNO} {o x y : Int32} (h0 : 0 ≤ NO_steps a) (h1 : (NO_steps a).toInt < 25000) : STP a (stp a o x y) o x y := ⟨stp_n h0 h1, stp_f h0, stp_e⟩
theorem STP_eq {a b : SNO} {o x y j : Int32} (h : STP a b o x y) (h1 : NO_steps a ≤ j) (h2 : j < NO_steps b) : j = NO_steps a := by
  have e := h.1.1
  have h1 := Int32.le_iff_toInt_le.mp h1
  have h2 := Int32.lt_iff_toInt_lt.mp h2
  apply Int32.toInt_inj.mp
  omega
theorem mk_op {a b c : Nat → Int32} {d : Int32} : NO_op (NO_mk a b c d) = a := rfl
theorem mk_A {a b c : Nat → Int32} {d : Int32} : NO_opA (NO_mk a b c d) = b := rfl
theorem mk_B {a b c : Nat → Int32} {d : Int32} : NO_opB (NO_mk a b c d) = c := rfl
theorem mk_n {a b c : Nat → Int32} {d : Int32} : NO_steps (NO_mk a b c d) = d := rfl
/-- one step that jumps nowhere -/
theorem CP_leaf {a : SNO} {o x : Int32} (h0 : 0 ≤ NO_steps a) (h1 : (NO_steps a).toInt < 25000) (ho : o = 1 ∨ o = 2 ∨ o = 3) (hx : o = 1 → 0 ≤ x ∧ x < 8000) : CP a (stp a o x 0) 2 := by
  obtain ⟨n1, n2, n3⟩ := stp_n (o := o) (x := x) (y := 0) h0 h1
  refine ⟨h0, Int32.le_of_lt n2, by omega, stp_f h0, fun j j1 j2 => ?_⟩
  have e := stp_eq j1 j2 h0 h1
  subst e
  obtain ⟨e1, e2, e3⟩ := stp_e (a := a) (o := o) (x := x) (y := 0)
  unfold OPX
  rw [e1, e2, e3]
  refine ⟨?_, hx, fun e => ?_, fun e => ?_⟩
  · rcases ho with h | h | h <;> rw [h] <;> decide
  · rcases ho with h | h | h <;> rw [h] at e <;> exact absurd e (by decide)
  · rcases ho with h | h | h <;> rw [h] at e <;> exact absurd e (by decide)
/-- what a child's compiling is taken to do -/
def CC (rec : Int32 → SNP → SNO → Option SNO) (s : SNP) (y : Int32) (v : Int) : Prop := ∀ b : SNO, 0 ≤ NO_steps b → (NO_steps b).toInt + kv v ≤ 24000 → o_ok (rec y s b) (fun r => CP b r (kv v))
theorem row_lp {n : Nat} {rec : Int32 → SNP → SNO → Option SNO} {s : SNP} {sv : Int32 → Int64} : ∀ (L : List Int32) (N : Nat) (k : Int32) (b : SNO), L.length < N → CL (NP_nodeNext s) L k → (∀ y ∈ L, y < 16000 ∧ CC rec s y (sv y).toInt) → 0 ≤ NO_steps b → (NO_steps b).toInt + kvs sv L ≤ 24000 →
    o_ok (o_lp N (m_MM_compile_b89 n rec s) (k, b)) (fun q => CP b q.2.2 (kvs sv L)) := by
  intro L
  induction L with
  | nil =>
    intro N k b hN hL _ b0 hb
    obtain ⟨M, rfl⟩ : ∃ M, N = M + 1 := ⟨N - 1, by have : 0 < N := hN; omega⟩
    have hk : k = -1 := hL
    subst hk
    refine lp_stop ?_
    unfold m_MM_compile_b89
    exact o_okI (fun _ => o_okS ⟨Nat.succ_ne_zero 0, CP_rfl b0 (Int.le_refl _)⟩) (fun c => absurd (show (-1:Int32) < 0 by decide) c)
  | cons y L ih =>
    intro N k b hN hL hy b0 hb
    obtain ⟨M, rfl⟩ : ∃ M, N = M + 1 := ⟨N - 1, by have := Nat.lt_of_le_of_lt (Nat.zero_le _) hN; omega⟩
    obtain ⟨e, k0, hL⟩ := hL
    subst e
    have hb : (NO_steps b).toInt + (kv (sv y).toInt + kvs sv L) ≤ 24000 := hb
    have hs := kvs_0 (sv := sv) L
    obtain ⟨y1, y2⟩ := hy y List.mem_cons_self
    refine lp_go ?_
    unfold m_MM_compile_b89
    refine o_okI (fun c => absurd k0 (by have c : y < 0 := c; clear ih; grind)) (fun _ => ?_)
    refine o_okB (y2 b b0 (by omega)) ?_
    intro b1 h1
    refine o_okG (o_inM (m := 16000) rfl k0 y1) ?_
    refine o_okN (fun k' ek => ?_)
    refine o_okS ⟨rfl, ?_⟩
    have h13 := h1.2.2.1
    refine o_okW (ih M k' b1 (by have : (y :: L).length = L.length + 1 := rfl; omega) (by rw [ek]; exact hL) (fun w hw => hy w (List.mem_cons_of_mem _ hw)) (Int32.le_trans h1.1 h1.2.1) (by omega)) ?_
    intro q hq
    exact CP_trans h1 hq
/-- open jumps, linked downwards -/
def PL (O A : Nat → Int32) (c5 lo : Int32) : List Int32 → Int32 → Int32 → Prop
  | [], _, c => c = -1
  | y :: P, hi, c => y = c ∧ lo ≤ c ∧ c < hi ∧ O (gi c) = c5 ∧ PL O A c5 lo P c (A (gi c))
theorem PL_mv {O A O' A' : Nat → Int32} {c5 lo : Int32} (l0 : 0 ≤ lo) : ∀ (P : List Int32) (hi hi' c : Int32), hi ≤ hi' → (∀ j : Int32, lo ≤ j → j < hi → O' (gi j) = O (gi j) ∧ A' (gi j) = A (gi j)) → PL O A c5 lo P hi c → PL O' A' c5 lo P hi' c := by
  intro P
  induction P with
  | nil => intro hi hi' c _ _ h; exact h
  | cons y P ih =>
    intro hi hi' c hh he h
    obtain ⟨a1, a2, a3, a4, a5⟩ := h
    obtain ⟨e1, e2⟩ := he c a2 a3
    refine ⟨a1, a2, Int32.lt_of_lt_of_le a3 hh, e1.trans a4, ?_⟩
    rw [e2]
    exact ih c c (A (gi c)) (Int32.le_refl _) (fun j j1 j2 => he j j1 (Int32.lt_trans j2 a3)) a5
/-- the steps behind a, with open jumps (kind 5: by opA; kind 4: by opB) -/
def WL (k5 : Bool) (a b : SNO) (P : List Int32) (c : Int32) (t : Int) : Prop := 0 ≤ NO_steps a ∧ NO_steps a ≤ NO_steps b ∧ (NO_steps b).toInt ≤ (NO_steps a).toInt + t ∧ FRO (NO_steps a) a b ∧
  PL (NO_op b) (if k5 then NO_opA b else NO_opB b) (if k5 then 5 else 4) (NO_steps a) P (NO_steps b) c ∧
  ∀ j : Int32, NO_steps a ≤ j → j < NO_steps b → OPX (NO_op b) (NO_opA b) (NO_opB b) (NO_steps b) j ∨ (j ∈ P ∧ (k5 = false → 0 ≤ NO_opA b (gi j) ∧ NO_opA b (gi j) ≤ NO_steps b))
theorem WL_CP {k5 : Bool} {a b c : SNO} {P : List Int32} {x : Int32} {t k : Int} (h : WL k5 a b P x t) (g : CP b c k) : WL k5 a c P x (t + k) := by
  obtain ⟨a1, a2, a3, a4, a5, a6⟩ := h
  obtain ⟨b1, b2, b3, b4, b5⟩ := g
  refine ⟨a1, Int32.le_trans a2 b2, by omega, FRO_trans a2 a4 b4, PL_mv a1 P _ _ x b2 (fun j j1 j2 => ?_) a5, fun j j1 j2 => ?_⟩
  · obtain ⟨e1, e2, e3⟩ := b4 j (Int32.le_trans a1 j1) j2
    cases k5 with
    | true => exact ⟨e1, e2⟩
    | false => exact ⟨e1, e3⟩
  · by_cases hj : j < NO_steps b
    · obtain ⟨e1, e2, e3⟩ := b4 j (Int32.le_trans a1 j1) hj
      rcases a6 j j1 hj with h | ⟨h1, h2⟩
      · exact Or.inl (OPX_mv e1 e2 e3 b2 h)
      · refine Or.inr ⟨h1, fun z => ?_⟩
        rw [e2]
        exact ⟨(h2 z).1, Int32.le_trans (h2 z).2 b2⟩
    · exact Or.inl (b5 j (Int32.not_lt.mp hj) j2)
theorem patch5 {n : Nat} {rec : Int32 → SNP → SNO → Option SNO} {s : SNP} {a : SNO} {t : Int} : ∀ (P : List Int32) (N : Nat) (c : Int32) (b : SNO), P.length < N → WL true a b P c t → (NO_steps b).toInt ≤ 25000 → o_ok (o_lp N (m_MM_compile_b189 n rec s) (c, b)) (fun q => CP a q.2.2 t) := by
  intro P
  induction P with
  | nil =>
    intro N c b hN h _
    obtain ⟨M, rfl⟩ : ∃ M, N = M + 1 := ⟨N - 1, by have : 0 < N := hN; omega⟩
    obtain ⟨a1, a2, a3, a4, a5, a6⟩ := h
    have hc : c = -1 := a5
    subst hc
    refine lp_stop ?_
    unfold m_MM_compile_b189
    refine o_okI (fun _ => o_okS ⟨Nat.succ_ne_zero 0, a1, a2, a3, a4, fun j j1 j2 => ?_⟩) (fun c => absurd (show (-1:Int32) < 0 by decide) c)
    rcases a6 j j1 j2 with h | ⟨h, _⟩
    · exact h
    · cases h
  | cons y P ih =>
    intro N c b hN h hl
    obtain ⟨M, rfl⟩ : ∃ M, N = M + 1 := ⟨N - 1, by have := Nat.lt_of_le_of_lt (Nat.zero_le _) hN; omega⟩
    obtain ⟨a1, a2, a3, a4, ⟨p1, p2, p3, p4, p5⟩, a6⟩ := h
    subst p1
    have c0 : 0 ≤ y := Int32.le_trans a1 p2
    have g : o_in y 25000 = true := by
      refine o_inM (m := 25000) rfl c0 ?_
      have p3 := Int32.lt_iff_toInt_lt.mp p3
      have z : (25000 : Int32).toInt = 25000 := rfl
      rw [Int32.lt_iff_toInt_lt, z]
      omega
    refine lp_go ?_
    unfold m_MM_compile_b189
    refine o_okI (fun c => absurd c0 (by have c : y < 0 := c; clear ih; grind)) (fun _ => ?_)
    refine o_okG g (o_okN (fun x ex => o_okG g (o_okS ⟨rfl, ?_⟩)))
    refine ih M x _ (by have : (y :: P).length = P.length + 1 := rfl; omega) ⟨a1, a2, a3, fun j j0 hj => ?_, ?_, fun j j1 j2 => ?_⟩ hl
    · obtain ⟨e1, e2, e3⟩ := a4 j j0 hj
      refine ⟨e1, ?_, e3⟩
      show upd (NO_opA b) (gi y) (NO_steps b) (gi j) = _
      rw [o_updN (o_nev j0 c0 (Int32.lt_of_lt_of_le hj p2))]; exact e2
    · rw [ex]
      exact PL_mv a1 P y (NO_steps b) _ (Int32.le_of_lt p3) (fun j j1 j2 => ⟨rfl, o_updN (o_nev (Int32.le_trans a1 j1) c0 j2)⟩) p5
    · by_cases hj : j = y
      · left
        subst hj
        unfold OPX
        show (1 ≤ NO_op b (gi j) ∧ NO_op b (gi j) ≤ 5) ∧ (NO_op b (gi j) = 1 → 0 ≤ upd (NO_opA b) (gi j) (NO_steps b) (gi j) ∧ upd (NO_opA b) (gi j) (NO_steps b) (gi j) < 8000) ∧ (NO_op b (gi j) = 4 → (0 ≤ upd (NO_opA b) (gi j) (NO_steps b) (gi j) ∧ upd (NO_opA b) (gi j) (NO_steps b) (gi j) ≤ NO_steps b) ∧ 0 ≤ NO_opB b (gi j) ∧ NO_opB b (gi j) ≤ NO_steps b) ∧ (NO_op b (gi j) = 5 → 0 ≤ upd (NO_opA b) (gi j) (NO_steps b) (gi j) ∧ upd (NO_opA b) (gi j) (NO_steps b) (gi j) ≤ NO_steps b)
        have p4 : NO_op b (gi j) = 5 := p4
        rw [p4, o_updE]
        exact ⟨⟨by decide, by decide⟩, fun e => absurd e (by decide), fun e => absurd e (by decide), fun _ => ⟨Int32.le_trans a1 a2, Int32.le_refl _⟩⟩
      · have nn : gi j ≠ gi y := o_neq (Int32.le_trans a1 j1) c0 hj
        rcases a6 j j1 j2 with h | ⟨h1, h2⟩
        · exact Or.inl (OPX_mv rfl (o_updN nn) rfl (Int32.le_refl _) h)
        · rcases List.mem_cons.mp h1 with e | e
          · exact absurd e hj
          · exact Or.inr ⟨e, fun z => by cases z⟩
theorem patch4 {n : Nat} {rec : Int32 → SNP → SNO → Option SNO} {s : SNP} {a : SNO} {t : Int} : ∀ (P : List Int32) (N : Nat) (c : Int32) (b : SNO), P.length < N → WL false a b P c t → (NO_steps b).toInt ≤ 25000 → o_ok (o_lp N (m_MM_compile_b348 n rec s) (c, b)) (fun q => CP a q.2.2 t) := by
  intro P
  induction P with
  | nil =>
    intro N c b hN h _
    obtain ⟨M, rfl⟩ : ∃ M, N = M + 1 := ⟨N - 1, by have : 0 < N := hN; omega⟩
    obtain ⟨a1, a2, a3, a4, a5, a6⟩ := h
    have hc : c = -1 := a5
    subst hc
    refine lp_stop ?_
    unfold m_MM_compile_b348
    refine o_okI (fun _ => o_okS ⟨Nat.succ_ne_zero 0, a1, a2, a3, a4, fun j j1 j2 => ?_⟩) (fun c => absurd (show (-1:Int32) < 0 by decide) c)
    rcases a6 j j1 j2 with h | ⟨h, _⟩
    · exact h
    · cases h
  | cons y P ih =>
    intro N c b hN h hl
    obtain ⟨M, rfl⟩ : ∃ M, N = M + 1 := ⟨N - 1, by have := Nat.lt_of_le_of_lt (Nat.zero_le _) hN; omega⟩
    obtain ⟨a1, a2, a3, a4, ⟨p1, p2, p3, p4, p5⟩, a6⟩ := h
    subst p1
    have c0 : 0 ≤ y := Int32.le_trans a1 p2
    have g : o_in y 25000 = true := by
      refine o_inM (m := 25000) rfl c0 ?_
      have p3 := Int32.lt_iff_toInt_lt.mp p3
      have z : (25000 : Int32).toInt = 25000 := rfl
      rw [Int32.lt_iff_toInt_lt, z]
      omega
    refine lp_go ?_
    unfold m_MM_compile_b348
    refine o_okI (fun c => absurd c0 (by have c : y < 0 := c; clear ih; grind)) (fun _ => ?_)
    refine o_okG g (o_okN (fun x ex => o_okG g (o_okS ⟨rfl, ?_⟩)))
    have hA : 0 ≤ NO_opA b (gi y) ∧ NO_opA b (gi y) ≤ NO_steps b := by
      rcases a6 y p2 p3 with h | ⟨_, h⟩
      · exact (h.2.2.1 p4).1
      · exact h rfl
    refine ih M x _ (by have : (y :: P).length = P.length + 1 := rfl; omega) ⟨a1, a2, a3, fun j j0 hj => ?_, ?_, fun j j1 j2 => ?_⟩ hl
    · obtain ⟨e1, e2, e3⟩ := a4 j j0 hj
      refine ⟨e1, e2, ?_⟩
      show upd (NO_opB b) (gi y) (NO_steps b) (gi j) = _
      rw [o_updN (o_nev j0 c0 (Int32.lt_of_lt_of_le hj p2))]; exact e3
    · rw [ex]
      exact PL_mv a1 P y (NO_steps b) _ (Int32.le_of_lt p3) (fun j j1 j2 => ⟨rfl, o_updN (o_nev (Int32.le_trans a1 j1) c0 j2)⟩) p5
    · by_cases hj : j = y
      · left
        subst hj
        have p4 : NO_op b (gi j) = 4 := p4
        unfold OPX
        show (1 ≤ NO_op b (gi j) ∧ NO_op b (gi j) ≤ 5) ∧ (NO_op b (gi j) = 1 → 0 ≤ NO_opA b (gi j) ∧ NO_opA b (gi j) < 8000) ∧ (NO_op b (gi j) = 4 → (0 ≤ NO_opA b (gi j) ∧ NO_opA b (gi j) ≤ NO_steps b) ∧ 0 ≤ upd (NO_opB b) (gi j) (NO_steps b) (gi j) ∧ upd (NO_opB b) (gi j) (NO_steps b) (gi j) ≤ NO_steps b) ∧ (NO_op b (gi j) = 5 → 0 ≤ NO_opA b (gi j) ∧ NO_opA b (gi j) ≤ NO_steps b)
        rw [p4, o_updE]
        exact ⟨⟨by decide, by decide⟩, fun e => absurd e (by decide), fun _ => ⟨hA, Int32.le_trans a1 a2, Int32.le_refl _⟩, fun e => absurd e (by decide)⟩
      · have nn : gi j ≠ gi y := o_neq (Int32.le_trans a1 j1) c0 hj
        rcases a6 j j1 j2 with h | ⟨h1, h2⟩
        · exact Or.inl (OPX_mv rfl rfl (o_updN nn) (Int32.le_refl _) h)
        · rcases List.mem_cons.mp h1 with e | e
          · exact absurd e hj
          · exact Or.inr ⟨e, h2⟩
/-- a way that is not the last: a fork, the way, a jump that stays open -/
theorem way_it {a b b1 b2 b3 X : SNO} {P : List Int32} {c w : Int32} {t k : Int} (h : WL true a b P c t) (s1 : STP b b1 4 w 0) (hw : 0 ≤ w ∧ w ≤ NO_steps b1) (g : CP b1 b2 k) (s3 : STP b2 b3 5 c 0)
    (x1 : NO_op X = NO_op b3) (x2 : NO_opA X = NO_opA b3) (x3 : NO_opB X = upd (NO_opB b3) (gi (NO_steps b)) (NO_steps b3)) (x4 : NO_steps X = NO_steps b3) : WL true a X (NO_steps b2 :: P) (NO_steps b2) (t + k + 2) := by
  obtain ⟨a1, a2, a3, a4, a5, a6⟩ := h
  have b0 : 0 ≤ NO_steps b := Int32.le_trans a1 a2
  obtain ⟨⟨n1, n2, n3⟩, f1, d1, d2, d3⟩ := s1
  obtain ⟨c1, c2, c3, c4, c5⟩ := g
  have s3' := s3
  obtain ⟨⟨m1, m2, m3⟩, f2, e1, e2, e3⟩ := s3
  have lb2 : NO_steps b < NO_steps b2 := Int32.lt_of_lt_of_le n2 c2
  have fr : FRO (NO_steps b) b b3 := FRO_trans (Int32.le_of_lt lb2) (FRO_trans (Int32.le_of_lt n2) f1 c4) f2
  have lo2 : NO_steps a ≤ NO_steps b2 := Int32.le_trans a2 (Int32.le_of_lt lb2)
  refine ⟨a1, by rw [x4]; exact Int32.le_trans lo2 (Int32.le_of_lt m2), by rw [x4]; omega, fun j j0 hj => ?_, ⟨rfl, lo2, by rw [x4]; exact m2, by rw [x1]; exact e1, ?_⟩, fun j j1 j2 => ?_⟩
  · obtain ⟨u1, u2, u3⟩ := a4 j j0 hj
    have jb : j < NO_steps b := Int32.lt_of_lt_of_le hj a2
    obtain ⟨y1, y2, y3⟩ := fr j j0 jb
    rw [x1, x2, x3, o_updN (o_nev j0 b0 jb)]
    exact ⟨y1.trans u1, y2.trans u2, y3.trans u3⟩
  · show PL (NO_op X) (NO_opA X) 5 (NO_steps a) P (NO_steps b2) (NO_opA X (gi (NO_steps b2)))
    rw [x1, x2, e2]
    exact PL_mv a1 P (NO_steps b) (NO_steps b2) c (Int32.le_of_lt lb2) (fun j j1 j2 => ⟨(fr j (Int32.le_trans a1 j1) j2).1, (fr j (Int32.le_trans a1 j1) j2).2.1⟩) a5
  · have j0 : 0 ≤ j := Int32.le_trans a1 j1
    rw [x4] at j2
    rw [x1, x2, x3, x4]
    by_cases h1 : j < NO_steps b
    · obtain ⟨y1, y2, y3⟩ := fr j j0 h1
      rcases a6 j j1 h1 with h | ⟨h, _⟩
      · exact Or.inl (OPX_mv y1 y2 ((o_updN (o_nev j0 b0 h1)).trans y3) (Int32.le_of_lt (Int32.lt_trans lb2 m2)) h)
      · exact Or.inr ⟨List.mem_cons_of_mem _ h, fun z => by cases z⟩
    · by_cases h2 : j = NO_steps b
      · left
        subst h2
        obtain ⟨y1, y2, y3⟩ := c4 (NO_steps b) b0 n2
        obtain ⟨z1, z2, z3⟩ := f2 (NO_steps b) b0 lb2
        have w1 : NO_op b3 (gi (NO_steps b)) = 4 := z1.trans (y1.trans d1)
        have w2 : NO_opA b3 (gi (NO_steps b)) = w := z2.trans (y2.trans d2)
        have q2 : w ≤ NO_steps b3 := Int32.le_trans hw.2 (Int32.le_trans c2 (Int32.le_of_lt m2))
        unfold OPX
        rw [w1, w2, o_updE]
        exact ⟨⟨by decide, by decide⟩, fun e => absurd e (by decide), fun _ => ⟨⟨hw.1, q2⟩, m3, Int32.le_refl _⟩, fun e => absurd e (by decide)⟩
      · have h3 : NO_steps b < j := by clear a5 a6 c5 fr f1 f2 c4 a4 e1 e2 e3 d1 d2 d3 x1 x2 x3 x4 s3'; grind
        by_cases h4 : j < NO_steps b2
        · have h5 : NO_steps b1 ≤ j := by
            have h3 := Int32.lt_iff_toInt_lt.mp h3
            rw [Int32.le_iff_toInt_le]
            omega
          obtain ⟨y1, y2, y3⟩ := f2 j j0 h4
          exact Or.inl (OPX_mv y1 y2 ((o_updN (o_nev b0 j0 h3).symm).trans y3) (Int32.le_of_lt m2) (c5 j h5 h4))
        · have h5 := STP_eq s3' (Int32.not_lt.mp h4) j2
          exact Or.inr ⟨by rw [h5]; exact List.mem_cons_self, fun z => by cases z⟩
theorem ways_lp {n : Nat} {rec : Int32 → SNP → SNO → Option SNO} {s : SNP} {sv : Int32 → Int64} {a : SNO} : ∀ (L : List Int32) (y0 : Int32) (N : Nat) (c : Int32) (b : SNO) (P : List Int32) (t : Int), L.length + 1 < N → CL (NP_nodeNext s) (y0 :: L) y0 → (∀ y ∈ y0 :: L, y < 16000 ∧ CC rec s y (sv y).toInt) → WL true a b P c t →
    (NO_steps a).toInt + t + kvs sv (y0 :: L) + 2 * L.length ≤ 24000 →
    o_ok (o_lp N (m_MM_compile_b120 n rec s) (c, y0, b)) (fun q => q.1 = 1 ∧ ∃ (P' : List Int32) (t' : Int), q.2.2.1 ∈ y0 :: L ∧ WL true a q.2.2.2 P' q.2.1 t' ∧ P'.length ≤ P.length + L.length ∧ t' + kv (sv q.2.2.1).toInt ≤ t + kvs sv (y0 :: L) + 2 * L.length) := by
  intro L
  induction L with
  | nil =>
    intro y0 N c b P t hN hL hy hW hb
    obtain ⟨M, rfl⟩ : ∃ M, N = M + 1 := ⟨N - 1, by have := Nat.lt_of_le_of_lt (Nat.zero_le _) hN; omega⟩
    obtain ⟨_, k0, hL⟩ := hL
    have hx : NP_nodeNext s (gi y0) = -1 := hL
    obtain ⟨y1, y2⟩ := hy y0 List.mem_cons_self
    refine lp_stop ?_
    unfold m_MM_compile_b120
    refine o_okI (fun c => absurd k0 (by have c : y0 < 0 := c; grind)) (fun _ => ?_)
    refine o_okG (o_inM (m := 16000) rfl k0 y1) ?_
    refine o_okI (fun c => ?_) (fun _ => o_okS ⟨Nat.succ_ne_zero 0, rfl, P, t, List.mem_cons_self, hW, Nat.le_refl _, ?_⟩)
    · have c : 0 ≤ NP_nodeNext s (gi y0) := c
      rw [hx] at c
      exact absurd c (by decide)
    · show t + kv (sv y0).toInt ≤ t + (kv (sv y0).toInt + 0) + 2 * ((0 : Nat) : Int)
      omega
  | cons y1 L ih =>
    intro y0 N c b P t hN hL hy hW hb
    obtain ⟨M, rfl⟩ : ∃ M, N = M + 1 := ⟨N - 1, by have := Nat.lt_of_le_of_lt (Nat.zero_le _) hN; omega⟩
    obtain ⟨_, k0, e, k1, hL⟩ := hL
    have hN : (L.length + 1) + 1 < M + 1 := hN
    have hb : (NO_steps a).toInt + t + (kv (sv y0).toInt + kvs sv (y1 :: L)) + 2 * ((L.length + 1 : Nat) : Int) ≤ 24000 := hb
    have hs := kvs_0 (sv := sv) (y1 :: L)
    obtain ⟨z1, z2⟩ := hy y0 List.mem_cons_self
    have hk := kv_0 (sv y0).toInt
    have w3 := hW.2.2.1
    have b0 : 0 ≤ NO_steps b := Int32.le_trans hW.1 hW.2.1
    have bl : (NO_steps b).toInt < 25000 := by omega
    have gy : o_in y0 16000 = true := o_inM (m := 16000) rfl k0 z1
    refine lp_go ?_
    unfold m_MM_compile_b120
    refine o_okI (fun c => absurd k0 (by have c : y0 < 0 := c; clear ih; grind)) (fun _ => ?_)
    refine o_okG gy ?_
    refine o_okI (fun _ => ?_) (fun c => absurd k1 c)
    refine o_okB (s_step b0 bl) ?_
    intro q6 e6
    subst e6
    obtain ⟨n1, n2, n3⟩ := stp_n (o := 4) (x := NO_steps b + 1) (y := 0) b0 bl
    refine o_okB (z2 (stp b 4 (NO_steps b + 1) 0) n3 (by omega)) ?_
    intro b2 hc
    have c3 := hc.2.2.1
    have b20 : 0 ≤ NO_steps b2 := Int32.le_trans n3 hc.2.1
    refine o_okB (s_step (o := 5) (x := c) (y := 0) b20 (by omega)) ?_
    intro q8 e8
    subst e8
    refine o_okG (o_inM (m := 25000) rfl b0 (Int32.lt_iff_toInt_lt.mpr bl)) (o_okG gy (o_okN (fun k' ek => ?_)))
    refine o_okS ⟨rfl, ?_⟩
    have W := way_it (X := NO_mk (NO_op (stp b2 5 c 0)) (NO_opA (stp b2 5 c 0)) (upd (NO_opB (stp b2 5 c 0)) (gi (NO_steps b)) (NO_steps (stp b2 5 c 0))) (NO_steps (stp b2 5 c 0))) hW (stp_P b0 bl) ⟨n3, Int32.le_refl _⟩ hc (stp_P b20 (by omega)) mk_op mk_A mk_B mk_n
    rw [ek, ← e]
    refine o_okW (ih y1 M (NO_steps b2) _ (NO_steps b2 :: P) (t + kv (sv y0).toInt + 2) (by omega) ⟨rfl, by rw [e]; exact k1, by rw [e]; exact hL⟩ (fun w hw => hy w (List.mem_cons_of_mem _ hw)) W (by omega)) ?_
    intro q ⟨r1, P', t', r2, r3, r4, r5⟩
    refine ⟨r1, P', t', List.mem_cons_of_mem _ r2, r3, ?_, ?_⟩
    · have r4 : P'.length ≤ P.length + 1 + L.length := r4
      show P'.length ≤ P.length + (L.length + 1)
      omega
    · show t' + kv (sv q.2.2.1).toInt ≤ t + (kv (sv y0).toInt + kvs sv (y1 :: L)) + 2 * ((L.length + 1 : Nat) : Int)
      omega
/-- a part that may be left out: a fork whose other end stays open -/
theorem opt_it {a b b1 b2 : SNO} {P : List Int32} {c w : Int32} {t k : Int} (h : WL false a b P c t) (s1 : STP b b1 4 w c) (hw : 0 ≤ w ∧ w ≤ NO_steps b1) (g : CP b1 b2 k) : WL false a b2 (NO_steps b :: P) (NO_steps b) (t + k + 1) := by
  obtain ⟨a1, a2, a3, a4, a5, a6⟩ := h
  have b0 : 0 ≤ NO_steps b := Int32.le_trans a1 a2
  obtain ⟨⟨n1, n2, n3⟩, f1, d1, d2, d3⟩ := s1
  obtain ⟨c1, c2, c3, c4, c5⟩ := g
  have lb2 : NO_steps b < NO_steps b2 := Int32.lt_of_lt_of_le n2 c2
  have fr : FRO (NO_steps b) b b2 := FRO_trans (Int32.le_of_lt n2) f1 c4
  obtain ⟨y1, y2, y3⟩ := c4 (NO_steps b) b0 n2
  refine ⟨a1, Int32.le_trans a2 (Int32.le_of_lt lb2), by omega, FRO_trans a2 a4 fr, ⟨rfl, a2, lb2, y1.trans d1, ?_⟩, fun j j1 j2 => ?_⟩
  · show PL (NO_op b2) (NO_opB b2) 4 (NO_steps a) P (NO_steps b) (NO_opB b2 (gi (NO_steps b)))
    rw [y3, d3]
    exact PL_mv a1 P (NO_steps b) (NO_steps b) c (Int32.le_refl _) (fun j j1 j2 => ⟨(fr j (Int32.le_trans a1 j1) j2).1, (fr j (Int32.le_trans a1 j1) j2).2.2⟩) a5
  · have j0 : 0 ≤ j := Int32.le_trans a1 j1
    by_cases h1 : j < NO_steps b
    · obtain ⟨z1, z2, z3⟩ := fr j j0 h1
      rcases a6 j j1 h1 with h | ⟨h, h'⟩
      · exact Or.inl (OPX_mv z1 z2 z3 (Int32.le_of_lt lb2) h)
      · refine Or.inr ⟨List.mem_cons_of_mem _ h, fun z => ?_⟩
        rw [z2]
        exact ⟨(h' z).1, Int32.le_trans (h' z).2 (Int32.le_of_lt lb2)⟩
    · by_cases h2 : j = NO_steps b
      · right
        rw [h2]
        refine ⟨List.mem_cons_self, fun _ => ?_⟩
        rw [y2, d2]
        exact ⟨hw.1, Int32.le_trans hw.2 c2⟩
      · have h3 : NO_steps b < j := by clear a5 a6 c5 fr f1 c4 a4 d1 d2 d3 y1 y2 y3; grind
        have h5 : NO_steps b1 ≤ j := by
          have h3 := Int32.lt_iff_toInt_lt.mp h3
          rw [Int32.le_iff_toInt_le]
          omega
        exact Or.inl (c5 j h5 j2)
theorem star_CP {b b1 b2 b3 X : SNO} {w : Int32} {k : Int} (b0 : 0 ≤ NO_steps b) (s1 : STP b b1 4 w 0) (hw : 0 ≤ w ∧ w ≤ NO_steps b1) (g : CP b1 b2 k) (s3 : STP b2 b3 5 (NO_steps b) 0)
    (x1 : NO_op X = NO_op b3) (x2 : NO_opA X = NO_opA b3) (x3 : NO_opB X = upd (NO_opB b3) (gi (NO_steps b)) (NO_steps b3)) (x4 : NO_steps X = NO_steps b3) : CP b X (k + 2) := by
  obtain ⟨⟨n1, n2, n3⟩, f1, d1, d2, d3⟩ := s1
  obtain ⟨c1, c2, c3, c4, c5⟩ := g
  have s3' := s3
  obtain ⟨⟨m1, m2, m3⟩, f2, e1, e2, e3⟩ := s3
  have lb2 : NO_steps b < NO_steps b2 := Int32.lt_of_lt_of_le n2 c2
  have fr : FRO (NO_steps b) b b3 := FRO_trans (Int32.le_of_lt lb2) (FRO_trans (Int32.le_of_lt n2) f1 c4) f2
  have lb3 : NO_steps b < NO_steps b3 := Int32.lt_trans lb2 m2
  refine ⟨b0, by rw [x4]; exact Int32.le_of_lt lb3, by rw [x4]; omega, fun j j0 jb => ?_, fun j j1 j2 => ?_⟩
  · rw [x1, x2, x3, o_updN (o_nev j0 b0 jb)]
    exact fr j j0 jb
  · have j0 : 0 ≤ j := Int32.le_trans b0 j1
    rw [x4] at j2
    rw [x1, x2, x3, x4]
    by_cases h2 : j = NO_steps b
    · subst h2
      obtain ⟨y1, y2, y3⟩ := c4 (NO_steps b) b0 n2
      obtain ⟨z1, z2, z3⟩ := f2 (NO_steps b) b0 lb2
      have w1 : NO_op b3 (gi (NO_steps b)) = 4 := z1.trans (y1.trans d1)
      have w2 : NO_opA b3 (gi (NO_steps b)) = w := z2.trans (y2.trans d2)
      have q2 : w ≤ NO_steps b3 := Int32.le_trans hw.2 (Int32.le_trans c2 (Int32.le_of_lt m2))
      unfold OPX
      rw [w1, w2, o_updE]
      exact ⟨⟨by decide, by decide⟩, fun e => absurd e (by decide), fun _ => ⟨⟨hw.1, q2⟩, m3, Int32.le_refl _⟩, fun e => absurd e (by decide)⟩
    · have h3 : NO_steps b < j := by clear c5 fr f1 f2 c4 e1 e2 e3 d1 d2 d3 x1 x2 x3 x4 s3'; grind
      have nn : gi j ≠ gi (NO_steps b) := (o_nev b0 j0 h3).symm
      by_cases h4 : j < NO_steps b2
      · have h5 : NO_steps b1 ≤ j := by
          have h3 := Int32.lt_iff_toInt_lt.mp h3
          rw [Int32.le_iff_toInt_le]
          omega
        obtain ⟨y1, y2, y3⟩ := f2 j j0 h4
        exact OPX_mv y1 y2 ((o_updN nn).trans y3) (Int32.le_of_lt m2) (c5 j h5 h4)
      · have h5 := STP_eq s3' (Int32.not_lt.mp h4) j2
        subst h5
        refine OPX_mv (O := NO_op b3) (A := NO_opA b3) (B := NO_opB b3) (hi := NO_steps b3) rfl rfl (o_updN nn) (Int32.le_refl _) ?_
        unfold OPX
        rw [e1, e2, e3]
        exact ⟨⟨by decide, by decide⟩, fun e => absurd e (by decide), fun e => absurd e (by decide), fun _ => ⟨b0, Int32.le_of_lt lb3⟩⟩
theorem times_lp1 {n : Nat} {rec : Int32 → SNP → SNO → Option SNO} {s : SNP} {x : Int32} {v : Int} (gx : o_in x 16000 = true) (hB : (NP_nodeB s (gi x)).toInt ≤ 50) : ∀ (k N : Nat) (i : Int32) (b : SNO), k < N → 0 ≤ i.toInt → (k : Int) = (NP_nodeB s (gi x)).toInt - i.toInt → (0 < k → CC rec s (NP_nodeA s (gi x)) v) → 0 ≤ NO_steps b → (NO_steps b).toInt + k * kv v ≤ 24000 →
    o_ok (o_lp N (m_MM_compile_b217 n rec x s) (i, b)) (fun q => CP b q.2.2 (k * kv v)) := by
  intro k
  induction k with
  | zero =>
    intro N i b hN i0 hk _ b0 hb
    obtain ⟨M, rfl⟩ : ∃ M, N = M + 1 := ⟨N - 1, by omega⟩
    refine lp_stop ?_
    unfold m_MM_compile_b217
    refine o_okG gx ?_
    refine o_okI (fun _ => o_okS ⟨Nat.succ_ne_zero 0, CP_rfl b0 (by rw [Int.ofNat_zero, Int.zero_mul]; exact Int.le_refl _)⟩) (fun c => absurd (show NP_nodeB s (gi x) ≤ i from ?_) c)
    rw [Int32.le_iff_toInt_le]; omega
  | succ k ih =>
    intro N i b hN i0 hk hC b0 hb
    obtain ⟨M, rfl⟩ : ∃ M, N = M + 1 := ⟨N - 1, by omega⟩
    have k0 := kv_0 v
    have e1 : ((k + 1 : Nat) : Int) * kv v = kv v + (k : Int) * kv v := by rw [Int.natCast_add, Int.add_mul]; omega
    have e2 : 0 ≤ (k : Int) * kv v := Int.mul_nonneg (Int.natCast_nonneg k) k0
    rw [e1] at hb
    refine lp_go ?_
    unfold m_MM_compile_b217
    refine o_okG gx ?_
    refine o_okI (fun c => ?_) (fun _ => ?_)
    · have c : NP_nodeB s (gi x) ≤ i := c
      rw [Int32.le_iff_toInt_le] at c
      exfalso; omega
    refine o_okG gx ?_
    refine o_okB (hC (Nat.succ_pos k) b b0 (by omega)) ?_
    intro b1 h1
    refine o_okN (fun i' ei => ?_)
    have hi : i'.toInt = i.toInt + 1 := by
      rw [ei]
      show (i + 1).toInt = i.toInt + 1
      refine o_add1 ?_
      rw [Int32.lt_iff_toInt_lt]
      have z : (2147483647 : Int32).toInt = 2147483647 := rfl
      rw [z]; omega
    refine o_okS ⟨rfl, ?_⟩
    have h13 := h1.2.2.1
    refine o_okW (ih M i' b1 (by omega) (by omega) (by omega) (fun _ => hC (Nat.succ_pos k)) (Int32.le_trans h1.1 h1.2.1) (by omega)) ?_
    intro q hq
    rw [e1]
    exact CP_trans h1 hq
theorem times_lp2 {n : Nat} {rec : Int32 → SNP → SNO → Option SNO} {s : SNP} {x : Int32} {v : Int} {a : SNO} (gx : o_in x 16000 = true) (hB : (NP_nodeC s (gi x)).toInt ≤ 50) : ∀ (k N : Nat) (c i : Int32) (b : SNO) (P : List Int32) (t : Int), k < N → 0 ≤ i.toInt → (k : Int) = (NP_nodeC s (gi x)).toInt - i.toInt → (0 < k → CC rec s (NP_nodeA s (gi x)) v) → WL false a b P c t → (NO_steps a).toInt + t + k * (kv v + 1) ≤ 24000 →
    o_ok (o_lp N (m_MM_compile_b305 n rec x s) (c, i, b)) (fun q => ∃ P', WL false a q.2.2.2 P' q.2.1 (t + k * (kv v + 1)) ∧ P'.length ≤ P.length + k) := by
  intro k
  induction k with
  | zero =>
    intro N c i b P t hN i0 hk _ hW hb
    obtain ⟨M, rfl⟩ : ∃ M, N = M + 1 := ⟨N - 1, by omega⟩
    refine lp_stop ?_
    unfold m_MM_compile_b305
    refine o_okG gx ?_
    refine o_okI (fun _ => o_okS ⟨Nat.succ_ne_zero 0, P, ?_, Nat.le_refl _⟩) (fun c => absurd (show NP_nodeC s (gi x) ≤ i from ?_) c)
    · rw [Int.ofNat_zero, Int.zero_mul, Int.add_zero]; exact hW
    · rw [Int32.le_iff_toInt_le]; omega
  | succ k ih =>
    intro N c i b P t hN i0 hk hC hW hb
    obtain ⟨M, rfl⟩ : ∃ M, N = M + 1 := ⟨N - 1, by omega⟩
    have k0 := kv_0 v
    have e1 : ((k + 1 : Nat) : Int) * (kv v + 1) = (kv v + 1) + (k : Int) * (kv v + 1) := by rw [Int.natCast_add, Int.add_mul]; omega
    have e2 : 0 ≤ (k : Int) * (kv v + 1) := Int.mul_nonneg (Int.natCast_nonneg k) (by omega)
    rw [e1] at hb
    have w3 := hW.2.2.1
    have b0 : 0 ≤ NO_steps b := Int32.le_trans hW.1 hW.2.1
    have bl : (NO_steps b).toInt < 25000 := by omega
    refine lp_go ?_
    unfold m_MM_compile_b305
    refine o_okG gx ?_
    refine o_okI (fun c => ?_) (fun _ => ?_)
    · have c : NP_nodeC s (gi x) ≤ i := c
      rw [Int32.le_iff_toInt_le] at c
      exfalso; omega
    refine o_okB (s_step b0 bl) ?_
    intro q6 e6
    subst e6
    obtain ⟨n1, n2, n3⟩ := stp_n (o := 4) (x := NO_steps b + 1) (y := c) b0 bl
    refine o_okG gx ?_
    refine o_okB (hC (Nat.succ_pos k) (stp b 4 (NO_steps b + 1) c) n3 (by omega)) ?_
    intro b2 hc
    refine o_okN (fun i' ei => ?_)
    have hi : i'.toInt = i.toInt + 1 := by
      rw [ei]
      show (i + 1).toInt = i.toInt + 1
      refine o_add1 ?_
      rw [Int32.lt_iff_toInt_lt]
      have z : (2147483647 : Int32).toInt = 2147483647 := rfl
      rw [z]; omega
    refine o_okS ⟨rfl, ?_⟩
    have W := opt_it hW (stp_P b0 bl) ⟨n3, Int32.le_refl _⟩ hc
    refine o_okW (ih M (NO_steps b) i' b2 (NO_steps b :: P) (t + kv v + 1) (by omega) (by omega) (by omega) (fun _ => hC (Nat.succ_pos k)) W (by omega)) ?_
    intro q ⟨P', r1, r2⟩
    have r2 : P'.length ≤ P.length + 1 + k := r2
    refine ⟨P', ?_, by omega⟩
    rw [e1, show t + (kv v + 1 + (k : Int) * (kv v + 1)) = t + kv v + 1 + (k : Int) * (kv v + 1) by omega]
    exact r1
