/-! The reference's patterns: threads, matches -/
def ucn (f : Nat → Int32) (r : Int32) : Nat → Nat
  | 0 => 0
  | k + 1 => ucn f r k + (if f k = r then 0 else 1)
theorem ucn_le {f : Nat → Int32} {r : Int32} : ∀ K, ucn f r K ≤ K := by
  intro K
  induction K with
  | zero => exact Nat.le_refl _
  | succ K ih => show ucn f r K + _ ≤ K + 1; split <;> omega
theorem ucn_ge {f : Nat → Int32} {r : Int32} {j : Nat} : ∀ K, K ≤ j → ucn (upd f j r) r K = ucn f r K := by
  intro K
  induction K with
  | zero => intro _; rfl
  | succ K ih =>
    intro h
    show ucn (upd f j r) r K + _ = ucn f r K + _
    rw [ih (by omega), o_updN (show K ≠ j by omega)]
theorem ucn_upd {f : Nat → Int32} {r : Int32} {j : Nat} (hr : f j ≠ r) : ∀ K, j < K → ucn (upd f j r) r K + 1 = ucn f r K := by
  intro K
  induction K with
  | zero => intro h; exact absurd h (Nat.not_lt_zero _)
  | succ K ih =>
    intro h
    show ucn (upd f j r) r K + _ + 1 = ucn f r K + _
    by_cases e : K = j
    · subst e
      rw [ucn_ge K (Nat.le_refl _), o_updE, if_pos rfl, if_neg hr]
    · have := ih (by omega)
      rw [o_updN e]
      omega
def un (x : SNX) : Nat := ucn (NX_mark x) (NX_round x) 25000
def SETK (o : SNO) (k : Int32) : Prop := 0 ≤ k ∧ k < NO_steps o - 1 ∧ 0 ≤ NO_opA o (gi k) ∧ NO_opA o (gi k) < 8000
def I_NX (x : SNX) : Prop := ∀ k : Nat, k < 25000 → NX_mark x k ≤ NX_round x
def TX (o : SNO) (l : Nat → Int32) (x : SNX) : Prop := 0 ≤ NX_many1 x ∧ (NX_many1 x).toInt + un x ≤ 25000 ∧ I_NX x ∧ ∀ i : Int32, 0 ≤ i → i < NX_many1 x → SETK o (l (gi i))
def TJ (o : SNO) (l : Nat → Int32) (c : Int) (n : Int32) (x : SNX) : Prop := 0 ≤ n ∧ n.toInt + un x ≤ c ∧ (∀ i : Int32, 0 ≤ i → i < n → 0 ≤ NX_todo x (gi i) ∧ NX_todo x (gi i) < NO_steps o) ∧ TX o l x
theorem i32p {n : Int32} (h : n.toInt ≤ 1000000) (h0 : 0 ≤ n) : (n + 1).toInt = n.toInt + 1 ∧ 0 ≤ n + 1 ∧ n < n + 1 := by
  have l : n ≤ 1000000 := Int32.le_iff_toInt_le.mpr h
  refine ⟨o_add1 (Int32.lt_of_le_of_lt l (by decide)), ?_, ?_⟩ <;> grind
theorem i32m {n : Int32} (h0 : 0 < n) : (n + -1).toInt = n.toInt - 1 ∧ 0 ≤ n + -1 ∧ n + -1 < n := by
  have h := Int32.lt_iff_toInt_lt.mp h0
  have z0 : (0 : Int32).toInt = 0 := rfl
  have z1 : (-1 : Int32).toInt = -1 := rfl
  have b := o_i32 n
  rw [z0] at h
  have e : (n + -1).toInt = n.toInt - 1 := by
    rw [Int32.toInt_add, z1]
    apply Int.bmod_eq_of_le <;> omega
  refine ⟨e, ?_, ?_⟩
  · rw [Int32.le_iff_toInt_le, e, z0]; omega
  · rw [Int32.lt_iff_toInt_lt, e]; omega
theorem i32lt {n : Int32} {m : Int32} {k : Int} (hm : m.toInt = k) (h : n.toInt < k) : n < m := by
  rw [Int32.lt_iff_toInt_lt, hm]; exact h
theorem TJ_pop {o : SNO} {l : Nat → Int32} {c : Int} {n : Int32} {x : SNX} (h : TJ o l c n x) (h0 : 0 < n) : TJ o l (c - 1) (n + -1) x := by
  obtain ⟨a1, a2, a3, a4⟩ := h
  obtain ⟨e1, e2, e3⟩ := i32m h0
  exact ⟨e2, by omega, fun i i0 hi => a3 i i0 (Int32.lt_trans hi e3), a4⟩
theorem TJ_mark {o : SNO} {l : Nat → Int32} {c : Int} {n k : Int32} {x : SNX} (h : TJ o l c n x) (k0 : 0 ≤ k) (k1 : k < 25000) (hm : NX_mark x (gi k) ≠ NX_round x) {tt now thn : Nat → Int32} (ht : tt = NX_todo x) : TJ o l (c - 1) n (NX_mk (upd (NX_mark x) (gi k) (NX_round x)) now thn tt (NX_round x) (NX_many1 x)) ∧ (NX_many1 x).toInt + un (NX_mk (upd (NX_mark x) (gi k) (NX_round x)) now thn tt (NX_round x) (NX_many1 x)) ≤ 24999 ∧ un (NX_mk (upd (NX_mark x) (gi k) (NX_round x)) now thn tt (NX_round x) (NX_many1 x)) + 1 = un x := by
  obtain ⟨a1, a2, a3, a4, a5, a6, a7⟩ := h
  have kl : gi k < 25000 := o_tncL (m := 25000) rfl k0 k1
  have u : un (NX_mk (upd (NX_mark x) (gi k) (NX_round x)) now thn tt (NX_round x) (NX_many1 x)) + 1 = un x := ucn_upd hm 25000 kl
  refine ⟨⟨a1, by omega, by rw [ht]; exact a3, a4, ?_, fun j hj => ?_, a7⟩, by omega, u⟩
  · show (NX_many1 x).toInt + _ ≤ 25000
    omega
  · show upd (NX_mark x) (gi k) (NX_round x) j ≤ NX_round x
    by_cases e : j = gi k
    · rw [e, o_updE]; exact Int32.le_refl _
    · rw [o_updN e]; exact a6 j hj
theorem TJ_push {o : SNO} {l : Nat → Int32} {c : Int} {n v : Int32} {x : SNX} (h : TJ o l c n x) (hc : c ≤ 25001) (v0 : 0 ≤ v) (v1 : v < NO_steps o) {mk now thn : Nat → Int32} (hm : mk = NX_mark x) : TJ o l (c + 1) (n + 1) (NX_mk mk now thn (upd (NX_todo x) (gi n) v) (NX_round x) (NX_many1 x)) := by
  obtain ⟨a1, a2, a3, a4⟩ := h
  obtain ⟨e1, e2, e3⟩ := i32p (n := n) (by omega) a1
  subst hm
  refine ⟨e2, ?_, fun i i0 hi => ?_, a4⟩
  · show (n + 1).toInt + (un x : Int) ≤ c + 1
    omega
  · show 0 ≤ upd (NX_todo x) (gi n) v (gi i) ∧ upd (NX_todo x) (gi n) v (gi i) < NO_steps o
    by_cases e : i = n
    · rw [e, o_updE]; exact ⟨v0, v1⟩
    · rw [o_updN (o_neq i0 a1 e)]
      refine a3 i i0 ?_
      have h1 := Int32.lt_iff_toInt_lt.mp hi
      rw [Int32.lt_iff_toInt_lt]
      have : i.toInt ≠ n.toInt := fun z => e (Int32.toInt_inj.mp z)
      omega
theorem TJ_add {o : SNO} {l : Nat → Int32} {c : Int} {n k : Int32} {x : SNX} (h : TJ o l c n x) (hu : (NX_many1 x).toInt + un x ≤ 24999) (hk : SETK o k) {mk now thn tt : Nat → Int32} (hm : mk = NX_mark x) (ht : tt = NX_todo x) : TJ o (upd l (gi (NX_many1 x)) k) c n (NX_mk mk now thn tt (NX_round x) (NX_many1 x + 1)) := by
  obtain ⟨a1, a2, a3, a4, a5, a6, a7⟩ := h
  obtain ⟨e1, e2, e3⟩ := i32p (n := NX_many1 x) (by omega) a4
  subst hm
  subst ht
  refine ⟨a1, a2, a3, e2, ?_, a6, fun i i0 hi => ?_⟩
  · show (NX_many1 x + 1).toInt + (un x : Int) ≤ 25000
    omega
  · have hi : i < NX_many1 x + 1 := hi
    by_cases e : i = NX_many1 x
    · rw [e, o_updE]; exact hk
    · rw [o_updN (o_neq i0 a4 e)]
      refine a7 i i0 ?_
      have h1 := Int32.lt_iff_toInt_lt.mp hi
      rw [Int32.lt_iff_toInt_lt]
      have : i.toInt ≠ (NX_many1 x).toInt := fun z => e (Int32.toInt_inj.mp z)
      omega
def tmu (z : Int32 × SNX) : Nat := 2 * un z.2 + gi z.1
theorem tmuB {o : SNO} {l : Nat → Int32} {z : Int32 × SNX} (h : TJ o l 25001 z.1 z.2) : tmu z < o_big := by
  have u := ucn_le (f := NX_mark z.2) (r := NX_round z.2) 25000
  have e := o_tnc h.1
  have h2 := h.2.1
  unfold tmu un at *
  unfold o_big
  omega
theorem prg_k {o : SNO} (h : PRG o) {k : Int32} (k0 : 0 ≤ k) (k1 : k < NO_steps o) (h9 : NO_op o (gi k) ≠ 9) : OPX (NO_op o) (NO_opA o) (NO_opB o) (NO_steps o - 1) k ∧ k < NO_steps o - 1 := by
  have hk : k < NO_steps o - 1 := by
    by_cases e : k = NO_steps o - 1
    · rw [e] at h9; exact absurd h.2.2.1 h9
    · have h1 := h.1
      have h2 := h.2.1
      clear h; generalize NO_steps o = m at *; grind
  exact ⟨h.2.2.2 k k0 hk, hk⟩
theorem thread_step_now {n : Nat} {x3 x4 : Int32} {o : SNO} {nw : Nat → Int32} {z : Int32 × SNX} (hP : PRG o) (hz : TJ o (NX_now z.2) 25001 z.1 z.2 ∧ True) :
    o_ok (m_MM_thread_now_b14 n x3 x4 o z) (fun q => (q.1 = 0 → (TJ o (NX_now q.2.2) 25001 q.2.1 q.2.2 ∧ True) ∧ tmu q.2 < tmu z) ∧ (q.1 ≠ 0 → TX o (NX_now q.2.2) q.2.2 ∧ True)) := by
  obtain ⟨hz, hf⟩ := hz
  have hs : NO_steps o ≤ 24500 := hP.2.1
  unfold m_MM_thread_now_b14
  refine o_okI (fun c => o_okS ⟨fun e => absurd e (Nat.succ_ne_zero 1), fun _ => ⟨hz.2.2.2, hf⟩⟩) (fun c => ?_)
  have c0 : 0 < z.1 := Int32.not_le.mp c
  obtain ⟨e1, e2, e3⟩ := i32m c0
  have hp := TJ_pop hz c0
  have ez := o_tnc hz.1
  have ez2 := o_tnc e2
  have h2 := hz.2.1
  refine o_okN (fun m em => ?_)
  subst em
  have gm : o_in (z.1 + -1) 50000 = true := o_inM (m := 50000) rfl e2 (i32lt (k := 50000) rfl (by omega))
  refine o_okG gm (o_okN (fun k ek => ?_))
  obtain ⟨k0, k1⟩ := hz.2.2.1 (z.1 + -1) e2 e3
  rw [← ek] at k0 k1
  have k2 : k < 25000 := Int32.lt_of_lt_of_le k1 (Int32.le_trans hs (by decide))
  have gk : o_in k 25000 = true := o_inM (m := 25000) rfl k0 k2
  refine o_okG gk (o_okI (fun c1 => ?_) (fun c1 => ?_))
  · refine o_okS ⟨fun _ => ⟨⟨?_, hf⟩, ?_⟩, fun e => absurd rfl e⟩
    · exact ⟨hp.1, by have := hp.2.1; omega, hp.2.2⟩
    · show 2 * un z.2 + gi (z.1 + -1) < 2 * un z.2 + gi z.1
      omega
  refine o_okG gk (o_okG gk (o_okI (fun c2 => ?_) (fun c2 => ?_)))
  · obtain ⟨t1, t2, t3⟩ := TJ_mark (now := NX_now z.2) (thn := NX_then z.2) (tt := NX_todo z.2) hp k0 k2 c1 rfl
    exact o_okS ⟨fun e => absurd e (Nat.succ_ne_zero 0), fun _ => ⟨t1.2.2.2, hf⟩⟩
  obtain ⟨ox, ol⟩ := prg_k hP k0 k1 c2
  have kp : 0 ≤ k + 1 ∧ k + 1 < NO_steps o := by
    have h1 := hP.1
    clear hz hf hp ox hP
    generalize NO_steps o = s at *
    constructor <;> grind
  have hlast : ∀ w : Int32, w ≤ NO_steps o - 1 → w < NO_steps o := by
    intro w hw
    have h1 := hP.1
    clear hz hf hp ox hP
    generalize NO_steps o = s at *
    grind
  refine o_okG gk (o_okI (fun c3 => ?_) (fun c3 => ?_))
  · obtain ⟨t1, t2, t3⟩ := TJ_mark (now := NX_now z.2) (thn := NX_then z.2) (tt := NX_todo z.2) hp k0 k2 c1 rfl
    have hm0 : 0 ≤ NX_many1 z.2 := hz.2.2.2.1
    refine o_okG (o_inM (m := 25000) rfl hm0 (i32lt (k := 25000) rfl (by have := hz.2.2.2.2.1; omega))) (o_okS ⟨fun _ => ⟨⟨?_, hf⟩, ?_⟩, fun e => absurd rfl e⟩)
    · have := TJ_add (now := upd (NX_now z.2) (gi (NX_many1 z.2)) k) (thn := NX_then z.2) t1 t2 ⟨k0, ol, (ox.2.1 c3).1, (ox.2.1 c3).2⟩ rfl rfl
      exact ⟨this.1, by have := this.2.1; omega, this.2.2⟩
    · show 2 * un (NX_mk (upd (NX_mark z.2) (gi k) (NX_round z.2)) (upd (NX_now z.2) (gi (NX_many1 z.2)) k) (NX_then z.2) (NX_todo z.2) (NX_round z.2) (NX_many1 z.2 + 1)) + gi (z.1 + -1) < 2 * un z.2 + gi z.1
      have : un (NX_mk (upd (NX_mark z.2) (gi k) (NX_round z.2)) (upd (NX_now z.2) (gi (NX_many1 z.2)) k) (NX_then z.2) (NX_todo z.2) (NX_round z.2) (NX_many1 z.2 + 1)) + 1 = un z.2 := t3
      omega
  obtain ⟨t1, t2, t3⟩ := TJ_mark (now := NX_now z.2) (thn := NX_then z.2) (tt := NX_todo z.2) hp k0 k2 c1 rfl
  have pl : TJ o (NX_now z.2) 25001 (z.1 + -1) (NX_mk (upd (NX_mark z.2) (gi k) (NX_round z.2)) (NX_now z.2) (NX_then z.2) (NX_todo z.2) (NX_round z.2) (NX_many1 z.2)) := ⟨t1.1, by have := t1.2.1; omega, t1.2.2⟩
  have mu0 : 2 * un (NX_mk (upd (NX_mark z.2) (gi k) (NX_round z.2)) (NX_now z.2) (NX_then z.2) (NX_todo z.2) (NX_round z.2) (NX_many1 z.2)) + gi (z.1 + -1) < 2 * un z.2 + gi z.1 := by omega
  obtain ⟨d1, d2, d3⟩ := i32p (n := z.1 + -1) (by omega) e2
  have ed := o_tnc d2
  have mu1 : 2 * un (NX_mk (upd (NX_mark z.2) (gi k) (NX_round z.2)) (NX_now z.2) (NX_then z.2) (NX_todo z.2) (NX_round z.2) (NX_many1 z.2)) + gi (z.1 + -1 + 1) < 2 * un z.2 + gi z.1 := by omega
  have push1 : ∀ v : Int32, 0 ≤ v → v < NO_steps o → TJ o (NX_now z.2) 25001 (z.1 + -1 + 1) (NX_mk (upd (NX_mark z.2) (gi k) (NX_round z.2)) (NX_now z.2) (NX_then z.2) (upd (NX_todo z.2) (gi (z.1 + -1)) v) (NX_round z.2) (NX_many1 z.2)) := by
    intro v v0 v1
    have := TJ_push (now := NX_now z.2) (thn := NX_then z.2) t1 (by omega) v0 v1 rfl
    exact ⟨this.1, by have := this.2.1; omega, this.2.2⟩
  refine o_okG gk (o_okI (fun c4 => ?_) (fun c4 => ?_))
  · refine o_okI (fun _ => o_okS ⟨fun _ => ⟨⟨pl, hf⟩, mu0⟩, fun e => absurd rfl e⟩) (fun _ => ?_)
    refine o_okN (fun w ew => ?_)
    subst ew
    exact o_okG gm (o_okS ⟨fun _ => ⟨⟨push1 _ kp.1 kp.2, hf⟩, mu1⟩, fun e => absurd rfl e⟩)
  refine o_okG gk (o_okI (fun c5 => ?_) (fun c5 => ?_))
  · refine o_okI (fun _ => o_okS ⟨fun _ => ⟨⟨pl, hf⟩, mu0⟩, fun e => absurd rfl e⟩) (fun _ => ?_)
    refine o_okN (fun w ew => ?_)
    subst ew
    exact o_okG gm (o_okS ⟨fun _ => ⟨⟨push1 _ kp.1 kp.2, hf⟩, mu1⟩, fun e => absurd rfl e⟩)
  refine o_okG gk (o_okI (fun c6 => ?_) (fun c6 => ?_))
  · refine o_okN (fun w ew => ?_)
    subst ew
    have oa := ox.2.2.2 c6
    exact o_okG gk (o_okG gm (o_okS ⟨fun _ => ⟨⟨push1 _ oa.1 (hlast _ oa.2), hf⟩, mu1⟩, fun e => absurd rfl e⟩))
  · have o4 : NO_op o (gi k) = 4 := by
      have h1 := ox.1
      have c3 : ¬ NO_op o (gi k) = 1 := c3
      have c4 : ¬ NO_op o (gi k) = 2 := c4
      have c5 : ¬ NO_op o (gi k) = 3 := c5
      have c6 : ¬ NO_op o (gi k) = 5 := c6
      clear hz hf hp ox hP t1 t2 t3 pl mu0 mu1 push1 c1 c2 hlast
      generalize NO_op o (gi k) = w at *
      grind
    obtain ⟨⟨oa0, oa1⟩, ob0, ob1⟩ := ox.2.2.1 o4
    have p1 := TJ_push (v := NO_opA o (gi k)) (now := NX_now z.2) (thn := NX_then z.2) t1 (by omega) oa0 (hlast _ oa1) rfl
    have p2 := TJ_push (v := NO_opB o (gi k)) (now := NX_now z.2) (thn := NX_then z.2) p1 (by omega) ob0 (hlast _ ob1) rfl
    obtain ⟨f1, f2, f3⟩ := i32p (n := z.1 + -1 + 1) (by omega) d2
    have ef := o_tnc f2
    refine o_okN (fun w ew => ?_)
    subst ew
    refine o_okG gk (o_okG gm (o_okN (fun w ew => ?_)))
    subst ew
    refine o_okG gk (o_okG (o_inM (m := 50000) rfl d2 (i32lt (k := 50000) rfl (by omega))) (o_okS ⟨fun _ => ⟨⟨?_, hf⟩, ?_⟩, fun e => absurd rfl e⟩))
    · exact ⟨p2.1, by have := p2.2.1; omega, p2.2.2⟩
    · show 2 * un (NX_mk (upd (NX_mark z.2) (gi k) (NX_round z.2)) (NX_now z.2) (NX_then z.2) (NX_todo z.2) (NX_round z.2) (NX_many1 z.2)) + gi (z.1 + -1 + 1 + 1) < 2 * un z.2 + gi z.1
      omega
theorem s_thread_now {n : Nat} {x2 x3 x4 : Int32} {o : SNO} {x : SNX} (hn : o_big ≤ n) (hP : PRG o) (v0 : 0 ≤ x2) (v1 : x2 < NO_steps o) (hx : TX o (NX_now x) x) : o_ok (m_MM_thread_now n x2 x3 x4 o x) (fun r => TX o (NX_now r.2) r.2 ∧ True) := by
  unfold m_MM_thread_now
  refine o_okN (fun w ew => ?_)
  subst ew
  refine o_okG (o_inM (m := 50000) rfl (by decide) (by decide)) ?_
  have u := ucn_le (f := NX_mark x) (r := NX_round x) 25000
  have t0 : TJ o (NX_now x) 25000 0 x := ⟨by decide, by show (0 : Int32).toInt + (un x : Int) ≤ 25000; have z0 : (0 : Int32).toInt = 0 := rfl; rw [z0]; unfold un; omega, fun i i0 hi => absurd (Int32.lt_of_le_of_lt i0 hi) (by decide), hx⟩
  have t1 := TJ_push (v := x2) (now := NX_now x) (thn := NX_then x) t0 (by omega) v0 v1 rfl
  have h0 : TJ o (NX_now x) 25001 ((0:Int32) + 1) (NX_mk (NX_mark x) (NX_now x) (NX_then x) (upd (NX_todo x) (gi 0) x2) (NX_round x) (NX_many1 x)) := t1
  refine o_okB (o_lpR (P := fun q => TX o (NX_now q.2.2) q.2.2 ∧ True) (fun z => TJ o (NX_now z.2) 25001 z.1 z.2 ∧ True) tmu hn (tmuB (z := ((0:Int32) + 1, NX_mk (NX_mark x) (NX_now x) (NX_then x) (upd (NX_todo x) (gi 0) x2) (NX_round x) (NX_many1 x))) h0) ⟨h0, trivial⟩ (fun z hz => thread_step_now (nw := NX_now x) hP hz)) ?_
  intro q ⟨_, hq⟩
  exact o_okI (fun _ => o_okS hq) (fun _ => o_okS hq)
theorem thread_step_then {n : Nat} {x3 x4 : Int32} {o : SNO} {nw : Nat → Int32} {z : Int32 × SNX} (hP : PRG o) (hz : TJ o (NX_then z.2) 25001 z.1 z.2 ∧ NX_now z.2 = nw) :
    o_ok (m_MM_thread_then_b14 n x3 x4 o z) (fun q => (q.1 = 0 → (TJ o (NX_then q.2.2) 25001 q.2.1 q.2.2 ∧ NX_now q.2.2 = nw) ∧ tmu q.2 < tmu z) ∧ (q.1 ≠ 0 → TX o (NX_then q.2.2) q.2.2 ∧ NX_now q.2.2 = nw)) := by
  obtain ⟨hz, hf⟩ := hz
  have hs : NO_steps o ≤ 24500 := hP.2.1
  unfold m_MM_thread_then_b14
  refine o_okI (fun c => o_okS ⟨fun e => absurd e (Nat.succ_ne_zero 1), fun _ => ⟨hz.2.2.2, hf⟩⟩) (fun c => ?_)
  have c0 : 0 < z.1 := Int32.not_le.mp c
  obtain ⟨e1, e2, e3⟩ := i32m c0
  have hp := TJ_pop hz c0
  have ez := o_tnc hz.1
  have ez2 := o_tnc e2
  have h2 := hz.2.1
  refine o_okN (fun m em => ?_)
  subst em
  have gm : o_in (z.1 + -1) 50000 = true := o_inM (m := 50000) rfl e2 (i32lt (k := 50000) rfl (by omega))
  refine o_okG gm (o_okN (fun k ek => ?_))
  obtain ⟨k0, k1⟩ := hz.2.2.1 (z.1 + -1) e2 e3
  rw [← ek] at k0 k1
  have k2 : k < 25000 := Int32.lt_of_lt_of_le k1 (Int32.le_trans hs (by decide))
  have gk : o_in k 25000 = true := o_inM (m := 25000) rfl k0 k2
  refine o_okG gk (o_okI (fun c1 => ?_) (fun c1 => ?_))
  · refine o_okS ⟨fun _ => ⟨⟨?_, hf⟩, ?_⟩, fun e => absurd rfl e⟩
    · exact ⟨hp.1, by have := hp.2.1; omega, hp.2.2⟩
    · show 2 * un z.2 + gi (z.1 + -1) < 2 * un z.2 + gi z.1
      omega
  refine o_okG gk (o_okG gk (o_okI (fun c2 => ?_) (fun c2 => ?_)))
  · obtain ⟨t1, t2, t3⟩ := TJ_mark (now := NX_now z.2) (thn := NX_then z.2) (tt := NX_todo z.2) hp k0 k2 c1 rfl
    exact o_okS ⟨fun e => absurd e (Nat.succ_ne_zero 0), fun _ => ⟨t1.2.2.2, hf⟩⟩
  obtain ⟨ox, ol⟩ := prg_k hP k0 k1 c2
  have kp : 0 ≤ k + 1 ∧ k + 1 < NO_steps o := by
    have h1 := hP.1
    clear hz hf hp ox hP
    generalize NO_steps o = s at *
    constructor <;> grind
  have hlast : ∀ w : Int32, w ≤ NO_steps o - 1 → w < NO_steps o := by
    intro w hw
    have h1 := hP.1
    clear hz hf hp ox hP
    generalize NO_steps o = s at *
    grind
  refine o_okG gk (o_okI (fun c3 => ?_) (fun c3 => ?_))
  · obtain ⟨t1, t2, t3⟩ := TJ_mark (now := NX_now z.2) (thn := NX_then z.2) (tt := NX_todo z.2) hp k0 k2 c1 rfl
    have hm0 : 0 ≤ NX_many1 z.2 := hz.2.2.2.1
    refine o_okG (o_inM (m := 25000) rfl hm0 (i32lt (k := 25000) rfl (by have := hz.2.2.2.2.1; omega))) (o_okS ⟨fun _ => ⟨⟨?_, hf⟩, ?_⟩, fun e => absurd rfl e⟩)
    · have := TJ_add (now := NX_now z.2) (thn := upd (NX_then z.2) (gi (NX_many1 z.2)) k) t1 t2 ⟨k0, ol, (ox.2.1 c3).1, (ox.2.1 c3).2⟩ rfl rfl
      exact ⟨this.1, by have := this.2.1; omega, this.2.2⟩
    · show 2 * un (NX_mk (upd (NX_mark z.2) (gi k) (NX_round z.2)) (NX_now z.2) (upd (NX_then z.2) (gi (NX_many1 z.2)) k) (NX_todo z.2) (NX_round z.2) (NX_many1 z.2 + 1)) + gi (z.1 + -1) < 2 * un z.2 + gi z.1
      have : un (NX_mk (upd (NX_mark z.2) (gi k) (NX_round z.2)) (NX_now z.2) (upd (NX_then z.2) (gi (NX_many1 z.2)) k) (NX_todo z.2) (NX_round z.2) (NX_many1 z.2 + 1)) + 1 = un z.2 := t3
      omega
  obtain ⟨t1, t2, t3⟩ := TJ_mark (now := NX_now z.2) (thn := NX_then z.2) (tt := NX_todo z.2) hp k0 k2 c1 rfl
  have pl : TJ o (NX_then z.2) 25001 (z.1 + -1) (NX_mk (upd (NX_mark z.2) (gi k) (NX_round z.2)) (NX_now z.2) (NX_then z.2) (NX_todo z.2) (NX_round z.2) (NX_many1 z.2)) := ⟨t1.1, by have := t1.2.1; omega, t1.2.2⟩
  have mu0 : 2 * un (NX_mk (upd (NX_mark z.2) (gi k) (NX_round z.2)) (NX_now z.2) (NX_then z.2) (NX_todo z.2) (NX_round z.2) (NX_many1 z.2)) + gi (z.1 + -1) < 2 * un z.2 + gi z.1 := by omega
  obtain ⟨d1, d2, d3⟩ := i32p (n := z.1 + -1) (by omega) e2
  have ed := o_tnc d2
  have mu1 : 2 * un (NX_mk (upd (NX_mark z.2) (gi k) (NX_round z.2)) (NX_now z.2) (NX_then z.2) (NX_todo z.2) (NX_round z.2) (NX_many1 z.2)) + gi (z.1 + -1 + 1) < 2 * un z.2 + gi z.1 := by omega
  have push1 : ∀ v : Int32, 0 ≤ v → v < NO_steps o → TJ o (NX_then z.2) 25001 (z.1 + -1 + 1) (NX_mk (upd (NX_mark z.2) (gi k) (NX_round z.2)) (NX_now z.2) (NX_then z.2) (upd (NX_todo z.2) (gi (z.1 + -1)) v) (NX_round z.2) (NX_many1 z.2)) := by
    intro v v0 v1
    have := TJ_push (now := NX_now z.2) (thn := NX_then z.2) t1 (by omega) v0 v1 rfl
    exact ⟨this.1, by have := this.2.1; omega, this.2.2⟩
  refine o_okG gk (o_okI (fun c4 => ?_) (fun c4 => ?_))
  · refine o_okI (fun _ => o_okS ⟨fun _ => ⟨⟨pl, hf⟩, mu0⟩, fun e => absurd rfl e⟩) (fun _ => ?_)
    refine o_okN (fun w ew => ?_)
    subst ew
    exact o_okG gm (o_okS ⟨fun _ => ⟨⟨push1 _ kp.1 kp.2, hf⟩, mu1⟩, fun e => absurd rfl e⟩)
  refine o_okG gk (o_okI (fun c5 => ?_) (fun c5 => ?_))
  · refine o_okI (fun _ => o_okS ⟨fun _ => ⟨⟨pl, hf⟩, mu0⟩, fun e => absurd rfl e⟩) (fun _ => ?_)
    refine o_okN (fun w ew => ?_)
    subst ew
    exact o_okG gm (o_okS ⟨fun _ => ⟨⟨push1 _ kp.1 kp.2, hf⟩, mu1⟩, fun e => absurd rfl e⟩)
  refine o_okG gk (o_okI (fun c6 => ?_) (fun c6 => ?_))
  · refine o_okN (fun w ew => ?_)
    subst ew
    have oa := ox.2.2.2 c6
    exact o_okG gk (o_okG gm (o_okS ⟨fun _ => ⟨⟨push1 _ oa.1 (hlast _ oa.2), hf⟩, mu1⟩, fun e => absurd rfl e⟩))
  · have o4 : NO_op o (gi k) = 4 := by
      have h1 := ox.1
      have c3 : ¬ NO_op o (gi k) = 1 := c3
      have c4 : ¬ NO_op o (gi k) = 2 := c4
      have c5 : ¬ NO_op o (gi k) = 3 := c5
      have c6 : ¬ NO_op o (gi k) = 5 := c6
      clear hz hf hp ox hP t1 t2 t3 pl mu0 mu1 push1 c1 c2 hlast
      generalize NO_op o (gi k) = w at *
      grind
    obtain ⟨⟨oa0, oa1⟩, ob0, ob1⟩ := ox.2.2.1 o4
    have p1 := TJ_push (v := NO_opA o (gi k)) (now := NX_now z.2) (thn := NX_then z.2) t1 (by omega) oa0 (hlast _ oa1) rfl
    have p2 := TJ_push (v := NO_opB o (gi k)) (now := NX_now z.2) (thn := NX_then z.2) p1 (by omega) ob0 (hlast _ ob1) rfl
    obtain ⟨f1, f2, f3⟩ := i32p (n := z.1 + -1 + 1) (by omega) d2
    have ef := o_tnc f2
    refine o_okN (fun w ew => ?_)
    subst ew
    refine o_okG gk (o_okG gm (o_okN (fun w ew => ?_)))
    subst ew
    refine o_okG gk (o_okG (o_inM (m := 50000) rfl d2 (i32lt (k := 50000) rfl (by omega))) (o_okS ⟨fun _ => ⟨⟨?_, hf⟩, ?_⟩, fun e => absurd rfl e⟩))
    · exact ⟨p2.1, by have := p2.2.1; omega, p2.2.2⟩
    · show 2 * un (NX_mk (upd (NX_mark z.2) (gi k) (NX_round z.2)) (NX_now z.2) (NX_then z.2) (NX_todo z.2) (NX_round z.2) (NX_many1 z.2)) + gi (z.1 + -1 + 1 + 1) < 2 * un z.2 + gi z.1
      omega
theorem s_thread_then {n : Nat} {x2 x3 x4 : Int32} {o : SNO} {x : SNX} (hn : o_big ≤ n) (hP : PRG o) (v0 : 0 ≤ x2) (v1 : x2 < NO_steps o) (hx : TX o (NX_then x) x) : o_ok (m_MM_thread_then n x2 x3 x4 o x) (fun r => TX o (NX_then r.2) r.2 ∧ NX_now r.2 = NX_now x) := by
  unfold m_MM_thread_then
  refine o_okN (fun w ew => ?_)
  subst ew
  refine o_okG (o_inM (m := 50000) rfl (by decide) (by decide)) ?_
  have u := ucn_le (f := NX_mark x) (r := NX_round x) 25000
  have t0 : TJ o (NX_then x) 25000 0 x := ⟨by decide, by show (0 : Int32).toInt + (un x : Int) ≤ 25000; have z0 : (0 : Int32).toInt = 0 := rfl; rw [z0]; unfold un; omega, fun i i0 hi => absurd (Int32.lt_of_le_of_lt i0 hi) (by decide), hx⟩
  have t1 := TJ_push (v := x2) (now := NX_now x) (thn := NX_then x) t0 (by omega) v0 v1 rfl
  have h0 : TJ o (NX_then x) 25001 ((0:Int32) + 1) (NX_mk (NX_mark x) (NX_now x) (NX_then x) (upd (NX_todo x) (gi 0) x2) (NX_round x) (NX_many1 x)) := t1
  refine o_okB (o_lpR (P := fun q => TX o (NX_then q.2.2) q.2.2 ∧ NX_now q.2.2 = NX_now x) (fun z => TJ o (NX_then z.2) 25001 z.1 z.2 ∧ NX_now z.2 = NX_now x) tmu hn (tmuB (z := ((0:Int32) + 1, NX_mk (NX_mark x) (NX_now x) (NX_then x) (upd (NX_todo x) (gi 0) x2) (NX_round x) (NX_many1 x))) h0) ⟨h0, rfl⟩ (fun z hz => thread_step_then (nw := NX_now x) hP hz)) ?_
  intro q ⟨_, hq⟩
  exact o_okI (fun _ => o_okS hq) (fun _ => o_okS hq)
