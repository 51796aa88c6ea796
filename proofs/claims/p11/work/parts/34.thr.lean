theorem s_thread_now_lp {K n : Nat} {x3 x4 : Int32} {o : SNO} {z : Int32 × SNX} (hK : K = 25000) (hn : o_big ≤ n) (hP : PRG o) (hb : tmu K z < o_big) (hz : QI K o z) : o_ok (o_lp n (m_MM_thread_now_b14 n x3 x4 o) z) (fun q => q.1 ≠ 0 ∧ QPn K o q) := by
  have st : ∀ z : Int32 × SNX, QI K o z → o_ok (m_MM_thread_now_b14 n x3 x4 o z) (fun q => (q.1 = 0 → QI K o q.2 ∧ tmu K q.2 < tmu K z) ∧ (q.1 ≠ 0 → QPn K o q)) := by
    intro z hz
    obtain ⟨r, e, h⟩ := thread_step_now (n := n) (x3 := x3) (x4 := x4) hK hP hz
    exact ⟨r, e, h.1, h.2⟩
  generalize hf : m_MM_thread_now_b14 n x3 x4 o = f at st ⊢
  exact o_lpR (QI K o) (tmu K) hn hb hz st
theorem s_thread_now {K n : Nat} {x2 x3 x4 : Int32} {o : SNO} {x : SNX} (hK : K = 25000) (hn : o_big ≤ n) (hP : PRG o) (v0 : 0 ≤ x2) (v1 : x2 < NO_steps o) (hx : QE K o x) : o_ok (m_MM_thread_now n x2 x3 x4 o x) (fun r => QE K o r.2) := by
  obtain ⟨⟨f, nw, th⟩, td, rr, mn⟩ := x
  have hx : TX K o nw f rr mn := hx
  unfold m_MM_thread_now
  refine o_okN (fun w ew => ?_)
  subst ew
  refine o_okG (o_inM (m := 50000) rfl (by decide) (by decide)) ?_
  have u := ucn_le (f := f) (r := rr) K
  have z0 : (0 : Int32).toInt = 0 := rfl
  have t0 : TJ K o nw 25000 0 f td rr mn := ⟨by decide, by rw [z0]; omega, fun i i0 hi => absurd (Int32.lt_of_le_of_lt i0 hi) (by decide), hx⟩
  have h0 : TJ K o nw 25001 ((0:Int32) + 1) f (upd td (gi 0) x2) rr mn := TJ_push (v := x2) t0 (by omega) v0 v1 rfl
  have q0 : QI K o ((0:Int32) + 1, ((f, nw, th), upd td (gi 0) x2, rr, mn)) := h0
  have hb : tmu K ((0:Int32) + 1, ((f, nw, th), upd td (gi 0) x2, rr, mn)) < o_big := tmuB hK (l := nw) (o := o) (z := ((0:Int32) + 1, ((f, nw, th), upd td (gi 0) x2, rr, mn))) h0
  refine o_okB (s_thread_now_lp hK hn hP hb q0) ?_
  intro q ⟨_, hq⟩
  exact o_okI (fun _ => o_okS hq) (fun _ => o_okS hq)
def RI2 (K : Nat) (o : SNO) (N0 : Nat → Int32) (z : Int32 × SNX) : Prop := NX_now z.2 = N0 ∧ TJ K o (NX_then z.2) 25001 z.1 (NX_mark z.2) (NX_todo z.2) (NX_round z.2) (NX_many1 z.2)
def RE2 (K : Nat) (o : SNO) (N0 : Nat → Int32) (x : SNX) : Prop := NX_now x = N0 ∧ TX K o (NX_then x) (NX_mark x) (NX_round x) (NX_many1 x)
theorem thread_step_then {K n : Nat} {x3 x4 : Int32} {o : SNO} {N0 : Nat → Int32} {z : Int32 × SNX} (hK : K = 25000) (hP : PRG o) (hz : RI2 K o N0 z) :
    o_ok (m_MM_thread_then_b14 n x3 x4 o z) (fun q => (q.1 = 0 → RI2 K o N0 q.2 ∧ tmu K q.2 < tmu K z) ∧ (q.1 ≠ 0 → RE2 K o N0 q.2.2)) := by
  obtain ⟨zn, ⟨⟨f, nw, th⟩, td, rr, mn⟩⟩ := z
  obtain ⟨hN, hz⟩ := hz
  have hN : nw = N0 := hN
  have hz : TJ K o th 25001 zn f td rr mn := hz
  have hs : NO_steps o ≤ 24500 := hP.2.1
  unfold m_MM_thread_then_b14
  refine o_okI (fun c => o_okS ⟨fun e => absurd e (Nat.succ_ne_zero 1), fun _ => ⟨hN, hz.2.2.2⟩⟩) (fun c => ?_)
  have c0 : 0 < zn := Int32.not_le.mp c
  have ez := gi_tnc hz.1
  have h2 := hz.2.1
  refine o_okN (fun m em => ?_)
  have em : m = zn + -1 := em
  obtain ⟨e1, e2, e3⟩ := m3_ar c0 em
  have hp := TJ_pop hz c0 em
  clear em
  have ez2 := gi_tnc e2
  have gm : o_in m 50000 = true := o_inM (m := 50000) rfl e2 (i32lt (k := 50000) rfl (by omega))
  refine o_okG gm (o_okN (fun k ek => ?_))
  have ek : k = td (gi m) := ek
  obtain ⟨k0, k1⟩ := hz.2.2.1 m e2 e3
  rw [← ek] at k0 k1
  have k2 : k < 25000 := Int32.lt_of_lt_of_le k1 (Int32.le_trans hs (by decide))
  have gk : o_in k 25000 = true := o_inM (m := 25000) rfl k0 k2
  have gol : ∀ (f' nw' th' td' : Nat → Int32) (n' mn' : Int32), nw' = N0 → TJ K o th' 25001 n' f' td' rr mn' → 2 * ucn f' rr K + gi n' < 2 * ucn f rr K + gi zn → ((((0, n', ((f', nw', th'), td', rr, mn')) : Nat × Int32 × SNX).1 = 0 → RI2 K o N0 (n', ((f', nw', th'), td', rr, mn')) ∧ tmu K (n', ((f', nw', th'), td', rr, mn')) < tmu K (zn, ((f, nw, th), td, rr, mn))) ∧ (((0, n', ((f', nw', th'), td', rr, mn')) : Nat × Int32 × SNX).1 ≠ 0 → RE2 K o N0 ((f', nw', th'), td', rr, mn'))) := fun f' nw' th' td' n' mn' h0 h1 h2 => ⟨fun _ => ⟨⟨h0, h1⟩, h2⟩, fun e => absurd rfl e⟩
  refine o_okG gk (o_okI (fun c1 => ?_) (fun c1 => ?_))
  · exact o_okS (gol f nw th td m mn hN (TJ_mono hp (by omega)) (by omega))
  have c1 : f (gi k) ≠ rr := c1
  obtain ⟨t1, t2, t3⟩ := TJ_mark hK hp k0 k2 c1
  refine o_okG gk (o_okG gk (o_okI (fun c2 => ?_) (fun c2 => ?_)))
  · exact o_okS ⟨fun e => absurd e (Nat.succ_ne_zero 0), fun _ => ⟨hN, t1.2.2.2⟩⟩
  obtain ⟨ox, ol⟩ := prg_k hP k0 k1 c2
  have kp : 0 ≤ k + 1 ∧ k + 1 < NO_steps o := kp_ar hP.1 hs k0 ol
  have hlast : ∀ w : Int32, w ≤ NO_steps o - 1 → w < NO_steps o := fun w hw => hl_ar hP.1 hs hw
  refine o_okG gk (o_okI (fun c3 => ?_) (fun c3 => ?_))
  · have hm0 : 0 ≤ mn := hz.2.2.2.1
    have hm1 := hz.2.2.2.2.1
    have gmn : o_in mn 25000 = true := o_inM (m := 25000) rfl hm0 (i32lt (k := 25000) rfl (by omega))
    exact o_okG gmn (o_okS (gol (upd f (gi k) rr) nw (upd th (gi mn) k) td m (mn + 1) hN (TJ_mono (TJ_add t1 t2 ⟨k0, ol, (ox.2.1 c3).1, (ox.2.1 c3).2⟩) (by omega)) (by omega)))
  have pl : TJ K o th 25001 m (upd f (gi k) rr) td rr mn := TJ_mono t1 (by omega)
  have hA : m.toInt ≤ 26000 := by omega
  have push1 : ∀ v w : Int32, 0 ≤ v → v < NO_steps o → w = m + 1 → TJ K o th 25001 w (upd f (gi k) rr) (upd td (gi m) v) rr mn ∧ 2 * ucn (upd f (gi k) rr) rr K + gi w < 2 * ucn f rr K + gi zn := fun v w v0 v1 ew => by
    refine ⟨TJ_mono (TJ_push t1 (by omega) v0 v1 ew) (by omega), ?_⟩
    obtain ⟨d1, d2, d3⟩ := p3_ar hA e2 ew
    have ed := gi_tnc d2
    clear ew
    omega
  refine o_okG gk (o_okI (fun c4 => ?_) (fun c4 => ?_))
  · refine o_okI (fun _ => o_okS (gol (upd f (gi k) rr) nw th td m mn hN pl (by omega))) (fun _ => ?_)
    refine o_okN (fun w ew => ?_)
    obtain ⟨j1, j2⟩ := push1 _ w kp.1 kp.2 ew
    exact o_okG gm (o_okS (gol (upd f (gi k) rr) nw th (upd td (gi m) (k + 1)) w mn hN j1 j2))
  refine o_okG gk (o_okI (fun c5 => ?_) (fun c5 => ?_))
  · refine o_okI (fun _ => o_okS (gol (upd f (gi k) rr) nw th td m mn hN pl (by omega))) (fun _ => ?_)
    refine o_okN (fun w ew => ?_)
    obtain ⟨j1, j2⟩ := push1 _ w kp.1 kp.2 ew
    exact o_okG gm (o_okS (gol (upd f (gi k) rr) nw th (upd td (gi m) (k + 1)) w mn hN j1 j2))
  refine o_okG gk (o_okI (fun c6 => ?_) (fun c6 => ?_))
  · refine o_okN (fun w ew => ?_)
    have oa := ox.2.2.2 c6
    obtain ⟨j1, j2⟩ := push1 _ w oa.1 (hlast _ oa.2) ew
    exact o_okG gk (o_okG gm (o_okS (gol (upd f (gi k) rr) nw th (upd td (gi m) (NO_opA o (gi k))) w mn hN j1 j2)))
  · have o4 : NO_op o (gi k) = 4 := o4_ar ox.1.1 ox.1.2 c3 c4 c5 c6
    obtain ⟨⟨oa0, oa1⟩, ob0, ob1⟩ := ox.2.2.1 o4
    refine o_okN (fun w ew => ?_)
    refine o_okG gk (o_okG gm (o_okN (fun u eu => ?_)))
    obtain ⟨d1, d2, d3⟩ := p3_ar hA e2 ew
    have p1 := TJ_push (v := NO_opA o (gi k)) t1 (by omega) oa0 (hlast _ oa1) ew
    clear ew
    have hB : w.toInt ≤ 26000 := by omega
    obtain ⟨g1, g2, g3⟩ := p3_ar hB d2 eu
    have p2 := TJ_push (v := NO_opB o (gi k)) p1 (by omega) ob0 (hlast _ ob1) eu
    clear eu
    have ed := gi_tnc g2
    have fin := TJ_mono p2 (show (25001 : Int) - 1 - 1 + 1 + 1 ≤ 25001 by omega)
    clear p1 p2
    exact o_okG gk (o_okG g3 (o_okS (gol (upd f (gi k) rr) nw th (upd (upd td (gi m) (NO_opA o (gi k))) (gi w) (NO_opB o (gi k))) u mn hN fin (by omega))))
def RPn (K : Nat) (o : SNO) (N0 : Nat → Int32) (q : Nat × (Int32 × SNX)) : Prop := RE2 K o N0 q.2.2
theorem s_thread_then_lp {K n : Nat} {x3 x4 : Int32} {o : SNO} {N0 : Nat → Int32} {z : Int32 × SNX} (hK : K = 25000) (hn : o_big ≤ n) (hP : PRG o) (hb : tmu K z < o_big) (hz : RI2 K o N0 z) : o_ok (o_lp n (m_MM_thread_then_b14 n x3 x4 o) z) (fun q => q.1 ≠ 0 ∧ RPn K o N0 q) := by
  have st : ∀ z : Int32 × SNX, RI2 K o N0 z → o_ok (m_MM_thread_then_b14 n x3 x4 o z) (fun q => (q.1 = 0 → RI2 K o N0 q.2 ∧ tmu K q.2 < tmu K z) ∧ (q.1 ≠ 0 → RPn K o N0 q)) := by
    intro z hz
    obtain ⟨r, e, h⟩ := thread_step_then (n := n) (x3 := x3) (x4 := x4) hK hP hz
    exact ⟨r, e, h.1, h.2⟩
  generalize hf : m_MM_thread_then_b14 n x3 x4 o = f at st ⊢
  exact o_lpR (RI2 K o N0) (tmu K) hn hb hz st
theorem s_thread_then {K n : Nat} {x2 x3 x4 : Int32} {o : SNO} {N0 : Nat → Int32} {x : SNX} (hK : K = 25000) (hn : o_big ≤ n) (hP : PRG o) (v0 : 0 ≤ x2) (v1 : x2 < NO_steps o) (hx : RE2 K o N0 x) : o_ok (m_MM_thread_then n x2 x3 x4 o x) (fun r => RE2 K o N0 r.2) := by
  obtain ⟨⟨f, nw, th⟩, td, rr, mn⟩ := x
  obtain ⟨hN, hx⟩ := hx
  have hN : nw = N0 := hN
  have hx : TX K o th f rr mn := hx
  unfold m_MM_thread_then
  refine o_okN (fun w ew => ?_)
  subst ew
  refine o_okG (o_inM (m := 50000) rfl (by decide) (by decide)) ?_
  have u := ucn_le (f := f) (r := rr) K
  have z0 : (0 : Int32).toInt = 0 := rfl
  have t0 : TJ K o th 25000 0 f td rr mn := ⟨by decide, by rw [z0]; omega, fun i i0 hi => absurd (Int32.lt_of_le_of_lt i0 hi) (by decide), hx⟩
  have h0 : TJ K o th 25001 ((0:Int32) + 1) f (upd td (gi 0) x2) rr mn := TJ_push (v := x2) t0 (by omega) v0 v1 rfl
  have q0 : RI2 K o N0 ((0:Int32) + 1, ((f, nw, th), upd td (gi 0) x2, rr, mn)) := ⟨hN, h0⟩
  have hb : tmu K ((0:Int32) + 1, ((f, nw, th), upd td (gi 0) x2, rr, mn)) < o_big := tmuB hK (l := th) (o := o) (z := ((0:Int32) + 1, ((f, nw, th), upd td (gi 0) x2, rr, mn))) h0
  refine o_okB (s_thread_then_lp hK hn hP hb q0) ?_
  intro q ⟨_, hq⟩
  exact o_okI (fun _ => o_okS hq) (fun _ => o_okS hq)
