theorem s_MM_fails {x1 : Int32} {x2 : Int32} {Ni : SNI} (h_Ni : I_NI Ni) (p0 : x2 ≠ 0) : o_ok (m_MM_fails x1 x2 Ni) (fun r => (r.1 = 0 ∨ r.1 = 1) ∧ (r.1 = 0 → x1 = 0) ∧ (r.1 ≠ 0 → x1 ≠ 0 ∨ NI_err Ni ≠ 0) ∧ NI_fed r.2 = NI_fed Ni ∧ NI_err r.2 = (if x1 = 0 then NI_err Ni else if NI_err Ni = 0 then x2 else NI_err Ni) ∧ I_NI r.2) := by
  unfold m_MM_fails
  refine o_okI (fun c1 => ?_) (fun c1 => ?_)
  · unfold m_MM_fails_j16
    refine o_okI (fun c2 => ?_) (fun c2 => ?_)
    · refine o_okS ?_
      refine ⟨?_, ?_, ?_, ?_, ?_, ?_⟩
      · first | with_reducible exact True.intro | with_reducible assumption | grind [-Prod] | grind [-Prod, → sc_NI] | grind [-Prod, I_NI, o_bn, upd]
      · first | with_reducible exact True.intro | with_reducible assumption | grind [-Prod] | grind [-Prod, → sc_NI] | grind [-Prod, I_NI, o_bn, upd]
      · first | with_reducible exact True.intro | with_reducible assumption | grind [-Prod] | grind [-Prod, → sc_NI] | grind [-Prod, I_NI, o_bn, upd]
      · first | with_reducible exact True.intro | with_reducible assumption | grind [-Prod] | grind [-Prod, → sc_NI] | grind [-Prod, I_NI, o_bn, upd]
      · first | with_reducible exact True.intro | with_reducible assumption | grind [-Prod] | grind [-Prod, → sc_NI] | grind [-Prod, I_NI, o_bn, upd]
      · exact h_Ni
    · refine o_okS ?_
      refine ⟨?_, ?_, ?_, ?_, ?_, ?_⟩
      · first | with_reducible exact True.intro | with_reducible assumption | grind [-Prod] | grind [-Prod, → sc_NI] | grind [-Prod, I_NI, o_bn, upd]
      · first | with_reducible exact True.intro | with_reducible assumption | grind [-Prod] | grind [-Prod, → sc_NI] | grind [-Prod, I_NI, o_bn, upd]
      · first | with_reducible exact True.intro | with_reducible assumption | grind [-Prod] | grind [-Prod, → sc_NI] | grind [-Prod, I_NI, o_bn, upd]
      · first | with_reducible exact True.intro | with_reducible assumption | grind [-Prod] | grind [-Prod, → sc_NI] | grind [-Prod, I_NI, o_bn, upd]
      · first | with_reducible exact True.intro | with_reducible assumption | grind [-Prod] | grind [-Prod, → sc_NI] | grind [-Prod, I_NI, o_bn, upd]
      · exact h_Ni
  · refine o_okI (fun c3 => ?_) (fun c3 => ?_)
    · unfold m_MM_fails_j16
      refine o_okI (fun c4 => ?_) (fun c4 => ?_)
      · refine o_okS ?_
        refine ⟨?_, ?_, ?_, ?_, ?_, ?_⟩
        · first | with_reducible exact True.intro | with_reducible assumption | grind [-Prod] | grind [-Prod, → sc_NI] | grind [-Prod, I_NI, o_bn, upd]
        · first | with_reducible exact True.intro | with_reducible assumption | grind [-Prod] | grind [-Prod, → sc_NI] | grind [-Prod, I_NI, o_bn, upd]
        · first | with_reducible exact True.intro | with_reducible assumption | grind [-Prod] | grind [-Prod, → sc_NI] | grind [-Prod, I_NI, o_bn, upd]
        · first | with_reducible exact True.intro | with_reducible assumption | grind [-Prod] | grind [-Prod, → sc_NI] | grind [-Prod, I_NI, o_bn, upd]
        · first | with_reducible exact True.intro | with_reducible assumption | grind [-Prod] | grind [-Prod, → sc_NI] | grind [-Prod, I_NI, o_bn, upd]
        · exact ⟨h_Ni.1, h_Ni.2⟩
      · refine o_okS ?_
        refine ⟨?_, ?_, ?_, ?_, ?_, ?_⟩
        · first | with_reducible exact True.intro | with_reducible assumption | grind [-Prod] | grind [-Prod, → sc_NI] | grind [-Prod, I_NI, o_bn, upd]
        · first | with_reducible exact True.intro | with_reducible assumption | grind [-Prod] | grind [-Prod, → sc_NI] | grind [-Prod, I_NI, o_bn, upd]
        · first | with_reducible exact True.intro | with_reducible assumption | grind [-Prod] | grind [-Prod, → sc_NI] | grind [-Prod, I_NI, o_bn, upd]
        · first | with_reducible exact True.intro | with_reducible assumption | grind [-Prod] | grind [-Prod, → sc_NI] | grind [-Prod, I_NI, o_bn, upd]
        · first | with_reducible exact True.intro | with_reducible assumption | grind [-Prod] | grind [-Prod, → sc_NI] | grind [-Prod, I_NI, o_bn, upd]
        · exact ⟨h_Ni.1, h_Ni.2⟩
    · unfold m_MM_fails_j16
      refine o_okI (fun c5 => ?_) (fun c5 => ?_)
      · refine o_okS ?_
        refine ⟨?_, ?_, ?_, ?_, ?_, ?_⟩
        · first | with_reducible exact True.intro | with_reducible assumption | grind [-Prod] | grind [-Prod, → sc_NI] | grind [-Prod, I_NI, o_bn, upd]
        · first | with_reducible exact True.intro | with_reducible assumption | grind [-Prod] | grind [-Prod, → sc_NI] | grind [-Prod, I_NI, o_bn, upd]
        · first | with_reducible exact True.intro | with_reducible assumption | grind [-Prod] | grind [-Prod, → sc_NI] | grind [-Prod, I_NI, o_bn, upd]
        · first | with_reducible exact True.intro | with_reducible assumption | grind [-Prod] | grind [-Prod, → sc_NI] | grind [-Prod, I_NI, o_bn, upd]
        · first | with_reducible exact True.intro | with_reducible assumption | grind [-Prod] | grind [-Prod, → sc_NI] | grind [-Prod, I_NI, o_bn, upd]
        · exact h_Ni
      · refine o_okS ?_
        refine ⟨?_, ?_, ?_, ?_, ?_, ?_⟩
        · first | with_reducible exact True.intro | with_reducible assumption | grind [-Prod] | grind [-Prod, → sc_NI] | grind [-Prod, I_NI, o_bn, upd]
        · first | with_reducible exact True.intro | with_reducible assumption | grind [-Prod] | grind [-Prod, → sc_NI] | grind [-Prod, I_NI, o_bn, upd]
        · first | with_reducible exact True.intro | with_reducible assumption | grind [-Prod] | grind [-Prod, → sc_NI] | grind [-Prod, I_NI, o_bn, upd]
        · first | with_reducible exact True.intro | with_reducible assumption | grind [-Prod] | grind [-Prod, → sc_NI] | grind [-Prod, I_NI, o_bn, upd]
        · first | with_reducible exact True.intro | with_reducible assumption | grind [-Prod] | grind [-Prod, → sc_NI] | grind [-Prod, I_NI, o_bn, upd]
        · exact h_Ni
/-! The reference's check: comesBack, check -/
def zcn (f : Nat → Int32) : Nat → Nat
  | 0 => 0
  | k + 1 => zcn f k + (if f k = 0 then 1 else 0)
theorem zcn_le {f : Nat → Int32} : ∀ K, zcn f K ≤ K := by
  intro K
  induction K with
  | zero => exact Nat.le_refl _
  | succ K ih => show zcn f K + _ ≤ K + 1; split <;> omega
theorem zcn_ge {f : Nat → Int32} {j : Nat} {v : Int32} : ∀ K, K ≤ j → zcn (upd f j v) K = zcn f K := by
  intro K
  induction K with
  | zero => intro _; rfl
  | succ K ih =>
    intro h
    show zcn (upd f j v) K + _ = zcn f K + _
    rw [ih (by omega), o_updN (show K ≠ j by omega)]
theorem zcn_upd {f : Nat → Int32} {j : Nat} {v : Int32} (h0 : f j = 0) (hv : v ≠ 0) : ∀ K, j < K → zcn (upd f j v) K + 1 = zcn f K := by
  intro K
  induction K with
  | zero => intro h; exact absurd h (Nat.not_lt_zero _)
  | succ K ih =>
    intro h
    show zcn (upd f j v) K + _ + 1 = zcn f K + _
    by_cases e : K = j
    · subst e
      rw [zcn_ge K (Nat.le_refl _), o_updE, if_pos h0, if_neg hv]
    · have := ih (by omega)
      rw [o_updN e]
      omega
def RT (vs n : Int32) (r : Nat → Int32) : Prop := 0 ≤ n ∧ n ≤ 2000 ∧ ∀ i : Int32, 0 ≤ i → i < n → 0 ≤ r (gi i) ∧ r (gi i) < vs
theorem s_MM_go {x1 x2 : Int32} {s : SMT} {Nh : SNH} (hI : I_MT s) (v0 : 0 ≤ x2) (v1 : x2 < MT_values s) (hR : RT (MT_values s) x1 (NH_route Nh)) : o_ok (m_MM_go x1 x2 Nh) (fun r => RT (MT_values s) r.1 (NH_route r.2) ∧ NH_seen1 r.2 = NH_seen1 Nh) := by
  obtain ⟨a1, a2, a3⟩ := hR
  unfold m_MM_go
  refine o_okG (o_inV hI v0 v1) (o_okI (fun _ => o_okI (fun _ => o_okS ⟨⟨a1, a2, a3⟩, rfl⟩) (fun ne => ?_)) (fun _ => o_okS ⟨⟨a1, a2, a3⟩, rfl⟩))
  have ar : x1 < 2000 ∧ 0 ≤ x1 + 1 ∧ x1 + 1 ≤ 2000 ∧ ∀ i : Int32, i < x1 + 1 → ¬ i = x1 → i < x1 := by
    clear a3 hI
    refine ⟨?_, ?_, ?_, fun i h1 h2 => ?_⟩ <;> grind
  refine o_okG (o_inM (m := 2000) rfl a1 ar.1) (o_okS ⟨⟨ar.2.1, ar.2.2.1, fun i i0 hi => ?_⟩, rfl⟩)
  show 0 ≤ upd (NH_route Nh) (gi x1) x2 (gi i) ∧ upd (NH_route Nh) (gi x1) x2 (gi i) < MT_values s
  by_cases e : i = x1
  · rw [e, o_updE]; exact ⟨v0, v1⟩
  · rw [o_updN (o_neq i0 a1 e)]
    exact a3 i i0 (ar.2.2.2 i hi e)
def TG (s : SMT) (a : SNA) : Prop := ∀ m : Int32, 0 ≤ m → m < MT_values s → NA_key a (gi m) = 32 → 0 ≤ NA_target a (gi m) ∧ NA_target a (gi m) < MT_values s
def CW (s : SMT) (se : Nat → Int32) (n : Int32) (h : SNH) : Prop := RT (MT_values s) n (NH_route h) ∧ NH_seen1 h = se
theorem s_cb_j208 {n : Nat} {x1 x2 x3 x5 : Int32} {s : SMT} {Na : SNA} {Nh : SNH} {se : Nat → Int32} {P : Nat × (Int32 × Int32 × SNH) → Prop} (hn : o_big ≤ n) (hI : I_MT s) (hT : T_MT s) (v0 : 0 ≤ x5) (v1 : x5 < MT_values s) (hC : CW s se x2 Nh) (hP : ∀ (m : Int32) (H : SNH), CW s se m H → P (0, m, MT_next s (gi x5), H)) : o_ok (m_MM_comesBack_j208 n x1 x2 x3 x5 s Na Nh) P := by
  have g := o_inV hI v0 v1
  obtain ⟨L, l1, l2, l3⟩ := tchain hI hT v0 v1
  unfold m_MM_comesBack_j208
  refine o_okG g (o_okN (fun w ew => ?_))
  have ew : w = MT_first s (gi x5) := ew
  refine o_okB (cl_lp (P := fun q => CW s se q.2.1 q.2.2.2) (V := fun z : Int32 × Int32 × SNH => z.2.1) (fun L2 z => CW s se z.1 z.2.2 ∧ ∀ y ∈ L2, y ∈ L) ?_ ?_ L n (x2, w, Nh) (Nat.lt_of_le_of_lt l2 (Nat.lt_of_lt_of_le (by decide) hn)) (by rw [ew]; exact l1) ⟨hC, fun y h => h⟩) ?_
  · intro L2 z hJ hL e
    rw [e] at hL
    have hz : z.2.1 = -1 := hL
    unfold m_MM_comesBack_b220
    exact o_okI (fun _ => o_okS ⟨Nat.succ_ne_zero 0, hJ.1⟩) (fun c => absurd (show z.2.1 < 0 by rw [hz]; decide) c)
  · intro y L2 z hJ ey y0' _
    obtain ⟨hV, hL2⟩ := hJ
    obtain ⟨_, w0, w1⟩ := l3 y (hL2 y List.mem_cons_self)
    have ey : z.2.1 = y := ey
    unfold m_MM_comesBack_b220
    rw [ey]
    refine o_okI (fun c => absurd w0 (Int32.not_le.mpr c)) (fun _ => ?_)
    refine o_okB (s_MM_go hI w0 w1 hV.1) ?_
    intro q2 ⟨b1, b2⟩
    exact o_okG (o_inV hI w0 w1) (o_okN (fun u eu => o_okS ⟨fun _ => ⟨⟨⟨b1, b2.trans hV.2⟩, fun w hw => hL2 w (List.mem_cons_of_mem _ hw)⟩, eu⟩, fun e => absurd rfl e⟩))
  · intro q3 ⟨_, h3⟩
    unfold m_MM_comesBack_j248
    refine o_okG g (o_okN (fun u eu => o_okS ?_))
    have eu : u = MT_next s (gi x5) := eu
    rw [eu]; exact hP _ _ h3
theorem s_cb_j96 {n : Nat} {x1 x2 x4 : Int32} {s : SMT} {Na : SNA} {Nh : SNH} {se : Nat → Int32} (hn : o_big ≤ n) (hI : I_MT s) (hT : T_MT s) (hG : TG s Na) (v0 : 0 ≤ x4) (v1 : x4 < MT_values s) (hC : CW s se x2 Nh) : o_ok (m_MM_comesBack_j96 n x1 x2 x4 s Na Nh) (fun q => q.1 = 0 ∧ q.2.2.1 = 0 ∧ CW s se q.2.1 q.2.2.2) := by
  have g := o_inV hI v0 v1
  unfold m_MM_comesBack_j96
  refine o_okG g (o_okI (fun k6 => ?_) (fun _ => o_okS ⟨rfl, rfl, hC⟩))
  obtain ⟨L, l1, l2, l3⟩ := tchain hI hT v0 v1
  refine o_okG g (o_okN (fun w ew => ?_))
  have ew : w = MT_first s (gi x4) := ew
  refine o_okB (cl_lp (P := fun q => CW s se q.2.1 q.2.2.2) (V := fun z : Int32 × Int32 × SNH => z.2.1) (fun L2 z => CW s se z.1 z.2.2 ∧ ∀ y ∈ L2, y ∈ L) ?_ ?_ L n (x2, w, Nh) (Nat.lt_of_le_of_lt l2 (Nat.lt_of_lt_of_le (by decide) hn)) (by rw [ew]; exact l1) ⟨hC, fun y h => h⟩) ?_
  · intro L2 z hJ hL e
    rw [e] at hL
    have hz : z.2.1 = -1 := hL
    unfold m_MM_comesBack_b128
    exact o_okI (fun _ => o_okS ⟨Nat.succ_ne_zero 0, hJ.1⟩) (fun c => absurd (show z.2.1 < 0 by rw [hz]; decide) c)
  · intro y L2 z hJ ey y0' _
    obtain ⟨hV, hL2⟩ := hJ
    obtain ⟨_, w0, w1⟩ := l3 y (hL2 y List.mem_cons_self)
    have gy := o_inV hI w0 w1
    have ey : z.2.1 = y := ey
    have hgo : ∀ (m : Int32) (H : SNH), CW s se m H → (fun q : Nat × (Int32 × Int32 × SNH) => (q.1 = 0 → (CW s se q.2.1 q.2.2.2 ∧ ∀ u ∈ L2, u ∈ L) ∧ q.2.2.1 = MT_next s (gi y)) ∧ (q.1 ≠ 0 → CW s se q.2.1 q.2.2.2)) (0, m, MT_next s (gi y), H) := fun m H h => ⟨fun _ => ⟨⟨h, fun w hw => hL2 w (List.mem_cons_of_mem _ hw)⟩, rfl⟩, fun e => absurd rfl e⟩
    have j248 : ∀ (m : Int32) (H : SNH), CW s se m H → o_ok (m_MM_comesBack_j248 n x1 m 0 y s Na H) (fun q => (q.1 = 0 → (CW s se q.2.1 q.2.2.2 ∧ ∀ u ∈ L2, u ∈ L) ∧ q.2.2.1 = MT_next s (gi y)) ∧ (q.1 ≠ 0 → CW s se q.2.1 q.2.2.2)) := by
      intro m H h
      unfold m_MM_comesBack_j248
      refine o_okG gy (o_okN (fun u eu => o_okS ?_))
      have eu : u = MT_next s (gi y) := eu
      rw [eu]; exact hgo m H h
    have j208 : o_ok (m_MM_comesBack_j208 n x1 z.1 0 y s Na z.2.2) (fun q => (q.1 = 0 → (CW s se q.2.1 q.2.2.2 ∧ ∀ u ∈ L2, u ∈ L) ∧ q.2.2.1 = MT_next s (gi y)) ∧ (q.1 ≠ 0 → CW s se q.2.1 q.2.2.2)) := s_cb_j208 hn hI hT w0 w1 hV hgo
    have j201 : ∀ k : Int32, o_ok (m_MM_comesBack_j201 n x1 z.1 0 y k s Na z.2.2) (fun q => (q.1 = 0 → (CW s se q.2.1 q.2.2.2 ∧ ∀ u ∈ L2, u ∈ L) ∧ q.2.2.1 = MT_next s (gi y)) ∧ (q.1 ≠ 0 → CW s se q.2.1 q.2.2.2)) := by
      intro k
      unfold m_MM_comesBack_j201
      exact o_okI (fun _ => j208) (fun _ => j248 _ _ hV)
    have j187 : ∀ k : Int32, o_ok (m_MM_comesBack_j187 n x1 z.1 0 y k s Na z.2.2) (fun q => (q.1 = 0 → (CW s se q.2.1 q.2.2.2 ∧ ∀ u ∈ L2, u ∈ L) ∧ q.2.2.1 = MT_next s (gi y)) ∧ (q.1 ≠ 0 → CW s se q.2.1 q.2.2.2)) := by
      intro k
      unfold m_MM_comesBack_j187
      exact o_okI (fun _ => j201 k) (fun _ => o_okI (fun _ => j208) (fun _ => j201 k))
    unfold m_MM_comesBack_b128
    rw [ey]
    refine o_okI (fun c => absurd w0 (Int32.not_le.mpr c)) (fun _ => o_okG gy (o_okN (fun k ek => ?_)))
    have ek : k = NA_key Na (gi y) := ek
    refine o_okI (fun e32 => o_okG gy ?_) (fun _ => o_okI (fun _ => j187 k) (fun _ => o_okI (fun _ => j187 k) (fun _ => ?_)))
    · obtain ⟨t0, t1⟩ := hG y w0 w1 (ek.symm.trans e32)
      refine o_okB (s_MM_go hI t0 t1 hV.1) ?_
      intro q5 ⟨b1, b2⟩
      exact j248 _ _ ⟨b1, b2.trans hV.2⟩
    · refine o_okB (s_MM_go hI w0 w1 hV.1) ?_
      intro q4 ⟨b1, b2⟩
      exact j248 _ _ ⟨b1, b2.trans hV.2⟩
  · intro q6 ⟨_, h6⟩
    exact o_okS ⟨rfl, rfl, h6⟩
def CBI (s : SMT) (z : Int32 × Int32 × SNH) : Prop := RT (MT_values s) z.1 (NH_route z.2.2)
def cmu (K : Nat) (z : Int32 × Int32 × SNH) : Nat := (if z.2.1 = 0 then 0 else 3000000) + 2001 * zcn (NH_seen1 z.2.2) K + gi z.1
theorem s_cb_b40 {K n : Nat} {x1 : Int32} {s : SMT} {Na : SNA} {z : Int32 × Int32 × SNH} (hK : K = 1000) (hn : o_big ≤ n) (hI : I_MT s) (hT : T_MT s) (hG : TG s Na) (hz : CBI s z) : o_ok (m_MM_comesBack_b40 n x1 s Na z) (fun q => (q.1 = 0 → CBI s q.2 ∧ cmu K q.2 < cmu K z) ∧ (q.1 ≠ 0 → True)) := by
  obtain ⟨n0, fs, H⟩ := z
  have hz : RT (MT_values s) n0 (NH_route H) := hz
  unfold m_MM_comesBack_b40
  refine o_okI (fun _ => o_okS ⟨fun e => absurd e (Nat.succ_ne_zero 1), fun _ => trivial⟩) (fun c => ?_)
  have c0 : 0 < n0 := Int32.not_le.mp c
  refine o_okN (fun m em => ?_)
  have em : m = n0 + -1 := em
  obtain ⟨e1, e2, e3⟩ := m3_ar c0 em
  clear em
  have gn := gi_tnc hz.1
  have gm := gi_tnc e2
  have n2 := Int32.le_iff_toInt_le.mp hz.2.1
  have z2 : (2000 : Int32).toInt = 2000 := rfl
  rw [z2] at n2
  refine o_okG (o_inM (m := 2000) rfl e2 (i32lt (k := 2000) rfl (by omega))) (o_okN (fun v ev => ?_))
  have ev : v = NH_route H (gi m) := ev
  obtain ⟨v0, v1⟩ := hz.2.2 m e2 e3
  rw [← ev] at v0 v1
  have gv := o_inV hI v0 v1
  have R1 : RT (MT_values s) m (NH_route H) := ⟨e2, Int32.le_trans (Int32.le_of_lt e3) hz.2.1, fun i i0 hi => hz.2.2 i i0 (Int32.lt_trans hi e3)⟩
  have fin : ∀ (H' : SNH) (se : Nat → Int32), CW s se m H' → 2001 * zcn se K + 2000 < (if fs = 0 then 0 else 3000000) + 2001 * zcn (NH_seen1 H) K + gi n0 → o_ok (m_MM_comesBack_j96 n x1 m v s Na H') (fun q => (q.1 = 0 → CBI s q.2 ∧ cmu K q.2 < cmu K (n0, fs, H)) ∧ (q.1 ≠ 0 → True)) := by
    intro H' se hc hm
    refine o_okW (s_cb_j96 hn hI hT hG v0 v1 hc) ?_
    intro q ⟨q1, q2, q3, q4⟩
    refine ⟨fun _ => ⟨q3, ?_⟩, fun _ => trivial⟩
    show (if q.2.2.1 = 0 then 0 else 3000000) + 2001 * zcn (NH_seen1 q.2.2.2) K + gi q.2.1 < (if fs = 0 then 0 else 3000000) + 2001 * zcn (NH_seen1 H) K + gi n0
    rw [if_pos q2, q4]
    have g := gi_tnc q3.1
    have l := Int32.le_iff_toInt_le.mp q3.2.1
    rw [z2] at l
    omega
  have j67 : o_ok (m_MM_comesBack_j67 n x1 m fs v s Na H) (fun q => (q.1 = 0 → CBI s q.2 ∧ cmu K q.2 < cmu K (n0, fs, H)) ∧ (q.1 ≠ 0 → True)) := by
    unfold m_MM_comesBack_j67
    refine o_okI (fun f0 => o_okG gv (o_okI (fun s0 => ?_) (fun _ => ?_))) (fun f1 => ?_)
    · unfold m_MM_comesBack_j84
      refine o_okI (fun _ => o_okG gv ?_) (fun c => absurd f0 c)
      have nz : vp_nar .boolean (1:Int32) ≠ 0 := by decide
      have vl : gi v < K := by rw [hK]; exact o_tncL (m := 1000) rfl v0 (Int32.lt_of_lt_of_le v1 hI.2.1)
      have zu := zcn_upd (f := NH_seen1 H) (j := gi v) s0 nz K vl
      refine fin _ (upd (NH_seen1 H) (gi v) (vp_nar .boolean (1:Int32))) ⟨R1, rfl⟩ ?_
      rw [if_pos f0]
      omega
    · refine o_okS ⟨fun _ => ⟨R1, ?_⟩, fun e => absurd rfl e⟩
      show (if fs = 0 then 0 else 3000000) + 2001 * zcn (NH_seen1 H) K + gi m < (if fs = 0 then 0 else 3000000) + 2001 * zcn (NH_seen1 H) K + gi n0
      omega
    · unfold m_MM_comesBack_j84
      refine o_okI (fun c => absurd c f1) (fun _ => ?_)
      refine fin H (NH_seen1 H) ⟨R1, rfl⟩ ?_
      rw [if_neg f1]
      omega
  exact o_okI (fun _ => o_okI (fun _ => o_okS ⟨fun e => absurd e (Nat.succ_ne_zero 0), fun _ => trivial⟩) (fun _ => j67)) (fun _ => j67)
theorem s_MM_comesBack {n : Nat} {x1 : Int32} {s : SMT} {Na : SNA} {Nh : SNH} (hn : o_big ≤ n) (hI : I_MT s) (hT : T_MT s) (hG : TG s Na) (v0 : 0 ≤ x1) (v1 : x1 < MT_values s) : o_ok (m_MM_comesBack n x1 s Na Nh) (fun _ => True) := by
  obtain ⟨K, hK⟩ : ∃ K : Nat, K = 1000 := ⟨1000, rfl⟩
  unfold m_MM_comesBack
  refine o_okB (o_lpR (z := ((0:Int32), Nh)) (P := fun _ => True) (fun z : Int32 × SNH => 0 ≤ z.1) (fun z => o_mu z.1) hn o_muB (show (0:Int32) ≤ 0 by decide) (fun z hz => ?_)) ?_
  · have hz : 0 ≤ z.1 := hz
    unfold m_MM_comesBack_b2
    refine o_okI (fun _ => o_okS ⟨fun e => absurd e (Nat.succ_ne_zero 0), fun _ => trivial⟩) (fun c => ?_)
    have c : z.1 < MT_values s := Int32.not_le.mp c
    have c4 : z.1 < 1000 := Int32.lt_of_lt_of_le c hI.2.1
    have ar : 0 ≤ z.1 + 1 ∧ z.1 < z.1 + 1 := by generalize z.1 = v at hz c4; clear c; constructor <;> grind
    refine o_okG (o_inV hI hz c) (o_okN (fun w ew => o_okS ⟨fun _ => ⟨?_, ?_⟩, fun e => absurd rfl e⟩))
    · show 0 ≤ w
      rw [ew]; exact ar.1
    · show o_mu w < o_mu z.1
      rw [ew]; exact o_muL ar.2
  · intro q1 _
    refine o_okN (fun w ew => ?_)
    have ew : w = 1 := ew
    subst ew
    refine o_okG (o_inM (m := 2000) rfl (by decide) (by decide)) ?_
    have hz : CBI s ((1:Int32), (1:Int32), (NH_mk (NH_path q1.2.2) (upd (NH_route q1.2.2) (0:Int32).toNatClampNeg x1) (NH_seen1 q1.2.2) (NH_pathSize q1.2.2) (NH_octetRow q1.2.2) (NH_partRow q1.2.2))) := by
      refine ⟨show (0:Int32) ≤ 1 by decide, show (1:Int32) ≤ 2000 by decide, fun i i0 hi => ?_⟩
      have e : i = 0 := by
        have hi : i < 1 := hi
        clear hI hT hG hn; grind
      rw [e]
      show 0 ≤ upd (NH_route q1.2.2) (gi 0) x1 (gi 0) ∧ upd (NH_route q1.2.2) (gi 0) x1 (gi 0) < MT_values s
      rw [o_updE]; exact ⟨v0, v1⟩
    have hb : cmu K ((1:Int32), (1:Int32), (NH_mk (NH_path q1.2.2) (upd (NH_route q1.2.2) (0:Int32).toNatClampNeg x1) (NH_seen1 q1.2.2) (NH_pathSize q1.2.2) (NH_octetRow q1.2.2) (NH_partRow q1.2.2))) < o_big := by
      have l := zcn_le (f := NH_seen1 q1.2.2) K
      have g : gi (1:Int32) = 1 := rfl
      show (if (1:Int32) = 0 then 0 else 3000000) + 2001 * zcn (NH_seen1 q1.2.2) K + gi (1:Int32) < o_big
      rw [if_neg (by decide), g]
      unfold o_big
      omega
    have st : ∀ z, CBI s z → o_ok (m_MM_comesBack_b40 n x1 s Na z) (fun q => (q.1 = 0 → CBI s q.2 ∧ cmu K q.2 < cmu K z) ∧ (q.1 ≠ 0 → True)) := fun z hz => s_cb_b40 hK hn hI hT hG hz
    generalize hf : m_MM_comesBack_b40 n x1 s Na = f at st ⊢
    refine o_okB (o_lpR (P := fun _ => True) (CBI s) (cmu K) hn hb hz st) ?_
    intro q7 _
    exact o_okI (fun _ => o_okS trivial) (fun _ => o_okS trivial)
/-- what a good check leaves -/
def KVx (s : SMT) (a : SNA) : Prop :=
  (∀ m : Int32, 0 ≤ m → m < MT_values s → NA_key a (gi m) = -1 ∨ (0 ≤ NA_key a (gi m) ∧ NA_key a (gi m) ≤ 43 ∧ MT_name s (gi m) ≠ -1 ∧ 0 < m ∧ NA_isSchema a (gi (MT_parent s (gi m))) ≠ 0)) ∧
  (∀ m : Int32, 0 ≤ m → m < MT_values s → 0 ≤ NA_key a (gi m) → KOK s m (NA_key a (gi m))) ∧
  (∀ x : Int32, 0 ≤ x → x < MT_values s → NA_isSchema a (gi x) ≠ 0 → MT_kind s (gi x) = 6 → ∀ L, CL (MT_next s) L (MT_first s (gi x)) → ∀ m ∈ L, VIS s (NA_key a) m) ∧ TG s a
def CBx (s : SMT) (a : SNA) (f0 : SNF) (z : Int32 × SNF × SNA × SNH) : Prop := 0 ≤ z.1 ∧ NA_key z.2.2.1 = NA_key a ∧ NA_isSchema z.2.2.1 = NA_isSchema a ∧ NA_anchors z.2.2.1 = NA_anchors a ∧ NA_anchorValue z.2.2.1 = NA_anchorValue a ∧ NA_anchorSchema z.2.2.1 = NA_anchorSchema a ∧ NF_checked z.2.1 = NF_checked f0 ∧ (NF_faultKind z.2.1 = 0 → ∀ m : Int32, 0 ≤ m → m < z.1 → m < MT_values s → NA_key a (gi m) = 32 → 0 ≤ NA_target z.2.2.1 (gi m) ∧ NA_target z.2.2.1 (gi m) < MT_values s)
def bmu (z : Int32 × SNF × SNA × SNH) : Nat := o_mu z.1
theorem s_chk_b90 {n : Nat} {s : SMT} {Ni : SNI} {Np : SNP} {No : SNO} {rt : Nat} {a : SNA} {f0 : SNF} {z : Int32 × SNF × SNA × SNH} {E1 E2 : Int32 → Prop} (hn : o_big ≤ n) (hI : I_MT s) (hT : T_MT s) (hK : KI s E1 E2 f0 a) (hOK : ∀ m : Int32, 0 ≤ m → m < MT_values s → 0 ≤ NA_key a (gi m) → KOK s m (NA_key a (gi m))) (hz : CBx s a f0 z) : o_ok (m_MM_check_b90 n s Ni Np No rt z) (fun q => (q.1 = 0 → CBx s a f0 q.2 ∧ bmu q.2 < bmu z) ∧ (q.1 ≠ 0 → CBx s a f0 q.2 ∧ MT_values s ≤ q.2.1)) := by
  obtain ⟨m, F, A, H⟩ := z
  obtain ⟨m0, b1, b2, b3, b4, b5, b6, b7⟩ := hz
  have m0 : 0 ≤ m := m0
  have b1 : NA_key A = NA_key a := b1
  have b2 : NA_isSchema A = NA_isSchema a := b2
  have b3 : NA_anchors A = NA_anchors a := b3
  have b4 : NA_anchorValue A = NA_anchorValue a := b4
  have b5 : NA_anchorSchema A = NA_anchorSchema a := b5
  have b6 : NF_checked F = NF_checked f0 := b6
  have b7 : NF_faultKind F = 0 → ∀ u : Int32, 0 ≤ u → u < m → u < MT_values s → NA_key a (gi u) = 32 → 0 ≤ NA_target A (gi u) ∧ NA_target A (gi u) < MT_values s := b7
  have hA : ANx s A := fun K hK' => by rw [b3, b4, b5]; exact hK.1 K hK'
  unfold m_MM_check_b90
  refine o_okI (fun c => o_okS ⟨fun e => absurd e (Nat.succ_ne_zero 0), fun _ => ⟨⟨m0, b1, b2, b3, b4, b5, b6, b7⟩, c⟩⟩) (fun c => ?_)
  have c : m < MT_values s := Int32.not_le.mp c
  have c4 : m < 1000 := Int32.lt_of_lt_of_le c hI.2.1
  have ar : 0 ≤ m + 1 ∧ m < m + 1 ∧ ∀ u : Int32, u < m + 1 → ¬ u = m → u < m := by
    clear b7 hK hOK hI hT hA c
    refine ⟨?_, ?_, fun u h1 h2 => ?_⟩ <;> grind
  have gm := o_inV hI m0 c
  refine o_okG gm (o_okI (fun e32 => ?_) (fun n32 => ?_))
  · have e32 : NA_key a (gi m) = 32 := by rw [← b1]; exact e32
    have kk : 0 ≤ NA_key a (gi m) := by rw [e32]; decide
    have k4 : MT_kind s (gi m) = 4 := (hOK m m0 c kk).2.2.2.2.1 (by rw [e32]; decide) (by rw [e32]; decide)
    obtain ⟨_, _, _, mp, ms, _⟩ : 0 ≤ NA_key a (gi m) ∧ NA_key a (gi m) ≤ 43 ∧ MT_name s (gi m) ≠ -1 ∧ 0 < m ∧ NA_isSchema a (gi (MT_parent s (gi m))) ≠ 0 ∧ MKs s (MT_name s (gi m)) (mk_keys (gi (NA_key a (gi m)))) := by
      rcases hK.2.1 m m0 c with h | h
      · rw [h] at kk; exact absurd kk (by decide)
      · exact h
    obtain ⟨p0, p1⟩ := (hT m m0 c).2.2.2.2.2.2.2.1 mp
    refine o_okG gm (o_okG (o_inV hI p0 (Int32.lt_trans p1 c)) (o_okI (fun e => ?_) (fun _ => ?_)))
    · have e : NA_isSchema A (gi (MT_parent s (gi m))) = 0 := e
      rw [b2] at e
      exact absurd e ms
    refine o_okB (s_MM_leads hn hI hT m0 c k4 hA) ?_
    intro q7 h7
    have tgt : ∀ F' : SNF, (NF_faultKind F' = 0 → NF_faultKind F = 0 ∧ 0 ≤ q7.1) → NF_checked F' = NF_checked f0 → CBx s a f0 (m + 1, F', (NA_mk (NA_anchors A) (NA_key A) (upd (NA_target A) m.toNatClampNeg q7.1) (NA_anchorValue A) (NA_anchorSchema A) (NA_isSchema A)), q7.2) := by
      intro F' hF hc
      refine ⟨ar.1, b1, b2, b3, b4, b5, hc, fun hf u u0 hu hv hk => ?_⟩
      show 0 ≤ upd (NA_target A) (gi m) q7.1 (gi u) ∧ upd (NA_target A) (gi m) q7.1 (gi u) < MT_values s
      by_cases e : u = m
      · rw [e, o_updE]
        rcases h7 with h | h
        · exact absurd (hF hf).2 (Int32.not_le.mpr h)
        · exact h
      · rw [o_updN (o_neq u0 m0 e)]
        exact b7 (hF hf).1 u u0 (ar.2.2 u hu e) hv hk
    refine o_okG gm (o_okG gm (o_okI (fun ge => o_okN (fun w ew => ?_)) (fun lt => ?_)))
    · subst ew
      have ge : 0 ≤ upd (NA_target A) (gi m) q7.1 (gi m) := ge
      rw [o_updE] at ge
      exact o_okS ⟨fun _ => ⟨tgt F (fun e => ⟨e, ge⟩) b6, o_muL ar.2.1⟩, fun e => absurd rfl e⟩
    · refine o_okB (s_MM_fault (by decide)) ?_
      intro q8 ⟨f1, f2⟩
      refine o_okN (fun w ew => ?_)
      subst ew
      exact o_okS ⟨fun _ => ⟨tgt q8 (fun e => absurd e f1) (f2.trans b6), o_muL ar.2.1⟩, fun e => absurd rfl e⟩
  · refine o_okN (fun w ew => ?_)
    subst ew
    refine o_okS ⟨fun _ => ⟨⟨ar.1, b1, b2, b3, b4, b5, b6, fun hf u u0 hu hv hk => ?_⟩, o_muL ar.2.1⟩, fun e => absurd rfl e⟩
    have hu : u < m + 1 := hu
    by_cases e : u = m
    · rw [e] at hk
      have n32 : ¬ NA_key A (gi m) = 32 := n32
      rw [b1] at n32
      exact absurd hk n32
    · exact b7 hf u u0 (ar.2.2 u hu e) hv hk
