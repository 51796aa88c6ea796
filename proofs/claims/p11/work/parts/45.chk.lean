/-! The reference's check, whole -/
def CKP (s : SMT) (Ni : SNI) (r : Int32 × SNI × SNP × SNO × SNF × SNA × SNH × Nat) : Prop := (NI_fed r.2.1 = NI_fed Ni ∧ I_NI r.2.1) ∧ I_NP r.2.2.1 ∧ (NF_checked r.2.2.2.2.1 ≠ 0 → KVx s r.2.2.2.2.2.1)
theorem s_chk_j218 {n : Nat} {s : SMT} {Ni Ni0 : SNI} {Np : SNP} {No : SNO} {Nf : SNF} {Na : SNA} {Nh : SNH} {rt : Nat} (hN : NI_fed Ni = NI_fed Ni0 ∧ I_NI Ni) (hP : I_NP Np) (hV : NF_faultKind Nf = 0 → KVx s Na) : o_ok (m_MM_check_j218 n s Ni Np No Nf Na Nh rt) (CKP s Ni0) := by
  unfold m_MM_check_j218
  refine o_okI (fun e => ?_) (fun ne => ?_)
  · unfold m_MM_check_j231
    exact o_okG (o_zbM (Or.inr rfl)) (o_okI (fun _ => o_okS ⟨hN, hP, fun _ => hV e⟩) (fun c => absurd e c))
  · unfold m_MM_check_j231
    exact o_okG (o_zbM (Or.inl rfl)) (o_okI (fun c => absurd c ne) (fun _ => o_okS ⟨hN, hP, fun h => absurd rfl h⟩))
def B170 (s : SMT) (f0 : SNF) (z : Int32 × SNF × SNH) : Prop := 0 ≤ z.1 ∧ (NF_faultKind z.2.1 = 0 → NF_faultKind f0 = 0)
def b17mu (z : Int32 × SNF × SNH) : Nat := o_mu z.1
theorem s_chk_j161 {n : Nat} {s : SMT} {Ni Ni0 : SNI} {Np : SNP} {No : SNO} {Nf : SNF} {Na : SNA} {Nh : SNH} {rt : Nat} (hn : o_big ≤ n) (hI : I_MT s) (hT : T_MT s) (hN : NI_fed Ni = NI_fed Ni0 ∧ I_NI Ni) (hP : I_NP Np) (hV : NF_faultKind Nf = 0 → KVx s Na) : o_ok (m_MM_check_j161 n s Ni Np No Nf Na Nh rt) (CKP s Ni0) := by
  unfold m_MM_check_j161
  refine o_okI (fun e => ?_) (fun ne => s_chk_j218 hN hP hV)
  have hG := (hV e).2.2.2
  have hz : B170 s Nf ((0:Int32), Nf, Nh) := ⟨show (0:Int32) ≤ 0 by decide, fun h => h⟩
  have hb : b17mu ((0:Int32), Nf, Nh) < o_big := by unfold b17mu; exact o_muB
  have st : ∀ z, B170 s Nf z → o_ok (m_MM_check_b170 n s Ni Np No Na rt z) (fun q => (q.1 = 0 → B170 s Nf q.2 ∧ b17mu q.2 < b17mu z) ∧ (q.1 ≠ 0 → B170 s Nf q.2)) := by
    intro z hz
    obtain ⟨m, F, H⟩ := z
    obtain ⟨m0, hf⟩ := hz
    have m0 : 0 ≤ m := m0
    have hf : NF_faultKind F = 0 → NF_faultKind Nf = 0 := hf
    unfold m_MM_check_b170
    refine o_okI (fun _ => o_okS ⟨fun e => absurd e (Nat.succ_ne_zero 0), fun _ => ⟨m0, hf⟩⟩) (fun c => ?_)
    have c : m < MT_values s := Int32.not_le.mp c
    have c4 : m < 1000 := Int32.lt_of_lt_of_le c hI.2.1
    have ar : 0 ≤ m + 1 ∧ m < m + 1 := by clear hV hG hI hT c hf; constructor <;> grind
    refine o_okI (fun _ => ?_) (fun _ => o_okS ⟨fun e => absurd e (Nat.succ_ne_zero 0), fun _ => ⟨m0, hf⟩⟩)
    refine o_okG (o_inV hI m0 c) (o_okI (fun _ => o_okN (fun w ew => ?_)) (fun _ => ?_))
    · subst ew
      exact o_okS ⟨fun _ => ⟨⟨ar.1, hf⟩, o_muL ar.2⟩, fun e => absurd rfl e⟩
    · refine o_okB (s_MM_comesBack hn hI hT hG m0 c) ?_
      intro q4 _
      refine o_okI (fun _ => o_okN (fun w ew => ?_)) (fun _ => ?_)
      · subst ew
        exact o_okS ⟨fun _ => ⟨⟨ar.1, hf⟩, o_muL ar.2⟩, fun e => absurd rfl e⟩
      · refine o_okB (s_MM_fault (by decide)) ?_
        intro q5 ⟨f1, f2⟩
        refine o_okN (fun w ew => ?_)
        subst ew
        exact o_okS ⟨fun _ => ⟨⟨ar.1, fun h => absurd h f1⟩, o_muL ar.2⟩, fun e => absurd rfl e⟩
  generalize hff : m_MM_check_b170 n s Ni Np No Na rt = f at st ⊢
  refine o_okB (o_lpR (P := fun q => B170 s Nf q.2) (B170 s Nf) b17mu hn hb hz st) ?_
  intro q6 _
  exact s_chk_j218 hN hP (fun _ => hV e)
def B42 (a0 : SNA) (z : Int32 × SNA) : Prop := 0 ≤ z.1 ∧ NA_anchors z.2 = 0 ∧ ∀ j, j < gi z.1 → NA_key z.2 j = -1 ∧ NA_isSchema z.2 j = 0
def b42mu (z : Int32 × SNA) : Nat := o_mu z.1
theorem s_MM_check {n : Nat} {s : SMT} {Ni : SNI} {Np : SNP} {No : SNO} {Nf : SNF} {Na : SNA} {Nh : SNH} {rt : Nat} (hn : o_big ≤ n) (hI : I_MT s) (hT : T_MT s) (hNi : I_NI Ni) (hP : I_NP Np) (hV0 : NF_checked Nf ≠ 0 → KVx s Na) : o_ok (m_MM_check n s Ni Np No Nf Na Nh rt) (CKP s Ni) := by
  have j21 : ∀ y : Int32, (y = 0 → ¬ MT_values s = 0) → (y = 0 ∨ y = 1) → o_ok (m_MM_check_j21 n y s (NI_mk (0:Int32) (NI_fed Ni) (NI_wrong Ni) (NI_octets Ni)) Np No Nf Na Nh rt) (CKP s Ni) := by
    intro y hy hy2
    unfold m_MM_check_j21
    refine o_okB (s_MM_fails (Ni := NI_mk (0:Int32) (NI_fed Ni) (NI_wrong Ni) (NI_octets Ni)) (show I_NI (NI_mk (0:Int32) (NI_fed Ni) (NI_wrong Ni) (NI_octets Ni)) from hNi) (by decide)) ?_
    intro q1 hq1
    obtain ⟨u1, u2, u3, u4, u5, u6⟩ := hq1
    have fed : NI_fed q1.2 = NI_fed Ni ∧ I_NI q1.2 := ⟨u4, u6⟩
    refine o_okI (fun e => ?_) (fun _ => o_okS ⟨fed, hP, hV0⟩)
    have vp : 0 < MT_values s := by
      have h := hy (u2 e)
      have h0 := hI.1
      clear hI hT hV0
      generalize MT_values s = v at *
      grind
    -- all marks off
    have hz : B42 Na ((0:Int32), (NA_mk (0:Int32) (NA_key Na) (NA_target Na) (NA_anchorValue Na) (NA_anchorSchema Na) (NA_isSchema Na))) := ⟨show (0:Int32) ≤ 0 by decide, rfl, fun j h => absurd h (Nat.not_lt_zero _)⟩
    have hb : b42mu ((0:Int32), (NA_mk (0:Int32) (NA_key Na) (NA_target Na) (NA_anchorValue Na) (NA_anchorSchema Na) (NA_isSchema Na))) < o_big := by unfold b42mu; exact o_muB
    have st : ∀ z, B42 Na z → o_ok (m_MM_check_b42 n s q1.2 Np No (NF_mk (NF_checked Nf) (0:Int32) (NF_faultValue Nf) (NF_latestFault Nf)) Nh rt z) (fun q => (q.1 = 0 → B42 Na q.2 ∧ b42mu q.2 < b42mu z) ∧ (q.1 ≠ 0 → B42 Na q.2 ∧ 1000 ≤ q.2.1)) := by
      intro z hz
      obtain ⟨k, A⟩ := z
      obtain ⟨k0, a1, a2⟩ := hz
      have k0 : 0 ≤ k := k0
      have a1 : NA_anchors A = 0 := a1
      have a2 : ∀ j, j < gi k → NA_key A j = -1 ∧ NA_isSchema A j = 0 := a2
      unfold m_MM_check_b42
      refine o_okI (fun c => o_okS ⟨fun e => absurd e (Nat.succ_ne_zero 0), fun _ => ⟨⟨k0, a1, a2⟩, c⟩⟩) (fun c => ?_)
      have c : k < 1000 := Int32.not_le.mp c
      have ar : 0 ≤ k + 1 ∧ k < k + 1 := by clear a2 hI hT hV0; constructor <;> grind
      have g1 := gi_tnc k0
      have g2 := gi_tnc ar.1
      have e1 : (k + 1).toInt = k.toInt + 1 := o_add1 (Int32.lt_trans c (by decide))
      have g := o_inM (i := k) (m := 1000) (n := 1000) rfl k0 c
      refine o_okG g (o_okG g (o_okG g (o_okN (fun w ew => ?_))))
      subst ew
      refine o_okS ⟨fun _ => ⟨⟨ar.1, a1, fun j hj => ?_⟩, o_muL ar.2⟩, fun e => absurd rfl e⟩
      have hj : j < gi (k + 1) := hj
      show upd (NA_key A) (gi k) (-1) j = -1 ∧ upd (NA_isSchema A) (gi k) (vp_nar .boolean (0:Int32)) j = 0
      by_cases ej : j = gi k
      · rw [ej, o_updE, o_updE]; exact ⟨rfl, by decide⟩
      · rw [o_updN ej, o_updN ej]; exact a2 j (by omega)
    generalize hf : m_MM_check_b42 n s q1.2 Np No (NF_mk (NF_checked Nf) (0:Int32) (NF_faultValue Nf) (NF_latestFault Nf)) Nh rt = f at st ⊢
    refine o_okB (o_lpR (P := fun q => B42 Na q.2 ∧ 1000 ≤ q.2.1) (B42 Na) b42mu hn hb hz st) ?_
    intro q2 ⟨_, ⟨k0, a1, a2⟩, kl⟩
    have g1 := gi_tnc k0
    have l1 := Int32.le_iff_toInt_le.mp kl
    have z1 : (1000 : Int32).toInt = 1000 := rfl
    rw [z1] at l1
    have low : ∀ m : Int32, 0 ≤ m → m < MT_values s → NA_key q2.2.2 (gi m) = -1 ∧ NA_isSchema q2.2.2 (gi m) = 0 := by
      intro m m0 m1
      have h := o_tncL (m := 1000) (n := 1000) rfl m0 (Int32.lt_of_lt_of_le m1 hI.2.1)
      exact a2 (gi m) (by show m.toNatClampNeg < _; omega)
    have K0 : KI s (fun _ => False) (fun _ => False) (NF_mk (NF_checked Nf) (0:Int32) (NF_faultValue Nf) (NF_latestFault Nf)) q2.2.2 := by
      refine ⟨fun K hK => ?_, fun m m0 m1 => Or.inl (low m m0 m1).1, fun _ m m0 m1 hk => ?_, fun x x0 x1 hx => absurd (low x x0 x1).2 hx⟩
      · rw [a1]
        have l := fcn_le (p := memA (NA_anchorValue q2.2.2) (gi (0:Int32))) K
        have z0 : (0 : Int32).toInt = 0 := rfl
        exact ⟨by decide, by rw [z0]; omega, fun u u0 hu => absurd (Int32.lt_of_le_of_lt u0 hu) (by decide)⟩
      · rw [(low m m0 m1).1] at hk
        exact absurd hk (by decide)
    refine o_okB (s_MM_visit hn hI hT 503 0 (by decide) (by decide) 0 (by decide) (by decide) vp (fun _ => False) (fun _ => False) Np No _ q2.2.2 rt hP K0) ?_
    intro q3 ⟨v1, v2, v3, v4, v5⟩
    refine o_okI (fun f0 => ?_) (fun fne => ?_)
    · have hOK := fun m m0 m1 hk => v2.2.2.1 f0 m m0 m1 hk (fun h => h)
      have hz9 : CBx s q3.2.2.2.1 q3.2.2.1 ((0:Int32), q3.2.2.1, q3.2.2.2.1, Nh) := ⟨show (0:Int32) ≤ 0 by decide, rfl, rfl, rfl, rfl, rfl, rfl, fun _ m m0 hm => absurd (Int32.lt_of_le_of_lt m0 hm) (show ¬ (0:Int32) < 0 by decide)⟩
      have hb9 : bmu ((0:Int32), q3.2.2.1, q3.2.2.2.1, Nh) < o_big := by unfold bmu; exact o_muB
      have st9 : ∀ z, CBx s q3.2.2.2.1 q3.2.2.1 z → o_ok (m_MM_check_b90 n s q1.2 q3.1 q3.2.1 q3.2.2.2.2 z) (fun q => (q.1 = 0 → CBx s q3.2.2.2.1 q3.2.2.1 q.2 ∧ bmu q.2 < bmu z) ∧ (q.1 ≠ 0 → CBx s q3.2.2.2.1 q3.2.2.1 q.2 ∧ MT_values s ≤ q.2.1)) := fun z hz => s_chk_b90 hn hI hT v2 hOK hz
      generalize hf9 : m_MM_check_b90 n s q1.2 q3.1 q3.2.1 q3.2.2.2.2 = f9 at st9 ⊢
      refine o_okB (o_lpR (P := fun q => CBx s q3.2.2.2.1 q3.2.2.1 q.2 ∧ MT_values s ≤ q.2.1) (CBx s q3.2.2.2.1 q3.2.2.1) bmu hn hb9 hz9 st9) ?_
      intro q9 ⟨_, ⟨_, c1, c2, c3, c4, c5, c6, c7⟩, cl⟩
      refine s_chk_j161 hn hI hT fed v1 (fun e9 => ⟨fun m m0 m1 => ?_, fun m m0 m1 hk => ?_, fun x x0 x1 hx hk L hL m hm => ?_, fun m m0 m1 hk => ?_⟩)
      · rw [c1, c2]
        rcases v2.2.1 m m0 m1 with h | ⟨h1, h2, h3, h4, h5, h6⟩
        · exact Or.inl h
        · exact Or.inr ⟨h1, h2, h3, h4, h5⟩
      · rw [c1] at hk ⊢
        exact hOK m m0 m1 hk
      · rw [c1]
        rw [c2] at hx
        exact v2.2.2.2 x x0 x1 hx (fun h => h) hk L hL m hm
      · rw [c1] at hk
        exact c7 e9 m m0 (Int32.lt_of_lt_of_le m1 cl) m1 hk
    · exact s_chk_j161 hn hI hT fed v1 (fun e => absurd e fne)
  unfold m_MM_check
  exact o_okI (fun _ => j21 1 (fun e => absurd e (by decide)) (Or.inr rfl)) (fun c => j21 0 (fun _ => c) (Or.inl rfl))
