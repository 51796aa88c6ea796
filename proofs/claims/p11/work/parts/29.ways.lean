/-! The reference's patterns: often, one -/
theorem o_upd2 {f : Nat → Int32} {k : Nat} {a b : Int32} (j : Nat) : upd (upd f k a) k b j = upd f k b j := by
  by_cases h : j = k
  · subst h; rw [o_updE, o_updE]
  · rw [o_updN h, o_updN h, o_updN h]
/-- an element: no next yet, its bound, its rank -/
def ELt (ρ c : Nat) (s : SNP) (g : GH) (t : Int32) : Prop := NP_nodeNext s (gi t) = -1 ∧ (g (gi t)).2.1 = ρ ∧ (g (gi t)).1 + c ≤ ρ ∧ NP_nodeKind s (gi t) ≠ 4 ∧ (NP_nodeKind s (gi t) = 5 → 1 ≤ NP_nodeB s (gi t))
def EV (ρ c : Nat) (s s' : SNP) (t : Int32) : Prop := ∀ g, GN s g → ∃ g', GN s' g' ∧ AG (NP_nodes s) g g' ∧ ELt ρ c s' g' t
/-- what one of the pattern's functions leaves -/
def PX (c β : Nat) (d : Int32) (s : SNP) (r : Int32 × SNP) : Prop := I_NP r.2 ∧ NP_pat s ≤ NP_pat r.2 ∧ (0 ≤ r.1 ∧ r.1 < NP_nodes r.2) ∧ NP_nodes s ≤ NP_nodes r.2 ∧ NP_nodes r.2 ≤ 2 * NP_pat r.2 + 33 - d ∧
  (NP_broken r.2 = 0 → NP_nodes r.2 ≤ 2 * NP_pat r.2 + 2 ∧ XN s r.2 ∧ NP_nodes s ≤ r.1 ∧ EV β c s r.2 r.1)
def WRec (rec : Int32 → SMT → SNP → Option (Int32 × SNP)) (d : Int32) (β : Nat) : Prop := ∀ (tc : SMT) (s : SNP), I_MT tc → T_MT tc → I_NP s → NP_broken s = 0 → NP_nodes s ≤ 2 * NP_pat s → o_ok (rec d tc s) (PX 2 β d s)
theorem leaf_EV {s s1 b : SNP} {k x : Int32} {ρ : Nat} (hNF : NF s s1) (h0 : 0 ≤ NP_nodes s1) (h1 : NP_nodes s1 ≤ 15000) (h : ADN s1 b k x) (hk : 0 ≤ k ∧ k ≤ 3) (k1 : k = 1 → 0 ≤ x ∧ x < 8000) (hρ : 2 ≤ ρ ∧ ρ ≤ 100) : XN s b ∧ EV ρ 2 s b (NP_nodes s1) := by
  have hM := ADN_M h
  refine ⟨XN_trans (NF_XN hNF) (ADM_XN h0 h1 hM), fun g hg => ?_⟩
  have k4 : k ≠ 4 := by intro e; rw [e] at hk; exact absurd hk.2 (by decide)
  have k5 : k ≠ 5 := by intro e; rw [e] at hk; exact absurd hk.2 (by decide)
  have k6 : k ≠ 6 := by intro e; rw [e] at hk; exact absurd hk.2 (by decide)
  obtain ⟨g1, g2⟩ := ADM_G (v := (0, ρ, 0, 0)) h0 h1 hM (NF_GN hNF hg) ⟨by show 0 < ρ; omega, hρ.2⟩ ⟨hk.1, Int32.le_trans hk.2 (by decide)⟩ (fun e => absurd e k4) (fun e => absurd e k5) (fun e => absurd e k6) k1
  refine ⟨_, g1, by rw [← hNF.2.2.2.2.2.1]; exact g2, ?_⟩
  obtain ⟨a1, a2, a3, a4, a5, a6⟩ := hM
  unfold ELt
  rw [a1, a5, o_updE, o_updE, gupE]
  exact ⟨rfl, rfl, by show 0 + 2 ≤ ρ; omega, k4, fun e => absurd e k5⟩
/-- what often leaves -/
def TP (ρ : Nat) (s : SNP) (t : Int32) (r : Int32 × SNP) : Prop := I_NP r.2 ∧ NP_pat s ≤ NP_pat r.2 ∧ (0 ≤ r.1 ∧ r.1 < NP_nodes r.2) ∧ NP_nodes s ≤ NP_nodes r.2 ∧ NP_nodes r.2 ≤ NP_nodes s + 1 ∧
  (NP_broken r.2 = 0 → NP_nodes r.2 ≤ 2 * NP_pat r.2 + 2 ∧ XN s r.2 ∧ t ≤ r.1 ∧ ∀ g, GN s g → ELt ρ 2 s g t → ∃ g', GN r.2 g' ∧ AG (NP_nodes s) g g' ∧ ELt ρ 1 r.2 g' r.1)
theorem s_often_no {n : Nat} {tc : SMT} {s s1 : SNP} {ρ : Nat} {t : Int32} (hp0 : 0 ≤ NP_pat s) (hNF : NF s s1) (hI : I_NP s1) (hp : NP_pat s ≤ NP_pat s1) (hm : NP_nodes s ≤ 2 * NP_pat s + 1) : o_ok (m_MM_often_j172 n tc s1) (TP ρ s t) := by
  have i := sc_NP hI
  have e := hNF.2.2.2.2.2.1
  unfold m_MM_often_j172
  refine o_okB (s_MM_no hI (by clear hI hNF; grind)) ?_
  intro q ⟨a1, a2, a3, a4, a5⟩
  refine o_okS ⟨a3, by rw [a5]; exact hp, ?_, ?_, ?_, fun z => absurd z a1⟩
  · rw [a4, a2]; clear hI hNF a3; constructor <;> grind
  · rw [a2]; clear hI hNF a3; grind
  · rw [a2]; clear hI hNF a3; grind
theorem s_often_j212 {n : Nat} {x1 x3 x4 : Int32} {tc : SMT} {Np : SNP} (h : I_NP Np) (p0 : NP_nodes Np < 15000) : o_ok (m_MM_often_j212 n x1 x3 x4 tc Np) (fun r => r.1 = NP_nodes Np ∧ ADM Np r.2 6 x1 x3 x4 ∧ I_NP r.2 ∧ NP_pat r.2 = NP_pat Np ∧ NP_broken r.2 = NP_broken Np) := by
  unfold m_MM_often_j212
  refine o_okB (s_MM_node h p0) ?_
  intro q ⟨a1, a2, a3, a4, a5, a6, a7⟩
  have i := sc_NP h
  have g : o_in q.1 16000 = true := o_inM (m := 16000) rfl (by rw [a1]; exact i.2.2.2.1) (by rw [a1]; exact Int32.lt_trans p0 (by decide))
  refine o_okG g (o_okG g (o_okS ⟨a1, ?_, a3, a5, a6⟩))
  obtain ⟨k1, k2, k3, k4, k5, k6, k7⟩ := a2
  refine ⟨k1, k2, fun j => ?_, fun j => ?_, k5, k6⟩
  · show upd (NP_nodeB q.2) (gi q.1) x3 j = _
    rw [k3, a1]; exact o_upd2 j
  · show upd (NP_nodeC q.2) (gi q.1) x4 j = _
    rw [k4, a1]; exact o_upd2 j
theorem s_often_times {n : Nat} {x1 x3 x4 : Int32} {tc : SMT} {s s1 : SNP} {ρ : Nat} (hρ : ρ ≤ 100) (hp0 : 0 ≤ NP_pat s) (hNF : NF s s1) (hI : I_NP s1) (hp : NP_pat s < NP_pat s1) (h0 : 0 ≤ x1) (h1 : x1 < NP_nodes s) (hm : NP_nodes s ≤ 2 * NP_pat s + 1) (hx : 0 ≤ x3 ∧ x3 ≤ 50 ∧ x4 ≤ 50 ∧ (x4 < 0 ∨ x3 ≤ x4)) : o_ok (m_MM_often_j212 n x1 x3 x4 tc s1) (TP ρ s x1) := by
  have i := sc_NP hI
  have e := hNF.2.2.2.2.2.1
  have l1 : NP_nodes s1 ≤ 15000 := i.2.2.2.2.1
  refine o_okW (s_often_j212 hI (by clear hI hNF; grind)) ?_
  intro r ⟨a1, a2, a3, a4, a5⟩
  have n1 := a2.2.2.2.2.2
  refine ⟨a3, by rw [a4]; exact Int32.le_of_lt hp, ?_, ?_, ?_, fun z => ⟨?_, XN_trans (NF_XN hNF) (ADM_XN i.2.2.2.1 l1 a2), ?_, fun g hg he => ?_⟩⟩
  · rw [a1, n1]; clear hI hNF a3 a2; constructor <;> grind
  · rw [n1]; clear hI hNF a3 a2; grind
  · rw [n1]; clear hI hNF a3 a2; grind
  · rw [n1, a4]; clear hI hNF a3 a2; grind
  · rw [a1, e]; exact Int32.le_of_lt h1
  · obtain ⟨t1, t2, t3, t4, t5⟩ := he
    have bk : NP_nodeKind s1 (gi x1) = 5 → 1 ≤ NP_nodeB s1 (gi x1) := by rw [hNF.1, hNF.2.2.1]; exact t5
    obtain ⟨g1, g2⟩ := ADM_G (v := (ρ - 1, ρ, 0, 0)) i.2.2.2.1 l1 a2 (NF_GN hNF hg) ⟨by show ρ - 1 < ρ; omega, hρ⟩ ⟨by decide, by decide⟩ (fun e => absurd e (by decide)) (fun e => absurd e (by decide)) (fun _ => ⟨⟨h0, by rw [e]; exact h1, by show (g (gi x1)).1 < ρ - 1; omega, bk⟩, hx⟩) (fun e => absurd e (by decide))
    refine ⟨_, g1, by rw [← e]; exact g2, ?_⟩
    obtain ⟨b1, b2, b3, b4, b5, b6⟩ := a2
    unfold ELt
    rw [b1, b5, a1, o_updE, o_updE, gupE]
    exact ⟨rfl, rfl, by show ρ - 1 + 1 ≤ ρ; omega, by decide, fun e => absurd e (by decide)⟩
theorem s_often_j192 {n : Nat} {x1 x3 x4 : Int32} {tc : SMT} {s s1 : SNP} {ρ : Nat} (hI2 : I_MT tc) (hT2 : T_MT tc) (hρ : ρ ≤ 100) (hp0 : 0 ≤ NP_pat s) (hNF : NF s s1) (hI : I_NP s1) (hp : NP_pat s < NP_pat s1) (h0 : 0 ≤ x1) (h1 : x1 < NP_nodes s) (hm : NP_nodes s ≤ 2 * NP_pat s + 1) (hx : 0 ≤ x3 ∧ x3 ≤ 50 ∧ x4 ≤ 50 ∧ (x4 < 0 ∨ x3 ≤ x4)) : o_ok (m_MM_often_j192 n x1 x3 x4 tc s1) (TP ρ s x1) := by
  unfold m_MM_often_j192
  refine o_okB (s_MM_p hI2 hT2 hI (by decide) (by decide)) ?_
  intro q hq
  have i := sc_NP hI
  refine o_okI (fun c => ?_) (fun c => s_often_times hρ hp0 hNF hI hp h0 h1 hm hx)
  have hlt : NP_pat s1 < NP_patEnd s1 := by have := hq (by rw [c]; decide); clear hI hNF; grind
  exact s_often_times (s1 := NP_pp s1 (NP_pat s1 + 1) (NP_broken s1)) hρ hp0 (NF_trans hNF NF_pp) (I_pat1 hI hlt) (by show NP_pat s < NP_pat s1 + 1; clear hI hNF; grind) h0 h1 hm hx
theorem s_often_j177 {n : Nat} {x1 x3 x4 : Int32} {tc : SMT} {s s1 : SNP} {ρ : Nat} (hI2 : I_MT tc) (hT2 : T_MT tc) (hρ : ρ ≤ 100) (hp0 : 0 ≤ NP_pat s) (hNF : NF s s1) (hI : I_NP s1) (hp : NP_pat s ≤ NP_pat s1) (hlt : NP_pat s1 < NP_patEnd s1) (h0 : 0 ≤ x1) (h1 : x1 < NP_nodes s) (hm : NP_nodes s ≤ 2 * NP_pat s + 1) (hx : 0 ≤ x3 ∧ x3 ≤ 50 ∧ x4 ≤ 50 ∧ (x4 < 0 ∨ x3 ≤ x4)) : o_ok (m_MM_often_j177 n x1 x3 x4 tc s1) (TP ρ s x1) := by
  have i := sc_NP hI
  unfold m_MM_often_j177
  exact s_often_j192 (s1 := NP_pp s1 (NP_pat s1 + 1) (NP_broken s1)) hI2 hT2 hρ hp0 (NF_trans hNF NF_pp) (I_pat1 hI hlt) (by show NP_pat s < NP_pat s1 + 1; clear hI hNF; grind) h0 h1 hm hx
theorem s_often_j144 {n : Nat} {x1 x3 x4 : Int32} {tc : SMT} {s s1 : SNP} {ρ : Nat} (hI2 : I_MT tc) (hT2 : T_MT tc) (hρ : ρ ≤ 100) (hp0 : 0 ≤ NP_pat s) (hNF : NF s s1) (hI : I_NP s1) (hp : NP_pat s ≤ NP_pat s1) (h0 : 0 ≤ x1) (h1 : x1 < NP_nodes s) (hm : NP_nodes s ≤ 2 * NP_pat s + 1) (hx : NP_broken s1 = 0 → 0 ≤ x3 ∧ x3 ≤ 50 ∧ x4 ≤ 50) : o_ok (m_MM_often_j144 n x1 x3 x4 tc s1) (TP ρ s x1) := by
  have i := sc_NP hI
  unfold m_MM_often_j144
  refine o_okI (fun c => ?_) (fun c => s_often_no hp0 hNF hI hp hm)
  obtain ⟨x5, x6, x7⟩ := hx c
  refine o_okB (s_MM_p hI2 hT2 hI (by decide) (by decide)) ?_
  intro q hq
  refine o_okI (fun c2 => ?_) (fun c2 => s_often_no hp0 hNF hI hp hm)
  have hlt : NP_pat s1 < NP_patEnd s1 := by have := hq (by rw [c2]; decide); clear hI hNF; grind
  refine o_okI (fun c3 => s_often_j177 hI2 hT2 hρ hp0 hNF hI hp hlt h0 h1 hm ⟨x5, x6, x7, Or.inl c3⟩) (fun c3 => ?_)
  exact o_okI (fun c4 => s_often_j177 hI2 hT2 hρ hp0 hNF hI hp hlt h0 h1 hm ⟨x5, x6, x7, Or.inr c4⟩) (fun c4 => s_often_no hp0 hNF hI hp hm)
theorem s_MM_often {n : Nat} {x1 : Int32} {tc : SMT} {s : SNP} {ρ : Nat} (hn : o_big ≤ n) (hI2 : I_MT tc) (hT2 : T_MT tc) (hρ : ρ ≤ 100) (hI : I_NP s) (hb : NP_broken s = 0) (h0 : 0 ≤ x1) (h1 : x1 < NP_nodes s) (hm : NP_nodes s ≤ 2 * NP_pat s + 1) : o_ok (m_MM_often n x1 tc s) (TP ρ s x1) := by
  have i := sc_NP hI
  have p1 : NP_pat s < NP_pat s + 1 := by clear hI; grind
  unfold m_MM_often
  refine o_okB (s_MM_p hI2 hT2 hI (by decide) (by decide)) ?_
  intro q hq
  have hlt : q ≠ -1 → NP_pat s < NP_patEnd s := by intro z; have := hq z; clear hI; grind
  refine o_okI (fun c => ?_) (fun c => ?_)
  · exact s_often_j192 (s1 := NP_pp s (NP_pat s + 1) (NP_broken s)) hI2 hT2 hρ i.1 NF_pp (I_pat1 hI (hlt (by rw [c]; decide))) p1 h0 h1 hm ⟨by decide, by decide, by decide, Or.inl (by decide)⟩
  refine o_okI (fun c => ?_) (fun c => ?_)
  · exact s_often_j192 (s1 := NP_pp s (NP_pat s + 1) (NP_broken s)) hI2 hT2 hρ i.1 NF_pp (I_pat1 hI (hlt (by rw [c]; decide))) p1 h0 h1 hm ⟨by decide, by decide, by decide, Or.inl (by decide)⟩
  refine o_okI (fun c => ?_) (fun c => ?_)
  · exact s_often_j192 (s1 := NP_pp s (NP_pat s + 1) (NP_broken s)) hI2 hT2 hρ i.1 NF_pp (I_pat1 hI (hlt (by rw [c]; decide))) p1 h0 h1 hm ⟨by decide, by decide, by decide, Or.inr (by decide)⟩
  refine o_okI (fun c => ?_) (fun c => ?_)
  · have I1 := I_pat1 (b := NP_broken s) hI (hlt (by rw [c]; decide))
    refine o_okB (s_MM_number hn hI2 hT2 I1) ?_
    intro q2 ⟨a1, a2, a3, a4⟩
    have hNF : NF s q2.2 := NF_trans NF_pp a1
    have hp2 : NP_pat s ≤ NP_pat q2.2 := Int32.le_trans (Int32.le_of_lt p1) a2
    refine o_okI (fun c2 => ?_) (fun c2 => ?_)
    · have r := a3 c2
      refine o_okB (s_MM_p hI2 hT2 a4 (by decide) (by decide)) ?_
      intro q7 hq7
      refine o_okI (fun c3 => ?_) (fun c3 => ?_)
      · have hlt2 : NP_pat q2.2 < NP_patEnd q2.2 := by have := hq7 (by rw [c3]; decide); have i2 := sc_NP a4; clear hI hNF a4 I1 a1; grind
        have I2 := I_pat1 (b := NP_broken q2.2) a4 hlt2
        have hp3 : NP_pat s ≤ NP_pat q2.2 + 1 := by have i2 := sc_NP a4; clear hI hNF a4 I1 a1 I2; grind
        refine o_okB (s_MM_p hI2 hT2 I2 (by decide) (by decide)) ?_
        intro q8 hq8
        refine o_okI (fun c4 => ?_) (fun c4 => ?_)
        · exact s_often_j144 (s1 := NP_pp q2.2 (NP_pat q2.2 + 1) (NP_broken q2.2)) hI2 hT2 hρ i.1 (NF_trans hNF NF_pp) I2 hp3 h0 h1 hm (fun _ => ⟨r.1, r.2, by decide⟩)
        · refine o_okB (s_MM_number hn hI2 hT2 I2) ?_
          intro q9 ⟨b1, b2, b3, b4⟩
          exact s_often_j144 hI2 hT2 hρ i.1 (NF_trans (NF_trans hNF NF_pp) b1) b4 (Int32.le_trans hp3 b2) h0 h1 hm (fun z => ⟨r.1, r.2, (b3 z).2⟩)
      · exact s_often_j144 hI2 hT2 hρ i.1 hNF a4 hp2 h0 h1 hm (fun z => ⟨r.1, r.2, r.2⟩)
    · exact s_often_j144 hI2 hT2 hρ i.1 hNF a4 hp2 h0 h1 hm (fun z => absurd z c2)
  · refine o_okS ⟨hI, Int32.le_refl _, ⟨h0, h1⟩, Int32.le_refl _, ?_, fun _ => ⟨?_, XN_rfl, Int32.le_refl _, fun g hg he => ⟨g, hg, AG_rfl, he.1, he.2.1, ?_, he.2.2.2⟩⟩⟩
    · show NP_nodes s ≤ NP_nodes s + 1
      clear hI; grind
    · show NP_nodes s ≤ 2 * NP_pat s + 2
      clear hI; grind
    · show (g (gi x1)).1 + 1 ≤ ρ
      exact Nat.le_trans (Nat.le_succ _) he.2.2.1
def OnP (ρ : Nat) (d : Int32) (s : SNP) (r : Int32 × SNP) : Prop := PX 1 ρ d s r ∧ (NP_broken r.2 = 0 → NP_pat s < NP_pat r.2)
theorem one_no {s s1 : SNP} {ρ : Nat} {d : Int32} (hd : 0 ≤ d ∧ d ≤ 30) (hI : I_NP s1) (hp : NP_pat s ≤ NP_pat s1) (hs : NP_nodes s ≤ NP_nodes s1) (hm : NP_nodes s1 + 1 ≤ 2 * NP_pat s1 + 33 - d) : o_ok (o_bd (m_MM_no s1) fun q => some (q.1, q.2)) (OnP ρ d s) := by
  have i := sc_NP hI
  refine o_okB (s_MM_no hI (by clear hI; grind)) ?_
  intro q ⟨a1, a2, a3, a4, a5⟩
  refine o_okS ⟨⟨a3, by rw [a5]; exact hp, ?_, ?_, ?_, fun z => absurd z a1⟩, fun z => absurd z a1⟩
  · show 0 ≤ q.1 ∧ q.1 < NP_nodes q.2
    rw [a4, a2]; clear hI a3; constructor <;> grind
  · rw [a2]; clear hI a3; grind
  · rw [a2, a5]; exact hm
theorem one_j348 {n : Nat} {rec : Int32 → SMT → SNP → Option (Int32 × SNP)} {t d : Int32} {tc : SMT} {s s1 : SNP} {ρ : Nat} (hn : o_big ≤ n) (hI2 : I_MT tc) (hT2 : T_MT tc) (hd : 0 ≤ d ∧ d ≤ 30) (hρ : ρ ≤ 100) (hI : I_NP s1) (hp : NP_pat s < NP_pat s1) (hs : NP_nodes s ≤ NP_nodes s1) (hm : NP_nodes s1 ≤ 2 * NP_pat s1 + 1) (ht : 0 ≤ t ∧ t < NP_nodes s1)
    (hb : NP_broken s1 = 0 → XN s s1 ∧ NP_nodes s ≤ t ∧ EV ρ 2 s s1 t) : o_ok (m_MM_one_j348 n rec t tc s1) (OnP ρ d s) := by
  have i := sc_NP hI
  unfold m_MM_one_j348
  refine o_okI (fun c => ?_) (fun c => ?_)
  · obtain ⟨b1, b2, b3⟩ := hb c
    refine o_okB (s_MM_often (ρ := ρ) hn hI2 hT2 hρ hI c ht.1 ht.2 hm) ?_
    intro q ⟨a1, a2, a3, a4, a5, a6⟩
    refine o_okS ⟨⟨a1, Int32.le_trans (Int32.le_of_lt hp) a2, a3, Int32.le_trans hs a4, ?_, fun z => ?_⟩, fun _ => Int32.lt_of_lt_of_le hp a2⟩
    · show NP_nodes q.2 ≤ 2 * NP_pat q.2 + 33 - d
      have i1 := sc_NP a1
      clear hI a1 a6 b1 b3 hb; grind
    · obtain ⟨d1, d2, d3, d4⟩ := a6 z
      refine ⟨d1, XN_trans b1 d2, Int32.le_trans b2 d3, fun g hg => ?_⟩
      obtain ⟨g1, k1, k2, k3⟩ := b3 g hg
      obtain ⟨g2, j1, j2, j3⟩ := d4 g1 k1 k3
      exact ⟨g2, j1, AG_trans hs k2 j2, j3⟩
  · refine o_okS ⟨⟨hI, Int32.le_of_lt hp, ht, hs, ?_, fun z => absurd z c⟩, fun z => absurd z c⟩
    show NP_nodes s1 ≤ 2 * NP_pat s1 + 33 - d
    clear hI hb; grind
/-- a set's node -/
theorem one_set {n : Nat} {rec : Int32 → SMT → SNP → Option (Int32 × SNP)} {d x y : Int32} {tc : SMT} {s s1 : SNP} {ρ : Nat} (hn : o_big ≤ n) (hI2 : I_MT tc) (hT2 : T_MT tc) (hd : 0 ≤ d ∧ d ≤ 30) (hρ : 2 ≤ ρ ∧ ρ ≤ 100) (hNF : NF s s1) (hI : I_NP s1) (hp : NP_pat s < NP_pat s1) (hq : NP_sets s ≤ NP_pat s) (hm : NP_nodes s ≤ 2 * NP_pat s + 2) (hx : 0 ≤ x ∧ x ≤ 48000) :
    o_ok (o_bd (m_MM_close x y s1) fun q => m_MM_one_j348 n rec q.1 tc q.2) (OnP ρ d s) := by
  have i := sc_NP hI
  have e := hNF.2.2.2.2.2.1
  have e2 := hNF.2.2.2.2.2.2.1
  refine o_okB (s_MM_close hI (by clear hI hNF; grind) (by clear hI hNF; grind) hx.1 hx.2) ?_
  intro q ⟨a1, a2, a3, a4, a5, a6⟩
  have n1 := (ADN_n a2).1
  obtain ⟨v1, v2⟩ := leaf_EV (ρ := ρ) hNF i.2.2.2.1 i.2.2.2.2.1 a2 ⟨by decide, by decide⟩ (fun _ => ⟨i.2.2.2.2.2.1, by clear hI hNF a2 a3; grind⟩) hρ
  refine one_j348 hn hI2 hT2 hd hρ.2 a3 (by rw [a5]; exact hp) v1.1 ?_ ?_ (fun _ => ⟨v1, ?_, ?_⟩)
  · rw [n1, a5]; clear hI hNF a2 a3 v1 v2; grind
  · rw [a1, n1]; clear hI hNF a2 a3 v1 v2; constructor <;> grind
  · rw [a1, e]; exact Int32.le_refl _
  · rw [a1]; exact v2
theorem one_j102 {n : Nat} {rec : Int32 → SMT → SNP → Option (Int32 × SNP)} {d : Int32} {tc : SMT} {s s1 : SNP} {ρ : Nat} (hn : o_big ≤ n) (hI2 : I_MT tc) (hT2 : T_MT tc) (hd : 0 ≤ d ∧ d < 30) (hρ : ρ ≤ 100) (hrec : WRec rec (d + 1) ρ) (hNF : NF s s1) (hI : I_NP s1) (hb : NP_broken s1 = 0) (hp : NP_pat s < NP_pat s1) (hm : NP_nodes s1 ≤ 2 * NP_pat s1) : o_ok (m_MM_one_j102 n rec d tc s1) (OnP ρ d s) := by
  have e := hNF.2.2.2.2.2.1
  have hd1 : 0 ≤ d ∧ d ≤ 30 := ⟨hd.1, Int32.le_of_lt hd.2⟩
  unfold m_MM_one_j102
  refine o_okB (hrec tc s1 hI2 hT2 hI hb hm) ?_
  intro q ⟨a1, a2, a3, a4, a5, a6⟩
  have i1 := sc_NP a1
  have hpq : NP_pat s ≤ NP_pat q.2 := Int32.le_trans (Int32.le_of_lt hp) a2
  have hsq : NP_nodes s ≤ NP_nodes q.2 := by rw [← e]; exact a4
  have hno : o_ok (m_MM_one_j127 n rec tc q.2) (OnP ρ d s) := by
    unfold m_MM_one_j127
    exact one_no hd1 a1 hpq hsq (by clear hI hNF a1 a6 hrec; grind)
  refine o_okI (fun c => ?_) (fun c => hno)
  obtain ⟨d1, d2, d3, d4⟩ := a6 c
  refine o_okB (s_MM_p hI2 hT2 a1 (by decide) (by decide)) ?_
  intro q2 hq2
  refine o_okI (fun c2 => ?_) (fun c2 => hno)
  have hlt : NP_pat q.2 < NP_patEnd q.2 := by have := hq2 (by rw [c2]; decide); clear hI hNF a1 a6 hrec d2 d4 hno; grind
  refine one_j348 (s1 := NP_pp q.2 (NP_pat q.2 + 1) (NP_broken q.2)) hn hI2 hT2 hd1 hρ (I_pat1 a1 hlt) ?_ hsq ?_ a3 (fun _ => ⟨XN_trans (NF_XN hNF) (XN_trans d2 (NF_XN NF_pp)), by rw [← e]; exact d3, fun g hg => ?_⟩)
  · show NP_pat s < NP_pat q.2 + 1
    clear hI hNF a1 a6 hrec d2 d4 hno; grind
  · show NP_nodes q.2 ≤ 2 * (NP_pat q.2 + 1) + 1
    clear hI hNF a1 a6 hrec d2 d4 hno; grind
  · obtain ⟨g1, k1, k2, k3⟩ := d4 g (NF_GN hNF hg)
    exact ⟨g1, NF_GN NF_pp k1, by rw [← e]; exact k2, k3⟩
theorem s_MM_one {n : Nat} {rec : Int32 → SMT → SNP → Option (Int32 × SNP)} {d : Int32} {tc : SMT} {s : SNP} {ρ : Nat} (hn : o_big ≤ n) (hI2 : I_MT tc) (hT2 : T_MT tc) (hd : 0 ≤ d ∧ d ≤ 30) (hρ : 2 ≤ ρ ∧ ρ ≤ 100) (hrec : d ≠ 30 → WRec rec (d + 1) ρ) (hI : I_NP s) (hb : NP_broken s = 0) (hm : NP_nodes s ≤ 2 * NP_pat s + 2) (hlt : NP_pat s < NP_patEnd s) : o_ok (m_MM_one n rec d tc s) (OnP ρ d s) := by
  have i := sc_NP hI
  have p1 : NP_pat s < NP_pat s + 1 := by clear hI hrec; grind
  have I1 := I_pat1 (b := NP_broken s) hI hlt
  have i1 := sc_NP I1
  have r1 : NP_ranges s + 6 ≤ 6 * (NP_pat s + 1) := by clear hI hrec I1 i1; grind
  have hno : o_ok (o_bd (m_MM_no s) fun q => some (q.1, q.2)) (OnP ρ d s) := one_no hd hI (Int32.le_refl _) (Int32.le_refl _) (by clear hI hrec I1 i1; grind)
  have h313 : o_ok (m_MM_one_j313 n rec tc s) (OnP ρ d s) := by unfold m_MM_one_j313; exact hno
  have hnode : ∀ k : Int32, (k = 2 ∨ k = 3) → o_ok (m_MM_one_j40 n rec k tc (NP_pp s (NP_pat s + 1) (NP_broken s))) (OnP ρ d s) := by
    intro k hk
    unfold m_MM_one_j40
    refine o_okB (s_MM_node I1 (by show NP_nodes s < 15000; clear hI hrec I1 i1 hno h313; grind)) ?_
    intro q ⟨a1, a2, a3, a4, a5, a6, a7⟩
    have n1 : NP_nodes q.2 = NP_nodes s + 1 := (ADN_n a2).1
    have n2 : NP_pat q.2 = NP_pat s + 1 := a5
    have n3 : q.1 = NP_nodes s := a1
    obtain ⟨v1, v2⟩ := leaf_EV (s := s) (ρ := ρ) NF_pp i.2.2.2.1 i.2.2.2.2.1 a2 (by rcases hk with h | h <;> rw [h] <;> decide) (fun e => by rcases hk with h | h <;> rw [h] at e <;> exact absurd e (by decide)) hρ
    refine o_okS ⟨⟨a3, ?_, ?_, v1.1, ?_, fun _ => ⟨?_, v1, ?_, fun g hg => ?_⟩⟩, fun _ => ?_⟩
    · rw [n2]; exact Int32.le_of_lt p1
    · show 0 ≤ q.1 ∧ q.1 < NP_nodes q.2
      rw [n3, n1]; clear hI hrec I1 i1 hno h313 a2 a3 v1 v2; constructor <;> grind
    · rw [n1, n2]; clear hI hrec I1 i1 hno h313 a2 a3 v1 v2; grind
    · show NP_nodes q.2 ≤ 2 * NP_pat q.2 + 2
      rw [n1, n2]; clear hI hrec I1 i1 hno h313 a2 a3 v1 v2; grind
    · show NP_nodes s ≤ q.1
      rw [n3]; exact Int32.le_refl _
    · obtain ⟨g', k1, k2, k3⟩ := v2 g hg
      refine ⟨g', k1, k2, ?_⟩
      have e3 : q.1 = NP_nodes (NP_pp s (NP_pat s + 1) (NP_broken s)) := a1
      show ELt ρ 1 q.2 g' q.1
      rw [e3]
      exact ⟨k3.1, k3.2.1, Nat.le_trans (Nat.le_succ _) k3.2.2.1, k3.2.2.2⟩
    · show NP_pat s < NP_pat q.2
      rw [n2]; exact p1
  unfold m_MM_one
  refine o_okB (s_MM_p hI2 hT2 hI (by decide) (by decide)) ?_
  intro q hq
  refine o_okI (fun c => ?_) (fun c => ?_)
  · unfold m_MM_one_j18
    exact o_okI (fun _ => hnode 2 (Or.inl rfl)) (fun _ => hnode 3 (Or.inr rfl))
  refine o_okI (fun c => ?_) (fun c => ?_)
  · unfold m_MM_one_j18
    exact o_okI (fun _ => hnode 2 (Or.inl rfl)) (fun _ => hnode 3 (Or.inr rfl))
  refine o_okI (fun c => ?_) (fun c => ?_)
  · refine o_okI (fun c2 => hno) (fun c2 => ?_)
    have hd2 : 0 ≤ d ∧ d < 30 := ⟨hd.1, by clear hI hrec I1 i1 hno h313 hnode; grind⟩
    have m1 : NP_nodes s ≤ 2 * (NP_pat s + 1) := by clear hI hrec I1 i1 hno h313 hnode; grind
    have base := one_j102 (n := n) (s := s) (s1 := NP_pp s (NP_pat s + 1) (NP_broken s)) hn hI2 hT2 hd2 hρ.2 (hrec c2) NF_pp I1 hb p1 m1
    refine o_okB (s_MM_p hI2 hT2 I1 (by decide) (by decide)) ?_
    intro q18 hq18
    refine o_okI (fun c3 => ?_) (fun c3 => base)
    refine o_okB (s_MM_p hI2 hT2 I1 (by decide) (by decide)) ?_
    intro q22 hq22
    refine o_okI (fun c4 => ?_) (fun c4 => base)
    have h3 : NP_pat s + 1 + 1 < NP_patEnd s := hq22 (by rw [c4]; decide)
    refine one_j102 (s1 := NP_pp s (NP_pat s + 1 + 2) (NP_broken s)) hn hI2 hT2 hd2 hρ.2 (hrec c2) NF_pp (I_pat3 hI h3) hb ?_ ?_
    · show NP_pat s < NP_pat s + 1 + 2
      clear hI hrec I1 i1 hno h313 hnode base; grind
    · show NP_nodes s ≤ 2 * (NP_pat s + 1 + 2)
      clear hI hrec I1 i1 hno h313 hnode base; grind
  refine o_okI (fun c => ?_) (fun c => ?_)
  · refine o_okB (s_MM_choice hn hI2 hT2 hI (by clear hI hrec I1 i1 hno h313 hnode; grind) i.2.2.2.2.2.2.1 hlt) ?_
    intro q17 ⟨a1, a2, a3, a4, a5⟩
    have j := sc_NP a1
    refine one_j348 hn hI2 hT2 hd hρ.2 a1 a3 ?_ ?_ ?_ (fun z => ?_)
    · rw [a2]; clear hI hrec I1 i1 hno h313 hnode a1 a5; grind
    · rw [a2]; clear hI hrec I1 i1 hno h313 hnode a1 a5; grind
    · rw [a4, a2]; clear hI hrec I1 i1 hno h313 hnode a1 a5; constructor <;> grind
    · obtain ⟨b1, b2⟩ := a5 z
      obtain ⟨v1, v2⟩ := leaf_EV (s := s) (ρ := ρ) NF_rfl i.2.2.2.1 i.2.2.2.2.1 b1 ⟨by decide, by decide⟩ (fun _ => ⟨i.2.2.2.2.2.1, by clear hI hrec I1 i1 hno h313 hnode a1 b1; grind⟩) hρ
      rw [a4]
      exact ⟨v1, Int32.le_refl _, v2⟩
  refine o_okI (fun c => ?_) (fun c => ?_)
  · refine o_okB (s_MM_begin I1) ?_
    intro q13 e13
    have e13 : q13 = NP_ranges s := e13
    have hx : 0 ≤ q13 ∧ q13 ≤ 48000 := by rw [e13]; clear hI hrec I1 i1 hno h313 hnode; constructor <;> grind
    refine o_okB (s_MM_escape hn hI2 hT2 I1 (by show NP_pat s + 1 ≤ 4000; clear hI hrec I1 i1 hno h313 hnode; grind) r1) ?_
    intro q14 ⟨a1, a2, a3, a4⟩
    have a2 : NP_pat s + 1 < NP_pat q14.2 := a2
    refine o_okI (fun c2 => ?_) (fun c2 => ?_)
    · unfold m_MM_one_j201
      exact one_set hn hI2 hT2 hd hρ (NF_trans NF_pp a1) a4 (Int32.lt_trans p1 a2) i.2.2.2.2.2.2.1 hm hx
    · refine o_okB (s_MM_range a4 (a3 (by clear hI hrec I1 i1 hno h313 hnode a1 a4; grind))) ?_
      intro q16 ⟨b1, b2, b3, b4, b5⟩
      unfold m_MM_one_j201
      exact one_set hn hI2 hT2 hd hρ (NF_trans (NF_trans NF_pp a1) b1) b5 (by rw [b2]; exact Int32.lt_trans p1 a2) i.2.2.2.2.2.2.1 hm hx
  refine o_okI (fun c => ?_) (fun c => ?_)
  · refine o_okB (s_MM_begin I1) ?_
    intro q8 e8
    have e8 : q8 = NP_ranges s := e8
    have hx : 0 ≤ q8 ∧ q8 ≤ 48000 := by rw [e8]; clear hI hrec I1 i1 hno h313 hnode; constructor <;> grind
    refine o_okB (s_MM_range I1 (by show NP_ranges s + 1 ≤ 6 * (NP_pat s + 1); clear hI hrec I1 i1 hno h313 hnode; grind)) ?_
    intro q9 ⟨a1, a2, a3, a4, a5⟩
    have a2 : NP_pat q9 = NP_pat s + 1 := a2
    have a4 : NP_ranges q9 = NP_ranges s + 1 := a4
    refine o_okB (s_MM_range a5 (by rw [a2, a4]; clear hI hrec I1 i1 hno h313 hnode a1 a5; grind)) ?_
    intro q10 ⟨b1, b2, b3, b4, b5⟩
    refine o_okB (s_MM_range b5 (by rw [b2, b4, a2, a4]; clear hI hrec I1 i1 hno h313 hnode a1 a5 b1 b5; grind)) ?_
    intro q11 ⟨d1, d2, d3, d4, d5⟩
    exact one_set hn hI2 hT2 hd hρ (NF_trans (NF_trans (NF_trans NF_pp a1) b1) d1) d5 (by rw [d2, b2, a2]; exact p1) i.2.2.2.2.2.2.1 hm hx
  refine o_okI (fun c => h313) (fun c => ?_)
  refine o_okI (fun c => h313) (fun c => ?_)
  refine o_okI (fun c => h313) (fun c => ?_)
  refine o_okI (fun c => h313) (fun c => ?_)
  refine o_okI (fun c => h313) (fun c => ?_)
  refine o_okI (fun c => h313) (fun c => ?_)
  refine o_okI (fun c => h313) (fun c => ?_)
  refine o_okB (s_MM_begin I1) ?_
  intro q4 e4
  have e4 : q4 = NP_ranges s := e4
  have hx : 0 ≤ q4 ∧ q4 ≤ 48000 := by rw [e4]; clear hI hrec I1 i1 hno h313 hnode; constructor <;> grind
  refine o_okB (s_MM_range I1 (by show NP_ranges s + 1 ≤ 6 * (NP_pat s + 1); clear hI hrec I1 i1 hno h313 hnode; grind)) ?_
  intro q5 ⟨a1, a2, a3, a4, a5⟩
  have a2 : NP_pat q5 = NP_pat s + 1 := a2
  exact one_set hn hI2 hT2 hd hρ (NF_trans NF_pp a1) a5 (by rw [a2]; exact p1) i.2.2.2.2.2.2.1 hm hx
/-! The reference's patterns: row, ways -/
def rh (d : Int32) : Nat := (94 - 3 * d.toInt).toNat
theorem rh_b {d : Int32} (h : 0 ≤ d ∧ d ≤ 30) : 4 ≤ rh d ∧ rh d ≤ 94 := by
  have h0 := Int32.le_iff_toInt_le.mp h.1
  have h1 := Int32.le_iff_toInt_le.mp h.2
  have z0 : (0 : Int32).toInt = 0 := rfl
  have z1 : (30 : Int32).toInt = 30 := rfl
  rw [z0] at h0
  rw [z1] at h1
  unfold rh
  omega
theorem rh_s {d : Int32} (h0 : 0 ≤ d) (h1 : d < 30) : rh (d + 1) + 3 = rh d := by
  have e := o_add1 (x := d) (by grind)
  have h0 := Int32.le_iff_toInt_le.mp h0
  have h1 := Int32.lt_iff_toInt_lt.mp h1
  have z0 : (0 : Int32).toInt = 0 := rfl
  have z1 : (30 : Int32).toInt = 30 := rfl
  rw [z0] at h0
  rw [z1] at h1
  unfold rh
  omega
theorem o_stop {σ : Type} {k : Nat} {z z0 : σ} {I : σ → Prop} {μ : σ → Nat} {P : Nat × σ → Prop} (h : P (k + 1, z)) : o_ok (some (k + 1, z)) (fun q => (q.1 = 0 → I q.2 ∧ μ q.2 < μ z0) ∧ (q.1 ≠ 0 → P q)) := ⟨_, rfl, fun e => absurd e (Nat.succ_ne_zero k), fun _ => h⟩
theorem o_go {σ : Type} {z z0 : σ} {I : σ → Prop} {μ : σ → Nat} {P : Nat × σ → Prop} (h : I z) (h2 : μ z < μ z0) : o_ok (some (0, z)) (fun q => (q.1 = 0 → I q.2 ∧ μ q.2 < μ z0) ∧ (q.1 ≠ 0 → P q)) := ⟨_, rfl, fun _ => ⟨h, h2⟩, fun e => absurd rfl e⟩
def rmu (z : Int32 × SNP) : Nat := if NP_broken z.2 = 0 then o_mu (NP_pat z.2) else 0
theorem rmuB {z : Int32 × SNP} : rmu z < o_big := by
  unfold rmu
  split
  · exact o_muB
  · decide
theorem rmuL {z t : Int32 × SNP} (c : NP_broken z.2 = 0) (h : NP_broken t.2 = 0 → NP_pat z.2 < NP_pat t.2) : rmu t < rmu z := by
  unfold rmu
  rw [if_pos c]
  split
  · exact o_muL (h (by assumption))
  · exact o_mu0
def RowP (d : Int32) (s : SNP) (r : Int32 × SNP) : Prop := I_NP r.2 ∧ NP_pat s ≤ NP_pat r.2 ∧ r.1 = NP_nodes s ∧ NP_nodes s < NP_nodes r.2 ∧ NP_nodes r.2 ≤ 2 * NP_pat r.2 + 33 - d ∧
  (NP_broken r.2 = 0 → NP_nodes r.2 ≤ 2 * NP_pat r.2 + 2 ∧ XN s r.2 ∧ NP_nodeKind r.2 (gi r.1) = 4 ∧ NP_nodeNext r.2 (gi r.1) = -1 ∧ ∀ g w p, GN s g → ∃ g', GN r.2 g' ∧ AG (NP_nodes s) g g' ∧ g' (gi r.1) = (rh d, rh d + 1, w, p))
def RI (d : Int32) (s : SNP) (r : Int32) (z : Int32 × SNP) : Prop := I_NP z.2 ∧ NP_pat s ≤ NP_pat z.2 ∧ r < NP_nodes z.2 ∧ (z.1 = -1 ∨ (0 ≤ z.1 ∧ z.1 < NP_nodes z.2)) ∧ NP_nodes z.2 ≤ 2 * NP_pat z.2 + 33 - d ∧
  (NP_broken z.2 = 0 → NP_nodes z.2 ≤ 2 * NP_pat z.2 + 2 ∧ XN s z.2 ∧ NP_nodeKind z.2 (gi r) = 4 ∧ NP_nodeNext z.2 (gi r) = -1 ∧ (z.1 ≠ -1 → r < z.1) ∧
    ∀ g w p, GN s g → ∃ g', GN z.2 g' ∧ AG (NP_nodes s) g g' ∧ g' (gi r) = (rh d, rh d + 1, w, p) ∧ (z.1 ≠ -1 → ELt (rh d) 1 z.2 g' z.1))
theorem row_step {n : Nat} {rec : Int32 → SMT → SNP → Option (Int32 × SNP)} {d : Int32} {tc : SMT} {s : SNP} {z : Int32 × SNP} (hn : o_big ≤ n) (hI2 : I_MT tc) (hT2 : T_MT tc) (hd : 0 ≤ d ∧ d ≤ 30) (hrec : d ≠ 30 → WRec rec (d + 1) (rh d)) (hr0 : 0 ≤ NP_nodes s) (hr1 : NP_nodes s ≤ 15000) (hz : RI d s (NP_nodes s) z) :
    o_ok (m_MM_row_b9 n rec d (NP_nodes s) tc z) (fun q => (q.1 = 0 → RI d s (NP_nodes s) q.2 ∧ rmu q.2 < rmu z) ∧ (q.1 ≠ 0 → RI d s (NP_nodes s) q.2)) := by
  have hz0 := hz
  obtain ⟨a1, a2, a3, a4, a5, a6⟩ := hz
  have hb := rh_b hd
  have i := sc_NP a1
  unfold m_MM_row_b9
  refine o_okI (fun c => ?_) (fun c => o_stop hz0)
  obtain ⟨b1, b2, b3, b4, b5, b6⟩ := a6 c
  refine o_okI (fun c2 => o_stop hz0) (fun c2 => ?_)
  refine o_okB (s_MM_p hI2 hT2 a1 (by decide) (by decide)) ?_
  intro q2 _
  refine o_okI (fun c3 => o_stop hz0) (fun c3 => ?_)
  refine o_okB (s_MM_p hI2 hT2 a1 (by decide) (by decide)) ?_
  intro q3 _
  refine o_okI (fun c4 => o_stop hz0) (fun c4 => ?_)
  refine o_okB (s_MM_one (ρ := rh d) hn hI2 hT2 hd ⟨by omega, by omega⟩ hrec a1 c b1 (by clear hz0 a1 a6 b2 b6 hrec; grind)) ?_
  intro q4 ⟨⟨e1, e2, e3, e4, e5, e6⟩, e7⟩
  have lt1 : NP_nodes s < NP_nodes q4.2 := Int32.lt_of_lt_of_le a3 e4
  have h16 : NP_nodes q4.2 ≤ 15000 := (sc_NP e1).2.2.2.2.1
  refine o_okI (fun c5 => ?_) (fun c5 => ?_)
  · have hz1 : z.1 ≠ -1 := by intro z; rw [z] at c5; exact absurd c5 (by decide)
    have hzl : z.1 < NP_nodes z.2 := by
      rcases a4 with h | h
      · exact absurd h hz1
      · exact h.2
    have f1 := b5 hz1
    refine o_okG (o_inM (m := 16000) rfl c5 (by clear hz0 a1 a6 b2 b6 hrec e6 e1; grind)) (o_go ?_ (rmuL c e7))
    refine ⟨e1, Int32.le_trans a2 e2, lt1, Or.inr e3, e5, fun c6 => ?_⟩
    obtain ⟨k1, k2, k3, k4⟩ := e6 c6
    have nr : gi (NP_nodes s) ≠ gi z.1 := o_nev hr0 c5 f1
    have hr2 := k2.2 _ hr0 a3
    have hl2 := k2.2 _ c5 hzl
    have lq : z.1 < q4.1 := Int32.lt_of_lt_of_le hzl k3
    have nq : gi q4.1 ≠ gi z.1 := (o_nev c5 e3.1 lq).symm
    have xs := XN_trans b2 k2
    refine ⟨k1, ⟨xs.1, fun x x0 hx => ?_⟩, ?_, ?_, fun _ => Int32.lt_of_lt_of_le a3 k3, fun g w p hg => ?_⟩
    · obtain ⟨y1, y2, y3, y4, y5⟩ := xs.2 x x0 hx
      refine ⟨y1, y2, y3, y4, ?_⟩
      show upd (NP_nodeNext q4.2) (gi z.1) q4.1 (gi x) = _
      rw [o_updN (o_nev x0 c5 (Int32.lt_trans hx f1))]; exact y5
    · show NP_nodeKind q4.2 (gi (NP_nodes s)) = 4
      rw [hr2.1]; exact b3
    · show upd (NP_nodeNext q4.2) (gi z.1) q4.1 (gi (NP_nodes s)) = -1
      rw [o_updN nr, hr2.2.2.2.2]; exact b4
    · obtain ⟨g1, m1, m2, m3, m4⟩ := b6 g w p hg
      obtain ⟨g2, j1, j2, j3⟩ := k4 g1 m1
      have m4 := m4 hz1
      refine ⟨g2, GN_next j1 c5 lq e3.2 ?_ j3.2.2.2.2 ?_ rfl rfl rfl rfl rfl rfl, AG_trans b2.1 m2 j2, (j2 _ hr0 a3).trans m3, fun _ => ⟨?_, j3.2.1, j3.2.2.1, j3.2.2.2⟩⟩
      · rw [j3.2.1, j2 z.1 c5 hzl, m4.2.1]; exact Nat.le_refl _
      · rw [hl2.1]; exact m4.2.2.2.1
      · show upd (NP_nodeNext q4.2) (gi z.1) q4.1 (gi q4.1) = -1
        rw [o_updN nq]; exact j3.1
  · refine o_okG (o_inM (m := 16000) rfl hr0 (Int32.lt_of_le_of_lt hr1 (by decide))) (o_go ?_ (rmuL c e7))
    refine ⟨e1, Int32.le_trans a2 e2, lt1, Or.inr e3, e5, fun c6 => ?_⟩
    obtain ⟨k1, k2, k3, k4⟩ := e6 c6
    have hr2 := k2.2 _ hr0 a3
    have xs := XN_trans b2 k2
    refine ⟨k1, ⟨xs.1, fun x x0 hx => ?_⟩, ?_, ?_, fun _ => Int32.lt_of_lt_of_le a3 k3, fun g w p hg => ?_⟩
    · obtain ⟨y1, y2, y3, y4, y5⟩ := xs.2 x x0 hx
      refine ⟨y1, ?_, y3, y4, y5⟩
      show upd (NP_nodeA q4.2) (gi (NP_nodes s)) q4.1 (gi x) = _
      rw [o_updN (o_nev x0 hr0 hx)]; exact y2
    · show NP_nodeKind q4.2 (gi (NP_nodes s)) = 4
      rw [hr2.1]; exact b3
    · show NP_nodeNext q4.2 (gi (NP_nodes s)) = -1
      rw [hr2.2.2.2.2]; exact b4
    · obtain ⟨g1, m1, m2, m3, m4⟩ := b6 g w p hg
      obtain ⟨g2, j1, j2, j3⟩ := k4 g1 m1
      have gr := (j2 _ hr0 a3).trans m3
      refine ⟨g2, GN_row j1 hr0 e3.1 e3.2 ?_ j3.2.2.2.2 ?_ rfl rfl rfl rfl rfl rfl, AG_trans b2.1 m2 j2, gr, fun _ => j3⟩
      · rw [j3.2.1, gr]; exact Nat.le_refl _
      · rw [hr2.1]; exact b3
theorem s_MM_row {n : Nat} {rec : Int32 → SMT → SNP → Option (Int32 × SNP)} {d : Int32} {tc : SMT} {s : SNP} (hn : o_big ≤ n) (hI2 : I_MT tc) (hT2 : T_MT tc) (hd : 0 ≤ d ∧ d ≤ 30) (hrec : d ≠ 30 → WRec rec (d + 1) (rh d)) (hI : I_NP s) (hb : NP_broken s = 0) (hm : NP_nodes s ≤ 2 * NP_pat s + 1) : o_ok (m_MM_row n rec d tc s) (RowP d s) := by
  have i := sc_NP hI
  have hr := rh_b hd
  unfold m_MM_row
  refine o_okB (s_MM_node hI (by clear hI hrec; grind)) ?_
  intro q ⟨a1, a2, a3, a4, a5, a6, a7⟩
  rw [a1]
  have n1 := (ADN_n a2).1
  have hM := ADN_M a2
  have lt1 : NP_nodes s < NP_nodes q.2 := by rw [n1]; clear hI hrec a2 a3 hM; grind
  have h0 : RI d s (NP_nodes s) ((-1:Int32), q.2) := by
    refine ⟨a3, by show NP_pat s ≤ NP_pat q.2; rw [a5]; exact Int32.le_refl _, lt1, Or.inl rfl, ?_, fun _ => ⟨?_, ADM_XN i.2.2.2.1 i.2.2.2.2.1 hM, ?_, ?_, fun z => absurd rfl z, fun g w p hg => ?_⟩⟩
    · show NP_nodes q.2 ≤ 2 * NP_pat q.2 + 33 - d
      rw [n1, a5]; clear hI hrec a2 a3 hM; grind
    · show NP_nodes q.2 ≤ 2 * NP_pat q.2 + 2
      rw [n1, a5]; clear hI hrec a2 a3 hM; grind
    · show NP_nodeKind q.2 (gi (NP_nodes s)) = 4
      rw [hM.1]; exact o_updE
    · show NP_nodeNext q.2 (gi (NP_nodes s)) = -1
      rw [hM.2.2.2.2.1]; exact o_updE
    · obtain ⟨g1, g2⟩ := ADM_G (v := (rh d, rh d + 1, w, p)) i.2.2.2.1 i.2.2.2.2.1 hM hg ⟨Nat.lt_succ_self _, by show rh d + 1 ≤ 100; omega⟩ ⟨by decide, by decide⟩ (fun _ => rfl) (fun e => absurd e (by decide)) (fun e => absurd e (by decide)) (fun e => absurd e (by decide))
      exact ⟨_, g1, g2, gupE, fun z => absurd rfl z⟩
  refine o_okB (o_lpR (P := fun q => RI d s (NP_nodes s) q.2) (RI d s (NP_nodes s)) rmu hn rmuB h0 (fun z hz => row_step hn hI2 hT2 hd hrec i.2.2.2.1 i.2.2.2.2.1 hz)) ?_
  intro q5 ⟨_, b1, b2, b3, b4, b5, b6⟩
  refine o_okS ⟨b1, b2, rfl, b3, b5, fun c => ?_⟩
  obtain ⟨k1, k2, k3, k4, k5, k6⟩ := b6 c
  refine ⟨k1, k2, k3, k4, fun g w p hg => ?_⟩
  obtain ⟨g', j1, j2, j3, j4⟩ := k6 g w p hg
  exact ⟨g', j1, j2, j3⟩
/-- the ways so far -/
def WG (d : Int32) (s : SNP) (w l : Int32) (t : SNP) : Prop := (l = -1 ∨ (w < l ∧ l < NP_nodes t)) ∧ w < NP_nodes t ∧ XN s t ∧ NP_nodeKind t (gi w) = 5 ∧ NP_nodeNext t (gi w) = -1 ∧ 0 ≤ NP_nodeB t (gi w) ∧ (l = -1 → NP_nodeB t (gi w) = 0) ∧
  ∀ g, GN s g → ∃ g', GN t g' ∧ AG (NP_nodes s) g g' ∧ (g' (gi w)).1 = rh d + 1 ∧ (g' (gi w)).2.1 = rh d + 3 ∧
    (l ≠ -1 → NP_nodeNext t (gi l) = -1 ∧ NP_nodeKind t (gi l) = 4 ∧ (g' (gi l)).2.1 = rh d + 1 ∧ (g' (gi l)).2.2.1 = w ∧ (((g' (gi l)).2.2.2 : Nat) : Int) = (NP_nodeB t (gi w)).toInt)
theorem WG_link {d w l r : Int32} {s a b t : SNP} (hd : 0 ≤ d ∧ d ≤ 30) (hw : w = NP_nodes s) (w0 : 0 ≤ w) (hG : WG d s w l a) (hB : NP_nodeB a (gi w) ≤ 4001) (hR : RowP d a (r, b)) (hc : NP_broken b = 0)
    (e1 : NP_nodeKind t = NP_nodeKind b) (e2 : NP_nodeA t = if 0 ≤ l then NP_nodeA b else upd (NP_nodeA b) (gi w) r) (e3 : NP_nodeB t = upd (NP_nodeB b) (gi w) (NP_nodeB b (gi w) + 1)) (e4 : NP_nodeC t = NP_nodeC b) (e5 : NP_nodeNext t = if 0 ≤ l then upd (NP_nodeNext b) (gi l) r else NP_nodeNext b) (e6 : NP_nodes t = NP_nodes b) : WG d s w r t := by
  obtain ⟨g1, g2, g3, g4, g5, g6, g7, g8⟩ := hG
  obtain ⟨r1, r2, r3, r4, r5, r6⟩ := hR
  have r3 : r = NP_nodes a := r3
  obtain ⟨k1, k2, k3, k4, k5⟩ := r6 hc
  have rw_ : w < r := by rw [r3]; exact g2
  have r0 : 0 ≤ r := Int32.le_of_lt (Int32.lt_of_le_of_lt w0 rw_)
  have rl : r < NP_nodes b := by rw [r3]; exact r4
  have hw2 := k2.2 w w0 g2
  have nwr : gi r ≠ gi w := (o_nev w0 r0 rw_).symm
  have bw0 : 0 ≤ NP_nodeB b (gi w) := by rw [hw2.2.2.1]; exact g6
  have bw1 : NP_nodeB b (gi w) ≤ 4001 := by rw [hw2.2.2.1]; exact hB
  have bi := o_incI bw0 bw1
  have r1m : r ≠ -1 := by intro z; rw [z] at r0; exact absurd r0 (by decide)
  have xs := XN_trans g3 k2
  have kw : NP_nodeKind b (gi w) = 5 := by rw [hw2.1]; exact g4
  have hp0 : 0 ≤ (NP_nodeB b (gi w)).toInt := Int32.le_iff_toInt_le.mp bw0
  have tB : NP_nodeB t (gi w) = NP_nodeB b (gi w) + 1 := by rw [e3, o_updE]
  by_cases hl : 0 ≤ l
  · rw [if_pos hl] at e2 e5
    have l1 : l ≠ -1 := by intro z; rw [z] at hl; exact absurd hl (by decide)
    obtain ⟨wl, la⟩ : w < l ∧ l < NP_nodes a := by
      rcases g1 with h | h
      · exact absurd h l1
      · exact h
    have lr : l < r := by rw [r3]; exact la
    have hl2 := k2.2 l hl la
    have nlr : gi r ≠ gi l := (o_nev hl r0 lr).symm
    have nlw : gi w ≠ gi l := o_nev w0 hl wl
    refine ⟨Or.inr ⟨rw_, by rw [e6]; exact rl⟩, by rw [e6]; exact Int32.lt_trans rw_ rl, ⟨by rw [e6]; exact xs.1, fun x x0 hx => ?_⟩, by rw [e1]; exact kw, ?_, ?_, fun z => absurd z r1m, fun g hg => ?_⟩
    · obtain ⟨y1, y2, y3, y4, y5⟩ := xs.2 x x0 hx
      have xw : x < w := by rw [hw]; exact hx
      rw [e1, e2, e3, e4, e5, o_updN (o_nev x0 w0 xw), o_updN (o_nev x0 hl (Int32.lt_trans xw wl))]
      exact ⟨y1, y2, y3, y4, y5⟩
    · rw [e5, o_updN nlw, hw2.2.2.2.2]; exact g5
    · rw [tB]; clear g8 k5 r6 xs; grind
    · obtain ⟨ga, m1, m2, m3, m4, m5⟩ := g8 g hg
      obtain ⟨m6, m7, m8, m9, m10⟩ := m5 l1
      obtain ⟨gb, j1, j2, j3⟩ := k5 ga w ((NP_nodeB b (gi w)).toInt.toNat + 1) m1
      have glb := j2 l hl la
      have gwb := j2 w w0 g2
      have pl : (ga (gi l)).2.2.2 = (NP_nodeB b (gi w)).toInt.toNat := by rw [hw2.2.2.1]; rw [hw2.2.2.1] at hp0; omega
      have j3 : gb (gi r) = (rh d, rh d + 1, w, (NP_nodeB b (gi w)).toInt.toNat + 1) := j3
      refine ⟨gb, GN_wayN j1 w0 (Int32.lt_trans rw_ rl) hl lr rl ?_ kw ?_ k3 ?_ ?_ ?_ ?_ bw0 bw1 e1 e2 e3 e4 e5 e6, AG_trans g3.1 m2 j2, by rw [gwb]; exact m3, by rw [gwb]; exact m4, fun _ => ⟨?_, by rw [e1]; exact k3, by rw [j3], by rw [j3], ?_⟩⟩
      · rw [j3, glb, m8]; exact Nat.le_refl _
      · rw [hl2.1]; exact m7
      · rw [glb]; exact m9
      · rw [j3]
      · rw [j3, glb, pl]
      · rw [j3]
        show (((NP_nodeB b (gi w)).toInt.toNat + 1 : Nat) : Int) ≤ (NP_nodeB b (gi w)).toInt + 1
        omega
      · rw [e5, o_updN nlr]; exact k4
      · rw [j3, tB, bi]
        show (((NP_nodeB b (gi w)).toInt.toNat + 1 : Nat) : Int) = (NP_nodeB b (gi w)).toInt + 1
        omega
  · rw [if_neg hl] at e2 e5
    have l1 : l = -1 := by
      rcases g1 with h | h
      · exact h
      · exact absurd (Int32.le_of_lt (Int32.lt_of_le_of_lt w0 h.1)) hl
    have b0 : NP_nodeB b (gi w) = 0 := by rw [hw2.2.2.1]; exact g7 l1
    refine ⟨Or.inr ⟨rw_, by rw [e6]; exact rl⟩, by rw [e6]; exact Int32.lt_trans rw_ rl, ⟨by rw [e6]; exact xs.1, fun x x0 hx => ?_⟩, by rw [e1]; exact kw, ?_, ?_, fun z => absurd z r1m, fun g hg => ?_⟩
    · obtain ⟨y1, y2, y3, y4, y5⟩ := xs.2 x x0 hx
      have xw : x < w := by rw [hw]; exact hx
      rw [e1, e2, e3, e4, e5, o_updN (o_nev x0 w0 xw), o_updN (o_nev x0 w0 xw)]
      exact ⟨y1, y2, y3, y4, y5⟩
    · rw [e5, hw2.2.2.2.2]; exact g5
    · rw [tB]; clear g8 k5 r6 xs; grind
    · obtain ⟨ga, m1, m2, m3, m4, m5⟩ := g8 g hg
      obtain ⟨gb, j1, j2, j3⟩ := k5 ga w 1 m1
      have gwb := j2 w w0 g2
      have j3 : gb (gi r) = (rh d, rh d + 1, w, 1) := j3
      refine ⟨gb, GN_way1 j1 w0 r0 rl ?_ kw k3 ?_ ?_ bw0 bw1 e1 e2 e3 e4 e5 e6, AG_trans g3.1 m2 j2, by rw [gwb]; exact m3, by rw [gwb]; exact m4, fun _ => ⟨?_, by rw [e1]; exact k3, by rw [j3], by rw [j3], ?_⟩⟩
      · rw [j3, gwb, m3]; exact Nat.le_refl _
      · rw [j3]
      · rw [j3]
      · rw [e5]; exact k4
      · rw [j3, tB, b0]; rfl
def WI (d : Int32) (s : SNP) (z : Int32 × SNP) : Prop := I_NP z.2 ∧ NP_pat s ≤ NP_pat z.2 ∧ NP_broken z.2 = 0 ∧ NP_nodes z.2 ≤ 2 * NP_pat z.2 + 1 ∧ NP_nodeB z.2 (gi (NP_nodes s)) ≤ NP_pat z.2 ∧ WG d s (NP_nodes s) z.1 z.2
def wmu (z : Int32 × SNP) : Nat := o_mu (NP_pat z.2)
theorem wmuB {z : Int32 × SNP} : wmu z < o_big := by
  unfold wmu
  exact o_muB
theorem ways_j48 {n : Nat} {rec : Int32 → SMT → SNP → Option (Int32 × SNP)} {d l r : Int32} {tc : SMT} {s a b t0 : SNP} (hI2 : I_MT tc) (hT2 : T_MT tc) (hd : 0 ≤ d ∧ d ≤ 30) (hz : WI d s (l, a)) (h0 : 0 ≤ NP_nodes s) (h1 : NP_nodes s ≤ 15000) (hR : RowP d a (r, b)) (hc : NP_broken b = 0)
    (f1 : NP_nodeKind t0 = NP_nodeKind b) (f2 : NP_nodeA t0 = if 0 ≤ l then NP_nodeA b else upd (NP_nodeA b) (gi (NP_nodes s)) r) (f3 : NP_nodeB t0 = NP_nodeB b) (f4 : NP_nodeC t0 = NP_nodeC b) (f5 : NP_nodeNext t0 = if 0 ≤ l then upd (NP_nodeNext b) (gi l) r else NP_nodeNext b) (f6 : NP_nodes t0 = NP_nodes b) (f7 : NP_pat t0 = NP_pat b) (f8 : NP_broken t0 = NP_broken b) (f9 : I_NP t0) :
    o_ok (m_MM_ways_j48 n rec d (NP_nodes s) r tc t0) (fun q => (q.1 = 0 → WI d s q.2 ∧ wmu q.2 < wmu (l, a)) ∧ (q.1 ≠ 0 → PX 2 (rh d + 3) d s (NP_nodes s, q.2.2))) := by
  obtain ⟨a1, a2, a3, a4, a5, a6⟩ := hz
  have a1 : I_NP a := a1
  have a2 : NP_pat s ≤ NP_pat a := a2
  have a5 : NP_nodeB a (gi (NP_nodes s)) ≤ NP_pat a := a5
  have i := sc_NP a1
  have rb := hR.2.2.2.2.2 hc
  have hpb : NP_pat a ≤ NP_pat b := hR.2.1
  have hnb : NP_nodes b ≤ 2 * NP_pat b + 2 := rb.1
  have hrr : r = NP_nodes a := hR.2.2.1
  have j := sc_NP f9
  have gw : o_in (NP_nodes s) 16000 = true := o_inM (m := 16000) rfl h0 (Int32.lt_of_le_of_lt h1 (by decide))
  have bb : NP_nodeB b (gi (NP_nodes s)) = NP_nodeB a (gi (NP_nodes s)) := (rb.2.1.2 _ h0 a6.2.1).2.2.1
  have hb41 : NP_nodeB a (gi (NP_nodes s)) ≤ 4001 := Int32.le_trans a5 i.2.1
  have hw0 : 0 ≤ NP_nodeB a (gi (NP_nodes s)) := a6.2.2.2.2.2.1
  unfold m_MM_ways_j48
  refine o_okG gw (o_okG gw ?_)
  refine o_okB (s_MM_p hI2 hT2 (show I_NP (NP_mk (NP_nodeKind t0) (NP_nodeA t0) (upd (NP_nodeB t0) (gi (NP_nodes s)) (NP_nodeB t0 (gi (NP_nodes s)) + 1)) (NP_nodeC t0) (NP_nodeNext t0) (NP_low t0) (NP_high t0) (NP_setFrom t0) (NP_setTo t0) (NP_setNot t0) (NP_nodes t0) (NP_sets t0) (NP_ranges t0) (NP_pat t0) (NP_patEnd t0) (NP_broken t0)) from f9) (by decide) (by decide)) ?_
  intro q3 hq3
  refine o_okI (fun c => ?_) (fun c => ?_)
  · have hlt : NP_pat t0 < NP_patEnd t0 := by
      have h := hq3 (by rw [c]; decide)
      have h : NP_pat t0 + 0 < NP_patEnd t0 := h
      clear a6 hR rb f9 a1 hq3; grind
    have W := WG_link (t := NP_mk (NP_nodeKind t0) (NP_nodeA t0) (upd (NP_nodeB t0) (gi (NP_nodes s)) (NP_nodeB t0 (gi (NP_nodes s)) + 1)) (NP_nodeC t0) (NP_nodeNext t0) (NP_low t0) (NP_high t0) (NP_setFrom t0) (NP_setTo t0) (NP_setNot t0) (NP_nodes t0) (NP_sets t0) (NP_ranges t0) (NP_pat t0 + 1) (NP_patEnd t0) (NP_broken t0)) hd rfl h0 a6 hb41 hR hc f1 f2 (by show upd (NP_nodeB t0) _ (NP_nodeB t0 _ + 1) = _; rw [f3]) f4 f5 f6
    refine o_go ⟨I_pat1 (b := NP_broken t0) f9 hlt, ?_, ?_, ?_, ?_, W⟩ ?_
    · show NP_pat s ≤ NP_pat t0 + 1
      rw [f7]; rw [f7] at j; clear a6 hR rb f9 a1 W hq3; grind
    · show NP_broken t0 = 0
      rw [f8]; exact hc
    · show NP_nodes t0 ≤ 2 * (NP_pat t0 + 1) + 1
      rw [f6, f7]; rw [f7] at j; clear a6 hR rb f9 a1 W hq3; grind
    · show upd (NP_nodeB t0) (gi (NP_nodes s)) (NP_nodeB t0 (gi (NP_nodes s)) + 1) (gi (NP_nodes s)) ≤ NP_pat t0 + 1
      rw [o_updE, f3, f7, bb]; rw [f7] at j; clear a6 hR rb f9 a1 W hq3 bb; grind
    · show o_mu (NP_pat t0 + 1) < o_mu (NP_pat a)
      refine o_muL ?_
      rw [f7]; rw [f7] at j; clear a6 hR rb f9 a1 W hq3; grind
  · have W := WG_link (t := NP_mk (NP_nodeKind t0) (NP_nodeA t0) (upd (NP_nodeB t0) (gi (NP_nodes s)) (NP_nodeB t0 (gi (NP_nodes s)) + 1)) (NP_nodeC t0) (NP_nodeNext t0) (NP_low t0) (NP_high t0) (NP_setFrom t0) (NP_setTo t0) (NP_setNot t0) (NP_nodes t0) (NP_sets t0) (NP_ranges t0) (NP_pat t0) (NP_patEnd t0) (NP_broken t0)) hd rfl h0 a6 hb41 hR hc f1 f2 (by show upd (NP_nodeB t0) _ (NP_nodeB t0 _ + 1) = _; rw [f3]) f4 f5 f6
    refine o_stop ⟨f9, ?_, ?_, W.2.2.1.1, ?_, fun _ => ⟨?_, W.2.2.1, Int32.le_refl _, fun g hg => ?_⟩⟩
    · show NP_pat s ≤ NP_pat t0
      rw [f7]; exact Int32.le_trans a2 hpb
    · exact ⟨h0, W.2.1⟩
    · show NP_nodes t0 ≤ 2 * NP_pat t0 + 33 - d
      rw [f6, f7]; exact hR.2.2.2.2.1
    · show NP_nodes t0 ≤ 2 * NP_pat t0 + 2
      rw [f6, f7]; exact hnb
    · obtain ⟨g', k1, k2, k3, k4, k5⟩ := W.2.2.2.2.2.2.2 g hg
      refine ⟨g', k1, k2, W.2.2.2.2.1, k4, ?_, ?_, fun _ => ?_⟩
      · show (g' (gi (NP_nodes s))).1 + 2 ≤ rh d + 3
        rw [k3]; exact Nat.le_refl _
      · show NP_nodeKind _ (gi (NP_nodes s)) ≠ 4
        rw [W.2.2.2.1]; decide
      · show 1 ≤ upd (NP_nodeB t0) (gi (NP_nodes s)) (NP_nodeB t0 (gi (NP_nodes s)) + 1) (gi (NP_nodes s))
        rw [o_updE, f3, bb]; generalize NP_nodeB a (gi (NP_nodes s)) = b at hw0 hb41; clear a6 hR rb f9 a1 W hq3 bb j i k1 k2; grind
theorem ways_step {n : Nat} {rec : Int32 → SMT → SNP → Option (Int32 × SNP)} {d : Int32} {tc : SMT} {s : SNP} {z : Int32 × SNP} (hn : o_big ≤ n) (hI2 : I_MT tc) (hT2 : T_MT tc) (hd : 0 ≤ d ∧ d ≤ 30) (hrec : d ≠ 30 → WRec rec (d + 1) (rh d)) (h0 : 0 ≤ NP_nodes s) (h1 : NP_nodes s ≤ 15000) (hz : WI d s z) :
    o_ok (m_MM_ways_b9 n rec d (NP_nodes s) tc z) (fun q => (q.1 = 0 → WI d s q.2 ∧ wmu q.2 < wmu z) ∧ (q.1 ≠ 0 → PX 2 (rh d + 3) d s (NP_nodes s, q.2.2))) := by
  have hz0 := hz
  obtain ⟨a1, a2, a3, a4, a5, a6⟩ := hz
  unfold m_MM_ways_b9
  refine o_okB (s_MM_row hn hI2 hT2 hd hrec a1 a3 a4) ?_
  intro q2 hR
  obtain ⟨l, a⟩ := z
  obtain ⟨r, b⟩ := q2
  have hlt : NP_nodes s < NP_nodes b := Int32.lt_trans a6.2.1 hR.2.2.2.1
  refine o_okI (fun c => ?_) (fun c => ?_)
  · refine o_okI (fun c2 => ?_) (fun c2 => ?_)
    · have ll : l < NP_nodes a := by
        rcases a6.1 with h | h
        · have c2 : 0 ≤ l := c2
          have h : l = -1 := h
          rw [h] at c2; exact absurd c2 (by decide)
        · exact h.2
      have na : NP_nodes a ≤ 15000 := (sc_NP a1).2.2.2.2.1
      refine o_okG (o_inM (m := 16000) rfl c2 (Int32.lt_of_lt_of_le ll (Int32.le_trans na (by decide)))) ?_
      exact ways_j48 hI2 hT2 hd hz0 h0 h1 hR c rfl (if_pos c2).symm rfl rfl (if_pos c2).symm rfl rfl rfl hR.1
    · refine o_okG (o_inM (m := 16000) rfl h0 (Int32.lt_of_le_of_lt h1 (by decide))) ?_
      exact ways_j48 hI2 hT2 hd hz0 h0 h1 hR c rfl (if_neg c2).symm rfl rfl (if_neg c2).symm rfl rfl rfl hR.1
  · refine o_stop ⟨hR.1, Int32.le_trans a2 hR.2.1, ⟨h0, hlt⟩, Int32.le_of_lt hlt, hR.2.2.2.2.1, fun e => absurd e c⟩
theorem ways_W0 {d : Int32} {s q : SNP} (hd : 0 ≤ d ∧ d ≤ 30) (h0 : 0 ≤ NP_nodes s) (h1 : NP_nodes s ≤ 15000) (hM : ADM s q 5 (-1) 0 0) (lt1 : NP_nodes s < NP_nodes q) : WG d s (NP_nodes s) (-1) q ∧ NP_nodeB q (gi (NP_nodes s)) = 0 := by
  have hr := rh_b hd
  have hB : NP_nodeB q (gi (NP_nodes s)) = 0 := by rw [hM.2.2.1]; exact o_updE
  refine ⟨⟨Or.inl rfl, lt1, ADM_XN h0 h1 hM, ?_, ?_, ?_, fun _ => hB, fun g hg => ?_⟩, hB⟩
  · rw [hM.1]; exact o_updE
  · rw [hM.2.2.2.2.1]; exact o_updE
  · rw [hB]; decide
  · obtain ⟨g1, g2⟩ := ADM_G (v := (rh d + 1, rh d + 3, 0, 0)) h0 h1 hM hg ⟨by show rh d + 1 < rh d + 3; omega, by show rh d + 3 ≤ 100; omega⟩ ⟨by decide, by decide⟩ (fun e => absurd e (by decide)) (fun _ => ⟨rfl, by decide, by decide⟩) (fun e => absurd e (by decide)) (fun e => absurd e (by decide))
    refine ⟨_, g1, g2, ?_, ?_, fun z => absurd rfl z⟩
    · rw [gupE]
    · rw [gupE]
def WPx (d : Int32) (s : SNP) (q : Nat × (Int32 × SNP)) : Prop := PX 2 (rh d + 3) d s (NP_nodes s, q.2.2)
theorem ways_st {n : Nat} {rec : Int32 → SMT → SNP → Option (Int32 × SNP)} {d : Int32} {tc : SMT} {s : SNP} (hn : o_big ≤ n) (hI2 : I_MT tc) (hT2 : T_MT tc) (hd : 0 ≤ d ∧ d ≤ 30) (hrec : d ≠ 30 → WRec rec (d + 1) (rh d)) (h0 : 0 ≤ NP_nodes s) (h1 : NP_nodes s ≤ 15000) (z : Int32 × SNP) (hz : WI d s z) :
    o_ok (m_MM_ways_b9 n rec d (NP_nodes s) tc z) (fun q => (q.1 = 0 → WI d s q.2 ∧ wmu q.2 < wmu z) ∧ (q.1 ≠ 0 → WPx d s q)) := by
  obtain ⟨r, e, h⟩ := ways_step hn hI2 hT2 hd hrec h0 h1 hz
  exact ⟨r, e, h.1, h.2⟩
theorem ways_loop {n : Nat} {rec : Int32 → SMT → SNP → Option (Int32 × SNP)} {d : Int32} {tc : SMT} {s : SNP} {z : Int32 × SNP} (hn : o_big ≤ n) (hI2 : I_MT tc) (hT2 : T_MT tc) (hd : 0 ≤ d ∧ d ≤ 30) (hrec : d ≠ 30 → WRec rec (d + 1) (rh d)) (h0 : 0 ≤ NP_nodes s) (h1 : NP_nodes s ≤ 15000) (hz : WI d s z) :
    o_ok (o_lp n (m_MM_ways_b9 n rec d (NP_nodes s) tc) z) (fun q => q.1 ≠ 0 ∧ WPx d s q) := by
  have hμ : wmu z < o_big := wmuB
  have st := ways_st (n := n) (rec := rec) (tc := tc) hn hI2 hT2 hd hrec h0 h1
  generalize hf : m_MM_ways_b9 n rec d (NP_nodes s) tc = f at st ⊢
  exact o_lpR (WI d s) wmu hn hμ hz st
theorem s_MM_ways_F {n : Nat} {rec : Int32 → SMT → SNP → Option (Int32 × SNP)} {d : Int32} {tc : SMT} {s : SNP} (hn : o_big ≤ n) (hI2 : I_MT tc) (hT2 : T_MT tc) (hd : 0 ≤ d ∧ d ≤ 30) (hrec : d ≠ 30 → WRec rec (d + 1) (rh d)) (hI : I_NP s) (hb : NP_broken s = 0) (hm : NP_nodes s ≤ 2 * NP_pat s) : o_ok (m_MM_ways_F n rec d tc s) (PX 2 (rh d + 3) d s) := by
  have i := sc_NP hI
  have p0 : NP_nodes s < 15000 := by clear hI hrec; grind
  unfold m_MM_ways_F
  refine o_okB (s_MM_node hI p0) ?_
  intro q ⟨a1, a2, a3, a4, a5, a6, a7⟩
  have n1 := (ADN_n a2).1
  have lt1 : NP_nodes s < NP_nodes q.2 := by rw [n1]; clear hI hrec a2 a3; grind
  obtain ⟨W0, hB⟩ := ways_W0 hd i.2.2.2.1 i.2.2.2.2.1 (ADN_M a2) lt1
  have w1 : NP_nodes q.2 ≤ 2 * NP_pat q.2 + 1 := by rw [n1, a5]; clear hI hrec a2 a3 hB W0; grind
  have w2 : NP_nodeB q.2 (gi (NP_nodes s)) ≤ NP_pat q.2 := by rw [hB, a5]; exact i.1
  have w3 : NP_pat s ≤ NP_pat q.2 := by rw [a5]; exact Int32.le_refl _
  have w4 : NP_broken q.2 = 0 := by rw [a6]; exact hb
  rw [a1]
  refine o_okB (ways_loop hn hI2 hT2 hd hrec i.2.2.2.1 i.2.2.2.2.1 (show WI d s ((-1:Int32), q.2) from ⟨a3, w3, w4, w1, w2, W0⟩)) ?_
  intro q4 hp
  exact o_okI (fun _ => o_okS hp.2) (fun _ => o_okS hp.2)
theorem s_MM_ways {n : Nat} (hn : o_big ≤ n) : ∀ (k : Nat) (d : Int32), 0 ≤ d → d ≤ 30 → 31 ≤ d.toInt + k → WRec (m_MM_ways n k) d (rh d + 3) := by
  intro k
  induction k with
  | zero =>
    intro d h0 h1 hk
    have h1 := Int32.le_iff_toInt_le.mp h1
    have z1 : (30 : Int32).toInt = 30 := rfl
    rw [z1] at h1
    exfalso; omega
  | succ k ih =>
    intro d h0 h1 hk tc s hI2 hT2 hI hb hm
    show o_ok (m_MM_ways_F n (m_MM_ways n k) d tc s) _
    refine s_MM_ways_F hn hI2 hT2 ⟨h0, h1⟩ (fun hne => ?_) hI hb hm
    have hlt : d < 30 := by clear ih hI hI2 hT2; grind
    have e := rh_s h0 hlt
    have e1 := o_add1 (x := d) (Int32.lt_trans hlt (by decide))
    rw [← e]
    exact ih (d + 1) (by clear ih hI hI2 hT2; grind) (by clear ih hI hI2 hT2; grind) (by rw [e1]; omega)
