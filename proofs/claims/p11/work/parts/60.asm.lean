/-! What the two sides owe each other -/
abbrev pp_T : Type := SSJ → STx → STx → SRd → SPg → SPt → SMk → SLk → SCk → SJd → SLd → SPr → Nat → SNI → SNP → SNO → SNX → SNF → SNA → SNH → SNQ → SNJ → SMT → SMT → Nat → Prop
def pp_feed (P : pp_T) : Prop := ∀ (Sj : SSJ) (T0 : STx) (T1 : STx) (Rd : SRd) (Pg : SPg) (Pt : SPt) (Mk : SMk) (Lk : SLk) (Ck : SCk) (Jd : SJd) (Ld : SLd) (Pr : SPr) (rt : Nat) (Ni : SNI) (Np : SNP) (No : SNO) (Nx : SNX) (Nf : SNF) (Na : SNA) (Nh : SNH) (Nq : SNQ) (Nj : SNJ) (M0 : SMT) (M1 : SMT) (rt2 : Nat) (y1 : Int32) (y2 : Int32) (y3 : Int32) (y4 : Int32) (y5 : Int32), P Sj T0 T1 Rd Pg Pt Mk Lk Ck Jd Ld Pr rt Ni Np No Nx Nf Na Nh Nq Nj M0 M1 rt2 → ∃ (ex : Nat) (v : Int32) (Rd' : SRd) (v2 : Int32) (Ni' : SNI), m_SJ_feed y1 y2 y3 y4 y5 Rd = some (ex, v, Rd') ∧ (ex = 0 ∨ ex = 1) ∧ m_MM_feed o_big y1 y2 y3 y4 y5 Ni = some (v2, Ni') ∧ m_MM_thrown Ni' = some (if ex = 0 then (0:Int32) else 1) ∧ (ex = 0 → v.toInt64 = v2.toInt64) ∧ P Sj T0 T1 Rd' Pg Pt Mk Lk Ck Jd Ld Pr rt Ni' Np No Nx Nf Na Nh Nq Nj M0 M1 rt2
def pp_end (P : pp_T) : Prop := ∀ (Sj : SSJ) (T0 : STx) (T1 : STx) (Rd : SRd) (Pg : SPg) (Pt : SPt) (Mk : SMk) (Lk : SLk) (Ck : SCk) (Jd : SJd) (Ld : SLd) (Pr : SPr) (rt : Nat) (Ni : SNI) (Np : SNP) (No : SNO) (Nx : SNX) (Nf : SNF) (Na : SNA) (Nh : SNH) (Nq : SNQ) (Nj : SNJ) (M0 : SMT) (M1 : SMT) (rt2 : Nat) (y1 : Int32) (y2 : Int32), (y1 = 0 ∨ y1 = 1) → P Sj T0 T1 Rd Pg Pt Mk Lk Ck Jd Ld Pr rt Ni Np No Nx Nf Na Nh Nq Nj M0 M1 rt2 → ∃ (ex : Nat) (v : Int32) (T0' : STx) (T1' : STx) (Rd' : SRd) (Ck' : SCk) (Sj' : SSJ) (rt' : Nat) (v2 : Int32) (M0' : SMT) (M1' : SMT) (Ni' : SNI) (Nf' : SNF), m_SJ_end o_big rt y1 y2 T0 T1 Rd Ck Sj = some (ex, v, T0', T1', Rd', Ck', Sj', rt') ∧ (ex = 0 ∨ ex = 1 ∨ ex = 2) ∧ m_MM_end o_big y1 y2 M0 M1 Ni Nf = some (v2, M0', M1', Ni', Nf') ∧ P Sj' T0' T1' Rd' Pg Pt Mk Lk Ck' Jd Ld Pr rt' Ni' Np No Nx Nf' Na Nh Nq Nj M0' M1' rt2
def pp_wrong (P : pp_T) : Prop := ∀ (Sj : SSJ) (T0 : STx) (T1 : STx) (Rd : SRd) (Pg : SPg) (Pt : SPt) (Mk : SMk) (Lk : SLk) (Ck : SCk) (Jd : SJd) (Ld : SLd) (Pr : SPr) (rt : Nat) (Ni : SNI) (Np : SNP) (No : SNO) (Nx : SNX) (Nf : SNF) (Na : SNA) (Nh : SNH) (Nq : SNQ) (Nj : SNJ) (M0 : SMT) (M1 : SMT) (rt2 : Nat), P Sj T0 T1 Rd Pg Pt Mk Lk Ck Jd Ld Pr rt Ni Np No Nx Nf Na Nh Nq Nj M0 M1 rt2 → ∃ (v : Int32) (v2 : Int32) (Ni' : SNI), m_SJ_wrong Sj = some v ∧ m_MM_wrong Ni = some (v2, Ni') ∧ P Sj T0 T1 Rd Pg Pt Mk Lk Ck Jd Ld Pr rt Ni' Np No Nx Nf Na Nh Nq Nj M0 M1 rt2
def pp_check (P : pp_T) : Prop := ∀ (Sj : SSJ) (T0 : STx) (T1 : STx) (Rd : SRd) (Pg : SPg) (Pt : SPt) (Mk : SMk) (Lk : SLk) (Ck : SCk) (Jd : SJd) (Ld : SLd) (Pr : SPr) (rt : Nat) (Ni : SNI) (Np : SNP) (No : SNO) (Nx : SNX) (Nf : SNF) (Na : SNA) (Nh : SNH) (Nq : SNQ) (Nj : SNJ) (M0 : SMT) (M1 : SMT) (rt2 : Nat), P Sj T0 T1 Rd Pg Pt Mk Lk Ck Jd Ld Pr rt Ni Np No Nx Nf Na Nh Nq Nj M0 M1 rt2 → ∃ (ex : Nat) (v : Int32) (Pg' : SPg) (Pt' : SPt) (Mk' : SMk) (Lk' : SLk) (Ck' : SCk) (v2 : Int32) (Ni' : SNI) (Np' : SNP) (No' : SNO) (Nf' : SNF) (Na' : SNA) (Nh' : SNH) (rt2' : Nat), m_SJ_check o_big T0 Pg Pt Mk Lk Ck = some (ex, v, Pg', Pt', Mk', Lk', Ck') ∧ (ex = 0 ∨ ex = 3) ∧ m_MM_check o_big M0 Ni Np No Nf Na Nh rt2 = some (v2, Ni', Np', No', Nf', Na', Nh', rt2') ∧ P Sj T0 T1 Rd Pg' Pt' Mk' Lk' Ck' Jd Ld Pr rt Ni' Np' No' Nx Nf' Na' Nh' Nq Nj M0 M1 rt2'
def pp_fault (P : pp_T) : Prop := ∀ (Sj : SSJ) (T0 : STx) (T1 : STx) (Rd : SRd) (Pg : SPg) (Pt : SPt) (Mk : SMk) (Lk : SLk) (Ck : SCk) (Jd : SJd) (Ld : SLd) (Pr : SPr) (rt : Nat) (Ni : SNI) (Np : SNP) (No : SNO) (Nx : SNX) (Nf : SNF) (Na : SNA) (Nh : SNH) (Nq : SNQ) (Nj : SNJ) (M0 : SMT) (M1 : SMT) (rt2 : Nat), P Sj T0 T1 Rd Pg Pt Mk Lk Ck Jd Ld Pr rt Ni Np No Nx Nf Na Nh Nq Nj M0 M1 rt2 → ∃ (v : Int32) (v2 : Int32) (Ni' : SNI), m_SJ_fault Ck = some v ∧ m_MM_fault_1 Ni Nf = some (v2, Ni') ∧ P Sj T0 T1 Rd Pg Pt Mk Lk Ck Jd Ld Pr rt Ni' Np No Nx Nf Na Nh Nq Nj M0 M1 rt2
def pp_validate (P : pp_T) : Prop := ∀ (Sj : SSJ) (T0 : STx) (T1 : STx) (Rd : SRd) (Pg : SPg) (Pt : SPt) (Mk : SMk) (Lk : SLk) (Ck : SCk) (Jd : SJd) (Ld : SLd) (Pr : SPr) (rt : Nat) (Ni : SNI) (Np : SNP) (No : SNO) (Nx : SNX) (Nf : SNF) (Na : SNA) (Nh : SNH) (Nq : SNQ) (Nj : SNJ) (M0 : SMT) (M1 : SMT) (rt2 : Nat), P Sj T0 T1 Rd Pg Pt Mk Lk Ck Jd Ld Pr rt Ni Np No Nx Nf Na Nh Nq Nj M0 M1 rt2 → ∃ (ex : Nat) (v : Int32) (Pg' : SPg) (Pt' : SPt) (Ld' : SLd) (Pr' : SPr) (Jd' : SJd) (v2 : Int32) (M1' : SMT) (Ni' : SNI) (Np' : SNP) (No' : SNO) (Nx' : SNX) (Nq' : SNQ) (Nj' : SNJ) (rt2' : Nat), m_SJ_validate o_big T0 T1 Pg Pt Mk Ck Ld Pr Jd = some (ex, v, Pg', Pt', Ld', Pr', Jd') ∧ (ex = 0 ∨ ex = 3 ∨ ex = 4) ∧ m_MM_validate o_big M0 M1 Ni Np No Nx Nf Na Nq Nj rt2 = some (v2, M1', Ni', Np', No', Nx', Nq', Nj', rt2') ∧ P Sj T0 T1 Rd Pg' Pt' Mk Lk Ck Jd' Ld' Pr' rt Ni' Np' No' Nx' Nf Na Nh Nq' Nj' M0 M1' rt2'
def pp_pairs (P : pp_T) : Prop := ∀ (Sj : SSJ) (T0 : STx) (T1 : STx) (Rd : SRd) (Pg : SPg) (Pt : SPt) (Mk : SMk) (Lk : SLk) (Ck : SCk) (Jd : SJd) (Ld : SLd) (Pr : SPr) (rt : Nat) (Ni : SNI) (Np : SNP) (No : SNO) (Nx : SNX) (Nf : SNF) (Na : SNA) (Nh : SNH) (Nq : SNQ) (Nj : SNJ) (M0 : SMT) (M1 : SMT) (rt2 : Nat), P Sj T0 T1 Rd Pg Pt Mk Lk Ck Jd Ld Pr rt Ni Np No Nx Nf Na Nh Nq Nj M0 M1 rt2 → ∃ (v : Int32) (v2 : Int32) (Ni' : SNI), m_SJ_pairs Pr = some v ∧ m_MM_pairs Ni Nq = some (v2, Ni') ∧ P Sj T0 T1 Rd Pg Pt Mk Lk Ck Jd Ld Pr rt Ni' Np No Nx Nf Na Nh Nq Nj M0 M1 rt2
def pp_pair (P : pp_T) : Prop := ∀ (Sj : SSJ) (T0 : STx) (T1 : STx) (Rd : SRd) (Pg : SPg) (Pt : SPt) (Mk : SMk) (Lk : SLk) (Ck : SCk) (Jd : SJd) (Ld : SLd) (Pr : SPr) (rt : Nat) (Ni : SNI) (Np : SNP) (No : SNO) (Nx : SNX) (Nf : SNF) (Na : SNA) (Nh : SNH) (Nq : SNQ) (Nj : SNJ) (M0 : SMT) (M1 : SMT) (rt2 : Nat) (y1 : Int32) (y2 : Int32), (y2 = 0 ∨ y2 = 1) → P Sj T0 T1 Rd Pg Pt Mk Lk Ck Jd Ld Pr rt Ni Np No Nx Nf Na Nh Nq Nj M0 M1 rt2 → ∃ (ex : Nat) (v : Int32) (v2 : Int32) (Ni' : SNI), m_SJ_pair y1 y2 Pr = some (ex, v) ∧ (ex = 0 ∨ ex = 1) ∧ m_MM_pair_1 y1 y2 Ni Nq = some (v2, Ni') ∧ P Sj T0 T1 Rd Pg Pt Mk Lk Ck Jd Ld Pr rt Ni' Np No Nx Nf Na Nh Nq Nj M0 M1 rt2
def pp_value (P : pp_T) : Prop := ∀ (Sj : SSJ) (T0 : STx) (T1 : STx) (Rd : SRd) (Pg : SPg) (Pt : SPt) (Mk : SMk) (Lk : SLk) (Ck : SCk) (Jd : SJd) (Ld : SLd) (Pr : SPr) (rt : Nat) (Ni : SNI) (Np : SNP) (No : SNO) (Nx : SNX) (Nf : SNF) (Na : SNA) (Nh : SNH) (Nq : SNQ) (Nj : SNJ) (M0 : SMT) (M1 : SMT) (rt2 : Nat) (y1 : Int32) (y2 : Int32) (y3 : Int32), (y1 = 0 ∨ y1 = 1) → P Sj T0 T1 Rd Pg Pt Mk Lk Ck Jd Ld Pr rt Ni Np No Nx Nf Na Nh Nq Nj M0 M1 rt2 → ∃ (ex : Nat) (v : Int32) (v2 : Int32) (Ni' : SNI), m_SJ_value y1 y2 y3 T0 T1 = some (ex, v) ∧ (ex = 0 ∨ ex = 1 ∨ ex = 2) ∧ m_MM_value y1 y2 y3 M0 M1 Ni = some (v2, Ni') ∧ P Sj T0 T1 Rd Pg Pt Mk Lk Ck Jd Ld Pr rt Ni' Np No Nx Nf Na Nh Nq Nj M0 M1 rt2
def pp_alike (P : pp_T) : Prop := ∀ (Sj : SSJ) (T0 : STx) (T1 : STx) (Rd : SRd) (Pg : SPg) (Pt : SPt) (Mk : SMk) (Lk : SLk) (Ck : SCk) (Jd : SJd) (Ld : SLd) (Pr : SPr) (rt : Nat) (Ni : SNI) (Np : SNP) (No : SNO) (Nx : SNX) (Nf : SNF) (Na : SNA) (Nh : SNH) (Nq : SNQ) (Nj : SNJ) (M0 : SMT) (M1 : SMT) (rt2 : Nat) (y1 : Int32) (y2 : Int32), P Sj T0 T1 Rd Pg Pt Mk Lk Ck Jd Ld Pr rt Ni Np No Nx Nf Na Nh Nq Nj M0 M1 rt2 → ∃ (ex : Nat) (v : Int32) (v2 : Int32) (Ni' : SNI), m_SJ_alike o_big y1 y2 T1 = some (ex, v) ∧ (ex = 0 ∨ ex = 1) ∧ m_MM_alike o_big y1 y2 M1 Ni = some (v2, Ni') ∧ P Sj T0 T1 Rd Pg Pt Mk Lk Ck Jd Ld Pr rt Ni' Np No Nx Nf Na Nh Nq Nj M0 M1 rt2
def pp_matches (P : pp_T) : Prop := ∀ (Sj : SSJ) (T0 : STx) (T1 : STx) (Rd : SRd) (Pg : SPg) (Pt : SPt) (Mk : SMk) (Lk : SLk) (Ck : SCk) (Jd : SJd) (Ld : SLd) (Pr : SPr) (rt : Nat) (Ni : SNI) (Np : SNP) (No : SNO) (Nx : SNX) (Nf : SNF) (Na : SNA) (Nh : SNH) (Nq : SNQ) (Nj : SNJ) (M0 : SMT) (M1 : SMT) (rt2 : Nat) (y1 : Int32) (y2 : Int32), P Sj T0 T1 Rd Pg Pt Mk Lk Ck Jd Ld Pr rt Ni Np No Nx Nf Na Nh Nq Nj M0 M1 rt2 → ∃ (ex : Nat) (v : Int32) (Pg' : SPg) (Pt' : SPt) (v2 : Int32) (Ni' : SNI) (Np' : SNP) (No' : SNO) (Nx' : SNX) (rt2' : Nat), m_SJ_matches o_big y1 y2 T1 Pg Pt = some (ex, v, Pg', Pt') ∧ (ex = 0 ∨ ex = 1 ∨ ex = 2) ∧ m_MM_matches_1 o_big y1 y2 M1 Ni Np No Nx rt2 = some (v2, Ni', Np', No', Nx', rt2') ∧ P Sj T0 T1 Rd Pg' Pt' Mk Lk Ck Jd Ld Pr rt Ni' Np' No' Nx' Nf Na Nh Nq Nj M0 M1 rt2'
def pp_count (P : pp_T) : Prop := ∀ (Sj : SSJ) (T0 : STx) (T1 : STx) (Rd : SRd) (Pg : SPg) (Pt : SPt) (Mk : SMk) (Lk : SLk) (Ck : SCk) (Jd : SJd) (Ld : SLd) (Pr : SPr) (rt : Nat) (Ni : SNI) (Np : SNP) (No : SNO) (Nx : SNX) (Nf : SNF) (Na : SNA) (Nh : SNH) (Nq : SNQ) (Nj : SNJ) (M0 : SMT) (M1 : SMT) (rt2 : Nat) (y1 : Int32), P Sj T0 T1 Rd Pg Pt Mk Lk Ck Jd Ld Pr rt Ni Np No Nx Nf Na Nh Nq Nj M0 M1 rt2 → ∃ (ex : Nat) (v : Int32) (v2 : Int32) (Ni' : SNI), m_SJ_count y1 T0 T1 Jd = some (ex, v) ∧ (ex = 0 ∨ ex = 2) ∧ m_MM_count y1 M0 M1 Ni Nj = some (v2, Ni') ∧ P Sj T0 T1 Rd Pg Pt Mk Lk Ck Jd Ld Pr rt Ni' Np No Nx Nf Na Nh Nq Nj M0 M1 rt2
def pp_all (P : pp_T) : Prop := pp_feed P ∧ pp_end P ∧ pp_wrong P ∧ pp_check P ∧ pp_fault P ∧ pp_validate P ∧ pp_pairs P ∧ pp_pair P ∧ pp_value P ∧ pp_alike P ∧ pp_matches P ∧ pp_count P
theorem c_addWord {x1 : Int32} {Rd : SRd} : o_pc (m_Rd_addWord x1 Rd) (fun r => Rd_wordCount Rd < 2050 → Rd_wordCount r = Rd_wordCount Rd + 1) := by
  unfold m_Rd_addWord
  exact pcI (fun c => pcS (fun d => absurd c (Int32.not_le.mpr d))) (fun _ => pcG (fun _ => pcS (fun _ => rfl)))
theorem ex_SJ_feed {x1 x2 x3 x4 x5 : Int32} {Rd : SRd} (h : I_Rd Rd) : o_pc (m_SJ_feed x1 x2 x3 x4 x5 Rd) (fun r => (r.1 = 1 ∧ 2050 < Rd_wordCount Rd + 5 ∧ r.2.2 = Rd) ∨ (r.1 = 0 ∧ Rd_wordCount Rd + 5 ≤ 2050 ∧ Rd_wordCount r.2.2 = Rd_wordCount Rd + 5 ∧ r.2.1 = Rd_wordCount r.2.2 * 4)) := by
  have i0 : 0 ≤ Rd_wordCount Rd := h.1
  have i1 : Rd_wordCount Rd ≤ 2050 := h.2
  have hr : o_pc (m_Rd_hasRoom Rd) (fun r => (r = 0 ∧ 2050 < Rd_wordCount Rd + 5) ∨ (r = 1 ∧ Rd_wordCount Rd + 5 ≤ 2050)) := by
    unfold m_Rd_hasRoom
    exact pcI (fun c => pcS (Or.inl ⟨rfl, c⟩)) (fun c => pcS (Or.inr ⟨rfl, Int32.not_lt.mp c⟩))
  unfold m_SJ_feed
  refine pcB hr (fun q1 h1 => pcI (fun e => pcS (Or.inl ⟨rfl, ?_, rfl⟩)) (fun ne => ?_))
  · rcases h1 with c | c
    · exact c.2
    · rw [c.1] at e; exact absurd e (by decide)
  have c5 : Rd_wordCount Rd + 5 ≤ 2050 := by
    rcases h1 with c | c
    · exact absurd c.1 ne
    · exact c.2
  refine pcB c_addWord (fun q2 h2 => pcB c_addWord (fun q3 h3 => pcB c_addWord (fun q4 h4 => pcB c_addWord (fun q5 h5 => pcB c_addWord (fun q6 h6 => ?_)))))
  unfold m_Rd_octets
  refine pcE (fun q7 e7 => pcS (Or.inr ⟨rfl, c5, ?_, ?_⟩))
  · show Rd_wordCount q6 = _
    generalize Rd_wordCount Rd = a at *
    generalize Rd_wordCount q2 = b at *
    generalize Rd_wordCount q3 = c at *
    generalize Rd_wordCount q4 = d at *
    generalize Rd_wordCount q5 = e at *
    generalize Rd_wordCount q6 = f at *
    clear h hr
    have e2 := h2 (by grind)
    have e3 := h3 (by grind)
    have e4 := h4 (by grind)
    have e5 := h5 (by grind)
    have e6 := h6 (by grind)
    grind
  · cases e7
    rfl
theorem c_Rd_read {n : Nat} {x2 : Int32} {a1 : STx} {Rd : SRd} : o_pc (m_Rd_read n x2 a1 Rd) (fun r => Rd_wordCount r.2.2 = 0) := by
  have j : ∀ (a : STx) (R : SRd), o_pc (m_Rd_read_j63 n a R) (fun r => Rd_wordCount r.2.2 = 0) := by
    intro a R
    unfold m_Rd_read_j63
    exact pcI (fun _ => pcS rfl) (fun _ => pcX (fun _ => pcS rfl))
  unfold m_Rd_read
  exact pcX (fun _ => pcX (fun _ => pcI (fun _ => j _ _) (fun _ => pcX (fun _ => pcI (fun _ => j _ _) (fun _ => pcX (fun _ => j _ _))))))
def EPc (x2 : Int32) (Rd : SRd) (r : Nat × Int32 × STx × STx × SRd × SCk × SSJ × Nat) : Prop := (r.1 = 0 ∨ r.1 = 1 ∨ r.1 = 2) ∧ Rd_wordCount r.2.2.2.2.1 = (if 0 ≤ x2 ∧ x2 ≤ 8192 ∧ x2 ≤ Rd_wordCount Rd * 4 then 0 else Rd_wordCount Rd)
theorem ex_SJ_end {n rt : Nat} {x1 x2 : Int32} {T0 T1 : STx} {Rd : SRd} {Ck : SCk} {Sj : SSJ} : o_pc (m_SJ_end n rt x1 x2 T0 T1 Rd Ck Sj) (EPc x2 Rd) := by
  have j22 : ¬ (0 ≤ x2 ∧ x2 ≤ 8192 ∧ x2 ≤ Rd_wordCount Rd * 4) → o_pc (m_SJ_end_j22 n rt T0 T1 Rd Ck Sj) (EPc x2 Rd) := by
    intro h
    unfold m_SJ_end_j22
    exact pcS ⟨Or.inr (Or.inl rfl), by rw [if_neg h]⟩
  have j43 : (0 ≤ x2 ∧ x2 ≤ 8192 ∧ x2 ≤ Rd_wordCount Rd * 4) → ∀ Ck : SCk, o_pc (m_SJ_end_j43 n rt x1 x2 T0 T1 Rd Ck Sj) (EPc x2 Rd) := by
    intro h Ck
    unfold m_SJ_end_j43
    refine pcI (fun _ => ?_) (fun _ => ?_)
    · unfold m_SJ_end_j58
      exact pcB c_Rd_read (fun q hq => pcI (fun _ => pcX (fun _ => pcS ⟨Or.inl rfl, by rw [if_pos h]; exact hq⟩)) (fun _ => pcS ⟨Or.inr (Or.inr rfl), by rw [if_pos h]; exact hq⟩))
    · unfold m_SJ_end_j58v4
      exact pcB c_Rd_read (fun q hq => pcI (fun _ => pcX (fun _ => pcS ⟨Or.inl rfl, by rw [if_pos h]; exact hq⟩)) (fun _ => pcS ⟨Or.inr (Or.inr rfl), by rw [if_pos h]; exact hq⟩))
  unfold m_SJ_end
  refine pcI (fun c => j22 (fun d => absurd d.1 (Int32.not_le.mpr c))) (fun c1 => pcI (fun c => j22 (fun d => absurd d.2.1 (Int32.not_le.mpr c))) (fun c2 => ?_))
  unfold m_Rd_octets
  refine pcE (fun q1 e1 => ?_)
  have e1 : Rd_wordCount Rd * 4 = q1 := Option.some.inj e1
  rw [← e1]
  refine pcI (fun c => ?_) (fun c => j22 (fun d => absurd d.2.2 c))
  have hc : 0 ≤ x2 ∧ x2 ≤ 8192 ∧ x2 ≤ Rd_wordCount Rd * 4 := ⟨Int32.not_lt.mp c1, Int32.not_lt.mp c2, c⟩
  exact pcI (fun _ => j43 hc _) (fun _ => pcX (fun _ => j43 hc _))
theorem ex_SJ_check {n : Nat} {T0 : STx} {Pg : SPg} {Pt : SPt} {Mk : SMk} {Lk : SLk} {Ck : SCk} : o_pc (m_SJ_check n T0 Pg Pt Mk Lk Ck) (fun r => r.1 = 0 ∨ r.1 = 3) := by
  unfold m_SJ_check
  exact pcX (fun _ => pcI (fun _ => pcS (Or.inr rfl)) (fun _ => pcX (fun _ => pcS (Or.inl rfl))))
theorem ex_SJ_validate {n : Nat} {T0 T1 : STx} {Pg : SPg} {Pt : SPt} {Mk : SMk} {Ck : SCk} {Ld : SLd} {Pr : SPr} {Jd : SJd} : o_pc (m_SJ_validate n T0 T1 Pg Pt Mk Ck Ld Pr Jd) (fun r => r.1 = 0 ∨ r.1 = 3 ∨ r.1 = 4) := by
  have j : o_pc (m_SJ_validate_j20 n T0 T1 Pg Pt Mk Ck Ld Pr Jd) (fun r => r.1 = 0 ∨ r.1 = 3 ∨ r.1 = 4) := by
    unfold m_SJ_validate_j20
    exact pcS (Or.inr (Or.inl rfl))
  unfold m_SJ_validate
  exact pcX (fun _ => pcI (fun _ => j) (fun _ => pcX (fun _ => pcI (fun _ => j) (fun _ => pcX (fun _ => pcX (fun _ => pcX (fun _ => pcX (fun _ => pcI (fun _ => pcG (fun _ => pcS (Or.inl rfl))) (fun _ => pcS (Or.inr (Or.inr rfl)))))))))))
theorem ex_SJ_pair {x1 x2 : Int32} {Pr : SPr} : o_pc (m_SJ_pair x1 x2 Pr) (fun r => r.1 = 0 ∨ r.1 = 1) := by
  unfold m_SJ_pair
  exact pcI (fun _ => pcS (Or.inr rfl)) (fun _ => pcX (fun _ => pcI (fun _ => pcX (fun _ => pcS (Or.inl rfl))) (fun _ => pcS (Or.inr rfl))))
theorem ex_SJ_value {x1 x2 x3 : Int32} {T0 T1 : STx} : o_pc (m_SJ_value x1 x2 x3 T0 T1) (fun r => r.1 = 0 ∨ r.1 = 1 ∨ r.1 = 2) := by
  have j9 : o_pc (m_SJ_value_j9 T0 T1) (fun r => r.1 = 0 ∨ r.1 = 1 ∨ r.1 = 2) := pcS (Or.inr (Or.inr rfl))
  unfold m_SJ_value
  refine pcI (fun _ => j9) (fun _ => pcI (fun _ => pcI (fun _ => ?_) (fun _ => ?_)) (fun _ => j9))
  · unfold m_SJ_value_j34
    refine pcX (fun _ => pcI (fun _ => pcS (Or.inr (Or.inl rfl))) (fun _ => ?_))
    iterate 4 refine pcI (fun _ => pcX (fun _ => pcS (Or.inl rfl))) (fun _ => ?_)
    exact pcX (fun _ => pcS (Or.inl rfl))
  · unfold m_SJ_value_j34v7
    refine pcX (fun _ => pcI (fun _ => pcS (Or.inr (Or.inl rfl))) (fun _ => ?_))
    iterate 4 refine pcI (fun _ => pcX (fun _ => pcS (Or.inl rfl))) (fun _ => ?_)
    exact pcX (fun _ => pcS (Or.inl rfl))
theorem ex_SJ_alike {n : Nat} {x1 x2 : Int32} {T1 : STx} : o_pc (m_SJ_alike n x1 x2 T1) (fun r => r.1 = 0 ∨ r.1 = 1) := by
  have j : o_pc (m_SJ_alike_j22 n T1) (fun r => r.1 = 0 ∨ r.1 = 1) := pcS (Or.inr rfl)
  unfold m_SJ_alike
  exact pcX (fun _ => pcI (fun _ => j) (fun _ => pcX (fun _ => pcI (fun _ => j) (fun _ => pcX (fun _ => pcG (fun _ => pcS (Or.inl rfl)))))))
theorem ex_SJ_matches {n : Nat} {x1 x2 : Int32} {T1 : STx} {Pg : SPg} {Pt : SPt} : o_pc (m_SJ_matches n x1 x2 T1 Pg Pt) (fun r => r.1 = 0 ∨ r.1 = 1 ∨ r.1 = 2) := by
  have j22 : o_pc (m_SJ_matches_j22 n T1 Pg Pt) (fun r => r.1 = 0 ∨ r.1 = 1 ∨ r.1 = 2) := pcS (Or.inr (Or.inl rfl))
  have j56 : o_pc (m_SJ_matches_j56 n T1 Pg Pt) (fun r => r.1 = 0 ∨ r.1 = 1 ∨ r.1 = 2) := pcS (Or.inr (Or.inr rfl))
  have j91 : ∀ (Pg : SPg) (Pt : SPt), o_pc (m_SJ_matches_j91 n T1 Pg Pt) (fun r => r.1 = 0 ∨ r.1 = 1 ∨ r.1 = 2) := fun _ _ => pcS (Or.inr (Or.inr rfl))
  unfold m_SJ_matches
  exact pcX (fun _ => pcI (fun _ => j22) (fun _ => pcX (fun _ => pcI (fun _ => j22) (fun _ => pcX (fun _ => pcI (fun _ => pcX (fun _ => pcI (fun _ => pcX (fun _ => pcI (fun _ => j91 _ _) (fun _ => pcX (fun _ => pcI (fun _ => j91 _ _) (fun _ => pcX (fun _ => pcG (fun _ => pcS (Or.inl rfl)))))))) (fun _ => j56))) (fun _ => j56))))))
theorem ex_SJ_count {x1 : Int32} {T0 T1 : STx} {Jd : SJd} : o_pc (m_SJ_count x1 T0 T1 Jd) (fun r => r.1 = 0 ∨ r.1 = 2) := by
  unfold m_SJ_count
  iterate 4 refine pcI (fun _ => pcX (fun _ => pcS (Or.inl rfl))) (fun _ => ?_)
  exact pcS (Or.inr rfl)
/-- what holds of both sides between two calls -/
def PInv : pp_T := fun _ T0 T1 Rd Pg Pt _ Lk Ck Jd _ Pr _ Ni Np _ _ Nf Na _ Nq _ M0 M1 _ => (I_Tx T0 ∧ I_Tx T1 ∧ I_Rd Rd ∧ I_Pg Pg ∧ I_Pt Pt ∧ I_Lk Lk ∧ I_Ck Ck ∧ I_Pr Pr ∧ I_Jd Jd) ∧ (I_NI Ni ∧ NI_fed Ni = Rd_wordCount Rd * 4) ∧ I_NP Np ∧ (NF_checked Nf ≠ 0 → KVx M0 Na) ∧ I_NQ Nq ∧ GT M0 ∧ GT M1
theorem b_feed : pp_feed PInv := by
  intro Sj T0 T1 Rd Pg Pt Mk Lk Ck Jd Ld Pr rt Ni Np No Nx Nf Na Nh Nq Nj M0 M1 rt2 y1 y2 y3 y4 y5 hP
  obtain ⟨⟨a1, a2, a3, a4⟩, ⟨b1, b2⟩, b3⟩ := hP
  obtain ⟨r, e, hI, hp⟩ := o_okA (s_SJ_feed (x1 := y1) (x2 := y2) (x3 := y3) (x4 := y4) (x5 := y5) a3) (ex_SJ_feed a3)
  obtain ⟨r2, e2, f1, f2, f3⟩ := s_MM_feed (n := o_big) (x1 := y1) (x2 := y2) (x3 := y3) (x4 := y4) (x5 := y5) (Nat.le_refl _) b1
  have i0 : 0 ≤ Rd_wordCount Rd := a3.1
  have i1 : Rd_wordCount Rd ≤ 2050 := a3.2
  have iff1 : ∀ w : Int32, 0 ≤ w → w ≤ 2050 → (w + 5 ≤ 2050 → w * 4 + 20 ≤ 8200 ∧ w * 4 + 20 = (w + 5) * 4) ∧ (2050 < w + 5 → ¬ w * 4 + 20 ≤ 8200) := by
    intro w w0 w1
    refine ⟨fun h => ⟨?_, ?_⟩, fun h => ?_⟩ <;> grind
  obtain ⟨g1, g2⟩ := iff1 _ i0 i1
  rw [b2] at f1 f2
  have t : m_MM_thrown r2.2 = some (NI_err r2.2) := rfl
  rcases hp with ⟨p1, p2, p3⟩ | ⟨p1, p2, p3, p4⟩
  · obtain ⟨u1, u2⟩ := f2 (g2 p2)
    refine ⟨r.1, r.2.1, r.2.2, r2.1, r2.2, e, Or.inr p1, e2, ?_, fun c => absurd (p1.symm.trans c) (by decide), ⟨a1, a2, hI, a4⟩, ⟨f3, ?_⟩, b3⟩
    · rw [t, u2, p1]; rfl
    · rw [u1, p3]
  · obtain ⟨h1, h2⟩ := g1 p2
    obtain ⟨u1, u2, u3⟩ := f1 h1
    refine ⟨r.1, r.2.1, r.2.2, r2.1, r2.2, e, Or.inl p1, e2, ?_, fun _ => ?_, ⟨a1, a2, hI, a4⟩, ⟨f3, ?_⟩, b3⟩
    · rw [t, u2, p1]; rfl
    · rw [p4, u3, h2, p3]
    · rw [u1, h2, p3]
theorem b_end : pp_end PInv := by
  intro Sj T0 T1 Rd Pg Pt Mk Lk Ck Jd Ld Pr rt Ni Np No Nx Nf Na Nh Nq Nj M0 M1 rt2 y1 y2 hy hP
  obtain ⟨⟨a1, a2, a3, a4, a5, a6, a7, a8, a9⟩, ⟨b1, b2⟩, b3, b4, b5, b6, b7⟩ := hP
  obtain ⟨r, e, hI, hp, hw⟩ := o_okA (s_SJ_end (n := o_big) (rt := rt) (x1 := y1) (x2 := y2) (Sj := Sj) (Nat.le_refl _) a1 a2 a3 a7) ex_SJ_end
  obtain ⟨r2, e2, f1, f2, f3, f4, f5⟩ := s_MM_end (n := o_big) (x1 := y1) (x2 := y2) (Nf := Nf) (Nat.le_refl _) b6 b7 b1
  refine ⟨r.1, r.2.1, r.2.2.1, r.2.2.2.1, r.2.2.2.2.1, r.2.2.2.2.2.1, r.2.2.2.2.2.2.1, r.2.2.2.2.2.2.2, r2.1, r2.2.1, r2.2.2.1, r2.2.2.2.1, r2.2.2.2.2, e, hp, e2, ⟨hI.1, hI.2.1, hI.2.2.1, a4, a5, a6, hI.2.2.2, a8, a9⟩, ⟨f3, ?_⟩, b3, ?_, b5, f1, f2⟩
  · rw [f4, hw, b2]
    by_cases c : 0 ≤ y2 ∧ y2 ≤ 8192 ∧ y2 ≤ Rd_wordCount Rd * 4
    · rw [if_pos c, if_pos c]; rfl
    · rw [if_neg c, if_neg c]
  · intro c
    obtain ⟨c1, c2⟩ := f5 c
    rw [c2] at c
    rw [c1]
    exact b4 c
theorem b_wrong : pp_wrong PInv := by
  intro Sj T0 T1 Rd Pg Pt Mk Lk Ck Jd Ld Pr rt Ni Np No Nx Nf Na Nh Nq Nj M0 M1 rt2 hP
  obtain ⟨a, ⟨b1, b2⟩, b3⟩ := hP
  obtain ⟨r, e, _⟩ := s_SJ_wrong (Sj := Sj)
  obtain ⟨r2, e2, f1, f2⟩ := s_MM_wrong b1
  exact ⟨r, r2.1, r2.2, e, e2, a, ⟨f2, f1.trans b2⟩, b3⟩
theorem b_check : pp_check PInv := by
  intro Sj T0 T1 Rd Pg Pt Mk Lk Ck Jd Ld Pr rt Ni Np No Nx Nf Na Nh Nq Nj M0 M1 rt2 hP
  obtain ⟨⟨a1, a2, a3, a4, a5, a6, a7, a8, a9⟩, ⟨b1, b2⟩, b3, b4, b5, b6, b7⟩ := hP
  obtain ⟨r, e, hI, hp⟩ := o_okA (s_SJ_check (n := o_big) (Mk := Mk) (Nat.le_refl _) a1 a4 a5 a6 a7) ex_SJ_check
  obtain ⟨r2, e2, ⟨f1, f2⟩, f3, f4⟩ := s_MM_check (n := o_big) (No := No) (Nh := Nh) (rt := rt2) (Nat.le_refl _) b6.1 b6.2.1 b1 b3 b4
  exact ⟨r.1, r.2.1, r.2.2.1, r.2.2.2.1, r.2.2.2.2.1, r.2.2.2.2.2.1, r.2.2.2.2.2.2, r2.1, r2.2.1, r2.2.2.1, r2.2.2.2.1, r2.2.2.2.2.1, r2.2.2.2.2.2.1, r2.2.2.2.2.2.2.1, r2.2.2.2.2.2.2.2, e, hp, e2, ⟨a1, a2, a3, hI.1, hI.2.1, hI.2.2.1, hI.2.2.2, a8, a9⟩, ⟨f2, f1.trans b2⟩, f3, f4, b5, b6, b7⟩
theorem b_fault : pp_fault PInv := by
  intro Sj T0 T1 Rd Pg Pt Mk Lk Ck Jd Ld Pr rt Ni Np No Nx Nf Na Nh Nq Nj M0 M1 rt2 hP
  obtain ⟨a, ⟨b1, b2⟩, b3⟩ := hP
  obtain ⟨r, e, _⟩ := s_SJ_fault a.2.2.2.2.2.2.1
  obtain ⟨r2, e2, f1, f2⟩ := s_MM_fault_1 (Nf := Nf) b1
  exact ⟨r, r2.1, r2.2, e, e2, a, ⟨f2, f1.trans b2⟩, b3⟩
theorem b_validate : pp_validate PInv := by
  intro Sj T0 T1 Rd Pg Pt Mk Lk Ck Jd Ld Pr rt Ni Np No Nx Nf Na Nh Nq Nj M0 M1 rt2 hP
  obtain ⟨⟨a1, a2, a3, a4, a5, a6, a7, a8, a9⟩, ⟨b1, b2⟩, b3, b4, b5, b6, b7⟩ := hP
  obtain ⟨r, e, hI, hp⟩ := o_okA (s_SJ_validate (n := o_big) (Mk := Mk) (Ld := Ld) (Nat.le_refl _) a1 a2 a4 a5 a7 a8 a9) ex_SJ_validate
  obtain ⟨r2, e2, f1, ⟨f2, f3⟩, f4, f5⟩ := s_MM_validate (n := o_big) (No := No) (Nx := Nx) (Nj := Nj) (rt := rt2) (Nat.le_refl _) b6.1 b6.2.1 b7.1 b7.2.1 (IM_all (Nat.le_refl _) b6.1 b6.2.1 b6.2.2 b7.1 b7.2.1 b7.2.2) b4 b1 b3 b5
  have hD : DZ r2.2.1 := by
    obtain ⟨l, el⟩ := f1
    rw [el]
    exact b7.2.2
  exact ⟨r.1, r.2.1, r.2.2.1, r.2.2.2.1, r.2.2.2.2.1, r.2.2.2.2.2.1, r.2.2.2.2.2.2, r2.1, r2.2.1, r2.2.2.1, r2.2.2.2.1, r2.2.2.2.2.1, r2.2.2.2.2.2.1, r2.2.2.2.2.2.2.1, r2.2.2.2.2.2.2.2.1, r2.2.2.2.2.2.2.2.2, e, hp, e2, ⟨a1, a2, a3, hI.1, hI.2.1, a6, a7, hI.2.2.1, hI.2.2.2⟩, ⟨f3, f2.trans b2⟩, f4, b4, f5, b6, LF_I f1 b7.1, LF_T f1 b7.2.1, hD⟩
theorem b_pairs : pp_pairs PInv := by
  intro Sj T0 T1 Rd Pg Pt Mk Lk Ck Jd Ld Pr rt Ni Np No Nx Nf Na Nh Nq Nj M0 M1 rt2 hP
  obtain ⟨a, ⟨b1, b2⟩, b3⟩ := hP
  obtain ⟨r, e, _⟩ := s_SJ_pairs a.2.2.2.2.2.2.2.1
  obtain ⟨r2, e2, f1, f2⟩ := s_MM_pairs b1 b3.2.2.1
  exact ⟨r, r2.1, r2.2, e, e2, a, ⟨f2, f1.trans b2⟩, b3⟩
theorem b_pair : pp_pair PInv := by
  intro Sj T0 T1 Rd Pg Pt Mk Lk Ck Jd Ld Pr rt Ni Np No Nx Nf Na Nh Nq Nj M0 M1 rt2 y1 y2 hy hP
  obtain ⟨a, ⟨b1, b2⟩, b3⟩ := hP
  obtain ⟨r, e, _, hp⟩ := o_okA (s_SJ_pair (x1 := y1) (x2 := y2) a.2.2.2.2.2.2.2.1) ex_SJ_pair
  obtain ⟨r2, e2, f1, f2⟩ := s_MM_pair_1 (x1 := y1) (x2 := y2) b1 b3.2.2.1
  exact ⟨r.1, r.2, r2.1, r2.2, e, hp, e2, a, ⟨f2, f1.trans b2⟩, b3⟩
theorem b_value : pp_value PInv := by
  intro Sj T0 T1 Rd Pg Pt Mk Lk Ck Jd Ld Pr rt Ni Np No Nx Nf Na Nh Nq Nj M0 M1 rt2 y1 y2 y3 hy hP
  obtain ⟨a, ⟨b1, b2⟩, b3⟩ := hP
  obtain ⟨r, e, _, hp⟩ := o_okA (s_SJ_value (x1 := y1) (x2 := y2) (x3 := y3) a.1 a.2.1) ex_SJ_value
  obtain ⟨r2, e2, f1, f2⟩ := s_MM_value (x1 := y1) (x2 := y2) (x3 := y3) b3.2.2.2.1.1 b3.2.2.2.1.2.1 b3.2.2.2.2.1 b3.2.2.2.2.2.1 b1
  exact ⟨r.1, r.2, r2.1, r2.2, e, hp, e2, a, ⟨f2, f1.trans b2⟩, b3⟩
theorem b_alike : pp_alike PInv := by
  intro Sj T0 T1 Rd Pg Pt Mk Lk Ck Jd Ld Pr rt Ni Np No Nx Nf Na Nh Nq Nj M0 M1 rt2 y1 y2 hP
  obtain ⟨a, ⟨b1, b2⟩, b3⟩ := hP
  obtain ⟨r, e, _, hp⟩ := o_okA (s_SJ_alike (n := o_big) (x1 := y1) (x2 := y2) (Nat.le_refl _) a.2.1) ex_SJ_alike
  obtain ⟨r2, e2, f1, f2⟩ := s_MM_alike (n := o_big) (x1 := y1) (x2 := y2) (Nat.le_refl _) b3.2.2.2.2.1 b3.2.2.2.2.2.1 b1
  exact ⟨r.1, r.2, r2.1, r2.2, e, hp, e2, a, ⟨f2, f1.trans b2⟩, b3⟩
theorem b_matches : pp_matches PInv := by
  intro Sj T0 T1 Rd Pg Pt Mk Lk Ck Jd Ld Pr rt Ni Np No Nx Nf Na Nh Nq Nj M0 M1 rt2 y1 y2 hP
  obtain ⟨⟨a1, a2, a3, a4, a5, a6⟩, ⟨b1, b2⟩, b3, b4⟩ := hP
  obtain ⟨r, e, hI, hp⟩ := o_okA (s_SJ_matches (n := o_big) (x1 := y1) (x2 := y2) (Nat.le_refl _) a2 a4 a5) ex_SJ_matches
  obtain ⟨r2, e2, ⟨f1, f2⟩, f3⟩ := s_MM_matches_1 (n := o_big) (x1 := y1) (x2 := y2) (No := No) (Nx := Nx) (rt := rt2) (Nat.le_refl _) b4.2.2.2.1 b4.2.2.2.2.1 b1 b3
  exact ⟨r.1, r.2.1, r.2.2.1, r.2.2.2, r2.1, r2.2.1, r2.2.2.1, r2.2.2.2.1, r2.2.2.2.2.1, r2.2.2.2.2.2, e, hp, e2, ⟨a1, a2, a3, hI.1, hI.2, a6⟩, ⟨f2, f1.trans b2⟩, f3, b4⟩
theorem b_count : pp_count PInv := by
  intro Sj T0 T1 Rd Pg Pt Mk Lk Ck Jd Ld Pr rt Ni Np No Nx Nf Na Nh Nq Nj M0 M1 rt2 y1 hP
  obtain ⟨a, ⟨b1, b2⟩, b3⟩ := hP
  obtain ⟨r, e, _, hp⟩ := o_okA (s_SJ_count (x1 := y1) a.1 a.2.1 a.2.2.2.2.2.2.2.2) ex_SJ_count
  obtain ⟨r2, e2, f1, f2⟩ := s_MM_count (x1 := y1) (Nj := Nj) b3.2.2.2.1.1 b3.2.2.2.1.2.1 b3.2.2.2.2.1 b3.2.2.2.2.2.1 b1
  exact ⟨r.1, r.2, r2.1, r2.2, e, hp, e2, a, ⟨f2, f1.trans b2⟩, b3⟩
theorem pp_ob : pp_all PInv := ⟨b_feed, b_end, b_wrong, b_check, b_fault, b_validate, b_pairs, b_pair, b_value, b_alike, b_matches, b_count⟩
