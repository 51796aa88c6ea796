/-! What the two sides owe, for this law -/
abbrev p_T : Type := SSJ → STx → STx → SRd → SPg → SPt → SMk → SLk → SCk → SJd → SLd → SPr → Nat → SNI → SNP → SNO → SNX → SNF → SNA → SNH → SNQ → SNJ → SMT → SMT → Nat → Prop
def p_feed (P : p_T) : Prop := ∀ (Sj : SSJ) (T0 : STx) (T1 : STx) (Rd : SRd) (Pg : SPg) (Pt : SPt) (Mk : SMk) (Lk : SLk) (Ck : SCk) (Jd : SJd) (Ld : SLd) (Pr : SPr) (rt : Nat) (Ni : SNI) (Np : SNP) (No : SNO) (Nx : SNX) (Nf : SNF) (Na : SNA) (Nh : SNH) (Nq : SNQ) (Nj : SNJ) (M0 : SMT) (M1 : SMT) (rt2 : Nat) (y1 : Int32) (y2 : Int32) (y3 : Int32) (y4 : Int32) (y5 : Int32), P Sj T0 T1 Rd Pg Pt Mk Lk Ck Jd Ld Pr rt Ni Np No Nx Nf Na Nh Nq Nj M0 M1 rt2 → ∃ (ex : Nat) (v : Int32) (Rd' : SRd) (v2 : Int32) (Ni' : SNI), m_SJ_feed y1 y2 y3 y4 y5 Rd = some (ex, v, Rd') ∧ (ex = 0 ∨ ex = 1) ∧ m_MM_feed o_big y1 y2 y3 y4 y5 Ni = some (v2, Ni') ∧ P Sj T0 T1 Rd' Pg Pt Mk Lk Ck Jd Ld Pr rt Ni' Np No Nx Nf Na Nh Nq Nj M0 M1 rt2
def p_end (P : p_T) : Prop := ∀ (Sj : SSJ) (T0 : STx) (T1 : STx) (Rd : SRd) (Pg : SPg) (Pt : SPt) (Mk : SMk) (Lk : SLk) (Ck : SCk) (Jd : SJd) (Ld : SLd) (Pr : SPr) (rt : Nat) (Ni : SNI) (Np : SNP) (No : SNO) (Nx : SNX) (Nf : SNF) (Na : SNA) (Nh : SNH) (Nq : SNQ) (Nj : SNJ) (M0 : SMT) (M1 : SMT) (rt2 : Nat) (y1 : Int32) (y2 : Int32), (y1 = 0 ∨ y1 = 1) → P Sj T0 T1 Rd Pg Pt Mk Lk Ck Jd Ld Pr rt Ni Np No Nx Nf Na Nh Nq Nj M0 M1 rt2 → ∃ (ex : Nat) (v : Int32) (T0' : STx) (T1' : STx) (Rd' : SRd) (Ck' : SCk) (Sj' : SSJ) (rt' : Nat) (v2 : Int32) (M0' : SMT) (M1' : SMT) (Ni' : SNI) (Nf' : SNF), m_SJ_end o_big rt y1 y2 T0 T1 Rd Ck Sj = some (ex, v, T0', T1', Rd', Ck', Sj', rt') ∧ (ex = 0 ∨ ex = 1 ∨ ex = 2) ∧ m_MM_end o_big y1 y2 M0 M1 Ni Nf = some (v2, M0', M1', Ni', Nf') ∧ P Sj' T0' T1' Rd' Pg Pt Mk Lk Ck' Jd Ld Pr rt' Ni' Np No Nx Nf' Na Nh Nq Nj M0' M1' rt2
def p_wrong (P : p_T) : Prop := ∀ (Sj : SSJ) (T0 : STx) (T1 : STx) (Rd : SRd) (Pg : SPg) (Pt : SPt) (Mk : SMk) (Lk : SLk) (Ck : SCk) (Jd : SJd) (Ld : SLd) (Pr : SPr) (rt : Nat) (Ni : SNI) (Np : SNP) (No : SNO) (Nx : SNX) (Nf : SNF) (Na : SNA) (Nh : SNH) (Nq : SNQ) (Nj : SNJ) (M0 : SMT) (M1 : SMT) (rt2 : Nat), P Sj T0 T1 Rd Pg Pt Mk Lk Ck Jd Ld Pr rt Ni Np No Nx Nf Na Nh Nq Nj M0 M1 rt2 → ∃ (v : Int32) (v2 : Int32) (Ni' : SNI), m_SJ_wrong Sj = some v ∧ m_MM_wrong Ni = some (v2, Ni') ∧ P Sj T0 T1 Rd Pg Pt Mk Lk Ck Jd Ld Pr rt Ni' Np No Nx Nf Na Nh Nq Nj M0 M1 rt2
def p_check (P : p_T) : Prop := ∀ (Sj : SSJ) (T0 : STx) (T1 : STx) (Rd : SRd) (Pg : SPg) (Pt : SPt) (Mk : SMk) (Lk : SLk) (Ck : SCk) (Jd : SJd) (Ld : SLd) (Pr : SPr) (rt : Nat) (Ni : SNI) (Np : SNP) (No : SNO) (Nx : SNX) (Nf : SNF) (Na : SNA) (Nh : SNH) (Nq : SNQ) (Nj : SNJ) (M0 : SMT) (M1 : SMT) (rt2 : Nat), P Sj T0 T1 Rd Pg Pt Mk Lk Ck Jd Ld Pr rt Ni Np No Nx Nf Na Nh Nq Nj M0 M1 rt2 → ∃ (ex : Nat) (v : Int32) (Pg' : SPg) (Pt' : SPt) (Mk' : SMk) (Lk' : SLk) (Ck' : SCk) (v2 : Int32) (Ni' : SNI) (Np' : SNP) (No' : SNO) (Nf' : SNF) (Na' : SNA) (Nh' : SNH) (rt2' : Nat), m_SJ_check o_big T0 Pg Pt Mk Lk Ck = some (ex, v, Pg', Pt', Mk', Lk', Ck') ∧ (ex = 0 ∨ ex = 3) ∧ m_MM_check o_big M0 Ni Np No Nf Na Nh rt2 = some (v2, Ni', Np', No', Nf', Na', Nh', rt2') ∧ P Sj T0 T1 Rd Pg' Pt' Mk' Lk' Ck' Jd Ld Pr rt Ni' Np' No' Nx Nf' Na' Nh' Nq Nj M0 M1 rt2'
def p_fault (P : p_T) : Prop := ∀ (Sj : SSJ) (T0 : STx) (T1 : STx) (Rd : SRd) (Pg : SPg) (Pt : SPt) (Mk : SMk) (Lk : SLk) (Ck : SCk) (Jd : SJd) (Ld : SLd) (Pr : SPr) (rt : Nat) (Ni : SNI) (Np : SNP) (No : SNO) (Nx : SNX) (Nf : SNF) (Na : SNA) (Nh : SNH) (Nq : SNQ) (Nj : SNJ) (M0 : SMT) (M1 : SMT) (rt2 : Nat), P Sj T0 T1 Rd Pg Pt Mk Lk Ck Jd Ld Pr rt Ni Np No Nx Nf Na Nh Nq Nj M0 M1 rt2 → ∃ (v : Int32) (v2 : Int32) (Ni' : SNI), m_SJ_fault Ck = some v ∧ m_MM_fault_1 Ni Nf = some (v2, Ni') ∧ P Sj T0 T1 Rd Pg Pt Mk Lk Ck Jd Ld Pr rt Ni' Np No Nx Nf Na Nh Nq Nj M0 M1 rt2
def p_validate (P : p_T) : Prop := ∀ (Sj : SSJ) (T0 : STx) (T1 : STx) (Rd : SRd) (Pg : SPg) (Pt : SPt) (Mk : SMk) (Lk : SLk) (Ck : SCk) (Jd : SJd) (Ld : SLd) (Pr : SPr) (rt : Nat) (Ni : SNI) (Np : SNP) (No : SNO) (Nx : SNX) (Nf : SNF) (Na : SNA) (Nh : SNH) (Nq : SNQ) (Nj : SNJ) (M0 : SMT) (M1 : SMT) (rt2 : Nat), P Sj T0 T1 Rd Pg Pt Mk Lk Ck Jd Ld Pr rt Ni Np No Nx Nf Na Nh Nq Nj M0 M1 rt2 → ∃ (ex : Nat) (v : Int32) (Pg' : SPg) (Pt' : SPt) (Ld' : SLd) (Pr' : SPr) (Jd' : SJd) (v2 : Int32) (M1' : SMT) (Ni' : SNI) (Np' : SNP) (No' : SNO) (Nx' : SNX) (Nq' : SNQ) (Nj' : SNJ) (rt2' : Nat), m_SJ_validate o_big T0 T1 Pg Pt Mk Ck Ld Pr Jd = some (ex, v, Pg', Pt', Ld', Pr', Jd') ∧ (ex = 0 ∨ ex = 3 ∨ ex = 4) ∧ m_MM_validate o_big M0 M1 Ni Np No Nx Nf Na Nq Nj rt2 = some (v2, M1', Ni', Np', No', Nx', Nq', Nj', rt2') ∧ P Sj T0 T1 Rd Pg' Pt' Mk Lk Ck Jd' Ld' Pr' rt Ni' Np' No' Nx' Nf Na Nh Nq' Nj' M0 M1' rt2'
def p_pairs (P : p_T) : Prop := ∀ (Sj : SSJ) (T0 : STx) (T1 : STx) (Rd : SRd) (Pg : SPg) (Pt : SPt) (Mk : SMk) (Lk : SLk) (Ck : SCk) (Jd : SJd) (Ld : SLd) (Pr : SPr) (rt : Nat) (Ni : SNI) (Np : SNP) (No : SNO) (Nx : SNX) (Nf : SNF) (Na : SNA) (Nh : SNH) (Nq : SNQ) (Nj : SNJ) (M0 : SMT) (M1 : SMT) (rt2 : Nat), P Sj T0 T1 Rd Pg Pt Mk Lk Ck Jd Ld Pr rt Ni Np No Nx Nf Na Nh Nq Nj M0 M1 rt2 → ∃ (v : Int32) (v2 : Int32) (Ni' : SNI), m_SJ_pairs Pr = some v ∧ m_MM_pairs Ni Nq = some (v2, Ni') ∧ P Sj T0 T1 Rd Pg Pt Mk Lk Ck Jd Ld Pr rt Ni' Np No Nx Nf Na Nh Nq Nj M0 M1 rt2
def p_pair (P : p_T) : Prop := ∀ (Sj : SSJ) (T0 : STx) (T1 : STx) (Rd : SRd) (Pg : SPg) (Pt : SPt) (Mk : SMk) (Lk : SLk) (Ck : SCk) (Jd : SJd) (Ld : SLd) (Pr : SPr) (rt : Nat) (Ni : SNI) (Np : SNP) (No : SNO) (Nx : SNX) (Nf : SNF) (Na : SNA) (Nh : SNH) (Nq : SNQ) (Nj : SNJ) (M0 : SMT) (M1 : SMT) (rt2 : Nat) (y1 : Int32) (y2 : Int32), (y2 = 0 ∨ y2 = 1) → P Sj T0 T1 Rd Pg Pt Mk Lk Ck Jd Ld Pr rt Ni Np No Nx Nf Na Nh Nq Nj M0 M1 rt2 → ∃ (ex : Nat) (v : Int32) (v2 : Int32) (Ni' : SNI), m_SJ_pair y1 y2 Pr = some (ex, v) ∧ (ex = 0 ∨ ex = 1) ∧ m_MM_pair_1 y1 y2 Ni Nq = some (v2, Ni') ∧ P Sj T0 T1 Rd Pg Pt Mk Lk Ck Jd Ld Pr rt Ni' Np No Nx Nf Na Nh Nq Nj M0 M1 rt2
def p_value (P : p_T) : Prop := ∀ (Sj : SSJ) (T0 : STx) (T1 : STx) (Rd : SRd) (Pg : SPg) (Pt : SPt) (Mk : SMk) (Lk : SLk) (Ck : SCk) (Jd : SJd) (Ld : SLd) (Pr : SPr) (rt : Nat) (Ni : SNI) (Np : SNP) (No : SNO) (Nx : SNX) (Nf : SNF) (Na : SNA) (Nh : SNH) (Nq : SNQ) (Nj : SNJ) (M0 : SMT) (M1 : SMT) (rt2 : Nat) (y1 : Int32) (y2 : Int32) (y3 : Int32), (y1 = 0 ∨ y1 = 1) → P Sj T0 T1 Rd Pg Pt Mk Lk Ck Jd Ld Pr rt Ni Np No Nx Nf Na Nh Nq Nj M0 M1 rt2 → ∃ (ex : Nat) (v : Int32) (v2 : Int32) (Ni' : SNI), m_SJ_value y1 y2 y3 T0 T1 = some (ex, v) ∧ (ex = 0 ∨ ex = 1 ∨ ex = 2) ∧ m_MM_value y1 y2 y3 M0 M1 Ni = some (v2, Ni') ∧ P Sj T0 T1 Rd Pg Pt Mk Lk Ck Jd Ld Pr rt Ni' Np No Nx Nf Na Nh Nq Nj M0 M1 rt2
def p_alike (P : p_T) : Prop := ∀ (Sj : SSJ) (T0 : STx) (T1 : STx) (Rd : SRd) (Pg : SPg) (Pt : SPt) (Mk : SMk) (Lk : SLk) (Ck : SCk) (Jd : SJd) (Ld : SLd) (Pr : SPr) (rt : Nat) (Ni : SNI) (Np : SNP) (No : SNO) (Nx : SNX) (Nf : SNF) (Na : SNA) (Nh : SNH) (Nq : SNQ) (Nj : SNJ) (M0 : SMT) (M1 : SMT) (rt2 : Nat) (y1 : Int32) (y2 : Int32), P Sj T0 T1 Rd Pg Pt Mk Lk Ck Jd Ld Pr rt Ni Np No Nx Nf Na Nh Nq Nj M0 M1 rt2 → ∃ (ex : Nat) (v : Int32) (v2 : Int32) (Ni' : SNI), m_SJ_alike o_big y1 y2 T1 = some (ex, v) ∧ (ex = 0 ∨ ex = 1) ∧ m_MM_alike o_big y1 y2 M1 Ni = some (v2, Ni') ∧ m_MM_thrown Ni' = some (if ex = 0 then (0:Int32) else (1:Int32)) ∧ (ex = 0 → v = v2) ∧ P Sj T0 T1 Rd Pg Pt Mk Lk Ck Jd Ld Pr rt Ni' Np No Nx Nf Na Nh Nq Nj M0 M1 rt2
def p_matches (P : p_T) : Prop := ∀ (Sj : SSJ) (T0 : STx) (T1 : STx) (Rd : SRd) (Pg : SPg) (Pt : SPt) (Mk : SMk) (Lk : SLk) (Ck : SCk) (Jd : SJd) (Ld : SLd) (Pr : SPr) (rt : Nat) (Ni : SNI) (Np : SNP) (No : SNO) (Nx : SNX) (Nf : SNF) (Na : SNA) (Nh : SNH) (Nq : SNQ) (Nj : SNJ) (M0 : SMT) (M1 : SMT) (rt2 : Nat) (y1 : Int32) (y2 : Int32), P Sj T0 T1 Rd Pg Pt Mk Lk Ck Jd Ld Pr rt Ni Np No Nx Nf Na Nh Nq Nj M0 M1 rt2 → ∃ (ex : Nat) (v : Int32) (Pg' : SPg) (Pt' : SPt) (v2 : Int32) (Ni' : SNI) (Np' : SNP) (No' : SNO) (Nx' : SNX) (rt2' : Nat), m_SJ_matches o_big y1 y2 T1 Pg Pt = some (ex, v, Pg', Pt') ∧ (ex = 0 ∨ ex = 1 ∨ ex = 2) ∧ m_MM_matches_1 o_big y1 y2 M1 Ni Np No Nx rt2 = some (v2, Ni', Np', No', Nx', rt2') ∧ P Sj T0 T1 Rd Pg' Pt' Mk Lk Ck Jd Ld Pr rt Ni' Np' No' Nx' Nf Na Nh Nq Nj M0 M1 rt2'
def p_count (P : p_T) : Prop := ∀ (Sj : SSJ) (T0 : STx) (T1 : STx) (Rd : SRd) (Pg : SPg) (Pt : SPt) (Mk : SMk) (Lk : SLk) (Ck : SCk) (Jd : SJd) (Ld : SLd) (Pr : SPr) (rt : Nat) (Ni : SNI) (Np : SNP) (No : SNO) (Nx : SNX) (Nf : SNF) (Na : SNA) (Nh : SNH) (Nq : SNQ) (Nj : SNJ) (M0 : SMT) (M1 : SMT) (rt2 : Nat) (y1 : Int32), P Sj T0 T1 Rd Pg Pt Mk Lk Ck Jd Ld Pr rt Ni Np No Nx Nf Na Nh Nq Nj M0 M1 rt2 → ∃ (ex : Nat) (v : Int32) (v2 : Int32) (Ni' : SNI), m_SJ_count y1 T0 T1 Jd = some (ex, v) ∧ (ex = 0 ∨ ex = 2) ∧ m_MM_count y1 M0 M1 Ni Nj = some (v2, Ni') ∧ P Sj T0 T1 Rd Pg Pt Mk Lk Ck Jd Ld Pr rt Ni' Np No Nx Nf Na Nh Nq Nj M0 M1 rt2
def p_all (P : p_T) : Prop := p_feed P ∧ p_end P ∧ p_wrong P ∧ p_check P ∧ p_fault P ∧ p_validate P ∧ p_pairs P ∧ p_pair P ∧ p_value P ∧ p_alike P ∧ p_matches P ∧ p_count P
/-! what is fed and where it was wrong stays, but for feed and end -/
def NIK (a b : SNI) : Prop := NI_fed b = NI_fed a ∧ NI_wrong b = NI_wrong a ∧ NI_octets b = NI_octets a
theorem nk_fails {y c : Int32} {Ni : SNI} : o_pc (m_MM_fails y c Ni) (fun r => NIK Ni r.2) := by
  have j : ∀ N : SNI, NIK Ni N → o_pc (m_MM_fails_j16 N) (fun r => NIK Ni r.2) := by
    intro N h
    unfold m_MM_fails_j16
    exact pcI (fun _ => pcS h) (fun _ => pcS h)
  unfold m_MM_fails
  exact pcI (fun _ => j _ ⟨rfl, rfl, rfl⟩) (fun _ => pcI (fun _ => j _ ⟨rfl, rfl, rfl⟩) (fun _ => j _ ⟨rfl, rfl, rfl⟩))
theorem nk_pair {x1 x2 : Int32} {Ni : SNI} {Nq : SNQ} : o_pc (m_MM_pair_1 x1 x2 Ni Nq) (fun r => NIK Ni r.2) := by
  have j : ∀ y, o_pc (m_MM_pair_1_j25 x1 x2 y (NI_mk 0 (NI_fed Ni) (NI_wrong Ni) (NI_octets Ni)) Nq) (fun r => NIK Ni r.2) := by
    intro y
    unfold m_MM_pair_1_j25
    exact pcB nk_fails (fun q hq => pcI (fun _ => pcI (fun _ => pcG (fun _ => pcS hq)) (fun _ => pcG (fun _ => pcS hq))) (fun _ => pcS hq))
  unfold m_MM_pair_1
  exact pcX (fun _ => pcI (fun _ => j 1) (fun _ => j 0))
theorem nk_t {a b c : SNI} (h : NIK a b) (g : NIK b c) : NIK a c := ⟨g.1.trans h.1, g.2.1.trans h.2.1, g.2.2.trans h.2.2⟩
theorem nk_value {x1 x2 x3 : Int32} {M0 M1 : SMT} {Ni : SNI} : o_pc (m_MM_value x1 x2 x3 M0 M1 Ni) (fun r => NIK Ni r.2) := by
  have j65 : ∀ (y : Int32) (N : SNI), NIK Ni N → o_pc (m_MM_value_j65 x2 x3 y M0 M1 N) (fun r => NIK Ni r.2) := by
    intro y N h
    unfold m_MM_value_j65
    exact pcB nk_fails (fun q hq => pcI (fun _ => pcI (fun _ => pcG (fun _ => pcS (nk_t h hq))) (fun _ => pcI (fun _ => pcG (fun _ => pcS (nk_t h hq))) (fun _ => pcI (fun _ => pcG (fun _ => pcS (nk_t h hq))) (fun _ => pcI (fun _ => pcG (fun _ => pcS (nk_t h hq))) (fun _ => pcG (fun _ => pcS (nk_t h hq))))))) (fun _ => pcS (nk_t h hq)))
  have j37 : ∀ (y : Int32) (N : SNI), NIK Ni N → o_pc (m_MM_value_j37 x2 x3 y M0 M1 N) (fun r => NIK Ni r.2) := by
    intro y N h
    unfold m_MM_value_j37
    exact pcB nk_fails (fun q hq => pcI (fun _ => pcX (fun _ => pcI (fun _ => j65 _ _ (nk_t h hq)) (fun _ => j65 _ _ (nk_t h hq)))) (fun _ => pcS (nk_t h hq)))
  have j65v : ∀ (y : Int32) (N : SNI), NIK Ni N → o_pc (m_MM_value_j65v10 x2 x3 y M0 M1 N) (fun r => NIK Ni r.2) := by
    intro y N h
    unfold m_MM_value_j65v10
    exact pcB nk_fails (fun q hq => pcI (fun _ => pcI (fun _ => pcG (fun _ => pcS (nk_t h hq))) (fun _ => pcI (fun _ => pcG (fun _ => pcS (nk_t h hq))) (fun _ => pcI (fun _ => pcG (fun _ => pcS (nk_t h hq))) (fun _ => pcI (fun _ => pcG (fun _ => pcS (nk_t h hq))) (fun _ => pcG (fun _ => pcS (nk_t h hq))))))) (fun _ => pcS (nk_t h hq)))
  have j37v : ∀ (y : Int32) (N : SNI), NIK Ni N → o_pc (m_MM_value_j37v7 x2 x3 y M0 M1 N) (fun r => NIK Ni r.2) := by
    intro y N h
    unfold m_MM_value_j37v7
    exact pcB nk_fails (fun q hq => pcI (fun _ => pcX (fun _ => pcI (fun _ => j65v _ _ (nk_t h hq)) (fun _ => j65v _ _ (nk_t h hq)))) (fun _ => pcS (nk_t h hq)))
  unfold m_MM_value m_MM_value_j20 m_MM_value_j20v5
  exact pcI (fun _ => pcX (fun _ => pcI (fun _ => j37 _ _ ⟨rfl, rfl, rfl⟩) (fun _ => j37 _ _ ⟨rfl, rfl, rfl⟩))) (fun _ => pcX (fun _ => pcI (fun _ => j37v _ _ ⟨rfl, rfl, rfl⟩) (fun _ => j37v _ _ ⟨rfl, rfl, rfl⟩)))
theorem nk_alike {n : Nat} {x1 x2 : Int32} {M1 : SMT} {Ni : SNI} : o_pc (m_MM_alike n x1 x2 M1 Ni) (fun r => NIK Ni r.2) := by
  have j : ∀ y, o_pc (m_MM_alike_j45 n x1 x2 y M1 (NI_mk 0 (NI_fed Ni) (NI_wrong Ni) (NI_octets Ni))) (fun r => NIK Ni r.2) := by
    intro y
    unfold m_MM_alike_j45
    exact pcB nk_fails (fun q hq => pcI (fun _ => pcX (fun _ => pcG (fun _ => pcS hq))) (fun _ => pcS hq))
  unfold m_MM_alike
  exact pcX (fun _ => pcI (fun _ => j _) (fun _ => pcX (fun _ => pcI (fun _ => j _) (fun _ => j _))))
theorem nk_count {x1 : Int32} {M0 M1 : SMT} {Ni : SNI} {Nj : SNJ} : o_pc (m_MM_count x1 M0 M1 Ni Nj) (fun r => NIK Ni r.2) := by
  have j : ∀ y, o_pc (m_MM_count_j20 x1 y M0 M1 (NI_mk 0 (NI_fed Ni) (NI_wrong Ni) (NI_octets Ni)) Nj) (fun r => NIK Ni r.2) := by
    intro y
    unfold m_MM_count_j20
    exact pcB nk_fails (fun q hq => pcI (fun _ => pcI (fun _ => pcS hq) (fun _ => pcI (fun _ => pcS hq) (fun _ => pcI (fun _ => pcS hq) (fun _ => pcS hq)))) (fun _ => pcS hq))
  unfold m_MM_count
  exact pcX (fun _ => pcI (fun _ => j _) (fun _ => j _))
theorem nk_matches {n rt : Nat} {x1 x2 : Int32} {M1 : SMT} {Ni : SNI} {Np : SNP} {No : SNO} {Nx : SNX} : o_pc (m_MM_matches_1 n x1 x2 M1 Ni Np No Nx rt) (fun r => NIK Ni r.2.1) := by
  have j96 : ∀ (y : Int32) (N : SNI) (np : SNP) (no : SNO) (nx : SNX) (r : Nat), NIK Ni N → o_pc (m_MM_matches_1_j96 n x1 y M1 N np no nx r) (fun r => NIK Ni r.2.1) := by
    intro y N np no nx r h
    unfold m_MM_matches_1_j96
    exact pcB nk_fails (fun q hq => pcI (fun _ => pcX (fun _ => pcG (fun _ => pcS (nk_t h hq)))) (fun _ => pcS (nk_t h hq)))
  have j45 : ∀ y, o_pc (m_MM_matches_1_j45 n x1 x2 y M1 (NI_mk 0 (NI_fed Ni) (NI_wrong Ni) (NI_octets Ni)) Np No Nx rt) (fun r => NIK Ni r.2.1) := by
    intro y
    unfold m_MM_matches_1_j45
    exact pcB nk_fails (fun q hq => pcI (fun _ => pcG (fun _ => pcI (fun _ => pcG (fun _ => pcI (fun _ => pcX (fun _ => pcI (fun _ => j96 _ _ _ _ _ _ hq) (fun _ => j96 _ _ _ _ _ _ hq))) (fun _ => j96 _ _ _ _ _ _ hq))) (fun _ => j96 _ _ _ _ _ _ hq))) (fun _ => pcS hq))
  unfold m_MM_matches_1
  exact pcX (fun _ => pcI (fun _ => j45 _) (fun _ => pcX (fun _ => pcI (fun _ => j45 _) (fun _ => j45 _))))
theorem nk_check {n rt : Nat} {M0 : SMT} {Ni : SNI} {Np : SNP} {No : SNO} {Nf : SNF} {Na : SNA} {Nh : SNH} : o_pc (m_MM_check n M0 Ni Np No Nf Na Nh rt) (fun r => NIK Ni r.2.1) := by
  have j218 : ∀ (N : SNI) (np : SNP) (no : SNO) (nf : SNF) (na : SNA) (nh : SNH) (r : Nat), NIK Ni N → o_pc (m_MM_check_j218 n M0 N np no nf na nh r) (fun r => NIK Ni r.2.1) := by
    intro N np no nf na nh r h
    unfold m_MM_check_j218 m_MM_check_j231
    exact pcI (fun _ => pcG (fun _ => pcI (fun _ => pcS h) (fun _ => pcS h))) (fun _ => pcG (fun _ => pcI (fun _ => pcS h) (fun _ => pcS h)))
  have j161 : ∀ (N : SNI) (np : SNP) (no : SNO) (nf : SNF) (na : SNA) (nh : SNH) (r : Nat), NIK Ni N → o_pc (m_MM_check_j161 n M0 N np no nf na nh r) (fun r => NIK Ni r.2.1) := by
    intro N np no nf na nh r h
    unfold m_MM_check_j161
    exact pcI (fun _ => pcX (fun _ => j218 _ _ _ _ _ _ _ h)) (fun _ => j218 _ _ _ _ _ _ _ h)
  have j21 : ∀ y, o_pc (m_MM_check_j21 n y M0 (NI_mk 0 (NI_fed Ni) (NI_wrong Ni) (NI_octets Ni)) Np No Nf Na Nh rt) (fun r => NIK Ni r.2.1) := by
    intro y
    unfold m_MM_check_j21
    exact pcB nk_fails (fun q hq => pcI (fun _ => pcX (fun _ => pcX (fun _ => pcI (fun _ => pcX (fun _ => j161 _ _ _ _ _ _ _ hq)) (fun _ => j161 _ _ _ _ _ _ _ hq)))) (fun _ => pcS hq))
  unfold m_MM_check
  exact pcI (fun _ => j21 _) (fun _ => j21 _)
theorem nk_validate {n rt : Nat} {M0 M1 : SMT} {Ni : SNI} {Np : SNP} {No : SNO} {Nx : SNX} {Nf : SNF} {Na : SNA} {Nq : SNQ} {Nj : SNJ} : o_pc (m_MM_validate n M0 M1 Ni Np No Nx Nf Na Nq Nj rt) (fun r => NIK Ni r.2.2.1) := by
  have j91 : ∀ (x : Int32) (m : SMT) (N : SNI) (np : SNP) (no : SNO) (nx : SNX) (nq : SNQ) (nj : SNJ) (r : Nat), NIK Ni N → o_pc (m_MM_validate_j91 n x M0 m N np no nx Nf Na nq nj r) (fun r => NIK Ni r.2.2.1) := by
    intro x m N np no nx nq nj r h
    unfold m_MM_validate_j91
    exact pcB nk_fails (fun q hq => pcI (fun _ => pcX (fun _ => pcG (fun _ => pcS (nk_t h hq)))) (fun _ => pcS (nk_t h hq)))
  have j38 : ∀ y, o_pc (m_MM_validate_j38 n y M0 M1 (NI_mk 0 (NI_fed Ni) (NI_wrong Ni) (NI_octets Ni)) Np No Nx Nf Na Nq Nj rt) (fun r => NIK Ni r.2.2.1) := by
    intro y
    unfold m_MM_validate_j38
    exact pcB nk_fails (fun q hq => pcI (fun _ => pcX (fun _ => pcI (fun _ => j91 _ _ _ _ _ _ _ _ _ hq) (fun _ => j91 _ _ _ _ _ _ _ _ _ hq))) (fun _ => pcS hq))
  unfold m_MM_validate
  exact pcI (fun _ => j38 _) (fun _ => pcI (fun _ => j38 _) (fun _ => pcI (fun _ => j38 _) (fun _ => j38 _)))
theorem RELq_k {Sj : SSJ} {T0 T1 : STx} {Rd : SRd} {Ni Ni' : SNI} {M0 M1 : SMT} (h : RELq Sj T0 T1 Rd Ni M0 M1) (k : NIK Ni Ni') : RELq Sj T0 T1 Rd Ni' M0 M1 := by
  obtain ⟨h1, h2, h3, h4⟩ := h
  obtain ⟨k1, k2, k3⟩ := k
  refine ⟨?_, by rw [k2]; exact h2, h3, h4⟩
  unfold OCT
  rw [k1, k3]
  exact h1
theorem TREE_l {tc : STx} {a : SMT} {l : Nat → Int32} (h : TREE tc a) : TREE tc (MTL a l) := ⟨h.1, h.2⟩
def QInv : pp_T := fun Sj T0 T1 Rd Pg Pt Mk Lk Ck Jd Ld Pr rt Ni Np No Nx Nf Na Nh Nq Nj M0 M1 rt2 => PInv Sj T0 T1 Rd Pg Pt Mk Lk Ck Jd Ld Pr rt Ni Np No Nx Nf Na Nh Nq Nj M0 M1 rt2 ∧ RELq Sj T0 T1 Rd Ni M0 M1
theorem Q_zero : QInv z_Sj z_T0 z_T1 z_Rd z_Pg z_Pt z_Mk z_Lk z_Ck z_Jd z_Ld z_Pr 12 z_Ni z_Np z_No z_Nx z_Nf z_Na z_Nh z_Nq z_Nj z_M0 z_M1 0 := by
  refine ⟨pp_zero, ?_, rfl, ⟨rfl, ?_⟩, ⟨rfl, ?_⟩⟩
  · intro i i0 i1
    exact absurd (Int32.lt_of_le_of_lt i0 i1) (show ¬ (0:Int32) < 0 by decide)
  · intro i i0 i1
    exact absurd (Int32.lt_of_le_of_lt i0 i1) (show ¬ (0:Int32) < 0 by decide)
  · intro i i0 i1
    exact absurd (Int32.lt_of_le_of_lt i0 i1) (show ¬ (0:Int32) < 0 by decide)
def QIn1 : pp_T := fun Sj T0 T1 Rd Pg Pt Mk Lk Ck Jd Ld Pr rt Ni Np No Nx Nf Na Nh Nq Nj M0 M1 rt2 => QInv Sj T0 T1 Rd Pg Pt Mk Lk Ck Jd Ld Pr rt Ni Np No Nx Nf Na Nh Nq Nj M0 M1 rt2 ∧ DEEP M1
theorem de_end {n : Nat} {x1 x2 : Int32} {M0 M1 : SMT} {Ni : SNI} {Nf : SNF} (h : DEEP M1) : o_pc (m_MM_end n x1 x2 M0 M1 Ni Nf) (fun r => DEEP r.2.2.1) := by
  have j103 : ∀ (A B : SMT) (N : SNI) (F : SNF), o_pc (m_MM_end_j103 n x2 A B N F) (fun r => DEEP r.2.2.1) := by
    intro A B N F
    unfold m_MM_end_j103 m_MM_end_j125
    exact pcB d_read (fun q hq => pcI (fun _ => pcX (fun _ => pcI (fun _ => pcS hq) (fun _ => pcS hq))) (fun _ => pcX (fun _ => pcI (fun _ => pcS hq) (fun _ => pcS hq))))
  have j103v : ∀ (A B : SMT) (N : SNI) (F : SNF), DEEP B → o_pc (m_MM_end_j103v7 n x2 A B N F) (fun r => DEEP r.2.2.1) := by
    intro A B N F hB
    unfold m_MM_end_j103v7 m_MM_end_j125v9
    exact pcX (fun _ => pcI (fun _ => pcX (fun _ => pcI (fun _ => pcS hB) (fun _ => pcS hB))) (fun _ => pcX (fun _ => pcI (fun _ => pcS hB) (fun _ => pcS hB))))
  have j30 : ∀ (y : Int32) (N : SNI), o_pc (m_MM_end_j30 n x1 x2 y M0 M1 N Nf) (fun r => DEEP r.2.2.1) := by
    intro y N
    unfold m_MM_end_j30
    refine pcX (fun _ => pcI (fun _ => pcI (fun _ => pcX (fun _ => pcI (fun _ => j103 _ _ _ _) (fun _ => j103 _ _ _ _))) (fun _ => ?_)) (fun _ => pcS h))
    refine pcB (pcLs (fun z : Int32 × SMT × SMT => DEEP z.2.2) ?_ n _ h) (fun q hq => pcI (fun _ => j103v _ _ _ _ hq) (fun _ => j103v _ _ _ _ hq))
    intro z hz
    unfold m_MM_end_b63v5
    exact pcI (fun _ => pcS hz) (fun _ => pcG (fun _ => pcG (fun _ => pcN (fun _ _ => pcS hz))))
  unfold m_MM_end
  exact pcI (fun _ => j30 _ _) (fun _ => pcI (fun _ => j30 _ _) (fun _ => pcI (fun _ => j30 _ _) (fun _ => j30 _ _)))
theorem bq_feed : p_feed QIn1 := by
  intro Sj T0 T1 Rd Pg Pt Mk Lk Ck Jd Ld Pr rt Ni Np No Nx Nf Na Nh Nq Nj M0 M1 rt2 y1 y2 y3 y4 y5 ⟨⟨hP, hQ⟩, hD⟩
  obtain ⟨ex, v, Rd', v2, Ni', h1, hex, h2, g3, g4, hI⟩ := b_feed Sj T0 T1 Rd Pg Pt Mk Lk Ck Jd Ld Pr rt Ni Np No Nx Nf Na Nh Nq Nj M0 M1 rt2 y1 y2 y3 y4 y5 hP
  refine ⟨ex, v, Rd', v2, Ni', h1, hex, h2, ⟨hI, ?_⟩, ?_⟩
  · obtain ⟨k1, k2⟩ := rr_feed hP.1.2.2.1.1 hP.1.2.2.1.2 hP.2.1.2 hQ.1 _ _ h1 h2
    exact ⟨k1, hQ.2.1.trans k2.symm, hQ.2.2.1, hQ.2.2.2⟩
  · exact hD
theorem bq_end : p_end QIn1 := by
  intro Sj T0 T1 Rd Pg Pt Mk Lk Ck Jd Ld Pr rt Ni Np No Nx Nf Na Nh Nq Nj M0 M1 rt2 y1 y2 hy ⟨⟨hP, hQ⟩, hD⟩
  obtain ⟨ex, v, T0', T1', Rd', Ck', Sj', rt', v2, M0', M1', Ni', Nf', h1, hex, h2, hI⟩ := b_end Sj T0 T1 Rd Pg Pt Mk Lk Ck Jd Ld Pr rt Ni Np No Nx Nf Na Nh Nq Nj M0 M1 rt2 y1 y2 hy hP
  refine ⟨ex, v, T0', T1', Rd', Ck', Sj', rt', v2, M0', M1', Ni', Nf', h1, hex, h2, ⟨hI, ?_⟩, ?_⟩
  · obtain ⟨k1, k2, k3⟩ := rr_end hP.2.1.2 hQ _ _ h1 h2
    exact k1
  · exact de_end hD _ h2
theorem bq_wrong : p_wrong QIn1 := by
  intro Sj T0 T1 Rd Pg Pt Mk Lk Ck Jd Ld Pr rt Ni Np No Nx Nf Na Nh Nq Nj M0 M1 rt2 ⟨⟨hP, hQ⟩, hD⟩
  obtain ⟨v, v2, Ni', h1, h2, hI⟩ := b_wrong Sj T0 T1 Rd Pg Pt Mk Lk Ck Jd Ld Pr rt Ni Np No Nx Nf Na Nh Nq Nj M0 M1 rt2 hP
  refine ⟨v, v2, Ni', h1, h2, ⟨hI, ?_⟩, ?_⟩
  · cases h2
    exact RELq_k hQ ⟨rfl, rfl, rfl⟩
  · exact hD
theorem bq_check : p_check QIn1 := by
  intro Sj T0 T1 Rd Pg Pt Mk Lk Ck Jd Ld Pr rt Ni Np No Nx Nf Na Nh Nq Nj M0 M1 rt2 ⟨⟨hP, hQ⟩, hD⟩
  obtain ⟨ex, v, Pg', Pt', Mk', Lk', Ck', v2, Ni', Np', No', Nf', Na', Nh', rt2', h1, hex, h2, hI⟩ := b_check Sj T0 T1 Rd Pg Pt Mk Lk Ck Jd Ld Pr rt Ni Np No Nx Nf Na Nh Nq Nj M0 M1 rt2 hP
  refine ⟨ex, v, Pg', Pt', Mk', Lk', Ck', v2, Ni', Np', No', Nf', Na', Nh', rt2', h1, hex, h2, ⟨hI, ?_⟩, ?_⟩
  · exact RELq_k hQ (nk_check _ h2)
  · exact hD
theorem bq_fault : p_fault QIn1 := by
  intro Sj T0 T1 Rd Pg Pt Mk Lk Ck Jd Ld Pr rt Ni Np No Nx Nf Na Nh Nq Nj M0 M1 rt2 ⟨⟨hP, hQ⟩, hD⟩
  obtain ⟨v, v2, Ni', h1, h2, hI⟩ := b_fault Sj T0 T1 Rd Pg Pt Mk Lk Ck Jd Ld Pr rt Ni Np No Nx Nf Na Nh Nq Nj M0 M1 rt2 hP
  refine ⟨v, v2, Ni', h1, h2, ⟨hI, ?_⟩, ?_⟩
  · cases h2
    exact RELq_k hQ ⟨rfl, rfl, rfl⟩
  · exact hD
theorem bq_validate : p_validate QIn1 := by
  intro Sj T0 T1 Rd Pg Pt Mk Lk Ck Jd Ld Pr rt Ni Np No Nx Nf Na Nh Nq Nj M0 M1 rt2 ⟨⟨hP, hQ⟩, hD⟩
  obtain ⟨ex, v, Pg', Pt', Ld', Pr', Jd', v2, M1', Ni', Np', No', Nx', Nq', Nj', rt2', h1, hex, h2, hI⟩ := b_validate Sj T0 T1 Rd Pg Pt Mk Lk Ck Jd Ld Pr rt Ni Np No Nx Nf Na Nh Nq Nj M0 M1 rt2 hP
  refine ⟨ex, v, Pg', Pt', Ld', Pr', Jd', v2, M1', Ni', Np', No', Nx', Nq', Nj', rt2', h1, hex, h2, ⟨hI, ?_⟩, ?_⟩
  · have k := nk_validate _ h2
    obtain ⟨⟨a1, a2, a3, a4, a5, a6, a7, a8, a9⟩, ⟨b1, b2⟩, b3, b4, b5, b6, b7⟩ := hP
    obtain ⟨r2, e2, f1, _⟩ := s_MM_validate (n := o_big) (No := No) (Nx := Nx) (Nj := Nj) (rt := rt2) (Nat.le_refl _) b6.1 b6.2.1 b7.1 b7.2.1 (IM_all (Nat.le_refl _) b6.1 b6.2.1 b6.2.2 b7.1 b7.2.1 b7.2.2) b4 b1 b3 b5
    rw [h2] at e2
    cases e2
    obtain ⟨lf, el⟩ := f1
    replace el : M1' = MTL M1 lf := el
    subst el
    have q := RELq_k hQ k
    exact ⟨q.1, q.2.1, q.2.2.1, TREE_l q.2.2.2⟩
  · have k := nk_validate _ h2
    obtain ⟨⟨a1, a2, a3, a4, a5, a6, a7, a8, a9⟩, ⟨b1, b2⟩, b3, b4, b5, b6, b7⟩ := hP
    obtain ⟨r2, e2, f1, _⟩ := s_MM_validate (n := o_big) (No := No) (Nx := Nx) (Nj := Nj) (rt := rt2) (Nat.le_refl _) b6.1 b6.2.1 b7.1 b7.2.1 (IM_all (Nat.le_refl _) b6.1 b6.2.1 b6.2.2 b7.1 b7.2.1 b7.2.2) b4 b1 b3 b5
    rw [h2] at e2
    cases e2
    obtain ⟨lf, el⟩ := f1
    replace el : M1' = MTL M1 lf := el
    subst el
    exact hD
theorem bq_pairs : p_pairs QIn1 := by
  intro Sj T0 T1 Rd Pg Pt Mk Lk Ck Jd Ld Pr rt Ni Np No Nx Nf Na Nh Nq Nj M0 M1 rt2 ⟨⟨hP, hQ⟩, hD⟩
  obtain ⟨v, v2, Ni', h1, h2, hI⟩ := b_pairs Sj T0 T1 Rd Pg Pt Mk Lk Ck Jd Ld Pr rt Ni Np No Nx Nf Na Nh Nq Nj M0 M1 rt2 hP
  refine ⟨v, v2, Ni', h1, h2, ⟨hI, ?_⟩, ?_⟩
  · cases h2
    exact RELq_k hQ ⟨rfl, rfl, rfl⟩
  · exact hD
theorem bq_pair : p_pair QIn1 := by
  intro Sj T0 T1 Rd Pg Pt Mk Lk Ck Jd Ld Pr rt Ni Np No Nx Nf Na Nh Nq Nj M0 M1 rt2 y1 y2 hy ⟨⟨hP, hQ⟩, hD⟩
  obtain ⟨ex, v, v2, Ni', h1, hex, h2, hI⟩ := b_pair Sj T0 T1 Rd Pg Pt Mk Lk Ck Jd Ld Pr rt Ni Np No Nx Nf Na Nh Nq Nj M0 M1 rt2 y1 y2 hy hP
  refine ⟨ex, v, v2, Ni', h1, hex, h2, ⟨hI, ?_⟩, ?_⟩
  · exact RELq_k hQ (nk_pair _ h2)
  · exact hD
theorem bq_value : p_value QIn1 := by
  intro Sj T0 T1 Rd Pg Pt Mk Lk Ck Jd Ld Pr rt Ni Np No Nx Nf Na Nh Nq Nj M0 M1 rt2 y1 y2 y3 hy ⟨⟨hP, hQ⟩, hD⟩
  obtain ⟨ex, v, v2, Ni', h1, hex, h2, hI⟩ := b_value Sj T0 T1 Rd Pg Pt Mk Lk Ck Jd Ld Pr rt Ni Np No Nx Nf Na Nh Nq Nj M0 M1 rt2 y1 y2 y3 hy hP
  refine ⟨ex, v, v2, Ni', h1, hex, h2, ⟨hI, ?_⟩, ?_⟩
  · exact RELq_k hQ (nk_value _ h2)
  · exact hD
theorem bq_alike : p_alike QIn1 := by
  intro Sj T0 T1 Rd Pg Pt Mk Lk Ck Jd Ld Pr rt Ni Np No Nx Nf Na Nh Nq Nj M0 M1 rt2 y1 y2 ⟨⟨hP, hQ⟩, hD⟩
  obtain ⟨ex, v, v2, Ni', h1, hex, h2, hI⟩ := b_alike Sj T0 T1 Rd Pg Pt Mk Lk Ck Jd Ld Pr rt Ni Np No Nx Nf Na Nh Nq Nj M0 M1 rt2 y1 y2 hP
  refine ⟨ex, v, v2, Ni', h1, hex, h2, ?_, ?_, ⟨hI, ?_⟩, ?_⟩
  · obtain ⟨k1, k2⟩ := rr_alike hP.1.2.1.2.2.2.1 hQ.2.2.2 hP.2.2.2.2.2.2.1.1 hP.2.2.2.2.2.2.1.2.1 hD _ _ h1 h2
    exact congrArg some k1
  · obtain ⟨k1, k2⟩ := rr_alike hP.1.2.1.2.2.2.1 hQ.2.2.2 hP.2.2.2.2.2.2.1.1 hP.2.2.2.2.2.2.1.2.1 hD _ _ h1 h2
    intro z
    exact k2 z
  · exact RELq_k hQ (nk_alike _ h2)
  · exact hD
theorem bq_matches : p_matches QIn1 := by
  intro Sj T0 T1 Rd Pg Pt Mk Lk Ck Jd Ld Pr rt Ni Np No Nx Nf Na Nh Nq Nj M0 M1 rt2 y1 y2 ⟨⟨hP, hQ⟩, hD⟩
  obtain ⟨ex, v, Pg', Pt', v2, Ni', Np', No', Nx', rt2', h1, hex, h2, hI⟩ := b_matches Sj T0 T1 Rd Pg Pt Mk Lk Ck Jd Ld Pr rt Ni Np No Nx Nf Na Nh Nq Nj M0 M1 rt2 y1 y2 hP
  refine ⟨ex, v, Pg', Pt', v2, Ni', Np', No', Nx', rt2', h1, hex, h2, ⟨hI, ?_⟩, ?_⟩
  · exact RELq_k hQ (nk_matches _ h2)
  · exact hD
theorem bq_count : p_count QIn1 := by
  intro Sj T0 T1 Rd Pg Pt Mk Lk Ck Jd Ld Pr rt Ni Np No Nx Nf Na Nh Nq Nj M0 M1 rt2 y1 ⟨⟨hP, hQ⟩, hD⟩
  obtain ⟨ex, v, v2, Ni', h1, hex, h2, hI⟩ := b_count Sj T0 T1 Rd Pg Pt Mk Lk Ck Jd Ld Pr rt Ni Np No Nx Nf Na Nh Nq Nj M0 M1 rt2 y1 hP
  refine ⟨ex, v, v2, Ni', h1, hex, h2, ⟨hI, ?_⟩, ?_⟩
  · exact RELq_k hQ (nk_count _ h2)
  · exact hD
theorem p_ob : p_all QIn1 := ⟨bq_feed, bq_end, bq_wrong, bq_check, bq_fault, bq_validate, bq_pairs, bq_pair, bq_value, bq_alike, bq_matches, bq_count⟩
theorem p_zero : QIn1 z_Sj z_T0 z_T1 z_Rd z_Pg z_Pt z_Mk z_Lk z_Ck z_Jd z_Ld z_Pr 12 z_Ni z_Np z_No z_Nx z_Nf z_Na z_Nh z_Nq z_Nj z_M0 z_M1 0 := ⟨Q_zero, DEEP_0 rfl⟩
