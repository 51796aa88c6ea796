/-! The reference's check: keyword, visit -/
theorem KOK_any {s : SMT} {m k : Int32} (h1 : 15 ≤ k → k ≤ 17 → MT_kind s (gi m) = 6) (h2 : 18 ≤ k → k ≤ 22 → MT_kind s (gi m) = 3) (h3 : k = 22 → MT_many s (gi m) ≠ 0) (h4 : 23 ≤ k → k ≤ 30 → MT_kind s (gi m) = 3) (h5 : 31 ≤ k → k ≤ 32 → MT_kind s (gi m) = 4) (h6 : k ≠ 38) (h7 : k ≠ 39) : KOK s m k := ⟨h1, h2, h3, h4, h5, fun e => absurd e h6, fun e => absurd e h7⟩
theorem KOK_lo {s : SMT} {m k : Int32} (h : k ≤ 14) : KOK s m k := by
  refine KOK_any (fun a _ => ?_) (fun a _ => ?_) (fun a => ?_) (fun a _ => ?_) (fun a _ => ?_) ?_ ?_
  all_goals (first | (exfalso; grind) | grind)
theorem KOK_obj {s : SMT} {m k : Int32} (h : 14 ≤ k) (h2 : k ≤ 17) (hk : MT_kind s (gi m) = 6) : KOK s m k := by
  refine KOK_any (fun _ _ => hk) (fun a _ => ?_) (fun a => ?_) (fun a _ => ?_) (fun a _ => ?_) ?_ ?_
  all_goals (clear hk; first | (exfalso; grind) | grind)
theorem KOK_num {s : SMT} {m k : Int32} (h : 18 ≤ k) (h2 : k ≤ 22) (hk : MT_kind s (gi m) = 3) (hm : k = 22 → MT_many s (gi m) ≠ 0) : KOK s m k := by
  refine KOK_any (fun _ a => ?_) (fun _ _ => hk) hm (fun a _ => ?_) (fun a _ => ?_) ?_ ?_
  all_goals (clear hk hm; first | (exfalso; grind) | grind)
theorem KOK_int {s : SMT} {m k : Int32} (h : 23 ≤ k) (h2 : k ≤ 30) (hk : MT_kind s (gi m) = 3) : KOK s m k := by
  refine KOK_any (fun _ a => ?_) (fun _ a => ?_) (fun a => ?_) (fun _ _ => hk) (fun a _ => ?_) ?_ ?_
  all_goals (clear hk; first | (exfalso; grind) | grind)
theorem KOK_str {s : SMT} {m k : Int32} (h : 31 ≤ k) (h2 : k ≤ 32) (hk : MT_kind s (gi m) = 4) : KOK s m k := by
  refine KOK_any (fun _ a => ?_) (fun _ a => ?_) (fun a => ?_) (fun _ a => ?_) (fun _ _ => hk) ?_ ?_
  all_goals (clear hk; first | (exfalso; grind) | grind)
theorem KOK_hi {s : SMT} {m k : Int32} (h : 33 ≤ k) (h6 : k ≠ 38) (h7 : k ≠ 39) : KOK s m k := by
  refine KOK_any (fun _ a => ?_) (fun _ a => ?_) (fun a => ?_) (fun _ a => ?_) (fun _ a => ?_) h6 h7
  all_goals (exfalso; grind)
theorem KOK_38 {s : SMT} {m : Int32} (h : ASTR s m) : KOK s m 38 := ⟨fun _ a => absurd a (by decide), fun _ a => absurd a (by decide), fun a => absurd a (by decide), fun _ a => absurd a (by decide), fun _ a => absurd a (by decide), fun _ => h, fun a => absurd a (by decide)⟩
theorem KOK_39 {s : SMT} {m : Int32} (h : MT_kind s (gi m) = 6 ∧ ∃ L, CL (MT_next s) L (MT_first s (gi m)) ∧ ∀ c ∈ L, ASTR s c) : KOK s m 39 := ⟨fun _ a => absurd a (by decide), fun _ a => absurd a (by decide), fun a => absurd a (by decide), fun _ a => absurd a (by decide), fun _ a => absurd a (by decide), fun a => absurd a (by decide), fun _ => h⟩
abbrev TV : Type := SNP × SNO × SNF × SNA × Nat
def VPost (s : SMT) (Es Em : Int32 → Prop) (f : SNF) (a : SNA) (r : TV) : Prop := I_NP r.1 ∧ KI s Es Em r.2.2.1 r.2.2.2.1 ∧ KR s a r.2.2.2.1 ∧ NF_checked r.2.2.1 = NF_checked f ∧ (NF_faultKind r.2.2.1 = 0 → NF_faultKind f = 0)
theorem VPost_trans {s : SMT} {Es Em Es' Em' : Int32 → Prop} {f : SNF} {a : SNA} {r t : TV} (h : VPost s Es Em f a r) (g : VPost s Es' Em' r.2.2.1 r.2.2.2.1 t) : VPost s Es' Em' f a t := ⟨g.1, g.2.1, KR_trans h.2.2.1 g.2.2.1, g.2.2.2.1.trans h.2.2.2.1, fun e => h.2.2.2.2 (g.2.2.2.2 e)⟩
def VRec (rec : Int32 → SMT → SNP → SNO → SNF → SNA → Nat → Option TV) (s : SMT) (b : Int32) : Prop := ∀ x : Int32, b ≤ x → 0 ≤ x → x < MT_values s → ∀ (Es Em : Int32 → Prop) (Np : SNP) (No : SNO) (Nf : SNF) (Na : SNA) (rt : Nat), I_NP Np → KI s Es Em Nf Na → o_ok (rec x s Np No Nf Na rt) (VPost s Es Em Nf Na)
theorem nameOK {s : SMT} {y : Int32} (hT : T_MT s) (y0 : 0 ≤ y) (y1 : y < MT_values s) (hn : MT_name s (gi y) ≠ -1) : 0 ≤ MT_name s (gi y) ∧ MT_name s (gi y) < MT_values s ∧ MT_kind s (gi (MT_name s (gi y))) = 4 ∧ 0 < y := by
  rcases (hT y y0 y1).2.2.2.1 with e | ⟨a, b, c⟩
  · exact absurd e hn
  · exact ⟨a, Int32.lt_trans b y1, c, Int32.lt_of_le_of_lt a b⟩
theorem s_MM_keyword {n : Nat} {rec : Int32 → SMT → SNP → SNO → SNF → SNA → Nat → Option TV} {k m x3 b : Int32} {s : SMT} {Np : SNP} {No : SNO} {Nf : SNF} {Na : SNA} {rt : Nat} {Es Em : Int32 → Prop} (hn : o_big ≤ n) (hI : I_MT s) (hT : T_MT s) (hrec : VRec rec s b) (m0 : 0 ≤ m) (m1 : m < MT_values s) (bm : b ≤ m) (y0 : 0 ≤ x3) (y1 : x3 < MT_values s) (k1 : k ≤ 43) (hP : I_NP Np) (hK : KI s Es Em Nf Na) :
    o_ok (m_MM_keyword n rec k m x3 s Np No Nf Na rt) (fun r => VPost s Es Em Nf Na r ∧ (NF_faultKind r.2.2.1 = 0 → KOK s m k)) := by
  have gm := o_inV hI m0 m1
  have hlen : ∀ L : List Int32, L.length ≤ 2000 → L.length < n := fun L h => Nat.lt_of_le_of_lt h (Nat.lt_of_lt_of_le (by decide) hn)
  have fin : ∀ (Np' : SNP) (No' : SNO) (rt' : Nat), I_NP Np' → KOK s m k → o_ok (some ((Np', No', Nf, Na, rt') : TV)) (fun r => VPost s Es Em Nf Na r ∧ (NF_faultKind r.2.2.1 = 0 → KOK s m k)) := fun Np' No' rt' h1 h2 => o_okS ⟨⟨h1, hK, KR_rfl, rfl, fun e => e⟩, fun _ => h2⟩
  have finF : ∀ (Np' : SNP) (No' : SNO) (f : SNF) (rt' : Nat), I_NP Np' → NF_faultKind f ≠ 0 → NF_checked f = NF_checked Nf → o_ok (some ((Np', No', f, Na, rt') : TV)) (fun r => VPost s Es Em Nf Na r ∧ (NF_faultKind r.2.2.1 = 0 → KOK s m k)) := fun Np' No' f rt' h1 h2 h3 => o_okS ⟨⟨h1, KI_f hK (fun e => absurd e h2), KR_rfl, h3, fun e => absurd e h2⟩, fun e => absurd e h2⟩
  have ft : ∀ (c v : Int32) (Np' : SNP) (No' : SNO) (rt' : Nat), c ≠ 0 → I_NP Np' → o_ok (o_bd (m_MM_fault c v Nf) fun q => some ((Np', No', q, Na, rt') : TV)) (fun r => VPost s Es Em Nf Na r ∧ (NF_faultKind r.2.2.1 = 0 → KOK s m k)) := by
    intro c v Np' No' rt' hc h1
    refine o_okB (s_MM_fault hc) ?_
    intro q ⟨f1, f2⟩
    exact finF Np' No' q rt' h1 f1 f2
  have j283 : o_ok (m_MM_keyword_j283 n rec m s Np No Nf Na rt) (fun r => VPost s Es Em Nf Na r ∧ (NF_faultKind r.2.2.1 = 0 → KOK s m k)) := by
    unfold m_MM_keyword_j283; exact ft 1 m Np No rt (by decide) hP
  have j234 : o_ok (m_MM_keyword_j234 n rec m s Np No Nf Na rt) (fun r => VPost s Es Em Nf Na r ∧ (NF_faultKind r.2.2.1 = 0 → KOK s m k)) := by
    unfold m_MM_keyword_j234; exact ft 1 m Np No rt (by decide) hP
  have j49 : o_ok (m_MM_keyword_j49 n rec m s Np No Nf Na rt) (fun r => VPost s Es Em Nf Na r ∧ (NF_faultKind r.2.2.1 = 0 → KOK s m k)) := by
    unfold m_MM_keyword_j49; exact ft 1 m Np No rt (by decide) hP
  have V0 : VPost s Es Em Nf Na (Np, No, Nf, Na, rt) := ⟨hP, hK, KR_rfl, rfl, fun e => e⟩
  unfold m_MM_keyword
  refine o_okG gm (o_okN (fun kd ek => ?_))
  have ek : kd = MT_kind s (gi m) := ek
  refine o_okI (fun c10 => ?_) (fun c10 => ?_)
  rotate_left
  · refine o_okB (hrec m bm m0 m1 Es Em Np No Nf Na rt hP hK) ?_
    intro q hq
    exact o_okS ⟨hq, fun _ => KOK_lo (by clear ft fin finF j283 j234 j49 hrec hK V0; grind)⟩
  refine o_okI (fun c14 => ?_) (fun c14 => ?_)
  rotate_left
  · refine o_okI (fun c5 => ?_) (fun _ => j49)
    refine o_okG gm (o_okI (fun _ => j49) (fun _ => ?_))
    obtain ⟨L, l1, l2, l3⟩ := tchain hI hT m0 m1
    refine o_okG gm (o_okN (fun w ew => ?_))
    have ew : w = MT_first s (gi m) := ew
    refine o_okB (cl_lp (P := fun q => VPost s Es Em Nf Na q.2.2) (V := fun z : Int32 × TV => z.1) (fun L2 z => VPost s Es Em Nf Na z.2 ∧ ∀ y ∈ L2, y ∈ L) ?_ ?_ L n (w, Np, No, Nf, Na, rt) (hlen L l2) (by rw [ew]; exact l1) ⟨V0, fun y h => h⟩) ?_
    · intro L2 z hJ hL e
      rw [e] at hL
      have hz : z.1 = -1 := hL
      unfold m_MM_keyword_b69
      exact o_okI (fun _ => o_okS ⟨Nat.succ_ne_zero 0, hJ.1⟩) (fun c => absurd (show z.1 < 0 by rw [hz]; decide) c)
    · intro y L2 z hJ ey y0' _
      obtain ⟨hV, hL2⟩ := hJ
      have hy := hL2 y List.mem_cons_self
      obtain ⟨v2, v0, v1⟩ := l3 y hy
      have ey : z.1 = y := ey
      unfold m_MM_keyword_b69
      rw [ey]
      refine o_okI (fun c => absurd v0 (Int32.not_le.mpr c)) (fun _ => ?_)
      refine o_okB (hrec y (Int32.le_trans bm (Int32.le_of_lt v2)) v0 v1 Es Em _ _ _ _ _ hV.1 hV.2.1) ?_
      intro q hq
      exact o_okG (o_inV hI v0 v1) (o_okN (fun u eu => o_okS ⟨fun _ => ⟨⟨VPost_trans hV hq, fun w hw => hL2 w (List.mem_cons_of_mem _ hw)⟩, eu⟩, fun e => absurd rfl e⟩))
    · intro q ⟨_, hq⟩
      exact o_okS ⟨hq, fun _ => KOK_lo (by clear ft fin finF j283 j234 j49 hrec hK V0 hq; grind)⟩
  refine o_okI (fun c18 => ?_) (fun c18 => ?_)
  rotate_left
  · refine o_okI (fun c6 => ?_) (fun _ => ft 1 m Np No rt (by decide) hP)
    have k6 : MT_kind s (gi m) = 6 := ek.symm.trans c6
    obtain ⟨L, l1, l2, l3⟩ := tchainN hI hT m0 m1 k6
    have m2 : ∀ y : Int32, m + 2 ≤ y → m ≤ y := by
      intro y hy
      have := Int32.lt_of_lt_of_le m1 hI.2.1
      clear ft fin finF j283 j234 j49 hrec hK V0 l3 hI hT
      grind
    refine o_okG gm (o_okN (fun w ew => ?_))
    have ew : w = MT_first s (gi m) := ew
    refine o_okB (cl_lp (P := fun q => VPost s Es Em Nf Na q.2.2) (V := fun z : Int32 × TV => z.1) (fun L2 z => VPost s Es Em Nf Na z.2 ∧ ∀ y ∈ L2, y ∈ L) ?_ ?_ L n (w, Np, No, Nf, Na, rt) (hlen L l2) (by rw [ew]; exact l1) ⟨V0, fun y h => h⟩) ?_
    · intro L2 z hJ hL e
      rw [e] at hL
      have hz : z.1 = -1 := hL
      unfold m_MM_keyword_b129
      exact o_okI (fun _ => o_okS ⟨Nat.succ_ne_zero 0, hJ.1⟩) (fun c => absurd (show z.1 < 0 by rw [hz]; decide) c)
    · intro y L2 z hJ ey y0' _
      obtain ⟨hV, hL2⟩ := hJ
      have hy := hL2 y List.mem_cons_self
      obtain ⟨v2, v0, v1, vn⟩ := l3 y hy
      obtain ⟨nm0, nm1, nm2, _⟩ := nameOK hT v0 v1 vn
      have gy := o_inV hI v0 v1
      have ey : z.1 = y := ey
      have j168 : ∀ (Np' : SNP) (No' : SNO) (f : SNF) (rt' : Nat), VPost s Es Em Nf Na (Np', No', f, z.2.2.2.2.1, rt') → o_ok (m_MM_keyword_j168 n rec k y s Np' No' f z.2.2.2.2.1 rt') (fun q => (q.1 = 0 → (VPost s Es Em Nf Na q.2.2 ∧ ∀ u ∈ L2, u ∈ L) ∧ q.2.1 = MT_next s (gi y)) ∧ (q.1 ≠ 0 → VPost s Es Em Nf Na q.2.2)) := by
        intro Np' No' f rt' h
        unfold m_MM_keyword_j168
        refine o_okB (hrec y (Int32.le_trans bm (m2 y v2)) v0 v1 Es Em _ _ _ _ _ h.1 h.2.1) ?_
        intro q hq
        exact o_okG gy (o_okN (fun u eu => o_okS ⟨fun _ => ⟨⟨VPost_trans h hq, fun w hw => hL2 w (List.mem_cons_of_mem _ hw)⟩, eu⟩, fun e => absurd rfl e⟩))
      unfold m_MM_keyword_b129
      rw [ey]
      refine o_okI (fun c => absurd v0 (Int32.not_le.mpr c)) (fun _ => ?_)
      refine o_okI (fun _ => ?_) (fun _ => j168 _ _ _ _ hV)
      refine o_okG gy ?_
      refine o_okB (s_MM_isPattern hn hI hT nm0 nm1 nm2 hV.1) ?_
      intro q ⟨_, q2, _, _⟩
      refine o_okI (fun _ => ?_) (fun _ => j168 _ _ _ _ ⟨q2, hV.2⟩)
      refine o_okB (s_MM_fault (by decide)) ?_
      intro q' ⟨f1, f2⟩
      exact j168 _ _ _ _ ⟨q2, KI_f hV.2.1 (fun e => absurd e f1), hV.2.2.1, f2.trans hV.2.2.2.1, fun e => absurd e f1⟩
    · intro q ⟨_, hq⟩
      exact o_okS ⟨hq, fun _ => KOK_obj c14 (by clear ft fin finF j283 j234 j49 hrec hK V0 hq; grind) k6⟩
  refine o_okI (fun c23 => ?_) (fun c23 => ?_)
  rotate_left
  · refine o_okI (fun c3 => ?_) (fun _ => j234)
    have k3 : MT_kind s (gi m) = 3 := ek.symm.trans c3
    have c22 : k ≤ 22 := by clear ft fin finF j283 j234 j49 hrec hK V0; grind
    refine o_okI (fun _ => ?_) (fun ne => fin Np No rt hP (KOK_num c18 c22 k3 (fun e => absurd e ne)))
    refine o_okG gm (o_okI (fun _ => j234) (fun nz => ?_))
    exact o_okG gm (o_okI (fun _ => fin Np No rt hP (KOK_num c18 c22 k3 (fun _ => nz))) (fun _ => j234))
  refine o_okI (fun c31 => ?_) (fun c31 => ?_)
  rotate_left
  · refine o_okB (s_MT_isWhole hI hT m0 m1) ?_
    intro q15 ⟨_, hw⟩
    refine o_okI (fun _ => j283) (fun c => ?_)
    obtain ⟨k3, _⟩ := hw c
    refine o_okG gm (o_okI (fun _ => ?_) (fun _ => j283))
    refine o_okB (s_MM_intOf hn hI hT m0 m1 k3) ?_
    intro q17 _
    exact o_okI (fun _ => fin Np No rt hP (KOK_int c23 (by clear ft fin finF j283 j234 j49 hrec hK V0; grind) k3)) (fun _ => j283)
  refine o_okI (fun e31 => ?_) (fun n31 => ?_)
  · refine o_okI (fun c4 => ?_) (fun _ => ft 1 m Np No rt (by decide) hP)
    have k4 : MT_kind s (gi m) = 4 := ek.symm.trans c4
    refine o_okB (s_MM_isPattern hn hI hT m0 m1 k4 hP) ?_
    intro q12 ⟨_, q2, _, _⟩
    exact o_okI (fun _ => ft 4 m _ _ _ (by decide) q2) (fun _ => fin _ _ _ q2 (KOK_str (by rw [e31]; decide) (by rw [e31]; decide) k4))
  refine o_okI (fun e32 => ?_) (fun n32 => ?_)
  · refine o_okI (fun c4 => ?_) (fun _ => ft 1 m Np No rt (by decide) hP)
    exact fin Np No rt hP (KOK_str (by rw [e32]; decide) (by rw [e32]; decide) (ek.symm.trans c4))
  have c33 : 33 ≤ k := by clear ft fin finF j283 j234 j49 hrec hK V0; grind
  refine o_okI (fun e33 => ?_) (fun n33 => ?_)
  · refine o_okB (s_MM_anchor hn hI hT m0 m1 y0 y1 hK.1) ?_
    intro q ⟨f1, f2, f3, f4, f5, f6⟩
    have kr : KR s Na q.2 := ⟨fun u _ _ => Or.inl (by rw [f4]), fun u _ _ h => by rw [f5]; exact h⟩
    have ki : KI s Es Em Nf q.2 := ⟨f3, by rw [f4, f5]; exact hK.2.1, by rw [f4]; exact hK.2.2.1, by rw [f4, f5]; exact hK.2.2.2⟩
    have hh : KOK s m k := KOK_hi c33 (by rw [e33]; decide) (by rw [e33]; decide)
    refine o_okS ⟨⟨hP, ?_, kr, f2, ?_⟩, fun _ => hh⟩
    · show KI s Es Em q.1 q.2
      rcases f1 with h | h
      · rw [h]; exact ki
      · exact KI_f ki (fun e => absurd e h)
    · show NF_faultKind q.1 = 0 → NF_faultKind Nf = 0
      rcases f1 with h | h
      · rw [h]; exact fun e => e
      · exact fun e => absurd e h
  refine o_okI (fun e34 => ?_) (fun n34 => ?_)
  · refine o_okB (s_MM_type hn hI hT m0 m1) ?_
    intro q ⟨f1, f2⟩
    rcases f1 with h | h
    · rw [h]; exact fin Np No rt hP (KOK_hi c33 (by rw [e34]; decide) (by rw [e34]; decide))
    · exact finF Np No q rt hP h f2
  refine o_okI (fun e35 => ?_) (fun n35 => ?_)
  · exact o_okI (fun _ => fin Np No rt hP (KOK_hi c33 (by rw [e35]; decide) (by rw [e35]; decide))) (fun _ => ft 1 m Np No rt (by decide) hP)
  refine o_okI (fun e37 => ?_) (fun n37 => ?_)
  · refine o_okB s_MM_in ?_
    intro q6 _
    exact o_okI (fun _ => ft 1 m Np No rt (by decide) hP) (fun _ => fin Np No rt hP (KOK_hi c33 (by rw [e37]; decide) (by rw [e37]; decide)))
  refine o_okI (fun e38 => ?_) (fun n38 => ?_)
  · refine o_okB (s_MM_strings hn hI hT m0 m1) ?_
    intro q ⟨f1, f2⟩
    rcases f1 with ⟨h, h2⟩ | h
    · rw [h]; exact fin Np No rt hP (by rw [e38]; exact KOK_38 h2)
    · exact finF Np No q rt hP h f2
  refine o_okI (fun e39 => ?_) (fun n39 => ?_)
  · refine o_okI (fun c6 => ?_) (fun _ => ft 1 m Np No rt (by decide) hP)
    have k6 : MT_kind s (gi m) = 6 := ek.symm.trans c6
    obtain ⟨L, l1, l2, l3⟩ := tchain hI hT m0 m1
    refine o_okG gm (o_okN (fun w ew => ?_))
    have ew : w = MT_first s (gi m) := ew
    refine o_okB (cl_lp (P := fun q => ((q.2.2 = Nf ∧ ∀ y ∈ L, ASTR s y) ∨ NF_faultKind q.2.2 ≠ 0) ∧ NF_checked q.2.2 = NF_checked Nf) (V := fun z : Int32 × SNF => z.1) (fun L2 z => (∃ A, L = A ++ L2 ∧ ((z.2 = Nf ∧ ∀ y ∈ A, ASTR s y) ∨ NF_faultKind z.2 ≠ 0)) ∧ NF_checked z.2 = NF_checked Nf) ?_ ?_ L n (w, Nf) (hlen L l2) (by rw [ew]; exact l1) ⟨⟨[], rfl, Or.inl ⟨rfl, fun y h => by cases h⟩⟩, rfl⟩) ?_
    · intro L2 z hJ hL e
      rw [e] at hL hJ
      have hz : z.1 = -1 := hL
      obtain ⟨⟨A, hA, hA2⟩, hc⟩ := hJ
      rw [List.append_nil] at hA
      rw [← hA] at hA2
      unfold m_MM_keyword_b477
      exact o_okI (fun _ => o_okS ⟨Nat.succ_ne_zero 0, hA2, hc⟩) (fun c => absurd (show z.1 < 0 by rw [hz]; decide) c)
    · intro y L2 z hJ ey y0' _
      obtain ⟨⟨A, hA, hA2⟩, hc⟩ := hJ
      have hy : y ∈ L := by rw [hA]; exact List.mem_append_right _ List.mem_cons_self
      obtain ⟨v2, v0, v1⟩ := l3 y hy
      have ey : z.1 = y := ey
      unfold m_MM_keyword_b477
      rw [ey]
      refine o_okI (fun c => absurd v0 (Int32.not_le.mpr c)) (fun _ => ?_)
      refine o_okB (s_MM_strings hn hI hT v0 v1) ?_
      intro q ⟨f1, f2⟩
      refine o_okG (o_inV hI v0 v1) (o_okN (fun u eu => o_okS ⟨fun _ => ⟨⟨⟨A ++ [y], by rw [hA, List.append_assoc]; rfl, ?_⟩, f2.trans hc⟩, eu⟩, fun e => absurd rfl e⟩))
      show (q = Nf ∧ ∀ w ∈ A ++ [y], ASTR s w) ∨ NF_faultKind q ≠ 0
      rcases f1 with ⟨h, h2⟩ | h
      · rcases hA2 with ⟨g1, g2⟩ | g
        · refine Or.inl ⟨h.trans g1, fun w hw => ?_⟩
          rcases List.mem_append.mp hw with h | h
          · exact g2 w h
          · rcases List.mem_cons.mp h with h | h
            · rw [h]; exact h2
            · cases h
        · exact Or.inr (by rw [h]; exact g)
      · exact Or.inr h
    · intro q ⟨_, h3, h4⟩
      rcases h3 with ⟨h, h2⟩ | h
      · rw [h]; exact fin Np No rt hP (by rw [e39]; exact KOK_39 ⟨k6, L, l1, h2⟩)
      · exact finF Np No _ rt hP h h4
  · exact o_okI (fun _ => fin Np No rt hP (KOK_hi c33 n38 n39)) (fun _ => ft 2 m Np No rt (by decide) hP)
