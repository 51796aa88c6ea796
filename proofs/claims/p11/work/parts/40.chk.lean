/-! The reference's check: visit -/
theorem CL_det {X : Nat → Int32} : ∀ (L L' : List Int32) (k : Int32), CL X L k → CL X L' k → L = L' := by
  intro L
  induction L with
  | nil =>
    intro L' k h h'
    cases L' with
    | nil => rfl
    | cons y L' =>
      have h : k = -1 := h
      have := h'.2.1
      rw [h] at this
      exact absurd this (by decide)
  | cons y L ih =>
    intro L' k h h'
    cases L' with
    | nil =>
      have h' : k = -1 := h'
      have := h.2.1
      rw [h'] at this
      exact absurd this (by decide)
    | cons y' L' => rw [h.1, h'.1, ih L' _ h.2.2 h'.2.2]
theorem CH_par {next par : Nat → Int32} {v x : Int32} : ∀ (L : List Int32) (k : Nat) (m : Int32), CL next L m → CH next par v x k m → ∀ y ∈ L, par (gi y) = x := by
  intro L
  induction L with
  | nil => intro k m _ _ y h; cases h
  | cons u L ih =>
    intro k m h h' y hy
    obtain ⟨e, m0, hL⟩ := h
    cases k with
    | zero =>
      have h' : m = -1 := h'
      rw [h'] at m0
      exact absurd m0 (by decide)
    | succ k =>
      obtain ⟨a, b, c, d⟩ := h'
      rcases List.mem_cons.mp hy with h | h
      · rw [h, e]; exact c
      · exact ih k _ hL d y h
/-- the keys while one member's name is looked up -/
def KB (s : SMT) (y : Int32) (a : SNA) (k : Nat) (b : SNA) : Prop := NA_anchors b = NA_anchors a ∧ NA_anchorValue b = NA_anchorValue a ∧ NA_anchorSchema b = NA_anchorSchema a ∧ NA_isSchema b = NA_isSchema a ∧
  (∀ j, j ≠ gi y → NA_key b j = NA_key a j) ∧ (NA_key b (gi y) = NA_key a (gi y) ∨ (0 ≤ NA_key b (gi y) ∧ NA_key b (gi y) ≤ 43 ∧ MKs s (MT_name s (gi y)) (mk_keys (gi (NA_key b (gi y)))))) ∧
  ∀ k', k' < k → MKs s (MT_name s (gi y)) (mk_keys k') → 0 ≤ NA_key b (gi y) ∧ gi (NA_key b (gi y)) = k'
theorem s_b75 {n : Nat} {rec : Int32 → SMT → SNP → SNO → SNF → SNA → Nat → Option TV} {x1 y : Int32} {s : SMT} {Np : SNP} {No : SNO} {Nf : SNF} {Na : SNA} {rt : Nat} (hn : o_big ≤ n) (hI : I_MT s) (hT : T_MT s) (y0 : 0 ≤ y) (y1 : y < MT_values s) (yn : MT_name s (gi y) ≠ -1) :
    o_ok (o_lp n (m_MM_visit_b75 n rec x1 y s Np No Nf rt) ((0:Int32), Na)) (fun q => q.1 ≠ 0 ∧ KB s y Na 44 q.2.2) := by
  obtain ⟨nm0, nm1, nm2, _⟩ := nameOK hT y0 y1 yn
  have gy := o_inV hI y0 y1
  refine o_lpR (z := ((0:Int32), Na)) (P := fun q => KB s y Na 44 q.2.2) (fun z : Int32 × SNA => 0 ≤ z.1 ∧ KB s y Na (gi z.1) z.2) (fun z => o_mu z.1) hn o_muB ⟨show (0:Int32) ≤ 0 by decide, rfl, rfl, rfl, rfl, fun _ _ => rfl, Or.inl rfl, fun k' h => absurd h (Nat.not_lt_zero _)⟩ (fun z hz => ?_)
  obtain ⟨z0, b1, b2, b3, b4, b5, b6, b7⟩ := hz
  unfold m_MM_visit_b75
  have gz := gi_tnc z0
  refine o_okI (fun c => o_okS ⟨fun e => absurd e (Nat.succ_ne_zero 0), fun _ => ⟨b1, b2, b3, b4, b5, b6, fun k' h => b7 k' ?_⟩⟩) (fun c => ?_)
  · have c : (44:Int32) ≤ z.1 := c
    have c := Int32.le_iff_toInt_le.mp c
    have z44 : (44 : Int32).toInt = 44 := rfl
    rw [z44] at c
    omega
  have c : z.1 < 44 := Int32.not_le.mp c
  have ct := Int32.lt_iff_toInt_lt.mp c
  have z44 : (44 : Int32).toInt = 44 := rfl
  rw [z44] at ct
  obtain ⟨p1, p2, p3⟩ := i32p (n := z.1) (by omega) z0
  have gp := gi_tnc p2
  have ge : gi (z.1 + 1) = gi z.1 + 1 := by omega
  have gl : gi z.1 < 44 := by omega
  have go : ∀ w : Int32, w = z.1 + 1 → 0 ≤ w ∧ gi w = gi z.1 + 1 ∧ o_mu w < o_mu z.1 := fun w ew => by rw [ew]; exact ⟨p2, ge, o_muL p3⟩
  have gk : o_in z.1 44 = true := o_inM (m := 44) rfl z0 c
  refine o_okG gy (o_okG gk ?_)
  refine o_okB (s_is_ext hn hI hT nm0 nm1 nm2) ?_
  intro q2 ⟨_, q3, q4⟩
  refine o_okI (fun e => o_okN (fun w ew => ?_)) (fun e => o_okG gy (o_okN (fun w ew => ?_)))
  · obtain ⟨w0, w1, w2⟩ := go w ew
    refine o_okS ⟨fun _ => ⟨⟨w0, b1, b2, b3, b4, b5, b6, fun k' h hk => ?_⟩, w2⟩, fun e => absurd rfl e⟩
    have h : k' < gi w := h
    rw [w1] at h
    by_cases ek : k' = gi z.1
    · rw [ek] at hk
      exact absurd e (q4 hk)
    · exact b7 k' (by omega) hk
  · obtain ⟨w0, w1, w2⟩ := go w ew
    have hm := q3 e
    refine o_okS ⟨fun _ => ⟨⟨w0, b1, b2, b3, b4, fun j hj => ?_, Or.inr ?_, fun k' h hk => ?_⟩, w2⟩, fun e => absurd rfl e⟩
    · show upd (NA_key z.2) (gi y) z.1 j = _
      rw [o_updN hj]; exact b5 j hj
    · show 0 ≤ upd (NA_key z.2) (gi y) z.1 (gi y) ∧ upd (NA_key z.2) (gi y) z.1 (gi y) ≤ 43 ∧ MKs s (MT_name s (gi y)) (mk_keys (gi (upd (NA_key z.2) (gi y) z.1 (gi y))))
      rw [o_updE]
      refine ⟨z0, ?_, hm⟩
      rw [Int32.le_iff_toInt_le]
      have z43 : (43 : Int32).toInt = 43 := rfl
      rw [z43]; omega
    · show 0 ≤ upd (NA_key z.2) (gi y) z.1 (gi y) ∧ gi (upd (NA_key z.2) (gi y) z.1 (gi y)) = k'
      have h : k' < gi w := h
      rw [o_updE]
      exact ⟨z0, MKs_uq gl (by omega) hm hk⟩
theorem KB_KR {s : SMT} {y : Int32} {a b : SNA} (y0 : 0 ≤ y) (h : KB s y a 44 b) : KR s a b := by
  obtain ⟨b1, b2, b3, b4, b5, b6, b7⟩ := h
  refine ⟨fun m m0 m1 => ?_, fun x _ _ hx => by rw [b4]; exact hx⟩
  by_cases e : m = y
  · rw [e]
    rcases b6 with h | ⟨h1, h2, h3⟩
    · exact Or.inl h
    · refine Or.inr ⟨gi (NA_key b (gi y)), ?_, h1, rfl, h3⟩
      have g := gi_tnc h1
      have h2 := Int32.le_iff_toInt_le.mp h2
      have z43 : (43 : Int32).toInt = 43 := rfl
      rw [z43] at h2
      omega
  · exact Or.inl (b5 _ (o_neq m0 y0 e))
theorem KB_KI {s : SMT} {y : Int32} {a b : SNA} {f : SNF} {Es Em : Int32 → Prop} (hT : T_MT s) (y0 : 0 ≤ y) (y1 : y < MT_values s) (yn : MT_name s (gi y) ≠ -1) (hp : NA_isSchema a (gi (MT_parent s (gi y))) ≠ 0) (hK : KI s Es Em f a) (h : KB s y a 44 b) (hpar : ∀ x : Int32, 0 ≤ x → x < MT_values s → MT_kind s (gi x) = 6 → ∀ L, CL (MT_next s) L (MT_first s (gi x)) → ∀ m ∈ L, 0 ≤ m ∧ m < MT_values s) : KI s Es (fun u => Em u ∨ u = y) f b ∧ VIS s (NA_key b) y := by
  have kr := KB_KR y0 h
  obtain ⟨b1, b2, b3, b4, b5, b6, b7⟩ := h
  obtain ⟨k1, k2, k3, k4⟩ := hK
  refine ⟨⟨fun K hK' => ?_, fun m m0 m1 => ?_, fun hf m m0 m1 hk he => ?_, fun x x0 x1 hx he hk L hL m hm => ?_⟩, b7⟩
  · rw [b1, b2, b3]; exact k1 K hK'
  · rw [b4]
    by_cases e : m = y
    · subst e
      rcases b6 with h | ⟨h1, h2, h3⟩
      · rw [h]; exact k2 m m0 m1
      · exact Or.inr ⟨h1, h2, yn, (nameOK hT y0 y1 yn).2.2.2, hp, h3⟩
    · rw [b5 _ (o_neq m0 y0 e)]; exact k2 m m0 m1
  · have e : m ≠ y := fun e => he (Or.inr e)
    rw [b5 _ (o_neq m0 y0 e)] at hk ⊢
    exact k3 hf m m0 m1 hk (fun z => he (Or.inl z))
  · obtain ⟨m0, m1⟩ := hpar x x0 x1 hk L hL m hm
    exact VIS_KR m0 m1 (k4 x x0 x1 (by rw [← b4]; exact hx) he hk L hL m hm) kr
theorem hpar_of {s : SMT} (hI : I_MT s) (hT : T_MT s) : ∀ x : Int32, 0 ≤ x → x < MT_values s → MT_kind s (gi x) = 6 → ∀ L, CL (MT_next s) L (MT_first s (gi x)) → ∀ m ∈ L, 0 ≤ m ∧ m < MT_values s := by
  intro x x0 x1 _ L hL m hm
  obtain ⟨L', c1, c2, c3⟩ := tchain hI hT x0 x1
  rw [CL_det L L' _ hL c1] at hm
  exact (c3 m hm).2
theorem s_MM_visit_F {n : Nat} {rec : Int32 → SMT → SNP → SNO → SNF → SNA → Nat → Option TV} {x1 : Int32} {s : SMT} {Np : SNP} {No : SNO} {Nf : SNF} {Na : SNA} {rt : Nat} {Es Em : Int32 → Prop} (hn : o_big ≤ n) (hI : I_MT s) (hT : T_MT s) (hrec : VRec rec s (x1 + 2)) (x0 : 0 ≤ x1) (xv : x1 < MT_values s) (hP : I_NP Np) (hK : KI s Es Em Nf Na) :
    o_ok (m_MM_visit_F n rec x1 s Np No Nf Na rt) (VPost s Es Em Nf Na) := by
  have gx := o_inV hI x0 xv
  have hpar := hpar_of hI hT
  have j38 : o_ok (m_MM_visit_j38 n rec x1 s Np No Nf Na rt) (VPost s Es Em Nf Na) := by
    unfold m_MM_visit_j38
    refine o_okG gx (o_okG gx (o_okN (fun w ew => ?_)))
    have ew : w = MT_first s (gi x1) := ew
    obtain ⟨Na1, e1⟩ : ∃ a : SNA, a = NA_mk (NA_anchors Na) (NA_key Na) (NA_target Na) (NA_anchorValue Na) (NA_anchorSchema Na) (upd (NA_isSchema Na) (gi x1) (vp_nar .boolean (1:Int32))) := ⟨_, rfl⟩
    have nz : vp_nar .boolean (1:Int32) ≠ 0 := by decide
    have is1 : ∀ j, NA_isSchema Na j ≠ 0 → NA_isSchema Na1 j ≠ 0 := by
      intro j hj
      rw [e1]
      show upd (NA_isSchema Na) (gi x1) (vp_nar .boolean (1:Int32)) j ≠ 0
      by_cases e : j = gi x1
      · rw [e, o_updE]; exact nz
      · rw [o_updN e]; exact hj
    have isx : NA_isSchema Na1 (gi x1) ≠ 0 := by
      rw [e1]
      show upd (NA_isSchema Na) (gi x1) (vp_nar .boolean (1:Int32)) (gi x1) ≠ 0
      rw [o_updE]; exact nz
    have ky : NA_key Na1 = NA_key Na := by rw [e1]
    have K1 : KI s (fun u => Es u ∨ u = x1) Em Nf Na1 := by
      obtain ⟨k1, k2, k3, k4⟩ := hK
      refine ⟨?_, fun m m0 m1 => ?_, by rw [ky]; exact k3, fun x y0 y1 hx he hk L hL m hm => ?_⟩
      · rw [e1]; exact k1
      · rw [ky]
        rcases k2 m m0 m1 with h | ⟨h1, h2, h3, h4, h5, h6⟩
        · exact Or.inl h
        · exact Or.inr ⟨h1, h2, h3, h4, is1 _ h5, h6⟩
      · rw [ky]
        have ne : x ≠ x1 := fun e => he (Or.inr e)
        refine k4 x y0 y1 ?_ (fun z => he (Or.inl z)) hk L hL m hm
        rw [e1] at hx
        have hx : upd (NA_isSchema Na) (gi x1) (vp_nar .boolean (1:Int32)) (gi x) ≠ 0 := hx
        rw [o_updN (o_neq y0 x0 ne)] at hx
        exact hx
    have KR1 : KR s Na Na1 := ⟨fun m _ _ => Or.inl (by rw [ky]), fun x _ _ h => is1 _ h⟩
    have V1 : VPost s (fun u => Es u ∨ u = x1) Em Nf Na (Np, No, Nf, Na1, rt) := ⟨hP, K1, KR1, rfl, fun e => e⟩
    rw [← e1]
    by_cases hk6 : MT_kind s (gi x1) = 6
    · obtain ⟨L, l1, l2, l3⟩ := tchainN hI hT x0 xv hk6
      have N := (hT x1 x0 xv).2.2.2.2.2.2.2.2.2.2 (by have h : MT_kind s x1.toNatClampNeg = 6 := hk6; rw [h]; decide)
      have lp : ∀ y ∈ L, MT_parent s (gi y) = x1 := CH_par L _ _ l1 N.2.2
      refine o_okB (cl_lp (P := fun q => VPost s (fun u => Es u ∨ u = x1) Em Nf Na q.2.2 ∧ ∀ m ∈ L, VIS s (NA_key q.2.2.2.2.2.1) m) (V := fun z : Int32 × TV => z.1) (fun L2 z => ∃ A, L = A ++ L2 ∧ VPost s (fun u => Es u ∨ u = x1) Em Nf Na z.2 ∧ NA_isSchema z.2.2.2.2.1 (gi x1) ≠ 0 ∧ ∀ m ∈ A, VIS s (NA_key z.2.2.2.2.1) m) ?_ ?_ L n (w, Np, No, Nf, Na1, rt) (Nat.lt_of_le_of_lt l2 (Nat.lt_of_lt_of_le (by decide) hn)) (by rw [ew]; exact l1) ⟨[], rfl, V1, isx, fun m h => by cases h⟩) ?_
      · intro L2 z hJ hL e
        rw [e] at hL hJ
        have hz : z.1 = -1 := hL
        obtain ⟨A, hA, hV, _, hA2⟩ := hJ
        rw [List.append_nil] at hA
        rw [← hA] at hA2
        unfold m_MM_visit_b55
        exact o_okI (fun _ => o_okS ⟨Nat.succ_ne_zero 0, hV, hA2⟩) (fun c => absurd (show z.1 < 0 by rw [hz]; decide) c)
      · intro y L2 z hJ ey y0' _
        obtain ⟨A, hA, hV, hs, hA2⟩ := hJ
        have hy : y ∈ L := by rw [hA]; exact List.mem_append_right _ List.mem_cons_self
        obtain ⟨v2, v0, v1, vn⟩ := l3 y hy
        have gy := o_inV hI v0 v1
        have ey : z.1 = y := ey
        have hp : NA_isSchema z.2.2.2.2.1 (gi (MT_parent s (gi y))) ≠ 0 := by rw [lp y hy]; exact hs
        have mem_ok : ∀ m ∈ A, 0 ≤ m ∧ m < MT_values s := fun m hm => ⟨(l3 m (by rw [hA]; exact List.mem_append_left _ hm)).2.1, (l3 m (by rw [hA]; exact List.mem_append_left _ hm)).2.2.1⟩
        have hj : ∀ (t : TV), VPost s (fun u => Es u ∨ u = x1) Em Nf Na t → NA_isSchema t.2.2.2.1 (gi x1) ≠ 0 → (∀ m ∈ A, VIS s (NA_key t.2.2.2.1) m) → VIS s (NA_key t.2.2.2.1) y → o_ok (m_MM_visit_j143 n rec x1 y s t.1 t.2.1 t.2.2.1 t.2.2.2.1 t.2.2.2.2) (fun q => (q.1 = 0 → (∃ A, L = A ++ L2 ∧ VPost s (fun u => Es u ∨ u = x1) Em Nf Na q.2.2 ∧ NA_isSchema q.2.2.2.2.2.1 (gi x1) ≠ 0 ∧ ∀ m ∈ A, VIS s (NA_key q.2.2.2.2.2.1) m) ∧ q.2.1 = MT_next s (gi y)) ∧ (q.1 ≠ 0 → VPost s (fun u => Es u ∨ u = x1) Em Nf Na q.2.2 ∧ ∀ m ∈ L, VIS s (NA_key q.2.2.2.2.2.1) m)) := by
          intro t t1 t2 t3 t4
          unfold m_MM_visit_j143
          refine o_okG gy (o_okN (fun u eu => o_okS ⟨fun _ => ⟨⟨A ++ [y], by rw [hA, List.append_assoc]; rfl, t1, t2, fun m hm => ?_⟩, eu⟩, fun e => absurd rfl e⟩))
          rcases List.mem_append.mp hm with h | h
          · exact t3 m h
          · rcases List.mem_cons.mp h with h | h
            · rw [h]; exact t4
            · cases h
        unfold m_MM_visit_b55
        rw [ey]
        refine o_okI (fun c => absurd v0 (Int32.not_le.mpr c)) (fun _ => ?_)
        refine o_okG gx (o_okI (fun _ => ?_) (fun c => absurd hk6 c))
        refine o_okB (s_b75 hn hI hT v0 v1 vn) ?_
        intro q3 ⟨_, kb⟩
        have kr := KB_KR v0 kb
        obtain ⟨ki, vis⟩ := KB_KI hT v0 v1 vn hp hV.2.1 kb hpar
        have s2 : NA_isSchema q3.2.2 (gi x1) ≠ 0 := kr.2 x1 x0 xv hs
        have va : ∀ m ∈ A, VIS s (NA_key q3.2.2) m := fun m hm => VIS_KR (mem_ok m hm).1 (mem_ok m hm).2 (hA2 m hm) kr
        refine o_okG gy (o_okI (fun c => ?_) (fun c => ?_))
        · have c : NA_key q3.2.2 (gi y) < 0 := c
          refine hj (z.2.1, z.2.2.1, z.2.2.2.1, q3.2.2, z.2.2.2.2.2) ⟨hV.1, ⟨ki.1, ki.2.1, fun hf m m0 m1 hk he => ?_, ki.2.2.2⟩, KR_trans hV.2.2.1 kr, hV.2.2.2.1, hV.2.2.2.2⟩ s2 va vis
          by_cases e : m = y
          · rw [e] at hk
            exact absurd c (Int32.not_lt.mpr hk)
          · refine ki.2.2.1 hf m m0 m1 hk (fun z => ?_)
            rcases z with h | h
            · exact he h
            · exact e h
        · have c : 0 ≤ NA_key q3.2.2 (gi y) := Int32.not_lt.mp c
          have k43 : NA_key q3.2.2 (gi y) ≤ 43 := by
            rcases ki.2.1 y v0 v1 with h | h
            · rw [h] at c; exact absurd c (by decide)
            · exact h.2.1
          refine o_okG gy ?_
          refine o_okB (s_MM_keyword (b := x1 + 2) hn hI hT hrec v0 v1 v2 x0 xv k43 hV.1 ki) ?_
          intro q4 ⟨hq, hkk⟩
          have kr2 := KR_trans kr hq.2.2.1
          have key_eq : NA_key q4.2.2.2.1 (gi y) = NA_key q3.2.2 (gi y) := by
            rcases hq.2.2.1.1 y v0 v1 with h | ⟨k', k1', k2', k3', k4'⟩
            · exact h
            · have mk : MKs s (MT_name s (gi y)) (mk_keys (gi (NA_key q3.2.2 (gi y)))) := by
                rcases ki.2.1 y v0 v1 with h | h
                · rw [h] at c; exact absurd c (by decide)
                · exact h.2.2.2.2.2
              have gl : gi (NA_key q3.2.2 (gi y)) < 44 := by
                have g := gi_tnc c
                have h2 := Int32.le_iff_toInt_le.mp k43
                have z43 : (43 : Int32).toInt = 43 := rfl
                rw [z43] at h2
                omega
              have e := MKs_uq k1' gl k4' mk
              have g1 := gi_tnc k2'
              have g2 := gi_tnc c
              apply Int32.toInt_inj.mp
              omega
          refine hj q4 ⟨hq.1, ⟨hq.2.1.1, hq.2.1.2.1, fun hf m m0 m1 hk he => ?_, hq.2.1.2.2.2⟩, KR_trans hV.2.2.1 kr2, hq.2.2.2.1.trans hV.2.2.2.1, fun e => hV.2.2.2.2 (hq.2.2.2.2 e)⟩ (hq.2.2.1.2 x1 x0 xv s2) (fun m hm => VIS_KR (mem_ok m hm).1 (mem_ok m hm).2 (va m hm) hq.2.2.1) (VIS_KR v0 v1 vis hq.2.2.1)
          by_cases e : m = y
          · rw [e, key_eq]; exact hkk hf
          · refine hq.2.1.2.2.1 hf m m0 m1 hk (fun z => ?_)
            rcases z with h | h
            · exact he h
            · exact e h
      · intro q ⟨_, hV, hv⟩
        refine o_okS ⟨hV.1, ⟨hV.2.1.1, hV.2.1.2.1, hV.2.1.2.2.1, fun x y0 y1 hx he hk L' hL' m hm => ?_⟩, hV.2.2.1, hV.2.2.2.1, hV.2.2.2.2⟩
        by_cases e : x = x1
        · subst e
          rw [CL_det L' L _ hL' l1] at hm
          exact hv m hm
        · exact hV.2.1.2.2.2 x y0 y1 hx (fun z => by
            rcases z with h | h
            · exact he h
            · exact e h) hk L' hL' m hm
    · have VF : VPost s Es Em Nf Na (Np, No, Nf, Na1, rt) := by
        refine ⟨hP, ⟨K1.1, K1.2.1, K1.2.2.1, fun x y0 y1 hx he hk L' hL' m hm => ?_⟩, KR1, rfl, fun e => e⟩
        have ne : x ≠ x1 := fun e => hk6 (by rw [← e]; exact hk)
        exact K1.2.2.2 x y0 y1 hx (fun z => by
          rcases z with h | h
          · exact he h
          · exact ne h) hk L' hL' m hm
      obtain ⟨M, rfl⟩ : ∃ M, n = M + 1 := ⟨n - 1, by have : 0 < n := Nat.lt_of_lt_of_le (by decide) hn; omega⟩
      refine o_okB (Q := fun q => VPost s Es Em Nf Na q.2.2) (lp_stop ?_) ?_
      · unfold m_MM_visit_b55
        refine o_okI (fun _ => o_okS ⟨Nat.succ_ne_zero 0, VF⟩) (fun _ => ?_)
        exact o_okG gx (o_okI (fun c => absurd c hk6) (fun _ => o_okS ⟨Nat.succ_ne_zero 0, VF⟩))
      · intro q hq
        exact o_okS hq
  unfold m_MM_visit_F
  refine o_okG gx ?_
  refine o_okB s_MM_in ?_
  intro q1 _
  refine o_okI (fun _ => ?_) (fun _ => j38)
  refine o_okG gx (o_okI (fun _ => j38) (fun _ => ?_))
  refine o_okB (s_MM_fault (by decide)) ?_
  intro q6 ⟨f1, f2⟩
  exact o_okS ⟨hP, KI_f hK (fun e => absurd e f1), KR_rfl, f2, fun e => absurd e f1⟩
theorem s_MM_visit {n : Nat} {s : SMT} (hn : o_big ≤ n) (hI : I_MT s) (hT : T_MT s) : ∀ (d : Nat) (b : Int32), 0 ≤ b → 1001 ≤ b.toInt + 2 * d → VRec (m_MM_visit n d) s b := by
  have hv := Int32.le_iff_toInt_le.mp hI.2.1
  have z1 : (1000 : Int32).toInt = 1000 := rfl
  rw [z1] at hv
  intro d
  induction d with
  | zero =>
    intro b b0 hd x bx x0 xv
    have h1 := Int32.le_iff_toInt_le.mp bx
    have h2 := Int32.lt_iff_toInt_lt.mp xv
    exfalso; omega
  | succ d ih =>
    intro b b0 hd x bx x0 xv Es Em Np No Nf Na rt hP hK
    have h1 := Int32.le_iff_toInt_le.mp bx
    have h2 := Int32.lt_iff_toInt_lt.mp xv
    have x2 : (x + 2).toInt = x.toInt + 2 := by
      have z2 : (2 : Int32).toInt = 2 := rfl
      have h0 := Int32.le_iff_toInt_le.mp x0
      have z0 : (0 : Int32).toInt = 0 := rfl
      rw [z0] at h0
      rw [Int32.toInt_add, z2]
      apply Int.bmod_eq_of_le <;> omega
    have x20 : 0 ≤ x + 2 := by
      have h0 := Int32.le_iff_toInt_le.mp x0
      have z0 : (0 : Int32).toInt = 0 := rfl
      rw [z0] at h0
      rw [Int32.le_iff_toInt_le, x2, z0]; omega
    show o_ok (m_MM_visit_F n (m_MM_visit n d) x s Np No Nf Na rt) _
    exact s_MM_visit_F hn hI hT (ih (x + 2) x20 (by omega)) x0 xv hP hK
