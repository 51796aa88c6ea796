set_option maxHeartbeats 4000000 in
set_option maxRecDepth 100000 in
theorem f_MM_dependent_j82 {E : (Nat → Prop) → State → Heap → Prop} {p : Program} {l : Launch} {e : Env} {s : State} {m : MethodId} {args : Array Value} {below : List Frame} {meth : Method} {c : Code} {D : va_G} {ad kd sd vd xd : Nat → Nat} {ca : Nat → ClassId} {A : Nat → Prop} {ky ty : Nat → Option Nat} {Q : State → Prop} (hE : o_EK E kd sd vd xd) (hKy : m_KY ky ty sd) (C : o_Cx E p s m args meth c D m_cls (m_tys ca) "SchemaJudgeModel" b_MM_dependent (some .boolean) 7 cc_MM_dependent A) (hDD : ∀ (rt : Nat) (Ni : SNI) (Np : SNP) (No : SNO) (Nx : SNX) (Nf : SNF) (Na : SNA) (Nh : SNH) (Nq : SNQ) (Nj : SNJ) (M0 : SMT) (M1 : SMT), va_D A (m_cw ad ca ky ty rt Ni Np No Nx Nf Na Nh Nq Nj M0 M1)) (d : Nat) (rec : Int32 → Int32 → SMT → SMT → SNP → SNO → SNX → SNA → SNQ → SNJ → Nat → Option (Int32 × SMT × SNP × SNO × SNX × SNQ × SNJ × Nat)) (hrec : ∀ (x1 : Int32) (x2 : Int32) (M0 : SMT) (M1 : SMT) (Np : SNP) (No : SNO) (Nx : SNX) (Na : SNA) (Nq : SNQ) (Nj : SNJ) (rt : Nat) (Ni : SNI) (Nf : SNF) (Nh : SNH) (r : Int32 × SMT × SNP × SNO × SNX × SNQ × SNJ × Nat), rec x1 x2 M0 M1 Np No Nx Na Nq Nj rt = some r → o_Cn E l D m_cls (m_tys ca) y_MM_judge cc_MM_judge (rm_MM_judge d) [.ref (ad 0), .int x1, .int x2] (m_cw ad ca ky ty rt Ni Np No Nx Nf Na Nh Nq Nj M0 M1) (m_cw ad ca ky ty r.2.2.2.2.2.2.2 Ni r.2.2.1 r.2.2.2.1 r.2.2.2.2.1 Nf Na Nh r.2.2.2.2.2.1 r.2.2.2.2.2.2.1 M0 r.2.1) (some (.int r.1))) (n : Nat) (u19_x2 : Int32) (u19_M0 : SMT) (u19_Na : SNA) (u19_Ni : SNI) (u19_Nf : SNF) (u19_Nh : SNH) (x3 : Int64) (x5 : Int32) (x6 : Int32) (M1 : SMT) (Np : SNP) (No : SNO) (Nx : SNX) (Nq : SNQ) (Nj : SNJ) (rt : Nat) {q : Nat × Int64 × Int32 × Int32 × SMT × SNP × SNO × SNX × SNQ × SNJ × Nat} (h : m_MM_dependent_j82 n rec u19_x2 x3 x5 x6 u19_M0 M1 Np No Nx u19_Na Nq Nj rt = some q) (h0 : q.1 = 0 → o_At p l e (rm_MM_dependent d) s m args below meth c Q m_cls D A 7 19 [] (m_cw ad ca ky ty q.2.2.2.2.2.2.2.2.2.2 u19_Ni q.2.2.2.2.2.1 q.2.2.2.2.2.2.1 q.2.2.2.2.2.2.2.1 u19_Nf u19_Na u19_Nh q.2.2.2.2.2.2.2.2.1 q.2.2.2.2.2.2.2.2.2.1 u19_M0 q.2.2.2.2.1) [(0, .ref (ad 0)), (2, .int u19_x2), (3, .long q.2.1), (5, .int q.2.2.1), (6, .int q.2.2.2.1)]) (h1 : q.1 ≠ 0 → (o_At p l e (rm_MM_dependent d) s m args below meth c Q m_cls D A 7 97 [] (m_cw ad ca ky ty q.2.2.2.2.2.2.2.2.2.2 u19_Ni q.2.2.2.2.2.1 q.2.2.2.2.2.2.1 q.2.2.2.2.2.2.2.1 u19_Nf u19_Na u19_Nh q.2.2.2.2.2.2.2.2.1 q.2.2.2.2.2.2.2.2.2.1 u19_M0 q.2.2.2.2.1) [(0, .ref (ad 0)), (3, .long q.2.1), (5, .int q.2.2.1)])) : o_At p l e (rm_MM_dependent d) s m args below meth c Q m_cls D A 7 82 [] (m_cw ad ca ky ty rt u19_Ni Np No Nx u19_Nf u19_Na u19_Nh Nq Nj u19_M0 M1) [(0, .ref (ad 0)), (2, .int u19_x2), (3, .long x3), (5, .int x5), (6, .int x6)] := by
  unfold m_MM_dependent_j82 at h
  intro H locs ls hP hS hl
  have C0 := C
  obtain ⟨hx, hb, -, -, -, hown, hts, hK, -, -⟩ := C0
  refine lv_aload_n hx hb d_MM_dependent_82 rfl (lv_at hl 0 rfl) ?_
  refine o_get (v := .ref (ad 33)) C in_MM hP 0 mw_0 rfl 4 (by decide) k_7_234 rfl rfl d_MM_dependent_83 ?_
  refine o_get (v := .ref (ad 41)) C in_MT hP 33 mw_33 rfl 7 (by decide) k_7_115 rfl rfl d_MM_dependent_86 ?_
  refine lv_iload hx hb d_MM_dependent_89 (lv_at hl 4 rfl) ?_
  obtain ⟨g7, h⟩ := o_gd_some h
  refine o_iald (f := (MT_next u19_M0)) C hP 41 39 mw_41 rfl g7 d_MM_dependent_91 ?_
  refine lv_topi (fun x6_92 ex6_92 => ?_)
  replace h := o_nm_at ex6_92 h
  refine lv_istore (lv' := [(6, .int x6_92), (0, .ref (ad 0)), (2, .int u19_x2), (3, .long x3), (5, .int x5)]) hx hb d_MM_dependent_92 hl (by decide) rfl (fun ls hl => ?_)
  refine lv_goto (tgt := 19) hx hb d_MM_dependent_94 (by decide) ?_
  cases h
  exact h0 rfl _ _ _ hP hS (lv_sub hl [1, 2, 3, 4, 0] rfl)
set_option maxHeartbeats 4000000 in
set_option maxRecDepth 100000 in
theorem f_MM_dependent_b19 {E : (Nat → Prop) → State → Heap → Prop} {p : Program} {l : Launch} {e : Env} {s : State} {m : MethodId} {args : Array Value} {below : List Frame} {meth : Method} {c : Code} {D : va_G} {ad kd sd vd xd : Nat → Nat} {ca : Nat → ClassId} {A : Nat → Prop} {ky ty : Nat → Option Nat} {Q : State → Prop} (hE : o_EK E kd sd vd xd) (hKy : m_KY ky ty sd) (C : o_Cx E p s m args meth c D m_cls (m_tys ca) "SchemaJudgeModel" b_MM_dependent (some .boolean) 7 cc_MM_dependent A) (hDD : ∀ (rt : Nat) (Ni : SNI) (Np : SNP) (No : SNO) (Nx : SNX) (Nf : SNF) (Na : SNA) (Nh : SNH) (Nq : SNQ) (Nj : SNJ) (M0 : SMT) (M1 : SMT), va_D A (m_cw ad ca ky ty rt Ni Np No Nx Nf Na Nh Nq Nj M0 M1)) (d : Nat) (rec : Int32 → Int32 → SMT → SMT → SNP → SNO → SNX → SNA → SNQ → SNJ → Nat → Option (Int32 × SMT × SNP × SNO × SNX × SNQ × SNJ × Nat)) (hrec : ∀ (x1 : Int32) (x2 : Int32) (M0 : SMT) (M1 : SMT) (Np : SNP) (No : SNO) (Nx : SNX) (Na : SNA) (Nq : SNQ) (Nj : SNJ) (rt : Nat) (Ni : SNI) (Nf : SNF) (Nh : SNH) (r : Int32 × SMT × SNP × SNO × SNX × SNQ × SNJ × Nat), rec x1 x2 M0 M1 Np No Nx Na Nq Nj rt = some r → o_Cn E l D m_cls (m_tys ca) y_MM_judge cc_MM_judge (rm_MM_judge d) [.ref (ad 0), .int x1, .int x2] (m_cw ad ca ky ty rt Ni Np No Nx Nf Na Nh Nq Nj M0 M1) (m_cw ad ca ky ty r.2.2.2.2.2.2.2 Ni r.2.2.1 r.2.2.2.1 r.2.2.2.2.1 Nf Na Nh r.2.2.2.2.2.1 r.2.2.2.2.2.2.1 M0 r.2.1) (some (.int r.1))) (n : Nat) (u19_x2 : Int32) (u19_M0 : SMT) (u19_Na : SNA) (u19_Ni : SNI) (u19_Nf : SNF) (u19_Nh : SNH) (z : Int64 × Int32 × Int32 × SMT × SNP × SNO × SNX × SNQ × SNJ × Nat) (q : Nat × Int64 × Int32 × Int32 × SMT × SNP × SNO × SNX × SNQ × SNJ × Nat) (h : m_MM_dependent_b19 n rec u19_x2 u19_M0 u19_Na z = some q) (h0 : q.1 = 0 → o_At p l e (rm_MM_dependent d) s m args below meth c Q m_cls D A 7 19 [] (m_cw ad ca ky ty q.2.2.2.2.2.2.2.2.2.2 u19_Ni q.2.2.2.2.2.1 q.2.2.2.2.2.2.1 q.2.2.2.2.2.2.2.1 u19_Nf u19_Na u19_Nh q.2.2.2.2.2.2.2.2.1 q.2.2.2.2.2.2.2.2.2.1 u19_M0 q.2.2.2.2.1) [(0, .ref (ad 0)), (2, .int u19_x2), (3, .long q.2.1), (5, .int q.2.2.1), (6, .int q.2.2.2.1)]) (h1 : q.1 ≠ 0 → (o_At p l e (rm_MM_dependent d) s m args below meth c Q m_cls D A 7 97 [] (m_cw ad ca ky ty q.2.2.2.2.2.2.2.2.2.2 u19_Ni q.2.2.2.2.2.1 q.2.2.2.2.2.2.1 q.2.2.2.2.2.2.2.1 u19_Nf u19_Na u19_Nh q.2.2.2.2.2.2.2.2.1 q.2.2.2.2.2.2.2.2.2.1 u19_M0 q.2.2.2.2.1) [(0, .ref (ad 0)), (3, .long q.2.1), (5, .int q.2.2.1)])) : o_At p l e (rm_MM_dependent d) s m args below meth c Q m_cls D A 7 19 [] (m_cw ad ca ky ty z.2.2.2.2.2.2.2.2.2 u19_Ni z.2.2.2.2.1 z.2.2.2.2.2.1 z.2.2.2.2.2.2.1 u19_Nf u19_Na u19_Nh z.2.2.2.2.2.2.2.1 z.2.2.2.2.2.2.2.2.1 u19_M0 z.2.2.2.1) [(0, .ref (ad 0)), (2, .int u19_x2), (3, .long z.1), (5, .int z.2.1), (6, .int z.2.2.1)] := by
  unfold m_MM_dependent_b19 at h
  intro H locs ls hP hS hl
  have C0 := C
  obtain ⟨hx, hb, -, -, -, hown, hts, hK, -, -⟩ := C0
  refine lv_iload hx hb d_MM_dependent_19 (lv_at hl 4 rfl) ?_
  refine lv_if_lt (tgt := 97) hx hb d_MM_dependent_21 (by decide) (fun c2 => ?_) (fun c2 => ?_)
  · replace h := o_tt c2 h
    cases h
    exact h1 (Nat.succ_ne_zero 0) _ _ _ hP hS (lv_sub hl [0, 2, 3] rfl)
  · replace h := o_ff c2 h
    refine lv_aload_n hx hb d_MM_dependent_24 rfl (lv_at hl 0 rfl) ?_
    refine o_get (v := .int (NJ_over z.2.2.2.2.2.2.2.2.1)) C in_MM hP 0 mw_0 rfl 57 (by decide) k_8_47 rfl rfl d_MM_dependent_25 ?_
    refine lv_if_ne (tgt := 97) hx hb d_MM_dependent_28 (by decide) (fun c3 => ?_) (fun c3 => ?_)
    · replace h := o_ff c3 h
      cases h
      exact h1 (Nat.succ_ne_zero 0) _ _ _ hP hS (lv_sub hl [0, 2, 3] rfl)
    · replace h := o_tt c3 h
      refine lv_aload_n hx hb d_MM_dependent_31 rfl (lv_at hl 0 rfl) ?_
      refine o_get (v := .ref (ad 48)) C in_MM hP 0 mw_0 rfl 5 (by decide) k_7_235 rfl rfl d_MM_dependent_32 ?_
      refine lv_iload_n hx hb d_MM_dependent_35 rfl (lv_at hl 1 rfl) ?_
      refine lv_aload_n hx hb d_MM_dependent_36 rfl (lv_at hl 0 rfl) ?_
      refine o_get (v := .ref (ad 33)) C in_MM hP 0 mw_0 rfl 4 (by decide) k_7_234 rfl rfl d_MM_dependent_37 ?_
      refine lv_aload_n hx hb d_MM_dependent_40 rfl (lv_at hl 0 rfl) ?_
      refine o_get (v := .ref (ad 33)) C in_MM hP 0 mw_0 rfl 4 (by decide) k_7_234 rfl rfl d_MM_dependent_41 ?_
      refine o_get (v := .ref (ad 42)) C in_MT hP 33 mw_33 rfl 8 (by decide) k_7_117 rfl rfl d_MM_dependent_44 ?_
      refine lv_iload hx hb d_MM_dependent_47 (lv_at hl 4 rfl) ?_
      obtain ⟨g4, h⟩ := o_gd_some h
      refine o_iald (f := (MT_name u19_M0)) C hP 42 40 mw_42 rfl g4 d_MM_dependent_49 ?_
      obtain ⟨q1, hq1, h⟩ := o_bd_some h
      refine o_V (st1 := [.int q1]) (w1 := (m_cw ad ca ky ty z.2.2.2.2.2.2.2.2.2 u19_Ni z.2.2.2.2.1 z.2.2.2.2.2.1 z.2.2.2.2.2.2.1 u19_Nf u19_Na u19_Nh z.2.2.2.2.2.2.2.1 z.2.2.2.2.2.2.2.2.1 u19_M0 z.2.2.2.1)) hE.1 C (e_MT_member_1_ba hE hKy l n u19_x2 ((MT_name u19_M0) z.2.2.1.toNatClampNeg) z.2.2.2.1 u19_M0 u19_Ni z.2.2.2.2.1 z.2.2.2.2.2.1 z.2.2.2.2.2.2.1 u19_Nf u19_Na u19_Nh z.2.2.2.2.2.2.2.1 z.2.2.2.2.2.2.2.2.1 z.2.2.2.2.2.2.2.2.2 hq1) hP (hDD _ _ _ _ _ _ _ _ _ _ _ _) hS hl.1 rfl mw_48 k_9_239 k_10_0 k_10_1 k_1_13 k_10_2 hv_MT_member_1 rfl rfl ⟨(by dsimp only [rm_MM_dependent, rm_MT_member_1]; omega), (by dsimp only [rm_MM_dependent, rm_MT_member_1]; omega)⟩ rfl (Nat.le_of_ble_eq_true rfl) ⟨Nat.zero_le _, Nat.zero_le _⟩ rfl d_MM_dependent_50 (fun H locs hP hS => ?_)
      refine lv_if_ge (tgt := 59) hx hb d_MM_dependent_53 (by decide) (fun c5 => ?_) (fun c5 => ?_)
      · replace h := o_tt c5 h
        refine lv_aload_n hx hb d_MM_dependent_59 rfl (lv_at hl 0 rfl) ?_
        refine lv_iload hx hb d_MM_dependent_60 (lv_at hl 4 rfl) ?_
        refine lv_iload_n hx hb d_MM_dependent_62 rfl (lv_at hl 1 rfl) ?_
        obtain ⟨q2, hq2, h⟩ := o_bd_some h
        refine o_V (st1 := [.int q2.1]) (w1 := (m_cw ad ca ky ty q2.2.2.2.2.2.2.2 u19_Ni q2.2.2.1 q2.2.2.2.1 q2.2.2.2.2.1 u19_Nf u19_Na u19_Nh q2.2.2.2.2.2.1 q2.2.2.2.2.2.2.1 u19_M0 q2.2.1)) hE.1 C (hrec z.2.2.1 u19_x2 u19_M0 z.2.2.2.1 z.2.2.2.2.1 z.2.2.2.2.2.1 z.2.2.2.2.2.2.1 u19_Na z.2.2.2.2.2.2.2.1 z.2.2.2.2.2.2.2.2.1 z.2.2.2.2.2.2.2.2.2 u19_Ni u19_Nf u19_Nh _ hq2) hP (hDD _ _ _ _ _ _ _ _ _ _ _ _) hS hl.1 rfl mw_0 k_9_210 k_9_212 k_s_116 k_1_12 k_9_213 hv_MM_judge rfl rfl ⟨(by dsimp only [rm_MM_dependent, rm_MM_judge]; omega), (by dsimp only [rm_MM_dependent, rm_MM_judge]; omega)⟩ rfl (Nat.le_of_ble_eq_true rfl) ⟨Nat.zero_le _, Nat.zero_le _⟩ rfl d_MM_dependent_63 (fun H locs hP hS => ?_)
        refine lv_if_eq (tgt := 79) hx hb d_MM_dependent_66 (by decide) (fun c6 => ?_) (fun c6 => ?_)
        · replace h := o_tt c6 h
          refine lv_iconst (v := (0:Int32)) hx hb d_MM_dependent_79 (by decide) ?_
          refine lv_istore (lv' := [(5, .int (0:Int32)), (0, .ref (ad 0)), (2, .int u19_x2), (3, .long z.1), (6, .int z.2.2.1)]) hx hb d_MM_dependent_80 hl (by decide) rfl (fun ls hl => ?_)
          exact f_MM_dependent_j82 hE hKy C hDD d rec hrec n u19_x2 u19_M0 u19_Na u19_Ni u19_Nf u19_Nh z.1 (0:Int32) z.2.2.1 q2.2.1 q2.2.2.1 q2.2.2.2.1 q2.2.2.2.2.1 q2.2.2.2.2.2.1 q2.2.2.2.2.2.2.1 q2.2.2.2.2.2.2.2 h h0 h1 _ _ _ hP hS (lv_sub hl [1, 2, 3, 0, 4] rfl)
        · replace h := o_ff c6 h
          refine lv_lload_n hx hb d_MM_dependent_69 rfl (lv_at hl 2 rfl) ?_
          refine lv_aload_n hx hb d_MM_dependent_70 rfl (lv_at hl 0 rfl) ?_
          refine o_get (v := .long (NJ_seen q2.2.2.2.2.2.2.1)) C in_MM hP 0 mw_0 rfl 58 (by decide) k_8_48 rfl rfl d_MM_dependent_71 ?_
          refine lv_lor hx hb d_MM_dependent_74 ?_
          refine lv_topl (fun x3_75 ex3_75 => ?_)
          replace h := o_nm_at ex3_75 h
          refine lv_lstore_n (lv' := [(3, .long x3_75), (0, .ref (ad 0)), (2, .int u19_x2), (5, .int z.2.1), (6, .int z.2.2.1)]) hx hb d_MM_dependent_75 rfl hl (by decide) rfl (fun ls hl => ?_)
          refine lv_goto (tgt := 82) hx hb d_MM_dependent_76 (by decide) ?_
          exact f_MM_dependent_j82 hE hKy C hDD d rec hrec n u19_x2 u19_M0 u19_Na u19_Ni u19_Nf u19_Nh x3_75 z.2.1 z.2.2.1 q2.2.1 q2.2.2.1 q2.2.2.2.1 q2.2.2.2.2.1 q2.2.2.2.2.2.1 q2.2.2.2.2.2.2.1 q2.2.2.2.2.2.2.2 h h0 h1 _ _ _ hP hS (lv_sub hl [1, 2, 0, 3, 4] rfl)
      · replace h := o_ff c5 h
        refine lv_goto (tgt := 82) hx hb d_MM_dependent_56 (by decide) ?_
        exact f_MM_dependent_j82 hE hKy C hDD d rec hrec n u19_x2 u19_M0 u19_Na u19_Ni u19_Nf u19_Nh z.1 z.2.1 z.2.2.1 z.2.2.2.1 z.2.2.2.2.1 z.2.2.2.2.2.1 z.2.2.2.2.2.2.1 z.2.2.2.2.2.2.2.1 z.2.2.2.2.2.2.2.2.1 z.2.2.2.2.2.2.2.2.2 h h0 h1 _ _ _ hP hS (lv_sub hl [0, 1, 2, 3, 4] rfl)
set_option maxHeartbeats 4000000 in
set_option maxRecDepth 100000 in
theorem e_MM_dependent {E : (Nat → Prop) → State → Heap → Prop} {D : va_G} {ad kd sd vd xd : Nat → Nat} {ca : Nat → ClassId} {ky ty : Nat → Option Nat} (hE : o_EK E kd sd vd xd) (hKy : m_KY ky ty sd) (l : Launch) (n : Nat) (d : Nat) (rec : Int32 → Int32 → SMT → SMT → SNP → SNO → SNX → SNA → SNQ → SNJ → Nat → Option (Int32 × SMT × SNP × SNO × SNX × SNQ × SNJ × Nat)) (hrec : ∀ (x1 : Int32) (x2 : Int32) (M0 : SMT) (M1 : SMT) (Np : SNP) (No : SNO) (Nx : SNX) (Na : SNA) (Nq : SNQ) (Nj : SNJ) (rt : Nat) (Ni : SNI) (Nf : SNF) (Nh : SNH) (r : Int32 × SMT × SNP × SNO × SNX × SNQ × SNJ × Nat), rec x1 x2 M0 M1 Np No Nx Na Nq Nj rt = some r → o_Cn E l D m_cls (m_tys ca) y_MM_judge cc_MM_judge (rm_MM_judge d) [.ref (ad 0), .int x1, .int x2] (m_cw ad ca ky ty rt Ni Np No Nx Nf Na Nh Nq Nj M0 M1) (m_cw ad ca ky ty r.2.2.2.2.2.2.2 Ni r.2.2.1 r.2.2.2.1 r.2.2.2.2.1 Nf Na Nh r.2.2.2.2.2.1 r.2.2.2.2.2.2.1 M0 r.2.1) (some (.int r.1))) (x1 : Int32) (x2 : Int32) (M0 : SMT) (M1 : SMT) (Np : SNP) (No : SNO) (Nx : SNX) (Na : SNA) (Nq : SNQ) (Nj : SNJ) (rt : Nat) (Ni : SNI) (Nf : SNF) (Nh : SNH) {r : Int32 × SMT × SNP × SNO × SNX × SNQ × SNJ × Nat} (h : m_MM_dependent n rec x1 x2 M0 M1 Np No Nx Na Nq Nj rt = some r) : o_Cn E l D m_cls (m_tys ca) y_MM_dependent cc_MM_dependent (rm_MM_dependent d) [.ref (ad 0), .int x1, .int x2] (m_cw ad ca ky ty rt Ni Np No Nx Nf Na Nh Nq Nj M0 M1) (m_cw ad ca ky ty r.2.2.2.2.2.2.2 Ni r.2.2.1 r.2.2.2.1 r.2.2.2.2.1 Nf Na Nh r.2.2.2.2.2.1 r.2.2.2.2.2.2.1 M0 r.2.1) (some (.int r.1)) := by
  refine o_Cn_of (by decide) (Nat.le_of_ble_eq_true rfl) ?_
  intro p e s m below meth c A ls C hD hP hS hl
  have hDD : ∀ (rt : Nat) (Ni : SNI) (Np : SNP) (No : SNO) (Nx : SNX) (Nf : SNF) (Na : SNA) (Nh : SNH) (Nq : SNQ) (Nj : SNJ) (M0 : SMT) (M1 : SMT), va_D A (m_cw ad ca ky ty rt Ni Np No Nx Nf Na Nh Nq Nj M0 M1) := fun _ _ _ _ _ _ _ _ _ _ _ _ => o_D_map hD rfl
  have hl : lv_has ls 7 [(0, .ref (ad 0)), (1, .int x1), (2, .int x2)] := hl
  unfold m_MM_dependent at h
  have C0 := C
  obtain ⟨hx, hb, -, -, -, hown, hts, hK, -, -⟩ := C0
  refine lv_aload_n hx hb d_MM_dependent_0 rfl (lv_at hl 0 rfl) ?_
  refine o_get (v := .long (NJ_seen Nj)) C in_MM hP 0 mw_0 rfl 58 (by decide) k_8_48 rfl rfl d_MM_dependent_1 ?_
  refine lv_topl (fun x3_4 ex3_4 => ?_)
  replace h := o_nm_at ex3_4 h
  refine lv_lstore_n (lv' := [(3, .long x3_4), (0, .ref (ad 0)), (1, .int x1), (2, .int x2)]) hx hb d_MM_dependent_4 rfl hl (by decide) rfl (fun ls hl => ?_)
  refine lv_iconst (v := (1:Int32)) hx hb d_MM_dependent_5 (by decide) ?_
  refine lv_istore (lv' := [(5, .int (1:Int32)), (3, .long x3_4), (0, .ref (ad 0)), (1, .int x1), (2, .int x2)]) hx hb d_MM_dependent_6 hl (by decide) rfl (fun ls hl => ?_)
  refine lv_aload_n hx hb d_MM_dependent_8 rfl (lv_at hl 2 rfl) ?_
  refine o_get (v := .ref (ad 33)) C in_MM hP 0 mw_0 rfl 4 (by decide) k_7_234 rfl rfl d_MM_dependent_9 ?_
  refine o_get (v := .ref (ad 40)) C in_MT hP 33 mw_33 rfl 6 (by decide) k_7_113 rfl rfl d_MM_dependent_12 ?_
  refine lv_iload_n hx hb d_MM_dependent_15 rfl (lv_at hl 3 rfl) ?_
  obtain ⟨g1, h⟩ := o_gd_some h
  refine o_iald (f := (MT_first M0)) C hP 40 38 mw_40 rfl g1 d_MM_dependent_16 ?_
  refine lv_topi (fun x6_17 ex6_17 => ?_)
  replace h := o_nm_at ex6_17 h
  refine lv_istore (lv' := [(6, .int x6_17), (5, .int (1:Int32)), (3, .long x3_4), (0, .ref (ad 0)), (1, .int x1), (2, .int x2)]) hx hb d_MM_dependent_17 hl (by decide) rfl (fun ls hl => ?_)
  obtain ⟨q3, hq3, h⟩ := o_bd_some h
  refine o_sim2 (AH := fun zz => o_At p l e (rm_MM_dependent d) s m _ below meth c _ m_cls D A 7 19 [] (m_cw ad ca ky ty zz.2.2.2.2.2.2.2.2.2 Ni zz.2.2.2.2.1 zz.2.2.2.2.2.1 zz.2.2.2.2.2.2.1 Nf Na Nh zz.2.2.2.2.2.2.2.1 zz.2.2.2.2.2.2.2.2.1 M0 zz.2.2.2.1) [(0, .ref (ad 0)), (2, .int x2), (3, .long zz.1), (5, .int zz.2.1), (6, .int zz.2.2.1)]) (AX := fun qq => o_At p l e (rm_MM_dependent d) s m _ below meth c _ m_cls D A 7 97 [] (m_cw ad ca ky ty qq.2.2.2.2.2.2.2.2.2.2 Ni qq.2.2.2.2.2.1 qq.2.2.2.2.2.2.1 qq.2.2.2.2.2.2.2.1 Nf Na Nh qq.2.2.2.2.2.2.2.2.1 qq.2.2.2.2.2.2.2.2.2.1 M0 qq.2.2.2.2.1) [(0, .ref (ad 0)), (3, .long qq.2.1), (5, .int qq.2.2.1)]) (fun zz qq h h0 h1 => f_MM_dependent_b19 hE hKy C hDD d rec hrec n x2 M0 Na Ni Nf Nh zz qq h h0 h1) n _ q3 hq3 ?_ _ _ _ hP hS (lv_sub hl [3, 5, 2, 1, 0] rfl)
  intro H locs ls hP hS hl
  refine lv_aload_n hx hb d_MM_dependent_97 rfl (lv_at hl 0 rfl) ?_
  refine lv_lload_n hx hb d_MM_dependent_98 rfl (lv_at hl 1 rfl) ?_
  refine o_put (v := .long q3.2.1) (ty := .long) (w1 := (m_cw ad ca ky ty q3.2.2.2.2.2.2.2.2.2.2 Ni q3.2.2.2.2.2.1 q3.2.2.2.2.2.2.1 q3.2.2.2.2.2.2.2.1 Nf Na Nh q3.2.2.2.2.2.2.2.2.1 (NJ_mk (NJ_judged q3.2.2.2.2.2.2.2.2.2.1) (NJ_deepest q3.2.2.2.2.2.2.2.2.2.1) (NJ_depth q3.2.2.2.2.2.2.2.2.2.1) (NJ_over q3.2.2.2.2.2.2.2.2.2.1) q3.2.1) M0 q3.2.2.2.2.1)) C in_MM t_MM t_MM_ok n_MM hP (hDD _ _ _ _ _ _ _ _ _ _ _ _) hS 0 mw_0 rfl 58 (by decide) k_8_48 rfl rfl (by decide +kernel) rfl rfl (Nat.le_of_ble_eq_true rfl) rfl d_MM_dependent_99 (fun H locs hP hS => ?_)
  refine lv_iload hx hb d_MM_dependent_102 (lv_at hl 2 rfl) ?_
  obtain ⟨g8, h⟩ := o_gd_some h
  cases h
  exact o_rz C (o_zb_nar g8) hP hS d_MM_dependent_104
set_option maxHeartbeats 4000000 in
set_option maxRecDepth 100000 in
theorem f_MM_several_j69 {E : (Nat → Prop) → State → Heap → Prop} {p : Program} {l : Launch} {e : Env} {s : State} {m : MethodId} {args : Array Value} {below : List Frame} {meth : Method} {c : Code} {D : va_G} {ad kd sd vd xd : Nat → Nat} {ca : Nat → ClassId} {A : Nat → Prop} {ky ty : Nat → Option Nat} {Q : State → Prop} (hE : o_EK E kd sd vd xd) (hKy : m_KY ky ty sd) (C : o_Cx E p s m args meth c D m_cls (m_tys ca) "SchemaJudgeModel" b_MM_several (some .boolean) 10 cc_MM_several A) (hDD : ∀ (rt : Nat) (Ni : SNI) (Np : SNP) (No : SNO) (Nx : SNX) (Nf : SNF) (Na : SNA) (Nh : SNH) (Nq : SNQ) (Nj : SNJ) (M0 : SMT) (M1 : SMT), va_D A (m_cw ad ca ky ty rt Ni Np No Nx Nf Na Nh Nq Nj M0 M1)) (d : Nat) (rec : Int32 → Int32 → SMT → SMT → SNP → SNO → SNX → SNA → SNQ → SNJ → Nat → Option (Int32 × SMT × SNP × SNO × SNX × SNQ × SNJ × Nat)) (hrec : ∀ (x1 : Int32) (x2 : Int32) (M0 : SMT) (M1 : SMT) (Np : SNP) (No : SNO) (Nx : SNX) (Na : SNA) (Nq : SNQ) (Nj : SNJ) (rt : Nat) (Ni : SNI) (Nf : SNF) (Nh : SNH) (r : Int32 × SMT × SNP × SNO × SNX × SNQ × SNJ × Nat), rec x1 x2 M0 M1 Np No Nx Na Nq Nj rt = some r → o_Cn E l D m_cls (m_tys ca) y_MM_judge cc_MM_judge (rm_MM_judge d) [.ref (ad 0), .int x1, .int x2] (m_cw ad ca ky ty rt Ni Np No Nx Nf Na Nh Nq Nj M0 M1) (m_cw ad ca ky ty r.2.2.2.2.2.2.2 Ni r.2.2.1 r.2.2.2.1 r.2.2.2.2.1 Nf Na Nh r.2.2.2.2.2.1 r.2.2.2.2.2.2.1 M0 r.2.1) (some (.int r.1))) (n : Nat) (u29_x1 : Int32) (u29_x3 : Int32) (u29_x6 : Int32) (u29_M0 : SMT) (u29_Na : SNA) (u29_Ni : SNI) (u29_Nf : SNF) (u29_Nh : SNH) (x4 : Int64) (x7 : Int32) (x8 : Int32) (x9 : Int32) (M1 : SMT) (Np : SNP) (No : SNO) (Nx : SNX) (Nq : SNQ) (Nj : SNJ) (rt : Nat) {q : Nat × Int64 × Int32 × Int32 × Int32 × SMT × SNP × SNO × SNX × SNQ × SNJ × Nat} (h : m_MM_several_j69 n rec u29_x1 u29_x3 x4 u29_x6 x7 x8 x9 u29_M0 M1 Np No Nx u29_Na Nq Nj rt = some q) (h0 : q.1 = 0 → o_At p l e (rm_MM_several d) s m args below meth c Q m_cls D A 10 29 [] (m_cw ad ca ky ty q.2.2.2.2.2.2.2.2.2.2.2 u29_Ni q.2.2.2.2.2.2.1 q.2.2.2.2.2.2.2.1 q.2.2.2.2.2.2.2.2.1 u29_Nf u29_Na u29_Nh q.2.2.2.2.2.2.2.2.2.1 q.2.2.2.2.2.2.2.2.2.2.1 u29_M0 q.2.2.2.2.2.1) [(0, .ref (ad 0)), (1, .int u29_x1), (3, .int u29_x3), (4, .long q.2.1), (6, .int u29_x6), (7, .int q.2.2.1), (8, .int q.2.2.2.1), (9, .int q.2.2.2.2.1)]) (h1 : q.1 ≠ 0 → (o_At p l e (rm_MM_several d) s m args below meth c Q m_cls D A 10 84 [] (m_cw ad ca ky ty q.2.2.2.2.2.2.2.2.2.2.2 u29_Ni q.2.2.2.2.2.2.1 q.2.2.2.2.2.2.2.1 q.2.2.2.2.2.2.2.2.1 u29_Nf u29_Na u29_Nh q.2.2.2.2.2.2.2.2.2.1 q.2.2.2.2.2.2.2.2.2.2.1 u29_M0 q.2.2.2.2.2.1) [(0, .ref (ad 0)), (1, .int u29_x1), (4, .long q.2.1), (6, .int u29_x6), (7, .int q.2.2.1), (8, .int q.2.2.2.1)])) : o_At p l e (rm_MM_several d) s m args below meth c Q m_cls D A 10 69 [] (m_cw ad ca ky ty rt u29_Ni Np No Nx u29_Nf u29_Na u29_Nh Nq Nj u29_M0 M1) [(0, .ref (ad 0)), (1, .int u29_x1), (3, .int u29_x3), (4, .long x4), (6, .int u29_x6), (7, .int x7), (8, .int x8), (9, .int x9)] := by
  unfold m_MM_several_j69 at h
  intro H locs ls hP hS hl
  have C0 := C
  obtain ⟨hx, hb, -, -, -, hown, hts, hK, -, -⟩ := C0
  refine lv_aload_n hx hb d_MM_several_69 rfl (lv_at hl 0 rfl) ?_
  refine o_get (v := .ref (ad 33)) C in_MM hP 0 mw_0 rfl 4 (by decide) k_7_234 rfl rfl d_MM_several_70 ?_
  refine o_get (v := .ref (ad 41)) C in_MT hP 33 mw_33 rfl 7 (by decide) k_7_115 rfl rfl d_MM_several_73 ?_
  refine lv_iload hx hb d_MM_several_76 (lv_at hl 7 rfl) ?_
  obtain ⟨g5, h⟩ := o_gd_some h
  refine o_iald (f := (MT_next u29_M0)) C hP 41 39 mw_41 rfl g5 d_MM_several_78 ?_
  refine lv_topi (fun x9_79 ex9_79 => ?_)
  replace h := o_nm_at ex9_79 h
  refine lv_istore (lv' := [(9, .int x9_79), (0, .ref (ad 0)), (1, .int u29_x1), (3, .int u29_x3), (4, .long x4), (6, .int u29_x6), (7, .int x7), (8, .int x8)]) hx hb d_MM_several_79 hl (by decide) rfl (fun ls hl => ?_)
  refine lv_goto (tgt := 29) hx hb d_MM_several_81 (by decide) ?_
  cases h
  exact h0 rfl _ _ _ hP hS (lv_sub hl [1, 2, 3, 4, 5, 6, 7, 0] rfl)
set_option maxHeartbeats 4000000 in
set_option maxRecDepth 100000 in
theorem f_MM_several_b29 {E : (Nat → Prop) → State → Heap → Prop} {p : Program} {l : Launch} {e : Env} {s : State} {m : MethodId} {args : Array Value} {below : List Frame} {meth : Method} {c : Code} {D : va_G} {ad kd sd vd xd : Nat → Nat} {ca : Nat → ClassId} {A : Nat → Prop} {ky ty : Nat → Option Nat} {Q : State → Prop} (hE : o_EK E kd sd vd xd) (hKy : m_KY ky ty sd) (C : o_Cx E p s m args meth c D m_cls (m_tys ca) "SchemaJudgeModel" b_MM_several (some .boolean) 10 cc_MM_several A) (hDD : ∀ (rt : Nat) (Ni : SNI) (Np : SNP) (No : SNO) (Nx : SNX) (Nf : SNF) (Na : SNA) (Nh : SNH) (Nq : SNQ) (Nj : SNJ) (M0 : SMT) (M1 : SMT), va_D A (m_cw ad ca ky ty rt Ni Np No Nx Nf Na Nh Nq Nj M0 M1)) (d : Nat) (rec : Int32 → Int32 → SMT → SMT → SNP → SNO → SNX → SNA → SNQ → SNJ → Nat → Option (Int32 × SMT × SNP × SNO × SNX × SNQ × SNJ × Nat)) (hrec : ∀ (x1 : Int32) (x2 : Int32) (M0 : SMT) (M1 : SMT) (Np : SNP) (No : SNO) (Nx : SNX) (Na : SNA) (Nq : SNQ) (Nj : SNJ) (rt : Nat) (Ni : SNI) (Nf : SNF) (Nh : SNH) (r : Int32 × SMT × SNP × SNO × SNX × SNQ × SNJ × Nat), rec x1 x2 M0 M1 Np No Nx Na Nq Nj rt = some r → o_Cn E l D m_cls (m_tys ca) y_MM_judge cc_MM_judge (rm_MM_judge d) [.ref (ad 0), .int x1, .int x2] (m_cw ad ca ky ty rt Ni Np No Nx Nf Na Nh Nq Nj M0 M1) (m_cw ad ca ky ty r.2.2.2.2.2.2.2 Ni r.2.2.1 r.2.2.2.1 r.2.2.2.2.1 Nf Na Nh r.2.2.2.2.2.1 r.2.2.2.2.2.2.1 M0 r.2.1) (some (.int r.1))) (n : Nat) (u29_x1 : Int32) (u29_x3 : Int32) (u29_x6 : Int32) (u29_M0 : SMT) (u29_Na : SNA) (u29_Ni : SNI) (u29_Nf : SNF) (u29_Nh : SNH) (z : Int64 × Int32 × Int32 × Int32 × SMT × SNP × SNO × SNX × SNQ × SNJ × Nat) (q : Nat × Int64 × Int32 × Int32 × Int32 × SMT × SNP × SNO × SNX × SNQ × SNJ × Nat) (h : m_MM_several_b29 n rec u29_x1 u29_x3 u29_x6 u29_M0 u29_Na z = some q) (h0 : q.1 = 0 → o_At p l e (rm_MM_several d) s m args below meth c Q m_cls D A 10 29 [] (m_cw ad ca ky ty q.2.2.2.2.2.2.2.2.2.2.2 u29_Ni q.2.2.2.2.2.2.1 q.2.2.2.2.2.2.2.1 q.2.2.2.2.2.2.2.2.1 u29_Nf u29_Na u29_Nh q.2.2.2.2.2.2.2.2.2.1 q.2.2.2.2.2.2.2.2.2.2.1 u29_M0 q.2.2.2.2.2.1) [(0, .ref (ad 0)), (1, .int u29_x1), (3, .int u29_x3), (4, .long q.2.1), (6, .int u29_x6), (7, .int q.2.2.1), (8, .int q.2.2.2.1), (9, .int q.2.2.2.2.1)]) (h1 : q.1 ≠ 0 → (o_At p l e (rm_MM_several d) s m args below meth c Q m_cls D A 10 84 [] (m_cw ad ca ky ty q.2.2.2.2.2.2.2.2.2.2.2 u29_Ni q.2.2.2.2.2.2.1 q.2.2.2.2.2.2.2.1 q.2.2.2.2.2.2.2.2.1 u29_Nf u29_Na u29_Nh q.2.2.2.2.2.2.2.2.2.1 q.2.2.2.2.2.2.2.2.2.2.1 u29_M0 q.2.2.2.2.2.1) [(0, .ref (ad 0)), (1, .int u29_x1), (4, .long q.2.1), (6, .int u29_x6), (7, .int q.2.2.1), (8, .int q.2.2.2.1)])) : o_At p l e (rm_MM_several d) s m args below meth c Q m_cls D A 10 29 [] (m_cw ad ca ky ty z.2.2.2.2.2.2.2.2.2.2 u29_Ni z.2.2.2.2.2.1 z.2.2.2.2.2.2.1 z.2.2.2.2.2.2.2.1 u29_Nf u29_Na u29_Nh z.2.2.2.2.2.2.2.2.1 z.2.2.2.2.2.2.2.2.2.1 u29_M0 z.2.2.2.2.1) [(0, .ref (ad 0)), (1, .int u29_x1), (3, .int u29_x3), (4, .long z.1), (6, .int u29_x6), (7, .int z.2.1), (8, .int z.2.2.1), (9, .int z.2.2.2.1)] := by
  unfold m_MM_several_b29 at h
  intro H locs ls hP hS hl
  have C0 := C
  obtain ⟨hx, hb, -, -, -, hown, hts, hK, -, -⟩ := C0
  refine lv_iload hx hb d_MM_several_29 (lv_at hl 7 rfl) ?_
  refine lv_if_lt (tgt := 84) hx hb d_MM_several_31 (by decide) (fun c2 => ?_) (fun c2 => ?_)
  · replace h := o_tt c2 h
    cases h
    exact h1 (Nat.succ_ne_zero 0) _ _ _ hP hS (lv_sub hl [0, 1, 3, 4, 5, 6] rfl)
  · replace h := o_ff c2 h
    refine lv_aload_n hx hb d_MM_several_34 rfl (lv_at hl 0 rfl) ?_
    refine o_get (v := .int (NJ_over z.2.2.2.2.2.2.2.2.2.1)) C in_MM hP 0 mw_0 rfl 57 (by decide) k_8_47 rfl rfl d_MM_several_35 ?_
    refine lv_if_ne (tgt := 84) hx hb d_MM_several_38 (by decide) (fun c3 => ?_) (fun c3 => ?_)
    · replace h := o_ff c3 h
      cases h
      exact h1 (Nat.succ_ne_zero 0) _ _ _ hP hS (lv_sub hl [0, 1, 3, 4, 5, 6] rfl)
    · replace h := o_tt c3 h
      obtain ⟨x8_41, ex8_41⟩ : ∃ y : Int32, y = z.2.2.1 + (1:Int32) := ⟨_, rfl⟩
      replace h := o_nm_at ex8_41 h
      refine lv_iinc (v := x8_41) (lv' := [(8, .int x8_41), (0, .ref (ad 0)), (1, .int u29_x1), (3, .int u29_x3), (4, .long z.1), (6, .int u29_x6), (7, .int z.2.1), (9, .int z.2.2.2.1)]) hx hb d_MM_several_41 hl (k := 6) rfl (by rw [ex8_41]; rfl) (by decide) rfl (fun ls hl => ?_)
      refine lv_aload_n hx hb d_MM_several_44 rfl (lv_at hl 1 rfl) ?_
      refine lv_iload hx hb d_MM_several_45 (lv_at hl 7 rfl) ?_
      refine lv_iload_n hx hb d_MM_several_47 rfl (lv_at hl 3 rfl) ?_
      obtain ⟨q1, hq1, h⟩ := o_bd_some h
      refine o_V (st1 := [.int q1.1]) (w1 := (m_cw ad ca ky ty q1.2.2.2.2.2.2.2 u29_Ni q1.2.2.1 q1.2.2.2.1 q1.2.2.2.2.1 u29_Nf u29_Na u29_Nh q1.2.2.2.2.2.1 q1.2.2.2.2.2.2.1 u29_M0 q1.2.1)) hE.1 C (hrec z.2.2.2.1 u29_x3 u29_M0 z.2.2.2.2.1 z.2.2.2.2.2.1 z.2.2.2.2.2.2.1 z.2.2.2.2.2.2.2.1 u29_Na z.2.2.2.2.2.2.2.2.1 z.2.2.2.2.2.2.2.2.2.1 z.2.2.2.2.2.2.2.2.2.2 u29_Ni u29_Nf u29_Nh _ hq1) hP (hDD _ _ _ _ _ _ _ _ _ _ _ _) hS hl.1 rfl mw_0 k_9_210 k_9_212 k_s_116 k_1_12 k_9_213 hv_MM_judge rfl rfl ⟨(by dsimp only [rm_MM_several, rm_MM_judge]; omega), (by dsimp only [rm_MM_several, rm_MM_judge]; omega)⟩ rfl (Nat.le_of_ble_eq_true rfl) ⟨Nat.zero_le _, Nat.zero_le _⟩ rfl d_MM_several_48 (fun H locs hP hS => ?_)
      refine lv_if_ne (tgt := 57) hx hb d_MM_several_51 (by decide) (fun c4 => ?_) (fun c4 => ?_)
      · replace h := o_ff c4 h
        obtain ⟨x7_57, ex7_57⟩ : ∃ y : Int32, y = z.2.1 + (1:Int32) := ⟨_, rfl⟩
        replace h := o_nm_at ex7_57 h
        refine lv_iinc (v := x7_57) (lv' := [(7, .int x7_57), (8, .int x8_41), (0, .ref (ad 0)), (1, .int u29_x1), (3, .int u29_x3), (4, .long z.1), (6, .int u29_x6), (9, .int z.2.2.2.1)]) hx hb d_MM_several_57 hl (k := 6) rfl (by rw [ex7_57]; rfl) (by decide) rfl (fun ls hl => ?_)
        refine lv_lload hx hb d_MM_several_60 (lv_at hl 5 rfl) ?_
        refine lv_aload_n hx hb d_MM_several_62 rfl (lv_at hl 2 rfl) ?_
        refine o_get (v := .long (NJ_seen q1.2.2.2.2.2.2.1)) C in_MM hP 0 mw_0 rfl 58 (by decide) k_8_48 rfl rfl d_MM_several_63 ?_
        refine lv_lor hx hb d_MM_several_66 ?_
        refine lv_topl (fun x4_67 ex4_67 => ?_)
        replace h := o_nm_at ex4_67 h
        refine lv_lstore (lv' := [(4, .long x4_67), (7, .int x7_57), (8, .int x8_41), (0, .ref (ad 0)), (1, .int u29_x1), (3, .int u29_x3), (6, .int u29_x6), (9, .int z.2.2.2.1)]) hx hb d_MM_several_67 hl (by decide) rfl (fun ls hl => ?_)
        exact f_MM_several_j69 hE hKy C hDD d rec hrec n u29_x1 u29_x3 u29_x6 u29_M0 u29_Na u29_Ni u29_Nf u29_Nh x4_67 x7_57 x8_41 z.2.2.2.1 q1.2.1 q1.2.2.1 q1.2.2.2.1 q1.2.2.2.2.1 q1.2.2.2.2.2.1 q1.2.2.2.2.2.2.1 q1.2.2.2.2.2.2.2 h h0 h1 _ _ _ hP hS (lv_sub hl [3, 4, 5, 0, 6, 1, 2, 7] rfl)
      · replace h := o_tt c4 h
        refine lv_goto (tgt := 69) hx hb d_MM_several_54 (by decide) ?_
        exact f_MM_several_j69 hE hKy C hDD d rec hrec n u29_x1 u29_x3 u29_x6 u29_M0 u29_Na u29_Ni u29_Nf u29_Nh z.1 z.2.1 x8_41 z.2.2.2.1 q1.2.1 q1.2.2.1 q1.2.2.2.1 q1.2.2.2.2.1 q1.2.2.2.2.2.1 q1.2.2.2.2.2.2.1 q1.2.2.2.2.2.2.2 h h0 h1 _ _ _ hP hS (lv_sub hl [1, 2, 3, 4, 5, 6, 0, 7] rfl)
set_option maxHeartbeats 4000000 in
set_option maxRecDepth 100000 in
theorem f_MM_several_j141 {E : (Nat → Prop) → State → Heap → Prop} {p : Program} {l : Launch} {e : Env} {s : State} {m : MethodId} {args : Array Value} {below : List Frame} {meth : Method} {c : Code} {D : va_G} {ad kd sd vd xd : Nat → Nat} {ca : Nat → ClassId} {A : Nat → Prop} {ky ty : Nat → Option Nat} (hE : o_EK E kd sd vd xd) (hKy : m_KY ky ty sd) (C : o_Cx E p s m args meth c D m_cls (m_tys ca) "SchemaJudgeModel" b_MM_several (some .boolean) 10 cc_MM_several A) (hDD : ∀ (rt : Nat) (Ni : SNI) (Np : SNP) (No : SNO) (Nx : SNX) (Nf : SNF) (Na : SNA) (Nh : SNH) (Nq : SNQ) (Nj : SNJ) (M0 : SMT) (M1 : SMT), va_D A (m_cw ad ca ky ty rt Ni Np No Nx Nf Na Nh Nq Nj M0 M1)) (d : Nat) (rec : Int32 → Int32 → SMT → SMT → SNP → SNO → SNX → SNA → SNQ → SNJ → Nat → Option (Int32 × SMT × SNP × SNO × SNX × SNQ × SNJ × Nat)) (hrec : ∀ (x1 : Int32) (x2 : Int32) (M0 : SMT) (M1 : SMT) (Np : SNP) (No : SNO) (Nx : SNX) (Na : SNA) (Nq : SNQ) (Nj : SNJ) (rt : Nat) (Ni : SNI) (Nf : SNF) (Nh : SNH) (r : Int32 × SMT × SNP × SNO × SNX × SNQ × SNJ × Nat), rec x1 x2 M0 M1 Np No Nx Na Nq Nj rt = some r → o_Cn E l D m_cls (m_tys ca) y_MM_judge cc_MM_judge (rm_MM_judge d) [.ref (ad 0), .int x1, .int x2] (m_cw ad ca ky ty rt Ni Np No Nx Nf Na Nh Nq Nj M0 M1) (m_cw ad ca ky ty r.2.2.2.2.2.2.2 Ni r.2.2.1 r.2.2.2.1 r.2.2.2.2.1 Nf Na Nh r.2.2.2.2.2.1 r.2.2.2.2.2.2.1 M0 r.2.1) (some (.int r.1))) (n : Nat) (x1 : Int32) (x6 : Int32) (y0 : Int32) (M0 : SMT) (M1 : SMT) (Np : SNP) (No : SNO) (Nx : SNX) (Na : SNA) (Nq : SNQ) (Nj : SNJ) (rt : Nat) (Ni : SNI) (Nf : SNF) (Nh : SNH) {r : Int32 × SMT × SNP × SNO × SNX × SNQ × SNJ × Nat} (h : m_MM_several_j141 n rec x1 x6 y0 M0 M1 Np No Nx Na Nq Nj rt = some r) : o_At p l e (rm_MM_several d) s m args below meth c (MQ below (o_Qx D m_cls (some (.int r.1)) (m_cw ad ca ky ty r.2.2.2.2.2.2.2 Ni r.2.2.1 r.2.2.2.1 r.2.2.2.2.1 Nf Na Nh r.2.2.2.2.2.1 r.2.2.2.2.2.2.1 M0 r.2.1) A) args s 0 0 A) m_cls D A 10 141 [.int y0] (m_cw ad ca ky ty rt Ni Np No Nx Nf Na Nh Nq Nj M0 M1) [(0, .ref (ad 0)), (1, .int x1), (6, .int x6)] := by
  unfold m_MM_several_j141 at h
  intro H locs ls hP hS hl
  have C0 := C
  obtain ⟨hx, hb, -, -, -, hown, hts, hK, -, -⟩ := C0
  refine lv_istore (lv' := [(9, .int y0), (0, .ref (ad 0)), (1, .int x1), (6, .int x6)]) hx hb d_MM_several_141 hl (by decide) rfl (fun ls hl => ?_)
  refine lv_iload hx hb d_MM_several_143 (lv_at hl 0 rfl) ?_
  refine lv_if_eq (tgt := 160) hx hb d_MM_several_145 (by decide) (fun c9 => ?_) (fun c9 => ?_)
  · replace h := o_tt c9 h
    refine lv_iload hx hb d_MM_several_160 (lv_at hl 0 rfl) ?_
    obtain ⟨g10, h⟩ := o_gd_some h
    cases h
    exact o_rz C (o_zb_nar g10) hP hS d_MM_several_162
  · replace h := o_ff c9 h
    refine lv_iload_n hx hb d_MM_several_148 rfl (lv_at hl 2 rfl) ?_
    refine lv_bipush (v := (10:Int32)) hx hb d_MM_several_149 (by decide) ?_
    refine lv_icmp_eq (tgt := 160) hx hb d_MM_several_151 (by decide) (fun c11 => ?_) (fun c11 => ?_)
    · replace h := o_tt c11 h
      refine lv_iload hx hb d_MM_several_160 (lv_at hl 0 rfl) ?_
      obtain ⟨g12, h⟩ := o_gd_some h
      cases h
      exact o_rz C (o_zb_nar g12) hP hS d_MM_several_162
    · replace h := o_ff c11 h
      refine lv_aload_n hx hb d_MM_several_154 rfl (lv_at hl 1 rfl) ?_
      refine lv_iload hx hb d_MM_several_155 (lv_at hl 3 rfl) ?_
      refine o_put (v := .int x6) (ty := .int) (w1 := (m_cw ad ca ky ty rt Ni Np No Nx Nf Na Nh (NQ_mk (NQ_pairValue Nq) (NQ_pairKey Nq) x6) Nj M0 M1)) C in_MM t_MM t_MM_ok n_MM hP (hDD _ _ _ _ _ _ _ _ _ _ _ _) hS 0 mw_0 rfl 53 (by decide) k_8_43 rfl rfl (by decide +kernel) rfl rfl (Nat.le_of_ble_eq_true rfl) rfl d_MM_several_157 (fun H locs hP hS => ?_)
      refine lv_iload hx hb d_MM_several_160 (lv_at hl 0 rfl) ?_
      obtain ⟨g13, h⟩ := o_gd_some h
      cases h
      exact o_rz C (o_zb_nar g13) hP hS d_MM_several_162
set_option maxHeartbeats 4000000 in
set_option maxRecDepth 100000 in
theorem f_MM_several_j84 {E : (Nat → Prop) → State → Heap → Prop} {p : Program} {l : Launch} {e : Env} {s : State} {m : MethodId} {args : Array Value} {below : List Frame} {meth : Method} {c : Code} {D : va_G} {ad kd sd vd xd : Nat → Nat} {ca : Nat → ClassId} {A : Nat → Prop} {ky ty : Nat → Option Nat} (hE : o_EK E kd sd vd xd) (hKy : m_KY ky ty sd) (C : o_Cx E p s m args meth c D m_cls (m_tys ca) "SchemaJudgeModel" b_MM_several (some .boolean) 10 cc_MM_several A) (hDD : ∀ (rt : Nat) (Ni : SNI) (Np : SNP) (No : SNO) (Nx : SNX) (Nf : SNF) (Na : SNA) (Nh : SNH) (Nq : SNQ) (Nj : SNJ) (M0 : SMT) (M1 : SMT), va_D A (m_cw ad ca ky ty rt Ni Np No Nx Nf Na Nh Nq Nj M0 M1)) (d : Nat) (rec : Int32 → Int32 → SMT → SMT → SNP → SNO → SNX → SNA → SNQ → SNJ → Nat → Option (Int32 × SMT × SNP × SNO × SNX × SNQ × SNJ × Nat)) (hrec : ∀ (x1 : Int32) (x2 : Int32) (M0 : SMT) (M1 : SMT) (Np : SNP) (No : SNO) (Nx : SNX) (Na : SNA) (Nq : SNQ) (Nj : SNJ) (rt : Nat) (Ni : SNI) (Nf : SNF) (Nh : SNH) (r : Int32 × SMT × SNP × SNO × SNX × SNQ × SNJ × Nat), rec x1 x2 M0 M1 Np No Nx Na Nq Nj rt = some r → o_Cn E l D m_cls (m_tys ca) y_MM_judge cc_MM_judge (rm_MM_judge d) [.ref (ad 0), .int x1, .int x2] (m_cw ad ca ky ty rt Ni Np No Nx Nf Na Nh Nq Nj M0 M1) (m_cw ad ca ky ty r.2.2.2.2.2.2.2 Ni r.2.2.1 r.2.2.2.1 r.2.2.2.2.1 Nf Na Nh r.2.2.2.2.2.1 r.2.2.2.2.2.2.1 M0 r.2.1) (some (.int r.1))) (n : Nat) (x1 : Int32) (x4 : Int64) (x6 : Int32) (x7 : Int32) (x8 : Int32) (M0 : SMT) (M1 : SMT) (Np : SNP) (No : SNO) (Nx : SNX) (Na : SNA) (Nq : SNQ) (Nj : SNJ) (rt : Nat) (Ni : SNI) (Nf : SNF) (Nh : SNH) {r : Int32 × SMT × SNP × SNO × SNX × SNQ × SNJ × Nat} (h : m_MM_several_j84 n rec x1 x4 x6 x7 x8 M0 M1 Np No Nx Na Nq Nj rt = some r) : o_At p l e (rm_MM_several d) s m args below meth c (MQ below (o_Qx D m_cls (some (.int r.1)) (m_cw ad ca ky ty r.2.2.2.2.2.2.2 Ni r.2.2.1 r.2.2.2.1 r.2.2.2.2.1 Nf Na Nh r.2.2.2.2.2.1 r.2.2.2.2.2.2.1 M0 r.2.1) A) args s 0 0 A) m_cls D A 10 84 [] (m_cw ad ca ky ty rt Ni Np No Nx Nf Na Nh Nq Nj M0 M1) [(0, .ref (ad 0)), (1, .int x1), (4, .long x4), (6, .int x6), (7, .int x7), (8, .int x8)] := by
  unfold m_MM_several_j84 at h
  intro H locs ls hP hS hl
  have C0 := C
  obtain ⟨hx, hb, -, -, -, hown, hts, hK, -, -⟩ := C0
  refine lv_aload_n hx hb d_MM_several_84 rfl (lv_at hl 0 rfl) ?_
  refine lv_lload hx hb d_MM_several_85 (lv_at hl 2 rfl) ?_
  refine o_put (v := .long x4) (ty := .long) (w1 := (m_cw ad ca ky ty rt Ni Np No Nx Nf Na Nh Nq (NJ_mk (NJ_judged Nj) (NJ_deepest Nj) (NJ_depth Nj) (NJ_over Nj) x4) M0 M1)) C in_MM t_MM t_MM_ok n_MM hP (hDD _ _ _ _ _ _ _ _ _ _ _ _) hS 0 mw_0 rfl 58 (by decide) k_8_48 rfl rfl (by decide +kernel) rfl rfl (Nat.le_of_ble_eq_true rfl) rfl d_MM_several_87 (fun H locs hP hS => ?_)
  refine lv_iload_n hx hb d_MM_several_90 rfl (lv_at hl 1 rfl) ?_
  refine lv_bipush (v := (10:Int32)) hx hb d_MM_several_91 (by decide) ?_
  refine lv_icmp_ne (tgt := 111) hx hb d_MM_several_93 (by decide) (fun c6 => ?_) (fun c6 => ?_)
  · replace h := o_ff c6 h
    refine lv_iload_n hx hb d_MM_several_111 rfl (lv_at hl 1 rfl) ?_
    refine lv_bipush (v := (11:Int32)) hx hb d_MM_several_112 (by decide) ?_
    refine lv_icmp_ne (tgt := 130) hx hb d_MM_several_114 (by decide) (fun c7 => ?_) (fun c7 => ?_)
    · replace h := o_ff c7 h
      refine lv_iload hx hb d_MM_several_130 (lv_at hl 4 rfl) ?_
      refine lv_iconst (v := (1:Int32)) hx hb d_MM_several_132 (by decide) ?_
      refine lv_icmp_ne (tgt := 140) hx hb d_MM_several_133 (by decide) (fun c8 => ?_) (fun c8 => ?_)
      · replace h := o_ff c8 h
        refine lv_iconst (v := (0:Int32)) hx hb d_MM_several_140 (by decide) ?_
        exact f_MM_several_j141 hE hKy C hDD d rec hrec n x1 x6 (0:Int32) M0 M1 Np No Nx Na Nq (NJ_mk (NJ_judged Nj) (NJ_deepest Nj) (NJ_depth Nj) (NJ_over Nj) x4) rt Ni Nf Nh h _ _ _ hP hS (lv_sub hl [0, 1, 3] rfl)
      · replace h := o_tt c8 h
        refine lv_iconst (v := (1:Int32)) hx hb d_MM_several_136 (by decide) ?_
        refine lv_goto (tgt := 141) hx hb d_MM_several_137 (by decide) ?_
        exact f_MM_several_j141 hE hKy C hDD d rec hrec n x1 x6 (1:Int32) M0 M1 Np No Nx Na Nq (NJ_mk (NJ_judged Nj) (NJ_deepest Nj) (NJ_depth Nj) (NJ_over Nj) x4) rt Ni Nf Nh h _ _ _ hP hS (lv_sub hl [0, 1, 3] rfl)
    · replace h := o_tt c7 h
      refine lv_iload hx hb d_MM_several_117 (lv_at hl 4 rfl) ?_
      refine lv_if_le (tgt := 126) hx hb d_MM_several_119 (by decide) (fun c14 => ?_) (fun c14 => ?_)
      · replace h := o_tt c14 h
        refine lv_iconst (v := (0:Int32)) hx hb d_MM_several_126 (by decide) ?_
        refine lv_goto (tgt := 141) hx hb d_MM_several_127 (by decide) ?_
        exact f_MM_several_j141 hE hKy C hDD d rec hrec n x1 x6 (0:Int32) M0 M1 Np No Nx Na Nq (NJ_mk (NJ_judged Nj) (NJ_deepest Nj) (NJ_depth Nj) (NJ_over Nj) x4) rt Ni Nf Nh h _ _ _ hP hS (lv_sub hl [0, 1, 3] rfl)
      · replace h := o_ff c14 h
        refine lv_iconst (v := (1:Int32)) hx hb d_MM_several_122 (by decide) ?_
        refine lv_goto (tgt := 141) hx hb d_MM_several_123 (by decide) ?_
        exact f_MM_several_j141 hE hKy C hDD d rec hrec n x1 x6 (1:Int32) M0 M1 Np No Nx Na Nq (NJ_mk (NJ_judged Nj) (NJ_deepest Nj) (NJ_depth Nj) (NJ_over Nj) x4) rt Ni Nf Nh h _ _ _ hP hS (lv_sub hl [0, 1, 3] rfl)
  · replace h := o_tt c6 h
    refine lv_iload hx hb d_MM_several_96 (lv_at hl 4 rfl) ?_
    refine lv_iload hx hb d_MM_several_98 (lv_at hl 5 rfl) ?_
    refine lv_icmp_ne (tgt := 107) hx hb d_MM_several_100 (by decide) (fun c15 => ?_) (fun c15 => ?_)
    · replace h := o_ff c15 h
      refine lv_iconst (v := (0:Int32)) hx hb d_MM_several_107 (by decide) ?_
      refine lv_goto (tgt := 141) hx hb d_MM_several_108 (by decide) ?_
      exact f_MM_several_j141 hE hKy C hDD d rec hrec n x1 x6 (0:Int32) M0 M1 Np No Nx Na Nq (NJ_mk (NJ_judged Nj) (NJ_deepest Nj) (NJ_depth Nj) (NJ_over Nj) x4) rt Ni Nf Nh h _ _ _ hP hS (lv_sub hl [0, 1, 3] rfl)
    · replace h := o_tt c15 h
      refine lv_iconst (v := (1:Int32)) hx hb d_MM_several_103 (by decide) ?_
      refine lv_goto (tgt := 141) hx hb d_MM_several_104 (by decide) ?_
      exact f_MM_several_j141 hE hKy C hDD d rec hrec n x1 x6 (1:Int32) M0 M1 Np No Nx Na Nq (NJ_mk (NJ_judged Nj) (NJ_deepest Nj) (NJ_depth Nj) (NJ_over Nj) x4) rt Ni Nf Nh h _ _ _ hP hS (lv_sub hl [0, 1, 3] rfl)
set_option maxHeartbeats 4000000 in
set_option maxRecDepth 100000 in
theorem e_MM_several {E : (Nat → Prop) → State → Heap → Prop} {D : va_G} {ad kd sd vd xd : Nat → Nat} {ca : Nat → ClassId} {ky ty : Nat → Option Nat} (hE : o_EK E kd sd vd xd) (hKy : m_KY ky ty sd) (l : Launch) (n : Nat) (d : Nat) (rec : Int32 → Int32 → SMT → SMT → SNP → SNO → SNX → SNA → SNQ → SNJ → Nat → Option (Int32 × SMT × SNP × SNO × SNX × SNQ × SNJ × Nat)) (hrec : ∀ (x1 : Int32) (x2 : Int32) (M0 : SMT) (M1 : SMT) (Np : SNP) (No : SNO) (Nx : SNX) (Na : SNA) (Nq : SNQ) (Nj : SNJ) (rt : Nat) (Ni : SNI) (Nf : SNF) (Nh : SNH) (r : Int32 × SMT × SNP × SNO × SNX × SNQ × SNJ × Nat), rec x1 x2 M0 M1 Np No Nx Na Nq Nj rt = some r → o_Cn E l D m_cls (m_tys ca) y_MM_judge cc_MM_judge (rm_MM_judge d) [.ref (ad 0), .int x1, .int x2] (m_cw ad ca ky ty rt Ni Np No Nx Nf Na Nh Nq Nj M0 M1) (m_cw ad ca ky ty r.2.2.2.2.2.2.2 Ni r.2.2.1 r.2.2.2.1 r.2.2.2.2.1 Nf Na Nh r.2.2.2.2.2.1 r.2.2.2.2.2.2.1 M0 r.2.1) (some (.int r.1))) (x1 : Int32) (x2 : Int32) (x3 : Int32) (M0 : SMT) (M1 : SMT) (Np : SNP) (No : SNO) (Nx : SNX) (Na : SNA) (Nq : SNQ) (Nj : SNJ) (rt : Nat) (Ni : SNI) (Nf : SNF) (Nh : SNH) {r : Int32 × SMT × SNP × SNO × SNX × SNQ × SNJ × Nat} (h : m_MM_several n rec x1 x2 x3 M0 M1 Np No Nx Na Nq Nj rt = some r) : o_Cn E l D m_cls (m_tys ca) y_MM_several cc_MM_several (rm_MM_several d) [.ref (ad 0), .int x1, .int x2, .int x3] (m_cw ad ca ky ty rt Ni Np No Nx Nf Na Nh Nq Nj M0 M1) (m_cw ad ca ky ty r.2.2.2.2.2.2.2 Ni r.2.2.1 r.2.2.2.1 r.2.2.2.2.1 Nf Na Nh r.2.2.2.2.2.1 r.2.2.2.2.2.2.1 M0 r.2.1) (some (.int r.1)) := by
  refine o_Cn_of (by decide) (Nat.le_of_ble_eq_true rfl) ?_
  intro p e s m below meth c A ls C hD hP hS hl
  have hDD : ∀ (rt : Nat) (Ni : SNI) (Np : SNP) (No : SNO) (Nx : SNX) (Nf : SNF) (Na : SNA) (Nh : SNH) (Nq : SNQ) (Nj : SNJ) (M0 : SMT) (M1 : SMT), va_D A (m_cw ad ca ky ty rt Ni Np No Nx Nf Na Nh Nq Nj M0 M1) := fun _ _ _ _ _ _ _ _ _ _ _ _ => o_D_map hD rfl
  have hl : lv_has ls 10 [(0, .ref (ad 0)), (1, .int x1), (2, .int x2), (3, .int x3)] := hl
  unfold m_MM_several at h
  have C0 := C
  obtain ⟨hx, hb, -, -, -, hown, hts, hK, -, -⟩ := C0
  refine lv_aload_n hx hb d_MM_several_0 rfl (lv_at hl 0 rfl) ?_
  refine o_get (v := .long (NJ_seen Nj)) C in_MM hP 0 mw_0 rfl 58 (by decide) k_8_48 rfl rfl d_MM_several_1 ?_
  refine lv_topl (fun x4_4 ex4_4 => ?_)
  replace h := o_nm_at ex4_4 h
  refine lv_lstore (lv' := [(4, .long x4_4), (0, .ref (ad 0)), (1, .int x1), (2, .int x2), (3, .int x3)]) hx hb d_MM_several_4 hl (by decide) rfl (fun ls hl => ?_)
  refine lv_aload_n hx hb d_MM_several_6 rfl (lv_at hl 1 rfl) ?_
  refine o_get (v := .int (NQ_pairs Nq)) C in_MM hP 0 mw_0 rfl 53 (by decide) k_8_43 rfl rfl d_MM_several_7 ?_
  refine lv_topi (fun x6_10 ex6_10 => ?_)
  replace h := o_nm_at ex6_10 h
  refine lv_istore (lv' := [(6, .int x6_10), (4, .long x4_4), (0, .ref (ad 0)), (1, .int x1), (2, .int x2), (3, .int x3)]) hx hb d_MM_several_10 hl (by decide) rfl (fun ls hl => ?_)
  refine lv_iconst (v := (0:Int32)) hx hb d_MM_several_12 (by decide) ?_
  refine lv_istore (lv' := [(7, .int (0:Int32)), (6, .int x6_10), (4, .long x4_4), (0, .ref (ad 0)), (1, .int x1), (2, .int x2), (3, .int x3)]) hx hb d_MM_several_13 hl (by decide) rfl (fun ls hl => ?_)
  refine lv_iconst (v := (0:Int32)) hx hb d_MM_several_15 (by decide) ?_
  refine lv_istore (lv' := [(8, .int (0:Int32)), (7, .int (0:Int32)), (6, .int x6_10), (4, .long x4_4), (0, .ref (ad 0)), (1, .int x1), (2, .int x2), (3, .int x3)]) hx hb d_MM_several_16 hl (by decide) rfl (fun ls hl => ?_)
  refine lv_aload_n hx hb d_MM_several_18 rfl (lv_at hl 4 rfl) ?_
  refine o_get (v := .ref (ad 33)) C in_MM hP 0 mw_0 rfl 4 (by decide) k_7_234 rfl rfl d_MM_several_19 ?_
  refine o_get (v := .ref (ad 40)) C in_MT hP 33 mw_33 rfl 6 (by decide) k_7_113 rfl rfl d_MM_several_22 ?_
  refine lv_iload_n hx hb d_MM_several_25 rfl (lv_at hl 6 rfl) ?_
  obtain ⟨g1, h⟩ := o_gd_some h
  refine o_iald (f := (MT_first M0)) C hP 40 38 mw_40 rfl g1 d_MM_several_26 ?_
  refine lv_topi (fun x9_27 ex9_27 => ?_)
  replace h := o_nm_at ex9_27 h
  refine lv_istore (lv' := [(9, .int x9_27), (8, .int (0:Int32)), (7, .int (0:Int32)), (6, .int x6_10), (4, .long x4_4), (0, .ref (ad 0)), (1, .int x1), (2, .int x2), (3, .int x3)]) hx hb d_MM_several_27 hl (by decide) rfl (fun ls hl => ?_)
  obtain ⟨q2, hq2, h⟩ := o_bd_some h
  refine o_sim2 (AH := fun zz => o_At p l e (rm_MM_several d) s m _ below meth c _ m_cls D A 10 29 [] (m_cw ad ca ky ty zz.2.2.2.2.2.2.2.2.2.2 Ni zz.2.2.2.2.2.1 zz.2.2.2.2.2.2.1 zz.2.2.2.2.2.2.2.1 Nf Na Nh zz.2.2.2.2.2.2.2.2.1 zz.2.2.2.2.2.2.2.2.2.1 M0 zz.2.2.2.2.1) [(0, .ref (ad 0)), (1, .int x1), (3, .int x3), (4, .long zz.1), (6, .int x6_10), (7, .int zz.2.1), (8, .int zz.2.2.1), (9, .int zz.2.2.2.1)]) (AX := fun qq => o_At p l e (rm_MM_several d) s m _ below meth c _ m_cls D A 10 84 [] (m_cw ad ca ky ty qq.2.2.2.2.2.2.2.2.2.2.2 Ni qq.2.2.2.2.2.2.1 qq.2.2.2.2.2.2.2.1 qq.2.2.2.2.2.2.2.2.1 Nf Na Nh qq.2.2.2.2.2.2.2.2.2.1 qq.2.2.2.2.2.2.2.2.2.2.1 M0 qq.2.2.2.2.2.1) [(0, .ref (ad 0)), (1, .int x1), (4, .long qq.2.1), (6, .int x6_10), (7, .int qq.2.2.1), (8, .int qq.2.2.2.1)]) (fun zz qq h h0 h1 => f_MM_several_b29 hE hKy C hDD d rec hrec n x1 x3 x6_10 M0 Na Ni Nf Nh zz qq h h0 h1) n _ q2 hq2 ?_ _ _ _ hP hS (lv_sub hl [5, 6, 8, 4, 3, 2, 1, 0] rfl)
  intro H locs ls hP hS hl
  exact f_MM_several_j84 hE hKy C hDD d rec hrec n x1 q2.2.1 x6_10 q2.2.2.1 q2.2.2.2.1 M0 q2.2.2.2.2.2.1 q2.2.2.2.2.2.2.1 q2.2.2.2.2.2.2.2.1 q2.2.2.2.2.2.2.2.2.1 Na q2.2.2.2.2.2.2.2.2.2.1 q2.2.2.2.2.2.2.2.2.2.2.1 q2.2.2.2.2.2.2.2.2.2.2.2 Ni Nf Nh h _ _ _ hP hS (lv_sub hl [0, 1, 2, 3, 4, 5] rfl)
set_option maxHeartbeats 4000000 in
set_option maxRecDepth 100000 in
theorem f_MM_ifs_j57 {E : (Nat → Prop) → State → Heap → Prop} {p : Program} {l : Launch} {e : Env} {s : State} {m : MethodId} {args : Array Value} {below : List Frame} {meth : Method} {c : Code} {D : va_G} {ad kd sd vd xd : Nat → Nat} {ca : Nat → ClassId} {A : Nat → Prop} {ky ty : Nat → Option Nat} (hE : o_EK E kd sd vd xd) (hKy : m_KY ky ty sd) (C : o_Cx E p s m args meth c D m_cls (m_tys ca) "SchemaJudgeModel" b_MM_ifs (some .boolean) 10 cc_MM_ifs A) (hDD : ∀ (rt : Nat) (Ni : SNI) (Np : SNP) (No : SNO) (Nx : SNX) (Nf : SNF) (Na : SNA) (Nh : SNH) (Nq : SNQ) (Nj : SNJ) (M0 : SMT) (M1 : SMT), va_D A (m_cw ad ca ky ty rt Ni Np No Nx Nf Na Nh Nq Nj M0 M1)) (d : Nat) (rec : Int32 → Int32 → SMT → SMT → SNP → SNO → SNX → SNA → SNQ → SNJ → Nat → Option (Int32 × SMT × SNP × SNO × SNX × SNQ × SNJ × Nat)) (hrec : ∀ (x1 : Int32) (x2 : Int32) (M0 : SMT) (M1 : SMT) (Np : SNP) (No : SNO) (Nx : SNX) (Na : SNA) (Nq : SNQ) (Nj : SNJ) (rt : Nat) (Ni : SNI) (Nf : SNF) (Nh : SNH) (r : Int32 × SMT × SNP × SNO × SNX × SNQ × SNJ × Nat), rec x1 x2 M0 M1 Np No Nx Na Nq Nj rt = some r → o_Cn E l D m_cls (m_tys ca) y_MM_judge cc_MM_judge (rm_MM_judge d) [.ref (ad 0), .int x1, .int x2] (m_cw ad ca ky ty rt Ni Np No Nx Nf Na Nh Nq Nj M0 M1) (m_cw ad ca ky ty r.2.2.2.2.2.2.2 Ni r.2.2.1 r.2.2.2.1 r.2.2.2.2.1 Nf Na Nh r.2.2.2.2.2.1 r.2.2.2.2.2.2.1 M0 r.2.1) (some (.int r.1))) (n : Nat) (x3 : Int32) (x4 : Int64) (y1 : Int32) (y2 : Nat) (gy2 : o_sb y2 = true) (M0 : SMT) (M1 : SMT) (Np : SNP) (No : SNO) (Nx : SNX) (Na : SNA) (Nq : SNQ) (Nj : SNJ) (rt : Nat) (Ni : SNI) (Nf : SNF) (Nh : SNH) {r : Int32 × SMT × SNP × SNO × SNX × SNQ × SNJ × Nat} (h : m_MM_ifs_j57 n rec x3 x4 y1 y2 M0 M1 Np No Nx Na Nq Nj rt = some r) : o_At p l e (rm_MM_ifs d) s m args below meth c (MQ below (o_Qx D m_cls (some (.int r.1)) (m_cw ad ca ky ty r.2.2.2.2.2.2.2 Ni r.2.2.1 r.2.2.2.1 r.2.2.2.2.1 Nf Na Nh r.2.2.2.2.2.1 r.2.2.2.2.2.2.1 M0 r.2.1) A) args s 0 0 A) m_cls D A 10 57 [.ref (sd y2), .int y1, .ref (ad 33)] (m_cw ad ca ky ty rt Ni Np No Nx Nf Na Nh Nq Nj M0 M1) [(0, .ref (ad 0)), (3, .int x3), (4, .long x4)] := by
  unfold m_MM_ifs_j57 at h
  intro H locs ls hP hS hl
  have C0 := C
  obtain ⟨hx, hb, -, -, -, hown, hts, hK, -, -⟩ := C0
  obtain ⟨q2, hq2, h⟩ := o_bd_some h
  refine o_V (st1 := [.int q2]) (w1 := (m_cw ad ca ky ty rt Ni Np No Nx Nf Na Nh Nq Nj M0 M1)) hE.1 C (e_MT_member_a hE hKy l n y1 y2 gy2 M0 Ni Np No Nx Nf Na Nh Nq Nj M1 rt hq2) hP (hDD _ _ _ _ _ _ _ _ _ _ _ _) hS hl.1 rfl mw_33 k_9_226 k_9_227 k_9_228 k_1_13 k_9_229 hv_MT_member rfl rfl ⟨(by dsimp only [rm_MM_ifs, rm_MT_member]; omega), (by dsimp only [rm_MM_ifs, rm_MT_member]; omega)⟩ rfl (Nat.le_of_ble_eq_true rfl) ⟨Nat.zero_le _, Nat.zero_le _⟩ rfl d_MM_ifs_57 (fun H locs hP hS => ?_)
  refine lv_istore (lv' := [(8, .int q2), (0, .ref (ad 0)), (3, .int x3), (4, .long x4)]) hx hb d_MM_ifs_60 hl (by decide) rfl (fun ls hl => ?_)
  refine lv_iconst (v := (1:Int32)) hx hb d_MM_ifs_62 (by decide) ?_
  refine lv_istore (lv' := [(9, .int (1:Int32)), (8, .int q2), (0, .ref (ad 0)), (3, .int x3), (4, .long x4)]) hx hb d_MM_ifs_63 hl (by decide) rfl (fun ls hl => ?_)
  refine lv_iload hx hb d_MM_ifs_65 (lv_at hl 1 rfl) ?_
  refine lv_if_lt (tgt := 110) hx hb d_MM_ifs_67 (by decide) (fun c3 => ?_) (fun c3 => ?_)
  · replace h := o_tt c3 h
    refine lv_aload_n hx hb d_MM_ifs_110 rfl (lv_at hl 2 rfl) ?_
    refine lv_lload hx hb d_MM_ifs_111 (lv_at hl 4 rfl) ?_
    refine o_put (v := .long x4) (ty := .long) (w1 := (m_cw ad ca ky ty rt Ni Np No Nx Nf Na Nh Nq (NJ_mk (NJ_judged Nj) (NJ_deepest Nj) (NJ_depth Nj) (NJ_over Nj) x4) M0 M1)) C in_MM t_MM t_MM_ok n_MM hP (hDD _ _ _ _ _ _ _ _ _ _ _ _) hS 0 mw_0 rfl 58 (by decide) k_8_48 rfl rfl (by decide +kernel) rfl rfl (Nat.le_of_ble_eq_true rfl) rfl d_MM_ifs_113 (fun H locs hP hS => ?_)
    refine lv_iload hx hb d_MM_ifs_116 (lv_at hl 0 rfl) ?_
    cases h
    exact o_rz (v := (1:Int32)) C o_nar1 hP hS d_MM_ifs_118
  · replace h := o_ff c3 h
    refine lv_aload_n hx hb d_MM_ifs_70 rfl (lv_at hl 2 rfl) ?_
    refine o_get (v := .int (NJ_over Nj)) C in_MM hP 0 mw_0 rfl 57 (by decide) k_8_47 rfl rfl d_MM_ifs_71 ?_
    refine lv_if_ne (tgt := 110) hx hb d_MM_ifs_74 (by decide) (fun c4 => ?_) (fun c4 => ?_)
    · replace h := o_ff c4 h
      refine lv_aload_n hx hb d_MM_ifs_110 rfl (lv_at hl 2 rfl) ?_
      refine lv_lload hx hb d_MM_ifs_111 (lv_at hl 4 rfl) ?_
      refine o_put (v := .long x4) (ty := .long) (w1 := (m_cw ad ca ky ty rt Ni Np No Nx Nf Na Nh Nq (NJ_mk (NJ_judged Nj) (NJ_deepest Nj) (NJ_depth Nj) (NJ_over Nj) x4) M0 M1)) C in_MM t_MM t_MM_ok n_MM hP (hDD _ _ _ _ _ _ _ _ _ _ _ _) hS 0 mw_0 rfl 58 (by decide) k_8_48 rfl rfl (by decide +kernel) rfl rfl (Nat.le_of_ble_eq_true rfl) rfl d_MM_ifs_113 (fun H locs hP hS => ?_)
      refine lv_iload hx hb d_MM_ifs_116 (lv_at hl 0 rfl) ?_
      cases h
      exact o_rz (v := (1:Int32)) C o_nar1 hP hS d_MM_ifs_118
    · replace h := o_tt c4 h
      refine lv_aload_n hx hb d_MM_ifs_77 rfl (lv_at hl 2 rfl) ?_
      refine lv_iload hx hb d_MM_ifs_78 (lv_at hl 1 rfl) ?_
      refine lv_iload_n hx hb d_MM_ifs_80 rfl (lv_at hl 3 rfl) ?_
      obtain ⟨q3, hq3, h⟩ := o_bd_some h
      refine o_V (st1 := [.int q3.1]) (w1 := (m_cw ad ca ky ty q3.2.2.2.2.2.2.2 Ni q3.2.2.1 q3.2.2.2.1 q3.2.2.2.2.1 Nf Na Nh q3.2.2.2.2.2.1 q3.2.2.2.2.2.2.1 M0 q3.2.1)) hE.1 C (hrec q2 x3 M0 M1 Np No Nx Na Nq Nj rt Ni Nf Nh _ hq3) hP (hDD _ _ _ _ _ _ _ _ _ _ _ _) hS hl.1 rfl mw_0 k_9_210 k_9_212 k_s_116 k_1_12 k_9_213 hv_MM_judge rfl rfl ⟨(by dsimp only [rm_MM_ifs, rm_MM_judge]; omega), (by dsimp only [rm_MM_ifs, rm_MM_judge]; omega)⟩ rfl (Nat.le_of_ble_eq_true rfl) ⟨Nat.zero_le _, Nat.zero_le _⟩ rfl d_MM_ifs_81 (fun H locs hP hS => ?_)
      refine lv_istore (lv' := [(9, .int q3.1), (8, .int q2), (0, .ref (ad 0)), (3, .int x3), (4, .long x4)]) hx hb d_MM_ifs_84 hl (by decide) rfl (fun ls hl => ?_)
      refine lv_iload hx hb d_MM_ifs_86 (lv_at hl 0 rfl) ?_
      refine lv_if_eq (tgt := 103) hx hb d_MM_ifs_88 (by decide) (fun c5 => ?_) (fun c5 => ?_)
      · replace h := o_tt c5 h
        refine lv_aload_n hx hb d_MM_ifs_103 rfl (lv_at hl 2 rfl) ?_
        refine lv_iload_n hx hb d_MM_ifs_104 rfl (lv_at hl 3 rfl) ?_
        refine lv_iload hx hb d_MM_ifs_105 (lv_at hl 1 rfl) ?_
        obtain ⟨q4, hq4, h⟩ := o_bd_some h
        refine o_V (st1 := []) (w1 := (m_cw ad ca ky ty q3.2.2.2.2.2.2.2 Ni q3.2.2.1 q3.2.2.2.1 q3.2.2.2.2.1 Nf Na Nh q4 q3.2.2.2.2.2.2.1 M0 q3.2.1)) hE.1 C (e_MM_pair hE hKy l x3 q2 q3.2.2.2.2.2.1 Ni q3.2.2.1 q3.2.2.2.1 q3.2.2.2.2.1 Nf Na Nh q3.2.2.2.2.2.2.1 M0 q3.2.1 q3.2.2.2.2.2.2.2 hq4) hP (hDD _ _ _ _ _ _ _ _ _ _ _ _) hS hl.1 rfl mw_0 k_9_214 k_9_216 k_s_117 k_1_12 k_9_217 hv_MM_pair rfl rfl ⟨(by dsimp only [rm_MM_ifs, rm_MM_pair]; omega), (by dsimp only [rm_MM_ifs, rm_MM_pair]; omega)⟩ rfl (Nat.le_of_ble_eq_true rfl) ⟨Nat.zero_le _, Nat.zero_le _⟩ rfl d_MM_ifs_107 (fun H locs hP hS => ?_)
        refine lv_aload_n hx hb d_MM_ifs_110 rfl (lv_at hl 2 rfl) ?_
        refine lv_lload hx hb d_MM_ifs_111 (lv_at hl 4 rfl) ?_
        refine o_put (v := .long x4) (ty := .long) (w1 := (m_cw ad ca ky ty q3.2.2.2.2.2.2.2 Ni q3.2.2.1 q3.2.2.2.1 q3.2.2.2.2.1 Nf Na Nh q4 (NJ_mk (NJ_judged q3.2.2.2.2.2.2.1) (NJ_deepest q3.2.2.2.2.2.2.1) (NJ_depth q3.2.2.2.2.2.2.1) (NJ_over q3.2.2.2.2.2.2.1) x4) M0 q3.2.1)) C in_MM t_MM t_MM_ok n_MM hP (hDD _ _ _ _ _ _ _ _ _ _ _ _) hS 0 mw_0 rfl 58 (by decide) k_8_48 rfl rfl (by decide +kernel) rfl rfl (Nat.le_of_ble_eq_true rfl) rfl d_MM_ifs_113 (fun H locs hP hS => ?_)
        refine lv_iload hx hb d_MM_ifs_116 (lv_at hl 0 rfl) ?_
        obtain ⟨g6, h⟩ := o_gd_some h
        cases h
        exact o_rz C (o_zb_nar g6) hP hS d_MM_ifs_118
      · replace h := o_ff c5 h
        refine lv_lload hx hb d_MM_ifs_91 (lv_at hl 4 rfl) ?_
        refine lv_aload_n hx hb d_MM_ifs_93 rfl (lv_at hl 2 rfl) ?_
        refine o_get (v := .long (NJ_seen q3.2.2.2.2.2.2.1)) C in_MM hP 0 mw_0 rfl 58 (by decide) k_8_48 rfl rfl d_MM_ifs_94 ?_
        refine lv_lor hx hb d_MM_ifs_97 ?_
        refine lv_topl (fun x4_98 ex4_98 => ?_)
        replace h := o_nm_at ex4_98 h
        refine lv_lstore (lv' := [(4, .long x4_98), (9, .int q3.1), (8, .int q2), (0, .ref (ad 0)), (3, .int x3)]) hx hb d_MM_ifs_98 hl (by decide) rfl (fun ls hl => ?_)
        refine lv_goto (tgt := 110) hx hb d_MM_ifs_100 (by decide) ?_
        refine lv_aload_n hx hb d_MM_ifs_110 rfl (lv_at hl 3 rfl) ?_
        refine lv_lload hx hb d_MM_ifs_111 (lv_at hl 0 rfl) ?_
        refine o_put (v := .long x4_98) (ty := .long) (w1 := (m_cw ad ca ky ty q3.2.2.2.2.2.2.2 Ni q3.2.2.1 q3.2.2.2.1 q3.2.2.2.2.1 Nf Na Nh q3.2.2.2.2.2.1 (NJ_mk (NJ_judged q3.2.2.2.2.2.2.1) (NJ_deepest q3.2.2.2.2.2.2.1) (NJ_depth q3.2.2.2.2.2.2.1) (NJ_over q3.2.2.2.2.2.2.1) x4_98) M0 q3.2.1)) C in_MM t_MM t_MM_ok n_MM hP (hDD _ _ _ _ _ _ _ _ _ _ _ _) hS 0 mw_0 rfl 58 (by decide) k_8_48 rfl rfl (by decide +kernel) rfl rfl (Nat.le_of_ble_eq_true rfl) rfl d_MM_ifs_113 (fun H locs hP hS => ?_)
        refine lv_iload hx hb d_MM_ifs_116 (lv_at hl 1 rfl) ?_
        obtain ⟨g7, h⟩ := o_gd_some h
        cases h
        exact o_rz C (o_zb_nar g7) hP hS d_MM_ifs_118
set_option maxHeartbeats 4000000 in
set_option maxRecDepth 100000 in
theorem f_MM_ifs_j40 {E : (Nat → Prop) → State → Heap → Prop} {p : Program} {l : Launch} {e : Env} {s : State} {m : MethodId} {args : Array Value} {below : List Frame} {meth : Method} {c : Code} {D : va_G} {ad kd sd vd xd : Nat → Nat} {ca : Nat → ClassId} {A : Nat → Prop} {ky ty : Nat → Option Nat} (hE : o_EK E kd sd vd xd) (hKy : m_KY ky ty sd) (C : o_Cx E p s m args meth c D m_cls (m_tys ca) "SchemaJudgeModel" b_MM_ifs (some .boolean) 10 cc_MM_ifs A) (hDD : ∀ (rt : Nat) (Ni : SNI) (Np : SNP) (No : SNO) (Nx : SNX) (Nf : SNF) (Na : SNA) (Nh : SNH) (Nq : SNQ) (Nj : SNJ) (M0 : SMT) (M1 : SMT), va_D A (m_cw ad ca ky ty rt Ni Np No Nx Nf Na Nh Nq Nj M0 M1)) (d : Nat) (rec : Int32 → Int32 → SMT → SMT → SNP → SNO → SNX → SNA → SNQ → SNJ → Nat → Option (Int32 × SMT × SNP × SNO × SNX × SNQ × SNJ × Nat)) (hrec : ∀ (x1 : Int32) (x2 : Int32) (M0 : SMT) (M1 : SMT) (Np : SNP) (No : SNO) (Nx : SNX) (Na : SNA) (Nq : SNQ) (Nj : SNJ) (rt : Nat) (Ni : SNI) (Nf : SNF) (Nh : SNH) (r : Int32 × SMT × SNP × SNO × SNX × SNQ × SNJ × Nat), rec x1 x2 M0 M1 Np No Nx Na Nq Nj rt = some r → o_Cn E l D m_cls (m_tys ca) y_MM_judge cc_MM_judge (rm_MM_judge d) [.ref (ad 0), .int x1, .int x2] (m_cw ad ca ky ty rt Ni Np No Nx Nf Na Nh Nq Nj M0 M1) (m_cw ad ca ky ty r.2.2.2.2.2.2.2 Ni r.2.2.1 r.2.2.2.1 r.2.2.2.2.1 Nf Na Nh r.2.2.2.2.2.1 r.2.2.2.2.2.2.1 M0 r.2.1) (some (.int r.1))) (n : Nat) (x2 : Int32) (x3 : Int32) (x4 : Int64) (x7 : Int32) (M0 : SMT) (M1 : SMT) (Np : SNP) (No : SNO) (Nx : SNX) (Na : SNA) (Nq : SNQ) (Nj : SNJ) (rt : Nat) (Ni : SNI) (Nf : SNF) (Nh : SNH) {r : Int32 × SMT × SNP × SNO × SNX × SNQ × SNJ × Nat} (h : m_MM_ifs_j40 n rec x2 x3 x4 x7 M0 M1 Np No Nx Na Nq Nj rt = some r) : o_At p l e (rm_MM_ifs d) s m args below meth c (MQ below (o_Qx D m_cls (some (.int r.1)) (m_cw ad ca ky ty r.2.2.2.2.2.2.2 Ni r.2.2.1 r.2.2.2.1 r.2.2.2.2.1 Nf Na Nh r.2.2.2.2.2.1 r.2.2.2.2.2.2.1 M0 r.2.1) A) args s 0 0 A) m_cls D A 10 40 [] (m_cw ad ca ky ty rt Ni Np No Nx Nf Na Nh Nq Nj M0 M1) [(0, .ref (ad 0)), (2, .int x2), (3, .int x3), (4, .long x4), (7, .int x7)] := by
  unfold m_MM_ifs_j40 at h
  intro H locs ls hP hS hl
  have C0 := C
  obtain ⟨hx, hb, -, -, -, hown, hts, hK, -, -⟩ := C0
  refine lv_aload_n hx hb d_MM_ifs_40 rfl (lv_at hl 0 rfl) ?_
  refine o_get (v := .ref (ad 33)) C in_MM hP 0 mw_0 rfl 4 (by decide) k_7_234 rfl rfl d_MM_ifs_41 ?_
  refine lv_iload_n hx hb d_MM_ifs_44 rfl (lv_at hl 1 rfl) ?_
  refine lv_iload hx hb d_MM_ifs_45 (lv_at hl 4 rfl) ?_
  refine lv_if_eq (tgt := 55) hx hb d_MM_ifs_47 (by decide) (fun c2 => ?_) (fun c2 => ?_)
  · replace h := o_tt c2 h
    refine va_ldcS (q := sd 28) hx hb hown (hE.2.2.2.2.2.1 _ _ _ C.2.2.2.2.2.2.2.2.2 ("SchemaJudgeModel", 88, "else", 28) (List.mem_of_getElem? (i := 36) rfl)) d_MM_ifs_55 ?_
    exact f_MM_ifs_j57 hE hKy C hDD d rec hrec n x3 x4 x2 28 rfl M0 M1 Np No Nx Na Nq Nj rt Ni Nf Nh h _ _ _ hP hS (lv_sub hl [0, 2, 3] rfl)
  · replace h := o_ff c2 h
    refine va_ldcS (q := sd 27) hx hb hown (hE.2.2.2.2.2.1 _ _ _ C.2.2.2.2.2.2.2.2.2 ("SchemaJudgeModel", 87, "then", 27) (List.mem_of_getElem? (i := 35) rfl)) d_MM_ifs_50 ?_
    refine lv_goto (tgt := 57) hx hb d_MM_ifs_52 (by decide) ?_
    exact f_MM_ifs_j57 hE hKy C hDD d rec hrec n x3 x4 x2 27 rfl M0 M1 Np No Nx Na Nq Nj rt Ni Nf Nh h _ _ _ hP hS (lv_sub hl [0, 2, 3] rfl)
set_option maxHeartbeats 4000000 in
set_option maxRecDepth 100000 in
theorem e_MM_ifs {E : (Nat → Prop) → State → Heap → Prop} {D : va_G} {ad kd sd vd xd : Nat → Nat} {ca : Nat → ClassId} {ky ty : Nat → Option Nat} (hE : o_EK E kd sd vd xd) (hKy : m_KY ky ty sd) (l : Launch) (n : Nat) (d : Nat) (rec : Int32 → Int32 → SMT → SMT → SNP → SNO → SNX → SNA → SNQ → SNJ → Nat → Option (Int32 × SMT × SNP × SNO × SNX × SNQ × SNJ × Nat)) (hrec : ∀ (x1 : Int32) (x2 : Int32) (M0 : SMT) (M1 : SMT) (Np : SNP) (No : SNO) (Nx : SNX) (Na : SNA) (Nq : SNQ) (Nj : SNJ) (rt : Nat) (Ni : SNI) (Nf : SNF) (Nh : SNH) (r : Int32 × SMT × SNP × SNO × SNX × SNQ × SNJ × Nat), rec x1 x2 M0 M1 Np No Nx Na Nq Nj rt = some r → o_Cn E l D m_cls (m_tys ca) y_MM_judge cc_MM_judge (rm_MM_judge d) [.ref (ad 0), .int x1, .int x2] (m_cw ad ca ky ty rt Ni Np No Nx Nf Na Nh Nq Nj M0 M1) (m_cw ad ca ky ty r.2.2.2.2.2.2.2 Ni r.2.2.1 r.2.2.2.1 r.2.2.2.2.1 Nf Na Nh r.2.2.2.2.2.1 r.2.2.2.2.2.2.1 M0 r.2.1) (some (.int r.1))) (x1 : Int32) (x2 : Int32) (x3 : Int32) (M0 : SMT) (M1 : SMT) (Np : SNP) (No : SNO) (Nx : SNX) (Na : SNA) (Nq : SNQ) (Nj : SNJ) (rt : Nat) (Ni : SNI) (Nf : SNF) (Nh : SNH) {r : Int32 × SMT × SNP × SNO × SNX × SNQ × SNJ × Nat} (h : m_MM_ifs n rec x1 x2 x3 M0 M1 Np No Nx Na Nq Nj rt = some r) : o_Cn E l D m_cls (m_tys ca) y_MM_ifs cc_MM_ifs (rm_MM_ifs d) [.ref (ad 0), .int x1, .int x2, .int x3] (m_cw ad ca ky ty rt Ni Np No Nx Nf Na Nh Nq Nj M0 M1) (m_cw ad ca ky ty r.2.2.2.2.2.2.2 Ni r.2.2.1 r.2.2.2.1 r.2.2.2.2.1 Nf Na Nh r.2.2.2.2.2.1 r.2.2.2.2.2.2.1 M0 r.2.1) (some (.int r.1)) := by
  refine o_Cn_of (by decide) (Nat.le_of_ble_eq_true rfl) ?_
  intro p e s m below meth c A ls C hD hP hS hl
  have hDD : ∀ (rt : Nat) (Ni : SNI) (Np : SNP) (No : SNO) (Nx : SNX) (Nf : SNF) (Na : SNA) (Nh : SNH) (Nq : SNQ) (Nj : SNJ) (M0 : SMT) (M1 : SMT), va_D A (m_cw ad ca ky ty rt Ni Np No Nx Nf Na Nh Nq Nj M0 M1) := fun _ _ _ _ _ _ _ _ _ _ _ _ => o_D_map hD rfl
  have hl : lv_has ls 10 [(0, .ref (ad 0)), (1, .int x1), (2, .int x2), (3, .int x3)] := hl
  unfold m_MM_ifs at h
  have C0 := C
  obtain ⟨hx, hb, -, -, -, hown, hts, hK, -, -⟩ := C0
  refine lv_aload_n hx hb d_MM_ifs_0 rfl (lv_at hl 0 rfl) ?_
  refine o_get (v := .long (NJ_seen Nj)) C in_MM hP 0 mw_0 rfl 58 (by decide) k_8_48 rfl rfl d_MM_ifs_1 ?_
  refine lv_topl (fun x4_4 ex4_4 => ?_)
  replace h := o_nm_at ex4_4 h
  refine lv_lstore (lv' := [(4, .long x4_4), (0, .ref (ad 0)), (1, .int x1), (2, .int x2), (3, .int x3)]) hx hb d_MM_ifs_4 hl (by decide) rfl (fun ls hl => ?_)
  refine lv_aload_n hx hb d_MM_ifs_6 rfl (lv_at hl 1 rfl) ?_
  refine o_get (v := .int (NQ_pairs Nq)) C in_MM hP 0 mw_0 rfl 53 (by decide) k_8_43 rfl rfl d_MM_ifs_7 ?_
  refine lv_topi (fun x6_10 ex6_10 => ?_)
  replace h := o_nm_at ex6_10 h
  refine lv_istore (lv' := [(6, .int x6_10), (4, .long x4_4), (0, .ref (ad 0)), (1, .int x1), (2, .int x2), (3, .int x3)]) hx hb d_MM_ifs_10 hl (by decide) rfl (fun ls hl => ?_)
  refine lv_aload_n hx hb d_MM_ifs_12 rfl (lv_at hl 2 rfl) ?_
  refine lv_iload_n hx hb d_MM_ifs_13 rfl (lv_at hl 3 rfl) ?_
  refine lv_iload_n hx hb d_MM_ifs_14 rfl (lv_at hl 5 rfl) ?_
  obtain ⟨q1, hq1, h⟩ := o_bd_some h
  refine o_V (st1 := [.int q1.1]) (w1 := (m_cw ad ca ky ty q1.2.2.2.2.2.2.2 Ni q1.2.2.1 q1.2.2.2.1 q1.2.2.2.2.1 Nf Na Nh q1.2.2.2.2.2.1 q1.2.2.2.2.2.2.1 M0 q1.2.1)) hE.1 C (hrec x1 x3 M0 M1 Np No Nx Na Nq Nj rt Ni Nf Nh _ hq1) hP (hDD _ _ _ _ _ _ _ _ _ _ _ _) hS hl.1 rfl mw_0 k_9_210 k_9_212 k_s_116 k_1_12 k_9_213 hv_MM_judge rfl rfl ⟨(by dsimp only [rm_MM_ifs, rm_MM_judge]; omega), (by dsimp only [rm_MM_ifs, rm_MM_judge]; omega)⟩ rfl (Nat.le_of_ble_eq_true rfl) ⟨Nat.zero_le _, Nat.zero_le _⟩ rfl d_MM_ifs_15 (fun H locs hP hS => ?_)
  refine lv_istore (lv' := [(7, .int q1.1), (6, .int x6_10), (4, .long x4_4), (0, .ref (ad 0)), (1, .int x1), (2, .int x2), (3, .int x3)]) hx hb d_MM_ifs_18 hl (by decide) rfl (fun ls hl => ?_)
  refine lv_aload_n hx hb d_MM_ifs_20 rfl (lv_at hl 3 rfl) ?_
  refine lv_iload hx hb d_MM_ifs_21 (lv_at hl 1 rfl) ?_
  refine o_put (v := .int x6_10) (ty := .int) (w1 := (m_cw ad ca ky ty q1.2.2.2.2.2.2.2 Ni q1.2.2.1 q1.2.2.2.1 q1.2.2.2.2.1 Nf Na Nh (NQ_mk (NQ_pairValue q1.2.2.2.2.2.1) (NQ_pairKey q1.2.2.2.2.2.1) x6_10) q1.2.2.2.2.2.2.1 M0 q1.2.1)) C in_MM t_MM t_MM_ok n_MM hP (hDD _ _ _ _ _ _ _ _ _ _ _ _) hS 0 mw_0 rfl 53 (by decide) k_8_43 rfl rfl (by decide +kernel) rfl rfl (Nat.le_of_ble_eq_true rfl) rfl d_MM_ifs_23 (fun H locs hP hS => ?_)
  refine lv_iload hx hb d_MM_ifs_26 (lv_at hl 0 rfl) ?_
  refine lv_if_eq (tgt := 40) hx hb d_MM_ifs_28 (by decide) (fun c1 => ?_) (fun c1 => ?_)
  · replace h := o_tt c1 h
    exact f_MM_ifs_j40 hE hKy C hDD d rec hrec n x2 x3 x4_4 q1.1 M0 q1.2.1 q1.2.2.1 q1.2.2.2.1 q1.2.2.2.2.1 Na (NQ_mk (NQ_pairValue q1.2.2.2.2.2.1) (NQ_pairKey q1.2.2.2.2.2.1) x6_10) q1.2.2.2.2.2.2.1 q1.2.2.2.2.2.2.2 Ni Nf Nh h _ _ _ hP hS (lv_sub hl [3, 5, 6, 2, 0] rfl)
  · replace h := o_ff c1 h
    refine lv_lload hx hb d_MM_ifs_31 (lv_at hl 2 rfl) ?_
    refine lv_aload_n hx hb d_MM_ifs_33 rfl (lv_at hl 3 rfl) ?_
    refine o_get (v := .long (NJ_seen q1.2.2.2.2.2.2.1)) C in_MM hP 0 mw_0 rfl 58 (by decide) k_8_48 rfl rfl d_MM_ifs_34 ?_
    refine lv_lor hx hb d_MM_ifs_37 ?_
    refine lv_topl (fun x4_38 ex4_38 => ?_)
    replace h := o_nm_at ex4_38 h
    refine lv_lstore (lv' := [(4, .long x4_38), (7, .int q1.1), (6, .int x6_10), (0, .ref (ad 0)), (1, .int x1), (2, .int x2), (3, .int x3)]) hx hb d_MM_ifs_38 hl (by decide) rfl (fun ls hl => ?_)
    exact f_MM_ifs_j40 hE hKy C hDD d rec hrec n x2 x3 x4_38 q1.1 M0 q1.2.1 q1.2.2.1 q1.2.2.2.1 q1.2.2.2.2.1 Na (NQ_mk (NQ_pairValue q1.2.2.2.2.2.1) (NQ_pairKey q1.2.2.2.2.2.1) x6_10) q1.2.2.2.2.2.2.1 q1.2.2.2.2.2.2.2 Ni Nf Nh h _ _ _ hP hS (lv_sub hl [3, 5, 6, 0, 1] rfl)
set_option maxHeartbeats 4000000 in
set_option maxRecDepth 100000 in
theorem f_MT_alike_b166_ba {E : (Nat → Prop) → State → Heap → Prop} {p : Program} {l : Launch} {e : Env} {s : State} {m : MethodId} {args : Array Value} {below : List Frame} {meth : Method} {c : Code} {D : va_G} {ad kd sd vd xd : Nat → Nat} {ca : Nat → ClassId} {A : Nat → Prop} {ky ty : Nat → Option Nat} {Q : State → Prop} (hE : o_EK E kd sd vd xd) (hKy : m_KY ky ty sd) (C : o_Cx E p s m args meth c D m_cls (m_tys ca) "SchemaJudgeModel$Text" b_MT_alike (some .boolean) 6 cc_MT_alike A) (hDD : ∀ (rt : Nat) (Ni : SNI) (Np : SNP) (No : SNO) (Nx : SNX) (Nf : SNF) (Na : SNA) (Nh : SNH) (Nq : SNQ) (Nj : SNJ) (M0 : SMT) (M1 : SMT), va_D A (m_cw ad ca ky ty rt Ni Np No Nx Nf Na Nh Nq Nj M0 M1)) (d : Nat) (rec : Int32 → Int32 → SMT → SMT → Option (Int32)) (hrec : ∀ (x1 : Int32) (x3 : Int32) (a0 : SMT) (a2 : SMT) (Ni : SNI) (Np : SNP) (No : SNO) (Nx : SNX) (Nf : SNF) (Na : SNA) (Nh : SNH) (Nq : SNQ) (Nj : SNJ) (rt : Nat) (r : Int32), rec x1 x3 a0 a2 = some r → o_Cn E l D m_cls (m_tys ca) y_MT_alike cc_MT_alike (rm_MT_alike d) [.ref (ad 48), .int x1, .ref (ad 33), .int x3] (m_cw ad ca ky ty rt Ni Np No Nx Nf Na Nh Nq Nj a2 a0) (m_cw ad ca ky ty rt Ni Np No Nx Nf Na Nh Nq Nj a2 a0) (some (.int r))) (n : Nat) (u166_x3 : Int32) (u166_a0 : SMT) (u166_a2 : SMT) (u166_Ni : SNI) (u166_Np : SNP) (u166_No : SNO) (u166_Nx : SNX) (u166_Nf : SNF) (u166_Na : SNA) (u166_Nh : SNH) (u166_Nq : SNQ) (u166_Nj : SNJ) (u166_rt : Nat) (z : Int32) (q : Nat × Int32) (h : m_MT_alike_b166 n rec u166_x3 u166_a0 u166_a2 z = some q) (h0 : q.1 = 0 → o_At p l e (rm_MT_alike (d + 1)) s m args below meth c Q m_cls D A 6 166 [] (m_cw ad ca ky ty u166_rt u166_Ni u166_Np u166_No u166_Nx u166_Nf u166_Na u166_Nh u166_Nq u166_Nj u166_a2 u166_a0) [(0, .ref (ad 48)), (2, .ref (ad 33)), (3, .int u166_x3), (4, .int q.2)]) (h1 : q.1 ≠ 0 → (if q.1 = 1 then o_At p l e (rm_MT_alike (d + 1)) s m args below meth c Q m_cls D A 6 203 [] (m_cw ad ca ky ty u166_rt u166_Ni u166_Np u166_No u166_Nx u166_Nf u166_Na u166_Nh u166_Nq u166_Nj u166_a2 u166_a0) [] else o_At p l e (rm_MT_alike (d + 1)) s m args below meth c Q m_cls D A 6 217 [] (m_cw ad ca ky ty u166_rt u166_Ni u166_Np u166_No u166_Nx u166_Nf u166_Na u166_Nh u166_Nq u166_Nj u166_a2 u166_a0) [])) : o_At p l e (rm_MT_alike (d + 1)) s m args below meth c Q m_cls D A 6 166 [] (m_cw ad ca ky ty u166_rt u166_Ni u166_Np u166_No u166_Nx u166_Nf u166_Na u166_Nh u166_Nq u166_Nj u166_a2 u166_a0) [(0, .ref (ad 48)), (2, .ref (ad 33)), (3, .int u166_x3), (4, .int z)] := by
  unfold m_MT_alike_b166 at h
  intro H locs ls hP hS hl
  have C0 := C
  obtain ⟨hx, hb, -, -, -, hown, hts, hK, -, -⟩ := C0
  refine lv_iload hx hb d_MT_alike_166 (lv_at hl 3 rfl) ?_
  refine lv_if_lt (tgt := 217) hx hb d_MT_alike_168 (by decide) (fun c16 => ?_) (fun c16 => ?_)
  · replace h := o_tt c16 h
    cases h
    exact h1 (Nat.succ_ne_zero 1) _ _ _ hP hS (lv_sub hl [] rfl)
  · replace h := o_ff c16 h
    refine lv_aload_n hx hb d_MT_alike_171 rfl (lv_at hl 1 rfl) ?_
    refine lv_iload_n hx hb d_MT_alike_172 rfl (lv_at hl 2 rfl) ?_
    refine lv_aload_n hx hb d_MT_alike_173 rfl (lv_at hl 0 rfl) ?_
    refine lv_aload_n hx hb d_MT_alike_174 rfl (lv_at hl 0 rfl) ?_
    refine o_get (v := .ref (ad 57)) C in_MT hP 48 mw_48 rfl 8 (by decide) k_7_116 rfl rfl d_MT_alike_175 ?_
    refine lv_iload hx hb d_MT_alike_178 (lv_at hl 3 rfl) ?_
    obtain ⟨g17, h⟩ := o_gd_some h
    refine o_iald (f := (MT_name u166_a0)) C hP 57 54 mw_57 rfl g17 d_MT_alike_180 ?_
    obtain ⟨q1, hq1, h⟩ := o_bd_some h
    refine o_V (st1 := [.int q1]) (w1 := (m_cw ad ca ky ty u166_rt u166_Ni u166_Np u166_No u166_Nx u166_Nf u166_Na u166_Nh u166_Nq u166_Nj u166_a2 u166_a0)) hE.1 C (e_MT_member_1_ab hE hKy l n u166_x3 ((MT_name u166_a0) z.toNatClampNeg) u166_a2 u166_a0 u166_Ni u166_Np u166_No u166_Nx u166_Nf u166_Na u166_Nh u166_Nq u166_Nj u166_rt hq1) hP (hDD _ _ _ _ _ _ _ _ _ _ _ _) hS hl.1 rfl mw_33 k_10_33 k_10_0 k_10_1 k_1_13 k_10_2 hv_MT_member_1 rfl rfl ⟨(by dsimp only [rm_MT_alike, rm_MT_member_1]; omega), (by dsimp only [rm_MT_alike, rm_MT_member_1]; omega)⟩ rfl (Nat.le_of_ble_eq_true rfl) ⟨Nat.zero_le _, Nat.zero_le _⟩ rfl d_MT_alike_181 (fun H locs hP hS => ?_)
    refine lv_istore (lv' := [(5, .int q1), (0, .ref (ad 48)), (2, .ref (ad 33)), (3, .int u166_x3), (4, .int z)]) hx hb d_MT_alike_184 hl (by decide) rfl (fun ls hl => ?_)
    refine lv_iload hx hb d_MT_alike_186 (lv_at hl 0 rfl) ?_
    refine lv_if_lt (tgt := 203) hx hb d_MT_alike_188 (by decide) (fun c18 => ?_) (fun c18 => ?_)
    · replace h := o_tt c18 h
      cases h
      exact h1 (Nat.succ_ne_zero 0) _ _ _ hP hS (lv_sub hl [] rfl)
    · replace h := o_ff c18 h
      refine lv_aload_n hx hb d_MT_alike_191 rfl (lv_at hl 1 rfl) ?_
      refine lv_iload hx hb d_MT_alike_192 (lv_at hl 4 rfl) ?_
      refine lv_aload_n hx hb d_MT_alike_194 rfl (lv_at hl 2 rfl) ?_
      refine lv_iload hx hb d_MT_alike_195 (lv_at hl 0 rfl) ?_
      obtain ⟨q2, hq2, h⟩ := o_bd_some h
      refine o_V (st1 := [.int q2]) (w1 := (m_cw ad ca ky ty u166_rt u166_Ni u166_Np u166_No u166_Nx u166_Nf u166_Na u166_Nh u166_Nq u166_Nj u166_a2 u166_a0)) hE.1 C (hrec z q1 u166_a0 u166_a2 u166_Ni u166_Np u166_No u166_Nx u166_Nf u166_Na u166_Nh u166_Nq u166_Nj u166_rt _ hq2) hP (hDD _ _ _ _ _ _ _ _ _ _ _ _) hS hl.1 rfl mw_48 k_10_32 k_10_28 k_10_29 k_1_13 k_10_30 hv_MT_alike rfl rfl ⟨(by dsimp only [rm_MT_alike, rm_MT_alike]; omega), (by dsimp only [rm_MT_alike, rm_MT_alike]; omega)⟩ rfl (Nat.le_of_ble_eq_true rfl) ⟨Nat.zero_le _, Nat.zero_le _⟩ rfl d_MT_alike_197 (fun H locs hP hS => ?_)
      refine lv_if_ne (tgt := 205) hx hb d_MT_alike_200 (by decide) (fun c19 => ?_) (fun c19 => ?_)
      · replace h := o_ff c19 h
        refine lv_aload_n hx hb d_MT_alike_205 rfl (lv_at hl 1 rfl) ?_
        refine o_get (v := .ref (ad 56)) C in_MT hP 48 mw_48 rfl 7 (by decide) k_7_114 rfl rfl d_MT_alike_206 ?_
        refine lv_iload hx hb d_MT_alike_209 (lv_at hl 4 rfl) ?_
        obtain ⟨g20, h⟩ := o_gd_some h
        refine o_iald (f := (MT_next u166_a0)) C hP 56 53 mw_56 rfl g20 d_MT_alike_211 ?_
        refine lv_topi (fun x4_212 ex4_212 => ?_)
        replace h := o_nm_at ex4_212 h
        refine lv_istore (lv' := [(4, .int x4_212), (5, .int q1), (0, .ref (ad 48)), (2, .ref (ad 33)), (3, .int u166_x3)]) hx hb d_MT_alike_212 hl (by decide) rfl (fun ls hl => ?_)
        refine lv_goto (tgt := 166) hx hb d_MT_alike_214 (by decide) ?_
        cases h
        exact h0 rfl _ _ _ hP hS (lv_sub hl [2, 3, 4, 0] rfl)
      · replace h := o_tt c19 h
        cases h
        exact h1 (Nat.succ_ne_zero 0) _ _ _ hP hS (lv_sub hl [] rfl)
set_option maxHeartbeats 4000000 in
set_option maxRecDepth 100000 in
theorem f_MT_alike_b116_ba {E : (Nat → Prop) → State → Heap → Prop} {p : Program} {l : Launch} {e : Env} {s : State} {m : MethodId} {args : Array Value} {below : List Frame} {meth : Method} {c : Code} {D : va_G} {ad kd sd vd xd : Nat → Nat} {ca : Nat → ClassId} {A : Nat → Prop} {ky ty : Nat → Option Nat} {Q : State → Prop} (hE : o_EK E kd sd vd xd) (hKy : m_KY ky ty sd) (C : o_Cx E p s m args meth c D m_cls (m_tys ca) "SchemaJudgeModel$Text" b_MT_alike (some .boolean) 6 cc_MT_alike A) (hDD : ∀ (rt : Nat) (Ni : SNI) (Np : SNP) (No : SNO) (Nx : SNX) (Nf : SNF) (Na : SNA) (Nh : SNH) (Nq : SNQ) (Nj : SNJ) (M0 : SMT) (M1 : SMT), va_D A (m_cw ad ca ky ty rt Ni Np No Nx Nf Na Nh Nq Nj M0 M1)) (d : Nat) (rec : Int32 → Int32 → SMT → SMT → Option (Int32)) (hrec : ∀ (x1 : Int32) (x3 : Int32) (a0 : SMT) (a2 : SMT) (Ni : SNI) (Np : SNP) (No : SNO) (Nx : SNX) (Nf : SNF) (Na : SNA) (Nh : SNH) (Nq : SNQ) (Nj : SNJ) (rt : Nat) (r : Int32), rec x1 x3 a0 a2 = some r → o_Cn E l D m_cls (m_tys ca) y_MT_alike cc_MT_alike (rm_MT_alike d) [.ref (ad 48), .int x1, .ref (ad 33), .int x3] (m_cw ad ca ky ty rt Ni Np No Nx Nf Na Nh Nq Nj a2 a0) (m_cw ad ca ky ty rt Ni Np No Nx Nf Na Nh Nq Nj a2 a0) (some (.int r))) (n : Nat) (u116_a0 : SMT) (u116_a2 : SMT) (u116_Ni : SNI) (u116_Np : SNP) (u116_No : SNO) (u116_Nx : SNX) (u116_Nf : SNF) (u116_Na : SNA) (u116_Nh : SNH) (u116_Nq : SNQ) (u116_Nj : SNJ) (u116_rt : Nat) (z : Int32 × Int32) (q : Nat × Int32 × Int32) (h : m_MT_alike_b116 n rec u116_a0 u116_a2 z = some q) (h0 : q.1 = 0 → o_At p l e (rm_MT_alike (d + 1)) s m args below meth c Q m_cls D A 6 116 [] (m_cw ad ca ky ty u116_rt u116_Ni u116_Np u116_No u116_Nx u116_Nf u116_Na u116_Nh u116_Nq u116_Nj u116_a2 u116_a0) [(0, .ref (ad 48)), (2, .ref (ad 33)), (4, .int q.2.1), (5, .int q.2.2)]) (h1 : q.1 ≠ 0 → (if q.1 = 1 then o_At p l e (rm_MT_alike (d + 1)) s m args below meth c Q m_cls D A 6 133 [] (m_cw ad ca ky ty u116_rt u116_Ni u116_Np u116_No u116_Nx u116_Nf u116_Na u116_Nh u116_Nq u116_Nj u116_a2 u116_a0) [] else o_At p l e (rm_MT_alike (d + 1)) s m args below meth c Q m_cls D A 6 156 [] (m_cw ad ca ky ty u116_rt u116_Ni u116_Np u116_No u116_Nx u116_Nf u116_Na u116_Nh u116_Nq u116_Nj u116_a2 u116_a0) [])) : o_At p l e (rm_MT_alike (d + 1)) s m args below meth c Q m_cls D A 6 116 [] (m_cw ad ca ky ty u116_rt u116_Ni u116_Np u116_No u116_Nx u116_Nf u116_Na u116_Nh u116_Nq u116_Nj u116_a2 u116_a0) [(0, .ref (ad 48)), (2, .ref (ad 33)), (4, .int z.1), (5, .int z.2)] := by
  unfold m_MT_alike_b116 at h
  intro H locs ls hP hS hl
  have C0 := C
  obtain ⟨hx, hb, -, -, -, hown, hts, hK, -, -⟩ := C0
  refine lv_iload hx hb d_MT_alike_116 (lv_at hl 3 rfl) ?_
  refine lv_if_lt (tgt := 156) hx hb d_MT_alike_118 (by decide) (fun c24 => ?_) (fun c24 => ?_)
  · replace h := o_tt c24 h
    cases h
    exact h1 (Nat.succ_ne_zero 1) _ _ _ hP hS (lv_sub hl [] rfl)
  · replace h := o_ff c24 h
    refine lv_aload_n hx hb d_MT_alike_121 rfl (lv_at hl 0 rfl) ?_
    refine lv_iload hx hb d_MT_alike_122 (lv_at hl 3 rfl) ?_
    refine lv_aload_n hx hb d_MT_alike_124 rfl (lv_at hl 1 rfl) ?_
    refine lv_iload hx hb d_MT_alike_125 (lv_at hl 2 rfl) ?_
    obtain ⟨q4, hq4, h⟩ := o_bd_some h
    refine o_V (st1 := [.int q4]) (w1 := (m_cw ad ca ky ty u116_rt u116_Ni u116_Np u116_No u116_Nx u116_Nf u116_Na u116_Nh u116_Nq u116_Nj u116_a2 u116_a0)) hE.1 C (hrec z.2 z.1 u116_a0 u116_a2 u116_Ni u116_Np u116_No u116_Nx u116_Nf u116_Na u116_Nh u116_Nq u116_Nj u116_rt _ hq4) hP (hDD _ _ _ _ _ _ _ _ _ _ _ _) hS hl.1 rfl mw_48 k_10_32 k_10_28 k_10_29 k_1_13 k_10_30 hv_MT_alike rfl rfl ⟨(by dsimp only [rm_MT_alike, rm_MT_alike]; omega), (by dsimp only [rm_MT_alike, rm_MT_alike]; omega)⟩ rfl (Nat.le_of_ble_eq_true rfl) ⟨Nat.zero_le _, Nat.zero_le _⟩ rfl d_MT_alike_127 (fun H locs hP hS => ?_)
    refine lv_if_ne (tgt := 135) hx hb d_MT_alike_130 (by decide) (fun c25 => ?_) (fun c25 => ?_)
    · replace h := o_ff c25 h
      refine lv_aload_n hx hb d_MT_alike_135 rfl (lv_at hl 0 rfl) ?_
      refine o_get (v := .ref (ad 56)) C in_MT hP 48 mw_48 rfl 7 (by decide) k_7_114 rfl rfl d_MT_alike_136 ?_
      refine lv_iload hx hb d_MT_alike_139 (lv_at hl 3 rfl) ?_
      obtain ⟨g26, h⟩ := o_gd_some h
      refine o_iald (f := (MT_next u116_a0)) C hP 56 53 mw_56 rfl g26 d_MT_alike_141 ?_
      refine lv_topi (fun x5_142 ex5_142 => ?_)
      replace h := o_nm_at ex5_142 h
      refine lv_istore (lv' := [(5, .int x5_142), (0, .ref (ad 48)), (2, .ref (ad 33)), (4, .int z.1)]) hx hb d_MT_alike_142 hl (by decide) rfl (fun ls hl => ?_)
      refine lv_aload_n hx hb d_MT_alike_144 rfl (lv_at hl 2 rfl) ?_
      refine o_get (v := .ref (ad 41)) C in_MT hP 33 mw_33 rfl 7 (by decide) k_7_114 rfl rfl d_MT_alike_145 ?_
      refine lv_iload hx hb d_MT_alike_148 (lv_at hl 3 rfl) ?_
      obtain ⟨g27, h⟩ := o_gd_some h
      refine o_iald (f := (MT_next u116_a2)) C hP 41 39 mw_41 rfl g27 d_MT_alike_150 ?_
      refine lv_topi (fun x4_151 ex4_151 => ?_)
      replace h := o_nm_at ex4_151 h
      refine lv_istore (lv' := [(4, .int x4_151), (5, .int x5_142), (0, .ref (ad 48)), (2, .ref (ad 33))]) hx hb d_MT_alike_151 hl (by decide) rfl (fun ls hl => ?_)
      refine lv_goto (tgt := 116) hx hb d_MT_alike_153 (by decide) ?_
      cases h
      exact h0 rfl _ _ _ hP hS (lv_sub hl [2, 3, 0, 1] rfl)
    · replace h := o_tt c25 h
      cases h
      exact h1 (Nat.succ_ne_zero 0) _ _ _ hP hS (lv_sub hl [] rfl)
set_option maxHeartbeats 4000000 in
set_option maxRecDepth 100000 in
theorem e_MT_alike_ba_F {E : (Nat → Prop) → State → Heap → Prop} {D : va_G} {ad kd sd vd xd : Nat → Nat} {ca : Nat → ClassId} {ky ty : Nat → Option Nat} (hE : o_EK E kd sd vd xd) (hKy : m_KY ky ty sd) (l : Launch) (n : Nat) (d : Nat) (rec : Int32 → Int32 → SMT → SMT → Option (Int32)) (hrec : ∀ (x1 : Int32) (x3 : Int32) (a0 : SMT) (a2 : SMT) (Ni : SNI) (Np : SNP) (No : SNO) (Nx : SNX) (Nf : SNF) (Na : SNA) (Nh : SNH) (Nq : SNQ) (Nj : SNJ) (rt : Nat) (r : Int32), rec x1 x3 a0 a2 = some r → o_Cn E l D m_cls (m_tys ca) y_MT_alike cc_MT_alike (rm_MT_alike d) [.ref (ad 48), .int x1, .ref (ad 33), .int x3] (m_cw ad ca ky ty rt Ni Np No Nx Nf Na Nh Nq Nj a2 a0) (m_cw ad ca ky ty rt Ni Np No Nx Nf Na Nh Nq Nj a2 a0) (some (.int r))) (x1 : Int32) (x3 : Int32) (a0 : SMT) (a2 : SMT) (Ni : SNI) (Np : SNP) (No : SNO) (Nx : SNX) (Nf : SNF) (Na : SNA) (Nh : SNH) (Nq : SNQ) (Nj : SNJ) (rt : Nat) {r : Int32} (h : m_MT_alike_F n rec x1 x3 a0 a2 = some r) : o_Cn E l D m_cls (m_tys ca) y_MT_alike cc_MT_alike (rm_MT_alike (d + 1)) [.ref (ad 48), .int x1, .ref (ad 33), .int x3] (m_cw ad ca ky ty rt Ni Np No Nx Nf Na Nh Nq Nj a2 a0) (m_cw ad ca ky ty rt Ni Np No Nx Nf Na Nh Nq Nj a2 a0) (some (.int r)) := by
  refine o_Cn_of (by decide) (Nat.le_of_ble_eq_true rfl) ?_
  intro p e s m below meth c A ls C hD hP hS hl
  have hDD : ∀ (rt : Nat) (Ni : SNI) (Np : SNP) (No : SNO) (Nx : SNX) (Nf : SNF) (Na : SNA) (Nh : SNH) (Nq : SNQ) (Nj : SNJ) (M0 : SMT) (M1 : SMT), va_D A (m_cw ad ca ky ty rt Ni Np No Nx Nf Na Nh Nq Nj M0 M1) := fun _ _ _ _ _ _ _ _ _ _ _ _ => o_D_map hD rfl
  have hl : lv_has ls 6 [(0, .ref (ad 48)), (1, .int x1), (2, .ref (ad 33)), (3, .int x3)] := hl
  unfold m_MT_alike_F at h
  have C0 := C
  obtain ⟨hx, hb, -, -, -, hown, hts, hK, -, -⟩ := C0
  refine lv_aload_n hx hb d_MT_alike_0 rfl (lv_at hl 0 rfl) ?_
  refine o_get (v := .ref (ad 50)) C in_MT hP 48 mw_48 rfl 1 (by decide) k_7_102 rfl rfl d_MT_alike_1 ?_
  refine lv_iload_n hx hb d_MT_alike_4 rfl (lv_at hl 1 rfl) ?_
  obtain ⟨g1, h⟩ := o_gd_some h
  refine o_iald (f := (MT_kind a0)) C hP 50 47 mw_50 rfl g1 d_MT_alike_5 ?_
  refine lv_aload_n hx hb d_MT_alike_6 rfl (lv_at hl 2 rfl) ?_
  refine o_get (v := .ref (ad 35)) C in_MT hP 33 mw_33 rfl 1 (by decide) k_7_102 rfl rfl d_MT_alike_7 ?_
  refine lv_iload_n hx hb d_MT_alike_10 rfl (lv_at hl 3 rfl) ?_
  obtain ⟨g2, h⟩ := o_gd_some h
  refine o_iald (f := (MT_kind a2)) C hP 35 33 mw_35 rfl g2 d_MT_alike_11 ?_
  refine lv_icmp_eq (tgt := 17) hx hb d_MT_alike_12 (by decide) (fun c3 => ?_) (fun c3 => ?_)
  · replace h := o_tt c3 h
    refine lv_aload_n hx hb d_MT_alike_17 rfl (lv_at hl 0 rfl) ?_
    refine o_get (v := .ref (ad 50)) C in_MT hP 48 mw_48 rfl 1 (by decide) k_7_102 rfl rfl d_MT_alike_18 ?_
    refine lv_iload_n hx hb d_MT_alike_21 rfl (lv_at hl 1 rfl) ?_
    obtain ⟨g4, h⟩ := o_gd_some h
    refine o_iald (f := (MT_kind a0)) C hP 50 47 mw_50 rfl g4 d_MT_alike_22 ?_
    refine lv_iconst (v := (3:Int32)) hx hb d_MT_alike_23 (by decide) ?_
    refine lv_icmp_ne (tgt := 43) hx hb d_MT_alike_24 (by decide) (fun c5 => ?_) (fun c5 => ?_)
    · replace h := o_ff c5 h
      refine lv_aload_n hx hb d_MT_alike_43 rfl (lv_at hl 0 rfl) ?_
      refine o_get (v := .ref (ad 50)) C in_MT hP 48 mw_48 rfl 1 (by decide) k_7_102 rfl rfl d_MT_alike_44 ?_
      refine lv_iload_n hx hb d_MT_alike_47 rfl (lv_at hl 1 rfl) ?_
      obtain ⟨g6, h⟩ := o_gd_some h
      refine o_iald (f := (MT_kind a0)) C hP 50 47 mw_50 rfl g6 d_MT_alike_48 ?_
      refine lv_iconst (v := (4:Int32)) hx hb d_MT_alike_49 (by decide) ?_
      refine lv_icmp_ne (tgt := 61) hx hb d_MT_alike_50 (by decide) (fun c7 => ?_) (fun c7 => ?_)
      · replace h := o_ff c7 h
        refine lv_aload_n hx hb d_MT_alike_61 rfl (lv_at hl 0 rfl) ?_
        refine o_get (v := .ref (ad 50)) C in_MT hP 48 mw_48 rfl 1 (by decide) k_7_102 rfl rfl d_MT_alike_62 ?_
        refine lv_iload_n hx hb d_MT_alike_65 rfl (lv_at hl 1 rfl) ?_
        obtain ⟨g8, h⟩ := o_gd_some h
        refine o_iald (f := (MT_kind a0)) C hP 50 47 mw_50 rfl g8 d_MT_alike_66 ?_
        refine lv_iconst (v := (3:Int32)) hx hb d_MT_alike_67 (by decide) ?_
        refine lv_icmp_ge (tgt := 73) hx hb d_MT_alike_68 (by decide) (fun c9 => ?_) (fun c9 => ?_)
        · replace h := o_tt c9 h
          refine lv_aload_n hx hb d_MT_alike_73 rfl (lv_at hl 0 rfl) ?_
          refine o_get (v := .ref (ad 52)) C in_MT hP 48 mw_48 rfl 3 (by decide) k_7_106 rfl rfl d_MT_alike_74 ?_
          refine lv_iload_n hx hb d_MT_alike_77 rfl (lv_at hl 1 rfl) ?_
          obtain ⟨g10, h⟩ := o_gd_some h
          refine o_iald (f := (MT_many a0)) C hP 52 49 mw_52 rfl g10 d_MT_alike_78 ?_
          refine lv_aload_n hx hb d_MT_alike_79 rfl (lv_at hl 2 rfl) ?_
          refine o_get (v := .ref (ad 37)) C in_MT hP 33 mw_33 rfl 3 (by decide) k_7_106 rfl rfl d_MT_alike_80 ?_
          refine lv_iload_n hx hb d_MT_alike_83 rfl (lv_at hl 3 rfl) ?_
          obtain ⟨g11, h⟩ := o_gd_some h
          refine o_iald (f := (MT_many a2)) C hP 37 35 mw_37 rfl g11 d_MT_alike_84 ?_
          refine lv_icmp_eq (tgt := 90) hx hb d_MT_alike_85 (by decide) (fun c12 => ?_) (fun c12 => ?_)
          · replace h := o_tt c12 h
            refine lv_aload_n hx hb d_MT_alike_90 rfl (lv_at hl 0 rfl) ?_
            refine o_get (v := .ref (ad 50)) C in_MT hP 48 mw_48 rfl 1 (by decide) k_7_102 rfl rfl d_MT_alike_91 ?_
            refine lv_iload_n hx hb d_MT_alike_94 rfl (lv_at hl 1 rfl) ?_
            obtain ⟨g13, h⟩ := o_gd_some h
            refine o_iald (f := (MT_kind a0)) C hP 50 47 mw_50 rfl g13 d_MT_alike_95 ?_
            refine lv_iconst (v := (5:Int32)) hx hb d_MT_alike_96 (by decide) ?_
            refine lv_icmp_ne (tgt := 158) hx hb d_MT_alike_97 (by decide) (fun c14 => ?_) (fun c14 => ?_)
            · replace h := o_ff c14 h
              refine lv_aload_n hx hb d_MT_alike_158 rfl (lv_at hl 0 rfl) ?_
              refine o_get (v := .ref (ad 55)) C in_MT hP 48 mw_48 rfl 6 (by decide) k_7_112 rfl rfl d_MT_alike_159 ?_
              refine lv_iload_n hx hb d_MT_alike_162 rfl (lv_at hl 1 rfl) ?_
              obtain ⟨g15, h⟩ := o_gd_some h
              refine o_iald (f := (MT_first a0)) C hP 55 52 mw_55 rfl g15 d_MT_alike_163 ?_
              refine lv_topi (fun x4_164 ex4_164 => ?_)
              replace h := o_nm_at ex4_164 h
              refine lv_istore (lv' := [(4, .int x4_164), (0, .ref (ad 48)), (1, .int x1), (2, .ref (ad 33)), (3, .int x3)]) hx hb d_MT_alike_164 hl (by decide) rfl (fun ls hl => ?_)
              obtain ⟨q3, hq3, h⟩ := o_bd_some h
              refine o_sim2 (AH := fun zz => o_At p l e (rm_MT_alike (d + 1)) s m _ below meth c _ m_cls D A 6 166 [] (m_cw ad ca ky ty rt Ni Np No Nx Nf Na Nh Nq Nj a2 a0) [(0, .ref (ad 48)), (2, .ref (ad 33)), (3, .int x3), (4, .int zz)]) (AX := fun qq => if qq.1 = 1 then o_At p l e (rm_MT_alike (d + 1)) s m _ below meth c _ m_cls D A 6 203 [] (m_cw ad ca ky ty rt Ni Np No Nx Nf Na Nh Nq Nj a2 a0) [] else o_At p l e (rm_MT_alike (d + 1)) s m _ below meth c _ m_cls D A 6 217 [] (m_cw ad ca ky ty rt Ni Np No Nx Nf Na Nh Nq Nj a2 a0) []) (fun zz qq h h0 h1 => f_MT_alike_b166_ba hE hKy C hDD d rec hrec n x3 a0 a2 Ni Np No Nx Nf Na Nh Nq Nj rt zz qq h h0 h1) n _ q3 hq3 ?_ _ _ _ hP hS (lv_sub hl [1, 3, 4, 0] rfl)
              by_cases c21 : q3.1 = 1
              · replace h := o_tt c21 h
                refine o_ip c21 ?_
                intro H locs ls hP hS hl
                refine lv_iconst (v := (0:Int32)) hx hb d_MT_alike_203 (by decide) ?_
                cases h
                exact o_rz (v := (0:Int32)) C o_nar0 hP hS d_MT_alike_204
              replace h := o_ff c21 h
              refine o_in_ c21 ?_
              intro H locs ls hP hS hl
              refine lv_iconst (v := (1:Int32)) hx hb d_MT_alike_217 (by decide) ?_
              cases h
              exact o_rz (v := (1:Int32)) C o_nar1 hP hS d_MT_alike_218
            · replace h := o_tt c14 h
              refine lv_aload_n hx hb d_MT_alike_100 rfl (lv_at hl 2 rfl) ?_
              refine o_get (v := .ref (ad 40)) C in_MT hP 33 mw_33 rfl 6 (by decide) k_7_112 rfl rfl d_MT_alike_101 ?_
              refine lv_iload_n hx hb d_MT_alike_104 rfl (lv_at hl 3 rfl) ?_
              obtain ⟨g22, h⟩ := o_gd_some h
              refine o_iald (f := (MT_first a2)) C hP 40 38 mw_40 rfl g22 d_MT_alike_105 ?_
              refine lv_topi (fun x4_106 ex4_106 => ?_)
              replace h := o_nm_at ex4_106 h
              refine lv_istore (lv' := [(4, .int x4_106), (0, .ref (ad 48)), (1, .int x1), (2, .ref (ad 33)), (3, .int x3)]) hx hb d_MT_alike_106 hl (by decide) rfl (fun ls hl => ?_)
              refine lv_aload_n hx hb d_MT_alike_108 rfl (lv_at hl 1 rfl) ?_
              refine o_get (v := .ref (ad 55)) C in_MT hP 48 mw_48 rfl 6 (by decide) k_7_112 rfl rfl d_MT_alike_109 ?_
              refine lv_iload_n hx hb d_MT_alike_112 rfl (lv_at hl 2 rfl) ?_
              obtain ⟨g23, h⟩ := o_gd_some h
              refine o_iald (f := (MT_first a0)) C hP 55 52 mw_55 rfl g23 d_MT_alike_113 ?_
              refine lv_topi (fun x5_114 ex5_114 => ?_)
              replace h := o_nm_at ex5_114 h
              refine lv_istore (lv' := [(5, .int x5_114), (4, .int x4_106), (0, .ref (ad 48)), (1, .int x1), (2, .ref (ad 33)), (3, .int x3)]) hx hb d_MT_alike_114 hl (by decide) rfl (fun ls hl => ?_)
              obtain ⟨q5, hq5, h⟩ := o_bd_some h
              refine o_sim2 (AH := fun zz => o_At p l e (rm_MT_alike (d + 1)) s m _ below meth c _ m_cls D A 6 116 [] (m_cw ad ca ky ty rt Ni Np No Nx Nf Na Nh Nq Nj a2 a0) [(0, .ref (ad 48)), (2, .ref (ad 33)), (4, .int zz.1), (5, .int zz.2)]) (AX := fun qq => if qq.1 = 1 then o_At p l e (rm_MT_alike (d + 1)) s m _ below meth c _ m_cls D A 6 133 [] (m_cw ad ca ky ty rt Ni Np No Nx Nf Na Nh Nq Nj a2 a0) [] else o_At p l e (rm_MT_alike (d + 1)) s m _ below meth c _ m_cls D A 6 156 [] (m_cw ad ca ky ty rt Ni Np No Nx Nf Na Nh Nq Nj a2 a0) []) (fun zz qq h h0 h1 => f_MT_alike_b116_ba hE hKy C hDD d rec hrec n a0 a2 Ni Np No Nx Nf Na Nh Nq Nj rt zz qq h h0 h1) n _ q5 hq5 ?_ _ _ _ hP hS (lv_sub hl [2, 4, 1, 0] rfl)
              by_cases c28 : q5.1 = 1
              · replace h := o_tt c28 h
                refine o_ip c28 ?_
                intro H locs ls hP hS hl
                refine lv_iconst (v := (0:Int32)) hx hb d_MT_alike_133 (by decide) ?_
                cases h
                exact o_rz (v := (0:Int32)) C o_nar0 hP hS d_MT_alike_134
              replace h := o_ff c28 h
              refine o_in_ c28 ?_
              intro H locs ls hP hS hl
              refine lv_iconst (v := (1:Int32)) hx hb d_MT_alike_156 (by decide) ?_
              cases h
              exact o_rz (v := (1:Int32)) C o_nar1 hP hS d_MT_alike_157
          · replace h := o_ff c12 h
            refine lv_iconst (v := (0:Int32)) hx hb d_MT_alike_88 (by decide) ?_
            cases h
            exact o_rz (v := (0:Int32)) C o_nar0 hP hS d_MT_alike_89
        · replace h := o_ff c9 h
          refine lv_iconst (v := (1:Int32)) hx hb d_MT_alike_71 (by decide) ?_
          cases h
          exact o_rz (v := (1:Int32)) C o_nar1 hP hS d_MT_alike_72
      · replace h := o_tt c7 h
        refine lv_aload_n hx hb d_MT_alike_53 rfl (lv_at hl 0 rfl) ?_
        refine lv_iload_n hx hb d_MT_alike_54 rfl (lv_at hl 1 rfl) ?_
        refine lv_aload_n hx hb d_MT_alike_55 rfl (lv_at hl 2 rfl) ?_
        refine lv_iload_n hx hb d_MT_alike_56 rfl (lv_at hl 3 rfl) ?_
        obtain ⟨q6, hq6, h⟩ := o_bd_some h
        refine o_V (st1 := [.int q6]) (w1 := (m_cw ad ca ky ty rt Ni Np No Nx Nf Na Nh Nq Nj a2 a0)) hE.1 C (e_MT_same_ba hE hKy l n x1 x3 a0 a2 Ni Np No Nx Nf Na Nh Nq Nj rt hq6) hP (hDD _ _ _ _ _ _ _ _ _ _ _ _) hS hl.1 rfl mw_48 k_9_25 k_9_26 k_9_27 k_1_13 k_9_28 hv_MT_same rfl rfl ⟨(by dsimp only [rm_MT_alike, rm_MT_same]; omega), (by dsimp only [rm_MT_alike, rm_MT_same]; omega)⟩ rfl (Nat.le_of_ble_eq_true rfl) ⟨Nat.zero_le _, Nat.zero_le _⟩ rfl d_MT_alike_57 (fun H locs hP hS => ?_)
        obtain ⟨g29, h⟩ := o_gd_some h
        cases h
        exact o_rz C (o_zb_nar g29) hP hS d_MT_alike_60
    · replace h := o_tt c5 h
      refine lv_aload_n hx hb d_MT_alike_27 rfl (lv_at hl 0 rfl) ?_
      refine lv_iload_n hx hb d_MT_alike_28 rfl (lv_at hl 1 rfl) ?_
      refine lv_aload_n hx hb d_MT_alike_29 rfl (lv_at hl 2 rfl) ?_
      refine lv_iload_n hx hb d_MT_alike_30 rfl (lv_at hl 3 rfl) ?_
      obtain ⟨q7, hq7, h⟩ := o_bd_some h
      refine o_V (st1 := [.int q7]) (w1 := (m_cw ad ca ky ty rt Ni Np No Nx Nf Na Nh Nq Nj a2 a0)) hE.1 C (e_MT_compare_ba hE hKy l n x1 x3 a0 a2 Ni Np No Nx Nf Na Nh Nq Nj rt hq7) hP (hDD _ _ _ _ _ _ _ _ _ _ _ _) hS hl.1 rfl mw_48 k_10_31 k_10_16 k_10_17 k_1_13 k_10_18 hv_MT_compare rfl rfl ⟨(by dsimp only [rm_MT_alike, rm_MT_compare]; omega), (by dsimp only [rm_MT_alike, rm_MT_compare]; omega)⟩ rfl (Nat.le_of_ble_eq_true rfl) ⟨Nat.zero_le _, Nat.zero_le _⟩ rfl d_MT_alike_31 (fun H locs hP hS => ?_)
      refine lv_if_ne (tgt := 41) hx hb d_MT_alike_34 (by decide) (fun c30 => ?_) (fun c30 => ?_)
      · replace h := o_ff c30 h
        refine lv_iconst (v := (0:Int32)) hx hb d_MT_alike_41 (by decide) ?_
        cases h
        exact o_rz (v := (0:Int32)) C o_nar0 hP hS d_MT_alike_42
      · replace h := o_tt c30 h
        refine lv_iconst (v := (1:Int32)) hx hb d_MT_alike_37 (by decide) ?_
        refine lv_goto (tgt := 42) hx hb d_MT_alike_38 (by decide) ?_
        cases h
        exact o_rz (v := (1:Int32)) C o_nar1 hP hS d_MT_alike_42
  · replace h := o_ff c3 h
    refine lv_iconst (v := (0:Int32)) hx hb d_MT_alike_15 (by decide) ?_
    cases h
    exact o_rz (v := (0:Int32)) C o_nar0 hP hS d_MT_alike_16
set_option maxHeartbeats 4000000 in
set_option maxRecDepth 100000 in
theorem e_MT_alike_ba {E : (Nat → Prop) → State → Heap → Prop} {D : va_G} {ad kd sd vd xd : Nat → Nat} {ca : Nat → ClassId} {ky ty : Nat → Option Nat} (hE : o_EK E kd sd vd xd) (hKy : m_KY ky ty sd) (l : Launch) (n : Nat) (d : Nat) (x1 : Int32) (x3 : Int32) (a0 : SMT) (a2 : SMT) (Ni : SNI) (Np : SNP) (No : SNO) (Nx : SNX) (Nf : SNF) (Na : SNA) (Nh : SNH) (Nq : SNQ) (Nj : SNJ) (rt : Nat) {r : Int32} (h : m_MT_alike n d x1 x3 a0 a2 = some r) : o_Cn E l D m_cls (m_tys ca) y_MT_alike cc_MT_alike (rm_MT_alike d) [.ref (ad 48), .int x1, .ref (ad 33), .int x3] (m_cw ad ca ky ty rt Ni Np No Nx Nf Na Nh Nq Nj a2 a0) (m_cw ad ca ky ty rt Ni Np No Nx Nf Na Nh Nq Nj a2 a0) (some (.int r)) := by
  induction d generalizing x1 x3 a0 a2 Ni Np No Nx Nf Na Nh Nq Nj rt r with
  | zero => cases h
  | succ d ih =>
    exact e_MT_alike_ba_F hE hKy l n d (m_MT_alike n d) (fun x1 x3 a0 a2 Ni Np No Nx Nf Na Nh Nq Nj rt r h => ih x1 x3 a0 a2 Ni Np No Nx Nf Na Nh Nq Nj rt h) _ _ _ _ _ _ _ _ _ _ _ _ _ _ h
set_option maxHeartbeats 4000000 in
set_option maxRecDepth 100000 in
theorem f_MM_asks_b234 {E : (Nat → Prop) → State → Heap → Prop} {p : Program} {l : Launch} {e : Env} {s : State} {m : MethodId} {args : Array Value} {below : List Frame} {meth : Method} {c : Code} {D : va_G} {ad kd sd vd xd : Nat → Nat} {ca : Nat → ClassId} {A : Nat → Prop} {ky ty : Nat → Option Nat} {Q : State → Prop} (hE : o_EK E kd sd vd xd) (hKy : m_KY ky ty sd) (C : o_Cx E p s m args meth c D m_cls (m_tys ca) "SchemaJudgeModel" b_MM_asks (some .boolean) 10 cc_MM_asks A) (hDD : ∀ (rt : Nat) (Ni : SNI) (Np : SNP) (No : SNO) (Nx : SNX) (Nf : SNF) (Na : SNA) (Nh : SNH) (Nq : SNQ) (Nj : SNJ) (M0 : SMT) (M1 : SMT), va_D A (m_cw ad ca ky ty rt Ni Np No Nx Nf Na Nh Nq Nj M0 M1)) (d : Nat) (rec : Int32 → Int32 → SMT → SMT → SNP → SNO → SNX → SNA → SNQ → SNJ → Nat → Option (Int32 × SMT × SNP × SNO × SNX × SNQ × SNJ × Nat)) (hrec : ∀ (x1 : Int32) (x2 : Int32) (M0 : SMT) (M1 : SMT) (Np : SNP) (No : SNO) (Nx : SNX) (Na : SNA) (Nq : SNQ) (Nj : SNJ) (rt : Nat) (Ni : SNI) (Nf : SNF) (Nh : SNH) (r : Int32 × SMT × SNP × SNO × SNX × SNQ × SNJ × Nat), rec x1 x2 M0 M1 Np No Nx Na Nq Nj rt = some r → o_Cn E l D m_cls (m_tys ca) y_MM_judge cc_MM_judge (rm_MM_judge d) [.ref (ad 0), .int x1, .int x2] (m_cw ad ca ky ty rt Ni Np No Nx Nf Na Nh Nq Nj M0 M1) (m_cw ad ca ky ty r.2.2.2.2.2.2.2 Ni r.2.2.1 r.2.2.2.1 r.2.2.2.2.1 Nf Na Nh r.2.2.2.2.2.1 r.2.2.2.2.2.2.1 M0 r.2.1) (some (.int r.1))) (n : Nat) (u234_x4 : Int32) (u234_M0 : SMT) (u234_M1 : SMT) (u234_Np : SNP) (u234_No : SNO) (u234_Nx : SNX) (u234_Na : SNA) (u234_Nq : SNQ) (u234_Nj : SNJ) (u234_rt : Nat) (u234_Ni : SNI) (u234_Nf : SNF) (u234_Nh : SNH) (z : Int32) (q : Nat × Int32) (h : m_MM_asks_b234 n rec u234_x4 u234_M0 u234_M1 u234_Np u234_No u234_Nx u234_Na u234_Nq u234_Nj u234_rt z = some q) (h0 : q.1 = 0 → o_At p l e (rm_MM_asks d) s m args below meth c Q m_cls D A 10 234 [] (m_cw ad ca ky ty u234_rt u234_Ni u234_Np u234_No u234_Nx u234_Nf u234_Na u234_Nh u234_Nq u234_Nj u234_M0 u234_M1) [(0, .ref (ad 0)), (4, .int u234_x4), (8, .int q.2)]) (h1 : q.1 ≠ 0 → (if q.1 = 1 then o_At p l e (rm_MM_asks d) s m args below meth c Q m_cls D A 10 257 [] (m_cw ad ca ky ty u234_rt u234_Ni u234_Np u234_No u234_Nx u234_Nf u234_Na u234_Nh u234_Nq u234_Nj u234_M0 u234_M1) [] else o_At p l e (rm_MM_asks d) s m args below meth c Q m_cls D A 10 274 [] (m_cw ad ca ky ty u234_rt u234_Ni u234_Np u234_No u234_Nx u234_Nf u234_Na u234_Nh u234_Nq u234_Nj u234_M0 u234_M1) [])) : o_At p l e (rm_MM_asks d) s m args below meth c Q m_cls D A 10 234 [] (m_cw ad ca ky ty u234_rt u234_Ni u234_Np u234_No u234_Nx u234_Nf u234_Na u234_Nh u234_Nq u234_Nj u234_M0 u234_M1) [(0, .ref (ad 0)), (4, .int u234_x4), (8, .int z)] := by
  unfold m_MM_asks_b234 at h
  intro H locs ls hP hS hl
  have C0 := C
  obtain ⟨hx, hb, -, -, -, hown, hts, hK, -, -⟩ := C0
  refine lv_iload hx hb d_MM_asks_234 (lv_at hl 2 rfl) ?_
  refine lv_if_lt (tgt := 274) hx hb d_MM_asks_236 (by decide) (fun c27 => ?_) (fun c27 => ?_)
  · replace h := o_tt c27 h
    cases h
    exact h1 (Nat.succ_ne_zero 1) _ _ _ hP hS (lv_sub hl [] rfl)
  · replace h := o_ff c27 h
    refine lv_aload_n hx hb d_MM_asks_239 rfl (lv_at hl 0 rfl) ?_
    refine o_get (v := .ref (ad 48)) C in_MM hP 0 mw_0 rfl 5 (by decide) k_7_235 rfl rfl d_MM_asks_240 ?_
    refine lv_iload hx hb d_MM_asks_243 (lv_at hl 1 rfl) ?_
    refine lv_aload_n hx hb d_MM_asks_245 rfl (lv_at hl 0 rfl) ?_
    refine o_get (v := .ref (ad 33)) C in_MM hP 0 mw_0 rfl 4 (by decide) k_7_234 rfl rfl d_MM_asks_246 ?_
    refine lv_iload hx hb d_MM_asks_249 (lv_at hl 2 rfl) ?_
    obtain ⟨q8, hq8, h⟩ := o_bd_some h
    refine o_V (st1 := [.int q8]) (w1 := (m_cw ad ca ky ty u234_rt u234_Ni u234_Np u234_No u234_Nx u234_Nf u234_Na u234_Nh u234_Nq u234_Nj u234_M0 u234_M1)) hE.1 C (e_MT_alike_ba hE hKy l n 1003 u234_x4 z u234_M1 u234_M0 u234_Ni u234_Np u234_No u234_Nx u234_Nf u234_Na u234_Nh u234_Nq u234_Nj u234_rt hq8) hP (hDD _ _ _ _ _ _ _ _ _ _ _ _) hS hl.1 rfl mw_48 k_10_27 k_10_28 k_10_29 k_1_13 k_10_30 hv_MT_alike rfl rfl ⟨(by dsimp only [rm_MM_asks, rm_MT_alike]; omega), (by dsimp only [rm_MM_asks, rm_MT_alike]; omega)⟩ rfl (Nat.le_of_ble_eq_true rfl) ⟨Nat.zero_le _, Nat.zero_le _⟩ rfl d_MM_asks_251 (fun H locs hP hS => ?_)
    refine lv_if_eq (tgt := 259) hx hb d_MM_asks_254 (by decide) (fun c28 => ?_) (fun c28 => ?_)
    · replace h := o_tt c28 h
      refine lv_aload_n hx hb d_MM_asks_259 rfl (lv_at hl 0 rfl) ?_
      refine o_get (v := .ref (ad 33)) C in_MM hP 0 mw_0 rfl 4 (by decide) k_7_234 rfl rfl d_MM_asks_260 ?_
      refine o_get (v := .ref (ad 41)) C in_MT hP 33 mw_33 rfl 7 (by decide) k_7_115 rfl rfl d_MM_asks_263 ?_
      refine lv_iload hx hb d_MM_asks_266 (lv_at hl 2 rfl) ?_
      obtain ⟨g29, h⟩ := o_gd_some h
      refine o_iald (f := (MT_next u234_M0)) C hP 41 39 mw_41 rfl g29 d_MM_asks_268 ?_
      refine lv_topi (fun x8_269 ex8_269 => ?_)
      replace h := o_nm_at ex8_269 h
      refine lv_istore (lv' := [(8, .int x8_269), (0, .ref (ad 0)), (4, .int u234_x4)]) hx hb d_MM_asks_269 hl (by decide) rfl (fun ls hl => ?_)
      refine lv_goto (tgt := 234) hx hb d_MM_asks_271 (by decide) ?_
      cases h
      exact h0 rfl _ _ _ hP hS (lv_sub hl [1, 2, 0] rfl)
    · replace h := o_ff c28 h
      cases h
      exact h1 (Nat.succ_ne_zero 0) _ _ _ hP hS (lv_sub hl [] rfl)
set_option maxHeartbeats 4000000 in
set_option maxRecDepth 100000 in
theorem f_MM_asks_j203 {E : (Nat → Prop) → State → Heap → Prop} {p : Program} {l : Launch} {e : Env} {s : State} {m : MethodId} {args : Array Value} {below : List Frame} {meth : Method} {c : Code} {D : va_G} {ad kd sd vd xd : Nat → Nat} {ca : Nat → ClassId} {A : Nat → Prop} {ky ty : Nat → Option Nat} (hE : o_EK E kd sd vd xd) (hKy : m_KY ky ty sd) (C : o_Cx E p s m args meth c D m_cls (m_tys ca) "SchemaJudgeModel" b_MM_asks (some .boolean) 10 cc_MM_asks A) (hDD : ∀ (rt : Nat) (Ni : SNI) (Np : SNP) (No : SNO) (Nx : SNX) (Nf : SNF) (Na : SNA) (Nh : SNH) (Nq : SNQ) (Nj : SNJ) (M0 : SMT) (M1 : SMT), va_D A (m_cw ad ca ky ty rt Ni Np No Nx Nf Na Nh Nq Nj M0 M1)) (d : Nat) (rec : Int32 → Int32 → SMT → SMT → SNP → SNO → SNX → SNA → SNQ → SNJ → Nat → Option (Int32 × SMT × SNP × SNO × SNX × SNQ × SNJ × Nat)) (hrec : ∀ (x1 : Int32) (x2 : Int32) (M0 : SMT) (M1 : SMT) (Np : SNP) (No : SNO) (Nx : SNX) (Na : SNA) (Nq : SNQ) (Nj : SNJ) (rt : Nat) (Ni : SNI) (Nf : SNF) (Nh : SNH) (r : Int32 × SMT × SNP × SNO × SNX × SNQ × SNJ × Nat), rec x1 x2 M0 M1 Np No Nx Na Nq Nj rt = some r → o_Cn E l D m_cls (m_tys ca) y_MM_judge cc_MM_judge (rm_MM_judge d) [.ref (ad 0), .int x1, .int x2] (m_cw ad ca ky ty rt Ni Np No Nx Nf Na Nh Nq Nj M0 M1) (m_cw ad ca ky ty r.2.2.2.2.2.2.2 Ni r.2.2.1 r.2.2.2.1 r.2.2.2.2.1 Nf Na Nh r.2.2.2.2.2.1 r.2.2.2.2.2.2.1 M0 r.2.1) (some (.int r.1))) (n : Nat) (x1 : Int32) (x2 : Int32) (x3 : Int32) (x4 : Int32) (x7 : Int32) (M0 : SMT) (M1 : SMT) (Np : SNP) (No : SNO) (Nx : SNX) (Na : SNA) (Nq : SNQ) (Nj : SNJ) (rt : Nat) (Ni : SNI) (Nf : SNF) (Nh : SNH) {r : Int32 × SMT × SNP × SNO × SNX × SNQ × SNJ × Nat} (h : m_MM_asks_j203 n rec x1 x2 x3 x4 x7 M0 M1 Np No Nx Na Nq Nj rt = some r) : o_At p l e (rm_MM_asks d) s m args below meth c (MQ below (o_Qx D m_cls (some (.int r.1)) (m_cw ad ca ky ty r.2.2.2.2.2.2.2 Ni r.2.2.1 r.2.2.2.1 r.2.2.2.2.1 Nf Na Nh r.2.2.2.2.2.1 r.2.2.2.2.2.2.1 M0 r.2.1) A) args s 0 0 A) m_cls D A 10 203 [] (m_cw ad ca ky ty rt Ni Np No Nx Nf Na Nh Nq Nj M0 M1) [(0, .ref (ad 0)), (1, .int x1), (2, .int x2), (3, .int x3), (4, .int x4), (7, .int x7)] := by
  unfold m_MM_asks_j203 at h
  intro H locs ls hP hS hl
  have C0 := C
  obtain ⟨hx, hb, -, -, -, hown, hts, hK, -, -⟩ := C0
  refine lv_iload_n hx hb d_MM_asks_203 rfl (lv_at hl 1 rfl) ?_
  refine lv_bipush (v := (34:Int32)) hx hb d_MM_asks_204 (by decide) ?_
  refine lv_icmp_ne (tgt := 217) hx hb d_MM_asks_206 (by decide) (fun c8 => ?_) (fun c8 => ?_)
  · replace h := o_ff c8 h
    refine lv_iload_n hx hb d_MM_asks_217 rfl (lv_at hl 1 rfl) ?_
    refine lv_bipush (v := (35:Int32)) hx hb d_MM_asks_218 (by decide) ?_
    refine lv_icmp_ne (tgt := 276) hx hb d_MM_asks_220 (by decide) (fun c9 => ?_) (fun c9 => ?_)
    · replace h := o_ff c9 h
      refine lv_iload_n hx hb d_MM_asks_276 rfl (lv_at hl 1 rfl) ?_
      refine lv_bipush (v := (36:Int32)) hx hb d_MM_asks_277 (by decide) ?_
      refine lv_icmp_ne (tgt := 297) hx hb d_MM_asks_279 (by decide) (fun c10 => ?_) (fun c10 => ?_)
      · replace h := o_ff c10 h
        refine lv_iload hx hb d_MM_asks_297 (lv_at hl 5 rfl) ?_
        refine lv_iconst (v := (4:Int32)) hx hb d_MM_asks_299 (by decide) ?_
        refine lv_icmp_ne (tgt := 402) hx hb d_MM_asks_300 (by decide) (fun c11 => ?_) (fun c11 => ?_)
        · replace h := o_ff c11 h
          refine lv_iload hx hb d_MM_asks_402 (lv_at hl 5 rfl) ?_
          refine lv_iconst (v := (5:Int32)) hx hb d_MM_asks_404 (by decide) ?_
          refine lv_icmp_ne (tgt := 418) hx hb d_MM_asks_405 (by decide) (fun c12 => ?_) (fun c12 => ?_)
          · replace h := o_ff c12 h
            refine lv_iload hx hb d_MM_asks_418 (lv_at hl 5 rfl) ?_
            refine lv_bipush (v := (6:Int32)) hx hb d_MM_asks_420 (by decide) ?_
            refine lv_icmp_ne (tgt := 437) hx hb d_MM_asks_422 (by decide) (fun c13 => ?_) (fun c13 => ?_)
            · replace h := o_ff c13 h
              refine lv_iconst (v := (1:Int32)) hx hb d_MM_asks_437 (by decide) ?_
              refine lv_goto (tgt := 442) hx hb d_MM_asks_438 (by decide) ?_
              cases h
              exact o_rz (v := (1:Int32)) C o_nar1 hP hS d_MM_asks_442
            · replace h := o_tt c13 h
              refine lv_aload_n hx hb d_MM_asks_425 rfl (lv_at hl 0 rfl) ?_
              refine lv_iload_n hx hb d_MM_asks_426 rfl (lv_at hl 1 rfl) ?_
              refine lv_iload_n hx hb d_MM_asks_427 rfl (lv_at hl 2 rfl) ?_
              refine lv_iload_n hx hb d_MM_asks_428 rfl (lv_at hl 3 rfl) ?_
              refine lv_iload hx hb d_MM_asks_429 (lv_at hl 4 rfl) ?_
              obtain ⟨q1, hq1, h⟩ := o_bd_some h
              refine o_V (st1 := [.int q1.1]) (w1 := (m_cw ad ca ky ty q1.2.2.2.2.2.2.2 Ni q1.2.2.1 q1.2.2.2.1 q1.2.2.2.2.1 Nf Na Nh q1.2.2.2.2.2.1 q1.2.2.2.2.2.2.1 M0 q1.2.1)) hE.1 C (e_MM_object hE hKy l n d rec hrec x1 x2 x3 x4 M0 M1 Np No Nx Na Nq Nj rt Ni Nf Nh hq1) hP (hDD _ _ _ _ _ _ _ _ _ _ _ _) hS hl.1 rfl mw_0 k_10_56 k_10_58 k_s_131 k_1_12 k_10_59 hv_MM_object rfl rfl ⟨(by dsimp only [rm_MM_asks, rm_MM_object]; omega), (by dsimp only [rm_MM_asks, rm_MM_object]; omega)⟩ rfl (Nat.le_of_ble_eq_true rfl) ⟨Nat.zero_le _, Nat.zero_le _⟩ rfl d_MM_asks_431 (fun H locs hP hS => ?_)
              refine lv_if_eq (tgt := 441) hx hb d_MM_asks_434 (by decide) (fun c14 => ?_) (fun c14 => ?_)
              · replace h := o_tt c14 h
                refine lv_iconst (v := (0:Int32)) hx hb d_MM_asks_441 (by decide) ?_
                cases h
                exact o_rz (v := (0:Int32)) C o_nar0 hP hS d_MM_asks_442
              · replace h := o_ff c14 h
                refine lv_iconst (v := (1:Int32)) hx hb d_MM_asks_437 (by decide) ?_
                refine lv_goto (tgt := 442) hx hb d_MM_asks_438 (by decide) ?_
                cases h
                exact o_rz (v := (1:Int32)) C o_nar1 hP hS d_MM_asks_442
          · replace h := o_tt c12 h
            refine lv_aload_n hx hb d_MM_asks_408 rfl (lv_at hl 0 rfl) ?_
            refine lv_iload_n hx hb d_MM_asks_409 rfl (lv_at hl 1 rfl) ?_
            refine lv_iload_n hx hb d_MM_asks_410 rfl (lv_at hl 2 rfl) ?_
            refine lv_iload_n hx hb d_MM_asks_411 rfl (lv_at hl 3 rfl) ?_
            refine lv_iload hx hb d_MM_asks_412 (lv_at hl 4 rfl) ?_
            obtain ⟨q2, hq2, h⟩ := o_bd_some h
            refine o_V (st1 := [.int q2.1]) (w1 := (m_cw ad ca ky ty q2.2.2.2.2.2.2.2 Ni q2.2.2.1 q2.2.2.2.1 q2.2.2.2.2.1 Nf Na Nh q2.2.2.2.2.2.1 q2.2.2.2.2.2.2.1 M0 q2.2.1)) hE.1 C (e_MM_array hE hKy l n d rec hrec x1 x2 x3 x4 M0 M1 Np No Nx Na Nq Nj rt Ni Nf Nh hq2) hP (hDD _ _ _ _ _ _ _ _ _ _ _ _) hS hl.1 rfl mw_0 k_10_51 k_10_53 k_s_130 k_1_12 k_10_54 hv_MM_array rfl rfl ⟨(by dsimp only [rm_MM_asks, rm_MM_array]; omega), (by dsimp only [rm_MM_asks, rm_MM_array]; omega)⟩ rfl (Nat.le_of_ble_eq_true rfl) ⟨Nat.zero_le _, Nat.zero_le _⟩ rfl d_MM_asks_414 (fun H locs hP hS => ?_)
            obtain ⟨g15, h⟩ := o_gd_some h
            cases h
            exact o_rz C (o_zb_nar g15) hP hS d_MM_asks_417
        · replace h := o_tt c11 h
          refine lv_iload_n hx hb d_MM_asks_303 rfl (lv_at hl 1 rfl) ?_
          refine lv_bipush (v := (23:Int32)) hx hb d_MM_asks_304 (by decide) ?_
          refine lv_icmp_ne (tgt := 333) hx hb d_MM_asks_306 (by decide) (fun c16 => ?_) (fun c16 => ?_)
          · replace h := o_ff c16 h
            refine lv_iload_n hx hb d_MM_asks_333 rfl (lv_at hl 1 rfl) ?_
            refine lv_bipush (v := (24:Int32)) hx hb d_MM_asks_334 (by decide) ?_
            refine lv_icmp_ne (tgt := 363) hx hb d_MM_asks_336 (by decide) (fun c17 => ?_) (fun c17 => ?_)
            · replace h := o_ff c17 h
              refine lv_iload_n hx hb d_MM_asks_363 rfl (lv_at hl 1 rfl) ?_
              refine lv_bipush (v := (31:Int32)) hx hb d_MM_asks_364 (by decide) ?_
              refine lv_icmp_ne (tgt := 400) hx hb d_MM_asks_366 (by decide) (fun c18 => ?_) (fun c18 => ?_)
              · replace h := o_ff c18 h
                refine lv_iconst (v := (1:Int32)) hx hb d_MM_asks_400 (by decide) ?_
                cases h
                exact o_rz (v := (1:Int32)) C o_nar1 hP hS d_MM_asks_401
              · replace h := o_tt c18 h
                refine lv_aload_n hx hb d_MM_asks_369 rfl (lv_at hl 0 rfl) ?_
                refine lv_aload_n hx hb d_MM_asks_370 rfl (lv_at hl 0 rfl) ?_
                refine o_get (v := .ref (ad 33)) C in_MM hP 0 mw_0 rfl 4 (by decide) k_7_234 rfl rfl d_MM_asks_371 ?_
                refine lv_iload_n hx hb d_MM_asks_374 rfl (lv_at hl 2 rfl) ?_
                obtain ⟨q3, hq3, h⟩ := o_bd_some h
                refine o_V (st1 := [.int q3.1]) (w1 := (m_cw ad ca ky ty 33 Ni q3.2.1 q3.2.2 Nx Nf Na Nh Nq Nj M0 M1)) hE.1 C (e_MM_isPattern_a hE hKy l n x2 M0 Np No Ni Nx Nf Na Nh Nq Nj M1 rt hq3) hP (hDD _ _ _ _ _ _ _ _ _ _ _ _) hS hl.1 rfl mw_0 k_9_54 k_9_56 k_s_85 k_1_12 k_9_57 hv_MM_isPattern rfl rfl ⟨(by dsimp only [rm_MM_asks, rm_MM_isPattern]; omega), (by dsimp only [rm_MM_asks, rm_MM_isPattern]; omega)⟩ rfl (Nat.le_of_ble_eq_true rfl) ⟨Nat.zero_le _, Nat.zero_le _⟩ rfl d_MM_asks_375 (fun H locs hP hS => ?_)
                refine lv_if_eq (tgt := 398) hx hb d_MM_asks_378 (by decide) (fun c19 => ?_) (fun c19 => ?_)
                · replace h := o_tt c19 h
                  refine lv_iconst (v := (0:Int32)) hx hb d_MM_asks_398 (by decide) ?_
                  cases h
                  exact o_rz (v := (0:Int32)) C o_nar0 hP hS d_MM_asks_399
                · replace h := o_ff c19 h
                  refine lv_aload_n hx hb d_MM_asks_381 rfl (lv_at hl 0 rfl) ?_
                  refine lv_aload_n hx hb d_MM_asks_382 rfl (lv_at hl 0 rfl) ?_
                  refine o_get (v := .ref (ad 48)) C in_MM hP 0 mw_0 rfl 5 (by decide) k_7_235 rfl rfl d_MM_asks_383 ?_
                  refine lv_iload hx hb d_MM_asks_386 (lv_at hl 4 rfl) ?_
                  obtain ⟨q4, hq4, h⟩ := o_bd_some h
                  refine o_V (st1 := [.int q4.1]) (w1 := (m_cw ad ca ky ty 33 Ni q3.2.1 q3.2.2 q4.2 Nf Na Nh Nq Nj M0 M1)) hE.1 C (e_MM_matches_b hE hKy l n x4 M1 q3.2.1 q3.2.2 Nx Ni Nf Na Nh Nq Nj M0 33 hq4) hP (hDD _ _ _ _ _ _ _ _ _ _ _ _) hS hl.1 rfl mw_0 k_10_34 k_10_36 k_s_126 k_1_12 k_10_37 hv_MM_matches rfl rfl ⟨(by dsimp only [rm_MM_asks, rm_MM_matches]; omega), (by dsimp only [rm_MM_asks, rm_MM_matches]; omega)⟩ rfl (Nat.le_of_ble_eq_true rfl) ⟨Nat.zero_le _, Nat.zero_le _⟩ rfl d_MM_asks_388 (fun H locs hP hS => ?_)
                  refine lv_if_eq (tgt := 398) hx hb d_MM_asks_391 (by decide) (fun c20 => ?_) (fun c20 => ?_)
                  · replace h := o_tt c20 h
                    refine lv_iconst (v := (0:Int32)) hx hb d_MM_asks_398 (by decide) ?_
                    cases h
                    exact o_rz (v := (0:Int32)) C o_nar0 hP hS d_MM_asks_399
                  · replace h := o_ff c20 h
                    refine lv_iconst (v := (1:Int32)) hx hb d_MM_asks_394 (by decide) ?_
                    refine lv_goto (tgt := 399) hx hb d_MM_asks_395 (by decide) ?_
                    cases h
                    exact o_rz (v := (1:Int32)) C o_nar1 hP hS d_MM_asks_399
            · replace h := o_tt c17 h
              refine lv_aload_n hx hb d_MM_asks_339 rfl (lv_at hl 0 rfl) ?_
              refine o_get (v := .ref (ad 48)) C in_MM hP 0 mw_0 rfl 5 (by decide) k_7_235 rfl rfl d_MM_asks_340 ?_
              refine o_get (v := .ref (ad 52)) C in_MT hP 48 mw_48 rfl 3 (by decide) k_7_107 rfl rfl d_MM_asks_343 ?_
              refine lv_iload hx hb d_MM_asks_346 (lv_at hl 4 rfl) ?_
              obtain ⟨g21, h⟩ := o_gd_some h
              refine o_iald (f := (MT_many M1)) C hP 52 49 mw_52 rfl g21 d_MM_asks_348 ?_
              refine lv_aload_n hx hb d_MM_asks_349 rfl (lv_at hl 0 rfl) ?_
              refine lv_iload_n hx hb d_MM_asks_350 rfl (lv_at hl 2 rfl) ?_
              obtain ⟨q5, hq5, h⟩ := o_bd_some h
              refine o_V (st1 := [.int q5, .int ((MT_many M1) x4.toNatClampNeg)]) (w1 := (m_cw ad ca ky ty rt Ni Np No Nx Nf Na Nh Nq Nj M0 M1)) hE.1 C (e_MM_intOf hE hKy l n x2 M0 Ni Np No Nx Nf Na Nh Nq Nj M1 rt hq5) hP (hDD _ _ _ _ _ _ _ _ _ _ _ _) hS hl.1 rfl mw_0 k_9_153 k_9_155 k_s_106 k_1_12 k_9_156 hv_MM_intOf rfl rfl ⟨(by dsimp only [rm_MM_asks, rm_MM_intOf]; omega), (by dsimp only [rm_MM_asks, rm_MM_intOf]; omega)⟩ rfl (Nat.le_of_ble_eq_true rfl) ⟨Nat.zero_le _, Nat.zero_le _⟩ rfl d_MM_asks_351 (fun H locs hP hS => ?_)
              refine lv_icmp_lt (tgt := 361) hx hb d_MM_asks_354 (by decide) (fun c22 => ?_) (fun c22 => ?_)
              · replace h := o_tt c22 h
                refine lv_iconst (v := (0:Int32)) hx hb d_MM_asks_361 (by decide) ?_
                cases h
                exact o_rz (v := (0:Int32)) C o_nar0 hP hS d_MM_asks_362
              · replace h := o_ff c22 h
                refine lv_iconst (v := (1:Int32)) hx hb d_MM_asks_357 (by decide) ?_
                refine lv_goto (tgt := 362) hx hb d_MM_asks_358 (by decide) ?_
                cases h
                exact o_rz (v := (1:Int32)) C o_nar1 hP hS d_MM_asks_362
          · replace h := o_tt c16 h
            refine lv_aload_n hx hb d_MM_asks_309 rfl (lv_at hl 0 rfl) ?_
            refine o_get (v := .ref (ad 48)) C in_MM hP 0 mw_0 rfl 5 (by decide) k_7_235 rfl rfl d_MM_asks_310 ?_
            refine o_get (v := .ref (ad 52)) C in_MT hP 48 mw_48 rfl 3 (by decide) k_7_107 rfl rfl d_MM_asks_313 ?_
            refine lv_iload hx hb d_MM_asks_316 (lv_at hl 4 rfl) ?_
            obtain ⟨g23, h⟩ := o_gd_some h
            refine o_iald (f := (MT_many M1)) C hP 52 49 mw_52 rfl g23 d_MM_asks_318 ?_
            refine lv_aload_n hx hb d_MM_asks_319 rfl (lv_at hl 0 rfl) ?_
            refine lv_iload_n hx hb d_MM_asks_320 rfl (lv_at hl 2 rfl) ?_
            obtain ⟨q6, hq6, h⟩ := o_bd_some h
            refine o_V (st1 := [.int q6, .int ((MT_many M1) x4.toNatClampNeg)]) (w1 := (m_cw ad ca ky ty rt Ni Np No Nx Nf Na Nh Nq Nj M0 M1)) hE.1 C (e_MM_intOf hE hKy l n x2 M0 Ni Np No Nx Nf Na Nh Nq Nj M1 rt hq6) hP (hDD _ _ _ _ _ _ _ _ _ _ _ _) hS hl.1 rfl mw_0 k_9_153 k_9_155 k_s_106 k_1_12 k_9_156 hv_MM_intOf rfl rfl ⟨(by dsimp only [rm_MM_asks, rm_MM_intOf]; omega), (by dsimp only [rm_MM_asks, rm_MM_intOf]; omega)⟩ rfl (Nat.le_of_ble_eq_true rfl) ⟨Nat.zero_le _, Nat.zero_le _⟩ rfl d_MM_asks_321 (fun H locs hP hS => ?_)
            refine lv_icmp_gt (tgt := 331) hx hb d_MM_asks_324 (by decide) (fun c24 => ?_) (fun c24 => ?_)
            · replace h := o_tt c24 h
              refine lv_iconst (v := (0:Int32)) hx hb d_MM_asks_331 (by decide) ?_
              cases h
              exact o_rz (v := (0:Int32)) C o_nar0 hP hS d_MM_asks_332
            · replace h := o_ff c24 h
              refine lv_iconst (v := (1:Int32)) hx hb d_MM_asks_327 (by decide) ?_
              refine lv_goto (tgt := 332) hx hb d_MM_asks_328 (by decide) ?_
              cases h
              exact o_rz (v := (1:Int32)) C o_nar1 hP hS d_MM_asks_332
      · replace h := o_tt c10 h
        refine lv_aload_n hx hb d_MM_asks_282 rfl (lv_at hl 0 rfl) ?_
        refine o_get (v := .ref (ad 48)) C in_MM hP 0 mw_0 rfl 5 (by decide) k_7_235 rfl rfl d_MM_asks_283 ?_
        refine lv_iload hx hb d_MM_asks_286 (lv_at hl 4 rfl) ?_
        refine lv_aload_n hx hb d_MM_asks_288 rfl (lv_at hl 0 rfl) ?_
        refine o_get (v := .ref (ad 33)) C in_MM hP 0 mw_0 rfl 4 (by decide) k_7_234 rfl rfl d_MM_asks_289 ?_
        refine lv_iload_n hx hb d_MM_asks_292 rfl (lv_at hl 2 rfl) ?_
        obtain ⟨q7, hq7, h⟩ := o_bd_some h
        refine o_V (st1 := [.int q7]) (w1 := (m_cw ad ca ky ty rt Ni Np No Nx Nf Na Nh Nq Nj M0 M1)) hE.1 C (e_MT_alike_ba hE hKy l n 1003 x4 x2 M1 M0 Ni Np No Nx Nf Na Nh Nq Nj rt hq7) hP (hDD _ _ _ _ _ _ _ _ _ _ _ _) hS hl.1 rfl mw_48 k_10_27 k_10_28 k_10_29 k_1_13 k_10_30 hv_MT_alike rfl rfl ⟨(by dsimp only [rm_MM_asks, rm_MT_alike]; omega), (by dsimp only [rm_MM_asks, rm_MT_alike]; omega)⟩ rfl (Nat.le_of_ble_eq_true rfl) ⟨Nat.zero_le _, Nat.zero_le _⟩ rfl d_MM_asks_293 (fun H locs hP hS => ?_)
        obtain ⟨g25, h⟩ := o_gd_some h
        cases h
        exact o_rz C (o_zb_nar g25) hP hS d_MM_asks_296
    · replace h := o_tt c9 h
      refine lv_aload_n hx hb d_MM_asks_223 rfl (lv_at hl 0 rfl) ?_
      refine o_get (v := .ref (ad 33)) C in_MM hP 0 mw_0 rfl 4 (by decide) k_7_234 rfl rfl d_MM_asks_224 ?_
      refine o_get (v := .ref (ad 40)) C in_MT hP 33 mw_33 rfl 6 (by decide) k_7_113 rfl rfl d_MM_asks_227 ?_
      refine lv_iload_n hx hb d_MM_asks_230 rfl (lv_at hl 2 rfl) ?_
      obtain ⟨g26, h⟩ := o_gd_some h
      refine o_iald (f := (MT_first M0)) C hP 40 38 mw_40 rfl g26 d_MM_asks_231 ?_
      refine lv_topi (fun x8_232 ex8_232 => ?_)
      replace h := o_nm_at ex8_232 h
      refine lv_istore (lv' := [(8, .int x8_232), (0, .ref (ad 0)), (1, .int x1), (2, .int x2), (3, .int x3), (4, .int x4), (7, .int x7)]) hx hb d_MM_asks_232 hl (by decide) rfl (fun ls hl => ?_)
      obtain ⟨q9, hq9, h⟩ := o_bd_some h
      refine o_sim2 (AH := fun zz => o_At p l e (rm_MM_asks d) s m args below meth c _ m_cls D A 10 234 [] (m_cw ad ca ky ty rt Ni Np No Nx Nf Na Nh Nq Nj M0 M1) [(0, .ref (ad 0)), (4, .int x4), (8, .int zz)]) (AX := fun qq => if qq.1 = 1 then o_At p l e (rm_MM_asks d) s m args below meth c _ m_cls D A 10 257 [] (m_cw ad ca ky ty rt Ni Np No Nx Nf Na Nh Nq Nj M0 M1) [] else o_At p l e (rm_MM_asks d) s m args below meth c _ m_cls D A 10 274 [] (m_cw ad ca ky ty rt Ni Np No Nx Nf Na Nh Nq Nj M0 M1) []) (fun zz qq h h0 h1 => f_MM_asks_b234 hE hKy C hDD d rec hrec n x4 M0 M1 Np No Nx Na Nq Nj rt Ni Nf Nh zz qq h h0 h1) n _ q9 hq9 ?_ _ _ _ hP hS (lv_sub hl [1, 5, 0] rfl)
      by_cases c30 : q9.1 = 1
      · replace h := o_tt c30 h
        refine o_ip c30 ?_
        intro H locs ls hP hS hl
        refine lv_iconst (v := (1:Int32)) hx hb d_MM_asks_257 (by decide) ?_
        cases h
        exact o_rz (v := (1:Int32)) C o_nar1 hP hS d_MM_asks_258
      replace h := o_ff c30 h
      refine o_in_ c30 ?_
      intro H locs ls hP hS hl
      refine lv_iconst (v := (0:Int32)) hx hb d_MM_asks_274 (by decide) ?_
      cases h
      exact o_rz (v := (0:Int32)) C o_nar0 hP hS d_MM_asks_275
  · replace h := o_tt c8 h
    refine lv_aload_n hx hb d_MM_asks_209 rfl (lv_at hl 0 rfl) ?_
    refine lv_iload_n hx hb d_MM_asks_210 rfl (lv_at hl 2 rfl) ?_
    refine lv_iload hx hb d_MM_asks_211 (lv_at hl 4 rfl) ?_
    obtain ⟨q10, hq10, h⟩ := o_bd_some h
    refine o_V (st1 := [.int q10]) (w1 := (m_cw ad ca ky ty rt Ni Np No Nx Nf Na Nh Nq Nj M0 M1)) hE.1 C (e_MM_isType hE hKy l n x2 x4 M0 M1 Ni Np No Nx Nf Na Nh Nq Nj rt hq10) hP (hDD _ _ _ _ _ _ _ _ _ _ _ _) hS hl.1 rfl mw_0 k_10_19 k_10_21 k_s_124 k_1_12 k_10_22 hv_MM_isType rfl rfl ⟨(by dsimp only [rm_MM_asks, rm_MM_isType]; omega), (by dsimp only [rm_MM_asks, rm_MM_isType]; omega)⟩ rfl (Nat.le_of_ble_eq_true rfl) ⟨Nat.zero_le _, Nat.zero_le _⟩ rfl d_MM_asks_213 (fun H locs hP hS => ?_)
    obtain ⟨g31, h⟩ := o_gd_some h
    cases h
    exact o_rz C (o_zb_nar g31) hP hS d_MM_asks_216
set_option maxHeartbeats 4000000 in
set_option maxRecDepth 100000 in
theorem f_MM_asks_j139 {E : (Nat → Prop) → State → Heap → Prop} {p : Program} {l : Launch} {e : Env} {s : State} {m : MethodId} {args : Array Value} {below : List Frame} {meth : Method} {c : Code} {D : va_G} {ad kd sd vd xd : Nat → Nat} {ca : Nat → ClassId} {A : Nat → Prop} {ky ty : Nat → Option Nat} (hE : o_EK E kd sd vd xd) (hKy : m_KY ky ty sd) (C : o_Cx E p s m args meth c D m_cls (m_tys ca) "SchemaJudgeModel" b_MM_asks (some .boolean) 10 cc_MM_asks A) (hDD : ∀ (rt : Nat) (Ni : SNI) (Np : SNP) (No : SNO) (Nx : SNX) (Nf : SNF) (Na : SNA) (Nh : SNH) (Nq : SNQ) (Nj : SNJ) (M0 : SMT) (M1 : SMT), va_D A (m_cw ad ca ky ty rt Ni Np No Nx Nf Na Nh Nq Nj M0 M1)) (d : Nat) (rec : Int32 → Int32 → SMT → SMT → SNP → SNO → SNX → SNA → SNQ → SNJ → Nat → Option (Int32 × SMT × SNP × SNO × SNX × SNQ × SNJ × Nat)) (hrec : ∀ (x1 : Int32) (x2 : Int32) (M0 : SMT) (M1 : SMT) (Np : SNP) (No : SNO) (Nx : SNX) (Na : SNA) (Nq : SNQ) (Nj : SNJ) (rt : Nat) (Ni : SNI) (Nf : SNF) (Nh : SNH) (r : Int32 × SMT × SNP × SNO × SNX × SNQ × SNJ × Nat), rec x1 x2 M0 M1 Np No Nx Na Nq Nj rt = some r → o_Cn E l D m_cls (m_tys ca) y_MM_judge cc_MM_judge (rm_MM_judge d) [.ref (ad 0), .int x1, .int x2] (m_cw ad ca ky ty rt Ni Np No Nx Nf Na Nh Nq Nj M0 M1) (m_cw ad ca ky ty r.2.2.2.2.2.2.2 Ni r.2.2.1 r.2.2.2.1 r.2.2.2.2.1 Nf Na Nh r.2.2.2.2.2.1 r.2.2.2.2.2.2.1 M0 r.2.1) (some (.int r.1))) (n : Nat) (x1 : Int32) (x2 : Int32) (x3 : Int32) (x4 : Int32) (x7 : Int32) (M0 : SMT) (M1 : SMT) (Np : SNP) (No : SNO) (Nx : SNX) (Na : SNA) (Nq : SNQ) (Nj : SNJ) (rt : Nat) (Ni : SNI) (Nf : SNF) (Nh : SNH) {r : Int32 × SMT × SNP × SNO × SNX × SNQ × SNJ × Nat} (h : m_MM_asks_j139 n rec x1 x2 x3 x4 x7 M0 M1 Np No Nx Na Nq Nj rt = some r) : o_At p l e (rm_MM_asks d) s m args below meth c (MQ below (o_Qx D m_cls (some (.int r.1)) (m_cw ad ca ky ty r.2.2.2.2.2.2.2 Ni r.2.2.1 r.2.2.2.1 r.2.2.2.2.1 Nf Na Nh r.2.2.2.2.2.1 r.2.2.2.2.2.2.1 M0 r.2.1) A) args s 0 0 A) m_cls D A 10 139 [] (m_cw ad ca ky ty rt Ni Np No Nx Nf Na Nh Nq Nj M0 M1) [(0, .ref (ad 0)), (1, .int x1), (2, .int x2), (3, .int x3), (4, .int x4), (7, .int x7)] := by
  unfold m_MM_asks_j139 at h
  intro H locs ls hP hS hl
  have C0 := C
  obtain ⟨hx, hb, -, -, -, hown, hts, hK, -, -⟩ := C0
  refine lv_iload_n hx hb d_MM_asks_139 rfl (lv_at hl 1 rfl) ?_
  refine lv_bipush (v := (17:Int32)) hx hb d_MM_asks_140 (by decide) ?_
  refine lv_icmp_ne (tgt := 168) hx hb d_MM_asks_142 (by decide) (fun c6 => ?_) (fun c6 => ?_)
  · replace h := o_ff c6 h
    refine lv_iload_n hx hb d_MM_asks_168 rfl (lv_at hl 1 rfl) ?_
    refine lv_bipush (v := (18:Int32)) hx hb d_MM_asks_169 (by decide) ?_
    refine lv_icmp_lt (tgt := 203) hx hb d_MM_asks_171 (by decide) (fun c7 => ?_) (fun c7 => ?_)
    · replace h := o_tt c7 h
      exact f_MM_asks_j203 hE hKy C hDD d rec hrec n x1 x2 x3 x4 x7 M0 M1 Np No Nx Na Nq Nj rt Ni Nf Nh h _ _ _ hP hS (lv_sub hl [0, 1, 2, 3, 4, 5] rfl)
    · replace h := o_ff c7 h
      refine lv_iload_n hx hb d_MM_asks_174 rfl (lv_at hl 1 rfl) ?_
      refine lv_bipush (v := (22:Int32)) hx hb d_MM_asks_175 (by decide) ?_
      refine lv_icmp_gt (tgt := 203) hx hb d_MM_asks_177 (by decide) (fun c32 => ?_) (fun c32 => ?_)
      · replace h := o_tt c32 h
        exact f_MM_asks_j203 hE hKy C hDD d rec hrec n x1 x2 x3 x4 x7 M0 M1 Np No Nx Na Nq Nj rt Ni Nf Nh h _ _ _ hP hS (lv_sub hl [0, 1, 2, 3, 4, 5] rfl)
      · replace h := o_ff c32 h
        refine lv_iload hx hb d_MM_asks_180 (lv_at hl 5 rfl) ?_
        refine lv_iconst (v := (3:Int32)) hx hb d_MM_asks_182 (by decide) ?_
        refine lv_icmp_ne (tgt := 197) hx hb d_MM_asks_183 (by decide) (fun c33 => ?_) (fun c33 => ?_)
        · replace h := o_ff c33 h
          refine lv_iconst (v := (1:Int32)) hx hb d_MM_asks_197 (by decide) ?_
          refine lv_goto (tgt := 202) hx hb d_MM_asks_198 (by decide) ?_
          cases h
          exact o_rz (v := (1:Int32)) C o_nar1 hP hS d_MM_asks_202
        · replace h := o_tt c33 h
          refine lv_aload_n hx hb d_MM_asks_186 rfl (lv_at hl 0 rfl) ?_
          refine lv_iload_n hx hb d_MM_asks_187 rfl (lv_at hl 1 rfl) ?_
          refine lv_iload_n hx hb d_MM_asks_188 rfl (lv_at hl 2 rfl) ?_
          refine lv_iload hx hb d_MM_asks_189 (lv_at hl 4 rfl) ?_
          obtain ⟨q11, hq11, h⟩ := o_bd_some h
          refine o_V (st1 := [.int q11.1]) (w1 := (m_cw ad ca ky ty rt Ni Np No Nx Nf Na Nh Nq Nj M0 q11.2)) hE.1 C (e_MM_number_1 hE hKy l n x1 x2 x4 M0 M1 Ni Np No Nx Nf Na Nh Nq Nj rt hq11) hP (hDD _ _ _ _ _ _ _ _ _ _ _ _) hS hl.1 rfl mw_0 k_10_3 k_10_5 k_s_122 k_1_12 k_10_6 hv_MM_number_1 rfl rfl ⟨(by dsimp only [rm_MM_asks, rm_MM_number_1]; omega), (by dsimp only [rm_MM_asks, rm_MM_number_1]; omega)⟩ rfl (Nat.le_of_ble_eq_true rfl) ⟨Nat.zero_le _, Nat.zero_le _⟩ rfl d_MM_asks_191 (fun H locs hP hS => ?_)
          refine lv_if_eq (tgt := 201) hx hb d_MM_asks_194 (by decide) (fun c34 => ?_) (fun c34 => ?_)
          · replace h := o_tt c34 h
            refine lv_iconst (v := (0:Int32)) hx hb d_MM_asks_201 (by decide) ?_
            cases h
            exact o_rz (v := (0:Int32)) C o_nar0 hP hS d_MM_asks_202
          · replace h := o_ff c34 h
            refine lv_iconst (v := (1:Int32)) hx hb d_MM_asks_197 (by decide) ?_
            refine lv_goto (tgt := 202) hx hb d_MM_asks_198 (by decide) ?_
            cases h
            exact o_rz (v := (1:Int32)) C o_nar1 hP hS d_MM_asks_202
  · replace h := o_tt c6 h
    refine lv_iload hx hb d_MM_asks_145 (lv_at hl 5 rfl) ?_
    refine lv_bipush (v := (6:Int32)) hx hb d_MM_asks_147 (by decide) ?_
    refine lv_icmp_ne (tgt := 162) hx hb d_MM_asks_149 (by decide) (fun c35 => ?_) (fun c35 => ?_)
    · replace h := o_ff c35 h
      refine lv_iconst (v := (1:Int32)) hx hb d_MM_asks_162 (by decide) ?_
      refine lv_goto (tgt := 167) hx hb d_MM_asks_163 (by decide) ?_
      cases h
      exact o_rz (v := (1:Int32)) C o_nar1 hP hS d_MM_asks_167
    · replace h := o_tt c35 h
      refine lv_aload_n hx hb d_MM_asks_152 rfl (lv_at hl 0 rfl) ?_
      refine lv_iload_n hx hb d_MM_asks_153 rfl (lv_at hl 2 rfl) ?_
      refine lv_iload hx hb d_MM_asks_154 (lv_at hl 4 rfl) ?_
      obtain ⟨q12, hq12, h⟩ := o_bd_some h
      refine o_V (st1 := [.int q12.1]) (w1 := (m_cw ad ca ky ty q12.2.2.2.2.2.2.2 Ni q12.2.2.1 q12.2.2.2.1 q12.2.2.2.2.1 Nf Na Nh q12.2.2.2.2.2.1 q12.2.2.2.2.2.2.1 M0 q12.2.1)) hE.1 C (e_MM_dependent hE hKy l n d rec hrec x2 x4 M0 M1 Np No Nx Na Nq Nj rt Ni Nf Nh hq12) hP (hDD _ _ _ _ _ _ _ _ _ _ _ _) hS hl.1 rfl mw_0 k_9_235 k_9_237 k_s_121 k_1_12 k_9_238 hv_MM_dependent rfl rfl ⟨(by dsimp only [rm_MM_asks, rm_MM_dependent]; omega), (by dsimp only [rm_MM_asks, rm_MM_dependent]; omega)⟩ rfl (Nat.le_of_ble_eq_true rfl) ⟨Nat.zero_le _, Nat.zero_le _⟩ rfl d_MM_asks_156 (fun H locs hP hS => ?_)
      refine lv_if_eq (tgt := 166) hx hb d_MM_asks_159 (by decide) (fun c36 => ?_) (fun c36 => ?_)
      · replace h := o_tt c36 h
        refine lv_iconst (v := (0:Int32)) hx hb d_MM_asks_166 (by decide) ?_
        cases h
        exact o_rz (v := (0:Int32)) C o_nar0 hP hS d_MM_asks_167
      · replace h := o_ff c36 h
        refine lv_iconst (v := (1:Int32)) hx hb d_MM_asks_162 (by decide) ?_
        refine lv_goto (tgt := 167) hx hb d_MM_asks_163 (by decide) ?_
        cases h
        exact o_rz (v := (1:Int32)) C o_nar1 hP hS d_MM_asks_167
set_option maxHeartbeats 4000000 in
set_option maxRecDepth 100000 in
theorem e_MM_asks {E : (Nat → Prop) → State → Heap → Prop} {D : va_G} {ad kd sd vd xd : Nat → Nat} {ca : Nat → ClassId} {ky ty : Nat → Option Nat} (hE : o_EK E kd sd vd xd) (hKy : m_KY ky ty sd) (l : Launch) (n : Nat) (d : Nat) (rec : Int32 → Int32 → SMT → SMT → SNP → SNO → SNX → SNA → SNQ → SNJ → Nat → Option (Int32 × SMT × SNP × SNO × SNX × SNQ × SNJ × Nat)) (hrec : ∀ (x1 : Int32) (x2 : Int32) (M0 : SMT) (M1 : SMT) (Np : SNP) (No : SNO) (Nx : SNX) (Na : SNA) (Nq : SNQ) (Nj : SNJ) (rt : Nat) (Ni : SNI) (Nf : SNF) (Nh : SNH) (r : Int32 × SMT × SNP × SNO × SNX × SNQ × SNJ × Nat), rec x1 x2 M0 M1 Np No Nx Na Nq Nj rt = some r → o_Cn E l D m_cls (m_tys ca) y_MM_judge cc_MM_judge (rm_MM_judge d) [.ref (ad 0), .int x1, .int x2] (m_cw ad ca ky ty rt Ni Np No Nx Nf Na Nh Nq Nj M0 M1) (m_cw ad ca ky ty r.2.2.2.2.2.2.2 Ni r.2.2.1 r.2.2.2.1 r.2.2.2.2.1 Nf Na Nh r.2.2.2.2.2.1 r.2.2.2.2.2.2.1 M0 r.2.1) (some (.int r.1))) (x1 : Int32) (x2 : Int32) (x3 : Int32) (x4 : Int32) (M0 : SMT) (M1 : SMT) (Np : SNP) (No : SNO) (Nx : SNX) (Na : SNA) (Nq : SNQ) (Nj : SNJ) (rt : Nat) (Ni : SNI) (Nf : SNF) (Nh : SNH) {r : Int32 × SMT × SNP × SNO × SNX × SNQ × SNJ × Nat} (h : m_MM_asks n rec x1 x2 x3 x4 M0 M1 Np No Nx Na Nq Nj rt = some r) : o_Cn E l D m_cls (m_tys ca) y_MM_asks cc_MM_asks (rm_MM_asks d) [.ref (ad 0), .int x1, .int x2, .int x3, .int x4] (m_cw ad ca ky ty rt Ni Np No Nx Nf Na Nh Nq Nj M0 M1) (m_cw ad ca ky ty r.2.2.2.2.2.2.2 Ni r.2.2.1 r.2.2.2.1 r.2.2.2.2.1 Nf Na Nh r.2.2.2.2.2.1 r.2.2.2.2.2.2.1 M0 r.2.1) (some (.int r.1)) := by
  refine o_Cn_of (by decide) (Nat.le_of_ble_eq_true rfl) ?_
  intro p e s m below meth c A ls C hD hP hS hl
  have hDD : ∀ (rt : Nat) (Ni : SNI) (Np : SNP) (No : SNO) (Nx : SNX) (Nf : SNF) (Na : SNA) (Nh : SNH) (Nq : SNQ) (Nj : SNJ) (M0 : SMT) (M1 : SMT), va_D A (m_cw ad ca ky ty rt Ni Np No Nx Nf Na Nh Nq Nj M0 M1) := fun _ _ _ _ _ _ _ _ _ _ _ _ => o_D_map hD rfl
  have hl : lv_has ls 10 [(0, .ref (ad 0)), (1, .int x1), (2, .int x2), (3, .int x3), (4, .int x4)] := hl
  unfold m_MM_asks at h
  have C0 := C
  obtain ⟨hx, hb, -, -, -, hown, hts, hK, -, -⟩ := C0
  refine lv_aload_n hx hb d_MM_asks_0 rfl (lv_at hl 0 rfl) ?_
  refine o_get (v := .long (NJ_seen Nj)) C in_MM hP 0 mw_0 rfl 58 (by decide) k_8_48 rfl rfl d_MM_asks_1 ?_
  refine lv_topl (fun x5_4 ex5_4 => ?_)
  replace h := o_nm_at ex5_4 h
  refine lv_lstore (lv' := [(5, .long x5_4), (0, .ref (ad 0)), (1, .int x1), (2, .int x2), (3, .int x3), (4, .int x4)]) hx hb d_MM_asks_4 hl (by decide) rfl (fun ls hl => ?_)
  refine lv_aload_n hx hb d_MM_asks_6 rfl (lv_at hl 1 rfl) ?_
  refine o_get (v := .ref (ad 48)) C in_MM hP 0 mw_0 rfl 5 (by decide) k_7_235 rfl rfl d_MM_asks_7 ?_
  refine o_get (v := .ref (ad 50)) C in_MT hP 48 mw_48 rfl 1 (by decide) k_7_103 rfl rfl d_MM_asks_10 ?_
  refine lv_iload hx hb d_MM_asks_13 (lv_at hl 5 rfl) ?_
  obtain ⟨g1, h⟩ := o_gd_some h
  refine o_iald (f := (MT_kind M1)) C hP 50 47 mw_50 rfl g1 d_MM_asks_15 ?_
  refine lv_topi (fun x7_16 ex7_16 => ?_)
  replace h := o_nm_at ex7_16 h
  refine lv_istore (lv' := [(7, .int x7_16), (5, .long x5_4), (0, .ref (ad 0)), (1, .int x1), (2, .int x2), (3, .int x3), (4, .int x4)]) hx hb d_MM_asks_16 hl (by decide) rfl (fun ls hl => ?_)
  refine lv_iload_n hx hb d_MM_asks_18 rfl (lv_at hl 3 rfl) ?_
  refine lv_bipush (v := (32:Int32)) hx hb d_MM_asks_19 (by decide) ?_
  refine lv_icmp_ne (tgt := 62) hx hb d_MM_asks_21 (by decide) (fun c2 => ?_) (fun c2 => ?_)
  · replace h := o_ff c2 h
    refine lv_iload_n hx hb d_MM_asks_62 rfl (lv_at hl 3 rfl) ?_
    refine lv_if_ne (tgt := 104) hx hb d_MM_asks_63 (by decide) (fun c3 => ?_) (fun c3 => ?_)
    · replace h := o_ff c3 h
      refine lv_iload_n hx hb d_MM_asks_104 rfl (lv_at hl 3 rfl) ?_
      refine lv_iconst (v := (1:Int32)) hx hb d_MM_asks_105 (by decide) ?_
      refine lv_icmp_ne (tgt := 118) hx hb d_MM_asks_106 (by decide) (fun c4 => ?_) (fun c4 => ?_)
      · replace h := o_ff c4 h
        refine lv_iload_n hx hb d_MM_asks_118 rfl (lv_at hl 3 rfl) ?_
        refine lv_bipush (v := (10:Int32)) hx hb d_MM_asks_119 (by decide) ?_
        refine lv_icmp_lt (tgt := 139) hx hb d_MM_asks_121 (by decide) (fun c5 => ?_) (fun c5 => ?_)
        · replace h := o_tt c5 h
          exact f_MM_asks_j139 hE hKy C hDD d rec hrec n x1 x2 x3 x4 x7_16 M0 M1 Np No Nx Na Nq Nj rt Ni Nf Nh h _ _ _ hP hS (lv_sub hl [2, 3, 4, 5, 6, 0] rfl)
        · replace h := o_ff c5 h
          refine lv_iload_n hx hb d_MM_asks_124 rfl (lv_at hl 3 rfl) ?_
          refine lv_bipush (v := (12:Int32)) hx hb d_MM_asks_125 (by decide) ?_
          refine lv_icmp_gt (tgt := 139) hx hb d_MM_asks_127 (by decide) (fun c37 => ?_) (fun c37 => ?_)
          · replace h := o_tt c37 h
            exact f_MM_asks_j139 hE hKy C hDD d rec hrec n x1 x2 x3 x4 x7_16 M0 M1 Np No Nx Na Nq Nj rt Ni Nf Nh h _ _ _ hP hS (lv_sub hl [2, 3, 4, 5, 6, 0] rfl)
          · replace h := o_ff c37 h
            refine lv_aload_n hx hb d_MM_asks_130 rfl (lv_at hl 2 rfl) ?_
            refine lv_iload_n hx hb d_MM_asks_131 rfl (lv_at hl 3 rfl) ?_
            refine lv_iload_n hx hb d_MM_asks_132 rfl (lv_at hl 4 rfl) ?_
            refine lv_iload hx hb d_MM_asks_133 (lv_at hl 6 rfl) ?_
            obtain ⟨q13, hq13, h⟩ := o_bd_some h
            refine o_V (st1 := [.int q13.1]) (w1 := (m_cw ad ca ky ty q13.2.2.2.2.2.2.2 Ni q13.2.2.1 q13.2.2.2.1 q13.2.2.2.2.1 Nf Na Nh q13.2.2.2.2.2.1 q13.2.2.2.2.2.2.1 M0 q13.2.1)) hE.1 C (e_MM_several hE hKy l n d rec hrec x1 x2 x4 M0 M1 Np No Nx Na Nq Nj rt Ni Nf Nh hq13) hP (hDD _ _ _ _ _ _ _ _ _ _ _ _) hS hl.1 rfl mw_0 k_9_231 k_9_233 k_s_120 k_1_12 k_9_234 hv_MM_several rfl rfl ⟨(by dsimp only [rm_MM_asks, rm_MM_several]; omega), (by dsimp only [rm_MM_asks, rm_MM_several]; omega)⟩ rfl (Nat.le_of_ble_eq_true rfl) ⟨Nat.zero_le _, Nat.zero_le _⟩ rfl d_MM_asks_135 (fun H locs hP hS => ?_)
            obtain ⟨g38, h⟩ := o_gd_some h
            cases h
            exact o_rz C (o_zb_nar g38) hP hS d_MM_asks_138
      · replace h := o_tt c4 h
        refine lv_aload_n hx hb d_MM_asks_109 rfl (lv_at hl 2 rfl) ?_
        refine lv_iload_n hx hb d_MM_asks_110 rfl (lv_at hl 4 rfl) ?_
        refine lv_iload_n hx hb d_MM_asks_111 rfl (lv_at hl 5 rfl) ?_
        refine lv_iload hx hb d_MM_asks_112 (lv_at hl 6 rfl) ?_
        obtain ⟨q14, hq14, h⟩ := o_bd_some h
        refine o_V (st1 := [.int q14.1]) (w1 := (m_cw ad ca ky ty q14.2.2.2.2.2.2.2 Ni q14.2.2.1 q14.2.2.2.1 q14.2.2.2.2.1 Nf Na Nh q14.2.2.2.2.2.1 q14.2.2.2.2.2.2.1 M0 q14.2.1)) hE.1 C (e_MM_ifs hE hKy l n d rec hrec x2 x3 x4 M0 M1 Np No Nx Na Nq Nj rt Ni Nf Nh hq14) hP (hDD _ _ _ _ _ _ _ _ _ _ _ _) hS hl.1 rfl mw_0 k_9_222 k_9_224 k_s_119 k_1_12 k_9_225 hv_MM_ifs rfl rfl ⟨(by dsimp only [rm_MM_asks, rm_MM_ifs]; omega), (by dsimp only [rm_MM_asks, rm_MM_ifs]; omega)⟩ rfl (Nat.le_of_ble_eq_true rfl) ⟨Nat.zero_le _, Nat.zero_le _⟩ rfl d_MM_asks_114 (fun H locs hP hS => ?_)
        obtain ⟨g39, h⟩ := o_gd_some h
        cases h
        exact o_rz C (o_zb_nar g39) hP hS d_MM_asks_117
    · replace h := o_tt c3 h
      refine lv_aload_n hx hb d_MM_asks_66 rfl (lv_at hl 2 rfl) ?_
      refine o_get (v := .int (NQ_pairs Nq)) C in_MM hP 0 mw_0 rfl 53 (by decide) k_8_43 rfl rfl d_MM_asks_67 ?_
      refine lv_topi (fun x8_70 ex8_70 => ?_)
      replace h := o_nm_at ex8_70 h
      refine lv_istore (lv' := [(8, .int x8_70), (7, .int x7_16), (5, .long x5_4), (0, .ref (ad 0)), (1, .int x1), (2, .int x2), (3, .int x3), (4, .int x4)]) hx hb d_MM_asks_70 hl (by decide) rfl (fun ls hl => ?_)
      refine lv_aload_n hx hb d_MM_asks_72 rfl (lv_at hl 3 rfl) ?_
      refine lv_iload_n hx hb d_MM_asks_73 rfl (lv_at hl 5 rfl) ?_
      refine lv_iload hx hb d_MM_asks_74 (lv_at hl 7 rfl) ?_
      obtain ⟨q15, hq15, h⟩ := o_bd_some h
      refine o_V (st1 := [.int q15.1]) (w1 := (m_cw ad ca ky ty q15.2.2.2.2.2.2.2 Ni q15.2.2.1 q15.2.2.2.1 q15.2.2.2.2.1 Nf Na Nh q15.2.2.2.2.2.1 q15.2.2.2.2.2.2.1 M0 q15.2.1)) hE.1 C (hrec x2 x4 M0 M1 Np No Nx Na Nq Nj rt Ni Nf Nh _ hq15) hP (hDD _ _ _ _ _ _ _ _ _ _ _ _) hS hl.1 rfl mw_0 k_9_210 k_9_212 k_s_116 k_1_12 k_9_213 hv_MM_judge rfl rfl ⟨(by dsimp only [rm_MM_asks, rm_MM_judge]; omega), (by dsimp only [rm_MM_asks, rm_MM_judge]; omega)⟩ rfl (Nat.le_of_ble_eq_true rfl) ⟨Nat.zero_le _, Nat.zero_le _⟩ rfl d_MM_asks_76 (fun H locs hP hS => ?_)
      refine lv_istore (lv' := [(9, .int q15.1), (8, .int x8_70), (7, .int x7_16), (5, .long x5_4), (0, .ref (ad 0)), (1, .int x1), (2, .int x2), (3, .int x3), (4, .int x4)]) hx hb d_MM_asks_79 hl (by decide) rfl (fun ls hl => ?_)
      refine lv_aload_n hx hb d_MM_asks_81 rfl (lv_at hl 4 rfl) ?_
      refine lv_iload hx hb d_MM_asks_82 (lv_at hl 1 rfl) ?_
      refine o_put (v := .int x8_70) (ty := .int) (w1 := (m_cw ad ca ky ty q15.2.2.2.2.2.2.2 Ni q15.2.2.1 q15.2.2.2.1 q15.2.2.2.2.1 Nf Na Nh (NQ_mk (NQ_pairValue q15.2.2.2.2.2.1) (NQ_pairKey q15.2.2.2.2.2.1) x8_70) q15.2.2.2.2.2.2.1 M0 q15.2.1)) C in_MM t_MM t_MM_ok n_MM hP (hDD _ _ _ _ _ _ _ _ _ _ _ _) hS 0 mw_0 rfl 53 (by decide) k_8_43 rfl rfl (by decide +kernel) rfl rfl (Nat.le_of_ble_eq_true rfl) rfl d_MM_asks_84 (fun H locs hP hS => ?_)
      refine lv_aload_n hx hb d_MM_asks_87 rfl (lv_at hl 4 rfl) ?_
      refine lv_lload hx hb d_MM_asks_88 (lv_at hl 3 rfl) ?_
      refine o_put (v := .long x5_4) (ty := .long) (w1 := (m_cw ad ca ky ty q15.2.2.2.2.2.2.2 Ni q15.2.2.1 q15.2.2.2.1 q15.2.2.2.2.1 Nf Na Nh (NQ_mk (NQ_pairValue q15.2.2.2.2.2.1) (NQ_pairKey q15.2.2.2.2.2.1) x8_70) (NJ_mk (NJ_judged q15.2.2.2.2.2.2.1) (NJ_deepest q15.2.2.2.2.2.2.1) (NJ_depth q15.2.2.2.2.2.2.1) (NJ_over q15.2.2.2.2.2.2.1) x5_4) M0 q15.2.1)) C in_MM t_MM t_MM_ok n_MM hP (hDD _ _ _ _ _ _ _ _ _ _ _ _) hS 0 mw_0 rfl 58 (by decide) k_8_48 rfl rfl (by decide +kernel) rfl rfl (Nat.le_of_ble_eq_true rfl) rfl d_MM_asks_90 (fun H locs hP hS => ?_)
      refine lv_iload hx hb d_MM_asks_93 (lv_at hl 0 rfl) ?_
      refine lv_if_ne (tgt := 102) hx hb d_MM_asks_95 (by decide) (fun c40 => ?_) (fun c40 => ?_)
      · replace h := o_ff c40 h
        refine lv_iconst (v := (0:Int32)) hx hb d_MM_asks_102 (by decide) ?_
        cases h
        exact o_rz (v := (0:Int32)) C o_nar0 hP hS d_MM_asks_103
      · replace h := o_tt c40 h
        refine lv_iconst (v := (1:Int32)) hx hb d_MM_asks_98 (by decide) ?_
        refine lv_goto (tgt := 103) hx hb d_MM_asks_99 (by decide) ?_
        cases h
        exact o_rz (v := (1:Int32)) C o_nar1 hP hS d_MM_asks_103
  · replace h := o_tt c2 h
    refine lv_aload_n hx hb d_MM_asks_24 rfl (lv_at hl 2 rfl) ?_
    refine lv_aload_n hx hb d_MM_asks_25 rfl (lv_at hl 2 rfl) ?_
    refine o_get (v := .ref (ad 22)) C in_MM hP 0 mw_0 rfl 41 (by decide) k_8_31 rfl rfl d_MM_asks_26 ?_
    refine lv_iload_n hx hb d_MM_asks_29 rfl (lv_at hl 4 rfl) ?_
    obtain ⟨g41, h⟩ := o_gd_some h
    refine o_iald (f := (NA_target Na)) C hP 22 21 mw_22 rfl g41 d_MM_asks_30 ?_
    refine lv_iload hx hb d_MM_asks_31 (lv_at hl 6 rfl) ?_
    obtain ⟨q16, hq16, h⟩ := o_bd_some h
    refine o_V (st1 := [.int q16.1]) (w1 := (m_cw ad ca ky ty q16.2.2.2.2.2.2.2 Ni q16.2.2.1 q16.2.2.2.1 q16.2.2.2.2.1 Nf Na Nh q16.2.2.2.2.2.1 q16.2.2.2.2.2.2.1 M0 q16.2.1)) hE.1 C (hrec ((NA_target Na) x2.toNatClampNeg) x4 M0 M1 Np No Nx Na Nq Nj rt Ni Nf Nh _ hq16) hP (hDD _ _ _ _ _ _ _ _ _ _ _ _) hS hl.1 rfl mw_0 k_9_210 k_9_212 k_s_116 k_1_12 k_9_213 hv_MM_judge rfl rfl ⟨(by dsimp only [rm_MM_asks, rm_MM_judge]; omega), (by dsimp only [rm_MM_asks, rm_MM_judge]; omega)⟩ rfl (Nat.le_of_ble_eq_true rfl) ⟨Nat.zero_le _, Nat.zero_le _⟩ rfl d_MM_asks_33 (fun H locs hP hS => ?_)
    refine lv_istore (lv' := [(8, .int q16.1), (7, .int x7_16), (5, .long x5_4), (0, .ref (ad 0)), (1, .int x1), (2, .int x2), (3, .int x3), (4, .int x4)]) hx hb d_MM_asks_36 hl (by decide) rfl (fun ls hl => ?_)
    refine lv_aload_n hx hb d_MM_asks_38 rfl (lv_at hl 3 rfl) ?_
    refine lv_iload hx hb d_MM_asks_39 (lv_at hl 0 rfl) ?_
    refine lv_if_eq (tgt := 54) hx hb d_MM_asks_41 (by decide) (fun c42 => ?_) (fun c42 => ?_)
    · replace h := o_tt c42 h
      refine lv_lload hx hb d_MM_asks_54 (lv_at hl 2 rfl) ?_
      refine o_put (v := .long x5_4) (ty := .long) (w1 := (m_cw ad ca ky ty q16.2.2.2.2.2.2.2 Ni q16.2.2.1 q16.2.2.2.1 q16.2.2.2.2.1 Nf Na Nh q16.2.2.2.2.2.1 (NJ_mk (NJ_judged q16.2.2.2.2.2.2.1) (NJ_deepest q16.2.2.2.2.2.2.1) (NJ_depth q16.2.2.2.2.2.2.1) (NJ_over q16.2.2.2.2.2.2.1) x5_4) M0 q16.2.1)) C in_MM t_MM t_MM_ok n_MM hP (hDD _ _ _ _ _ _ _ _ _ _ _ _) hS 0 mw_0 rfl 58 (by decide) k_8_48 rfl rfl (by decide +kernel) rfl rfl (Nat.le_of_ble_eq_true rfl) rfl d_MM_asks_56 (fun H locs hP hS => ?_)
      refine lv_iload hx hb d_MM_asks_59 (lv_at hl 0 rfl) ?_
      obtain ⟨g43, h⟩ := o_gd_some h
      cases h
      exact o_rz C (o_zb_nar g43) hP hS d_MM_asks_61
    · replace h := o_ff c42 h
      refine lv_lload hx hb d_MM_asks_44 (lv_at hl 2 rfl) ?_
      refine lv_aload_n hx hb d_MM_asks_46 rfl (lv_at hl 3 rfl) ?_
      refine o_get (v := .long (NJ_seen q16.2.2.2.2.2.2.1)) C in_MM hP 0 mw_0 rfl 58 (by decide) k_8_48 rfl rfl d_MM_asks_47 ?_
      refine lv_lor hx hb d_MM_asks_50 ?_
      refine lv_goto (tgt := 56) hx hb d_MM_asks_51 (by decide) ?_
      refine o_put (v := .long (x5_4 ||| (NJ_seen q16.2.2.2.2.2.2.1))) (ty := .long) (w1 := (m_cw ad ca ky ty q16.2.2.2.2.2.2.2 Ni q16.2.2.1 q16.2.2.2.1 q16.2.2.2.2.1 Nf Na Nh q16.2.2.2.2.2.1 (NJ_mk (NJ_judged q16.2.2.2.2.2.2.1) (NJ_deepest q16.2.2.2.2.2.2.1) (NJ_depth q16.2.2.2.2.2.2.1) (NJ_over q16.2.2.2.2.2.2.1) (x5_4 ||| (NJ_seen q16.2.2.2.2.2.2.1))) M0 q16.2.1)) C in_MM t_MM t_MM_ok n_MM hP (hDD _ _ _ _ _ _ _ _ _ _ _ _) hS 0 mw_0 rfl 58 (by decide) k_8_48 rfl rfl (by decide +kernel) rfl rfl (Nat.le_of_ble_eq_true rfl) rfl d_MM_asks_56 (fun H locs hP hS => ?_)
      refine lv_iload hx hb d_MM_asks_59 (lv_at hl 0 rfl) ?_
      obtain ⟨g44, h⟩ := o_gd_some h
      cases h
      exact o_rz C (o_zb_nar g44) hP hS d_MM_asks_61
