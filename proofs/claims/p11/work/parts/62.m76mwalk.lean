set_option maxHeartbeats 4000000 in
set_option maxRecDepth 100000 in
theorem f_MM_object_j636 {E : (Nat → Prop) → State → Heap → Prop} {p : Program} {l : Launch} {e : Env} {s : State} {m : MethodId} {args : Array Value} {below : List Frame} {meth : Method} {c : Code} {D : va_G} {ad kd sd vd xd : Nat → Nat} {ca : Nat → ClassId} {A : Nat → Prop} {ky ty : Nat → Option Nat} {Q : State → Prop} (hE : o_EK E kd sd vd xd) (hKy : m_KY ky ty sd) (C : o_Cx E p s m args meth c D m_cls (m_tys ca) "SchemaJudgeModel" b_MM_object (some .boolean) 12 cc_MM_object A) (hDD : ∀ (rt : Nat) (Ni : SNI) (Np : SNP) (No : SNO) (Nx : SNX) (Nf : SNF) (Na : SNA) (Nh : SNH) (Nq : SNQ) (Nj : SNJ) (M0 : SMT) (M1 : SMT), va_D A (m_cw ad ca ky ty rt Ni Np No Nx Nf Na Nh Nq Nj M0 M1)) (d : Nat) (rec : Int32 → Int32 → SMT → SMT → SNP → SNO → SNX → SNA → SNQ → SNJ → Nat → Option (Int32 × SMT × SNP × SNO × SNX × SNQ × SNJ × Nat)) (hrec : ∀ (x1 : Int32) (x2 : Int32) (M0 : SMT) (M1 : SMT) (Np : SNP) (No : SNO) (Nx : SNX) (Na : SNA) (Nq : SNQ) (Nj : SNJ) (rt : Nat) (Ni : SNI) (Nf : SNF) (Nh : SNH) (r : Int32 × SMT × SNP × SNO × SNX × SNQ × SNJ × Nat), rec x1 x2 M0 M1 Np No Nx Na Nq Nj rt = some r → o_Cn E l D m_cls (m_tys ca) y_MM_judge cc_MM_judge (rm_MM_judge d) [.ref (ad 0), .int x1, .int x2] (m_cw ad ca ky ty rt Ni Np No Nx Nf Na Nh Nq Nj M0 M1) (m_cw ad ca ky ty r.2.2.2.2.2.2.2 Ni r.2.2.1 r.2.2.2.1 r.2.2.2.2.1 Nf Na Nh r.2.2.2.2.2.1 r.2.2.2.2.2.2.1 M0 r.2.1) (some (.int r.1))) (n : Nat) (u555_x1 : Int32) (u555_x2 : Int32) (u555_x3 : Int32) (u555_M0 : SMT) (u555_Na : SNA) (u555_Ni : SNI) (u555_Nf : SNF) (u555_Nh : SNH) (x5 : Int64) (x7 : Int32) (x9 : Int32) (x10 : Int32) (M1 : SMT) (Np : SNP) (No : SNO) (Nx : SNX) (Nq : SNQ) (Nj : SNJ) (rt : Nat) {q : Nat × Int64 × Int32 × Int32 × Int32 × SMT × SNP × SNO × SNX × SNQ × SNJ × Nat} (h : m_MM_object_j636 n rec u555_x1 u555_x2 u555_x3 x5 x7 x9 x10 u555_M0 M1 Np No Nx u555_Na Nq Nj rt = some q) (h0 : q.1 = 0 → o_At p l e (rm_MM_object d) s m args below meth c Q m_cls D A 12 555 [] (m_cw ad ca ky ty q.2.2.2.2.2.2.2.2.2.2.2 u555_Ni q.2.2.2.2.2.2.1 q.2.2.2.2.2.2.2.1 q.2.2.2.2.2.2.2.2.1 u555_Nf u555_Na u555_Nh q.2.2.2.2.2.2.2.2.2.1 q.2.2.2.2.2.2.2.2.2.2.1 u555_M0 q.2.2.2.2.2.1) [(0, .ref (ad 0)), (1, .int u555_x1), (2, .int u555_x2), (3, .int u555_x3), (5, .long q.2.1), (7, .int q.2.2.1), (9, .int q.2.2.2.1), (10, .int q.2.2.2.2.1)]) (h1 : q.1 ≠ 0 → (o_At p l e (rm_MM_object d) s m args below meth c Q m_cls D A 12 654 [] (m_cw ad ca ky ty q.2.2.2.2.2.2.2.2.2.2.2 u555_Ni q.2.2.2.2.2.2.1 q.2.2.2.2.2.2.2.1 q.2.2.2.2.2.2.2.2.1 u555_Nf u555_Na u555_Nh q.2.2.2.2.2.2.2.2.2.1 q.2.2.2.2.2.2.2.2.2.2.1 u555_M0 q.2.2.2.2.2.1) [(0, .ref (ad 0)), (1, .int u555_x1), (5, .long q.2.1), (7, .int q.2.2.1)])) : o_At p l e (rm_MM_object d) s m args below meth c Q m_cls D A 12 636 [] (m_cw ad ca ky ty rt u555_Ni Np No Nx u555_Nf u555_Na u555_Nh Nq Nj u555_M0 M1) [(0, .ref (ad 0)), (1, .int u555_x1), (2, .int u555_x2), (3, .int u555_x3), (5, .long x5), (7, .int x7), (9, .int x9), (10, .int x10)] := by
  unfold m_MM_object_j636 at h
  intro H locs ls hP hS hl
  have C0 := C
  obtain ⟨hx, hb, -, -, -, hown, hts, hK, -, -⟩ := C0
  refine lv_aload_n hx hb d_MM_object_636 rfl (lv_at hl 0 rfl) ?_
  refine o_get (v := .ref (ad 48)) C in_MM hP 0 mw_0 rfl 5 (by decide) k_7_235 rfl rfl d_MM_object_637 ?_
  refine o_get (v := .ref (ad 56)) C in_MT hP 48 mw_48 rfl 7 (by decide) k_7_115 rfl rfl d_MM_object_640 ?_
  refine lv_iload hx hb d_MM_object_643 (lv_at hl 7 rfl) ?_
  obtain ⟨g9, h⟩ := o_gd_some h
  refine o_iald (f := (MT_next M1)) C hP 56 53 mw_56 rfl g9 d_MM_object_645 ?_
  refine lv_topi (fun x10_646 ex10_646 => ?_)
  replace h := o_nm_at ex10_646 h
  refine lv_istore (lv' := [(10, .int x10_646), (0, .ref (ad 0)), (1, .int u555_x1), (2, .int u555_x2), (3, .int u555_x3), (5, .long x5), (7, .int x7), (9, .int x9)]) hx hb d_MM_object_646 hl (by decide) rfl (fun ls hl => ?_)
  obtain ⟨x9_648, ex9_648⟩ : ∃ y : Int32, y = x9 + (1:Int32) := ⟨_, rfl⟩
  replace h := o_nm_at ex9_648 h
  refine lv_iinc (v := x9_648) (lv' := [(9, .int x9_648), (10, .int x10_646), (0, .ref (ad 0)), (1, .int u555_x1), (2, .int u555_x2), (3, .int u555_x3), (5, .long x5), (7, .int x7)]) hx hb d_MM_object_648 hl (k := 7) rfl (by rw [ex9_648]; rfl) (by decide) rfl (fun ls hl => ?_)
  refine lv_goto (tgt := 555) hx hb d_MM_object_651 (by decide) ?_
  cases h
  exact h0 rfl _ _ _ hP hS (lv_sub hl [2, 3, 4, 5, 6, 7, 0, 1] rfl)
set_option maxHeartbeats 4000000 in
set_option maxRecDepth 100000 in
theorem f_MM_object_j609 {E : (Nat → Prop) → State → Heap → Prop} {p : Program} {l : Launch} {e : Env} {s : State} {m : MethodId} {args : Array Value} {below : List Frame} {meth : Method} {c : Code} {D : va_G} {ad kd sd vd xd : Nat → Nat} {ca : Nat → ClassId} {A : Nat → Prop} {ky ty : Nat → Option Nat} {Q : State → Prop} (hE : o_EK E kd sd vd xd) (hKy : m_KY ky ty sd) (C : o_Cx E p s m args meth c D m_cls (m_tys ca) "SchemaJudgeModel" b_MM_object (some .boolean) 12 cc_MM_object A) (hDD : ∀ (rt : Nat) (Ni : SNI) (Np : SNP) (No : SNO) (Nx : SNX) (Nf : SNF) (Na : SNA) (Nh : SNH) (Nq : SNQ) (Nj : SNJ) (M0 : SMT) (M1 : SMT), va_D A (m_cw ad ca ky ty rt Ni Np No Nx Nf Na Nh Nq Nj M0 M1)) (d : Nat) (rec : Int32 → Int32 → SMT → SMT → SNP → SNO → SNX → SNA → SNQ → SNJ → Nat → Option (Int32 × SMT × SNP × SNO × SNX × SNQ × SNJ × Nat)) (hrec : ∀ (x1 : Int32) (x2 : Int32) (M0 : SMT) (M1 : SMT) (Np : SNP) (No : SNO) (Nx : SNX) (Na : SNA) (Nq : SNQ) (Nj : SNJ) (rt : Nat) (Ni : SNI) (Nf : SNF) (Nh : SNH) (r : Int32 × SMT × SNP × SNO × SNX × SNQ × SNJ × Nat), rec x1 x2 M0 M1 Np No Nx Na Nq Nj rt = some r → o_Cn E l D m_cls (m_tys ca) y_MM_judge cc_MM_judge (rm_MM_judge d) [.ref (ad 0), .int x1, .int x2] (m_cw ad ca ky ty rt Ni Np No Nx Nf Na Nh Nq Nj M0 M1) (m_cw ad ca ky ty r.2.2.2.2.2.2.2 Ni r.2.2.1 r.2.2.2.1 r.2.2.2.2.1 Nf Na Nh r.2.2.2.2.2.1 r.2.2.2.2.2.2.1 M0 r.2.1) (some (.int r.1))) (n : Nat) (u555_x1 : Int32) (u555_x2 : Int32) (u555_x3 : Int32) (u555_M0 : SMT) (u555_Na : SNA) (u555_Ni : SNI) (u555_Nf : SNF) (u555_Nh : SNH) (x5 : Int64) (x7 : Int32) (x9 : Int32) (x10 : Int32) (M1 : SMT) (Np : SNP) (No : SNO) (Nx : SNX) (Nq : SNQ) (Nj : SNJ) (rt : Nat) {q : Nat × Int64 × Int32 × Int32 × Int32 × SMT × SNP × SNO × SNX × SNQ × SNJ × Nat} (h : m_MM_object_j609 n rec u555_x1 u555_x2 u555_x3 x5 x7 x9 x10 u555_M0 M1 Np No Nx u555_Na Nq Nj rt = some q) (h0 : q.1 = 0 → o_At p l e (rm_MM_object d) s m args below meth c Q m_cls D A 12 555 [] (m_cw ad ca ky ty q.2.2.2.2.2.2.2.2.2.2.2 u555_Ni q.2.2.2.2.2.2.1 q.2.2.2.2.2.2.2.1 q.2.2.2.2.2.2.2.2.1 u555_Nf u555_Na u555_Nh q.2.2.2.2.2.2.2.2.2.1 q.2.2.2.2.2.2.2.2.2.2.1 u555_M0 q.2.2.2.2.2.1) [(0, .ref (ad 0)), (1, .int u555_x1), (2, .int u555_x2), (3, .int u555_x3), (5, .long q.2.1), (7, .int q.2.2.1), (9, .int q.2.2.2.1), (10, .int q.2.2.2.2.1)]) (h1 : q.1 ≠ 0 → (o_At p l e (rm_MM_object d) s m args below meth c Q m_cls D A 12 654 [] (m_cw ad ca ky ty q.2.2.2.2.2.2.2.2.2.2.2 u555_Ni q.2.2.2.2.2.2.1 q.2.2.2.2.2.2.2.1 q.2.2.2.2.2.2.2.2.1 u555_Nf u555_Na u555_Nh q.2.2.2.2.2.2.2.2.2.1 q.2.2.2.2.2.2.2.2.2.2.1 u555_M0 q.2.2.2.2.2.1) [(0, .ref (ad 0)), (1, .int u555_x1), (5, .long q.2.1), (7, .int q.2.2.1)])) : o_At p l e (rm_MM_object d) s m args below meth c Q m_cls D A 12 609 [] (m_cw ad ca ky ty rt u555_Ni Np No Nx u555_Nf u555_Na u555_Nh Nq Nj u555_M0 M1) [(0, .ref (ad 0)), (1, .int u555_x1), (2, .int u555_x2), (3, .int u555_x3), (5, .long x5), (7, .int x7), (9, .int x9), (10, .int x10)] := by
  unfold m_MM_object_j609 at h
  intro H locs ls hP hS hl
  have C0 := C
  obtain ⟨hx, hb, -, -, -, hown, hts, hK, -, -⟩ := C0
  refine lv_iload hx hb d_MM_object_609 (lv_at hl 5 rfl) ?_
  refine lv_aload_n hx hb d_MM_object_611 rfl (lv_at hl 0 rfl) ?_
  refine lv_iload_n hx hb d_MM_object_612 rfl (lv_at hl 2 rfl) ?_
  refine lv_iload hx hb d_MM_object_613 (lv_at hl 7 rfl) ?_
  obtain ⟨q1, hq1, h⟩ := o_bd_some h
  refine o_V (st1 := [.int q1.1, .int x7]) (w1 := (m_cw ad ca ky ty q1.2.2.2.2.2.2.2 u555_Ni q1.2.2.1 q1.2.2.2.1 q1.2.2.2.2.1 u555_Nf u555_Na u555_Nh q1.2.2.2.2.2.1 q1.2.2.2.2.2.2.1 u555_M0 q1.2.1)) hE.1 C (hrec u555_x2 x10 u555_M0 M1 Np No Nx u555_Na Nq Nj rt u555_Ni u555_Nf u555_Nh _ hq1) hP (hDD _ _ _ _ _ _ _ _ _ _ _ _) hS hl.1 rfl mw_0 k_9_210 k_9_212 k_s_116 k_1_12 k_9_213 hv_MM_judge rfl rfl ⟨(by dsimp only [rm_MM_object, rm_MM_judge]; omega), (by dsimp only [rm_MM_object, rm_MM_judge]; omega)⟩ rfl (Nat.le_of_ble_eq_true rfl) ⟨Nat.zero_le _, Nat.zero_le _⟩ rfl d_MM_object_615 (fun H locs hP hS => ?_)
  refine lv_iand hx hb d_MM_object_618 ?_
  refine lv_topi (fun x7_619 ex7_619 => ?_)
  replace h := o_nm_at ex7_619 h
  refine lv_istore (lv' := [(7, .int x7_619), (0, .ref (ad 0)), (1, .int u555_x1), (2, .int u555_x2), (3, .int u555_x3), (5, .long x5), (9, .int x9), (10, .int x10)]) hx hb d_MM_object_619 hl (by decide) rfl (fun ls hl => ?_)
  refine lv_iload_n hx hb d_MM_object_621 rfl (lv_at hl 2 rfl) ?_
  refine lv_bipush (v := (6:Int32)) hx hb d_MM_object_622 (by decide) ?_
  refine lv_icmp_ne (tgt := 636) hx hb d_MM_object_624 (by decide) (fun c8 => ?_) (fun c8 => ?_)
  · replace h := o_ff c8 h
    exact f_MM_object_j636 hE hKy C hDD d rec hrec n u555_x1 u555_x2 u555_x3 u555_M0 u555_Na u555_Ni u555_Nf u555_Nh x5 x7_619 x9 x10 q1.2.1 q1.2.2.1 q1.2.2.2.1 q1.2.2.2.2.1 q1.2.2.2.2.2.1 q1.2.2.2.2.2.2.1 q1.2.2.2.2.2.2.2 h h0 h1 _ _ _ hP hS (lv_sub hl [1, 2, 3, 4, 5, 0, 6, 7] rfl)
  · replace h := o_tt c8 h
    refine lv_lload hx hb d_MM_object_627 (lv_at hl 5 rfl) ?_
    refine lv_lconst (v := (1:Int64)) hx hb d_MM_object_629 (by decide) ?_
    refine lv_iload hx hb d_MM_object_630 (lv_at hl 6 rfl) ?_
    refine lv_lshl hx hb d_MM_object_632 rfl ?_
    refine lv_lor hx hb d_MM_object_633 ?_
    refine lv_topl (fun x5_634 ex5_634 => ?_)
    replace h := o_nm_at ex5_634 h
    refine lv_lstore (lv' := [(5, .long x5_634), (7, .int x7_619), (0, .ref (ad 0)), (1, .int u555_x1), (2, .int u555_x2), (3, .int u555_x3), (9, .int x9), (10, .int x10)]) hx hb d_MM_object_634 hl (by decide) rfl (fun ls hl => ?_)
    exact f_MM_object_j636 hE hKy C hDD d rec hrec n u555_x1 u555_x2 u555_x3 u555_M0 u555_Na u555_Ni u555_Nf u555_Nh x5_634 x7_619 x9 x10 q1.2.1 q1.2.2.1 q1.2.2.2.1 q1.2.2.2.2.1 q1.2.2.2.2.2.1 q1.2.2.2.2.2.2.1 q1.2.2.2.2.2.2.2 h h0 h1 _ _ _ hP hS (lv_sub hl [2, 3, 4, 5, 0, 1, 6, 7] rfl)
set_option maxHeartbeats 4000000 in
set_option maxRecDepth 100000 in
theorem f_MM_object_b555 {E : (Nat → Prop) → State → Heap → Prop} {p : Program} {l : Launch} {e : Env} {s : State} {m : MethodId} {args : Array Value} {below : List Frame} {meth : Method} {c : Code} {D : va_G} {ad kd sd vd xd : Nat → Nat} {ca : Nat → ClassId} {A : Nat → Prop} {ky ty : Nat → Option Nat} {Q : State → Prop} (hE : o_EK E kd sd vd xd) (hKy : m_KY ky ty sd) (C : o_Cx E p s m args meth c D m_cls (m_tys ca) "SchemaJudgeModel" b_MM_object (some .boolean) 12 cc_MM_object A) (hDD : ∀ (rt : Nat) (Ni : SNI) (Np : SNP) (No : SNO) (Nx : SNX) (Nf : SNF) (Na : SNA) (Nh : SNH) (Nq : SNQ) (Nj : SNJ) (M0 : SMT) (M1 : SMT), va_D A (m_cw ad ca ky ty rt Ni Np No Nx Nf Na Nh Nq Nj M0 M1)) (d : Nat) (rec : Int32 → Int32 → SMT → SMT → SNP → SNO → SNX → SNA → SNQ → SNJ → Nat → Option (Int32 × SMT × SNP × SNO × SNX × SNQ × SNJ × Nat)) (hrec : ∀ (x1 : Int32) (x2 : Int32) (M0 : SMT) (M1 : SMT) (Np : SNP) (No : SNO) (Nx : SNX) (Na : SNA) (Nq : SNQ) (Nj : SNJ) (rt : Nat) (Ni : SNI) (Nf : SNF) (Nh : SNH) (r : Int32 × SMT × SNP × SNO × SNX × SNQ × SNJ × Nat), rec x1 x2 M0 M1 Np No Nx Na Nq Nj rt = some r → o_Cn E l D m_cls (m_tys ca) y_MM_judge cc_MM_judge (rm_MM_judge d) [.ref (ad 0), .int x1, .int x2] (m_cw ad ca ky ty rt Ni Np No Nx Nf Na Nh Nq Nj M0 M1) (m_cw ad ca ky ty r.2.2.2.2.2.2.2 Ni r.2.2.1 r.2.2.2.1 r.2.2.2.2.1 Nf Na Nh r.2.2.2.2.2.1 r.2.2.2.2.2.2.1 M0 r.2.1) (some (.int r.1))) (n : Nat) (u555_x1 : Int32) (u555_x2 : Int32) (u555_x3 : Int32) (u555_M0 : SMT) (u555_Na : SNA) (u555_Ni : SNI) (u555_Nf : SNF) (u555_Nh : SNH) (z : Int64 × Int32 × Int32 × Int32 × SMT × SNP × SNO × SNX × SNQ × SNJ × Nat) (q : Nat × Int64 × Int32 × Int32 × Int32 × SMT × SNP × SNO × SNX × SNQ × SNJ × Nat) (h : m_MM_object_b555 n rec u555_x1 u555_x2 u555_x3 u555_M0 u555_Na z = some q) (h0 : q.1 = 0 → o_At p l e (rm_MM_object d) s m args below meth c Q m_cls D A 12 555 [] (m_cw ad ca ky ty q.2.2.2.2.2.2.2.2.2.2.2 u555_Ni q.2.2.2.2.2.2.1 q.2.2.2.2.2.2.2.1 q.2.2.2.2.2.2.2.2.1 u555_Nf u555_Na u555_Nh q.2.2.2.2.2.2.2.2.2.1 q.2.2.2.2.2.2.2.2.2.2.1 u555_M0 q.2.2.2.2.2.1) [(0, .ref (ad 0)), (1, .int u555_x1), (2, .int u555_x2), (3, .int u555_x3), (5, .long q.2.1), (7, .int q.2.2.1), (9, .int q.2.2.2.1), (10, .int q.2.2.2.2.1)]) (h1 : q.1 ≠ 0 → (o_At p l e (rm_MM_object d) s m args below meth c Q m_cls D A 12 654 [] (m_cw ad ca ky ty q.2.2.2.2.2.2.2.2.2.2.2 u555_Ni q.2.2.2.2.2.2.1 q.2.2.2.2.2.2.2.1 q.2.2.2.2.2.2.2.2.1 u555_Nf u555_Na u555_Nh q.2.2.2.2.2.2.2.2.2.1 q.2.2.2.2.2.2.2.2.2.2.1 u555_M0 q.2.2.2.2.2.1) [(0, .ref (ad 0)), (1, .int u555_x1), (5, .long q.2.1), (7, .int q.2.2.1)])) : o_At p l e (rm_MM_object d) s m args below meth c Q m_cls D A 12 555 [] (m_cw ad ca ky ty z.2.2.2.2.2.2.2.2.2.2 u555_Ni z.2.2.2.2.2.1 z.2.2.2.2.2.2.1 z.2.2.2.2.2.2.2.1 u555_Nf u555_Na u555_Nh z.2.2.2.2.2.2.2.2.1 z.2.2.2.2.2.2.2.2.2.1 u555_M0 z.2.2.2.2.1) [(0, .ref (ad 0)), (1, .int u555_x1), (2, .int u555_x2), (3, .int u555_x3), (5, .long z.1), (7, .int z.2.1), (9, .int z.2.2.1), (10, .int z.2.2.2.1)] := by
  unfold m_MM_object_b555 at h
  intro H locs ls hP hS hl
  have C0 := C
  obtain ⟨hx, hb, -, -, -, hown, hts, hK, -, -⟩ := C0
  refine lv_iload hx hb d_MM_object_555 (lv_at hl 7 rfl) ?_
  refine lv_if_lt (tgt := 654) hx hb d_MM_object_557 (by decide) (fun c4 => ?_) (fun c4 => ?_)
  · replace h := o_tt c4 h
    cases h
    exact h1 (Nat.succ_ne_zero 0) _ _ _ hP hS (lv_sub hl [0, 1, 4, 5] rfl)
  · replace h := o_ff c4 h
    refine lv_aload_n hx hb d_MM_object_560 rfl (lv_at hl 0 rfl) ?_
    refine o_get (v := .int (NJ_over z.2.2.2.2.2.2.2.2.2.1)) C in_MM hP 0 mw_0 rfl 57 (by decide) k_8_47 rfl rfl d_MM_object_561 ?_
    refine lv_if_ne (tgt := 654) hx hb d_MM_object_564 (by decide) (fun c5 => ?_) (fun c5 => ?_)
    · replace h := o_ff c5 h
      cases h
      exact h1 (Nat.succ_ne_zero 0) _ _ _ hP hS (lv_sub hl [0, 1, 4, 5] rfl)
    · replace h := o_tt c5 h
      refine lv_iload_n hx hb d_MM_object_567 rfl (lv_at hl 1 rfl) ?_
      refine lv_bipush (v := (6:Int32)) hx hb d_MM_object_568 (by decide) ?_
      refine lv_icmp_ne (tgt := 594) hx hb d_MM_object_570 (by decide) (fun c6 => ?_) (fun c6 => ?_)
      · replace h := o_ff c6 h
        refine lv_lload hx hb d_MM_object_594 (lv_at hl 4 rfl) ?_
        refine lv_iload hx hb d_MM_object_596 (lv_at hl 6 rfl) ?_
        refine lv_lshr hx hb d_MM_object_598 rfl ?_
        refine lv_lconst (v := (1:Int64)) hx hb d_MM_object_599 (by decide) ?_
        refine lv_land hx hb d_MM_object_600 ?_
        refine lv_lconst (v := (0:Int64)) hx hb d_MM_object_601 (by decide) ?_
        refine W.lcmp hx hb d_MM_object_602 ?_
        refine lv_if_eq (tgt := 609) hx hb d_MM_object_603 (by decide) (fun c7 => ?_) (fun c7 => ?_)
        · replace h := o_tt c7 h
          exact f_MM_object_j609 hE hKy C hDD d rec hrec n u555_x1 u555_x2 u555_x3 u555_M0 u555_Na u555_Ni u555_Nf u555_Nh z.1 z.2.1 z.2.2.1 z.2.2.2.1 z.2.2.2.2.1 z.2.2.2.2.2.1 z.2.2.2.2.2.2.1 z.2.2.2.2.2.2.2.1 z.2.2.2.2.2.2.2.2.1 z.2.2.2.2.2.2.2.2.2.1 z.2.2.2.2.2.2.2.2.2.2 h h0 h1 _ _ _ hP hS (lv_sub hl [0, 1, 2, 3, 4, 5, 6, 7] rfl)
        · replace h := o_ff c7 h
          refine lv_goto (tgt := 636) hx hb d_MM_object_606 (by decide) ?_
          exact f_MM_object_j636 hE hKy C hDD d rec hrec n u555_x1 u555_x2 u555_x3 u555_M0 u555_Na u555_Ni u555_Nf u555_Nh z.1 z.2.1 z.2.2.1 z.2.2.2.1 z.2.2.2.2.1 z.2.2.2.2.2.1 z.2.2.2.2.2.2.1 z.2.2.2.2.2.2.2.1 z.2.2.2.2.2.2.2.2.1 z.2.2.2.2.2.2.2.2.2.1 z.2.2.2.2.2.2.2.2.2.2 h h0 h1 _ _ _ hP hS (lv_sub hl [0, 1, 2, 3, 4, 5, 6, 7] rfl)
      · replace h := o_tt c6 h
        refine lv_aload_n hx hb d_MM_object_573 rfl (lv_at hl 0 rfl) ?_
        refine lv_iload_n hx hb d_MM_object_574 rfl (lv_at hl 3 rfl) ?_
        refine lv_aload_n hx hb d_MM_object_575 rfl (lv_at hl 0 rfl) ?_
        refine o_get (v := .ref (ad 48)) C in_MM hP 0 mw_0 rfl 5 (by decide) k_7_235 rfl rfl d_MM_object_576 ?_
        refine o_get (v := .ref (ad 57)) C in_MT hP 48 mw_48 rfl 8 (by decide) k_7_117 rfl rfl d_MM_object_579 ?_
        refine lv_iload hx hb d_MM_object_582 (lv_at hl 7 rfl) ?_
        obtain ⟨g10, h⟩ := o_gd_some h
        refine o_iald (f := (MT_name z.2.2.2.2.1)) C hP 57 54 mw_57 rfl g10 d_MM_object_584 ?_
        obtain ⟨q2, hq2, h⟩ := o_bd_some h
        refine o_V (st1 := [.int q2.1]) (w1 := (m_cw ad ca ky ty q2.2.2.2.2 u555_Ni q2.2.1 q2.2.2.1 q2.2.2.2.1 u555_Nf u555_Na u555_Nh z.2.2.2.2.2.2.2.2.1 z.2.2.2.2.2.2.2.2.2.1 u555_M0 z.2.2.2.2.1)) hE.1 C (e_MM_isIn hE hKy l n u555_x3 ((MT_name z.2.2.2.2.1) z.2.2.2.1.toNatClampNeg) u555_M0 z.2.2.2.2.1 z.2.2.2.2.2.1 z.2.2.2.2.2.2.1 z.2.2.2.2.2.2.2.1 z.2.2.2.2.2.2.2.2.2.2 u555_Ni u555_Nf u555_Na u555_Nh z.2.2.2.2.2.2.2.2.1 z.2.2.2.2.2.2.2.2.2.1 hq2) hP (hDD _ _ _ _ _ _ _ _ _ _ _ _) hS hl.1 rfl mw_0 k_10_68 k_10_70 k_s_134 k_1_12 k_10_71 hv_MM_isIn rfl rfl ⟨(by dsimp only [rm_MM_object, rm_MM_isIn]; omega), (by dsimp only [rm_MM_object, rm_MM_isIn]; omega)⟩ rfl (Nat.le_of_ble_eq_true rfl) ⟨Nat.zero_le _, Nat.zero_le _⟩ rfl d_MM_object_585 (fun H locs hP hS => ?_)
        refine lv_if_eq (tgt := 609) hx hb d_MM_object_588 (by decide) (fun c11 => ?_) (fun c11 => ?_)
        · replace h := o_tt c11 h
          exact f_MM_object_j609 hE hKy C hDD d rec hrec n u555_x1 u555_x2 u555_x3 u555_M0 u555_Na u555_Ni u555_Nf u555_Nh z.1 z.2.1 z.2.2.1 z.2.2.2.1 z.2.2.2.2.1 q2.2.1 q2.2.2.1 q2.2.2.2.1 z.2.2.2.2.2.2.2.2.1 z.2.2.2.2.2.2.2.2.2.1 q2.2.2.2.2 h h0 h1 _ _ _ hP hS (lv_sub hl [0, 1, 2, 3, 4, 5, 6, 7] rfl)
        · replace h := o_ff c11 h
          refine lv_goto (tgt := 636) hx hb d_MM_object_591 (by decide) ?_
          exact f_MM_object_j636 hE hKy C hDD d rec hrec n u555_x1 u555_x2 u555_x3 u555_M0 u555_Na u555_Ni u555_Nf u555_Nh z.1 z.2.1 z.2.2.1 z.2.2.2.1 z.2.2.2.2.1 q2.2.1 q2.2.2.1 q2.2.2.2.1 z.2.2.2.2.2.2.2.2.1 z.2.2.2.2.2.2.2.2.2.1 q2.2.2.2.2 h h0 h1 _ _ _ hP hS (lv_sub hl [0, 1, 2, 3, 4, 5, 6, 7] rfl)
set_option maxHeartbeats 4000000 in
set_option maxRecDepth 100000 in
theorem f_MM_object_j654 {E : (Nat → Prop) → State → Heap → Prop} {p : Program} {l : Launch} {e : Env} {s : State} {m : MethodId} {args : Array Value} {below : List Frame} {meth : Method} {c : Code} {D : va_G} {ad kd sd vd xd : Nat → Nat} {ca : Nat → ClassId} {A : Nat → Prop} {ky ty : Nat → Option Nat} (hE : o_EK E kd sd vd xd) (hKy : m_KY ky ty sd) (C : o_Cx E p s m args meth c D m_cls (m_tys ca) "SchemaJudgeModel" b_MM_object (some .boolean) 12 cc_MM_object A) (hDD : ∀ (rt : Nat) (Ni : SNI) (Np : SNP) (No : SNO) (Nx : SNX) (Nf : SNF) (Na : SNA) (Nh : SNH) (Nq : SNQ) (Nj : SNJ) (M0 : SMT) (M1 : SMT), va_D A (m_cw ad ca ky ty rt Ni Np No Nx Nf Na Nh Nq Nj M0 M1)) (d : Nat) (rec : Int32 → Int32 → SMT → SMT → SNP → SNO → SNX → SNA → SNQ → SNJ → Nat → Option (Int32 × SMT × SNP × SNO × SNX × SNQ × SNJ × Nat)) (hrec : ∀ (x1 : Int32) (x2 : Int32) (M0 : SMT) (M1 : SMT) (Np : SNP) (No : SNO) (Nx : SNX) (Na : SNA) (Nq : SNQ) (Nj : SNJ) (rt : Nat) (Ni : SNI) (Nf : SNF) (Nh : SNH) (r : Int32 × SMT × SNP × SNO × SNX × SNQ × SNJ × Nat), rec x1 x2 M0 M1 Np No Nx Na Nq Nj rt = some r → o_Cn E l D m_cls (m_tys ca) y_MM_judge cc_MM_judge (rm_MM_judge d) [.ref (ad 0), .int x1, .int x2] (m_cw ad ca ky ty rt Ni Np No Nx Nf Na Nh Nq Nj M0 M1) (m_cw ad ca ky ty r.2.2.2.2.2.2.2 Ni r.2.2.1 r.2.2.2.1 r.2.2.2.2.1 Nf Na Nh r.2.2.2.2.2.1 r.2.2.2.2.2.2.1 M0 r.2.1) (some (.int r.1))) (n : Nat) (x1 : Int32) (x5 : Int64) (x7 : Int32) (M0 : SMT) (M1 : SMT) (Np : SNP) (No : SNO) (Nx : SNX) (Na : SNA) (Nq : SNQ) (Nj : SNJ) (rt : Nat) (Ni : SNI) (Nf : SNF) (Nh : SNH) {r : Int32 × SMT × SNP × SNO × SNX × SNQ × SNJ × Nat} (h : m_MM_object_j654 n rec x1 x5 x7 M0 M1 Np No Nx Na Nq Nj rt = some r) : o_At p l e (rm_MM_object d) s m args below meth c (MQ below (o_Qx D m_cls (some (.int r.1)) (m_cw ad ca ky ty r.2.2.2.2.2.2.2 Ni r.2.2.1 r.2.2.2.1 r.2.2.2.2.1 Nf Na Nh r.2.2.2.2.2.1 r.2.2.2.2.2.2.1 M0 r.2.1) A) args s 0 0 A) m_cls D A 12 654 [] (m_cw ad ca ky ty rt Ni Np No Nx Nf Na Nh Nq Nj M0 M1) [(0, .ref (ad 0)), (1, .int x1), (5, .long x5), (7, .int x7)] := by
  unfold m_MM_object_j654 at h
  intro H locs ls hP hS hl
  have C0 := C
  obtain ⟨hx, hb, -, -, -, hown, hts, hK, -, -⟩ := C0
  refine lv_iload_n hx hb d_MM_object_654 rfl (lv_at hl 1 rfl) ?_
  refine lv_bipush (v := (9:Int32)) hx hb d_MM_object_655 (by decide) ?_
  refine lv_icmp_ne (tgt := 732) hx hb d_MM_object_657 (by decide) (fun c12 => ?_) (fun c12 => ?_)
  · replace h := o_ff c12 h
    refine lv_aload_n hx hb d_MM_object_732 rfl (lv_at hl 0 rfl) ?_
    refine lv_lload hx hb d_MM_object_733 (lv_at hl 2 rfl) ?_
    refine o_put (v := .long x5) (ty := .long) (w1 := (m_cw ad ca ky ty rt Ni Np No Nx Nf Na Nh Nq (NJ_mk (NJ_judged Nj) (NJ_deepest Nj) (NJ_depth Nj) (NJ_over Nj) x5) M0 M1)) C in_MM t_MM t_MM_ok n_MM hP (hDD _ _ _ _ _ _ _ _ _ _ _ _) hS 0 mw_0 rfl 58 (by decide) k_8_48 rfl rfl (by decide +kernel) rfl rfl (Nat.le_of_ble_eq_true rfl) rfl d_MM_object_735 (fun H locs hP hS => ?_)
    refine lv_iload hx hb d_MM_object_738 (lv_at hl 3 rfl) ?_
    obtain ⟨g13, h⟩ := o_gd_some h
    cases h
    exact o_rz C (o_zb_nar g13) hP hS d_MM_object_740
  · replace h := o_tt c12 h
    refine lv_ldc2 (v := (-1:Int64)) hx hb hown (hts _ k_10_55) d_MM_object_660 ?_
    refine lv_lstore (lv' := [(5, .long (-1:Int64)), (0, .ref (ad 0)), (1, .int x1), (7, .int x7)]) hx hb d_MM_object_663 hl (by decide) rfl (fun ls hl => ?_)
    refine lv_goto (tgt := 732) hx hb d_MM_object_665 (by decide) ?_
    refine lv_aload_n hx hb d_MM_object_732 rfl (lv_at hl 1 rfl) ?_
    refine lv_lload hx hb d_MM_object_733 (lv_at hl 0 rfl) ?_
    refine o_put (v := .long (-1:Int64)) (ty := .long) (w1 := (m_cw ad ca ky ty rt Ni Np No Nx Nf Na Nh Nq (NJ_mk (NJ_judged Nj) (NJ_deepest Nj) (NJ_depth Nj) (NJ_over Nj) (-1:Int64)) M0 M1)) C in_MM t_MM t_MM_ok n_MM hP (hDD _ _ _ _ _ _ _ _ _ _ _ _) hS 0 mw_0 rfl 58 (by decide) k_8_48 rfl rfl (by decide +kernel) rfl rfl (Nat.le_of_ble_eq_true rfl) rfl d_MM_object_735 (fun H locs hP hS => ?_)
    refine lv_iload hx hb d_MM_object_738 (lv_at hl 3 rfl) ?_
    obtain ⟨g14, h⟩ := o_gd_some h
    cases h
    exact o_rz C (o_zb_nar g14) hP hS d_MM_object_740
set_option maxHeartbeats 4000000 in
set_option maxRecDepth 100000 in
theorem f_MM_object_b680 {E : (Nat → Prop) → State → Heap → Prop} {p : Program} {l : Launch} {e : Env} {s : State} {m : MethodId} {args : Array Value} {below : List Frame} {meth : Method} {c : Code} {D : va_G} {ad kd sd vd xd : Nat → Nat} {ca : Nat → ClassId} {A : Nat → Prop} {ky ty : Nat → Option Nat} {Q : State → Prop} (hE : o_EK E kd sd vd xd) (hKy : m_KY ky ty sd) (C : o_Cx E p s m args meth c D m_cls (m_tys ca) "SchemaJudgeModel" b_MM_object (some .boolean) 12 cc_MM_object A) (hDD : ∀ (rt : Nat) (Ni : SNI) (Np : SNP) (No : SNO) (Nx : SNX) (Nf : SNF) (Na : SNA) (Nh : SNH) (Nq : SNQ) (Nj : SNJ) (M0 : SMT) (M1 : SMT), va_D A (m_cw ad ca ky ty rt Ni Np No Nx Nf Na Nh Nq Nj M0 M1)) (d : Nat) (rec : Int32 → Int32 → SMT → SMT → SNP → SNO → SNX → SNA → SNQ → SNJ → Nat → Option (Int32 × SMT × SNP × SNO × SNX × SNQ × SNJ × Nat)) (hrec : ∀ (x1 : Int32) (x2 : Int32) (M0 : SMT) (M1 : SMT) (Np : SNP) (No : SNO) (Nx : SNX) (Na : SNA) (Nq : SNQ) (Nj : SNJ) (rt : Nat) (Ni : SNI) (Nf : SNF) (Nh : SNH) (r : Int32 × SMT × SNP × SNO × SNX × SNQ × SNJ × Nat), rec x1 x2 M0 M1 Np No Nx Na Nq Nj rt = some r → o_Cn E l D m_cls (m_tys ca) y_MM_judge cc_MM_judge (rm_MM_judge d) [.ref (ad 0), .int x1, .int x2] (m_cw ad ca ky ty rt Ni Np No Nx Nf Na Nh Nq Nj M0 M1) (m_cw ad ca ky ty r.2.2.2.2.2.2.2 Ni r.2.2.1 r.2.2.2.1 r.2.2.2.2.1 Nf Na Nh r.2.2.2.2.2.1 r.2.2.2.2.2.2.1 M0 r.2.1) (some (.int r.1))) (n : Nat) (u680_x2 : Int32) (u680_x5 : Int64) (u680_M0 : SMT) (u680_Na : SNA) (u680_Ni : SNI) (u680_Nf : SNF) (u680_Nh : SNH) (z : Int32 × Int32 × SMT × SNP × SNO × SNX × SNQ × SNJ × Nat) (q : Nat × Int32 × Int32 × SMT × SNP × SNO × SNX × SNQ × SNJ × Nat) (h : m_MM_object_b680 n rec u680_x2 u680_x5 u680_M0 u680_Na z = some q) (h0 : q.1 = 0 → o_At p l e (rm_MM_object d) s m args below meth c Q m_cls D A 12 680 [] (m_cw ad ca ky ty q.2.2.2.2.2.2.2.2.2 u680_Ni q.2.2.2.2.1 q.2.2.2.2.2.1 q.2.2.2.2.2.2.1 u680_Nf u680_Na u680_Nh q.2.2.2.2.2.2.2.1 q.2.2.2.2.2.2.2.2.1 u680_M0 q.2.2.2.1) [(0, .ref (ad 0)), (2, .int u680_x2), (5, .long u680_x5), (7, .int q.2.1), (10, .int q.2.2.1)]) (h1 : q.1 ≠ 0 → (o_At p l e (rm_MM_object d) s m args below meth c Q m_cls D A 12 727 [] (m_cw ad ca ky ty q.2.2.2.2.2.2.2.2.2 u680_Ni q.2.2.2.2.1 q.2.2.2.2.2.1 q.2.2.2.2.2.2.1 u680_Nf u680_Na u680_Nh q.2.2.2.2.2.2.2.1 q.2.2.2.2.2.2.2.2.1 u680_M0 q.2.2.2.1) [(0, .ref (ad 0)), (5, .long u680_x5), (7, .int q.2.1)])) : o_At p l e (rm_MM_object d) s m args below meth c Q m_cls D A 12 680 [] (m_cw ad ca ky ty z.2.2.2.2.2.2.2.2 u680_Ni z.2.2.2.1 z.2.2.2.2.1 z.2.2.2.2.2.1 u680_Nf u680_Na u680_Nh z.2.2.2.2.2.2.1 z.2.2.2.2.2.2.2.1 u680_M0 z.2.2.1) [(0, .ref (ad 0)), (2, .int u680_x2), (5, .long u680_x5), (7, .int z.1), (10, .int z.2.1)] := by
  unfold m_MM_object_b680 at h
  intro H locs ls hP hS hl
  have C0 := C
  obtain ⟨hx, hb, -, -, -, hown, hts, hK, -, -⟩ := C0
  refine lv_iload hx hb d_MM_object_680 (lv_at hl 4 rfl) ?_
  refine lv_if_lt (tgt := 727) hx hb d_MM_object_682 (by decide) (fun c17 => ?_) (fun c17 => ?_)
  · replace h := o_tt c17 h
    cases h
    exact h1 (Nat.succ_ne_zero 0) _ _ _ hP hS (lv_sub hl [0, 2, 3] rfl)
  · replace h := o_ff c17 h
    refine lv_aload_n hx hb d_MM_object_685 rfl (lv_at hl 0 rfl) ?_
    refine o_get (v := .int (NJ_over z.2.2.2.2.2.2.2.1)) C in_MM hP 0 mw_0 rfl 57 (by decide) k_8_47 rfl rfl d_MM_object_686 ?_
    refine lv_if_ne (tgt := 727) hx hb d_MM_object_689 (by decide) (fun c18 => ?_) (fun c18 => ?_)
    · replace h := o_ff c18 h
      cases h
      exact h1 (Nat.succ_ne_zero 0) _ _ _ hP hS (lv_sub hl [0, 2, 3] rfl)
    · replace h := o_tt c18 h
      refine lv_iload hx hb d_MM_object_692 (lv_at hl 3 rfl) ?_
      refine lv_aload_n hx hb d_MM_object_694 rfl (lv_at hl 0 rfl) ?_
      refine lv_iload_n hx hb d_MM_object_695 rfl (lv_at hl 1 rfl) ?_
      refine lv_aload_n hx hb d_MM_object_696 rfl (lv_at hl 0 rfl) ?_
      refine o_get (v := .ref (ad 48)) C in_MM hP 0 mw_0 rfl 5 (by decide) k_7_235 rfl rfl d_MM_object_697 ?_
      refine o_get (v := .ref (ad 57)) C in_MT hP 48 mw_48 rfl 8 (by decide) k_7_117 rfl rfl d_MM_object_700 ?_
      refine lv_iload hx hb d_MM_object_703 (lv_at hl 4 rfl) ?_
      obtain ⟨g19, h⟩ := o_gd_some h
      refine o_iald (f := (MT_name z.2.2.1)) C hP 57 54 mw_57 rfl g19 d_MM_object_705 ?_
      obtain ⟨q4, hq4, h⟩ := o_bd_some h
      refine o_V (st1 := [.int q4.1, .int z.1]) (w1 := (m_cw ad ca ky ty q4.2.2.2.2.2.2.2 u680_Ni q4.2.2.1 q4.2.2.2.1 q4.2.2.2.2.1 u680_Nf u680_Na u680_Nh q4.2.2.2.2.2.1 q4.2.2.2.2.2.2.1 u680_M0 q4.2.1)) hE.1 C (hrec u680_x2 ((MT_name z.2.2.1) z.2.1.toNatClampNeg) u680_M0 z.2.2.1 z.2.2.2.1 z.2.2.2.2.1 z.2.2.2.2.2.1 u680_Na z.2.2.2.2.2.2.1 z.2.2.2.2.2.2.2.1 z.2.2.2.2.2.2.2.2 u680_Ni u680_Nf u680_Nh _ hq4) hP (hDD _ _ _ _ _ _ _ _ _ _ _ _) hS hl.1 rfl mw_0 k_9_210 k_9_212 k_s_116 k_1_12 k_9_213 hv_MM_judge rfl rfl ⟨(by dsimp only [rm_MM_object, rm_MM_judge]; omega), (by dsimp only [rm_MM_object, rm_MM_judge]; omega)⟩ rfl (Nat.le_of_ble_eq_true rfl) ⟨Nat.zero_le _, Nat.zero_le _⟩ rfl d_MM_object_706 (fun H locs hP hS => ?_)
      refine lv_iand hx hb d_MM_object_709 ?_
      refine lv_topi (fun x7_710 ex7_710 => ?_)
      replace h := o_nm_at ex7_710 h
      refine lv_istore (lv' := [(7, .int x7_710), (0, .ref (ad 0)), (2, .int u680_x2), (5, .long u680_x5), (10, .int z.2.1)]) hx hb d_MM_object_710 hl (by decide) rfl (fun ls hl => ?_)
      refine lv_aload_n hx hb d_MM_object_712 rfl (lv_at hl 1 rfl) ?_
      refine o_get (v := .ref (ad 48)) C in_MM hP 0 mw_0 rfl 5 (by decide) k_7_235 rfl rfl d_MM_object_713 ?_
      refine o_get (v := .ref (ad 56)) C in_MT hP 48 mw_48 rfl 7 (by decide) k_7_115 rfl rfl d_MM_object_716 ?_
      refine lv_iload hx hb d_MM_object_719 (lv_at hl 4 rfl) ?_
      obtain ⟨g20, h⟩ := o_gd_some h
      refine o_iald (f := (MT_next q4.2.1)) C hP 56 53 mw_56 rfl g20 d_MM_object_721 ?_
      refine lv_topi (fun x10_722 ex10_722 => ?_)
      replace h := o_nm_at ex10_722 h
      refine lv_istore (lv' := [(10, .int x10_722), (7, .int x7_710), (0, .ref (ad 0)), (2, .int u680_x2), (5, .long u680_x5)]) hx hb d_MM_object_722 hl (by decide) rfl (fun ls hl => ?_)
      refine lv_goto (tgt := 680) hx hb d_MM_object_724 (by decide) ?_
      cases h
      exact h0 rfl _ _ _ hP hS (lv_sub hl [2, 3, 4, 1, 0] rfl)
set_option maxHeartbeats 4000000 in
set_option maxRecDepth 100000 in
theorem f_MM_object_j372 {E : (Nat → Prop) → State → Heap → Prop} {p : Program} {l : Launch} {e : Env} {s : State} {m : MethodId} {args : Array Value} {below : List Frame} {meth : Method} {c : Code} {D : va_G} {ad kd sd vd xd : Nat → Nat} {ca : Nat → ClassId} {A : Nat → Prop} {ky ty : Nat → Option Nat} {Q : State → Prop} (hE : o_EK E kd sd vd xd) (hKy : m_KY ky ty sd) (C : o_Cx E p s m args meth c D m_cls (m_tys ca) "SchemaJudgeModel" b_MM_object (some .boolean) 12 cc_MM_object A) (hDD : ∀ (rt : Nat) (Ni : SNI) (Np : SNP) (No : SNO) (Nx : SNX) (Nf : SNF) (Na : SNA) (Nh : SNH) (Nq : SNQ) (Nj : SNJ) (M0 : SMT) (M1 : SMT), va_D A (m_cw ad ca ky ty rt Ni Np No Nx Nf Na Nh Nq Nj M0 M1)) (d : Nat) (rec : Int32 → Int32 → SMT → SMT → SNP → SNO → SNX → SNA → SNQ → SNJ → Nat → Option (Int32 × SMT × SNP × SNO × SNX × SNQ × SNJ × Nat)) (hrec : ∀ (x1 : Int32) (x2 : Int32) (M0 : SMT) (M1 : SMT) (Np : SNP) (No : SNO) (Nx : SNX) (Na : SNA) (Nq : SNQ) (Nj : SNJ) (rt : Nat) (Ni : SNI) (Nf : SNF) (Nh : SNH) (r : Int32 × SMT × SNP × SNO × SNX × SNQ × SNJ × Nat), rec x1 x2 M0 M1 Np No Nx Na Nq Nj rt = some r → o_Cn E l D m_cls (m_tys ca) y_MM_judge cc_MM_judge (rm_MM_judge d) [.ref (ad 0), .int x1, .int x2] (m_cw ad ca ky ty rt Ni Np No Nx Nf Na Nh Nq Nj M0 M1) (m_cw ad ca ky ty r.2.2.2.2.2.2.2 Ni r.2.2.1 r.2.2.2.1 r.2.2.2.2.1 Nf Na Nh r.2.2.2.2.2.1 r.2.2.2.2.2.2.1 M0 r.2.1) (some (.int r.1))) (n : Nat) (u299_x4 : Int32) (u299_M0 : SMT) (u299_Na : SNA) (u299_Ni : SNI) (u299_Nf : SNF) (u299_Nh : SNH) (x5 : Int64) (x7 : Int32) (x10 : Int32) (M1 : SMT) (Np : SNP) (No : SNO) (Nx : SNX) (Nq : SNQ) (Nj : SNJ) (rt : Nat) {q : Nat × Int64 × Int32 × Int32 × SMT × SNP × SNO × SNX × SNQ × SNJ × Nat} (h : m_MM_object_j372 n rec u299_x4 x5 x7 x10 u299_M0 M1 Np No Nx u299_Na Nq Nj rt = some q) (h0 : q.1 = 0 → o_At p l e (rm_MM_object d) s m args below meth c Q m_cls D A 12 299 [] (m_cw ad ca ky ty q.2.2.2.2.2.2.2.2.2.2 u299_Ni q.2.2.2.2.2.1 q.2.2.2.2.2.2.1 q.2.2.2.2.2.2.2.1 u299_Nf u299_Na u299_Nh q.2.2.2.2.2.2.2.2.1 q.2.2.2.2.2.2.2.2.2.1 u299_M0 q.2.2.2.2.1) [(0, .ref (ad 0)), (4, .int u299_x4), (5, .long q.2.1), (7, .int q.2.2.1), (10, .int q.2.2.2.1)]) (h1 : q.1 ≠ 0 → (o_At p l e (rm_MM_object d) s m args below meth c Q m_cls D A 12 387 [] (m_cw ad ca ky ty q.2.2.2.2.2.2.2.2.2.2 u299_Ni q.2.2.2.2.2.1 q.2.2.2.2.2.2.1 q.2.2.2.2.2.2.2.1 u299_Nf u299_Na u299_Nh q.2.2.2.2.2.2.2.2.1 q.2.2.2.2.2.2.2.2.2.1 u299_M0 q.2.2.2.2.1) [(0, .ref (ad 0)), (5, .long q.2.1), (7, .int q.2.2.1)])) : o_At p l e (rm_MM_object d) s m args below meth c Q m_cls D A 12 372 [] (m_cw ad ca ky ty rt u299_Ni Np No Nx u299_Nf u299_Na u299_Nh Nq Nj u299_M0 M1) [(0, .ref (ad 0)), (4, .int u299_x4), (5, .long x5), (7, .int x7), (10, .int x10)] := by
  unfold m_MM_object_j372 at h
  intro H locs ls hP hS hl
  have C0 := C
  obtain ⟨hx, hb, -, -, -, hown, hts, hK, -, -⟩ := C0
  refine lv_aload_n hx hb d_MM_object_372 rfl (lv_at hl 0 rfl) ?_
  refine o_get (v := .ref (ad 33)) C in_MM hP 0 mw_0 rfl 4 (by decide) k_7_234 rfl rfl d_MM_object_373 ?_
  refine o_get (v := .ref (ad 41)) C in_MT hP 33 mw_33 rfl 7 (by decide) k_7_115 rfl rfl d_MM_object_376 ?_
  refine lv_iload hx hb d_MM_object_379 (lv_at hl 4 rfl) ?_
  obtain ⟨g36, h⟩ := o_gd_some h
  refine o_iald (f := (MT_next u299_M0)) C hP 41 39 mw_41 rfl g36 d_MM_object_381 ?_
  refine lv_topi (fun x10_382 ex10_382 => ?_)
  replace h := o_nm_at ex10_382 h
  refine lv_istore (lv' := [(10, .int x10_382), (0, .ref (ad 0)), (4, .int u299_x4), (5, .long x5), (7, .int x7)]) hx hb d_MM_object_382 hl (by decide) rfl (fun ls hl => ?_)
  refine lv_goto (tgt := 299) hx hb d_MM_object_384 (by decide) ?_
  cases h
  exact h0 rfl _ _ _ hP hS (lv_sub hl [1, 2, 3, 4, 0] rfl)
set_option maxHeartbeats 4000000 in
set_option maxRecDepth 100000 in
theorem f_MM_object_b299 {E : (Nat → Prop) → State → Heap → Prop} {p : Program} {l : Launch} {e : Env} {s : State} {m : MethodId} {args : Array Value} {below : List Frame} {meth : Method} {c : Code} {D : va_G} {ad kd sd vd xd : Nat → Nat} {ca : Nat → ClassId} {A : Nat → Prop} {ky ty : Nat → Option Nat} {Q : State → Prop} (hE : o_EK E kd sd vd xd) (hKy : m_KY ky ty sd) (C : o_Cx E p s m args meth c D m_cls (m_tys ca) "SchemaJudgeModel" b_MM_object (some .boolean) 12 cc_MM_object A) (hDD : ∀ (rt : Nat) (Ni : SNI) (Np : SNP) (No : SNO) (Nx : SNX) (Nf : SNF) (Na : SNA) (Nh : SNH) (Nq : SNQ) (Nj : SNJ) (M0 : SMT) (M1 : SMT), va_D A (m_cw ad ca ky ty rt Ni Np No Nx Nf Na Nh Nq Nj M0 M1)) (d : Nat) (rec : Int32 → Int32 → SMT → SMT → SNP → SNO → SNX → SNA → SNQ → SNJ → Nat → Option (Int32 × SMT × SNP × SNO × SNX × SNQ × SNJ × Nat)) (hrec : ∀ (x1 : Int32) (x2 : Int32) (M0 : SMT) (M1 : SMT) (Np : SNP) (No : SNO) (Nx : SNX) (Na : SNA) (Nq : SNQ) (Nj : SNJ) (rt : Nat) (Ni : SNI) (Nf : SNF) (Nh : SNH) (r : Int32 × SMT × SNP × SNO × SNX × SNQ × SNJ × Nat), rec x1 x2 M0 M1 Np No Nx Na Nq Nj rt = some r → o_Cn E l D m_cls (m_tys ca) y_MM_judge cc_MM_judge (rm_MM_judge d) [.ref (ad 0), .int x1, .int x2] (m_cw ad ca ky ty rt Ni Np No Nx Nf Na Nh Nq Nj M0 M1) (m_cw ad ca ky ty r.2.2.2.2.2.2.2 Ni r.2.2.1 r.2.2.2.1 r.2.2.2.2.1 Nf Na Nh r.2.2.2.2.2.1 r.2.2.2.2.2.2.1 M0 r.2.1) (some (.int r.1))) (n : Nat) (u299_x4 : Int32) (u299_M0 : SMT) (u299_Na : SNA) (u299_Ni : SNI) (u299_Nf : SNF) (u299_Nh : SNH) (z : Int64 × Int32 × Int32 × SMT × SNP × SNO × SNX × SNQ × SNJ × Nat) (q : Nat × Int64 × Int32 × Int32 × SMT × SNP × SNO × SNX × SNQ × SNJ × Nat) (h : m_MM_object_b299 n rec u299_x4 u299_M0 u299_Na z = some q) (h0 : q.1 = 0 → o_At p l e (rm_MM_object d) s m args below meth c Q m_cls D A 12 299 [] (m_cw ad ca ky ty q.2.2.2.2.2.2.2.2.2.2 u299_Ni q.2.2.2.2.2.1 q.2.2.2.2.2.2.1 q.2.2.2.2.2.2.2.1 u299_Nf u299_Na u299_Nh q.2.2.2.2.2.2.2.2.1 q.2.2.2.2.2.2.2.2.2.1 u299_M0 q.2.2.2.2.1) [(0, .ref (ad 0)), (4, .int u299_x4), (5, .long q.2.1), (7, .int q.2.2.1), (10, .int q.2.2.2.1)]) (h1 : q.1 ≠ 0 → (o_At p l e (rm_MM_object d) s m args below meth c Q m_cls D A 12 387 [] (m_cw ad ca ky ty q.2.2.2.2.2.2.2.2.2.2 u299_Ni q.2.2.2.2.2.1 q.2.2.2.2.2.2.1 q.2.2.2.2.2.2.2.1 u299_Nf u299_Na u299_Nh q.2.2.2.2.2.2.2.2.1 q.2.2.2.2.2.2.2.2.2.1 u299_M0 q.2.2.2.2.1) [(0, .ref (ad 0)), (5, .long q.2.1), (7, .int q.2.2.1)])) : o_At p l e (rm_MM_object d) s m args below meth c Q m_cls D A 12 299 [] (m_cw ad ca ky ty z.2.2.2.2.2.2.2.2.2 u299_Ni z.2.2.2.2.1 z.2.2.2.2.2.1 z.2.2.2.2.2.2.1 u299_Nf u299_Na u299_Nh z.2.2.2.2.2.2.2.1 z.2.2.2.2.2.2.2.2.1 u299_M0 z.2.2.2.1) [(0, .ref (ad 0)), (4, .int u299_x4), (5, .long z.1), (7, .int z.2.1), (10, .int z.2.2.1)] := by
  unfold m_MM_object_b299 at h
  intro H locs ls hP hS hl
  have C0 := C
  obtain ⟨hx, hb, -, -, -, hown, hts, hK, -, -⟩ := C0
  refine lv_iload hx hb d_MM_object_299 (lv_at hl 4 rfl) ?_
  refine lv_if_lt (tgt := 387) hx hb d_MM_object_301 (by decide) (fun c32 => ?_) (fun c32 => ?_)
  · replace h := o_tt c32 h
    cases h
    exact h1 (Nat.succ_ne_zero 0) _ _ _ hP hS (lv_sub hl [0, 2, 3] rfl)
  · replace h := o_ff c32 h
    refine lv_aload_n hx hb d_MM_object_304 rfl (lv_at hl 0 rfl) ?_
    refine o_get (v := .int (NJ_over z.2.2.2.2.2.2.2.2.1)) C in_MM hP 0 mw_0 rfl 57 (by decide) k_8_47 rfl rfl d_MM_object_305 ?_
    refine lv_if_ne (tgt := 387) hx hb d_MM_object_308 (by decide) (fun c33 => ?_) (fun c33 => ?_)
    · replace h := o_ff c33 h
      cases h
      exact h1 (Nat.succ_ne_zero 0) _ _ _ hP hS (lv_sub hl [0, 2, 3] rfl)
    · replace h := o_tt c33 h
      refine lv_aload_n hx hb d_MM_object_311 rfl (lv_at hl 0 rfl) ?_
      refine o_get (v := .ref (ad 48)) C in_MM hP 0 mw_0 rfl 5 (by decide) k_7_235 rfl rfl d_MM_object_312 ?_
      refine lv_iload hx hb d_MM_object_315 (lv_at hl 1 rfl) ?_
      refine lv_aload_n hx hb d_MM_object_317 rfl (lv_at hl 0 rfl) ?_
      refine o_get (v := .ref (ad 33)) C in_MM hP 0 mw_0 rfl 4 (by decide) k_7_234 rfl rfl d_MM_object_318 ?_
      refine lv_aload_n hx hb d_MM_object_321 rfl (lv_at hl 0 rfl) ?_
      refine o_get (v := .ref (ad 33)) C in_MM hP 0 mw_0 rfl 4 (by decide) k_7_234 rfl rfl d_MM_object_322 ?_
      refine o_get (v := .ref (ad 42)) C in_MT hP 33 mw_33 rfl 8 (by decide) k_7_117 rfl rfl d_MM_object_325 ?_
      refine lv_iload hx hb d_MM_object_328 (lv_at hl 4 rfl) ?_
      obtain ⟨g34, h⟩ := o_gd_some h
      refine o_iald (f := (MT_name u299_M0)) C hP 42 40 mw_42 rfl g34 d_MM_object_330 ?_
      obtain ⟨q7, hq7, h⟩ := o_bd_some h
      refine o_V (st1 := [.int q7]) (w1 := (m_cw ad ca ky ty z.2.2.2.2.2.2.2.2.2 u299_Ni z.2.2.2.2.1 z.2.2.2.2.2.1 z.2.2.2.2.2.2.1 u299_Nf u299_Na u299_Nh z.2.2.2.2.2.2.2.1 z.2.2.2.2.2.2.2.2.1 u299_M0 z.2.2.2.1)) hE.1 C (e_MT_member_1_ba hE hKy l n u299_x4 ((MT_name u299_M0) z.2.2.1.toNatClampNeg) z.2.2.2.1 u299_M0 u299_Ni z.2.2.2.2.1 z.2.2.2.2.2.1 z.2.2.2.2.2.2.1 u299_Nf u299_Na u299_Nh z.2.2.2.2.2.2.2.1 z.2.2.2.2.2.2.2.2.1 z.2.2.2.2.2.2.2.2.2 hq7) hP (hDD _ _ _ _ _ _ _ _ _ _ _ _) hS hl.1 rfl mw_48 k_9_239 k_10_0 k_10_1 k_1_13 k_10_2 hv_MT_member_1 rfl rfl ⟨(by dsimp only [rm_MM_object, rm_MT_member_1]; omega), (by dsimp only [rm_MM_object, rm_MT_member_1]; omega)⟩ rfl (Nat.le_of_ble_eq_true rfl) ⟨Nat.zero_le _, Nat.zero_le _⟩ rfl d_MM_object_331 (fun H locs hP hS => ?_)
      refine lv_istore (lv' := [(11, .int q7), (0, .ref (ad 0)), (4, .int u299_x4), (5, .long z.1), (7, .int z.2.1), (10, .int z.2.2.1)]) hx hb d_MM_object_334 hl (by decide) rfl (fun ls hl => ?_)
      refine lv_iload hx hb d_MM_object_336 (lv_at hl 0 rfl) ?_
      refine lv_if_ge (tgt := 344) hx hb d_MM_object_338 (by decide) (fun c35 => ?_) (fun c35 => ?_)
      · replace h := o_tt c35 h
        refine lv_iload hx hb d_MM_object_344 (lv_at hl 4 rfl) ?_
        refine lv_aload_n hx hb d_MM_object_346 rfl (lv_at hl 1 rfl) ?_
        refine lv_iload hx hb d_MM_object_347 (lv_at hl 5 rfl) ?_
        refine lv_iload hx hb d_MM_object_349 (lv_at hl 0 rfl) ?_
        obtain ⟨q8, hq8, h⟩ := o_bd_some h
        refine o_V (st1 := [.int q8.1, .int z.2.1]) (w1 := (m_cw ad ca ky ty q8.2.2.2.2.2.2.2 u299_Ni q8.2.2.1 q8.2.2.2.1 q8.2.2.2.2.1 u299_Nf u299_Na u299_Nh q8.2.2.2.2.2.1 q8.2.2.2.2.2.2.1 u299_M0 q8.2.1)) hE.1 C (hrec z.2.2.1 q7 u299_M0 z.2.2.2.1 z.2.2.2.2.1 z.2.2.2.2.2.1 z.2.2.2.2.2.2.1 u299_Na z.2.2.2.2.2.2.2.1 z.2.2.2.2.2.2.2.2.1 z.2.2.2.2.2.2.2.2.2 u299_Ni u299_Nf u299_Nh _ hq8) hP (hDD _ _ _ _ _ _ _ _ _ _ _ _) hS hl.1 rfl mw_0 k_9_210 k_9_212 k_s_116 k_1_12 k_9_213 hv_MM_judge rfl rfl ⟨(by dsimp only [rm_MM_object, rm_MM_judge]; omega), (by dsimp only [rm_MM_object, rm_MM_judge]; omega)⟩ rfl (Nat.le_of_ble_eq_true rfl) ⟨Nat.zero_le _, Nat.zero_le _⟩ rfl d_MM_object_351 (fun H locs hP hS => ?_)
        refine lv_iand hx hb d_MM_object_354 ?_
        refine lv_topi (fun x7_355 ex7_355 => ?_)
        replace h := o_nm_at ex7_355 h
        refine lv_istore (lv' := [(7, .int x7_355), (11, .int q7), (0, .ref (ad 0)), (4, .int u299_x4), (5, .long z.1), (10, .int z.2.2.1)]) hx hb d_MM_object_355 hl (by decide) rfl (fun ls hl => ?_)
        refine lv_lload hx hb d_MM_object_357 (lv_at hl 4 rfl) ?_
        refine lv_lconst (v := (1:Int64)) hx hb d_MM_object_359 (by decide) ?_
        refine lv_aload_n hx hb d_MM_object_360 rfl (lv_at hl 2 rfl) ?_
        refine lv_iload hx hb d_MM_object_361 (lv_at hl 3 rfl) ?_
        refine lv_iload hx hb d_MM_object_363 (lv_at hl 1 rfl) ?_
        obtain ⟨q9, hq9, h⟩ := o_bd_some h
        refine o_V (st1 := [.int q9, .long (1:Int64), .long z.1]) (w1 := (m_cw ad ca ky ty q8.2.2.2.2.2.2.2 u299_Ni q8.2.2.1 q8.2.2.2.1 q8.2.2.2.2.1 u299_Nf u299_Na u299_Nh q8.2.2.2.2.2.1 q8.2.2.2.2.2.2.1 u299_M0 q8.2.1)) hE.1 C (e_MM_placeOf hE hKy l n u299_x4 q7 q8.2.1 u299_Ni q8.2.2.1 q8.2.2.2.1 q8.2.2.2.2.1 u299_Nf u299_Na u299_Nh q8.2.2.2.2.2.1 q8.2.2.2.2.2.2.1 u299_M0 q8.2.2.2.2.2.2.2 hq9) hP (hDD _ _ _ _ _ _ _ _ _ _ _ _) hS hl.1 rfl mw_0 k_10_64 k_10_66 k_s_133 k_1_12 k_10_67 hv_MM_placeOf rfl rfl ⟨(by dsimp only [rm_MM_object, rm_MM_placeOf]; omega), (by dsimp only [rm_MM_object, rm_MM_placeOf]; omega)⟩ rfl (Nat.le_of_ble_eq_true rfl) ⟨Nat.zero_le _, Nat.zero_le _⟩ rfl d_MM_object_365 (fun H locs hP hS => ?_)
        refine lv_lshl hx hb d_MM_object_368 rfl ?_
        refine lv_lor hx hb d_MM_object_369 ?_
        refine lv_topl (fun x5_370 ex5_370 => ?_)
        replace h := o_nm_at ex5_370 h
        refine lv_lstore (lv' := [(5, .long x5_370), (7, .int x7_355), (11, .int q7), (0, .ref (ad 0)), (4, .int u299_x4), (10, .int z.2.2.1)]) hx hb d_MM_object_370 hl (by decide) rfl (fun ls hl => ?_)
        exact f_MM_object_j372 hE hKy C hDD d rec hrec n u299_x4 u299_M0 u299_Na u299_Ni u299_Nf u299_Nh x5_370 x7_355 z.2.2.1 q8.2.1 q8.2.2.1 q8.2.2.2.1 q8.2.2.2.2.1 q8.2.2.2.2.2.1 q8.2.2.2.2.2.2.1 q8.2.2.2.2.2.2.2 h h0 h1 _ _ _ hP hS (lv_sub hl [3, 4, 0, 1, 5] rfl)
      · replace h := o_ff c35 h
        refine lv_goto (tgt := 372) hx hb d_MM_object_341 (by decide) ?_
        exact f_MM_object_j372 hE hKy C hDD d rec hrec n u299_x4 u299_M0 u299_Na u299_Ni u299_Nf u299_Nh z.1 z.2.1 z.2.2.1 z.2.2.2.1 z.2.2.2.2.1 z.2.2.2.2.2.1 z.2.2.2.2.2.2.1 z.2.2.2.2.2.2.2.1 z.2.2.2.2.2.2.2.2.1 z.2.2.2.2.2.2.2.2.2 h h0 h1 _ _ _ hP hS (lv_sub hl [1, 2, 3, 4, 5] rfl)
set_option maxHeartbeats 4000000 in
set_option maxRecDepth 100000 in
theorem f_MM_object_j507 {E : (Nat → Prop) → State → Heap → Prop} {p : Program} {l : Launch} {e : Env} {s : State} {m : MethodId} {args : Array Value} {below : List Frame} {meth : Method} {c : Code} {D : va_G} {ad kd sd vd xd : Nat → Nat} {ca : Nat → ClassId} {A : Nat → Prop} {ky ty : Nat → Option Nat} {Q : State → Prop} (hE : o_EK E kd sd vd xd) (hKy : m_KY ky ty sd) (C : o_Cx E p s m args meth c D m_cls (m_tys ca) "SchemaJudgeModel" b_MM_object (some .boolean) 12 cc_MM_object A) (hDD : ∀ (rt : Nat) (Ni : SNI) (Np : SNP) (No : SNO) (Nx : SNX) (Nf : SNF) (Na : SNA) (Nh : SNH) (Nq : SNQ) (Nj : SNJ) (M0 : SMT) (M1 : SMT), va_D A (m_cw ad ca ky ty rt Ni Np No Nx Nf Na Nh Nq Nj M0 M1)) (d : Nat) (rec : Int32 → Int32 → SMT → SMT → SNP → SNO → SNX → SNA → SNQ → SNJ → Nat → Option (Int32 × SMT × SNP × SNO × SNX × SNQ × SNJ × Nat)) (hrec : ∀ (x1 : Int32) (x2 : Int32) (M0 : SMT) (M1 : SMT) (Np : SNP) (No : SNO) (Nx : SNX) (Na : SNA) (Nq : SNQ) (Nj : SNJ) (rt : Nat) (Ni : SNI) (Nf : SNF) (Nh : SNH) (r : Int32 × SMT × SNP × SNO × SNX × SNQ × SNJ × Nat), rec x1 x2 M0 M1 Np No Nx Na Nq Nj rt = some r → o_Cn E l D m_cls (m_tys ca) y_MM_judge cc_MM_judge (rm_MM_judge d) [.ref (ad 0), .int x1, .int x2] (m_cw ad ca ky ty rt Ni Np No Nx Nf Na Nh Nq Nj M0 M1) (m_cw ad ca ky ty r.2.2.2.2.2.2.2 Ni r.2.2.1 r.2.2.2.1 r.2.2.2.2.1 Nf Na Nh r.2.2.2.2.2.1 r.2.2.2.2.2.2.1 M0 r.2.1) (some (.int r.1))) (n : Nat) (u428_x4 : Int32) (u428_x10 : Int32) (u428_M0 : SMT) (u428_Na : SNA) (u428_Ni : SNI) (u428_Nf : SNF) (u428_Nh : SNH) (x5 : Int64) (x7 : Int32) (x9 : Int32) (x11 : Int32) (M1 : SMT) (Np : SNP) (No : SNO) (Nx : SNX) (Nq : SNQ) (Nj : SNJ) (rt : Nat) {q : Nat × Int64 × Int32 × Int32 × Int32 × SMT × SNP × SNO × SNX × SNQ × SNJ × Nat} (h : m_MM_object_j507 n rec u428_x4 x5 x7 x9 u428_x10 x11 u428_M0 M1 Np No Nx u428_Na Nq Nj rt = some q) (h0 : q.1 = 0 → o_At p l e (rm_MM_object d) s m args below meth c Q m_cls D A 12 428 [] (m_cw ad ca ky ty q.2.2.2.2.2.2.2.2.2.2.2 u428_Ni q.2.2.2.2.2.2.1 q.2.2.2.2.2.2.2.1 q.2.2.2.2.2.2.2.2.1 u428_Nf u428_Na u428_Nh q.2.2.2.2.2.2.2.2.2.1 q.2.2.2.2.2.2.2.2.2.2.1 u428_M0 q.2.2.2.2.2.1) [(0, .ref (ad 0)), (4, .int u428_x4), (5, .long q.2.1), (7, .int q.2.2.1), (9, .int q.2.2.2.1), (10, .int u428_x10), (11, .int q.2.2.2.2.1)]) (h1 : q.1 ≠ 0 → (o_At p l e (rm_MM_object d) s m args below meth c Q m_cls D A 12 525 [] (m_cw ad ca ky ty q.2.2.2.2.2.2.2.2.2.2.2 u428_Ni q.2.2.2.2.2.2.1 q.2.2.2.2.2.2.2.1 q.2.2.2.2.2.2.2.2.1 u428_Nf u428_Na u428_Nh q.2.2.2.2.2.2.2.2.2.1 q.2.2.2.2.2.2.2.2.2.2.1 u428_M0 q.2.2.2.2.2.1) [(0, .ref (ad 0)), (4, .int u428_x4), (5, .long q.2.1), (7, .int q.2.2.1), (10, .int u428_x10)])) : o_At p l e (rm_MM_object d) s m args below meth c Q m_cls D A 12 507 [] (m_cw ad ca ky ty rt u428_Ni Np No Nx u428_Nf u428_Na u428_Nh Nq Nj u428_M0 M1) [(0, .ref (ad 0)), (4, .int u428_x4), (5, .long x5), (7, .int x7), (9, .int x9), (10, .int u428_x10), (11, .int x11)] := by
  unfold m_MM_object_j507 at h
  intro H locs ls hP hS hl
  have C0 := C
  obtain ⟨hx, hb, -, -, -, hown, hts, hK, -, -⟩ := C0
  refine lv_aload_n hx hb d_MM_object_507 rfl (lv_at hl 0 rfl) ?_
  refine o_get (v := .ref (ad 48)) C in_MM hP 0 mw_0 rfl 5 (by decide) k_7_235 rfl rfl d_MM_object_508 ?_
  refine o_get (v := .ref (ad 56)) C in_MT hP 48 mw_48 rfl 7 (by decide) k_7_115 rfl rfl d_MM_object_511 ?_
  refine lv_iload hx hb d_MM_object_514 (lv_at hl 6 rfl) ?_
  obtain ⟨g47, h⟩ := o_gd_some h
  refine o_iald (f := (MT_next M1)) C hP 56 53 mw_56 rfl g47 d_MM_object_516 ?_
  refine lv_topi (fun x11_517 ex11_517 => ?_)
  replace h := o_nm_at ex11_517 h
  refine lv_istore (lv' := [(11, .int x11_517), (0, .ref (ad 0)), (4, .int u428_x4), (5, .long x5), (7, .int x7), (9, .int x9), (10, .int u428_x10)]) hx hb d_MM_object_517 hl (by decide) rfl (fun ls hl => ?_)
  obtain ⟨x9_519, ex9_519⟩ : ∃ y : Int32, y = x9 + (1:Int32) := ⟨_, rfl⟩
  replace h := o_nm_at ex9_519 h
  refine lv_iinc (v := x9_519) (lv' := [(9, .int x9_519), (11, .int x11_517), (0, .ref (ad 0)), (4, .int u428_x4), (5, .long x5), (7, .int x7), (10, .int u428_x10)]) hx hb d_MM_object_519 hl (k := 5) rfl (by rw [ex9_519]; rfl) (by decide) rfl (fun ls hl => ?_)
  refine lv_goto (tgt := 428) hx hb d_MM_object_522 (by decide) ?_
  cases h
  exact h0 rfl _ _ _ hP hS (lv_sub hl [2, 3, 4, 5, 0, 6, 1] rfl)
set_option maxHeartbeats 4000000 in
set_option maxRecDepth 100000 in
theorem f_MM_object_b428 {E : (Nat → Prop) → State → Heap → Prop} {p : Program} {l : Launch} {e : Env} {s : State} {m : MethodId} {args : Array Value} {below : List Frame} {meth : Method} {c : Code} {D : va_G} {ad kd sd vd xd : Nat → Nat} {ca : Nat → ClassId} {A : Nat → Prop} {ky ty : Nat → Option Nat} {Q : State → Prop} (hE : o_EK E kd sd vd xd) (hKy : m_KY ky ty sd) (C : o_Cx E p s m args meth c D m_cls (m_tys ca) "SchemaJudgeModel" b_MM_object (some .boolean) 12 cc_MM_object A) (hDD : ∀ (rt : Nat) (Ni : SNI) (Np : SNP) (No : SNO) (Nx : SNX) (Nf : SNF) (Na : SNA) (Nh : SNH) (Nq : SNQ) (Nj : SNJ) (M0 : SMT) (M1 : SMT), va_D A (m_cw ad ca ky ty rt Ni Np No Nx Nf Na Nh Nq Nj M0 M1)) (d : Nat) (rec : Int32 → Int32 → SMT → SMT → SNP → SNO → SNX → SNA → SNQ → SNJ → Nat → Option (Int32 × SMT × SNP × SNO × SNX × SNQ × SNJ × Nat)) (hrec : ∀ (x1 : Int32) (x2 : Int32) (M0 : SMT) (M1 : SMT) (Np : SNP) (No : SNO) (Nx : SNX) (Na : SNA) (Nq : SNQ) (Nj : SNJ) (rt : Nat) (Ni : SNI) (Nf : SNF) (Nh : SNH) (r : Int32 × SMT × SNP × SNO × SNX × SNQ × SNJ × Nat), rec x1 x2 M0 M1 Np No Nx Na Nq Nj rt = some r → o_Cn E l D m_cls (m_tys ca) y_MM_judge cc_MM_judge (rm_MM_judge d) [.ref (ad 0), .int x1, .int x2] (m_cw ad ca ky ty rt Ni Np No Nx Nf Na Nh Nq Nj M0 M1) (m_cw ad ca ky ty r.2.2.2.2.2.2.2 Ni r.2.2.1 r.2.2.2.1 r.2.2.2.2.1 Nf Na Nh r.2.2.2.2.2.1 r.2.2.2.2.2.2.1 M0 r.2.1) (some (.int r.1))) (n : Nat) (u428_x4 : Int32) (u428_x10 : Int32) (u428_M0 : SMT) (u428_Na : SNA) (u428_Ni : SNI) (u428_Nf : SNF) (u428_Nh : SNH) (z : Int64 × Int32 × Int32 × Int32 × SMT × SNP × SNO × SNX × SNQ × SNJ × Nat) (q : Nat × Int64 × Int32 × Int32 × Int32 × SMT × SNP × SNO × SNX × SNQ × SNJ × Nat) (h : m_MM_object_b428 n rec u428_x4 u428_x10 u428_M0 u428_Na z = some q) (h0 : q.1 = 0 → o_At p l e (rm_MM_object d) s m args below meth c Q m_cls D A 12 428 [] (m_cw ad ca ky ty q.2.2.2.2.2.2.2.2.2.2.2 u428_Ni q.2.2.2.2.2.2.1 q.2.2.2.2.2.2.2.1 q.2.2.2.2.2.2.2.2.1 u428_Nf u428_Na u428_Nh q.2.2.2.2.2.2.2.2.2.1 q.2.2.2.2.2.2.2.2.2.2.1 u428_M0 q.2.2.2.2.2.1) [(0, .ref (ad 0)), (4, .int u428_x4), (5, .long q.2.1), (7, .int q.2.2.1), (9, .int q.2.2.2.1), (10, .int u428_x10), (11, .int q.2.2.2.2.1)]) (h1 : q.1 ≠ 0 → (o_At p l e (rm_MM_object d) s m args below meth c Q m_cls D A 12 525 [] (m_cw ad ca ky ty q.2.2.2.2.2.2.2.2.2.2.2 u428_Ni q.2.2.2.2.2.2.1 q.2.2.2.2.2.2.2.1 q.2.2.2.2.2.2.2.2.1 u428_Nf u428_Na u428_Nh q.2.2.2.2.2.2.2.2.2.1 q.2.2.2.2.2.2.2.2.2.2.1 u428_M0 q.2.2.2.2.2.1) [(0, .ref (ad 0)), (4, .int u428_x4), (5, .long q.2.1), (7, .int q.2.2.1), (10, .int u428_x10)])) : o_At p l e (rm_MM_object d) s m args below meth c Q m_cls D A 12 428 [] (m_cw ad ca ky ty z.2.2.2.2.2.2.2.2.2.2 u428_Ni z.2.2.2.2.2.1 z.2.2.2.2.2.2.1 z.2.2.2.2.2.2.2.1 u428_Nf u428_Na u428_Nh z.2.2.2.2.2.2.2.2.1 z.2.2.2.2.2.2.2.2.2.1 u428_M0 z.2.2.2.2.1) [(0, .ref (ad 0)), (4, .int u428_x4), (5, .long z.1), (7, .int z.2.1), (9, .int z.2.2.1), (10, .int u428_x10), (11, .int z.2.2.2.1)] := by
  unfold m_MM_object_b428 at h
  intro H locs ls hP hS hl
  have C0 := C
  obtain ⟨hx, hb, -, -, -, hown, hts, hK, -, -⟩ := C0
  refine lv_iload hx hb d_MM_object_428 (lv_at hl 6 rfl) ?_
  refine lv_if_lt (tgt := 525) hx hb d_MM_object_430 (by decide) (fun c43 => ?_) (fun c43 => ?_)
  · replace h := o_tt c43 h
    cases h
    exact h1 (Nat.succ_ne_zero 0) _ _ _ hP hS (lv_sub hl [0, 1, 2, 3, 5] rfl)
  · replace h := o_ff c43 h
    refine lv_aload_n hx hb d_MM_object_433 rfl (lv_at hl 0 rfl) ?_
    refine o_get (v := .int (NJ_over z.2.2.2.2.2.2.2.2.2.1)) C in_MM hP 0 mw_0 rfl 57 (by decide) k_8_47 rfl rfl d_MM_object_434 ?_
    refine lv_if_ne (tgt := 525) hx hb d_MM_object_437 (by decide) (fun c44 => ?_) (fun c44 => ?_)
    · replace h := o_ff c44 h
      cases h
      exact h1 (Nat.succ_ne_zero 0) _ _ _ hP hS (lv_sub hl [0, 1, 2, 3, 5] rfl)
    · replace h := o_tt c44 h
      refine lv_aload_n hx hb d_MM_object_440 rfl (lv_at hl 0 rfl) ?_
      refine lv_aload_n hx hb d_MM_object_441 rfl (lv_at hl 0 rfl) ?_
      refine o_get (v := .ref (ad 33)) C in_MM hP 0 mw_0 rfl 4 (by decide) k_7_234 rfl rfl d_MM_object_442 ?_
      refine lv_aload_n hx hb d_MM_object_445 rfl (lv_at hl 0 rfl) ?_
      refine o_get (v := .ref (ad 33)) C in_MM hP 0 mw_0 rfl 4 (by decide) k_7_234 rfl rfl d_MM_object_446 ?_
      refine o_get (v := .ref (ad 42)) C in_MT hP 33 mw_33 rfl 8 (by decide) k_7_117 rfl rfl d_MM_object_449 ?_
      refine lv_iload hx hb d_MM_object_452 (lv_at hl 5 rfl) ?_
      obtain ⟨g45, h⟩ := o_gd_some h
      refine o_iald (f := (MT_name u428_M0)) C hP 42 40 mw_42 rfl g45 d_MM_object_454 ?_
      obtain ⟨q11, hq11, h⟩ := o_bd_some h
      refine o_V (st1 := [.int q11.1]) (w1 := (m_cw ad ca ky ty 33 u428_Ni q11.2.1 q11.2.2 z.2.2.2.2.2.2.2.1 u428_Nf u428_Na u428_Nh z.2.2.2.2.2.2.2.2.1 z.2.2.2.2.2.2.2.2.2.1 u428_M0 z.2.2.2.2.1)) hE.1 C (e_MM_isPattern_a hE hKy l n ((MT_name u428_M0) u428_x10.toNatClampNeg) u428_M0 z.2.2.2.2.2.1 z.2.2.2.2.2.2.1 u428_Ni z.2.2.2.2.2.2.2.1 u428_Nf u428_Na u428_Nh z.2.2.2.2.2.2.2.2.1 z.2.2.2.2.2.2.2.2.2.1 z.2.2.2.2.1 z.2.2.2.2.2.2.2.2.2.2 hq11) hP (hDD _ _ _ _ _ _ _ _ _ _ _ _) hS hl.1 rfl mw_0 k_9_54 k_9_56 k_s_85 k_1_12 k_9_57 hv_MM_isPattern rfl rfl ⟨(by dsimp only [rm_MM_object, rm_MM_isPattern]; omega), (by dsimp only [rm_MM_object, rm_MM_isPattern]; omega)⟩ rfl (Nat.le_of_ble_eq_true rfl) ⟨Nat.zero_le _, Nat.zero_le _⟩ rfl d_MM_object_455 (fun H locs hP hS => ?_)
      refine lv_if_eq (tgt := 507) hx hb d_MM_object_458 (by decide) (fun c46 => ?_) (fun c46 => ?_)
      · replace h := o_tt c46 h
        exact f_MM_object_j507 hE hKy C hDD d rec hrec n u428_x4 u428_x10 u428_M0 u428_Na u428_Ni u428_Nf u428_Nh z.1 z.2.1 z.2.2.1 z.2.2.2.1 z.2.2.2.2.1 q11.2.1 q11.2.2 z.2.2.2.2.2.2.2.1 z.2.2.2.2.2.2.2.2.1 z.2.2.2.2.2.2.2.2.2.1 33 h h0 h1 _ _ _ hP hS (lv_sub hl [0, 1, 2, 3, 4, 5, 6] rfl)
      · replace h := o_ff c46 h
        refine lv_aload_n hx hb d_MM_object_461 rfl (lv_at hl 0 rfl) ?_
        refine lv_aload_n hx hb d_MM_object_462 rfl (lv_at hl 0 rfl) ?_
        refine o_get (v := .ref (ad 48)) C in_MM hP 0 mw_0 rfl 5 (by decide) k_7_235 rfl rfl d_MM_object_463 ?_
        refine lv_aload_n hx hb d_MM_object_466 rfl (lv_at hl 0 rfl) ?_
        refine o_get (v := .ref (ad 48)) C in_MM hP 0 mw_0 rfl 5 (by decide) k_7_235 rfl rfl d_MM_object_467 ?_
        refine o_get (v := .ref (ad 57)) C in_MT hP 48 mw_48 rfl 8 (by decide) k_7_117 rfl rfl d_MM_object_470 ?_
        refine lv_iload hx hb d_MM_object_473 (lv_at hl 6 rfl) ?_
        obtain ⟨g48, h⟩ := o_gd_some h
        refine o_iald (f := (MT_name z.2.2.2.2.1)) C hP 57 54 mw_57 rfl g48 d_MM_object_475 ?_
        obtain ⟨q12, hq12, h⟩ := o_bd_some h
        refine o_V (st1 := [.int q12.1]) (w1 := (m_cw ad ca ky ty 33 u428_Ni q11.2.1 q11.2.2 q12.2 u428_Nf u428_Na u428_Nh z.2.2.2.2.2.2.2.2.1 z.2.2.2.2.2.2.2.2.2.1 u428_M0 z.2.2.2.2.1)) hE.1 C (e_MM_matches_b hE hKy l n ((MT_name z.2.2.2.2.1) z.2.2.2.1.toNatClampNeg) z.2.2.2.2.1 q11.2.1 q11.2.2 z.2.2.2.2.2.2.2.1 u428_Ni u428_Nf u428_Na u428_Nh z.2.2.2.2.2.2.2.2.1 z.2.2.2.2.2.2.2.2.2.1 u428_M0 33 hq12) hP (hDD _ _ _ _ _ _ _ _ _ _ _ _) hS hl.1 rfl mw_0 k_10_34 k_10_36 k_s_126 k_1_12 k_10_37 hv_MM_matches rfl rfl ⟨(by dsimp only [rm_MM_object, rm_MM_matches]; omega), (by dsimp only [rm_MM_object, rm_MM_matches]; omega)⟩ rfl (Nat.le_of_ble_eq_true rfl) ⟨Nat.zero_le _, Nat.zero_le _⟩ rfl d_MM_object_476 (fun H locs hP hS => ?_)
        refine lv_if_ne (tgt := 485) hx hb d_MM_object_479 (by decide) (fun c49 => ?_) (fun c49 => ?_)
        · replace h := o_ff c49 h
          refine lv_iload hx hb d_MM_object_485 (lv_at hl 3 rfl) ?_
          refine lv_aload_n hx hb d_MM_object_487 rfl (lv_at hl 0 rfl) ?_
          refine lv_iload hx hb d_MM_object_488 (lv_at hl 5 rfl) ?_
          refine lv_iload hx hb d_MM_object_490 (lv_at hl 6 rfl) ?_
          obtain ⟨q13, hq13, h⟩ := o_bd_some h
          refine o_V (st1 := [.int q13.1, .int z.2.1]) (w1 := (m_cw ad ca ky ty q13.2.2.2.2.2.2.2 u428_Ni q13.2.2.1 q13.2.2.2.1 q13.2.2.2.2.1 u428_Nf u428_Na u428_Nh q13.2.2.2.2.2.1 q13.2.2.2.2.2.2.1 u428_M0 q13.2.1)) hE.1 C (hrec u428_x10 z.2.2.2.1 u428_M0 z.2.2.2.2.1 q11.2.1 q11.2.2 q12.2 u428_Na z.2.2.2.2.2.2.2.2.1 z.2.2.2.2.2.2.2.2.2.1 33 u428_Ni u428_Nf u428_Nh _ hq13) hP (hDD _ _ _ _ _ _ _ _ _ _ _ _) hS hl.1 rfl mw_0 k_9_210 k_9_212 k_s_116 k_1_12 k_9_213 hv_MM_judge rfl rfl ⟨(by dsimp only [rm_MM_object, rm_MM_judge]; omega), (by dsimp only [rm_MM_object, rm_MM_judge]; omega)⟩ rfl (Nat.le_of_ble_eq_true rfl) ⟨Nat.zero_le _, Nat.zero_le _⟩ rfl d_MM_object_492 (fun H locs hP hS => ?_)
          refine lv_iand hx hb d_MM_object_495 ?_
          refine lv_topi (fun x7_496 ex7_496 => ?_)
          replace h := o_nm_at ex7_496 h
          refine lv_istore (lv' := [(7, .int x7_496), (0, .ref (ad 0)), (4, .int u428_x4), (5, .long z.1), (9, .int z.2.2.1), (10, .int u428_x10), (11, .int z.2.2.2.1)]) hx hb d_MM_object_496 hl (by decide) rfl (fun ls hl => ?_)
          refine lv_lload hx hb d_MM_object_498 (lv_at hl 3 rfl) ?_
          refine lv_lconst (v := (1:Int64)) hx hb d_MM_object_500 (by decide) ?_
          refine lv_iload hx hb d_MM_object_501 (lv_at hl 4 rfl) ?_
          refine lv_lshl hx hb d_MM_object_503 rfl ?_
          refine lv_lor hx hb d_MM_object_504 ?_
          refine lv_topl (fun x5_505 ex5_505 => ?_)
          replace h := o_nm_at ex5_505 h
          refine lv_lstore (lv' := [(5, .long x5_505), (7, .int x7_496), (0, .ref (ad 0)), (4, .int u428_x4), (9, .int z.2.2.1), (10, .int u428_x10), (11, .int z.2.2.2.1)]) hx hb d_MM_object_505 hl (by decide) rfl (fun ls hl => ?_)
          exact f_MM_object_j507 hE hKy C hDD d rec hrec n u428_x4 u428_x10 u428_M0 u428_Na u428_Ni u428_Nf u428_Nh x5_505 x7_496 z.2.2.1 z.2.2.2.1 q13.2.1 q13.2.2.1 q13.2.2.2.1 q13.2.2.2.2.1 q13.2.2.2.2.2.1 q13.2.2.2.2.2.2.1 q13.2.2.2.2.2.2.2 h h0 h1 _ _ _ hP hS (lv_sub hl [2, 3, 0, 1, 4, 5, 6] rfl)
        · replace h := o_tt c49 h
          refine lv_goto (tgt := 507) hx hb d_MM_object_482 (by decide) ?_
          exact f_MM_object_j507 hE hKy C hDD d rec hrec n u428_x4 u428_x10 u428_M0 u428_Na u428_Ni u428_Nf u428_Nh z.1 z.2.1 z.2.2.1 z.2.2.2.1 z.2.2.2.2.1 q11.2.1 q11.2.2 q12.2 z.2.2.2.2.2.2.2.2.1 z.2.2.2.2.2.2.2.2.2.1 33 h h0 h1 _ _ _ hP hS (lv_sub hl [0, 1, 2, 3, 4, 5, 6] rfl)
set_option maxHeartbeats 4000000 in
set_option maxRecDepth 100000 in
theorem f_MM_object_j525 {E : (Nat → Prop) → State → Heap → Prop} {p : Program} {l : Launch} {e : Env} {s : State} {m : MethodId} {args : Array Value} {below : List Frame} {meth : Method} {c : Code} {D : va_G} {ad kd sd vd xd : Nat → Nat} {ca : Nat → ClassId} {A : Nat → Prop} {ky ty : Nat → Option Nat} {Q : State → Prop} (hE : o_EK E kd sd vd xd) (hKy : m_KY ky ty sd) (C : o_Cx E p s m args meth c D m_cls (m_tys ca) "SchemaJudgeModel" b_MM_object (some .boolean) 12 cc_MM_object A) (hDD : ∀ (rt : Nat) (Ni : SNI) (Np : SNP) (No : SNO) (Nx : SNX) (Nf : SNF) (Na : SNA) (Nh : SNH) (Nq : SNQ) (Nj : SNJ) (M0 : SMT) (M1 : SMT), va_D A (m_cw ad ca ky ty rt Ni Np No Nx Nf Na Nh Nq Nj M0 M1)) (d : Nat) (rec : Int32 → Int32 → SMT → SMT → SNP → SNO → SNX → SNA → SNQ → SNJ → Nat → Option (Int32 × SMT × SNP × SNO × SNX × SNQ × SNJ × Nat)) (hrec : ∀ (x1 : Int32) (x2 : Int32) (M0 : SMT) (M1 : SMT) (Np : SNP) (No : SNO) (Nx : SNX) (Na : SNA) (Nq : SNQ) (Nj : SNJ) (rt : Nat) (Ni : SNI) (Nf : SNF) (Nh : SNH) (r : Int32 × SMT × SNP × SNO × SNX × SNQ × SNJ × Nat), rec x1 x2 M0 M1 Np No Nx Na Nq Nj rt = some r → o_Cn E l D m_cls (m_tys ca) y_MM_judge cc_MM_judge (rm_MM_judge d) [.ref (ad 0), .int x1, .int x2] (m_cw ad ca ky ty rt Ni Np No Nx Nf Na Nh Nq Nj M0 M1) (m_cw ad ca ky ty r.2.2.2.2.2.2.2 Ni r.2.2.1 r.2.2.2.1 r.2.2.2.2.1 Nf Na Nh r.2.2.2.2.2.1 r.2.2.2.2.2.2.1 M0 r.2.1) (some (.int r.1))) (n : Nat) (u401_x4 : Int32) (u401_M0 : SMT) (u401_Na : SNA) (u401_Ni : SNI) (u401_Nf : SNF) (u401_Nh : SNH) (x5 : Int64) (x7 : Int32) (x10 : Int32) (M1 : SMT) (Np : SNP) (No : SNO) (Nx : SNX) (Nq : SNQ) (Nj : SNJ) (rt : Nat) {q : Nat × Int64 × Int32 × Int32 × SMT × SNP × SNO × SNX × SNQ × SNJ × Nat} (h : m_MM_object_j525 n rec u401_x4 x5 x7 x10 u401_M0 M1 Np No Nx u401_Na Nq Nj rt = some q) (h0 : q.1 = 0 → o_At p l e (rm_MM_object d) s m args below meth c Q m_cls D A 12 401 [] (m_cw ad ca ky ty q.2.2.2.2.2.2.2.2.2.2 u401_Ni q.2.2.2.2.2.1 q.2.2.2.2.2.2.1 q.2.2.2.2.2.2.2.1 u401_Nf u401_Na u401_Nh q.2.2.2.2.2.2.2.2.1 q.2.2.2.2.2.2.2.2.2.1 u401_M0 q.2.2.2.2.1) [(0, .ref (ad 0)), (4, .int u401_x4), (5, .long q.2.1), (7, .int q.2.2.1), (10, .int q.2.2.2.1)]) (h1 : q.1 ≠ 0 → (o_At p l e (rm_MM_object d) s m args below meth c Q m_cls D A 12 540 [] (m_cw ad ca ky ty q.2.2.2.2.2.2.2.2.2.2 u401_Ni q.2.2.2.2.2.1 q.2.2.2.2.2.2.1 q.2.2.2.2.2.2.2.1 u401_Nf u401_Na u401_Nh q.2.2.2.2.2.2.2.2.1 q.2.2.2.2.2.2.2.2.2.1 u401_M0 q.2.2.2.2.1) [(0, .ref (ad 0)), (5, .long q.2.1), (7, .int q.2.2.1)])) : o_At p l e (rm_MM_object d) s m args below meth c Q m_cls D A 12 525 [] (m_cw ad ca ky ty rt u401_Ni Np No Nx u401_Nf u401_Na u401_Nh Nq Nj u401_M0 M1) [(0, .ref (ad 0)), (4, .int u401_x4), (5, .long x5), (7, .int x7), (10, .int x10)] := by
  unfold m_MM_object_j525 at h
  intro H locs ls hP hS hl
  have C0 := C
  obtain ⟨hx, hb, -, -, -, hown, hts, hK, -, -⟩ := C0
  refine lv_aload_n hx hb d_MM_object_525 rfl (lv_at hl 0 rfl) ?_
  refine o_get (v := .ref (ad 33)) C in_MM hP 0 mw_0 rfl 4 (by decide) k_7_234 rfl rfl d_MM_object_526 ?_
  refine o_get (v := .ref (ad 41)) C in_MT hP 33 mw_33 rfl 7 (by decide) k_7_115 rfl rfl d_MM_object_529 ?_
  refine lv_iload hx hb d_MM_object_532 (lv_at hl 4 rfl) ?_
  obtain ⟨g50, h⟩ := o_gd_some h
  refine o_iald (f := (MT_next u401_M0)) C hP 41 39 mw_41 rfl g50 d_MM_object_534 ?_
  refine lv_topi (fun x10_535 ex10_535 => ?_)
  replace h := o_nm_at ex10_535 h
  refine lv_istore (lv' := [(10, .int x10_535), (0, .ref (ad 0)), (4, .int u401_x4), (5, .long x5), (7, .int x7)]) hx hb d_MM_object_535 hl (by decide) rfl (fun ls hl => ?_)
  refine lv_goto (tgt := 401) hx hb d_MM_object_537 (by decide) ?_
  cases h
  exact h0 rfl _ _ _ hP hS (lv_sub hl [1, 2, 3, 4, 0] rfl)
set_option maxHeartbeats 4000000 in
set_option maxRecDepth 100000 in
theorem f_MM_object_b401 {E : (Nat → Prop) → State → Heap → Prop} {p : Program} {l : Launch} {e : Env} {s : State} {m : MethodId} {args : Array Value} {below : List Frame} {meth : Method} {c : Code} {D : va_G} {ad kd sd vd xd : Nat → Nat} {ca : Nat → ClassId} {A : Nat → Prop} {ky ty : Nat → Option Nat} {Q : State → Prop} (hE : o_EK E kd sd vd xd) (hKy : m_KY ky ty sd) (C : o_Cx E p s m args meth c D m_cls (m_tys ca) "SchemaJudgeModel" b_MM_object (some .boolean) 12 cc_MM_object A) (hDD : ∀ (rt : Nat) (Ni : SNI) (Np : SNP) (No : SNO) (Nx : SNX) (Nf : SNF) (Na : SNA) (Nh : SNH) (Nq : SNQ) (Nj : SNJ) (M0 : SMT) (M1 : SMT), va_D A (m_cw ad ca ky ty rt Ni Np No Nx Nf Na Nh Nq Nj M0 M1)) (d : Nat) (rec : Int32 → Int32 → SMT → SMT → SNP → SNO → SNX → SNA → SNQ → SNJ → Nat → Option (Int32 × SMT × SNP × SNO × SNX × SNQ × SNJ × Nat)) (hrec : ∀ (x1 : Int32) (x2 : Int32) (M0 : SMT) (M1 : SMT) (Np : SNP) (No : SNO) (Nx : SNX) (Na : SNA) (Nq : SNQ) (Nj : SNJ) (rt : Nat) (Ni : SNI) (Nf : SNF) (Nh : SNH) (r : Int32 × SMT × SNP × SNO × SNX × SNQ × SNJ × Nat), rec x1 x2 M0 M1 Np No Nx Na Nq Nj rt = some r → o_Cn E l D m_cls (m_tys ca) y_MM_judge cc_MM_judge (rm_MM_judge d) [.ref (ad 0), .int x1, .int x2] (m_cw ad ca ky ty rt Ni Np No Nx Nf Na Nh Nq Nj M0 M1) (m_cw ad ca ky ty r.2.2.2.2.2.2.2 Ni r.2.2.1 r.2.2.2.1 r.2.2.2.2.1 Nf Na Nh r.2.2.2.2.2.1 r.2.2.2.2.2.2.1 M0 r.2.1) (some (.int r.1))) (n : Nat) (u401_x4 : Int32) (u401_M0 : SMT) (u401_Na : SNA) (u401_Ni : SNI) (u401_Nf : SNF) (u401_Nh : SNH) (z : Int64 × Int32 × Int32 × SMT × SNP × SNO × SNX × SNQ × SNJ × Nat) (q : Nat × Int64 × Int32 × Int32 × SMT × SNP × SNO × SNX × SNQ × SNJ × Nat) (h : m_MM_object_b401 n rec u401_x4 u401_M0 u401_Na z = some q) (h0 : q.1 = 0 → o_At p l e (rm_MM_object d) s m args below meth c Q m_cls D A 12 401 [] (m_cw ad ca ky ty q.2.2.2.2.2.2.2.2.2.2 u401_Ni q.2.2.2.2.2.1 q.2.2.2.2.2.2.1 q.2.2.2.2.2.2.2.1 u401_Nf u401_Na u401_Nh q.2.2.2.2.2.2.2.2.1 q.2.2.2.2.2.2.2.2.2.1 u401_M0 q.2.2.2.2.1) [(0, .ref (ad 0)), (4, .int u401_x4), (5, .long q.2.1), (7, .int q.2.2.1), (10, .int q.2.2.2.1)]) (h1 : q.1 ≠ 0 → (o_At p l e (rm_MM_object d) s m args below meth c Q m_cls D A 12 540 [] (m_cw ad ca ky ty q.2.2.2.2.2.2.2.2.2.2 u401_Ni q.2.2.2.2.2.1 q.2.2.2.2.2.2.1 q.2.2.2.2.2.2.2.1 u401_Nf u401_Na u401_Nh q.2.2.2.2.2.2.2.2.1 q.2.2.2.2.2.2.2.2.2.1 u401_M0 q.2.2.2.2.1) [(0, .ref (ad 0)), (5, .long q.2.1), (7, .int q.2.2.1)])) : o_At p l e (rm_MM_object d) s m args below meth c Q m_cls D A 12 401 [] (m_cw ad ca ky ty z.2.2.2.2.2.2.2.2.2 u401_Ni z.2.2.2.2.1 z.2.2.2.2.2.1 z.2.2.2.2.2.2.1 u401_Nf u401_Na u401_Nh z.2.2.2.2.2.2.2.1 z.2.2.2.2.2.2.2.2.1 u401_M0 z.2.2.2.1) [(0, .ref (ad 0)), (4, .int u401_x4), (5, .long z.1), (7, .int z.2.1), (10, .int z.2.2.1)] := by
  unfold m_MM_object_b401 at h
  intro H locs ls hP hS hl
  have C0 := C
  obtain ⟨hx, hb, -, -, -, hown, hts, hK, -, -⟩ := C0
  refine lv_iload hx hb d_MM_object_401 (lv_at hl 4 rfl) ?_
  refine lv_if_lt (tgt := 540) hx hb d_MM_object_403 (by decide) (fun c40 => ?_) (fun c40 => ?_)
  · replace h := o_tt c40 h
    cases h
    exact h1 (Nat.succ_ne_zero 0) _ _ _ hP hS (lv_sub hl [0, 2, 3] rfl)
  · replace h := o_ff c40 h
    refine lv_aload_n hx hb d_MM_object_406 rfl (lv_at hl 0 rfl) ?_
    refine o_get (v := .int (NJ_over z.2.2.2.2.2.2.2.2.1)) C in_MM hP 0 mw_0 rfl 57 (by decide) k_8_47 rfl rfl d_MM_object_407 ?_
    refine lv_if_ne (tgt := 540) hx hb d_MM_object_410 (by decide) (fun c41 => ?_) (fun c41 => ?_)
    · replace h := o_ff c41 h
      cases h
      exact h1 (Nat.succ_ne_zero 0) _ _ _ hP hS (lv_sub hl [0, 2, 3] rfl)
    · replace h := o_tt c41 h
      refine lv_iconst (v := (0:Int32)) hx hb d_MM_object_413 (by decide) ?_
      refine lv_istore (lv' := [(9, .int (0:Int32)), (0, .ref (ad 0)), (4, .int u401_x4), (5, .long z.1), (7, .int z.2.1), (10, .int z.2.2.1)]) hx hb d_MM_object_414 hl (by decide) rfl (fun ls hl => ?_)
      refine lv_aload_n hx hb d_MM_object_416 rfl (lv_at hl 1 rfl) ?_
      refine o_get (v := .ref (ad 48)) C in_MM hP 0 mw_0 rfl 5 (by decide) k_7_235 rfl rfl d_MM_object_417 ?_
      refine o_get (v := .ref (ad 55)) C in_MT hP 48 mw_48 rfl 6 (by decide) k_7_113 rfl rfl d_MM_object_420 ?_
      refine lv_iload hx hb d_MM_object_423 (lv_at hl 2 rfl) ?_
      obtain ⟨g42, h⟩ := o_gd_some h
      refine o_iald (f := (MT_first z.2.2.2.1)) C hP 55 52 mw_55 rfl g42 d_MM_object_425 ?_
      refine lv_topi (fun x11_426 ex11_426 => ?_)
      replace h := o_nm_at ex11_426 h
      refine lv_istore (lv' := [(11, .int x11_426), (9, .int (0:Int32)), (0, .ref (ad 0)), (4, .int u401_x4), (5, .long z.1), (7, .int z.2.1), (10, .int z.2.2.1)]) hx hb d_MM_object_426 hl (by decide) rfl (fun ls hl => ?_)
      obtain ⟨q14, hq14, h⟩ := o_bd_some h
      refine o_sim2 (AH := fun zz => o_At p l e (rm_MM_object d) s m args below meth c _ m_cls D A 12 428 [] (m_cw ad ca ky ty zz.2.2.2.2.2.2.2.2.2.2 u401_Ni zz.2.2.2.2.2.1 zz.2.2.2.2.2.2.1 zz.2.2.2.2.2.2.2.1 u401_Nf u401_Na u401_Nh zz.2.2.2.2.2.2.2.2.1 zz.2.2.2.2.2.2.2.2.2.1 u401_M0 zz.2.2.2.2.1) [(0, .ref (ad 0)), (4, .int u401_x4), (5, .long zz.1), (7, .int zz.2.1), (9, .int zz.2.2.1), (10, .int z.2.2.1), (11, .int zz.2.2.2.1)]) (AX := fun qq => o_At p l e (rm_MM_object d) s m args below meth c _ m_cls D A 12 525 [] (m_cw ad ca ky ty qq.2.2.2.2.2.2.2.2.2.2.2 u401_Ni qq.2.2.2.2.2.2.1 qq.2.2.2.2.2.2.2.1 qq.2.2.2.2.2.2.2.2.1 u401_Nf u401_Na u401_Nh qq.2.2.2.2.2.2.2.2.2.1 qq.2.2.2.2.2.2.2.2.2.2.1 u401_M0 qq.2.2.2.2.2.1) [(0, .ref (ad 0)), (4, .int u401_x4), (5, .long qq.2.1), (7, .int qq.2.2.1), (10, .int z.2.2.1)]) (fun zz qq h h0 h1 => f_MM_object_b428 hE hKy C hDD d rec hrec n u401_x4 z.2.2.1 u401_M0 u401_Na u401_Ni u401_Nf u401_Nh zz qq h h0 h1) n _ q14 hq14 ?_ _ _ _ hP hS (lv_sub hl [2, 3, 4, 5, 1, 6, 0] rfl)
      intro H locs ls hP hS hl
      exact f_MM_object_j525 hE hKy C hDD d rec hrec n u401_x4 u401_M0 u401_Na u401_Ni u401_Nf u401_Nh q14.2.1 q14.2.2.1 z.2.2.1 q14.2.2.2.2.2.1 q14.2.2.2.2.2.2.1 q14.2.2.2.2.2.2.2.1 q14.2.2.2.2.2.2.2.2.1 q14.2.2.2.2.2.2.2.2.2.1 q14.2.2.2.2.2.2.2.2.2.2.1 q14.2.2.2.2.2.2.2.2.2.2.2 h h0 h1 _ _ _ hP hS (lv_sub hl [0, 1, 2, 3, 4] rfl)
set_option maxHeartbeats 4000000 in
set_option maxRecDepth 100000 in
theorem f_MM_object_j271 {E : (Nat → Prop) → State → Heap → Prop} {p : Program} {l : Launch} {e : Env} {s : State} {m : MethodId} {args : Array Value} {below : List Frame} {meth : Method} {c : Code} {D : va_G} {ad kd sd vd xd : Nat → Nat} {ca : Nat → ClassId} {A : Nat → Prop} {ky ty : Nat → Option Nat} {Q : State → Prop} (hE : o_EK E kd sd vd xd) (hKy : m_KY ky ty sd) (C : o_Cx E p s m args meth c D m_cls (m_tys ca) "SchemaJudgeModel" b_MM_object (some .boolean) 12 cc_MM_object A) (hDD : ∀ (rt : Nat) (Ni : SNI) (Np : SNP) (No : SNO) (Nx : SNX) (Nf : SNF) (Na : SNA) (Nh : SNH) (Nq : SNQ) (Nj : SNJ) (M0 : SMT) (M1 : SMT), va_D A (m_cw ad ca ky ty rt Ni Np No Nx Nf Na Nh Nq Nj M0 M1)) (d : Nat) (rec : Int32 → Int32 → SMT → SMT → SNP → SNO → SNX → SNA → SNQ → SNJ → Nat → Option (Int32 × SMT × SNP × SNO × SNX × SNQ × SNJ × Nat)) (hrec : ∀ (x1 : Int32) (x2 : Int32) (M0 : SMT) (M1 : SMT) (Np : SNP) (No : SNO) (Nx : SNX) (Na : SNA) (Nq : SNQ) (Nj : SNJ) (rt : Nat) (Ni : SNI) (Nf : SNF) (Nh : SNH) (r : Int32 × SMT × SNP × SNO × SNX × SNQ × SNJ × Nat), rec x1 x2 M0 M1 Np No Nx Na Nq Nj rt = some r → o_Cn E l D m_cls (m_tys ca) y_MM_judge cc_MM_judge (rm_MM_judge d) [.ref (ad 0), .int x1, .int x2] (m_cw ad ca ky ty rt Ni Np No Nx Nf Na Nh Nq Nj M0 M1) (m_cw ad ca ky ty r.2.2.2.2.2.2.2 Ni r.2.2.1 r.2.2.2.1 r.2.2.2.2.1 Nf Na Nh r.2.2.2.2.2.1 r.2.2.2.2.2.2.1 M0 r.2.1) (some (.int r.1))) (n : Nat) (u227_x4 : Int32) (u227_M0 : SMT) (u227_M1 : SMT) (u227_Np : SNP) (u227_No : SNO) (u227_Nx : SNX) (u227_Na : SNA) (u227_Nq : SNQ) (u227_Nj : SNJ) (u227_rt : Nat) (u227_Ni : SNI) (u227_Nf : SNF) (u227_Nh : SNH) (x10 : Int32) {q : Nat × Int32} (h : m_MM_object_j271 n rec u227_x4 x10 u227_M0 u227_M1 u227_Np u227_No u227_Nx u227_Na u227_Nq u227_Nj u227_rt = some q) (h0 : q.1 = 0 → o_At p l e (rm_MM_object d) s m args below meth c Q m_cls D A 12 227 [] (m_cw ad ca ky ty u227_rt u227_Ni u227_Np u227_No u227_Nx u227_Nf u227_Na u227_Nh u227_Nq u227_Nj u227_M0 u227_M1) [(0, .ref (ad 0)), (4, .int u227_x4), (10, .int q.2)]) (h1 : q.1 ≠ 0 → (if q.1 = 1 then o_At p l e (rm_MM_object d) s m args below meth c Q m_cls D A 12 269 [] (m_cw ad ca ky ty u227_rt u227_Ni u227_Np u227_No u227_Nx u227_Nf u227_Na u227_Nh u227_Nq u227_Nj u227_M0 u227_M1) [] else o_At p l e (rm_MM_object d) s m args below meth c Q m_cls D A 12 286 [] (m_cw ad ca ky ty u227_rt u227_Ni u227_Np u227_No u227_Nx u227_Nf u227_Na u227_Nh u227_Nq u227_Nj u227_M0 u227_M1) [])) : o_At p l e (rm_MM_object d) s m args below meth c Q m_cls D A 12 271 [] (m_cw ad ca ky ty u227_rt u227_Ni u227_Np u227_No u227_Nx u227_Nf u227_Na u227_Nh u227_Nq u227_Nj u227_M0 u227_M1) [(0, .ref (ad 0)), (4, .int u227_x4), (10, .int x10)] := by
  unfold m_MM_object_j271 at h
  intro H locs ls hP hS hl
  have C0 := C
  obtain ⟨hx, hb, -, -, -, hown, hts, hK, -, -⟩ := C0
  refine lv_aload_n hx hb d_MM_object_271 rfl (lv_at hl 0 rfl) ?_
  refine o_get (v := .ref (ad 33)) C in_MM hP 0 mw_0 rfl 4 (by decide) k_7_234 rfl rfl d_MM_object_272 ?_
  refine o_get (v := .ref (ad 41)) C in_MT hP 33 mw_33 rfl 7 (by decide) k_7_115 rfl rfl d_MM_object_275 ?_
  refine lv_iload hx hb d_MM_object_278 (lv_at hl 2 rfl) ?_
  obtain ⟨g82, h⟩ := o_gd_some h
  refine o_iald (f := (MT_next u227_M0)) C hP 41 39 mw_41 rfl g82 d_MM_object_280 ?_
  refine lv_topi (fun x10_281 ex10_281 => ?_)
  replace h := o_nm_at ex10_281 h
  refine lv_istore (lv' := [(10, .int x10_281), (0, .ref (ad 0)), (4, .int u227_x4)]) hx hb d_MM_object_281 hl (by decide) rfl (fun ls hl => ?_)
  refine lv_goto (tgt := 227) hx hb d_MM_object_283 (by decide) ?_
  cases h
  exact h0 rfl _ _ _ hP hS (lv_sub hl [1, 2, 0] rfl)
set_option maxHeartbeats 4000000 in
set_option maxRecDepth 100000 in
theorem f_MM_object_b227 {E : (Nat → Prop) → State → Heap → Prop} {p : Program} {l : Launch} {e : Env} {s : State} {m : MethodId} {args : Array Value} {below : List Frame} {meth : Method} {c : Code} {D : va_G} {ad kd sd vd xd : Nat → Nat} {ca : Nat → ClassId} {A : Nat → Prop} {ky ty : Nat → Option Nat} {Q : State → Prop} (hE : o_EK E kd sd vd xd) (hKy : m_KY ky ty sd) (C : o_Cx E p s m args meth c D m_cls (m_tys ca) "SchemaJudgeModel" b_MM_object (some .boolean) 12 cc_MM_object A) (hDD : ∀ (rt : Nat) (Ni : SNI) (Np : SNP) (No : SNO) (Nx : SNX) (Nf : SNF) (Na : SNA) (Nh : SNH) (Nq : SNQ) (Nj : SNJ) (M0 : SMT) (M1 : SMT), va_D A (m_cw ad ca ky ty rt Ni Np No Nx Nf Na Nh Nq Nj M0 M1)) (d : Nat) (rec : Int32 → Int32 → SMT → SMT → SNP → SNO → SNX → SNA → SNQ → SNJ → Nat → Option (Int32 × SMT × SNP × SNO × SNX × SNQ × SNJ × Nat)) (hrec : ∀ (x1 : Int32) (x2 : Int32) (M0 : SMT) (M1 : SMT) (Np : SNP) (No : SNO) (Nx : SNX) (Na : SNA) (Nq : SNQ) (Nj : SNJ) (rt : Nat) (Ni : SNI) (Nf : SNF) (Nh : SNH) (r : Int32 × SMT × SNP × SNO × SNX × SNQ × SNJ × Nat), rec x1 x2 M0 M1 Np No Nx Na Nq Nj rt = some r → o_Cn E l D m_cls (m_tys ca) y_MM_judge cc_MM_judge (rm_MM_judge d) [.ref (ad 0), .int x1, .int x2] (m_cw ad ca ky ty rt Ni Np No Nx Nf Na Nh Nq Nj M0 M1) (m_cw ad ca ky ty r.2.2.2.2.2.2.2 Ni r.2.2.1 r.2.2.2.1 r.2.2.2.2.1 Nf Na Nh r.2.2.2.2.2.1 r.2.2.2.2.2.2.1 M0 r.2.1) (some (.int r.1))) (n : Nat) (u227_x4 : Int32) (u227_M0 : SMT) (u227_M1 : SMT) (u227_Np : SNP) (u227_No : SNO) (u227_Nx : SNX) (u227_Na : SNA) (u227_Nq : SNQ) (u227_Nj : SNJ) (u227_rt : Nat) (u227_Ni : SNI) (u227_Nf : SNF) (u227_Nh : SNH) (z : Int32) (q : Nat × Int32) (h : m_MM_object_b227 n rec u227_x4 u227_M0 u227_M1 u227_Np u227_No u227_Nx u227_Na u227_Nq u227_Nj u227_rt z = some q) (h0 : q.1 = 0 → o_At p l e (rm_MM_object d) s m args below meth c Q m_cls D A 12 227 [] (m_cw ad ca ky ty u227_rt u227_Ni u227_Np u227_No u227_Nx u227_Nf u227_Na u227_Nh u227_Nq u227_Nj u227_M0 u227_M1) [(0, .ref (ad 0)), (4, .int u227_x4), (10, .int q.2)]) (h1 : q.1 ≠ 0 → (if q.1 = 1 then o_At p l e (rm_MM_object d) s m args below meth c Q m_cls D A 12 269 [] (m_cw ad ca ky ty u227_rt u227_Ni u227_Np u227_No u227_Nx u227_Nf u227_Na u227_Nh u227_Nq u227_Nj u227_M0 u227_M1) [] else o_At p l e (rm_MM_object d) s m args below meth c Q m_cls D A 12 286 [] (m_cw ad ca ky ty u227_rt u227_Ni u227_Np u227_No u227_Nx u227_Nf u227_Na u227_Nh u227_Nq u227_Nj u227_M0 u227_M1) [])) : o_At p l e (rm_MM_object d) s m args below meth c Q m_cls D A 12 227 [] (m_cw ad ca ky ty u227_rt u227_Ni u227_Np u227_No u227_Nx u227_Nf u227_Na u227_Nh u227_Nq u227_Nj u227_M0 u227_M1) [(0, .ref (ad 0)), (4, .int u227_x4), (10, .int z)] := by
  unfold m_MM_object_b227 at h
  intro H locs ls hP hS hl
  have C0 := C
  obtain ⟨hx, hb, -, -, -, hown, hts, hK, -, -⟩ := C0
  refine lv_iload hx hb d_MM_object_227 (lv_at hl 2 rfl) ?_
  refine lv_if_lt (tgt := 286) hx hb d_MM_object_229 (by decide) (fun c79 => ?_) (fun c79 => ?_)
  · replace h := o_tt c79 h
    cases h
    exact h1 (Nat.succ_ne_zero 1) _ _ _ hP hS (lv_sub hl [] rfl)
  · replace h := o_ff c79 h
    refine lv_aload_n hx hb d_MM_object_232 rfl (lv_at hl 0 rfl) ?_
    refine o_get (v := .ref (ad 48)) C in_MM hP 0 mw_0 rfl 5 (by decide) k_7_235 rfl rfl d_MM_object_233 ?_
    refine lv_iload hx hb d_MM_object_236 (lv_at hl 1 rfl) ?_
    refine lv_aload_n hx hb d_MM_object_238 rfl (lv_at hl 0 rfl) ?_
    refine o_get (v := .ref (ad 33)) C in_MM hP 0 mw_0 rfl 4 (by decide) k_7_234 rfl rfl d_MM_object_239 ?_
    refine lv_aload_n hx hb d_MM_object_242 rfl (lv_at hl 0 rfl) ?_
    refine o_get (v := .ref (ad 33)) C in_MM hP 0 mw_0 rfl 4 (by decide) k_7_234 rfl rfl d_MM_object_243 ?_
    refine o_get (v := .ref (ad 42)) C in_MT hP 33 mw_33 rfl 8 (by decide) k_7_117 rfl rfl d_MM_object_246 ?_
    refine lv_iload hx hb d_MM_object_249 (lv_at hl 2 rfl) ?_
    obtain ⟨g80, h⟩ := o_gd_some h
    refine o_iald (f := (MT_name u227_M0)) C hP 42 40 mw_42 rfl g80 d_MM_object_251 ?_
    obtain ⟨q19, hq19, h⟩ := o_bd_some h
    refine o_V (st1 := [.int q19]) (w1 := (m_cw ad ca ky ty u227_rt u227_Ni u227_Np u227_No u227_Nx u227_Nf u227_Na u227_Nh u227_Nq u227_Nj u227_M0 u227_M1)) hE.1 C (e_MT_member_1_ba hE hKy l n u227_x4 ((MT_name u227_M0) z.toNatClampNeg) u227_M1 u227_M0 u227_Ni u227_Np u227_No u227_Nx u227_Nf u227_Na u227_Nh u227_Nq u227_Nj u227_rt hq19) hP (hDD _ _ _ _ _ _ _ _ _ _ _ _) hS hl.1 rfl mw_48 k_9_239 k_10_0 k_10_1 k_1_13 k_10_2 hv_MT_member_1 rfl rfl ⟨(by dsimp only [rm_MM_object, rm_MT_member_1]; omega), (by dsimp only [rm_MM_object, rm_MT_member_1]; omega)⟩ rfl (Nat.le_of_ble_eq_true rfl) ⟨Nat.zero_le _, Nat.zero_le _⟩ rfl d_MM_object_252 (fun H locs hP hS => ?_)
    refine lv_if_lt (tgt := 271) hx hb d_MM_object_255 (by decide) (fun c81 => ?_) (fun c81 => ?_)
    · replace h := o_tt c81 h
      exact f_MM_object_j271 hE hKy C hDD d rec hrec n u227_x4 u227_M0 u227_M1 u227_Np u227_No u227_Nx u227_Na u227_Nq u227_Nj u227_rt u227_Ni u227_Nf u227_Nh z h h0 h1 _ _ _ hP hS (lv_sub hl [0, 1, 2] rfl)
    · replace h := o_ff c81 h
      refine lv_aload_n hx hb d_MM_object_258 rfl (lv_at hl 0 rfl) ?_
      refine lv_iload hx hb d_MM_object_259 (lv_at hl 2 rfl) ?_
      refine lv_iload hx hb d_MM_object_261 (lv_at hl 1 rfl) ?_
      obtain ⟨q20, hq20, h⟩ := o_bd_some h
      refine o_V (st1 := [.int q20]) (w1 := (m_cw ad ca ky ty u227_rt u227_Ni u227_Np u227_No u227_Nx u227_Nf u227_Na u227_Nh u227_Nq u227_Nj u227_M0 u227_M1)) hE.1 C (e_MM_requires hE hKy l n z u227_x4 u227_M0 u227_M1 u227_Ni u227_Np u227_No u227_Nx u227_Nf u227_Na u227_Nh u227_Nq u227_Nj u227_rt hq20) hP (hDD _ _ _ _ _ _ _ _ _ _ _ _) hS hl.1 rfl mw_0 k_10_60 k_10_62 k_s_132 k_1_12 k_10_63 hv_MM_requires rfl rfl ⟨(by dsimp only [rm_MM_object, rm_MM_requires]; omega), (by dsimp only [rm_MM_object, rm_MM_requires]; omega)⟩ rfl (Nat.le_of_ble_eq_true rfl) ⟨Nat.zero_le _, Nat.zero_le _⟩ rfl d_MM_object_263 (fun H locs hP hS => ?_)
      refine lv_if_ne (tgt := 271) hx hb d_MM_object_266 (by decide) (fun c83 => ?_) (fun c83 => ?_)
      · replace h := o_ff c83 h
        exact f_MM_object_j271 hE hKy C hDD d rec hrec n u227_x4 u227_M0 u227_M1 u227_Np u227_No u227_Nx u227_Na u227_Nq u227_Nj u227_rt u227_Ni u227_Nf u227_Nh z h h0 h1 _ _ _ hP hS (lv_sub hl [0, 1, 2] rfl)
      · replace h := o_tt c83 h
        cases h
        exact h1 (Nat.succ_ne_zero 0) _ _ _ hP hS (lv_sub hl [] rfl)
set_option maxHeartbeats 4000000 in
set_option maxRecDepth 100000 in
theorem e_MM_object {E : (Nat → Prop) → State → Heap → Prop} {D : va_G} {ad kd sd vd xd : Nat → Nat} {ca : Nat → ClassId} {ky ty : Nat → Option Nat} (hE : o_EK E kd sd vd xd) (hKy : m_KY ky ty sd) (l : Launch) (n : Nat) (d : Nat) (rec : Int32 → Int32 → SMT → SMT → SNP → SNO → SNX → SNA → SNQ → SNJ → Nat → Option (Int32 × SMT × SNP × SNO × SNX × SNQ × SNJ × Nat)) (hrec : ∀ (x1 : Int32) (x2 : Int32) (M0 : SMT) (M1 : SMT) (Np : SNP) (No : SNO) (Nx : SNX) (Na : SNA) (Nq : SNQ) (Nj : SNJ) (rt : Nat) (Ni : SNI) (Nf : SNF) (Nh : SNH) (r : Int32 × SMT × SNP × SNO × SNX × SNQ × SNJ × Nat), rec x1 x2 M0 M1 Np No Nx Na Nq Nj rt = some r → o_Cn E l D m_cls (m_tys ca) y_MM_judge cc_MM_judge (rm_MM_judge d) [.ref (ad 0), .int x1, .int x2] (m_cw ad ca ky ty rt Ni Np No Nx Nf Na Nh Nq Nj M0 M1) (m_cw ad ca ky ty r.2.2.2.2.2.2.2 Ni r.2.2.1 r.2.2.2.1 r.2.2.2.2.1 Nf Na Nh r.2.2.2.2.2.1 r.2.2.2.2.2.2.1 M0 r.2.1) (some (.int r.1))) (x1 : Int32) (x2 : Int32) (x3 : Int32) (x4 : Int32) (M0 : SMT) (M1 : SMT) (Np : SNP) (No : SNO) (Nx : SNX) (Na : SNA) (Nq : SNQ) (Nj : SNJ) (rt : Nat) (Ni : SNI) (Nf : SNF) (Nh : SNH) {r : Int32 × SMT × SNP × SNO × SNX × SNQ × SNJ × Nat} (h : m_MM_object n rec x1 x2 x3 x4 M0 M1 Np No Nx Na Nq Nj rt = some r) : o_Cn E l D m_cls (m_tys ca) y_MM_object cc_MM_object (rm_MM_object d) [.ref (ad 0), .int x1, .int x2, .int x3, .int x4] (m_cw ad ca ky ty rt Ni Np No Nx Nf Na Nh Nq Nj M0 M1) (m_cw ad ca ky ty r.2.2.2.2.2.2.2 Ni r.2.2.1 r.2.2.2.1 r.2.2.2.2.1 Nf Na Nh r.2.2.2.2.2.1 r.2.2.2.2.2.2.1 M0 r.2.1) (some (.int r.1)) := by
  refine o_Cn_of (by decide) (Nat.le_of_ble_eq_true rfl) ?_
  intro p e s m below meth c A ls C hD hP hS hl
  have hDD : ∀ (rt : Nat) (Ni : SNI) (Np : SNP) (No : SNO) (Nx : SNX) (Nf : SNF) (Na : SNA) (Nh : SNH) (Nq : SNQ) (Nj : SNJ) (M0 : SMT) (M1 : SMT), va_D A (m_cw ad ca ky ty rt Ni Np No Nx Nf Na Nh Nq Nj M0 M1) := fun _ _ _ _ _ _ _ _ _ _ _ _ => o_D_map hD rfl
  have hl : lv_has ls 12 [(0, .ref (ad 0)), (1, .int x1), (2, .int x2), (3, .int x3), (4, .int x4)] := hl
  unfold m_MM_object at h
  have C0 := C
  obtain ⟨hx, hb, -, -, -, hown, hts, hK, -, -⟩ := C0
  refine lv_aload_n hx hb d_MM_object_0 rfl (lv_at hl 0 rfl) ?_
  refine o_get (v := .long (NJ_seen Nj)) C in_MM hP 0 mw_0 rfl 58 (by decide) k_8_48 rfl rfl d_MM_object_1 ?_
  refine lv_topl (fun x5_4 ex5_4 => ?_)
  replace h := o_nm_at ex5_4 h
  refine lv_lstore (lv' := [(5, .long x5_4), (0, .ref (ad 0)), (1, .int x1), (2, .int x2), (3, .int x3), (4, .int x4)]) hx hb d_MM_object_4 hl (by decide) rfl (fun ls hl => ?_)
  refine lv_iconst (v := (1:Int32)) hx hb d_MM_object_6 (by decide) ?_
  refine lv_istore (lv' := [(7, .int (1:Int32)), (5, .long x5_4), (0, .ref (ad 0)), (1, .int x1), (2, .int x2), (3, .int x3), (4, .int x4)]) hx hb d_MM_object_7 hl (by decide) rfl (fun ls hl => ?_)
  refine lv_aload_n hx hb d_MM_object_9 rfl (lv_at hl 2 rfl) ?_
  refine o_get (v := .ref (ad 48)) C in_MM hP 0 mw_0 rfl 5 (by decide) k_7_235 rfl rfl d_MM_object_10 ?_
  refine o_get (v := .ref (ad 52)) C in_MT hP 48 mw_48 rfl 3 (by decide) k_7_107 rfl rfl d_MM_object_13 ?_
  refine lv_iload hx hb d_MM_object_16 (lv_at hl 6 rfl) ?_
  obtain ⟨g1, h⟩ := o_gd_some h
  refine o_iald (f := (MT_many M1)) C hP 52 49 mw_52 rfl g1 d_MM_object_18 ?_
  refine lv_topi (fun x8_19 ex8_19 => ?_)
  replace h := o_nm_at ex8_19 h
  refine lv_istore (lv' := [(8, .int x8_19), (7, .int (1:Int32)), (5, .long x5_4), (0, .ref (ad 0)), (1, .int x1), (2, .int x2), (3, .int x3), (4, .int x4)]) hx hb d_MM_object_19 hl (by decide) rfl (fun ls hl => ?_)
  refine lv_iconst (v := (0:Int32)) hx hb d_MM_object_21 (by decide) ?_
  refine lv_istore (lv' := [(9, .int (0:Int32)), (8, .int x8_19), (7, .int (1:Int32)), (5, .long x5_4), (0, .ref (ad 0)), (1, .int x1), (2, .int x2), (3, .int x3), (4, .int x4)]) hx hb d_MM_object_22 hl (by decide) rfl (fun ls hl => ?_)
  refine lv_iload_n hx hb d_MM_object_24 rfl (lv_at hl 5 rfl) ?_
  by_cases c2 : x1 = (6:Int32)
  · replace h := o_tt c2 h
    refine lv_tableIn (off := 518) (tgt := 543) hx hb d_MM_object_25 (by rw [c2]; decide) (by rw [c2]; decide) (by rw [c2]; rfl) (by decide) ?_
    refine lv_aload_n hx hb d_MM_object_543 rfl (lv_at hl 4 rfl) ?_
    refine o_get (v := .ref (ad 48)) C in_MM hP 0 mw_0 rfl 5 (by decide) k_7_235 rfl rfl d_MM_object_544 ?_
    refine o_get (v := .ref (ad 55)) C in_MT hP 48 mw_48 rfl 6 (by decide) k_7_113 rfl rfl d_MM_object_547 ?_
    refine lv_iload hx hb d_MM_object_550 (lv_at hl 8 rfl) ?_
    obtain ⟨g3, h⟩ := o_gd_some h
    refine o_iald (f := (MT_first M1)) C hP 55 52 mw_55 rfl g3 d_MM_object_552 ?_
    refine lv_topi (fun x10_553 ex10_553 => ?_)
    replace h := o_nm_at ex10_553 h
    refine lv_istore (lv' := [(10, .int x10_553), (9, .int (0:Int32)), (8, .int x8_19), (7, .int (1:Int32)), (5, .long x5_4), (0, .ref (ad 0)), (1, .int x1), (2, .int x2), (3, .int x3), (4, .int x4)]) hx hb d_MM_object_553 hl (by decide) rfl (fun ls hl => ?_)
    obtain ⟨q3, hq3, h⟩ := o_bd_some h
    refine o_sim2 (AH := fun zz => o_At p l e (rm_MM_object d) s m _ below meth c _ m_cls D A 12 555 [] (m_cw ad ca ky ty zz.2.2.2.2.2.2.2.2.2.2 Ni zz.2.2.2.2.2.1 zz.2.2.2.2.2.2.1 zz.2.2.2.2.2.2.2.1 Nf Na Nh zz.2.2.2.2.2.2.2.2.1 zz.2.2.2.2.2.2.2.2.2.1 M0 zz.2.2.2.2.1) [(0, .ref (ad 0)), (1, .int x1), (2, .int x2), (3, .int x3), (5, .long zz.1), (7, .int zz.2.1), (9, .int zz.2.2.1), (10, .int zz.2.2.2.1)]) (AX := fun qq => o_At p l e (rm_MM_object d) s m _ below meth c _ m_cls D A 12 654 [] (m_cw ad ca ky ty qq.2.2.2.2.2.2.2.2.2.2.2 Ni qq.2.2.2.2.2.2.1 qq.2.2.2.2.2.2.2.1 qq.2.2.2.2.2.2.2.2.1 Nf Na Nh qq.2.2.2.2.2.2.2.2.2.1 qq.2.2.2.2.2.2.2.2.2.2.1 M0 qq.2.2.2.2.2.1) [(0, .ref (ad 0)), (1, .int x1), (5, .long qq.2.1), (7, .int qq.2.2.1)]) (fun zz qq h h0 h1 => f_MM_object_b555 hE hKy C hDD d rec hrec n x1 x2 x3 M0 Na Ni Nf Nh zz qq h h0 h1) n _ q3 hq3 ?_ _ _ _ hP hS (lv_sub hl [5, 6, 7, 8, 4, 3, 1, 0] rfl)
    intro H locs ls hP hS hl
    exact f_MM_object_j654 hE hKy C hDD d rec hrec n x1 q3.2.1 q3.2.2.1 M0 q3.2.2.2.2.2.1 q3.2.2.2.2.2.2.1 q3.2.2.2.2.2.2.2.1 q3.2.2.2.2.2.2.2.2.1 Na q3.2.2.2.2.2.2.2.2.2.1 q3.2.2.2.2.2.2.2.2.2.2.1 q3.2.2.2.2.2.2.2.2.2.2.2 Ni Nf Nh h _ _ _ hP hS (lv_sub hl [0, 1, 2, 3] rfl)
  replace h := o_ff c2 h
  by_cases c15 : x1 = (7:Int32)
  · replace h := o_tt c15 h
    refine lv_tableIn (off := 643) (tgt := 668) hx hb d_MM_object_25 (by rw [c15]; decide) (by rw [c15]; decide) (by rw [c15]; rfl) (by decide) ?_
    refine lv_aload_n hx hb d_MM_object_668 rfl (lv_at hl 4 rfl) ?_
    refine o_get (v := .ref (ad 48)) C in_MM hP 0 mw_0 rfl 5 (by decide) k_7_235 rfl rfl d_MM_object_669 ?_
    refine o_get (v := .ref (ad 55)) C in_MT hP 48 mw_48 rfl 6 (by decide) k_7_113 rfl rfl d_MM_object_672 ?_
    refine lv_iload hx hb d_MM_object_675 (lv_at hl 8 rfl) ?_
    obtain ⟨g16, h⟩ := o_gd_some h
    refine o_iald (f := (MT_first M1)) C hP 55 52 mw_55 rfl g16 d_MM_object_677 ?_
    refine lv_topi (fun x10_678 ex10_678 => ?_)
    replace h := o_nm_at ex10_678 h
    refine lv_istore (lv' := [(10, .int x10_678), (9, .int (0:Int32)), (8, .int x8_19), (7, .int (1:Int32)), (5, .long x5_4), (0, .ref (ad 0)), (1, .int x1), (2, .int x2), (3, .int x3), (4, .int x4)]) hx hb d_MM_object_678 hl (by decide) rfl (fun ls hl => ?_)
    obtain ⟨q5, hq5, h⟩ := o_bd_some h
    refine o_sim2 (AH := fun zz => o_At p l e (rm_MM_object d) s m _ below meth c _ m_cls D A 12 680 [] (m_cw ad ca ky ty zz.2.2.2.2.2.2.2.2 Ni zz.2.2.2.1 zz.2.2.2.2.1 zz.2.2.2.2.2.1 Nf Na Nh zz.2.2.2.2.2.2.1 zz.2.2.2.2.2.2.2.1 M0 zz.2.2.1) [(0, .ref (ad 0)), (2, .int x2), (5, .long x5_4), (7, .int zz.1), (10, .int zz.2.1)]) (AX := fun qq => o_At p l e (rm_MM_object d) s m _ below meth c _ m_cls D A 12 727 [] (m_cw ad ca ky ty qq.2.2.2.2.2.2.2.2.2 Ni qq.2.2.2.2.1 qq.2.2.2.2.2.1 qq.2.2.2.2.2.2.1 Nf Na Nh qq.2.2.2.2.2.2.2.1 qq.2.2.2.2.2.2.2.2.1 M0 qq.2.2.2.1) [(0, .ref (ad 0)), (5, .long x5_4), (7, .int qq.2.1)]) (fun zz qq h h0 h1 => f_MM_object_b680 hE hKy C hDD d rec hrec n x2 x5_4 M0 Na Ni Nf Nh zz qq h h0 h1) n _ q5 hq5 ?_ _ _ _ hP hS (lv_sub hl [5, 7, 4, 3, 0] rfl)
    intro H locs ls hP hS hl
    refine lv_goto (tgt := 732) hx hb d_MM_object_727 (by decide) ?_
    refine lv_aload_n hx hb d_MM_object_732 rfl (lv_at hl 0 rfl) ?_
    refine lv_lload hx hb d_MM_object_733 (lv_at hl 1 rfl) ?_
    refine o_put (v := .long x5_4) (ty := .long) (w1 := (m_cw ad ca ky ty q5.2.2.2.2.2.2.2.2.2 Ni q5.2.2.2.2.1 q5.2.2.2.2.2.1 q5.2.2.2.2.2.2.1 Nf Na Nh q5.2.2.2.2.2.2.2.1 (NJ_mk (NJ_judged q5.2.2.2.2.2.2.2.2.1) (NJ_deepest q5.2.2.2.2.2.2.2.2.1) (NJ_depth q5.2.2.2.2.2.2.2.2.1) (NJ_over q5.2.2.2.2.2.2.2.2.1) x5_4) M0 q5.2.2.2.1)) C in_MM t_MM t_MM_ok n_MM hP (hDD _ _ _ _ _ _ _ _ _ _ _ _) hS 0 mw_0 rfl 58 (by decide) k_8_48 rfl rfl (by decide +kernel) rfl rfl (Nat.le_of_ble_eq_true rfl) rfl d_MM_object_735 (fun H locs hP hS => ?_)
    refine lv_iload hx hb d_MM_object_738 (lv_at hl 2 rfl) ?_
    obtain ⟨g21, h⟩ := o_gd_some h
    cases h
    exact o_rz C (o_zb_nar g21) hP hS d_MM_object_740
  replace h := o_ff c15 h
  by_cases c22 : x1 = (8:Int32)
  · replace h := o_tt c22 h
    refine lv_tableIn (off := 705) (tgt := 730) hx hb d_MM_object_25 (by rw [c22]; decide) (by rw [c22]; decide) (by rw [c22]; rfl) (by decide) ?_
    refine lv_iconst (v := (1:Int32)) hx hb d_MM_object_730 (by decide) ?_
    cases h
    exact o_rz (v := (1:Int32)) C o_nar1 hP hS d_MM_object_731
  replace h := o_ff c22 h
  by_cases c23 : x1 = (9:Int32)
  · replace h := o_tt c23 h
    refine lv_tableIn (off := 518) (tgt := 543) hx hb d_MM_object_25 (by rw [c23]; decide) (by rw [c23]; decide) (by rw [c23]; rfl) (by decide) ?_
    refine lv_aload_n hx hb d_MM_object_543 rfl (lv_at hl 4 rfl) ?_
    refine o_get (v := .ref (ad 48)) C in_MM hP 0 mw_0 rfl 5 (by decide) k_7_235 rfl rfl d_MM_object_544 ?_
    refine o_get (v := .ref (ad 55)) C in_MT hP 48 mw_48 rfl 6 (by decide) k_7_113 rfl rfl d_MM_object_547 ?_
    refine lv_iload hx hb d_MM_object_550 (lv_at hl 8 rfl) ?_
    obtain ⟨g24, h⟩ := o_gd_some h
    refine o_iald (f := (MT_first M1)) C hP 55 52 mw_55 rfl g24 d_MM_object_552 ?_
    refine lv_topi (fun x10_553 ex10_553 => ?_)
    replace h := o_nm_at ex10_553 h
    refine lv_istore (lv' := [(10, .int x10_553), (9, .int (0:Int32)), (8, .int x8_19), (7, .int (1:Int32)), (5, .long x5_4), (0, .ref (ad 0)), (1, .int x1), (2, .int x2), (3, .int x3), (4, .int x4)]) hx hb d_MM_object_553 hl (by decide) rfl (fun ls hl => ?_)
    obtain ⟨q6, hq6, h⟩ := o_bd_some h
    refine o_sim2 (AH := fun zz => o_At p l e (rm_MM_object d) s m _ below meth c _ m_cls D A 12 555 [] (m_cw ad ca ky ty zz.2.2.2.2.2.2.2.2.2.2 Ni zz.2.2.2.2.2.1 zz.2.2.2.2.2.2.1 zz.2.2.2.2.2.2.2.1 Nf Na Nh zz.2.2.2.2.2.2.2.2.1 zz.2.2.2.2.2.2.2.2.2.1 M0 zz.2.2.2.2.1) [(0, .ref (ad 0)), (1, .int x1), (2, .int x2), (3, .int x3), (5, .long zz.1), (7, .int zz.2.1), (9, .int zz.2.2.1), (10, .int zz.2.2.2.1)]) (AX := fun qq => o_At p l e (rm_MM_object d) s m _ below meth c _ m_cls D A 12 654 [] (m_cw ad ca ky ty qq.2.2.2.2.2.2.2.2.2.2.2 Ni qq.2.2.2.2.2.2.1 qq.2.2.2.2.2.2.2.1 qq.2.2.2.2.2.2.2.2.1 Nf Na Nh qq.2.2.2.2.2.2.2.2.2.1 qq.2.2.2.2.2.2.2.2.2.2.1 M0 qq.2.2.2.2.2.1) [(0, .ref (ad 0)), (1, .int x1), (5, .long qq.2.1), (7, .int qq.2.2.1)]) (fun zz qq h h0 h1 => f_MM_object_b555 hE hKy C hDD d rec hrec n x1 x2 x3 M0 Na Ni Nf Nh zz qq h h0 h1) n _ q6 hq6 ?_ _ _ _ hP hS (lv_sub hl [5, 6, 7, 8, 4, 3, 1, 0] rfl)
    intro H locs ls hP hS hl
    exact f_MM_object_j654 hE hKy C hDD d rec hrec n x1 q6.2.1 q6.2.2.1 M0 q6.2.2.2.2.2.1 q6.2.2.2.2.2.2.1 q6.2.2.2.2.2.2.2.1 q6.2.2.2.2.2.2.2.2.1 Na q6.2.2.2.2.2.2.2.2.2.1 q6.2.2.2.2.2.2.2.2.2.2.1 q6.2.2.2.2.2.2.2.2.2.2.2 Ni Nf Nh h _ _ _ hP hS (lv_sub hl [0, 1, 2, 3] rfl)
  replace h := o_ff c23 h
  by_cases c25 : x1 = (10:Int32)
  · replace h := o_tt c25 h
    refine lv_tableIn (off := 705) (tgt := 730) hx hb d_MM_object_25 (by rw [c25]; decide) (by rw [c25]; decide) (by rw [c25]; rfl) (by decide) ?_
    refine lv_iconst (v := (1:Int32)) hx hb d_MM_object_730 (by decide) ?_
    cases h
    exact o_rz (v := (1:Int32)) C o_nar1 hP hS d_MM_object_731
  replace h := o_ff c25 h
  by_cases c26 : x1 = (11:Int32)
  · replace h := o_tt c26 h
    refine lv_tableIn (off := 705) (tgt := 730) hx hb d_MM_object_25 (by rw [c26]; decide) (by rw [c26]; decide) (by rw [c26]; rfl) (by decide) ?_
    refine lv_iconst (v := (1:Int32)) hx hb d_MM_object_730 (by decide) ?_
    cases h
    exact o_rz (v := (1:Int32)) C o_nar1 hP hS d_MM_object_731
  replace h := o_ff c26 h
  by_cases c27 : x1 = (12:Int32)
  · replace h := o_tt c27 h
    refine lv_tableIn (off := 705) (tgt := 730) hx hb d_MM_object_25 (by rw [c27]; decide) (by rw [c27]; decide) (by rw [c27]; rfl) (by decide) ?_
    refine lv_iconst (v := (1:Int32)) hx hb d_MM_object_730 (by decide) ?_
    cases h
    exact o_rz (v := (1:Int32)) C o_nar1 hP hS d_MM_object_731
  replace h := o_ff c27 h
  by_cases c28 : x1 = (13:Int32)
  · replace h := o_tt c28 h
    refine lv_tableIn (off := 705) (tgt := 730) hx hb d_MM_object_25 (by rw [c28]; decide) (by rw [c28]; decide) (by rw [c28]; rfl) (by decide) ?_
    refine lv_iconst (v := (1:Int32)) hx hb d_MM_object_730 (by decide) ?_
    cases h
    exact o_rz (v := (1:Int32)) C o_nar1 hP hS d_MM_object_731
  replace h := o_ff c28 h
  by_cases c29 : x1 = (14:Int32)
  · replace h := o_tt c29 h
    refine lv_tableIn (off := 705) (tgt := 730) hx hb d_MM_object_25 (by rw [c29]; decide) (by rw [c29]; decide) (by rw [c29]; rfl) (by decide) ?_
    refine lv_iconst (v := (1:Int32)) hx hb d_MM_object_730 (by decide) ?_
    cases h
    exact o_rz (v := (1:Int32)) C o_nar1 hP hS d_MM_object_731
  replace h := o_ff c29 h
  by_cases c30 : x1 = (15:Int32)
  · replace h := o_tt c30 h
    refine lv_tableIn (off := 263) (tgt := 288) hx hb d_MM_object_25 (by rw [c30]; decide) (by rw [c30]; decide) (by rw [c30]; rfl) (by decide) ?_
    refine lv_aload_n hx hb d_MM_object_288 rfl (lv_at hl 4 rfl) ?_
    refine o_get (v := .ref (ad 33)) C in_MM hP 0 mw_0 rfl 4 (by decide) k_7_234 rfl rfl d_MM_object_289 ?_
    refine o_get (v := .ref (ad 40)) C in_MT hP 33 mw_33 rfl 6 (by decide) k_7_113 rfl rfl d_MM_object_292 ?_
    refine lv_iload_n hx hb d_MM_object_295 rfl (lv_at hl 6 rfl) ?_
    obtain ⟨g31, h⟩ := o_gd_some h
    refine o_iald (f := (MT_first M0)) C hP 40 38 mw_40 rfl g31 d_MM_object_296 ?_
    refine lv_topi (fun x10_297 ex10_297 => ?_)
    replace h := o_nm_at ex10_297 h
    refine lv_istore (lv' := [(10, .int x10_297), (9, .int (0:Int32)), (8, .int x8_19), (7, .int (1:Int32)), (5, .long x5_4), (0, .ref (ad 0)), (1, .int x1), (2, .int x2), (3, .int x3), (4, .int x4)]) hx hb d_MM_object_297 hl (by decide) rfl (fun ls hl => ?_)
    obtain ⟨q10, hq10, h⟩ := o_bd_some h
    refine o_sim2 (AH := fun zz => o_At p l e (rm_MM_object d) s m _ below meth c _ m_cls D A 12 299 [] (m_cw ad ca ky ty zz.2.2.2.2.2.2.2.2.2 Ni zz.2.2.2.2.1 zz.2.2.2.2.2.1 zz.2.2.2.2.2.2.1 Nf Na Nh zz.2.2.2.2.2.2.2.1 zz.2.2.2.2.2.2.2.2.1 M0 zz.2.2.2.1) [(0, .ref (ad 0)), (4, .int x4), (5, .long zz.1), (7, .int zz.2.1), (10, .int zz.2.2.1)]) (AX := fun qq => o_At p l e (rm_MM_object d) s m _ below meth c _ m_cls D A 12 387 [] (m_cw ad ca ky ty qq.2.2.2.2.2.2.2.2.2.2 Ni qq.2.2.2.2.2.1 qq.2.2.2.2.2.2.1 qq.2.2.2.2.2.2.2.1 Nf Na Nh qq.2.2.2.2.2.2.2.2.1 qq.2.2.2.2.2.2.2.2.2.1 M0 qq.2.2.2.2.1) [(0, .ref (ad 0)), (5, .long qq.2.1), (7, .int qq.2.2.1)]) (fun zz qq h h0 h1 => f_MM_object_b299 hE hKy C hDD d rec hrec n x4 M0 Na Ni Nf Nh zz qq h h0 h1) n _ q10 hq10 ?_ _ _ _ hP hS (lv_sub hl [5, 9, 4, 3, 0] rfl)
    intro H locs ls hP hS hl
    refine lv_goto (tgt := 732) hx hb d_MM_object_387 (by decide) ?_
    refine lv_aload_n hx hb d_MM_object_732 rfl (lv_at hl 0 rfl) ?_
    refine lv_lload hx hb d_MM_object_733 (lv_at hl 1 rfl) ?_
    refine o_put (v := .long q10.2.1) (ty := .long) (w1 := (m_cw ad ca ky ty q10.2.2.2.2.2.2.2.2.2.2 Ni q10.2.2.2.2.2.1 q10.2.2.2.2.2.2.1 q10.2.2.2.2.2.2.2.1 Nf Na Nh q10.2.2.2.2.2.2.2.2.1 (NJ_mk (NJ_judged q10.2.2.2.2.2.2.2.2.2.1) (NJ_deepest q10.2.2.2.2.2.2.2.2.2.1) (NJ_depth q10.2.2.2.2.2.2.2.2.2.1) (NJ_over q10.2.2.2.2.2.2.2.2.2.1) q10.2.1) M0 q10.2.2.2.2.1)) C in_MM t_MM t_MM_ok n_MM hP (hDD _ _ _ _ _ _ _ _ _ _ _ _) hS 0 mw_0 rfl 58 (by decide) k_8_48 rfl rfl (by decide +kernel) rfl rfl (Nat.le_of_ble_eq_true rfl) rfl d_MM_object_735 (fun H locs hP hS => ?_)
    refine lv_iload hx hb d_MM_object_738 (lv_at hl 2 rfl) ?_
    obtain ⟨g37, h⟩ := o_gd_some h
    cases h
    exact o_rz C (o_zb_nar g37) hP hS d_MM_object_740
  replace h := o_ff c30 h
  by_cases c38 : x1 = (16:Int32)
  · replace h := o_tt c38 h
    refine lv_tableIn (off := 365) (tgt := 390) hx hb d_MM_object_25 (by rw [c38]; decide) (by rw [c38]; decide) (by rw [c38]; rfl) (by decide) ?_
    refine lv_aload_n hx hb d_MM_object_390 rfl (lv_at hl 4 rfl) ?_
    refine o_get (v := .ref (ad 33)) C in_MM hP 0 mw_0 rfl 4 (by decide) k_7_234 rfl rfl d_MM_object_391 ?_
    refine o_get (v := .ref (ad 40)) C in_MT hP 33 mw_33 rfl 6 (by decide) k_7_113 rfl rfl d_MM_object_394 ?_
    refine lv_iload_n hx hb d_MM_object_397 rfl (lv_at hl 6 rfl) ?_
    obtain ⟨g39, h⟩ := o_gd_some h
    refine o_iald (f := (MT_first M0)) C hP 40 38 mw_40 rfl g39 d_MM_object_398 ?_
    refine lv_topi (fun x10_399 ex10_399 => ?_)
    replace h := o_nm_at ex10_399 h
    refine lv_istore (lv' := [(10, .int x10_399), (9, .int (0:Int32)), (8, .int x8_19), (7, .int (1:Int32)), (5, .long x5_4), (0, .ref (ad 0)), (1, .int x1), (2, .int x2), (3, .int x3), (4, .int x4)]) hx hb d_MM_object_399 hl (by decide) rfl (fun ls hl => ?_)
    obtain ⟨q15, hq15, h⟩ := o_bd_some h
    refine o_sim2 (AH := fun zz => o_At p l e (rm_MM_object d) s m _ below meth c _ m_cls D A 12 401 [] (m_cw ad ca ky ty zz.2.2.2.2.2.2.2.2.2 Ni zz.2.2.2.2.1 zz.2.2.2.2.2.1 zz.2.2.2.2.2.2.1 Nf Na Nh zz.2.2.2.2.2.2.2.1 zz.2.2.2.2.2.2.2.2.1 M0 zz.2.2.2.1) [(0, .ref (ad 0)), (4, .int x4), (5, .long zz.1), (7, .int zz.2.1), (10, .int zz.2.2.1)]) (AX := fun qq => o_At p l e (rm_MM_object d) s m _ below meth c _ m_cls D A 12 540 [] (m_cw ad ca ky ty qq.2.2.2.2.2.2.2.2.2.2 Ni qq.2.2.2.2.2.1 qq.2.2.2.2.2.2.1 qq.2.2.2.2.2.2.2.1 Nf Na Nh qq.2.2.2.2.2.2.2.2.1 qq.2.2.2.2.2.2.2.2.2.1 M0 qq.2.2.2.2.1) [(0, .ref (ad 0)), (5, .long qq.2.1), (7, .int qq.2.2.1)]) (fun zz qq h h0 h1 => f_MM_object_b401 hE hKy C hDD d rec hrec n x4 M0 Na Ni Nf Nh zz qq h h0 h1) n _ q15 hq15 ?_ _ _ _ hP hS (lv_sub hl [5, 9, 4, 3, 0] rfl)
    intro H locs ls hP hS hl
    refine lv_goto (tgt := 732) hx hb d_MM_object_540 (by decide) ?_
    refine lv_aload_n hx hb d_MM_object_732 rfl (lv_at hl 0 rfl) ?_
    refine lv_lload hx hb d_MM_object_733 (lv_at hl 1 rfl) ?_
    refine o_put (v := .long q15.2.1) (ty := .long) (w1 := (m_cw ad ca ky ty q15.2.2.2.2.2.2.2.2.2.2 Ni q15.2.2.2.2.2.1 q15.2.2.2.2.2.2.1 q15.2.2.2.2.2.2.2.1 Nf Na Nh q15.2.2.2.2.2.2.2.2.1 (NJ_mk (NJ_judged q15.2.2.2.2.2.2.2.2.2.1) (NJ_deepest q15.2.2.2.2.2.2.2.2.2.1) (NJ_depth q15.2.2.2.2.2.2.2.2.2.1) (NJ_over q15.2.2.2.2.2.2.2.2.2.1) q15.2.1) M0 q15.2.2.2.2.1)) C in_MM t_MM t_MM_ok n_MM hP (hDD _ _ _ _ _ _ _ _ _ _ _ _) hS 0 mw_0 rfl 58 (by decide) k_8_48 rfl rfl (by decide +kernel) rfl rfl (Nat.le_of_ble_eq_true rfl) rfl d_MM_object_735 (fun H locs hP hS => ?_)
    refine lv_iload hx hb d_MM_object_738 (lv_at hl 2 rfl) ?_
    obtain ⟨g51, h⟩ := o_gd_some h
    cases h
    exact o_rz C (o_zb_nar g51) hP hS d_MM_object_740
  replace h := o_ff c38 h
  by_cases c52 : x1 = (17:Int32)
  · replace h := o_tt c52 h
    refine lv_tableIn (off := 705) (tgt := 730) hx hb d_MM_object_25 (by rw [c52]; decide) (by rw [c52]; decide) (by rw [c52]; rfl) (by decide) ?_
    refine lv_iconst (v := (1:Int32)) hx hb d_MM_object_730 (by decide) ?_
    cases h
    exact o_rz (v := (1:Int32)) C o_nar1 hP hS d_MM_object_731
  replace h := o_ff c52 h
  by_cases c53 : x1 = (18:Int32)
  · replace h := o_tt c53 h
    refine lv_tableIn (off := 705) (tgt := 730) hx hb d_MM_object_25 (by rw [c53]; decide) (by rw [c53]; decide) (by rw [c53]; rfl) (by decide) ?_
    refine lv_iconst (v := (1:Int32)) hx hb d_MM_object_730 (by decide) ?_
    cases h
    exact o_rz (v := (1:Int32)) C o_nar1 hP hS d_MM_object_731
  replace h := o_ff c53 h
  by_cases c54 : x1 = (19:Int32)
  · replace h := o_tt c54 h
    refine lv_tableIn (off := 705) (tgt := 730) hx hb d_MM_object_25 (by rw [c54]; decide) (by rw [c54]; decide) (by rw [c54]; rfl) (by decide) ?_
    refine lv_iconst (v := (1:Int32)) hx hb d_MM_object_730 (by decide) ?_
    cases h
    exact o_rz (v := (1:Int32)) C o_nar1 hP hS d_MM_object_731
  replace h := o_ff c54 h
  by_cases c55 : x1 = (20:Int32)
  · replace h := o_tt c55 h
    refine lv_tableIn (off := 705) (tgt := 730) hx hb d_MM_object_25 (by rw [c55]; decide) (by rw [c55]; decide) (by rw [c55]; rfl) (by decide) ?_
    refine lv_iconst (v := (1:Int32)) hx hb d_MM_object_730 (by decide) ?_
    cases h
    exact o_rz (v := (1:Int32)) C o_nar1 hP hS d_MM_object_731
  replace h := o_ff c55 h
  by_cases c56 : x1 = (21:Int32)
  · replace h := o_tt c56 h
    refine lv_tableIn (off := 705) (tgt := 730) hx hb d_MM_object_25 (by rw [c56]; decide) (by rw [c56]; decide) (by rw [c56]; rfl) (by decide) ?_
    refine lv_iconst (v := (1:Int32)) hx hb d_MM_object_730 (by decide) ?_
    cases h
    exact o_rz (v := (1:Int32)) C o_nar1 hP hS d_MM_object_731
  replace h := o_ff c56 h
  by_cases c57 : x1 = (22:Int32)
  · replace h := o_tt c57 h
    refine lv_tableIn (off := 705) (tgt := 730) hx hb d_MM_object_25 (by rw [c57]; decide) (by rw [c57]; decide) (by rw [c57]; rfl) (by decide) ?_
    refine lv_iconst (v := (1:Int32)) hx hb d_MM_object_730 (by decide) ?_
    cases h
    exact o_rz (v := (1:Int32)) C o_nar1 hP hS d_MM_object_731
  replace h := o_ff c57 h
  by_cases c58 : x1 = (23:Int32)
  · replace h := o_tt c58 h
    refine lv_tableIn (off := 705) (tgt := 730) hx hb d_MM_object_25 (by rw [c58]; decide) (by rw [c58]; decide) (by rw [c58]; rfl) (by decide) ?_
    refine lv_iconst (v := (1:Int32)) hx hb d_MM_object_730 (by decide) ?_
    cases h
    exact o_rz (v := (1:Int32)) C o_nar1 hP hS d_MM_object_731
  replace h := o_ff c58 h
  by_cases c59 : x1 = (24:Int32)
  · replace h := o_tt c59 h
    refine lv_tableIn (off := 705) (tgt := 730) hx hb d_MM_object_25 (by rw [c59]; decide) (by rw [c59]; decide) (by rw [c59]; rfl) (by decide) ?_
    refine lv_iconst (v := (1:Int32)) hx hb d_MM_object_730 (by decide) ?_
    cases h
    exact o_rz (v := (1:Int32)) C o_nar1 hP hS d_MM_object_731
  replace h := o_ff c59 h
  by_cases c60 : x1 = (25:Int32)
  · replace h := o_tt c60 h
    refine lv_tableIn (off := 705) (tgt := 730) hx hb d_MM_object_25 (by rw [c60]; decide) (by rw [c60]; decide) (by rw [c60]; rfl) (by decide) ?_
    refine lv_iconst (v := (1:Int32)) hx hb d_MM_object_730 (by decide) ?_
    cases h
    exact o_rz (v := (1:Int32)) C o_nar1 hP hS d_MM_object_731
  replace h := o_ff c60 h
  by_cases c61 : x1 = (26:Int32)
  · replace h := o_tt c61 h
    refine lv_tableIn (off := 705) (tgt := 730) hx hb d_MM_object_25 (by rw [c61]; decide) (by rw [c61]; decide) (by rw [c61]; rfl) (by decide) ?_
    refine lv_iconst (v := (1:Int32)) hx hb d_MM_object_730 (by decide) ?_
    cases h
    exact o_rz (v := (1:Int32)) C o_nar1 hP hS d_MM_object_731
  replace h := o_ff c61 h
  by_cases c62 : x1 = (27:Int32)
  · replace h := o_tt c62 h
    refine lv_tableIn (off := 705) (tgt := 730) hx hb d_MM_object_25 (by rw [c62]; decide) (by rw [c62]; decide) (by rw [c62]; rfl) (by decide) ?_
    refine lv_iconst (v := (1:Int32)) hx hb d_MM_object_730 (by decide) ?_
    cases h
    exact o_rz (v := (1:Int32)) C o_nar1 hP hS d_MM_object_731
  replace h := o_ff c62 h
  by_cases c63 : x1 = (28:Int32)
  · replace h := o_tt c63 h
    refine lv_tableIn (off := 705) (tgt := 730) hx hb d_MM_object_25 (by rw [c63]; decide) (by rw [c63]; decide) (by rw [c63]; rfl) (by decide) ?_
    refine lv_iconst (v := (1:Int32)) hx hb d_MM_object_730 (by decide) ?_
    cases h
    exact o_rz (v := (1:Int32)) C o_nar1 hP hS d_MM_object_731
  replace h := o_ff c63 h
  by_cases c64 : x1 = (29:Int32)
  · replace h := o_tt c64 h
    refine lv_tableIn (off := 151) (tgt := 176) hx hb d_MM_object_25 (by rw [c64]; decide) (by rw [c64]; decide) (by rw [c64]; rfl) (by decide) ?_
    refine lv_iload hx hb d_MM_object_176 (lv_at hl 1 rfl) ?_
    refine lv_aload_n hx hb d_MM_object_178 rfl (lv_at hl 4 rfl) ?_
    refine lv_iload_n hx hb d_MM_object_179 rfl (lv_at hl 6 rfl) ?_
    obtain ⟨q16, hq16, h⟩ := o_bd_some h
    refine o_V (st1 := [.int q16, .int x8_19]) (w1 := (m_cw ad ca ky ty rt Ni Np No Nx Nf Na Nh Nq Nj M0 M1)) hE.1 C (e_MM_intOf hE hKy l n x2 M0 Ni Np No Nx Nf Na Nh Nq Nj M1 rt hq16) hP (hDD _ _ _ _ _ _ _ _ _ _ _ _) hS hl.1 rfl mw_0 k_9_153 k_9_155 k_s_106 k_1_12 k_9_156 hv_MM_intOf rfl rfl ⟨(by dsimp only [rm_MM_object, rm_MM_intOf]; omega), (by dsimp only [rm_MM_object, rm_MM_intOf]; omega)⟩ rfl (Nat.le_of_ble_eq_true rfl) ⟨Nat.zero_le _, Nat.zero_le _⟩ rfl d_MM_object_180 (fun H locs hP hS => ?_)
    refine lv_icmp_gt (tgt := 190) hx hb d_MM_object_183 (by decide) (fun c65 => ?_) (fun c65 => ?_)
    · replace h := o_tt c65 h
      refine lv_iconst (v := (0:Int32)) hx hb d_MM_object_190 (by decide) ?_
      cases h
      exact o_rz (v := (0:Int32)) C o_nar0 hP hS d_MM_object_191
    · replace h := o_ff c65 h
      refine lv_iconst (v := (1:Int32)) hx hb d_MM_object_186 (by decide) ?_
      refine lv_goto (tgt := 191) hx hb d_MM_object_187 (by decide) ?_
      cases h
      exact o_rz (v := (1:Int32)) C o_nar1 hP hS d_MM_object_191
  replace h := o_ff c64 h
  by_cases c66 : x1 = (30:Int32)
  · replace h := o_tt c66 h
    refine lv_tableIn (off := 167) (tgt := 192) hx hb d_MM_object_25 (by rw [c66]; decide) (by rw [c66]; decide) (by rw [c66]; rfl) (by decide) ?_
    refine lv_iload hx hb d_MM_object_192 (lv_at hl 1 rfl) ?_
    refine lv_aload_n hx hb d_MM_object_194 rfl (lv_at hl 4 rfl) ?_
    refine lv_iload_n hx hb d_MM_object_195 rfl (lv_at hl 6 rfl) ?_
    obtain ⟨q17, hq17, h⟩ := o_bd_some h
    refine o_V (st1 := [.int q17, .int x8_19]) (w1 := (m_cw ad ca ky ty rt Ni Np No Nx Nf Na Nh Nq Nj M0 M1)) hE.1 C (e_MM_intOf hE hKy l n x2 M0 Ni Np No Nx Nf Na Nh Nq Nj M1 rt hq17) hP (hDD _ _ _ _ _ _ _ _ _ _ _ _) hS hl.1 rfl mw_0 k_9_153 k_9_155 k_s_106 k_1_12 k_9_156 hv_MM_intOf rfl rfl ⟨(by dsimp only [rm_MM_object, rm_MM_intOf]; omega), (by dsimp only [rm_MM_object, rm_MM_intOf]; omega)⟩ rfl (Nat.le_of_ble_eq_true rfl) ⟨Nat.zero_le _, Nat.zero_le _⟩ rfl d_MM_object_196 (fun H locs hP hS => ?_)
    refine lv_icmp_lt (tgt := 206) hx hb d_MM_object_199 (by decide) (fun c67 => ?_) (fun c67 => ?_)
    · replace h := o_tt c67 h
      refine lv_iconst (v := (0:Int32)) hx hb d_MM_object_206 (by decide) ?_
      cases h
      exact o_rz (v := (0:Int32)) C o_nar0 hP hS d_MM_object_207
    · replace h := o_ff c67 h
      refine lv_iconst (v := (1:Int32)) hx hb d_MM_object_202 (by decide) ?_
      refine lv_goto (tgt := 207) hx hb d_MM_object_203 (by decide) ?_
      cases h
      exact o_rz (v := (1:Int32)) C o_nar1 hP hS d_MM_object_207
  replace h := o_ff c66 h
  by_cases c68 : x1 = (31:Int32)
  · replace h := o_tt c68 h
    refine lv_tableIn (off := 705) (tgt := 730) hx hb d_MM_object_25 (by rw [c68]; decide) (by rw [c68]; decide) (by rw [c68]; rfl) (by decide) ?_
    refine lv_iconst (v := (1:Int32)) hx hb d_MM_object_730 (by decide) ?_
    cases h
    exact o_rz (v := (1:Int32)) C o_nar1 hP hS d_MM_object_731
  replace h := o_ff c68 h
  by_cases c69 : x1 = (32:Int32)
  · replace h := o_tt c69 h
    refine lv_tableIn (off := 705) (tgt := 730) hx hb d_MM_object_25 (by rw [c69]; decide) (by rw [c69]; decide) (by rw [c69]; rfl) (by decide) ?_
    refine lv_iconst (v := (1:Int32)) hx hb d_MM_object_730 (by decide) ?_
    cases h
    exact o_rz (v := (1:Int32)) C o_nar1 hP hS d_MM_object_731
  replace h := o_ff c69 h
  by_cases c70 : x1 = (33:Int32)
  · replace h := o_tt c70 h
    refine lv_tableIn (off := 705) (tgt := 730) hx hb d_MM_object_25 (by rw [c70]; decide) (by rw [c70]; decide) (by rw [c70]; rfl) (by decide) ?_
    refine lv_iconst (v := (1:Int32)) hx hb d_MM_object_730 (by decide) ?_
    cases h
    exact o_rz (v := (1:Int32)) C o_nar1 hP hS d_MM_object_731
  replace h := o_ff c70 h
  by_cases c71 : x1 = (34:Int32)
  · replace h := o_tt c71 h
    refine lv_tableIn (off := 705) (tgt := 730) hx hb d_MM_object_25 (by rw [c71]; decide) (by rw [c71]; decide) (by rw [c71]; rfl) (by decide) ?_
    refine lv_iconst (v := (1:Int32)) hx hb d_MM_object_730 (by decide) ?_
    cases h
    exact o_rz (v := (1:Int32)) C o_nar1 hP hS d_MM_object_731
  replace h := o_ff c71 h
  by_cases c72 : x1 = (35:Int32)
  · replace h := o_tt c72 h
    refine lv_tableIn (off := 705) (tgt := 730) hx hb d_MM_object_25 (by rw [c72]; decide) (by rw [c72]; decide) (by rw [c72]; rfl) (by decide) ?_
    refine lv_iconst (v := (1:Int32)) hx hb d_MM_object_730 (by decide) ?_
    cases h
    exact o_rz (v := (1:Int32)) C o_nar1 hP hS d_MM_object_731
  replace h := o_ff c72 h
  by_cases c73 : x1 = (36:Int32)
  · replace h := o_tt c73 h
    refine lv_tableIn (off := 705) (tgt := 730) hx hb d_MM_object_25 (by rw [c73]; decide) (by rw [c73]; decide) (by rw [c73]; rfl) (by decide) ?_
    refine lv_iconst (v := (1:Int32)) hx hb d_MM_object_730 (by decide) ?_
    cases h
    exact o_rz (v := (1:Int32)) C o_nar1 hP hS d_MM_object_731
  replace h := o_ff c73 h
  by_cases c74 : x1 = (37:Int32)
  · replace h := o_tt c74 h
    refine lv_tableIn (off := 705) (tgt := 730) hx hb d_MM_object_25 (by rw [c74]; decide) (by rw [c74]; decide) (by rw [c74]; rfl) (by decide) ?_
    refine lv_iconst (v := (1:Int32)) hx hb d_MM_object_730 (by decide) ?_
    cases h
    exact o_rz (v := (1:Int32)) C o_nar1 hP hS d_MM_object_731
  replace h := o_ff c74 h
  by_cases c75 : x1 = (38:Int32)
  · replace h := o_tt c75 h
    refine lv_tableIn (off := 183) (tgt := 208) hx hb d_MM_object_25 (by rw [c75]; decide) (by rw [c75]; decide) (by rw [c75]; rfl) (by decide) ?_
    refine lv_aload_n hx hb d_MM_object_208 rfl (lv_at hl 4 rfl) ?_
    refine lv_iload_n hx hb d_MM_object_209 rfl (lv_at hl 6 rfl) ?_
    refine lv_iload hx hb d_MM_object_210 (lv_at hl 8 rfl) ?_
    obtain ⟨q18, hq18, h⟩ := o_bd_some h
    refine o_V (st1 := [.int q18]) (w1 := (m_cw ad ca ky ty rt Ni Np No Nx Nf Na Nh Nq Nj M0 M1)) hE.1 C (e_MM_requires hE hKy l n x2 x4 M0 M1 Ni Np No Nx Nf Na Nh Nq Nj rt hq18) hP (hDD _ _ _ _ _ _ _ _ _ _ _ _) hS hl.1 rfl mw_0 k_10_60 k_10_62 k_s_132 k_1_12 k_10_63 hv_MM_requires rfl rfl ⟨(by dsimp only [rm_MM_object, rm_MM_requires]; omega), (by dsimp only [rm_MM_object, rm_MM_requires]; omega)⟩ rfl (Nat.le_of_ble_eq_true rfl) ⟨Nat.zero_le _, Nat.zero_le _⟩ rfl d_MM_object_212 (fun H locs hP hS => ?_)
    obtain ⟨g76, h⟩ := o_gd_some h
    cases h
    exact o_rz C (o_zb_nar g76) hP hS d_MM_object_215
  replace h := o_ff c75 h
  by_cases c77 : x1 = (39:Int32)
  · replace h := o_tt c77 h
    refine lv_tableIn (off := 191) (tgt := 216) hx hb d_MM_object_25 (by rw [c77]; decide) (by rw [c77]; decide) (by rw [c77]; rfl) (by decide) ?_
    refine lv_aload_n hx hb d_MM_object_216 rfl (lv_at hl 4 rfl) ?_
    refine o_get (v := .ref (ad 33)) C in_MM hP 0 mw_0 rfl 4 (by decide) k_7_234 rfl rfl d_MM_object_217 ?_
    refine o_get (v := .ref (ad 40)) C in_MT hP 33 mw_33 rfl 6 (by decide) k_7_113 rfl rfl d_MM_object_220 ?_
    refine lv_iload_n hx hb d_MM_object_223 rfl (lv_at hl 6 rfl) ?_
    obtain ⟨g78, h⟩ := o_gd_some h
    refine o_iald (f := (MT_first M0)) C hP 40 38 mw_40 rfl g78 d_MM_object_224 ?_
    refine lv_topi (fun x10_225 ex10_225 => ?_)
    replace h := o_nm_at ex10_225 h
    refine lv_istore (lv' := [(10, .int x10_225), (9, .int (0:Int32)), (8, .int x8_19), (7, .int (1:Int32)), (5, .long x5_4), (0, .ref (ad 0)), (1, .int x1), (2, .int x2), (3, .int x3), (4, .int x4)]) hx hb d_MM_object_225 hl (by decide) rfl (fun ls hl => ?_)
    obtain ⟨q21, hq21, h⟩ := o_bd_some h
    refine o_sim2 (AH := fun zz => o_At p l e (rm_MM_object d) s m _ below meth c _ m_cls D A 12 227 [] (m_cw ad ca ky ty rt Ni Np No Nx Nf Na Nh Nq Nj M0 M1) [(0, .ref (ad 0)), (4, .int x4), (10, .int zz)]) (AX := fun qq => if qq.1 = 1 then o_At p l e (rm_MM_object d) s m _ below meth c _ m_cls D A 12 269 [] (m_cw ad ca ky ty rt Ni Np No Nx Nf Na Nh Nq Nj M0 M1) [] else o_At p l e (rm_MM_object d) s m _ below meth c _ m_cls D A 12 286 [] (m_cw ad ca ky ty rt Ni Np No Nx Nf Na Nh Nq Nj M0 M1) []) (fun zz qq h h0 h1 => f_MM_object_b227 hE hKy C hDD d rec hrec n x4 M0 M1 Np No Nx Na Nq Nj rt Ni Nf Nh zz qq h h0 h1) n _ q21 hq21 ?_ _ _ _ hP hS (lv_sub hl [5, 9, 0] rfl)
    by_cases c84 : q21.1 = 1
    · replace h := o_tt c84 h
      refine o_ip c84 ?_
      intro H locs ls hP hS hl
      refine lv_iconst (v := (0:Int32)) hx hb d_MM_object_269 (by decide) ?_
      cases h
      exact o_rz (v := (0:Int32)) C o_nar0 hP hS d_MM_object_270
    replace h := o_ff c84 h
    refine o_in_ c84 ?_
    intro H locs ls hP hS hl
    refine lv_iconst (v := (1:Int32)) hx hb d_MM_object_286 (by decide) ?_
    cases h
    exact o_rz (v := (1:Int32)) C o_nar1 hP hS d_MM_object_287
  replace h := o_ff c77 h
  refine lv_tableOut (tgt := 730) hx hb d_MM_object_25 (by have ec2 := o_ne_i (n := 6) (by decide) c2; have ec15 := o_ne_i (n := 7) (by decide) c15; have ec22 := o_ne_i (n := 8) (by decide) c22; have ec23 := o_ne_i (n := 9) (by decide) c23; have ec25 := o_ne_i (n := 10) (by decide) c25; have ec26 := o_ne_i (n := 11) (by decide) c26; have ec27 := o_ne_i (n := 12) (by decide) c27; have ec28 := o_ne_i (n := 13) (by decide) c28; have ec29 := o_ne_i (n := 14) (by decide) c29; have ec30 := o_ne_i (n := 15) (by decide) c30; have ec38 := o_ne_i (n := 16) (by decide) c38; have ec52 := o_ne_i (n := 17) (by decide) c52; have ec53 := o_ne_i (n := 18) (by decide) c53; have ec54 := o_ne_i (n := 19) (by decide) c54; have ec55 := o_ne_i (n := 20) (by decide) c55; have ec56 := o_ne_i (n := 21) (by decide) c56; have ec57 := o_ne_i (n := 22) (by decide) c57; have ec58 := o_ne_i (n := 23) (by decide) c58; have ec59 := o_ne_i (n := 24) (by decide) c59; have ec60 := o_ne_i (n := 25) (by decide) c60; have ec61 := o_ne_i (n := 26) (by decide) c61; have ec62 := o_ne_i (n := 27) (by decide) c62; have ec63 := o_ne_i (n := 28) (by decide) c63; have ec64 := o_ne_i (n := 29) (by decide) c64; have ec66 := o_ne_i (n := 30) (by decide) c66; have ec68 := o_ne_i (n := 31) (by decide) c68; have ec69 := o_ne_i (n := 32) (by decide) c69; have ec70 := o_ne_i (n := 33) (by decide) c70; have ec71 := o_ne_i (n := 34) (by decide) c71; have ec72 := o_ne_i (n := 35) (by decide) c72; have ec73 := o_ne_i (n := 36) (by decide) c73; have ec74 := o_ne_i (n := 37) (by decide) c74; have ec75 := o_ne_i (n := 38) (by decide) c75; have ec77 := o_ne_i (n := 39) (by decide) c77; omega) (by decide) ?_
  refine lv_iconst (v := (1:Int32)) hx hb d_MM_object_730 (by decide) ?_
  cases h
  exact o_rz (v := (1:Int32)) C o_nar1 hP hS d_MM_object_731
set_option maxHeartbeats 4000000 in
set_option maxRecDepth 100000 in
theorem f_MT_member_1_b8_bb {E : (Nat → Prop) → State → Heap → Prop} {p : Program} {l : Launch} {e : Env} {s : State} {m : MethodId} {args : Array Value} {below : List Frame} {meth : Method} {c : Code} {D : va_G} {ad kd sd vd xd : Nat → Nat} {ca : Nat → ClassId} {A : Nat → Prop} {ky ty : Nat → Option Nat} {Q : State → Prop} (hE : o_EK E kd sd vd xd) (hKy : m_KY ky ty sd) (C : o_Cx E p s m args meth c D m_cls (m_tys ca) "SchemaJudgeModel$Text" b_MT_member_1 (some .int) 5 cc_MT_member_1 A) (hDD : ∀ (rt : Nat) (Ni : SNI) (Np : SNP) (No : SNO) (Nx : SNX) (Nf : SNF) (Na : SNA) (Nh : SNH) (Nq : SNQ) (Nj : SNJ) (M0 : SMT) (M1 : SMT), va_D A (m_cw ad ca ky ty rt Ni Np No Nx Nf Na Nh Nq Nj M0 M1)) (n : Nat) (u8_x3 : Int32) (u8_a0 : SMT) (u8_Ni : SNI) (u8_Np : SNP) (u8_No : SNO) (u8_Nx : SNX) (u8_Nf : SNF) (u8_Na : SNA) (u8_Nh : SNH) (u8_Nq : SNQ) (u8_Nj : SNJ) (u8_M0 : SMT) (u8_rt : Nat) (z : Int32) (q : Nat × Int32) (h : m_MT_member_1_b8 n u8_x3 u8_a0 u8_a0 z = some q) (h0 : q.1 = 0 → o_At p l e rm_MT_member_1 s m args below meth c Q m_cls D A 5 8 [] (m_cw ad ca ky ty u8_rt u8_Ni u8_Np u8_No u8_Nx u8_Nf u8_Na u8_Nh u8_Nq u8_Nj u8_M0 u8_a0) [(0, .ref (ad 48)), (2, .ref (ad 48)), (3, .int u8_x3), (4, .int q.2)]) (h1 : q.1 ≠ 0 → (if q.1 = 1 then o_At p l e rm_MT_member_1 s m args below meth c Q m_cls D A 5 29 [] (m_cw ad ca ky ty u8_rt u8_Ni u8_Np u8_No u8_Nx u8_Nf u8_Na u8_Nh u8_Nq u8_Nj u8_M0 u8_a0) [(4, .int q.2)] else o_At p l e rm_MT_member_1 s m args below meth c Q m_cls D A 5 44 [] (m_cw ad ca ky ty u8_rt u8_Ni u8_Np u8_No u8_Nx u8_Nf u8_Na u8_Nh u8_Nq u8_Nj u8_M0 u8_a0) [])) : o_At p l e rm_MT_member_1 s m args below meth c Q m_cls D A 5 8 [] (m_cw ad ca ky ty u8_rt u8_Ni u8_Np u8_No u8_Nx u8_Nf u8_Na u8_Nh u8_Nq u8_Nj u8_M0 u8_a0) [(0, .ref (ad 48)), (2, .ref (ad 48)), (3, .int u8_x3), (4, .int z)] := by
  unfold m_MT_member_1_b8 at h
  intro H locs ls hP hS hl
  have C0 := C
  obtain ⟨hx, hb, -, -, -, hown, hts, hK, -, -⟩ := C0
  refine lv_iload hx hb d_MT_member_1_8 (lv_at hl 3 rfl) ?_
  refine lv_if_lt (tgt := 44) hx hb d_MT_member_1_10 (by decide) (fun c2 => ?_) (fun c2 => ?_)
  · replace h := o_tt c2 h
    cases h
    exact h1 (Nat.succ_ne_zero 1) _ _ _ hP hS (lv_sub hl [] rfl)
  · replace h := o_ff c2 h
    refine lv_aload_n hx hb d_MT_member_1_13 rfl (lv_at hl 1 rfl) ?_
    refine lv_iload_n hx hb d_MT_member_1_14 rfl (lv_at hl 2 rfl) ?_
    refine lv_aload_n hx hb d_MT_member_1_15 rfl (lv_at hl 0 rfl) ?_
    refine lv_aload_n hx hb d_MT_member_1_16 rfl (lv_at hl 0 rfl) ?_
    refine o_get (v := .ref (ad 57)) C in_MT hP 48 mw_48 rfl 8 (by decide) k_7_116 rfl rfl d_MT_member_1_17 ?_
    refine lv_iload hx hb d_MT_member_1_20 (lv_at hl 3 rfl) ?_
    obtain ⟨g3, h⟩ := o_gd_some h
    refine o_iald (f := (MT_name u8_a0)) C hP 57 54 mw_57 rfl g3 d_MT_member_1_22 ?_
    obtain ⟨q1, hq1, h⟩ := o_bd_some h
    refine o_V (st1 := [.int q1]) (w1 := (m_cw ad ca ky ty u8_rt u8_Ni u8_Np u8_No u8_Nx u8_Nf u8_Na u8_Nh u8_Nq u8_Nj u8_M0 u8_a0)) hE.1 C (e_MT_same_bb hE hKy l n u8_x3 ((MT_name u8_a0) z.toNatClampNeg) u8_a0 u8_Ni u8_Np u8_No u8_Nx u8_Nf u8_Na u8_Nh u8_Nq u8_Nj u8_M0 u8_rt hq1) hP (hDD _ _ _ _ _ _ _ _ _ _ _ _) hS hl.1 rfl mw_48 k_9_25 k_9_26 k_9_27 k_1_13 k_9_28 hv_MT_same rfl rfl ⟨(Nat.le_of_ble_eq_true rfl), (Nat.le_of_ble_eq_true rfl)⟩ rfl (Nat.le_of_ble_eq_true rfl) ⟨Nat.zero_le _, Nat.zero_le _⟩ rfl d_MT_member_1_23 (fun H locs hP hS => ?_)
    refine lv_if_eq (tgt := 32) hx hb d_MT_member_1_26 (by decide) (fun c4 => ?_) (fun c4 => ?_)
    · replace h := o_tt c4 h
      refine lv_aload_n hx hb d_MT_member_1_32 rfl (lv_at hl 0 rfl) ?_
      refine o_get (v := .ref (ad 56)) C in_MT hP 48 mw_48 rfl 7 (by decide) k_7_114 rfl rfl d_MT_member_1_33 ?_
      refine lv_iload hx hb d_MT_member_1_36 (lv_at hl 3 rfl) ?_
      obtain ⟨g5, h⟩ := o_gd_some h
      refine o_iald (f := (MT_next u8_a0)) C hP 56 53 mw_56 rfl g5 d_MT_member_1_38 ?_
      refine lv_topi (fun x4_39 ex4_39 => ?_)
      replace h := o_nm_at ex4_39 h
      refine lv_istore (lv' := [(4, .int x4_39), (0, .ref (ad 48)), (2, .ref (ad 48)), (3, .int u8_x3)]) hx hb d_MT_member_1_39 hl (by decide) rfl (fun ls hl => ?_)
      refine lv_goto (tgt := 8) hx hb d_MT_member_1_41 (by decide) ?_
      cases h
      exact h0 rfl _ _ _ hP hS (lv_sub hl [1, 2, 3, 0] rfl)
    · replace h := o_ff c4 h
      cases h
      exact h1 (Nat.succ_ne_zero 0) _ _ _ hP hS (lv_sub hl [3] rfl)
set_option maxHeartbeats 4000000 in
set_option maxRecDepth 100000 in
theorem e_MT_member_1_bb {E : (Nat → Prop) → State → Heap → Prop} {D : va_G} {ad kd sd vd xd : Nat → Nat} {ca : Nat → ClassId} {ky ty : Nat → Option Nat} (hE : o_EK E kd sd vd xd) (hKy : m_KY ky ty sd) (l : Launch) (n : Nat) (x1 : Int32) (x3 : Int32) (a0 : SMT) (Ni : SNI) (Np : SNP) (No : SNO) (Nx : SNX) (Nf : SNF) (Na : SNA) (Nh : SNH) (Nq : SNQ) (Nj : SNJ) (M0 : SMT) (rt : Nat) {r : Int32} (h : m_MT_member_1 n x1 x3 a0 a0 = some r) : o_Cn E l D m_cls (m_tys ca) y_MT_member_1 cc_MT_member_1 rm_MT_member_1 [.ref (ad 48), .int x1, .ref (ad 48), .int x3] (m_cw ad ca ky ty rt Ni Np No Nx Nf Na Nh Nq Nj M0 a0) (m_cw ad ca ky ty rt Ni Np No Nx Nf Na Nh Nq Nj M0 a0) (some (.int r)) := by
  refine o_Cn_of (by decide) (Nat.le_of_ble_eq_true rfl) ?_
  intro p e s m below meth c A ls C hD hP hS hl
  have hDD : ∀ (rt : Nat) (Ni : SNI) (Np : SNP) (No : SNO) (Nx : SNX) (Nf : SNF) (Na : SNA) (Nh : SNH) (Nq : SNQ) (Nj : SNJ) (M0 : SMT) (M1 : SMT), va_D A (m_cw ad ca ky ty rt Ni Np No Nx Nf Na Nh Nq Nj M0 M1) := fun _ _ _ _ _ _ _ _ _ _ _ _ => o_D_map hD rfl
  have hl : lv_has ls 5 [(0, .ref (ad 48)), (1, .int x1), (2, .ref (ad 48)), (3, .int x3)] := hl
  unfold m_MT_member_1 at h
  have C0 := C
  obtain ⟨hx, hb, -, -, -, hown, hts, hK, -, -⟩ := C0
  refine lv_aload_n hx hb d_MT_member_1_0 rfl (lv_at hl 0 rfl) ?_
  refine o_get (v := .ref (ad 55)) C in_MT hP 48 mw_48 rfl 6 (by decide) k_7_112 rfl rfl d_MT_member_1_1 ?_
  refine lv_iload_n hx hb d_MT_member_1_4 rfl (lv_at hl 1 rfl) ?_
  obtain ⟨g1, h⟩ := o_gd_some h
  refine o_iald (f := (MT_first a0)) C hP 55 52 mw_55 rfl g1 d_MT_member_1_5 ?_
  refine lv_topi (fun x4_6 ex4_6 => ?_)
  replace h := o_nm_at ex4_6 h
  refine lv_istore (lv' := [(4, .int x4_6), (0, .ref (ad 48)), (1, .int x1), (2, .ref (ad 48)), (3, .int x3)]) hx hb d_MT_member_1_6 hl (by decide) rfl (fun ls hl => ?_)
  obtain ⟨q2, hq2, h⟩ := o_bd_some h
  refine o_sim2 (AH := fun zz => o_At p l e rm_MT_member_1 s m _ below meth c _ m_cls D A 5 8 [] (m_cw ad ca ky ty rt Ni Np No Nx Nf Na Nh Nq Nj M0 a0) [(0, .ref (ad 48)), (2, .ref (ad 48)), (3, .int x3), (4, .int zz)]) (AX := fun qq => if qq.1 = 1 then o_At p l e rm_MT_member_1 s m _ below meth c _ m_cls D A 5 29 [] (m_cw ad ca ky ty rt Ni Np No Nx Nf Na Nh Nq Nj M0 a0) [(4, .int qq.2)] else o_At p l e rm_MT_member_1 s m _ below meth c _ m_cls D A 5 44 [] (m_cw ad ca ky ty rt Ni Np No Nx Nf Na Nh Nq Nj M0 a0) []) (fun zz qq h h0 h1 => f_MT_member_1_b8_bb hE hKy C hDD n x3 a0 Ni Np No Nx Nf Na Nh Nq Nj M0 rt zz qq h h0 h1) n _ q2 hq2 ?_ _ _ _ hP hS (lv_sub hl [1, 3, 4, 0] rfl)
  by_cases c6 : q2.1 = 1
  · replace h := o_tt c6 h
    refine o_ip c6 ?_
    intro H locs ls hP hS hl
    refine lv_iload hx hb d_MT_member_1_29 (lv_at hl 0 rfl) ?_
    cases h
    exact o_ri C hP hS d_MT_member_1_31
  replace h := o_ff c6 h
  refine o_in_ c6 ?_
  intro H locs ls hP hS hl
  refine lv_iconst (v := (-1:Int32)) hx hb d_MT_member_1_44 (by decide) ?_
  cases h
  exact o_ri (v := (-1:Int32)) C hP hS d_MT_member_1_45
set_option maxHeartbeats 4000000 in
set_option maxRecDepth 100000 in
theorem f_MT_compare_j70_bb {E : (Nat → Prop) → State → Heap → Prop} {p : Program} {l : Launch} {e : Env} {s : State} {m : MethodId} {args : Array Value} {below : List Frame} {meth : Method} {c : Code} {D : va_G} {ad kd sd vd xd : Nat → Nat} {ca : Nat → ClassId} {A : Nat → Prop} {ky ty : Nat → Option Nat} (hE : o_EK E kd sd vd xd) (hKy : m_KY ky ty sd) (C : o_Cx E p s m args meth c D m_cls (m_tys ca) "SchemaJudgeModel$Text" b_MT_compare (some .int) 11 cc_MT_compare A) (hDD : ∀ (rt : Nat) (Ni : SNI) (Np : SNP) (No : SNO) (Nx : SNX) (Nf : SNF) (Na : SNA) (Nh : SNH) (Nq : SNQ) (Nj : SNJ) (M0 : SMT) (M1 : SMT), va_D A (m_cw ad ca ky ty rt Ni Np No Nx Nf Na Nh Nq Nj M0 M1)) (n : Nat) (x4 : Int32) (x5 : Int32) (a0 : SMT) (Ni : SNI) (Np : SNP) (No : SNO) (Nx : SNX) (Nf : SNF) (Na : SNA) (Nh : SNH) (Nq : SNQ) (Nj : SNJ) (M0 : SMT) (rt : Nat) {r : Int32} (h : m_MT_compare_j70 n x4 x5 a0 a0 = some r) : o_At p l e rm_MT_compare s m args below meth c (MQ below (o_Qx D m_cls (some (.int r)) (m_cw ad ca ky ty rt Ni Np No Nx Nf Na Nh Nq Nj M0 a0) A) args s 0 0 A) m_cls D A 11 70 [] (m_cw ad ca ky ty rt Ni Np No Nx Nf Na Nh Nq Nj M0 a0) [(4, .int x4), (5, .int x5)] := by
  unfold m_MT_compare_j70 at h
  intro H locs ls hP hS hl
  have C0 := C
  obtain ⟨hx, hb, -, -, -, hown, hts, hK, -, -⟩ := C0
  refine lv_iload hx hb d_MT_compare_70 (lv_at hl 0 rfl) ?_
  refine lv_iload hx hb d_MT_compare_72 (lv_at hl 1 rfl) ?_
  refine lv_icmp_ge (tgt := 81) hx hb d_MT_compare_74 (by decide) (fun c10 => ?_) (fun c10 => ?_)
  · replace h := o_tt c10 h
    refine lv_iload hx hb d_MT_compare_81 (lv_at hl 0 rfl) ?_
    refine lv_iload hx hb d_MT_compare_83 (lv_at hl 1 rfl) ?_
    refine lv_icmp_le (tgt := 92) hx hb d_MT_compare_85 (by decide) (fun c11 => ?_) (fun c11 => ?_)
    · replace h := o_tt c11 h
      refine lv_iconst (v := (0:Int32)) hx hb d_MT_compare_92 (by decide) ?_
      cases h
      exact o_ri (v := (0:Int32)) C hP hS d_MT_compare_93
    · replace h := o_ff c11 h
      refine lv_iconst (v := (1:Int32)) hx hb d_MT_compare_88 (by decide) ?_
      refine lv_goto (tgt := 93) hx hb d_MT_compare_89 (by decide) ?_
      cases h
      exact o_ri (v := (1:Int32)) C hP hS d_MT_compare_93
  · replace h := o_ff c10 h
    refine lv_iconst (v := (-1:Int32)) hx hb d_MT_compare_77 (by decide) ?_
    refine lv_goto (tgt := 93) hx hb d_MT_compare_78 (by decide) ?_
    cases h
    exact o_ri (v := (-1:Int32)) C hP hS d_MT_compare_93
set_option maxHeartbeats 4000000 in
set_option maxRecDepth 100000 in
theorem f_MT_compare_j232_bb {E : (Nat → Prop) → State → Heap → Prop} {p : Program} {l : Launch} {e : Env} {s : State} {m : MethodId} {args : Array Value} {below : List Frame} {meth : Method} {c : Code} {D : va_G} {ad kd sd vd xd : Nat → Nat} {ca : Nat → ClassId} {A : Nat → Prop} {ky ty : Nat → Option Nat} {Q : State → Prop} (hE : o_EK E kd sd vd xd) (hKy : m_KY ky ty sd) (C : o_Cx E p s m args meth c D m_cls (m_tys ca) "SchemaJudgeModel$Text" b_MT_compare (some .int) 11 cc_MT_compare A) (hDD : ∀ (rt : Nat) (Ni : SNI) (Np : SNP) (No : SNO) (Nx : SNX) (Nf : SNF) (Na : SNA) (Nh : SNH) (Nq : SNQ) (Nj : SNJ) (M0 : SMT) (M1 : SMT), va_D A (m_cw ad ca ky ty rt Ni Np No Nx Nf Na Nh Nq Nj M0 M1)) (n : Nat) (u150_x1 : Int32) (u150_x3 : Int32) (u150_x4 : Int32) (u150_a0 : SMT) (u150_Ni : SNI) (u150_Np : SNP) (u150_No : SNO) (u150_Nx : SNX) (u150_Nf : SNF) (u150_Na : SNA) (u150_Nh : SNH) (u150_Nq : SNQ) (u150_Nj : SNJ) (u150_M0 : SMT) (u150_rt : Nat) (x8 : Int32) (x9 : Int32) (y0 : Int32) {q : Nat × Int32 × Int32 × Int32} (h : m_MT_compare_j232 n u150_x1 u150_x3 u150_x4 x8 x9 y0 u150_a0 u150_a0 = some q) (h0 : q.1 = 0 → o_At p l e rm_MT_compare s m args below meth c Q m_cls D A 11 150 [] (m_cw ad ca ky ty u150_rt u150_Ni u150_Np u150_No u150_Nx u150_Nf u150_Na u150_Nh u150_Nq u150_Nj u150_M0 u150_a0) [(0, .ref (ad 48)), (1, .int u150_x1), (2, .ref (ad 48)), (3, .int u150_x3), (4, .int u150_x4), (8, .int q.2.1)]) (h1 : q.1 ≠ 0 → (if q.1 = 1 then o_At p l e rm_MT_compare s m args below meth c Q m_cls D A 11 241 [] (m_cw ad ca ky ty u150_rt u150_Ni u150_Np u150_No u150_Nx u150_Nf u150_Na u150_Nh u150_Nq u150_Nj u150_M0 u150_a0) [(4, .int u150_x4), (9, .int q.2.2.1), (10, .int q.2.2.2)] else o_At p l e rm_MT_compare s m args below meth c Q m_cls D A 11 263 [] (m_cw ad ca ky ty u150_rt u150_Ni u150_Np u150_No u150_Nx u150_Nf u150_Na u150_Nh u150_Nq u150_Nj u150_M0 u150_a0) [])) : o_At p l e rm_MT_compare s m args below meth c Q m_cls D A 11 232 [.int y0] (m_cw ad ca ky ty u150_rt u150_Ni u150_Np u150_No u150_Nx u150_Nf u150_Na u150_Nh u150_Nq u150_Nj u150_M0 u150_a0) [(0, .ref (ad 48)), (1, .int u150_x1), (2, .ref (ad 48)), (3, .int u150_x3), (4, .int u150_x4), (8, .int x8), (9, .int x9)] := by
  unfold m_MT_compare_j232 at h
  intro H locs ls hP hS hl
  have C0 := C
  obtain ⟨hx, hb, -, -, -, hown, hts, hK, -, -⟩ := C0
  refine lv_istore (lv' := [(10, .int y0), (0, .ref (ad 48)), (1, .int u150_x1), (2, .ref (ad 48)), (3, .int u150_x3), (4, .int u150_x4), (8, .int x8), (9, .int x9)]) hx hb d_MT_compare_232 hl (by decide) rfl (fun ls hl => ?_)
  refine lv_iload hx hb d_MT_compare_234 (lv_at hl 7 rfl) ?_
  refine lv_iload hx hb d_MT_compare_236 (lv_at hl 0 rfl) ?_
  refine lv_icmp_eq (tgt := 257) hx hb d_MT_compare_238 (by decide) (fun c24 => ?_) (fun c24 => ?_)
  · replace h := o_tt c24 h
    obtain ⟨x8_257, ex8_257⟩ : ∃ y : Int32, y = x8 + (1:Int32) := ⟨_, rfl⟩
    replace h := o_nm_at ex8_257 h
    refine lv_iinc (v := x8_257) (lv' := [(8, .int x8_257), (10, .int y0), (0, .ref (ad 48)), (1, .int u150_x1), (2, .ref (ad 48)), (3, .int u150_x3), (4, .int u150_x4), (9, .int x9)]) hx hb d_MT_compare_257 hl (k := 6) rfl (by rw [ex8_257]; rfl) (by decide) rfl (fun ls hl => ?_)
    refine lv_goto (tgt := 150) hx hb d_MT_compare_260 (by decide) ?_
    cases h
    exact h0 rfl _ _ _ hP hS (lv_sub hl [2, 3, 4, 5, 6, 0] rfl)
  · replace h := o_ff c24 h
    cases h
    exact h1 (Nat.succ_ne_zero 0) _ _ _ hP hS (lv_sub hl [5, 7, 0] rfl)
set_option maxHeartbeats 4000000 in
set_option maxRecDepth 100000 in
theorem f_MT_compare_j201_bb {E : (Nat → Prop) → State → Heap → Prop} {p : Program} {l : Launch} {e : Env} {s : State} {m : MethodId} {args : Array Value} {below : List Frame} {meth : Method} {c : Code} {D : va_G} {ad kd sd vd xd : Nat → Nat} {ca : Nat → ClassId} {A : Nat → Prop} {ky ty : Nat → Option Nat} {Q : State → Prop} (hE : o_EK E kd sd vd xd) (hKy : m_KY ky ty sd) (C : o_Cx E p s m args meth c D m_cls (m_tys ca) "SchemaJudgeModel$Text" b_MT_compare (some .int) 11 cc_MT_compare A) (hDD : ∀ (rt : Nat) (Ni : SNI) (Np : SNP) (No : SNO) (Nx : SNX) (Nf : SNF) (Na : SNA) (Nh : SNH) (Nq : SNQ) (Nj : SNJ) (M0 : SMT) (M1 : SMT), va_D A (m_cw ad ca ky ty rt Ni Np No Nx Nf Na Nh Nq Nj M0 M1)) (n : Nat) (u150_x1 : Int32) (u150_x3 : Int32) (u150_x4 : Int32) (u150_a0 : SMT) (u150_Ni : SNI) (u150_Np : SNP) (u150_No : SNO) (u150_Nx : SNX) (u150_Nf : SNF) (u150_Na : SNA) (u150_Nh : SNH) (u150_Nq : SNQ) (u150_Nj : SNJ) (u150_M0 : SMT) (u150_rt : Nat) (x8 : Int32) (y0 : Int32) {q : Nat × Int32 × Int32 × Int32} (h : m_MT_compare_j201 n u150_x1 u150_x3 u150_x4 x8 y0 u150_a0 u150_a0 = some q) (h0 : q.1 = 0 → o_At p l e rm_MT_compare s m args below meth c Q m_cls D A 11 150 [] (m_cw ad ca ky ty u150_rt u150_Ni u150_Np u150_No u150_Nx u150_Nf u150_Na u150_Nh u150_Nq u150_Nj u150_M0 u150_a0) [(0, .ref (ad 48)), (1, .int u150_x1), (2, .ref (ad 48)), (3, .int u150_x3), (4, .int u150_x4), (8, .int q.2.1)]) (h1 : q.1 ≠ 0 → (if q.1 = 1 then o_At p l e rm_MT_compare s m args below meth c Q m_cls D A 11 241 [] (m_cw ad ca ky ty u150_rt u150_Ni u150_Np u150_No u150_Nx u150_Nf u150_Na u150_Nh u150_Nq u150_Nj u150_M0 u150_a0) [(4, .int u150_x4), (9, .int q.2.2.1), (10, .int q.2.2.2)] else o_At p l e rm_MT_compare s m args below meth c Q m_cls D A 11 263 [] (m_cw ad ca ky ty u150_rt u150_Ni u150_Np u150_No u150_Nx u150_Nf u150_Na u150_Nh u150_Nq u150_Nj u150_M0 u150_a0) [])) : o_At p l e rm_MT_compare s m args below meth c Q m_cls D A 11 201 [.int y0] (m_cw ad ca ky ty u150_rt u150_Ni u150_Np u150_No u150_Nx u150_Nf u150_Na u150_Nh u150_Nq u150_Nj u150_M0 u150_a0) [(0, .ref (ad 48)), (1, .int u150_x1), (2, .ref (ad 48)), (3, .int u150_x3), (4, .int u150_x4), (8, .int x8)] := by
  unfold m_MT_compare_j201 at h
  intro H locs ls hP hS hl
  have C0 := C
  obtain ⟨hx, hb, -, -, -, hown, hts, hK, -, -⟩ := C0
  refine lv_istore (lv' := [(9, .int y0), (0, .ref (ad 48)), (1, .int u150_x1), (2, .ref (ad 48)), (3, .int u150_x3), (4, .int u150_x4), (8, .int x8)]) hx hb d_MT_compare_201 hl (by decide) rfl (fun ls hl => ?_)
  refine lv_iload hx hb d_MT_compare_203 (lv_at hl 6 rfl) ?_
  refine lv_aload_n hx hb d_MT_compare_205 rfl (lv_at hl 3 rfl) ?_
  refine o_get (v := .ref (ad 52)) C in_MT hP 48 mw_48 rfl 3 (by decide) k_7_106 rfl rfl d_MT_compare_206 ?_
  refine lv_iload_n hx hb d_MT_compare_209 rfl (lv_at hl 4 rfl) ?_
  obtain ⟨g22, h⟩ := o_gd_some h
  refine o_iald (f := (MT_many u150_a0)) C hP 52 49 mw_52 rfl g22 d_MT_compare_210 ?_
  refine lv_icmp_ge (tgt := 231) hx hb d_MT_compare_211 (by decide) (fun c23 => ?_) (fun c23 => ?_)
  · replace h := o_tt c23 h
    refine lv_iconst (v := (0:Int32)) hx hb d_MT_compare_231 (by decide) ?_
    exact f_MT_compare_j232_bb hE hKy C hDD n u150_x1 u150_x3 u150_x4 u150_a0 u150_Ni u150_Np u150_No u150_Nx u150_Nf u150_Na u150_Nh u150_Nq u150_Nj u150_M0 u150_rt x8 y0 (0:Int32) h h0 h1 _ _ _ hP hS (lv_sub hl [1, 2, 3, 4, 5, 6, 0] rfl)
  · replace h := o_ff c23 h
    refine lv_aload_n hx hb d_MT_compare_214 rfl (lv_at hl 3 rfl) ?_
    refine o_get (v := .ref (ad 60)) C in_MT hP 48 mw_48 rfl 11 (by decide) k_7_122 rfl rfl d_MT_compare_215 ?_
    refine lv_aload_n hx hb d_MT_compare_218 rfl (lv_at hl 3 rfl) ?_
    refine o_get (v := .ref (ad 58)) C in_MT hP 48 mw_48 rfl 9 (by decide) k_7_118 rfl rfl d_MT_compare_219 ?_
    refine lv_iload_n hx hb d_MT_compare_222 rfl (lv_at hl 4 rfl) ?_
    obtain ⟨g25, h⟩ := o_gd_some h
    refine o_iald (f := (MT_from u150_a0)) C hP 58 55 mw_58 rfl g25 d_MT_compare_223 ?_
    refine lv_iload hx hb d_MT_compare_224 (lv_at hl 6 rfl) ?_
    refine lv_iadd hx hb d_MT_compare_226 ?_
    obtain ⟨g26, h⟩ := o_gd_some h
    refine o_iald (f := (MT_digits u150_a0)) C hP 60 57 mw_60 rfl g26 d_MT_compare_227 ?_
    refine lv_goto (tgt := 232) hx hb d_MT_compare_228 (by decide) ?_
    exact f_MT_compare_j232_bb hE hKy C hDD n u150_x1 u150_x3 u150_x4 u150_a0 u150_Ni u150_Np u150_No u150_Nx u150_Nf u150_Na u150_Nh u150_Nq u150_Nj u150_M0 u150_rt x8 y0 ((MT_digits u150_a0) (((MT_from u150_a0) u150_x3.toNatClampNeg) + x8).toNatClampNeg) h h0 h1 _ _ _ hP hS (lv_sub hl [1, 2, 3, 4, 5, 6, 0] rfl)
set_option maxHeartbeats 4000000 in
set_option maxRecDepth 100000 in
theorem f_MT_compare_j172_bb {E : (Nat → Prop) → State → Heap → Prop} {p : Program} {l : Launch} {e : Env} {s : State} {m : MethodId} {args : Array Value} {below : List Frame} {meth : Method} {c : Code} {D : va_G} {ad kd sd vd xd : Nat → Nat} {ca : Nat → ClassId} {A : Nat → Prop} {ky ty : Nat → Option Nat} {Q : State → Prop} (hE : o_EK E kd sd vd xd) (hKy : m_KY ky ty sd) (C : o_Cx E p s m args meth c D m_cls (m_tys ca) "SchemaJudgeModel$Text" b_MT_compare (some .int) 11 cc_MT_compare A) (hDD : ∀ (rt : Nat) (Ni : SNI) (Np : SNP) (No : SNO) (Nx : SNX) (Nf : SNF) (Na : SNA) (Nh : SNH) (Nq : SNQ) (Nj : SNJ) (M0 : SMT) (M1 : SMT), va_D A (m_cw ad ca ky ty rt Ni Np No Nx Nf Na Nh Nq Nj M0 M1)) (n : Nat) (u150_x1 : Int32) (u150_x3 : Int32) (u150_x4 : Int32) (u150_a0 : SMT) (u150_Ni : SNI) (u150_Np : SNP) (u150_No : SNO) (u150_Nx : SNX) (u150_Nf : SNF) (u150_Na : SNA) (u150_Nh : SNH) (u150_Nq : SNQ) (u150_Nj : SNJ) (u150_M0 : SMT) (u150_rt : Nat) (x8 : Int32) {q : Nat × Int32 × Int32 × Int32} (h : m_MT_compare_j172 n u150_x1 u150_x3 u150_x4 x8 u150_a0 u150_a0 = some q) (h0 : q.1 = 0 → o_At p l e rm_MT_compare s m args below meth c Q m_cls D A 11 150 [] (m_cw ad ca ky ty u150_rt u150_Ni u150_Np u150_No u150_Nx u150_Nf u150_Na u150_Nh u150_Nq u150_Nj u150_M0 u150_a0) [(0, .ref (ad 48)), (1, .int u150_x1), (2, .ref (ad 48)), (3, .int u150_x3), (4, .int u150_x4), (8, .int q.2.1)]) (h1 : q.1 ≠ 0 → (if q.1 = 1 then o_At p l e rm_MT_compare s m args below meth c Q m_cls D A 11 241 [] (m_cw ad ca ky ty u150_rt u150_Ni u150_Np u150_No u150_Nx u150_Nf u150_Na u150_Nh u150_Nq u150_Nj u150_M0 u150_a0) [(4, .int u150_x4), (9, .int q.2.2.1), (10, .int q.2.2.2)] else o_At p l e rm_MT_compare s m args below meth c Q m_cls D A 11 263 [] (m_cw ad ca ky ty u150_rt u150_Ni u150_Np u150_No u150_Nx u150_Nf u150_Na u150_Nh u150_Nq u150_Nj u150_M0 u150_a0) [])) : o_At p l e rm_MT_compare s m args below meth c Q m_cls D A 11 172 [] (m_cw ad ca ky ty u150_rt u150_Ni u150_Np u150_No u150_Nx u150_Nf u150_Na u150_Nh u150_Nq u150_Nj u150_M0 u150_a0) [(0, .ref (ad 48)), (1, .int u150_x1), (2, .ref (ad 48)), (3, .int u150_x3), (4, .int u150_x4), (8, .int x8)] := by
  unfold m_MT_compare_j172 at h
  intro H locs ls hP hS hl
  have C0 := C
  obtain ⟨hx, hb, -, -, -, hown, hts, hK, -, -⟩ := C0
  refine lv_iload hx hb d_MT_compare_172 (lv_at hl 5 rfl) ?_
  refine lv_aload_n hx hb d_MT_compare_174 rfl (lv_at hl 0 rfl) ?_
  refine o_get (v := .ref (ad 52)) C in_MT hP 48 mw_48 rfl 3 (by decide) k_7_106 rfl rfl d_MT_compare_175 ?_
  refine lv_iload_n hx hb d_MT_compare_178 rfl (lv_at hl 1 rfl) ?_
  obtain ⟨g20, h⟩ := o_gd_some h
  refine o_iald (f := (MT_many u150_a0)) C hP 52 49 mw_52 rfl g20 d_MT_compare_179 ?_
  refine lv_icmp_ge (tgt := 200) hx hb d_MT_compare_180 (by decide) (fun c21 => ?_) (fun c21 => ?_)
  · replace h := o_tt c21 h
    refine lv_iconst (v := (0:Int32)) hx hb d_MT_compare_200 (by decide) ?_
    exact f_MT_compare_j201_bb hE hKy C hDD n u150_x1 u150_x3 u150_x4 u150_a0 u150_Ni u150_Np u150_No u150_Nx u150_Nf u150_Na u150_Nh u150_Nq u150_Nj u150_M0 u150_rt x8 (0:Int32) h h0 h1 _ _ _ hP hS (lv_sub hl [0, 1, 2, 3, 4, 5] rfl)
  · replace h := o_ff c21 h
    refine lv_aload_n hx hb d_MT_compare_183 rfl (lv_at hl 0 rfl) ?_
    refine o_get (v := .ref (ad 60)) C in_MT hP 48 mw_48 rfl 11 (by decide) k_7_122 rfl rfl d_MT_compare_184 ?_
    refine lv_aload_n hx hb d_MT_compare_187 rfl (lv_at hl 0 rfl) ?_
    refine o_get (v := .ref (ad 58)) C in_MT hP 48 mw_48 rfl 9 (by decide) k_7_118 rfl rfl d_MT_compare_188 ?_
    refine lv_iload_n hx hb d_MT_compare_191 rfl (lv_at hl 1 rfl) ?_
    obtain ⟨g27, h⟩ := o_gd_some h
    refine o_iald (f := (MT_from u150_a0)) C hP 58 55 mw_58 rfl g27 d_MT_compare_192 ?_
    refine lv_iload hx hb d_MT_compare_193 (lv_at hl 5 rfl) ?_
    refine lv_iadd hx hb d_MT_compare_195 ?_
    obtain ⟨g28, h⟩ := o_gd_some h
    refine o_iald (f := (MT_digits u150_a0)) C hP 60 57 mw_60 rfl g28 d_MT_compare_196 ?_
    refine lv_goto (tgt := 201) hx hb d_MT_compare_197 (by decide) ?_
    exact f_MT_compare_j201_bb hE hKy C hDD n u150_x1 u150_x3 u150_x4 u150_a0 u150_Ni u150_Np u150_No u150_Nx u150_Nf u150_Na u150_Nh u150_Nq u150_Nj u150_M0 u150_rt x8 ((MT_digits u150_a0) (((MT_from u150_a0) u150_x1.toNatClampNeg) + x8).toNatClampNeg) h h0 h1 _ _ _ hP hS (lv_sub hl [0, 1, 2, 3, 4, 5] rfl)
set_option maxHeartbeats 4000000 in
set_option maxRecDepth 100000 in
theorem f_MT_compare_b150_bb {E : (Nat → Prop) → State → Heap → Prop} {p : Program} {l : Launch} {e : Env} {s : State} {m : MethodId} {args : Array Value} {below : List Frame} {meth : Method} {c : Code} {D : va_G} {ad kd sd vd xd : Nat → Nat} {ca : Nat → ClassId} {A : Nat → Prop} {ky ty : Nat → Option Nat} {Q : State → Prop} (hE : o_EK E kd sd vd xd) (hKy : m_KY ky ty sd) (C : o_Cx E p s m args meth c D m_cls (m_tys ca) "SchemaJudgeModel$Text" b_MT_compare (some .int) 11 cc_MT_compare A) (hDD : ∀ (rt : Nat) (Ni : SNI) (Np : SNP) (No : SNO) (Nx : SNX) (Nf : SNF) (Na : SNA) (Nh : SNH) (Nq : SNQ) (Nj : SNJ) (M0 : SMT) (M1 : SMT), va_D A (m_cw ad ca ky ty rt Ni Np No Nx Nf Na Nh Nq Nj M0 M1)) (n : Nat) (u150_x1 : Int32) (u150_x3 : Int32) (u150_x4 : Int32) (u150_a0 : SMT) (u150_Ni : SNI) (u150_Np : SNP) (u150_No : SNO) (u150_Nx : SNX) (u150_Nf : SNF) (u150_Na : SNA) (u150_Nh : SNH) (u150_Nq : SNQ) (u150_Nj : SNJ) (u150_M0 : SMT) (u150_rt : Nat) (z : Int32 × Int32 × Int32) (q : Nat × Int32 × Int32 × Int32) (h : m_MT_compare_b150 n u150_x1 u150_x3 u150_x4 u150_a0 u150_a0 z = some q) (h0 : q.1 = 0 → o_At p l e rm_MT_compare s m args below meth c Q m_cls D A 11 150 [] (m_cw ad ca ky ty u150_rt u150_Ni u150_Np u150_No u150_Nx u150_Nf u150_Na u150_Nh u150_Nq u150_Nj u150_M0 u150_a0) [(0, .ref (ad 48)), (1, .int u150_x1), (2, .ref (ad 48)), (3, .int u150_x3), (4, .int u150_x4), (8, .int q.2.1)]) (h1 : q.1 ≠ 0 → (if q.1 = 1 then o_At p l e rm_MT_compare s m args below meth c Q m_cls D A 11 241 [] (m_cw ad ca ky ty u150_rt u150_Ni u150_Np u150_No u150_Nx u150_Nf u150_Na u150_Nh u150_Nq u150_Nj u150_M0 u150_a0) [(4, .int u150_x4), (9, .int q.2.2.1), (10, .int q.2.2.2)] else o_At p l e rm_MT_compare s m args below meth c Q m_cls D A 11 263 [] (m_cw ad ca ky ty u150_rt u150_Ni u150_Np u150_No u150_Nx u150_Nf u150_Na u150_Nh u150_Nq u150_Nj u150_M0 u150_a0) [])) : o_At p l e rm_MT_compare s m args below meth c Q m_cls D A 11 150 [] (m_cw ad ca ky ty u150_rt u150_Ni u150_Np u150_No u150_Nx u150_Nf u150_Na u150_Nh u150_Nq u150_Nj u150_M0 u150_a0) [(0, .ref (ad 48)), (1, .int u150_x1), (2, .ref (ad 48)), (3, .int u150_x3), (4, .int u150_x4), (8, .int z.1)] := by
  unfold m_MT_compare_b150 at h
  intro H locs ls hP hS hl
  have C0 := C
  obtain ⟨hx, hb, -, -, -, hown, hts, hK, -, -⟩ := C0
  refine lv_iload hx hb d_MT_compare_150 (lv_at hl 5 rfl) ?_
  refine lv_aload_n hx hb d_MT_compare_152 rfl (lv_at hl 0 rfl) ?_
  refine o_get (v := .ref (ad 52)) C in_MT hP 48 mw_48 rfl 3 (by decide) k_7_106 rfl rfl d_MT_compare_153 ?_
  refine lv_iload_n hx hb d_MT_compare_156 rfl (lv_at hl 1 rfl) ?_
  obtain ⟨g18, h⟩ := o_gd_some h
  refine o_iald (f := (MT_many u150_a0)) C hP 52 49 mw_52 rfl g18 d_MT_compare_157 ?_
  refine lv_icmp_lt (tgt := 172) hx hb d_MT_compare_158 (by decide) (fun c19 => ?_) (fun c19 => ?_)
  · replace h := o_tt c19 h
    exact f_MT_compare_j172_bb hE hKy C hDD n u150_x1 u150_x3 u150_x4 u150_a0 u150_Ni u150_Np u150_No u150_Nx u150_Nf u150_Na u150_Nh u150_Nq u150_Nj u150_M0 u150_rt z.1 h h0 h1 _ _ _ hP hS (lv_sub hl [0, 1, 2, 3, 4, 5] rfl)
  · replace h := o_ff c19 h
    refine lv_iload hx hb d_MT_compare_161 (lv_at hl 5 rfl) ?_
    refine lv_aload_n hx hb d_MT_compare_163 rfl (lv_at hl 2 rfl) ?_
    refine o_get (v := .ref (ad 52)) C in_MT hP 48 mw_48 rfl 3 (by decide) k_7_106 rfl rfl d_MT_compare_164 ?_
    refine lv_iload_n hx hb d_MT_compare_167 rfl (lv_at hl 3 rfl) ?_
    obtain ⟨g29, h⟩ := o_gd_some h
    refine o_iald (f := (MT_many u150_a0)) C hP 52 49 mw_52 rfl g29 d_MT_compare_168 ?_
    refine lv_icmp_ge (tgt := 263) hx hb d_MT_compare_169 (by decide) (fun c30 => ?_) (fun c30 => ?_)
    · replace h := o_tt c30 h
      cases h
      exact h1 (Nat.succ_ne_zero 1) _ _ _ hP hS (lv_sub hl [] rfl)
    · replace h := o_ff c30 h
      exact f_MT_compare_j172_bb hE hKy C hDD n u150_x1 u150_x3 u150_x4 u150_a0 u150_Ni u150_Np u150_No u150_Nx u150_Nf u150_Na u150_Nh u150_Nq u150_Nj u150_M0 u150_rt z.1 h h0 h1 _ _ _ hP hS (lv_sub hl [0, 1, 2, 3, 4, 5] rfl)
set_option maxHeartbeats 4000000 in
set_option maxRecDepth 100000 in
theorem f_MT_compare_j56_bb {E : (Nat → Prop) → State → Heap → Prop} {p : Program} {l : Launch} {e : Env} {s : State} {m : MethodId} {args : Array Value} {below : List Frame} {meth : Method} {c : Code} {D : va_G} {ad kd sd vd xd : Nat → Nat} {ca : Nat → ClassId} {A : Nat → Prop} {ky ty : Nat → Option Nat} (hE : o_EK E kd sd vd xd) (hKy : m_KY ky ty sd) (C : o_Cx E p s m args meth c D m_cls (m_tys ca) "SchemaJudgeModel$Text" b_MT_compare (some .int) 11 cc_MT_compare A) (hDD : ∀ (rt : Nat) (Ni : SNI) (Np : SNP) (No : SNO) (Nx : SNX) (Nf : SNF) (Na : SNA) (Nh : SNH) (Nq : SNQ) (Nj : SNJ) (M0 : SMT) (M1 : SMT), va_D A (m_cw ad ca ky ty rt Ni Np No Nx Nf Na Nh Nq Nj M0 M1)) (n : Nat) (x1 : Int32) (x3 : Int32) (x4 : Int32) (y0 : Int32) (a0 : SMT) (Ni : SNI) (Np : SNP) (No : SNO) (Nx : SNX) (Nf : SNF) (Na : SNA) (Nh : SNH) (Nq : SNQ) (Nj : SNJ) (M0 : SMT) (rt : Nat) {r : Int32} (h : m_MT_compare_j56 n x1 x3 x4 y0 a0 a0 = some r) : o_At p l e rm_MT_compare s m args below meth c (MQ below (o_Qx D m_cls (some (.int r)) (m_cw ad ca ky ty rt Ni Np No Nx Nf Na Nh Nq Nj M0 a0) A) args s 0 0 A) m_cls D A 11 56 [.int y0] (m_cw ad ca ky ty rt Ni Np No Nx Nf Na Nh Nq Nj M0 a0) [(0, .ref (ad 48)), (1, .int x1), (2, .ref (ad 48)), (3, .int x3), (4, .int x4)] := by
  unfold m_MT_compare_j56 at h
  intro H locs ls hP hS hl
  have C0 := C
  obtain ⟨hx, hb, -, -, -, hown, hts, hK, -, -⟩ := C0
  refine lv_istore (lv' := [(5, .int y0), (0, .ref (ad 48)), (1, .int x1), (2, .ref (ad 48)), (3, .int x3), (4, .int x4)]) hx hb d_MT_compare_56 hl (by decide) rfl (fun ls hl => ?_)
  refine lv_iload hx hb d_MT_compare_58 (lv_at hl 5 rfl) ?_
  refine lv_iload hx hb d_MT_compare_60 (lv_at hl 0 rfl) ?_
  refine lv_icmp_ne (tgt := 70) hx hb d_MT_compare_62 (by decide) (fun c9 => ?_) (fun c9 => ?_)
  · replace h := o_ff c9 h
    exact f_MT_compare_j70_bb hE hKy C hDD n x4 y0 a0 Ni Np No Nx Nf Na Nh Nq Nj M0 rt h _ _ _ hP hS (lv_sub hl [5, 0] rfl)
  · replace h := o_tt c9 h
    refine lv_iload hx hb d_MT_compare_65 (lv_at hl 5 rfl) ?_
    refine lv_if_ne (tgt := 94) hx hb d_MT_compare_67 (by decide) (fun c12 => ?_) (fun c12 => ?_)
    · replace h := o_ff c12 h
      refine lv_aload_n hx hb d_MT_compare_94 rfl (lv_at hl 1 rfl) ?_
      refine o_get (v := .ref (ad 52)) C in_MT hP 48 mw_48 rfl 3 (by decide) k_7_106 rfl rfl d_MT_compare_95 ?_
      refine lv_iload_n hx hb d_MT_compare_98 rfl (lv_at hl 2 rfl) ?_
      obtain ⟨g13, h⟩ := o_gd_some h
      refine o_iald (f := (MT_many a0)) C hP 52 49 mw_52 rfl g13 d_MT_compare_99 ?_
      refine lv_aload_n hx hb d_MT_compare_100 rfl (lv_at hl 1 rfl) ?_
      refine o_get (v := .ref (ad 54)) C in_MT hP 48 mw_48 rfl 5 (by decide) k_7_110 rfl rfl d_MT_compare_101 ?_
      refine lv_iload_n hx hb d_MT_compare_104 rfl (lv_at hl 2 rfl) ?_
      obtain ⟨g14, h⟩ := o_gd_some h
      refine o_iald (f := (MT_power a0)) C hP 54 51 mw_54 rfl g14 d_MT_compare_105 ?_
      refine lv_iadd hx hb d_MT_compare_106 ?_
      refine lv_topi (fun x6_107 ex6_107 => ?_)
      replace h := o_nm_at ex6_107 h
      refine lv_istore (lv' := [(6, .int x6_107), (5, .int y0), (0, .ref (ad 48)), (1, .int x1), (2, .ref (ad 48)), (3, .int x3), (4, .int x4)]) hx hb d_MT_compare_107 hl (by decide) rfl (fun ls hl => ?_)
      refine lv_aload_n hx hb d_MT_compare_109 rfl (lv_at hl 4 rfl) ?_
      refine o_get (v := .ref (ad 52)) C in_MT hP 48 mw_48 rfl 3 (by decide) k_7_106 rfl rfl d_MT_compare_110 ?_
      refine lv_iload_n hx hb d_MT_compare_113 rfl (lv_at hl 5 rfl) ?_
      obtain ⟨g15, h⟩ := o_gd_some h
      refine o_iald (f := (MT_many a0)) C hP 52 49 mw_52 rfl g15 d_MT_compare_114 ?_
      refine lv_aload_n hx hb d_MT_compare_115 rfl (lv_at hl 4 rfl) ?_
      refine o_get (v := .ref (ad 54)) C in_MT hP 48 mw_48 rfl 5 (by decide) k_7_110 rfl rfl d_MT_compare_116 ?_
      refine lv_iload_n hx hb d_MT_compare_119 rfl (lv_at hl 5 rfl) ?_
      obtain ⟨g16, h⟩ := o_gd_some h
      refine o_iald (f := (MT_power a0)) C hP 54 51 mw_54 rfl g16 d_MT_compare_120 ?_
      refine lv_iadd hx hb d_MT_compare_121 ?_
      refine lv_topi (fun x7_122 ex7_122 => ?_)
      replace h := o_nm_at ex7_122 h
      refine lv_istore (lv' := [(7, .int x7_122), (6, .int x6_107), (5, .int y0), (0, .ref (ad 48)), (1, .int x1), (2, .ref (ad 48)), (3, .int x3), (4, .int x4)]) hx hb d_MT_compare_122 hl (by decide) rfl (fun ls hl => ?_)
      refine lv_iload hx hb d_MT_compare_124 (lv_at hl 1 rfl) ?_
      refine lv_iload hx hb d_MT_compare_126 (lv_at hl 0 rfl) ?_
      refine lv_icmp_eq (tgt := 147) hx hb d_MT_compare_128 (by decide) (fun c17 => ?_) (fun c17 => ?_)
      · replace h := o_tt c17 h
        refine lv_iconst (v := (0:Int32)) hx hb d_MT_compare_147 (by decide) ?_
        refine lv_istore (lv' := [(8, .int (0:Int32)), (7, .int x7_122), (6, .int x6_107), (5, .int y0), (0, .ref (ad 48)), (1, .int x1), (2, .ref (ad 48)), (3, .int x3), (4, .int x4)]) hx hb d_MT_compare_148 hl (by decide) rfl (fun ls hl => ?_)
        obtain ⟨q1, hq1, h⟩ := o_bd_some h
        refine o_sim2 (AH := fun zz => o_At p l e rm_MT_compare s m args below meth c _ m_cls D A 11 150 [] (m_cw ad ca ky ty rt Ni Np No Nx Nf Na Nh Nq Nj M0 a0) [(0, .ref (ad 48)), (1, .int x1), (2, .ref (ad 48)), (3, .int x3), (4, .int x4), (8, .int zz.1)]) (AX := fun qq => if qq.1 = 1 then o_At p l e rm_MT_compare s m args below meth c _ m_cls D A 11 241 [] (m_cw ad ca ky ty rt Ni Np No Nx Nf Na Nh Nq Nj M0 a0) [(4, .int x4), (9, .int qq.2.2.1), (10, .int qq.2.2.2)] else o_At p l e rm_MT_compare s m args below meth c _ m_cls D A 11 263 [] (m_cw ad ca ky ty rt Ni Np No Nx Nf Na Nh Nq Nj M0 a0) []) (fun zz qq h h0 h1 => f_MT_compare_b150_bb hE hKy C hDD n x1 x3 x4 a0 Ni Np No Nx Nf Na Nh Nq Nj M0 rt zz qq h h0 h1) n _ q1 hq1 ?_ _ _ _ hP hS (lv_sub hl [4, 5, 6, 7, 8, 0] rfl)
        by_cases c32 : q1.1 = 1
        · replace h := o_tt c32 h
          refine o_ip c32 ?_
          intro H locs ls hP hS hl
          refine lv_iload hx hb d_MT_compare_241 (lv_at hl 1 rfl) ?_
          refine lv_iload hx hb d_MT_compare_243 (lv_at hl 2 rfl) ?_
          refine lv_icmp_ge (tgt := 254) hx hb d_MT_compare_245 (by decide) (fun c31 => ?_) (fun c31 => ?_)
          · replace h := o_tt c31 h
            refine lv_iload hx hb d_MT_compare_254 (lv_at hl 0 rfl) ?_
            cases h
            exact o_ri C hP hS d_MT_compare_256
          · replace h := o_ff c31 h
            refine lv_iload hx hb d_MT_compare_248 (lv_at hl 0 rfl) ?_
            refine lv_ineg hx hb d_MT_compare_250 ?_
            refine lv_goto (tgt := 256) hx hb d_MT_compare_251 (by decide) ?_
            cases h
            exact o_ri (v := (-x4)) C hP hS d_MT_compare_256
        replace h := o_ff c32 h
        refine o_in_ c32 ?_
        intro H locs ls hP hS hl
        refine lv_iconst (v := (0:Int32)) hx hb d_MT_compare_263 (by decide) ?_
        cases h
        exact o_ri (v := (0:Int32)) C hP hS d_MT_compare_264
      · replace h := o_ff c17 h
        refine lv_iload hx hb d_MT_compare_131 (lv_at hl 1 rfl) ?_
        refine lv_iload hx hb d_MT_compare_133 (lv_at hl 0 rfl) ?_
        refine lv_icmp_ge (tgt := 144) hx hb d_MT_compare_135 (by decide) (fun c33 => ?_) (fun c33 => ?_)
        · replace h := o_tt c33 h
          refine lv_iload hx hb d_MT_compare_144 (lv_at hl 7 rfl) ?_
          cases h
          exact o_ri C hP hS d_MT_compare_146
        · replace h := o_ff c33 h
          refine lv_iload hx hb d_MT_compare_138 (lv_at hl 7 rfl) ?_
          refine lv_ineg hx hb d_MT_compare_140 ?_
          refine lv_goto (tgt := 146) hx hb d_MT_compare_141 (by decide) ?_
          cases h
          exact o_ri (v := (-x4)) C hP hS d_MT_compare_146
    · replace h := o_tt c12 h
      exact f_MT_compare_j70_bb hE hKy C hDD n x4 y0 a0 Ni Np No Nx Nf Na Nh Nq Nj M0 rt h _ _ _ hP hS (lv_sub hl [5, 0] rfl)
set_option maxHeartbeats 4000000 in
set_option maxRecDepth 100000 in
theorem f_MT_compare_j27_bb {E : (Nat → Prop) → State → Heap → Prop} {p : Program} {l : Launch} {e : Env} {s : State} {m : MethodId} {args : Array Value} {below : List Frame} {meth : Method} {c : Code} {D : va_G} {ad kd sd vd xd : Nat → Nat} {ca : Nat → ClassId} {A : Nat → Prop} {ky ty : Nat → Option Nat} (hE : o_EK E kd sd vd xd) (hKy : m_KY ky ty sd) (C : o_Cx E p s m args meth c D m_cls (m_tys ca) "SchemaJudgeModel$Text" b_MT_compare (some .int) 11 cc_MT_compare A) (hDD : ∀ (rt : Nat) (Ni : SNI) (Np : SNP) (No : SNO) (Nx : SNX) (Nf : SNF) (Na : SNA) (Nh : SNH) (Nq : SNQ) (Nj : SNJ) (M0 : SMT) (M1 : SMT), va_D A (m_cw ad ca ky ty rt Ni Np No Nx Nf Na Nh Nq Nj M0 M1)) (n : Nat) (x1 : Int32) (x3 : Int32) (y0 : Int32) (a0 : SMT) (Ni : SNI) (Np : SNP) (No : SNO) (Nx : SNX) (Nf : SNF) (Na : SNA) (Nh : SNH) (Nq : SNQ) (Nj : SNJ) (M0 : SMT) (rt : Nat) {r : Int32} (h : m_MT_compare_j27 n x1 x3 y0 a0 a0 = some r) : o_At p l e rm_MT_compare s m args below meth c (MQ below (o_Qx D m_cls (some (.int r)) (m_cw ad ca ky ty rt Ni Np No Nx Nf Na Nh Nq Nj M0 a0) A) args s 0 0 A) m_cls D A 11 27 [.int y0] (m_cw ad ca ky ty rt Ni Np No Nx Nf Na Nh Nq Nj M0 a0) [(0, .ref (ad 48)), (1, .int x1), (2, .ref (ad 48)), (3, .int x3)] := by
  unfold m_MT_compare_j27 at h
  intro H locs ls hP hS hl
  have C0 := C
  obtain ⟨hx, hb, -, -, -, hown, hts, hK, -, -⟩ := C0
  refine lv_istore (lv' := [(4, .int y0), (0, .ref (ad 48)), (1, .int x1), (2, .ref (ad 48)), (3, .int x3)]) hx hb d_MT_compare_27 hl (by decide) rfl (fun ls hl => ?_)
  refine lv_aload_n hx hb d_MT_compare_29 rfl (lv_at hl 3 rfl) ?_
  refine o_get (v := .ref (ad 52)) C in_MT hP 48 mw_48 rfl 3 (by decide) k_7_106 rfl rfl d_MT_compare_30 ?_
  refine lv_iload_n hx hb d_MT_compare_33 rfl (lv_at hl 4 rfl) ?_
  obtain ⟨g5, h⟩ := o_gd_some h
  refine o_iald (f := (MT_many a0)) C hP 52 49 mw_52 rfl g5 d_MT_compare_34 ?_
  refine lv_if_ne (tgt := 42) hx hb d_MT_compare_35 (by decide) (fun c6 => ?_) (fun c6 => ?_)
  · replace h := o_ff c6 h
    refine lv_aload_n hx hb d_MT_compare_42 rfl (lv_at hl 3 rfl) ?_
    refine o_get (v := .ref (ad 61)) C in_MT hP 48 mw_48 rfl 12 (by decide) k_7_124 rfl rfl d_MT_compare_43 ?_
    refine lv_iload_n hx hb d_MT_compare_46 rfl (lv_at hl 4 rfl) ?_
    obtain ⟨g7, h⟩ := o_gd_some h
    refine o_zald (f := (MT_minus a0)) C hP 61 58 mw_61 rfl g7 d_MT_compare_47 ?_
    refine lv_if_eq (tgt := 55) hx hb d_MT_compare_48 (by decide) (fun c8 => ?_) (fun c8 => ?_)
    · replace h := o_tt c8 h
      refine lv_iconst (v := (1:Int32)) hx hb d_MT_compare_55 (by decide) ?_
      exact f_MT_compare_j56_bb hE hKy C hDD n x1 x3 y0 (1:Int32) a0 Ni Np No Nx Nf Na Nh Nq Nj M0 rt h _ _ _ hP hS (lv_sub hl [1, 2, 3, 4, 0] rfl)
    · replace h := o_ff c8 h
      refine lv_iconst (v := (-1:Int32)) hx hb d_MT_compare_51 (by decide) ?_
      refine lv_goto (tgt := 56) hx hb d_MT_compare_52 (by decide) ?_
      exact f_MT_compare_j56_bb hE hKy C hDD n x1 x3 y0 (-1:Int32) a0 Ni Np No Nx Nf Na Nh Nq Nj M0 rt h _ _ _ hP hS (lv_sub hl [1, 2, 3, 4, 0] rfl)
  · replace h := o_tt c6 h
    refine lv_iconst (v := (0:Int32)) hx hb d_MT_compare_38 (by decide) ?_
    refine lv_goto (tgt := 56) hx hb d_MT_compare_39 (by decide) ?_
    exact f_MT_compare_j56_bb hE hKy C hDD n x1 x3 y0 (0:Int32) a0 Ni Np No Nx Nf Na Nh Nq Nj M0 rt h _ _ _ hP hS (lv_sub hl [1, 2, 3, 4, 0] rfl)
set_option maxHeartbeats 4000000 in
set_option maxRecDepth 100000 in
theorem e_MT_compare_bb {E : (Nat → Prop) → State → Heap → Prop} {D : va_G} {ad kd sd vd xd : Nat → Nat} {ca : Nat → ClassId} {ky ty : Nat → Option Nat} (hE : o_EK E kd sd vd xd) (hKy : m_KY ky ty sd) (l : Launch) (n : Nat) (x1 : Int32) (x3 : Int32) (a0 : SMT) (Ni : SNI) (Np : SNP) (No : SNO) (Nx : SNX) (Nf : SNF) (Na : SNA) (Nh : SNH) (Nq : SNQ) (Nj : SNJ) (M0 : SMT) (rt : Nat) {r : Int32} (h : m_MT_compare n x1 x3 a0 a0 = some r) : o_Cn E l D m_cls (m_tys ca) y_MT_compare cc_MT_compare rm_MT_compare [.ref (ad 48), .int x1, .ref (ad 48), .int x3] (m_cw ad ca ky ty rt Ni Np No Nx Nf Na Nh Nq Nj M0 a0) (m_cw ad ca ky ty rt Ni Np No Nx Nf Na Nh Nq Nj M0 a0) (some (.int r)) := by
  refine o_Cn_of (by decide) (Nat.le_of_ble_eq_true rfl) ?_
  intro p e s m below meth c A ls C hD hP hS hl
  have hDD : ∀ (rt : Nat) (Ni : SNI) (Np : SNP) (No : SNO) (Nx : SNX) (Nf : SNF) (Na : SNA) (Nh : SNH) (Nq : SNQ) (Nj : SNJ) (M0 : SMT) (M1 : SMT), va_D A (m_cw ad ca ky ty rt Ni Np No Nx Nf Na Nh Nq Nj M0 M1) := fun _ _ _ _ _ _ _ _ _ _ _ _ => o_D_map hD rfl
  have hl : lv_has ls 11 [(0, .ref (ad 48)), (1, .int x1), (2, .ref (ad 48)), (3, .int x3)] := hl
  unfold m_MT_compare at h
  have C0 := C
  obtain ⟨hx, hb, -, -, -, hown, hts, hK, -, -⟩ := C0
  refine lv_aload_n hx hb d_MT_compare_0 rfl (lv_at hl 0 rfl) ?_
  refine o_get (v := .ref (ad 52)) C in_MT hP 48 mw_48 rfl 3 (by decide) k_7_106 rfl rfl d_MT_compare_1 ?_
  refine lv_iload_n hx hb d_MT_compare_4 rfl (lv_at hl 1 rfl) ?_
  obtain ⟨g1, h⟩ := o_gd_some h
  refine o_iald (f := (MT_many a0)) C hP 52 49 mw_52 rfl g1 d_MT_compare_5 ?_
  refine lv_if_ne (tgt := 13) hx hb d_MT_compare_6 (by decide) (fun c2 => ?_) (fun c2 => ?_)
  · replace h := o_ff c2 h
    refine lv_aload_n hx hb d_MT_compare_13 rfl (lv_at hl 0 rfl) ?_
    refine o_get (v := .ref (ad 61)) C in_MT hP 48 mw_48 rfl 12 (by decide) k_7_124 rfl rfl d_MT_compare_14 ?_
    refine lv_iload_n hx hb d_MT_compare_17 rfl (lv_at hl 1 rfl) ?_
    obtain ⟨g3, h⟩ := o_gd_some h
    refine o_zald (f := (MT_minus a0)) C hP 61 58 mw_61 rfl g3 d_MT_compare_18 ?_
    refine lv_if_eq (tgt := 26) hx hb d_MT_compare_19 (by decide) (fun c4 => ?_) (fun c4 => ?_)
    · replace h := o_tt c4 h
      refine lv_iconst (v := (1:Int32)) hx hb d_MT_compare_26 (by decide) ?_
      exact f_MT_compare_j27_bb hE hKy C hDD n x1 x3 (1:Int32) a0 Ni Np No Nx Nf Na Nh Nq Nj M0 rt h _ _ _ hP hS (lv_sub hl [0, 1, 2, 3] rfl)
    · replace h := o_ff c4 h
      refine lv_iconst (v := (-1:Int32)) hx hb d_MT_compare_22 (by decide) ?_
      refine lv_goto (tgt := 27) hx hb d_MT_compare_23 (by decide) ?_
      exact f_MT_compare_j27_bb hE hKy C hDD n x1 x3 (-1:Int32) a0 Ni Np No Nx Nf Na Nh Nq Nj M0 rt h _ _ _ hP hS (lv_sub hl [0, 1, 2, 3] rfl)
  · replace h := o_tt c2 h
    refine lv_iconst (v := (0:Int32)) hx hb d_MT_compare_9 (by decide) ?_
    refine lv_goto (tgt := 27) hx hb d_MT_compare_10 (by decide) ?_
    exact f_MT_compare_j27_bb hE hKy C hDD n x1 x3 (0:Int32) a0 Ni Np No Nx Nf Na Nh Nq Nj M0 rt h _ _ _ hP hS (lv_sub hl [0, 1, 2, 3] rfl)
set_option maxHeartbeats 4000000 in
set_option maxRecDepth 100000 in
theorem f_MT_alike_b166_bb {E : (Nat → Prop) → State → Heap → Prop} {p : Program} {l : Launch} {e : Env} {s : State} {m : MethodId} {args : Array Value} {below : List Frame} {meth : Method} {c : Code} {D : va_G} {ad kd sd vd xd : Nat → Nat} {ca : Nat → ClassId} {A : Nat → Prop} {ky ty : Nat → Option Nat} {Q : State → Prop} (hE : o_EK E kd sd vd xd) (hKy : m_KY ky ty sd) (C : o_Cx E p s m args meth c D m_cls (m_tys ca) "SchemaJudgeModel$Text" b_MT_alike (some .boolean) 6 cc_MT_alike A) (hDD : ∀ (rt : Nat) (Ni : SNI) (Np : SNP) (No : SNO) (Nx : SNX) (Nf : SNF) (Na : SNA) (Nh : SNH) (Nq : SNQ) (Nj : SNJ) (M0 : SMT) (M1 : SMT), va_D A (m_cw ad ca ky ty rt Ni Np No Nx Nf Na Nh Nq Nj M0 M1)) (d : Nat) (rec : Int32 → Int32 → SMT → SMT → Option (Int32)) (hrec : ∀ (x1 : Int32) (x3 : Int32) (a0 : SMT) (Ni : SNI) (Np : SNP) (No : SNO) (Nx : SNX) (Nf : SNF) (Na : SNA) (Nh : SNH) (Nq : SNQ) (Nj : SNJ) (M0 : SMT) (rt : Nat) (r : Int32), rec x1 x3 a0 a0 = some r → o_Cn E l D m_cls (m_tys ca) y_MT_alike cc_MT_alike (rm_MT_alike d) [.ref (ad 48), .int x1, .ref (ad 48), .int x3] (m_cw ad ca ky ty rt Ni Np No Nx Nf Na Nh Nq Nj M0 a0) (m_cw ad ca ky ty rt Ni Np No Nx Nf Na Nh Nq Nj M0 a0) (some (.int r))) (n : Nat) (u166_x3 : Int32) (u166_a0 : SMT) (u166_Ni : SNI) (u166_Np : SNP) (u166_No : SNO) (u166_Nx : SNX) (u166_Nf : SNF) (u166_Na : SNA) (u166_Nh : SNH) (u166_Nq : SNQ) (u166_Nj : SNJ) (u166_M0 : SMT) (u166_rt : Nat) (z : Int32) (q : Nat × Int32) (h : m_MT_alike_b166 n rec u166_x3 u166_a0 u166_a0 z = some q) (h0 : q.1 = 0 → o_At p l e (rm_MT_alike (d + 1)) s m args below meth c Q m_cls D A 6 166 [] (m_cw ad ca ky ty u166_rt u166_Ni u166_Np u166_No u166_Nx u166_Nf u166_Na u166_Nh u166_Nq u166_Nj u166_M0 u166_a0) [(0, .ref (ad 48)), (2, .ref (ad 48)), (3, .int u166_x3), (4, .int q.2)]) (h1 : q.1 ≠ 0 → (if q.1 = 1 then o_At p l e (rm_MT_alike (d + 1)) s m args below meth c Q m_cls D A 6 203 [] (m_cw ad ca ky ty u166_rt u166_Ni u166_Np u166_No u166_Nx u166_Nf u166_Na u166_Nh u166_Nq u166_Nj u166_M0 u166_a0) [] else o_At p l e (rm_MT_alike (d + 1)) s m args below meth c Q m_cls D A 6 217 [] (m_cw ad ca ky ty u166_rt u166_Ni u166_Np u166_No u166_Nx u166_Nf u166_Na u166_Nh u166_Nq u166_Nj u166_M0 u166_a0) [])) : o_At p l e (rm_MT_alike (d + 1)) s m args below meth c Q m_cls D A 6 166 [] (m_cw ad ca ky ty u166_rt u166_Ni u166_Np u166_No u166_Nx u166_Nf u166_Na u166_Nh u166_Nq u166_Nj u166_M0 u166_a0) [(0, .ref (ad 48)), (2, .ref (ad 48)), (3, .int u166_x3), (4, .int z)] := by
  unfold m_MT_alike_b166 at h
  intro H locs ls hP hS hl
  have C0 := C
  obtain ⟨hx, hb, -, -, -, hown, hts, hK, -, -⟩ := C0
  refine lv_iload hx hb d_MT_alike_166 (lv_at hl 3 rfl) ?_
  refine lv_if_lt (tgt := 217) hx hb d_MT_alike_168 (by decide) (fun c16 => ?_) (fun c16 => ?_)
  · replace h := o_tt c16 h
    cases h
    exact h1 (Nat.succ_ne_zero 1) _ _ _ hP hS (lv_sub hl [] rfl)
  · replace h := o_ff c16 h
    refine lv_aload_n hx hb d_MT_alike_171 rfl (lv_at hl 1 rfl) ?_
    refine lv_iload_n hx hb d_MT_alike_172 rfl (lv_at hl 2 rfl) ?_
    refine lv_aload_n hx hb d_MT_alike_173 rfl (lv_at hl 0 rfl) ?_
    refine lv_aload_n hx hb d_MT_alike_174 rfl (lv_at hl 0 rfl) ?_
    refine o_get (v := .ref (ad 57)) C in_MT hP 48 mw_48 rfl 8 (by decide) k_7_116 rfl rfl d_MT_alike_175 ?_
    refine lv_iload hx hb d_MT_alike_178 (lv_at hl 3 rfl) ?_
    obtain ⟨g17, h⟩ := o_gd_some h
    refine o_iald (f := (MT_name u166_a0)) C hP 57 54 mw_57 rfl g17 d_MT_alike_180 ?_
    obtain ⟨q1, hq1, h⟩ := o_bd_some h
    refine o_V (st1 := [.int q1]) (w1 := (m_cw ad ca ky ty u166_rt u166_Ni u166_Np u166_No u166_Nx u166_Nf u166_Na u166_Nh u166_Nq u166_Nj u166_M0 u166_a0)) hE.1 C (e_MT_member_1_bb hE hKy l n u166_x3 ((MT_name u166_a0) z.toNatClampNeg) u166_a0 u166_Ni u166_Np u166_No u166_Nx u166_Nf u166_Na u166_Nh u166_Nq u166_Nj u166_M0 u166_rt hq1) hP (hDD _ _ _ _ _ _ _ _ _ _ _ _) hS hl.1 rfl mw_48 k_10_33 k_10_0 k_10_1 k_1_13 k_10_2 hv_MT_member_1 rfl rfl ⟨(by dsimp only [rm_MT_alike, rm_MT_member_1]; omega), (by dsimp only [rm_MT_alike, rm_MT_member_1]; omega)⟩ rfl (Nat.le_of_ble_eq_true rfl) ⟨Nat.zero_le _, Nat.zero_le _⟩ rfl d_MT_alike_181 (fun H locs hP hS => ?_)
    refine lv_istore (lv' := [(5, .int q1), (0, .ref (ad 48)), (2, .ref (ad 48)), (3, .int u166_x3), (4, .int z)]) hx hb d_MT_alike_184 hl (by decide) rfl (fun ls hl => ?_)
    refine lv_iload hx hb d_MT_alike_186 (lv_at hl 0 rfl) ?_
    refine lv_if_lt (tgt := 203) hx hb d_MT_alike_188 (by decide) (fun c18 => ?_) (fun c18 => ?_)
    · replace h := o_tt c18 h
      cases h
      exact h1 (Nat.succ_ne_zero 0) _ _ _ hP hS (lv_sub hl [] rfl)
    · replace h := o_ff c18 h
      refine lv_aload_n hx hb d_MT_alike_191 rfl (lv_at hl 1 rfl) ?_
      refine lv_iload hx hb d_MT_alike_192 (lv_at hl 4 rfl) ?_
      refine lv_aload_n hx hb d_MT_alike_194 rfl (lv_at hl 2 rfl) ?_
      refine lv_iload hx hb d_MT_alike_195 (lv_at hl 0 rfl) ?_
      obtain ⟨q2, hq2, h⟩ := o_bd_some h
      refine o_V (st1 := [.int q2]) (w1 := (m_cw ad ca ky ty u166_rt u166_Ni u166_Np u166_No u166_Nx u166_Nf u166_Na u166_Nh u166_Nq u166_Nj u166_M0 u166_a0)) hE.1 C (hrec z q1 u166_a0 u166_Ni u166_Np u166_No u166_Nx u166_Nf u166_Na u166_Nh u166_Nq u166_Nj u166_M0 u166_rt _ hq2) hP (hDD _ _ _ _ _ _ _ _ _ _ _ _) hS hl.1 rfl mw_48 k_10_32 k_10_28 k_10_29 k_1_13 k_10_30 hv_MT_alike rfl rfl ⟨(by dsimp only [rm_MT_alike, rm_MT_alike]; omega), (by dsimp only [rm_MT_alike, rm_MT_alike]; omega)⟩ rfl (Nat.le_of_ble_eq_true rfl) ⟨Nat.zero_le _, Nat.zero_le _⟩ rfl d_MT_alike_197 (fun H locs hP hS => ?_)
      refine lv_if_ne (tgt := 205) hx hb d_MT_alike_200 (by decide) (fun c19 => ?_) (fun c19 => ?_)
      · replace h := o_ff c19 h
        refine lv_aload_n hx hb d_MT_alike_205 rfl (lv_at hl 1 rfl) ?_
        refine o_get (v := .ref (ad 56)) C in_MT hP 48 mw_48 rfl 7 (by decide) k_7_114 rfl rfl d_MT_alike_206 ?_
        refine lv_iload hx hb d_MT_alike_209 (lv_at hl 4 rfl) ?_
        obtain ⟨g20, h⟩ := o_gd_some h
        refine o_iald (f := (MT_next u166_a0)) C hP 56 53 mw_56 rfl g20 d_MT_alike_211 ?_
        refine lv_topi (fun x4_212 ex4_212 => ?_)
        replace h := o_nm_at ex4_212 h
        refine lv_istore (lv' := [(4, .int x4_212), (5, .int q1), (0, .ref (ad 48)), (2, .ref (ad 48)), (3, .int u166_x3)]) hx hb d_MT_alike_212 hl (by decide) rfl (fun ls hl => ?_)
        refine lv_goto (tgt := 166) hx hb d_MT_alike_214 (by decide) ?_
        cases h
        exact h0 rfl _ _ _ hP hS (lv_sub hl [2, 3, 4, 0] rfl)
      · replace h := o_tt c19 h
        cases h
        exact h1 (Nat.succ_ne_zero 0) _ _ _ hP hS (lv_sub hl [] rfl)
set_option maxHeartbeats 4000000 in
set_option maxRecDepth 100000 in
theorem f_MT_alike_b116_bb {E : (Nat → Prop) → State → Heap → Prop} {p : Program} {l : Launch} {e : Env} {s : State} {m : MethodId} {args : Array Value} {below : List Frame} {meth : Method} {c : Code} {D : va_G} {ad kd sd vd xd : Nat → Nat} {ca : Nat → ClassId} {A : Nat → Prop} {ky ty : Nat → Option Nat} {Q : State → Prop} (hE : o_EK E kd sd vd xd) (hKy : m_KY ky ty sd) (C : o_Cx E p s m args meth c D m_cls (m_tys ca) "SchemaJudgeModel$Text" b_MT_alike (some .boolean) 6 cc_MT_alike A) (hDD : ∀ (rt : Nat) (Ni : SNI) (Np : SNP) (No : SNO) (Nx : SNX) (Nf : SNF) (Na : SNA) (Nh : SNH) (Nq : SNQ) (Nj : SNJ) (M0 : SMT) (M1 : SMT), va_D A (m_cw ad ca ky ty rt Ni Np No Nx Nf Na Nh Nq Nj M0 M1)) (d : Nat) (rec : Int32 → Int32 → SMT → SMT → Option (Int32)) (hrec : ∀ (x1 : Int32) (x3 : Int32) (a0 : SMT) (Ni : SNI) (Np : SNP) (No : SNO) (Nx : SNX) (Nf : SNF) (Na : SNA) (Nh : SNH) (Nq : SNQ) (Nj : SNJ) (M0 : SMT) (rt : Nat) (r : Int32), rec x1 x3 a0 a0 = some r → o_Cn E l D m_cls (m_tys ca) y_MT_alike cc_MT_alike (rm_MT_alike d) [.ref (ad 48), .int x1, .ref (ad 48), .int x3] (m_cw ad ca ky ty rt Ni Np No Nx Nf Na Nh Nq Nj M0 a0) (m_cw ad ca ky ty rt Ni Np No Nx Nf Na Nh Nq Nj M0 a0) (some (.int r))) (n : Nat) (u116_a0 : SMT) (u116_Ni : SNI) (u116_Np : SNP) (u116_No : SNO) (u116_Nx : SNX) (u116_Nf : SNF) (u116_Na : SNA) (u116_Nh : SNH) (u116_Nq : SNQ) (u116_Nj : SNJ) (u116_M0 : SMT) (u116_rt : Nat) (z : Int32 × Int32) (q : Nat × Int32 × Int32) (h : m_MT_alike_b116 n rec u116_a0 u116_a0 z = some q) (h0 : q.1 = 0 → o_At p l e (rm_MT_alike (d + 1)) s m args below meth c Q m_cls D A 6 116 [] (m_cw ad ca ky ty u116_rt u116_Ni u116_Np u116_No u116_Nx u116_Nf u116_Na u116_Nh u116_Nq u116_Nj u116_M0 u116_a0) [(0, .ref (ad 48)), (2, .ref (ad 48)), (4, .int q.2.1), (5, .int q.2.2)]) (h1 : q.1 ≠ 0 → (if q.1 = 1 then o_At p l e (rm_MT_alike (d + 1)) s m args below meth c Q m_cls D A 6 133 [] (m_cw ad ca ky ty u116_rt u116_Ni u116_Np u116_No u116_Nx u116_Nf u116_Na u116_Nh u116_Nq u116_Nj u116_M0 u116_a0) [] else o_At p l e (rm_MT_alike (d + 1)) s m args below meth c Q m_cls D A 6 156 [] (m_cw ad ca ky ty u116_rt u116_Ni u116_Np u116_No u116_Nx u116_Nf u116_Na u116_Nh u116_Nq u116_Nj u116_M0 u116_a0) [])) : o_At p l e (rm_MT_alike (d + 1)) s m args below meth c Q m_cls D A 6 116 [] (m_cw ad ca ky ty u116_rt u116_Ni u116_Np u116_No u116_Nx u116_Nf u116_Na u116_Nh u116_Nq u116_Nj u116_M0 u116_a0) [(0, .ref (ad 48)), (2, .ref (ad 48)), (4, .int z.1), (5, .int z.2)] := by
  unfold m_MT_alike_b116 at h
  intro H locs ls hP hS hl
  have C0 := C
  obtain ⟨hx, hb, -, -, -, hown, hts, hK, -, -⟩ := C0
  refine lv_iload hx hb d_MT_alike_116 (lv_at hl 3 rfl) ?_
  refine lv_if_lt (tgt := 156) hx hb d_MT_alike_118 (by decide) (fun c24 => ?_) (fun c24 => ?_)
  · replace h := o_tt c24 h
    cases h
    exact h1 (Nat.succ_ne_zero 1) _ _ _ hP hS (lv_sub hl [] rfl)
  · replace h := o_ff c24 h
    refine lv_aload_n hx hb d_MT_alike_121 rfl (lv_at hl 0 rfl) ?_
    refine lv_iload hx hb d_MT_alike_122 (lv_at hl 3 rfl) ?_
    refine lv_aload_n hx hb d_MT_alike_124 rfl (lv_at hl 1 rfl) ?_
    refine lv_iload hx hb d_MT_alike_125 (lv_at hl 2 rfl) ?_
    obtain ⟨q4, hq4, h⟩ := o_bd_some h
    refine o_V (st1 := [.int q4]) (w1 := (m_cw ad ca ky ty u116_rt u116_Ni u116_Np u116_No u116_Nx u116_Nf u116_Na u116_Nh u116_Nq u116_Nj u116_M0 u116_a0)) hE.1 C (hrec z.2 z.1 u116_a0 u116_Ni u116_Np u116_No u116_Nx u116_Nf u116_Na u116_Nh u116_Nq u116_Nj u116_M0 u116_rt _ hq4) hP (hDD _ _ _ _ _ _ _ _ _ _ _ _) hS hl.1 rfl mw_48 k_10_32 k_10_28 k_10_29 k_1_13 k_10_30 hv_MT_alike rfl rfl ⟨(by dsimp only [rm_MT_alike, rm_MT_alike]; omega), (by dsimp only [rm_MT_alike, rm_MT_alike]; omega)⟩ rfl (Nat.le_of_ble_eq_true rfl) ⟨Nat.zero_le _, Nat.zero_le _⟩ rfl d_MT_alike_127 (fun H locs hP hS => ?_)
    refine lv_if_ne (tgt := 135) hx hb d_MT_alike_130 (by decide) (fun c25 => ?_) (fun c25 => ?_)
    · replace h := o_ff c25 h
      refine lv_aload_n hx hb d_MT_alike_135 rfl (lv_at hl 0 rfl) ?_
      refine o_get (v := .ref (ad 56)) C in_MT hP 48 mw_48 rfl 7 (by decide) k_7_114 rfl rfl d_MT_alike_136 ?_
      refine lv_iload hx hb d_MT_alike_139 (lv_at hl 3 rfl) ?_
      obtain ⟨g26, h⟩ := o_gd_some h
      refine o_iald (f := (MT_next u116_a0)) C hP 56 53 mw_56 rfl g26 d_MT_alike_141 ?_
      refine lv_topi (fun x5_142 ex5_142 => ?_)
      replace h := o_nm_at ex5_142 h
      refine lv_istore (lv' := [(5, .int x5_142), (0, .ref (ad 48)), (2, .ref (ad 48)), (4, .int z.1)]) hx hb d_MT_alike_142 hl (by decide) rfl (fun ls hl => ?_)
      refine lv_aload_n hx hb d_MT_alike_144 rfl (lv_at hl 2 rfl) ?_
      refine o_get (v := .ref (ad 56)) C in_MT hP 48 mw_48 rfl 7 (by decide) k_7_114 rfl rfl d_MT_alike_145 ?_
      refine lv_iload hx hb d_MT_alike_148 (lv_at hl 3 rfl) ?_
      obtain ⟨g27, h⟩ := o_gd_some h
      refine o_iald (f := (MT_next u116_a0)) C hP 56 53 mw_56 rfl g27 d_MT_alike_150 ?_
      refine lv_topi (fun x4_151 ex4_151 => ?_)
      replace h := o_nm_at ex4_151 h
      refine lv_istore (lv' := [(4, .int x4_151), (5, .int x5_142), (0, .ref (ad 48)), (2, .ref (ad 48))]) hx hb d_MT_alike_151 hl (by decide) rfl (fun ls hl => ?_)
      refine lv_goto (tgt := 116) hx hb d_MT_alike_153 (by decide) ?_
      cases h
      exact h0 rfl _ _ _ hP hS (lv_sub hl [2, 3, 0, 1] rfl)
    · replace h := o_tt c25 h
      cases h
      exact h1 (Nat.succ_ne_zero 0) _ _ _ hP hS (lv_sub hl [] rfl)
set_option maxHeartbeats 4000000 in
set_option maxRecDepth 100000 in
theorem e_MT_alike_bb_F {E : (Nat → Prop) → State → Heap → Prop} {D : va_G} {ad kd sd vd xd : Nat → Nat} {ca : Nat → ClassId} {ky ty : Nat → Option Nat} (hE : o_EK E kd sd vd xd) (hKy : m_KY ky ty sd) (l : Launch) (n : Nat) (d : Nat) (rec : Int32 → Int32 → SMT → SMT → Option (Int32)) (hrec : ∀ (x1 : Int32) (x3 : Int32) (a0 : SMT) (Ni : SNI) (Np : SNP) (No : SNO) (Nx : SNX) (Nf : SNF) (Na : SNA) (Nh : SNH) (Nq : SNQ) (Nj : SNJ) (M0 : SMT) (rt : Nat) (r : Int32), rec x1 x3 a0 a0 = some r → o_Cn E l D m_cls (m_tys ca) y_MT_alike cc_MT_alike (rm_MT_alike d) [.ref (ad 48), .int x1, .ref (ad 48), .int x3] (m_cw ad ca ky ty rt Ni Np No Nx Nf Na Nh Nq Nj M0 a0) (m_cw ad ca ky ty rt Ni Np No Nx Nf Na Nh Nq Nj M0 a0) (some (.int r))) (x1 : Int32) (x3 : Int32) (a0 : SMT) (Ni : SNI) (Np : SNP) (No : SNO) (Nx : SNX) (Nf : SNF) (Na : SNA) (Nh : SNH) (Nq : SNQ) (Nj : SNJ) (M0 : SMT) (rt : Nat) {r : Int32} (h : m_MT_alike_F n rec x1 x3 a0 a0 = some r) : o_Cn E l D m_cls (m_tys ca) y_MT_alike cc_MT_alike (rm_MT_alike (d + 1)) [.ref (ad 48), .int x1, .ref (ad 48), .int x3] (m_cw ad ca ky ty rt Ni Np No Nx Nf Na Nh Nq Nj M0 a0) (m_cw ad ca ky ty rt Ni Np No Nx Nf Na Nh Nq Nj M0 a0) (some (.int r)) := by
  refine o_Cn_of (by decide) (Nat.le_of_ble_eq_true rfl) ?_
  intro p e s m below meth c A ls C hD hP hS hl
  have hDD : ∀ (rt : Nat) (Ni : SNI) (Np : SNP) (No : SNO) (Nx : SNX) (Nf : SNF) (Na : SNA) (Nh : SNH) (Nq : SNQ) (Nj : SNJ) (M0 : SMT) (M1 : SMT), va_D A (m_cw ad ca ky ty rt Ni Np No Nx Nf Na Nh Nq Nj M0 M1) := fun _ _ _ _ _ _ _ _ _ _ _ _ => o_D_map hD rfl
  have hl : lv_has ls 6 [(0, .ref (ad 48)), (1, .int x1), (2, .ref (ad 48)), (3, .int x3)] := hl
  unfold m_MT_alike_F at h
  have C0 := C
  obtain ⟨hx, hb, -, -, -, hown, hts, hK, -, -⟩ := C0
  refine lv_aload_n hx hb d_MT_alike_0 rfl (lv_at hl 0 rfl) ?_
  refine o_get (v := .ref (ad 50)) C in_MT hP 48 mw_48 rfl 1 (by decide) k_7_102 rfl rfl d_MT_alike_1 ?_
  refine lv_iload_n hx hb d_MT_alike_4 rfl (lv_at hl 1 rfl) ?_
  obtain ⟨g1, h⟩ := o_gd_some h
  refine o_iald (f := (MT_kind a0)) C hP 50 47 mw_50 rfl g1 d_MT_alike_5 ?_
  refine lv_aload_n hx hb d_MT_alike_6 rfl (lv_at hl 2 rfl) ?_
  refine o_get (v := .ref (ad 50)) C in_MT hP 48 mw_48 rfl 1 (by decide) k_7_102 rfl rfl d_MT_alike_7 ?_
  refine lv_iload_n hx hb d_MT_alike_10 rfl (lv_at hl 3 rfl) ?_
  obtain ⟨g2, h⟩ := o_gd_some h
  refine o_iald (f := (MT_kind a0)) C hP 50 47 mw_50 rfl g2 d_MT_alike_11 ?_
  refine lv_icmp_eq (tgt := 17) hx hb d_MT_alike_12 (by decide) (fun c3 => ?_) (fun c3 => ?_)
  · replace h := o_tt c3 h
    refine lv_aload_n hx hb d_MT_alike_17 rfl (lv_at hl 0 rfl) ?_
    refine o_get (v := .ref (ad 50)) C in_MT hP 48 mw_48 rfl 1 (by decide) k_7_102 rfl rfl d_MT_alike_18 ?_
    refine lv_iload_n hx hb d_MT_alike_21 rfl (lv_at hl 1 rfl) ?_
    obtain ⟨g4, h⟩ := o_gd_some h
    refine o_iald (f := (MT_kind a0)) C hP 50 47 mw_50 rfl g4 d_MT_alike_22 ?_
    refine lv_iconst (v := (3:Int32)) hx hb d_MT_alike_23 (by decide) ?_
    refine lv_icmp_ne (tgt := 43) hx hb d_MT_alike_24 (by decide) (fun c5 => ?_) (fun c5 => ?_)
    · replace h := o_ff c5 h
      refine lv_aload_n hx hb d_MT_alike_43 rfl (lv_at hl 0 rfl) ?_
      refine o_get (v := .ref (ad 50)) C in_MT hP 48 mw_48 rfl 1 (by decide) k_7_102 rfl rfl d_MT_alike_44 ?_
      refine lv_iload_n hx hb d_MT_alike_47 rfl (lv_at hl 1 rfl) ?_
      obtain ⟨g6, h⟩ := o_gd_some h
      refine o_iald (f := (MT_kind a0)) C hP 50 47 mw_50 rfl g6 d_MT_alike_48 ?_
      refine lv_iconst (v := (4:Int32)) hx hb d_MT_alike_49 (by decide) ?_
      refine lv_icmp_ne (tgt := 61) hx hb d_MT_alike_50 (by decide) (fun c7 => ?_) (fun c7 => ?_)
      · replace h := o_ff c7 h
        refine lv_aload_n hx hb d_MT_alike_61 rfl (lv_at hl 0 rfl) ?_
        refine o_get (v := .ref (ad 50)) C in_MT hP 48 mw_48 rfl 1 (by decide) k_7_102 rfl rfl d_MT_alike_62 ?_
        refine lv_iload_n hx hb d_MT_alike_65 rfl (lv_at hl 1 rfl) ?_
        obtain ⟨g8, h⟩ := o_gd_some h
        refine o_iald (f := (MT_kind a0)) C hP 50 47 mw_50 rfl g8 d_MT_alike_66 ?_
        refine lv_iconst (v := (3:Int32)) hx hb d_MT_alike_67 (by decide) ?_
        refine lv_icmp_ge (tgt := 73) hx hb d_MT_alike_68 (by decide) (fun c9 => ?_) (fun c9 => ?_)
        · replace h := o_tt c9 h
          refine lv_aload_n hx hb d_MT_alike_73 rfl (lv_at hl 0 rfl) ?_
          refine o_get (v := .ref (ad 52)) C in_MT hP 48 mw_48 rfl 3 (by decide) k_7_106 rfl rfl d_MT_alike_74 ?_
          refine lv_iload_n hx hb d_MT_alike_77 rfl (lv_at hl 1 rfl) ?_
          obtain ⟨g10, h⟩ := o_gd_some h
          refine o_iald (f := (MT_many a0)) C hP 52 49 mw_52 rfl g10 d_MT_alike_78 ?_
          refine lv_aload_n hx hb d_MT_alike_79 rfl (lv_at hl 2 rfl) ?_
          refine o_get (v := .ref (ad 52)) C in_MT hP 48 mw_48 rfl 3 (by decide) k_7_106 rfl rfl d_MT_alike_80 ?_
          refine lv_iload_n hx hb d_MT_alike_83 rfl (lv_at hl 3 rfl) ?_
          obtain ⟨g11, h⟩ := o_gd_some h
          refine o_iald (f := (MT_many a0)) C hP 52 49 mw_52 rfl g11 d_MT_alike_84 ?_
          refine lv_icmp_eq (tgt := 90) hx hb d_MT_alike_85 (by decide) (fun c12 => ?_) (fun c12 => ?_)
          · replace h := o_tt c12 h
            refine lv_aload_n hx hb d_MT_alike_90 rfl (lv_at hl 0 rfl) ?_
            refine o_get (v := .ref (ad 50)) C in_MT hP 48 mw_48 rfl 1 (by decide) k_7_102 rfl rfl d_MT_alike_91 ?_
            refine lv_iload_n hx hb d_MT_alike_94 rfl (lv_at hl 1 rfl) ?_
            obtain ⟨g13, h⟩ := o_gd_some h
            refine o_iald (f := (MT_kind a0)) C hP 50 47 mw_50 rfl g13 d_MT_alike_95 ?_
            refine lv_iconst (v := (5:Int32)) hx hb d_MT_alike_96 (by decide) ?_
            refine lv_icmp_ne (tgt := 158) hx hb d_MT_alike_97 (by decide) (fun c14 => ?_) (fun c14 => ?_)
            · replace h := o_ff c14 h
              refine lv_aload_n hx hb d_MT_alike_158 rfl (lv_at hl 0 rfl) ?_
              refine o_get (v := .ref (ad 55)) C in_MT hP 48 mw_48 rfl 6 (by decide) k_7_112 rfl rfl d_MT_alike_159 ?_
              refine lv_iload_n hx hb d_MT_alike_162 rfl (lv_at hl 1 rfl) ?_
              obtain ⟨g15, h⟩ := o_gd_some h
              refine o_iald (f := (MT_first a0)) C hP 55 52 mw_55 rfl g15 d_MT_alike_163 ?_
              refine lv_topi (fun x4_164 ex4_164 => ?_)
              replace h := o_nm_at ex4_164 h
              refine lv_istore (lv' := [(4, .int x4_164), (0, .ref (ad 48)), (1, .int x1), (2, .ref (ad 48)), (3, .int x3)]) hx hb d_MT_alike_164 hl (by decide) rfl (fun ls hl => ?_)
              obtain ⟨q3, hq3, h⟩ := o_bd_some h
              refine o_sim2 (AH := fun zz => o_At p l e (rm_MT_alike (d + 1)) s m _ below meth c _ m_cls D A 6 166 [] (m_cw ad ca ky ty rt Ni Np No Nx Nf Na Nh Nq Nj M0 a0) [(0, .ref (ad 48)), (2, .ref (ad 48)), (3, .int x3), (4, .int zz)]) (AX := fun qq => if qq.1 = 1 then o_At p l e (rm_MT_alike (d + 1)) s m _ below meth c _ m_cls D A 6 203 [] (m_cw ad ca ky ty rt Ni Np No Nx Nf Na Nh Nq Nj M0 a0) [] else o_At p l e (rm_MT_alike (d + 1)) s m _ below meth c _ m_cls D A 6 217 [] (m_cw ad ca ky ty rt Ni Np No Nx Nf Na Nh Nq Nj M0 a0) []) (fun zz qq h h0 h1 => f_MT_alike_b166_bb hE hKy C hDD d rec hrec n x3 a0 Ni Np No Nx Nf Na Nh Nq Nj M0 rt zz qq h h0 h1) n _ q3 hq3 ?_ _ _ _ hP hS (lv_sub hl [1, 3, 4, 0] rfl)
              by_cases c21 : q3.1 = 1
              · replace h := o_tt c21 h
                refine o_ip c21 ?_
                intro H locs ls hP hS hl
                refine lv_iconst (v := (0:Int32)) hx hb d_MT_alike_203 (by decide) ?_
                cases h
                exact o_rz (v := (0:Int32)) C o_nar0 hP hS d_MT_alike_204
              replace h := o_ff c21 h
              refine o_in_ c21 ?_
              intro H locs ls hP hS hl
              refine lv_iconst (v := (1:Int32)) hx hb d_MT_alike_217 (by decide) ?_
              cases h
              exact o_rz (v := (1:Int32)) C o_nar1 hP hS d_MT_alike_218
            · replace h := o_tt c14 h
              refine lv_aload_n hx hb d_MT_alike_100 rfl (lv_at hl 2 rfl) ?_
              refine o_get (v := .ref (ad 55)) C in_MT hP 48 mw_48 rfl 6 (by decide) k_7_112 rfl rfl d_MT_alike_101 ?_
              refine lv_iload_n hx hb d_MT_alike_104 rfl (lv_at hl 3 rfl) ?_
              obtain ⟨g22, h⟩ := o_gd_some h
              refine o_iald (f := (MT_first a0)) C hP 55 52 mw_55 rfl g22 d_MT_alike_105 ?_
              refine lv_topi (fun x4_106 ex4_106 => ?_)
              replace h := o_nm_at ex4_106 h
              refine lv_istore (lv' := [(4, .int x4_106), (0, .ref (ad 48)), (1, .int x1), (2, .ref (ad 48)), (3, .int x3)]) hx hb d_MT_alike_106 hl (by decide) rfl (fun ls hl => ?_)
              refine lv_aload_n hx hb d_MT_alike_108 rfl (lv_at hl 1 rfl) ?_
              refine o_get (v := .ref (ad 55)) C in_MT hP 48 mw_48 rfl 6 (by decide) k_7_112 rfl rfl d_MT_alike_109 ?_
              refine lv_iload_n hx hb d_MT_alike_112 rfl (lv_at hl 2 rfl) ?_
              obtain ⟨g23, h⟩ := o_gd_some h
              refine o_iald (f := (MT_first a0)) C hP 55 52 mw_55 rfl g23 d_MT_alike_113 ?_
              refine lv_topi (fun x5_114 ex5_114 => ?_)
              replace h := o_nm_at ex5_114 h
              refine lv_istore (lv' := [(5, .int x5_114), (4, .int x4_106), (0, .ref (ad 48)), (1, .int x1), (2, .ref (ad 48)), (3, .int x3)]) hx hb d_MT_alike_114 hl (by decide) rfl (fun ls hl => ?_)
              obtain ⟨q5, hq5, h⟩ := o_bd_some h
              refine o_sim2 (AH := fun zz => o_At p l e (rm_MT_alike (d + 1)) s m _ below meth c _ m_cls D A 6 116 [] (m_cw ad ca ky ty rt Ni Np No Nx Nf Na Nh Nq Nj M0 a0) [(0, .ref (ad 48)), (2, .ref (ad 48)), (4, .int zz.1), (5, .int zz.2)]) (AX := fun qq => if qq.1 = 1 then o_At p l e (rm_MT_alike (d + 1)) s m _ below meth c _ m_cls D A 6 133 [] (m_cw ad ca ky ty rt Ni Np No Nx Nf Na Nh Nq Nj M0 a0) [] else o_At p l e (rm_MT_alike (d + 1)) s m _ below meth c _ m_cls D A 6 156 [] (m_cw ad ca ky ty rt Ni Np No Nx Nf Na Nh Nq Nj M0 a0) []) (fun zz qq h h0 h1 => f_MT_alike_b116_bb hE hKy C hDD d rec hrec n a0 Ni Np No Nx Nf Na Nh Nq Nj M0 rt zz qq h h0 h1) n _ q5 hq5 ?_ _ _ _ hP hS (lv_sub hl [2, 4, 1, 0] rfl)
              by_cases c28 : q5.1 = 1
              · replace h := o_tt c28 h
                refine o_ip c28 ?_
                intro H locs ls hP hS hl
                refine lv_iconst (v := (0:Int32)) hx hb d_MT_alike_133 (by decide) ?_
                cases h
                exact o_rz (v := (0:Int32)) C o_nar0 hP hS d_MT_alike_134
              replace h := o_ff c28 h
              refine o_in_ c28 ?_
              intro H locs ls hP hS hl
              refine lv_iconst (v := (1:Int32)) hx hb d_MT_alike_156 (by decide) ?_
              cases h
              exact o_rz (v := (1:Int32)) C o_nar1 hP hS d_MT_alike_157
          · replace h := o_ff c12 h
            refine lv_iconst (v := (0:Int32)) hx hb d_MT_alike_88 (by decide) ?_
            cases h
            exact o_rz (v := (0:Int32)) C o_nar0 hP hS d_MT_alike_89
        · replace h := o_ff c9 h
          refine lv_iconst (v := (1:Int32)) hx hb d_MT_alike_71 (by decide) ?_
          cases h
          exact o_rz (v := (1:Int32)) C o_nar1 hP hS d_MT_alike_72
      · replace h := o_tt c7 h
        refine lv_aload_n hx hb d_MT_alike_53 rfl (lv_at hl 0 rfl) ?_
        refine lv_iload_n hx hb d_MT_alike_54 rfl (lv_at hl 1 rfl) ?_
        refine lv_aload_n hx hb d_MT_alike_55 rfl (lv_at hl 2 rfl) ?_
        refine lv_iload_n hx hb d_MT_alike_56 rfl (lv_at hl 3 rfl) ?_
        obtain ⟨q6, hq6, h⟩ := o_bd_some h
        refine o_V (st1 := [.int q6]) (w1 := (m_cw ad ca ky ty rt Ni Np No Nx Nf Na Nh Nq Nj M0 a0)) hE.1 C (e_MT_same_bb hE hKy l n x1 x3 a0 Ni Np No Nx Nf Na Nh Nq Nj M0 rt hq6) hP (hDD _ _ _ _ _ _ _ _ _ _ _ _) hS hl.1 rfl mw_48 k_9_25 k_9_26 k_9_27 k_1_13 k_9_28 hv_MT_same rfl rfl ⟨(by dsimp only [rm_MT_alike, rm_MT_same]; omega), (by dsimp only [rm_MT_alike, rm_MT_same]; omega)⟩ rfl (Nat.le_of_ble_eq_true rfl) ⟨Nat.zero_le _, Nat.zero_le _⟩ rfl d_MT_alike_57 (fun H locs hP hS => ?_)
        obtain ⟨g29, h⟩ := o_gd_some h
        cases h
        exact o_rz C (o_zb_nar g29) hP hS d_MT_alike_60
    · replace h := o_tt c5 h
      refine lv_aload_n hx hb d_MT_alike_27 rfl (lv_at hl 0 rfl) ?_
      refine lv_iload_n hx hb d_MT_alike_28 rfl (lv_at hl 1 rfl) ?_
      refine lv_aload_n hx hb d_MT_alike_29 rfl (lv_at hl 2 rfl) ?_
      refine lv_iload_n hx hb d_MT_alike_30 rfl (lv_at hl 3 rfl) ?_
      obtain ⟨q7, hq7, h⟩ := o_bd_some h
      refine o_V (st1 := [.int q7]) (w1 := (m_cw ad ca ky ty rt Ni Np No Nx Nf Na Nh Nq Nj M0 a0)) hE.1 C (e_MT_compare_bb hE hKy l n x1 x3 a0 Ni Np No Nx Nf Na Nh Nq Nj M0 rt hq7) hP (hDD _ _ _ _ _ _ _ _ _ _ _ _) hS hl.1 rfl mw_48 k_10_31 k_10_16 k_10_17 k_1_13 k_10_18 hv_MT_compare rfl rfl ⟨(by dsimp only [rm_MT_alike, rm_MT_compare]; omega), (by dsimp only [rm_MT_alike, rm_MT_compare]; omega)⟩ rfl (Nat.le_of_ble_eq_true rfl) ⟨Nat.zero_le _, Nat.zero_le _⟩ rfl d_MT_alike_31 (fun H locs hP hS => ?_)
      refine lv_if_ne (tgt := 41) hx hb d_MT_alike_34 (by decide) (fun c30 => ?_) (fun c30 => ?_)
      · replace h := o_ff c30 h
        refine lv_iconst (v := (0:Int32)) hx hb d_MT_alike_41 (by decide) ?_
        cases h
        exact o_rz (v := (0:Int32)) C o_nar0 hP hS d_MT_alike_42
      · replace h := o_tt c30 h
        refine lv_iconst (v := (1:Int32)) hx hb d_MT_alike_37 (by decide) ?_
        refine lv_goto (tgt := 42) hx hb d_MT_alike_38 (by decide) ?_
        cases h
        exact o_rz (v := (1:Int32)) C o_nar1 hP hS d_MT_alike_42
  · replace h := o_ff c3 h
    refine lv_iconst (v := (0:Int32)) hx hb d_MT_alike_15 (by decide) ?_
    cases h
    exact o_rz (v := (0:Int32)) C o_nar0 hP hS d_MT_alike_16
set_option maxHeartbeats 4000000 in
set_option maxRecDepth 100000 in
theorem e_MT_alike_bb {E : (Nat → Prop) → State → Heap → Prop} {D : va_G} {ad kd sd vd xd : Nat → Nat} {ca : Nat → ClassId} {ky ty : Nat → Option Nat} (hE : o_EK E kd sd vd xd) (hKy : m_KY ky ty sd) (l : Launch) (n : Nat) (d : Nat) (x1 : Int32) (x3 : Int32) (a0 : SMT) (Ni : SNI) (Np : SNP) (No : SNO) (Nx : SNX) (Nf : SNF) (Na : SNA) (Nh : SNH) (Nq : SNQ) (Nj : SNJ) (M0 : SMT) (rt : Nat) {r : Int32} (h : m_MT_alike n d x1 x3 a0 a0 = some r) : o_Cn E l D m_cls (m_tys ca) y_MT_alike cc_MT_alike (rm_MT_alike d) [.ref (ad 48), .int x1, .ref (ad 48), .int x3] (m_cw ad ca ky ty rt Ni Np No Nx Nf Na Nh Nq Nj M0 a0) (m_cw ad ca ky ty rt Ni Np No Nx Nf Na Nh Nq Nj M0 a0) (some (.int r)) := by
  induction d generalizing x1 x3 a0 Ni Np No Nx Nf Na Nh Nq Nj M0 rt r with
  | zero => cases h
  | succ d ih =>
    exact e_MT_alike_bb_F hE hKy l n d (m_MT_alike n d) (fun x1 x3 a0 Ni Np No Nx Nf Na Nh Nq Nj M0 rt r h => ih x1 x3 a0 Ni Np No Nx Nf Na Nh Nq Nj M0 rt h) _ _ _ _ _ _ _ _ _ _ _ _ _ _ h
set_option maxHeartbeats 4000000 in
set_option maxRecDepth 100000 in
theorem f_MM_array_j440 {E : (Nat → Prop) → State → Heap → Prop} {p : Program} {l : Launch} {e : Env} {s : State} {m : MethodId} {args : Array Value} {below : List Frame} {meth : Method} {c : Code} {D : va_G} {ad kd sd vd xd : Nat → Nat} {ca : Nat → ClassId} {A : Nat → Prop} {ky ty : Nat → Option Nat} {Q : State → Prop} (hE : o_EK E kd sd vd xd) (hKy : m_KY ky ty sd) (C : o_Cx E p s m args meth c D m_cls (m_tys ca) "SchemaJudgeModel" b_MM_array (some .boolean) 15 cc_MM_array A) (hDD : ∀ (rt : Nat) (Ni : SNI) (Np : SNP) (No : SNO) (Nx : SNX) (Nf : SNF) (Na : SNA) (Nh : SNH) (Nq : SNQ) (Nj : SNJ) (M0 : SMT) (M1 : SMT), va_D A (m_cw ad ca ky ty rt Ni Np No Nx Nf Na Nh Nq Nj M0 M1)) (d : Nat) (rec : Int32 → Int32 → SMT → SMT → SNP → SNO → SNX → SNA → SNQ → SNJ → Nat → Option (Int32 × SMT × SNP × SNO × SNX × SNQ × SNJ × Nat)) (hrec : ∀ (x1 : Int32) (x2 : Int32) (M0 : SMT) (M1 : SMT) (Np : SNP) (No : SNO) (Nx : SNX) (Na : SNA) (Nq : SNQ) (Nj : SNJ) (rt : Nat) (Ni : SNI) (Nf : SNF) (Nh : SNH) (r : Int32 × SMT × SNP × SNO × SNX × SNQ × SNJ × Nat), rec x1 x2 M0 M1 Np No Nx Na Nq Nj rt = some r → o_Cn E l D m_cls (m_tys ca) y_MM_judge cc_MM_judge (rm_MM_judge d) [.ref (ad 0), .int x1, .int x2] (m_cw ad ca ky ty rt Ni Np No Nx Nf Na Nh Nq Nj M0 M1) (m_cw ad ca ky ty r.2.2.2.2.2.2.2 Ni r.2.2.1 r.2.2.2.1 r.2.2.2.2.1 Nf Na Nh r.2.2.2.2.2.1 r.2.2.2.2.2.2.1 M0 r.2.1) (some (.int r.1))) (n : Nat) (u374_x1 : Int32) (u374_x2 : Int32) (u374_x12 : Int32) (u374_M0 : SMT) (u374_Na : SNA) (u374_Ni : SNI) (u374_Nf : SNF) (u374_Nh : SNH) (x5 : Int64) (x7 : Int32) (x9 : Int32) (x13 : Int32) (M1 : SMT) (Np : SNP) (No : SNO) (Nx : SNX) (Nq : SNQ) (Nj : SNJ) (rt : Nat) {q : Nat × Int64 × Int32 × Int32 × Int32 × SMT × SNP × SNO × SNX × SNQ × SNJ × Nat} (h : m_MM_array_j440 n rec u374_x1 u374_x2 x5 x7 x9 u374_x12 x13 u374_M0 M1 Np No Nx u374_Na Nq Nj rt = some q) (h0 : q.1 = 0 → o_At p l e (rm_MM_array d) s m args below meth c Q m_cls D A 15 374 [] (m_cw ad ca ky ty q.2.2.2.2.2.2.2.2.2.2.2 u374_Ni q.2.2.2.2.2.2.1 q.2.2.2.2.2.2.2.1 q.2.2.2.2.2.2.2.2.1 u374_Nf u374_Na u374_Nh q.2.2.2.2.2.2.2.2.2.1 q.2.2.2.2.2.2.2.2.2.2.1 u374_M0 q.2.2.2.2.2.1) [(0, .ref (ad 0)), (1, .int u374_x1), (2, .int u374_x2), (5, .long q.2.1), (7, .int q.2.2.1), (9, .int q.2.2.2.1), (12, .int u374_x12), (13, .int q.2.2.2.2.1)]) (h1 : q.1 ≠ 0 → (o_At p l e (rm_MM_array d) s m args below meth c Q m_cls D A 15 458 [] (m_cw ad ca ky ty q.2.2.2.2.2.2.2.2.2.2.2 u374_Ni q.2.2.2.2.2.2.1 q.2.2.2.2.2.2.2.1 q.2.2.2.2.2.2.2.2.1 u374_Nf u374_Na u374_Nh q.2.2.2.2.2.2.2.2.2.1 q.2.2.2.2.2.2.2.2.2.2.1 u374_M0 q.2.2.2.2.2.1) [(0, .ref (ad 0)), (1, .int u374_x1), (5, .long q.2.1), (7, .int q.2.2.1)])) : o_At p l e (rm_MM_array d) s m args below meth c Q m_cls D A 15 440 [] (m_cw ad ca ky ty rt u374_Ni Np No Nx u374_Nf u374_Na u374_Nh Nq Nj u374_M0 M1) [(0, .ref (ad 0)), (1, .int u374_x1), (2, .int u374_x2), (5, .long x5), (7, .int x7), (9, .int x9), (12, .int u374_x12), (13, .int x13)] := by
  unfold m_MM_array_j440 at h
  intro H locs ls hP hS hl
  have C0 := C
  obtain ⟨hx, hb, -, -, -, hown, hts, hK, -, -⟩ := C0
  refine lv_aload_n hx hb d_MM_array_440 rfl (lv_at hl 0 rfl) ?_
  refine o_get (v := .ref (ad 48)) C in_MM hP 0 mw_0 rfl 5 (by decide) k_7_235 rfl rfl d_MM_array_441 ?_
  refine o_get (v := .ref (ad 56)) C in_MT hP 48 mw_48 rfl 7 (by decide) k_7_115 rfl rfl d_MM_array_444 ?_
  refine lv_iload hx hb d_MM_array_447 (lv_at hl 7 rfl) ?_
  obtain ⟨g8, h⟩ := o_gd_some h
  refine o_iald (f := (MT_next M1)) C hP 56 53 mw_56 rfl g8 d_MM_array_449 ?_
  refine lv_topi (fun x13_450 ex13_450 => ?_)
  replace h := o_nm_at ex13_450 h
  refine lv_istore (lv' := [(13, .int x13_450), (0, .ref (ad 0)), (1, .int u374_x1), (2, .int u374_x2), (5, .long x5), (7, .int x7), (9, .int x9), (12, .int u374_x12)]) hx hb d_MM_array_450 hl (by decide) rfl (fun ls hl => ?_)
  obtain ⟨x9_452, ex9_452⟩ : ∃ y : Int32, y = x9 + (1:Int32) := ⟨_, rfl⟩
  replace h := o_nm_at ex9_452 h
  refine lv_iinc (v := x9_452) (lv' := [(9, .int x9_452), (13, .int x13_450), (0, .ref (ad 0)), (1, .int u374_x1), (2, .int u374_x2), (5, .long x5), (7, .int x7), (12, .int u374_x12)]) hx hb d_MM_array_452 hl (k := 6) rfl (by rw [ex9_452]; rfl) (by decide) rfl (fun ls hl => ?_)
  refine lv_goto (tgt := 374) hx hb d_MM_array_455 (by decide) ?_
  cases h
  exact h0 rfl _ _ _ hP hS (lv_sub hl [2, 3, 4, 5, 6, 0, 7, 1] rfl)
set_option maxHeartbeats 4000000 in
set_option maxRecDepth 100000 in
theorem f_MM_array_j414 {E : (Nat → Prop) → State → Heap → Prop} {p : Program} {l : Launch} {e : Env} {s : State} {m : MethodId} {args : Array Value} {below : List Frame} {meth : Method} {c : Code} {D : va_G} {ad kd sd vd xd : Nat → Nat} {ca : Nat → ClassId} {A : Nat → Prop} {ky ty : Nat → Option Nat} {Q : State → Prop} (hE : o_EK E kd sd vd xd) (hKy : m_KY ky ty sd) (C : o_Cx E p s m args meth c D m_cls (m_tys ca) "SchemaJudgeModel" b_MM_array (some .boolean) 15 cc_MM_array A) (hDD : ∀ (rt : Nat) (Ni : SNI) (Np : SNP) (No : SNO) (Nx : SNX) (Nf : SNF) (Na : SNA) (Nh : SNH) (Nq : SNQ) (Nj : SNJ) (M0 : SMT) (M1 : SMT), va_D A (m_cw ad ca ky ty rt Ni Np No Nx Nf Na Nh Nq Nj M0 M1)) (d : Nat) (rec : Int32 → Int32 → SMT → SMT → SNP → SNO → SNX → SNA → SNQ → SNJ → Nat → Option (Int32 × SMT × SNP × SNO × SNX × SNQ × SNJ × Nat)) (hrec : ∀ (x1 : Int32) (x2 : Int32) (M0 : SMT) (M1 : SMT) (Np : SNP) (No : SNO) (Nx : SNX) (Na : SNA) (Nq : SNQ) (Nj : SNJ) (rt : Nat) (Ni : SNI) (Nf : SNF) (Nh : SNH) (r : Int32 × SMT × SNP × SNO × SNX × SNQ × SNJ × Nat), rec x1 x2 M0 M1 Np No Nx Na Nq Nj rt = some r → o_Cn E l D m_cls (m_tys ca) y_MM_judge cc_MM_judge (rm_MM_judge d) [.ref (ad 0), .int x1, .int x2] (m_cw ad ca ky ty rt Ni Np No Nx Nf Na Nh Nq Nj M0 M1) (m_cw ad ca ky ty r.2.2.2.2.2.2.2 Ni r.2.2.1 r.2.2.2.1 r.2.2.2.2.1 Nf Na Nh r.2.2.2.2.2.1 r.2.2.2.2.2.2.1 M0 r.2.1) (some (.int r.1))) (n : Nat) (u374_x1 : Int32) (u374_x2 : Int32) (u374_x12 : Int32) (u374_M0 : SMT) (u374_Na : SNA) (u374_Ni : SNI) (u374_Nf : SNF) (u374_Nh : SNH) (x5 : Int64) (x7 : Int32) (x9 : Int32) (x13 : Int32) (M1 : SMT) (Np : SNP) (No : SNO) (Nx : SNX) (Nq : SNQ) (Nj : SNJ) (rt : Nat) {q : Nat × Int64 × Int32 × Int32 × Int32 × SMT × SNP × SNO × SNX × SNQ × SNJ × Nat} (h : m_MM_array_j414 n rec u374_x1 u374_x2 x5 x7 x9 u374_x12 x13 u374_M0 M1 Np No Nx u374_Na Nq Nj rt = some q) (h0 : q.1 = 0 → o_At p l e (rm_MM_array d) s m args below meth c Q m_cls D A 15 374 [] (m_cw ad ca ky ty q.2.2.2.2.2.2.2.2.2.2.2 u374_Ni q.2.2.2.2.2.2.1 q.2.2.2.2.2.2.2.1 q.2.2.2.2.2.2.2.2.1 u374_Nf u374_Na u374_Nh q.2.2.2.2.2.2.2.2.2.1 q.2.2.2.2.2.2.2.2.2.2.1 u374_M0 q.2.2.2.2.2.1) [(0, .ref (ad 0)), (1, .int u374_x1), (2, .int u374_x2), (5, .long q.2.1), (7, .int q.2.2.1), (9, .int q.2.2.2.1), (12, .int u374_x12), (13, .int q.2.2.2.2.1)]) (h1 : q.1 ≠ 0 → (o_At p l e (rm_MM_array d) s m args below meth c Q m_cls D A 15 458 [] (m_cw ad ca ky ty q.2.2.2.2.2.2.2.2.2.2.2 u374_Ni q.2.2.2.2.2.2.1 q.2.2.2.2.2.2.2.1 q.2.2.2.2.2.2.2.2.1 u374_Nf u374_Na u374_Nh q.2.2.2.2.2.2.2.2.2.1 q.2.2.2.2.2.2.2.2.2.2.1 u374_M0 q.2.2.2.2.2.1) [(0, .ref (ad 0)), (1, .int u374_x1), (5, .long q.2.1), (7, .int q.2.2.1)])) : o_At p l e (rm_MM_array d) s m args below meth c Q m_cls D A 15 414 [] (m_cw ad ca ky ty rt u374_Ni Np No Nx u374_Nf u374_Na u374_Nh Nq Nj u374_M0 M1) [(0, .ref (ad 0)), (1, .int u374_x1), (2, .int u374_x2), (5, .long x5), (7, .int x7), (9, .int x9), (12, .int u374_x12), (13, .int x13)] := by
  unfold m_MM_array_j414 at h
  intro H locs ls hP hS hl
  have C0 := C
  obtain ⟨hx, hb, -, -, -, hown, hts, hK, -, -⟩ := C0
  refine lv_iload hx hb d_MM_array_414 (lv_at hl 4 rfl) ?_
  refine lv_aload_n hx hb d_MM_array_416 rfl (lv_at hl 0 rfl) ?_
  refine lv_iload_n hx hb d_MM_array_417 rfl (lv_at hl 2 rfl) ?_
  refine lv_iload hx hb d_MM_array_418 (lv_at hl 7 rfl) ?_
  obtain ⟨q2, hq2, h⟩ := o_bd_some h
  refine o_V (st1 := [.int q2.1, .int x7]) (w1 := (m_cw ad ca ky ty q2.2.2.2.2.2.2.2 u374_Ni q2.2.2.1 q2.2.2.2.1 q2.2.2.2.2.1 u374_Nf u374_Na u374_Nh q2.2.2.2.2.2.1 q2.2.2.2.2.2.2.1 u374_M0 q2.2.1)) hE.1 C (hrec u374_x2 x13 u374_M0 M1 Np No Nx u374_Na Nq Nj rt u374_Ni u374_Nf u374_Nh _ hq2) hP (hDD _ _ _ _ _ _ _ _ _ _ _ _) hS hl.1 rfl mw_0 k_9_210 k_9_212 k_s_116 k_1_12 k_9_213 hv_MM_judge rfl rfl ⟨(by dsimp only [rm_MM_array, rm_MM_judge]; omega), (by dsimp only [rm_MM_array, rm_MM_judge]; omega)⟩ rfl (Nat.le_of_ble_eq_true rfl) ⟨Nat.zero_le _, Nat.zero_le _⟩ rfl d_MM_array_420 (fun H locs hP hS => ?_)
  refine lv_iand hx hb d_MM_array_423 ?_
  refine lv_topi (fun x7_424 ex7_424 => ?_)
  replace h := o_nm_at ex7_424 h
  refine lv_istore (lv' := [(7, .int x7_424), (0, .ref (ad 0)), (1, .int u374_x1), (2, .int u374_x2), (5, .long x5), (9, .int x9), (12, .int u374_x12), (13, .int x13)]) hx hb d_MM_array_424 hl (by decide) rfl (fun ls hl => ?_)
  refine lv_iload_n hx hb d_MM_array_426 rfl (lv_at hl 2 rfl) ?_
  refine lv_iconst (v := (4:Int32)) hx hb d_MM_array_427 (by decide) ?_
  refine lv_icmp_ne (tgt := 440) hx hb d_MM_array_428 (by decide) (fun c10 => ?_) (fun c10 => ?_)
  · replace h := o_ff c10 h
    exact f_MM_array_j440 hE hKy C hDD d rec hrec n u374_x1 u374_x2 u374_x12 u374_M0 u374_Na u374_Ni u374_Nf u374_Nh x5 x7_424 x9 x13 q2.2.1 q2.2.2.1 q2.2.2.2.1 q2.2.2.2.2.1 q2.2.2.2.2.2.1 q2.2.2.2.2.2.2.1 q2.2.2.2.2.2.2.2 h h0 h1 _ _ _ hP hS (lv_sub hl [1, 2, 3, 4, 0, 5, 6, 7] rfl)
  · replace h := o_tt c10 h
    refine lv_lload hx hb d_MM_array_431 (lv_at hl 4 rfl) ?_
    refine lv_lconst (v := (1:Int64)) hx hb d_MM_array_433 (by decide) ?_
    refine lv_iload hx hb d_MM_array_434 (lv_at hl 5 rfl) ?_
    refine lv_lshl hx hb d_MM_array_436 rfl ?_
    refine lv_lor hx hb d_MM_array_437 ?_
    refine lv_topl (fun x5_438 ex5_438 => ?_)
    replace h := o_nm_at ex5_438 h
    refine lv_lstore (lv' := [(5, .long x5_438), (7, .int x7_424), (0, .ref (ad 0)), (1, .int u374_x1), (2, .int u374_x2), (9, .int x9), (12, .int u374_x12), (13, .int x13)]) hx hb d_MM_array_438 hl (by decide) rfl (fun ls hl => ?_)
    exact f_MM_array_j440 hE hKy C hDD d rec hrec n u374_x1 u374_x2 u374_x12 u374_M0 u374_Na u374_Ni u374_Nf u374_Nh x5_438 x7_424 x9 x13 q2.2.1 q2.2.2.1 q2.2.2.2.1 q2.2.2.2.2.1 q2.2.2.2.2.2.1 q2.2.2.2.2.2.2.1 q2.2.2.2.2.2.2.2 h h0 h1 _ _ _ hP hS (lv_sub hl [2, 3, 4, 0, 1, 5, 6, 7] rfl)
set_option maxHeartbeats 4000000 in
set_option maxRecDepth 100000 in
theorem f_MM_array_b374 {E : (Nat → Prop) → State → Heap → Prop} {p : Program} {l : Launch} {e : Env} {s : State} {m : MethodId} {args : Array Value} {below : List Frame} {meth : Method} {c : Code} {D : va_G} {ad kd sd vd xd : Nat → Nat} {ca : Nat → ClassId} {A : Nat → Prop} {ky ty : Nat → Option Nat} {Q : State → Prop} (hE : o_EK E kd sd vd xd) (hKy : m_KY ky ty sd) (C : o_Cx E p s m args meth c D m_cls (m_tys ca) "SchemaJudgeModel" b_MM_array (some .boolean) 15 cc_MM_array A) (hDD : ∀ (rt : Nat) (Ni : SNI) (Np : SNP) (No : SNO) (Nx : SNX) (Nf : SNF) (Na : SNA) (Nh : SNH) (Nq : SNQ) (Nj : SNJ) (M0 : SMT) (M1 : SMT), va_D A (m_cw ad ca ky ty rt Ni Np No Nx Nf Na Nh Nq Nj M0 M1)) (d : Nat) (rec : Int32 → Int32 → SMT → SMT → SNP → SNO → SNX → SNA → SNQ → SNJ → Nat → Option (Int32 × SMT × SNP × SNO × SNX × SNQ × SNJ × Nat)) (hrec : ∀ (x1 : Int32) (x2 : Int32) (M0 : SMT) (M1 : SMT) (Np : SNP) (No : SNO) (Nx : SNX) (Na : SNA) (Nq : SNQ) (Nj : SNJ) (rt : Nat) (Ni : SNI) (Nf : SNF) (Nh : SNH) (r : Int32 × SMT × SNP × SNO × SNX × SNQ × SNJ × Nat), rec x1 x2 M0 M1 Np No Nx Na Nq Nj rt = some r → o_Cn E l D m_cls (m_tys ca) y_MM_judge cc_MM_judge (rm_MM_judge d) [.ref (ad 0), .int x1, .int x2] (m_cw ad ca ky ty rt Ni Np No Nx Nf Na Nh Nq Nj M0 M1) (m_cw ad ca ky ty r.2.2.2.2.2.2.2 Ni r.2.2.1 r.2.2.2.1 r.2.2.2.2.1 Nf Na Nh r.2.2.2.2.2.1 r.2.2.2.2.2.2.1 M0 r.2.1) (some (.int r.1))) (n : Nat) (u374_x1 : Int32) (u374_x2 : Int32) (u374_x12 : Int32) (u374_M0 : SMT) (u374_Na : SNA) (u374_Ni : SNI) (u374_Nf : SNF) (u374_Nh : SNH) (z : Int64 × Int32 × Int32 × Int32 × SMT × SNP × SNO × SNX × SNQ × SNJ × Nat) (q : Nat × Int64 × Int32 × Int32 × Int32 × SMT × SNP × SNO × SNX × SNQ × SNJ × Nat) (h : m_MM_array_b374 n rec u374_x1 u374_x2 u374_x12 u374_M0 u374_Na z = some q) (h0 : q.1 = 0 → o_At p l e (rm_MM_array d) s m args below meth c Q m_cls D A 15 374 [] (m_cw ad ca ky ty q.2.2.2.2.2.2.2.2.2.2.2 u374_Ni q.2.2.2.2.2.2.1 q.2.2.2.2.2.2.2.1 q.2.2.2.2.2.2.2.2.1 u374_Nf u374_Na u374_Nh q.2.2.2.2.2.2.2.2.2.1 q.2.2.2.2.2.2.2.2.2.2.1 u374_M0 q.2.2.2.2.2.1) [(0, .ref (ad 0)), (1, .int u374_x1), (2, .int u374_x2), (5, .long q.2.1), (7, .int q.2.2.1), (9, .int q.2.2.2.1), (12, .int u374_x12), (13, .int q.2.2.2.2.1)]) (h1 : q.1 ≠ 0 → (o_At p l e (rm_MM_array d) s m args below meth c Q m_cls D A 15 458 [] (m_cw ad ca ky ty q.2.2.2.2.2.2.2.2.2.2.2 u374_Ni q.2.2.2.2.2.2.1 q.2.2.2.2.2.2.2.1 q.2.2.2.2.2.2.2.2.1 u374_Nf u374_Na u374_Nh q.2.2.2.2.2.2.2.2.2.1 q.2.2.2.2.2.2.2.2.2.2.1 u374_M0 q.2.2.2.2.2.1) [(0, .ref (ad 0)), (1, .int u374_x1), (5, .long q.2.1), (7, .int q.2.2.1)])) : o_At p l e (rm_MM_array d) s m args below meth c Q m_cls D A 15 374 [] (m_cw ad ca ky ty z.2.2.2.2.2.2.2.2.2.2 u374_Ni z.2.2.2.2.2.1 z.2.2.2.2.2.2.1 z.2.2.2.2.2.2.2.1 u374_Nf u374_Na u374_Nh z.2.2.2.2.2.2.2.2.1 z.2.2.2.2.2.2.2.2.2.1 u374_M0 z.2.2.2.2.1) [(0, .ref (ad 0)), (1, .int u374_x1), (2, .int u374_x2), (5, .long z.1), (7, .int z.2.1), (9, .int z.2.2.1), (12, .int u374_x12), (13, .int z.2.2.2.1)] := by
  unfold m_MM_array_b374 at h
  intro H locs ls hP hS hl
  have C0 := C
  obtain ⟨hx, hb, -, -, -, hown, hts, hK, -, -⟩ := C0
  refine lv_iload hx hb d_MM_array_374 (lv_at hl 7 rfl) ?_
  refine lv_if_lt (tgt := 458) hx hb d_MM_array_376 (by decide) (fun c5 => ?_) (fun c5 => ?_)
  · replace h := o_tt c5 h
    cases h
    exact h1 (Nat.succ_ne_zero 0) _ _ _ hP hS (lv_sub hl [0, 1, 3, 4] rfl)
  · replace h := o_ff c5 h
    refine lv_aload_n hx hb d_MM_array_379 rfl (lv_at hl 0 rfl) ?_
    refine o_get (v := .int (NJ_over z.2.2.2.2.2.2.2.2.2.1)) C in_MM hP 0 mw_0 rfl 57 (by decide) k_8_47 rfl rfl d_MM_array_380 ?_
    refine lv_if_ne (tgt := 458) hx hb d_MM_array_383 (by decide) (fun c6 => ?_) (fun c6 => ?_)
    · replace h := o_ff c6 h
      cases h
      exact h1 (Nat.succ_ne_zero 0) _ _ _ hP hS (lv_sub hl [0, 1, 3, 4] rfl)
    · replace h := o_tt c6 h
      refine lv_iload hx hb d_MM_array_386 (lv_at hl 5 rfl) ?_
      refine lv_iload hx hb d_MM_array_388 (lv_at hl 6 rfl) ?_
      refine lv_icmp_lt (tgt := 440) hx hb d_MM_array_390 (by decide) (fun c7 => ?_) (fun c7 => ?_)
      · replace h := o_tt c7 h
        exact f_MM_array_j440 hE hKy C hDD d rec hrec n u374_x1 u374_x2 u374_x12 u374_M0 u374_Na u374_Ni u374_Nf u374_Nh z.1 z.2.1 z.2.2.1 z.2.2.2.1 z.2.2.2.2.1 z.2.2.2.2.2.1 z.2.2.2.2.2.2.1 z.2.2.2.2.2.2.2.1 z.2.2.2.2.2.2.2.2.1 z.2.2.2.2.2.2.2.2.2.1 z.2.2.2.2.2.2.2.2.2.2 h h0 h1 _ _ _ hP hS (lv_sub hl [0, 1, 2, 3, 4, 5, 6, 7] rfl)
      · replace h := o_ff c7 h
        refine lv_iload_n hx hb d_MM_array_393 rfl (lv_at hl 1 rfl) ?_
        refine lv_bipush (v := (8:Int32)) hx hb d_MM_array_394 (by decide) ?_
        refine lv_icmp_ne (tgt := 414) hx hb d_MM_array_396 (by decide) (fun c9 => ?_) (fun c9 => ?_)
        · replace h := o_ff c9 h
          exact f_MM_array_j414 hE hKy C hDD d rec hrec n u374_x1 u374_x2 u374_x12 u374_M0 u374_Na u374_Ni u374_Nf u374_Nh z.1 z.2.1 z.2.2.1 z.2.2.2.1 z.2.2.2.2.1 z.2.2.2.2.2.1 z.2.2.2.2.2.2.1 z.2.2.2.2.2.2.2.1 z.2.2.2.2.2.2.2.2.1 z.2.2.2.2.2.2.2.2.2.1 z.2.2.2.2.2.2.2.2.2.2 h h0 h1 _ _ _ hP hS (lv_sub hl [0, 1, 2, 3, 4, 5, 6, 7] rfl)
        · replace h := o_tt c9 h
          refine lv_lload hx hb d_MM_array_399 (lv_at hl 3 rfl) ?_
          refine lv_iload hx hb d_MM_array_401 (lv_at hl 5 rfl) ?_
          refine lv_lshr hx hb d_MM_array_403 rfl ?_
          refine lv_lconst (v := (1:Int64)) hx hb d_MM_array_404 (by decide) ?_
          refine lv_land hx hb d_MM_array_405 ?_
          refine lv_lconst (v := (0:Int64)) hx hb d_MM_array_406 (by decide) ?_
          refine W.lcmp hx hb d_MM_array_407 ?_
          refine lv_if_eq (tgt := 414) hx hb d_MM_array_408 (by decide) (fun c11 => ?_) (fun c11 => ?_)
          · replace h := o_tt c11 h
            exact f_MM_array_j414 hE hKy C hDD d rec hrec n u374_x1 u374_x2 u374_x12 u374_M0 u374_Na u374_Ni u374_Nf u374_Nh z.1 z.2.1 z.2.2.1 z.2.2.2.1 z.2.2.2.2.1 z.2.2.2.2.2.1 z.2.2.2.2.2.2.1 z.2.2.2.2.2.2.2.1 z.2.2.2.2.2.2.2.2.1 z.2.2.2.2.2.2.2.2.2.1 z.2.2.2.2.2.2.2.2.2.2 h h0 h1 _ _ _ hP hS (lv_sub hl [0, 1, 2, 3, 4, 5, 6, 7] rfl)
          · replace h := o_ff c11 h
            refine lv_goto (tgt := 440) hx hb d_MM_array_411 (by decide) ?_
            exact f_MM_array_j440 hE hKy C hDD d rec hrec n u374_x1 u374_x2 u374_x12 u374_M0 u374_Na u374_Ni u374_Nf u374_Nh z.1 z.2.1 z.2.2.1 z.2.2.2.1 z.2.2.2.2.1 z.2.2.2.2.2.1 z.2.2.2.2.2.2.1 z.2.2.2.2.2.2.2.1 z.2.2.2.2.2.2.2.2.1 z.2.2.2.2.2.2.2.2.2.1 z.2.2.2.2.2.2.2.2.2.2 h h0 h1 _ _ _ hP hS (lv_sub hl [0, 1, 2, 3, 4, 5, 6, 7] rfl)
set_option maxHeartbeats 4000000 in
set_option maxRecDepth 100000 in
theorem f_MM_array_j458 {E : (Nat → Prop) → State → Heap → Prop} {p : Program} {l : Launch} {e : Env} {s : State} {m : MethodId} {args : Array Value} {below : List Frame} {meth : Method} {c : Code} {D : va_G} {ad kd sd vd xd : Nat → Nat} {ca : Nat → ClassId} {A : Nat → Prop} {ky ty : Nat → Option Nat} (hE : o_EK E kd sd vd xd) (hKy : m_KY ky ty sd) (C : o_Cx E p s m args meth c D m_cls (m_tys ca) "SchemaJudgeModel" b_MM_array (some .boolean) 15 cc_MM_array A) (hDD : ∀ (rt : Nat) (Ni : SNI) (Np : SNP) (No : SNO) (Nx : SNX) (Nf : SNF) (Na : SNA) (Nh : SNH) (Nq : SNQ) (Nj : SNJ) (M0 : SMT) (M1 : SMT), va_D A (m_cw ad ca ky ty rt Ni Np No Nx Nf Na Nh Nq Nj M0 M1)) (d : Nat) (rec : Int32 → Int32 → SMT → SMT → SNP → SNO → SNX → SNA → SNQ → SNJ → Nat → Option (Int32 × SMT × SNP × SNO × SNX × SNQ × SNJ × Nat)) (hrec : ∀ (x1 : Int32) (x2 : Int32) (M0 : SMT) (M1 : SMT) (Np : SNP) (No : SNO) (Nx : SNX) (Na : SNA) (Nq : SNQ) (Nj : SNJ) (rt : Nat) (Ni : SNI) (Nf : SNF) (Nh : SNH) (r : Int32 × SMT × SNP × SNO × SNX × SNQ × SNJ × Nat), rec x1 x2 M0 M1 Np No Nx Na Nq Nj rt = some r → o_Cn E l D m_cls (m_tys ca) y_MM_judge cc_MM_judge (rm_MM_judge d) [.ref (ad 0), .int x1, .int x2] (m_cw ad ca ky ty rt Ni Np No Nx Nf Na Nh Nq Nj M0 M1) (m_cw ad ca ky ty r.2.2.2.2.2.2.2 Ni r.2.2.1 r.2.2.2.1 r.2.2.2.2.1 Nf Na Nh r.2.2.2.2.2.1 r.2.2.2.2.2.2.1 M0 r.2.1) (some (.int r.1))) (n : Nat) (x1 : Int32) (x5 : Int64) (x7 : Int32) (M0 : SMT) (M1 : SMT) (Np : SNP) (No : SNO) (Nx : SNX) (Na : SNA) (Nq : SNQ) (Nj : SNJ) (rt : Nat) (Ni : SNI) (Nf : SNF) (Nh : SNH) {r : Int32 × SMT × SNP × SNO × SNX × SNQ × SNJ × Nat} (h : m_MM_array_j458 n rec x1 x5 x7 M0 M1 Np No Nx Na Nq Nj rt = some r) : o_At p l e (rm_MM_array d) s m args below meth c (MQ below (o_Qx D m_cls (some (.int r.1)) (m_cw ad ca ky ty r.2.2.2.2.2.2.2 Ni r.2.2.1 r.2.2.2.1 r.2.2.2.2.1 Nf Na Nh r.2.2.2.2.2.1 r.2.2.2.2.2.2.1 M0 r.2.1) A) args s 0 0 A) m_cls D A 15 458 [] (m_cw ad ca ky ty rt Ni Np No Nx Nf Na Nh Nq Nj M0 M1) [(0, .ref (ad 0)), (1, .int x1), (5, .long x5), (7, .int x7)] := by
  unfold m_MM_array_j458 at h
  intro H locs ls hP hS hl
  have C0 := C
  obtain ⟨hx, hb, -, -, -, hown, hts, hK, -, -⟩ := C0
  refine lv_iload_n hx hb d_MM_array_458 rfl (lv_at hl 1 rfl) ?_
  refine lv_bipush (v := (8:Int32)) hx hb d_MM_array_459 (by decide) ?_
  refine lv_icmp_ne (tgt := 620) hx hb d_MM_array_461 (by decide) (fun c12 => ?_) (fun c12 => ?_)
  · replace h := o_ff c12 h
    refine lv_aload_n hx hb d_MM_array_620 rfl (lv_at hl 0 rfl) ?_
    refine lv_lload hx hb d_MM_array_621 (lv_at hl 2 rfl) ?_
    refine o_put (v := .long x5) (ty := .long) (w1 := (m_cw ad ca ky ty rt Ni Np No Nx Nf Na Nh Nq (NJ_mk (NJ_judged Nj) (NJ_deepest Nj) (NJ_depth Nj) (NJ_over Nj) x5) M0 M1)) C in_MM t_MM t_MM_ok n_MM hP (hDD _ _ _ _ _ _ _ _ _ _ _ _) hS 0 mw_0 rfl 58 (by decide) k_8_48 rfl rfl (by decide +kernel) rfl rfl (Nat.le_of_ble_eq_true rfl) rfl d_MM_array_623 (fun H locs hP hS => ?_)
    refine lv_iload hx hb d_MM_array_626 (lv_at hl 3 rfl) ?_
    obtain ⟨g13, h⟩ := o_gd_some h
    cases h
    exact o_rz C (o_zb_nar g13) hP hS d_MM_array_628
  · replace h := o_tt c12 h
    refine lv_ldc2 (v := (-1:Int64)) hx hb hown (hts _ k_10_55) d_MM_array_464 ?_
    refine lv_lstore (lv' := [(5, .long (-1:Int64)), (0, .ref (ad 0)), (1, .int x1), (7, .int x7)]) hx hb d_MM_array_467 hl (by decide) rfl (fun ls hl => ?_)
    refine lv_goto (tgt := 620) hx hb d_MM_array_469 (by decide) ?_
    refine lv_aload_n hx hb d_MM_array_620 rfl (lv_at hl 1 rfl) ?_
    refine lv_lload hx hb d_MM_array_621 (lv_at hl 0 rfl) ?_
    refine o_put (v := .long (-1:Int64)) (ty := .long) (w1 := (m_cw ad ca ky ty rt Ni Np No Nx Nf Na Nh Nq (NJ_mk (NJ_judged Nj) (NJ_deepest Nj) (NJ_depth Nj) (NJ_over Nj) (-1:Int64)) M0 M1)) C in_MM t_MM t_MM_ok n_MM hP (hDD _ _ _ _ _ _ _ _ _ _ _ _) hS 0 mw_0 rfl 58 (by decide) k_8_48 rfl rfl (by decide +kernel) rfl rfl (Nat.le_of_ble_eq_true rfl) rfl d_MM_array_623 (fun H locs hP hS => ?_)
    refine lv_iload hx hb d_MM_array_626 (lv_at hl 3 rfl) ?_
    obtain ⟨g14, h⟩ := o_gd_some h
    cases h
    exact o_rz C (o_zb_nar g14) hP hS d_MM_array_628
set_option maxHeartbeats 4000000 in
set_option maxRecDepth 100000 in
theorem f_MM_array_j360 {E : (Nat → Prop) → State → Heap → Prop} {p : Program} {l : Launch} {e : Env} {s : State} {m : MethodId} {args : Array Value} {below : List Frame} {meth : Method} {c : Code} {D : va_G} {ad kd sd vd xd : Nat → Nat} {ca : Nat → ClassId} {A : Nat → Prop} {ky ty : Nat → Option Nat} (hE : o_EK E kd sd vd xd) (hKy : m_KY ky ty sd) (C : o_Cx E p s m args meth c D m_cls (m_tys ca) "SchemaJudgeModel" b_MM_array (some .boolean) 15 cc_MM_array A) (hDD : ∀ (rt : Nat) (Ni : SNI) (Np : SNP) (No : SNO) (Nx : SNX) (Nf : SNF) (Na : SNA) (Nh : SNH) (Nq : SNQ) (Nj : SNJ) (M0 : SMT) (M1 : SMT), va_D A (m_cw ad ca ky ty rt Ni Np No Nx Nf Na Nh Nq Nj M0 M1)) (d : Nat) (rec : Int32 → Int32 → SMT → SMT → SNP → SNO → SNX → SNA → SNQ → SNJ → Nat → Option (Int32 × SMT × SNP × SNO × SNX × SNQ × SNJ × Nat)) (hrec : ∀ (x1 : Int32) (x2 : Int32) (M0 : SMT) (M1 : SMT) (Np : SNP) (No : SNO) (Nx : SNX) (Na : SNA) (Nq : SNQ) (Nj : SNJ) (rt : Nat) (Ni : SNI) (Nf : SNF) (Nh : SNH) (r : Int32 × SMT × SNP × SNO × SNX × SNQ × SNJ × Nat), rec x1 x2 M0 M1 Np No Nx Na Nq Nj rt = some r → o_Cn E l D m_cls (m_tys ca) y_MM_judge cc_MM_judge (rm_MM_judge d) [.ref (ad 0), .int x1, .int x2] (m_cw ad ca ky ty rt Ni Np No Nx Nf Na Nh Nq Nj M0 M1) (m_cw ad ca ky ty r.2.2.2.2.2.2.2 Ni r.2.2.1 r.2.2.2.1 r.2.2.2.2.1 Nf Na Nh r.2.2.2.2.2.1 r.2.2.2.2.2.2.1 M0 r.2.1) (some (.int r.1))) (n : Nat) (x1 : Int32) (x2 : Int32) (x4 : Int32) (x5 : Int64) (x7 : Int32) (x9 : Int32) (y0 : Int32) (M0 : SMT) (M1 : SMT) (Np : SNP) (No : SNO) (Nx : SNX) (Na : SNA) (Nq : SNQ) (Nj : SNJ) (rt : Nat) (Ni : SNI) (Nf : SNF) (Nh : SNH) {r : Int32 × SMT × SNP × SNO × SNX × SNQ × SNJ × Nat} (h : m_MM_array_j360 n rec x1 x2 x4 x5 x7 x9 y0 M0 M1 Np No Nx Na Nq Nj rt = some r) : o_At p l e (rm_MM_array d) s m args below meth c (MQ below (o_Qx D m_cls (some (.int r.1)) (m_cw ad ca ky ty r.2.2.2.2.2.2.2 Ni r.2.2.1 r.2.2.2.1 r.2.2.2.2.1 Nf Na Nh r.2.2.2.2.2.1 r.2.2.2.2.2.2.1 M0 r.2.1) A) args s 0 0 A) m_cls D A 15 360 [.int y0] (m_cw ad ca ky ty rt Ni Np No Nx Nf Na Nh Nq Nj M0 M1) [(0, .ref (ad 0)), (1, .int x1), (2, .int x2), (4, .int x4), (5, .long x5), (7, .int x7), (9, .int x9)] := by
  unfold m_MM_array_j360 at h
  intro H locs ls hP hS hl
  have C0 := C
  obtain ⟨hx, hb, -, -, -, hown, hts, hK, -, -⟩ := C0
  refine lv_istore (lv' := [(12, .int y0), (0, .ref (ad 0)), (1, .int x1), (2, .int x2), (4, .int x4), (5, .long x5), (7, .int x7), (9, .int x9)]) hx hb d_MM_array_360 hl (by decide) rfl (fun ls hl => ?_)
  refine lv_aload_n hx hb d_MM_array_362 rfl (lv_at hl 1 rfl) ?_
  refine o_get (v := .ref (ad 48)) C in_MM hP 0 mw_0 rfl 5 (by decide) k_7_235 rfl rfl d_MM_array_363 ?_
  refine o_get (v := .ref (ad 55)) C in_MT hP 48 mw_48 rfl 6 (by decide) k_7_113 rfl rfl d_MM_array_366 ?_
  refine lv_iload hx hb d_MM_array_369 (lv_at hl 4 rfl) ?_
  obtain ⟨g4, h⟩ := o_gd_some h
  refine o_iald (f := (MT_first M1)) C hP 55 52 mw_55 rfl g4 d_MM_array_371 ?_
  refine lv_topi (fun x13_372 ex13_372 => ?_)
  replace h := o_nm_at ex13_372 h
  refine lv_istore (lv' := [(13, .int x13_372), (12, .int y0), (0, .ref (ad 0)), (1, .int x1), (2, .int x2), (4, .int x4), (5, .long x5), (7, .int x7), (9, .int x9)]) hx hb d_MM_array_372 hl (by decide) rfl (fun ls hl => ?_)
  obtain ⟨q3, hq3, h⟩ := o_bd_some h
  refine o_sim2 (AH := fun zz => o_At p l e (rm_MM_array d) s m args below meth c _ m_cls D A 15 374 [] (m_cw ad ca ky ty zz.2.2.2.2.2.2.2.2.2.2 Ni zz.2.2.2.2.2.1 zz.2.2.2.2.2.2.1 zz.2.2.2.2.2.2.2.1 Nf Na Nh zz.2.2.2.2.2.2.2.2.1 zz.2.2.2.2.2.2.2.2.2.1 M0 zz.2.2.2.2.1) [(0, .ref (ad 0)), (1, .int x1), (2, .int x2), (5, .long zz.1), (7, .int zz.2.1), (9, .int zz.2.2.1), (12, .int y0), (13, .int zz.2.2.2.1)]) (AX := fun qq => o_At p l e (rm_MM_array d) s m args below meth c _ m_cls D A 15 458 [] (m_cw ad ca ky ty qq.2.2.2.2.2.2.2.2.2.2.2 Ni qq.2.2.2.2.2.2.1 qq.2.2.2.2.2.2.2.1 qq.2.2.2.2.2.2.2.2.1 Nf Na Nh qq.2.2.2.2.2.2.2.2.2.1 qq.2.2.2.2.2.2.2.2.2.2.1 M0 qq.2.2.2.2.2.1) [(0, .ref (ad 0)), (1, .int x1), (5, .long qq.2.1), (7, .int qq.2.2.1)]) (fun zz qq h h0 h1 => f_MM_array_b374 hE hKy C hDD d rec hrec n x1 x2 y0 M0 Na Ni Nf Nh zz qq h h0 h1) n _ q3 hq3 ?_ _ _ _ hP hS (lv_sub hl [2, 3, 4, 6, 7, 8, 1, 0] rfl)
  intro H locs ls hP hS hl
  exact f_MM_array_j458 hE hKy C hDD d rec hrec n x1 q3.2.1 q3.2.2.1 M0 q3.2.2.2.2.2.1 q3.2.2.2.2.2.2.1 q3.2.2.2.2.2.2.2.1 q3.2.2.2.2.2.2.2.2.1 Na q3.2.2.2.2.2.2.2.2.2.1 q3.2.2.2.2.2.2.2.2.2.2.1 q3.2.2.2.2.2.2.2.2.2.2.2 Ni Nf Nh h _ _ _ hP hS (lv_sub hl [0, 1, 2, 3] rfl)
set_option maxHeartbeats 4000000 in
set_option maxRecDepth 100000 in
theorem f_MM_array_j548 {E : (Nat → Prop) → State → Heap → Prop} {p : Program} {l : Launch} {e : Env} {s : State} {m : MethodId} {args : Array Value} {below : List Frame} {meth : Method} {c : Code} {D : va_G} {ad kd sd vd xd : Nat → Nat} {ca : Nat → ClassId} {A : Nat → Prop} {ky ty : Nat → Option Nat} {Q : State → Prop} (hE : o_EK E kd sd vd xd) (hKy : m_KY ky ty sd) (C : o_Cx E p s m args meth c D m_cls (m_tys ca) "SchemaJudgeModel" b_MM_array (some .boolean) 15 cc_MM_array A) (hDD : ∀ (rt : Nat) (Ni : SNI) (Np : SNP) (No : SNO) (Nx : SNX) (Nf : SNF) (Na : SNA) (Nh : SNH) (Nq : SNQ) (Nj : SNJ) (M0 : SMT) (M1 : SMT), va_D A (m_cw ad ca ky ty rt Ni Np No Nx Nf Na Nh Nq Nj M0 M1)) (d : Nat) (rec : Int32 → Int32 → SMT → SMT → SNP → SNO → SNX → SNA → SNQ → SNJ → Nat → Option (Int32 × SMT × SNP × SNO × SNX × SNQ × SNJ × Nat)) (hrec : ∀ (x1 : Int32) (x2 : Int32) (M0 : SMT) (M1 : SMT) (Np : SNP) (No : SNO) (Nx : SNX) (Na : SNA) (Nq : SNQ) (Nj : SNJ) (rt : Nat) (Ni : SNI) (Nf : SNF) (Nh : SNH) (r : Int32 × SMT × SNP × SNO × SNX × SNQ × SNJ × Nat), rec x1 x2 M0 M1 Np No Nx Na Nq Nj rt = some r → o_Cn E l D m_cls (m_tys ca) y_MM_judge cc_MM_judge (rm_MM_judge d) [.ref (ad 0), .int x1, .int x2] (m_cw ad ca ky ty rt Ni Np No Nx Nf Na Nh Nq Nj M0 M1) (m_cw ad ca ky ty r.2.2.2.2.2.2.2 Ni r.2.2.1 r.2.2.2.1 r.2.2.2.2.1 Nf Na Nh r.2.2.2.2.2.1 r.2.2.2.2.2.2.1 M0 r.2.1) (some (.int r.1))) (n : Nat) (u514_x2 : Int32) (u514_x11 : Int32) (u514_x12 : Int32) (u514_x13 : Int32) (u514_M0 : SMT) (u514_Na : SNA) (u514_Ni : SNI) (u514_Nf : SNF) (u514_Nh : SNH) (x5 : Int64) (x9 : Int32) (x10 : Int32) (x14 : Int32) (M1 : SMT) (Np : SNP) (No : SNO) (Nx : SNX) (Nq : SNQ) (Nj : SNJ) (rt : Nat) {q : Nat × Int64 × Int32 × Int32 × Int32 × SMT × SNP × SNO × SNX × SNQ × SNJ × Nat} (h : m_MM_array_j548 n rec u514_x2 x5 x9 x10 u514_x11 u514_x12 u514_x13 x14 u514_M0 M1 Np No Nx u514_Na Nq Nj rt = some q) (h0 : q.1 = 0 → o_At p l e (rm_MM_array d) s m args below meth c Q m_cls D A 15 514 [] (m_cw ad ca ky ty q.2.2.2.2.2.2.2.2.2.2.2 u514_Ni q.2.2.2.2.2.2.1 q.2.2.2.2.2.2.2.1 q.2.2.2.2.2.2.2.2.1 u514_Nf u514_Na u514_Nh q.2.2.2.2.2.2.2.2.2.1 q.2.2.2.2.2.2.2.2.2.2.1 u514_M0 q.2.2.2.2.2.1) [(0, .ref (ad 0)), (2, .int u514_x2), (5, .long q.2.1), (9, .int q.2.2.1), (10, .int q.2.2.2.1), (11, .int u514_x11), (12, .int u514_x12), (13, .int u514_x13), (14, .int q.2.2.2.2.1)]) (h1 : q.1 ≠ 0 → (o_At p l e (rm_MM_array d) s m args below meth c Q m_cls D A 15 566 [] (m_cw ad ca ky ty q.2.2.2.2.2.2.2.2.2.2.2 u514_Ni q.2.2.2.2.2.2.1 q.2.2.2.2.2.2.2.1 q.2.2.2.2.2.2.2.2.1 u514_Nf u514_Na u514_Nh q.2.2.2.2.2.2.2.2.2.1 q.2.2.2.2.2.2.2.2.2.2.1 u514_M0 q.2.2.2.2.2.1) [(0, .ref (ad 0)), (5, .long q.2.1), (10, .int q.2.2.2.1), (11, .int u514_x11), (12, .int u514_x12), (13, .int u514_x13)])) : o_At p l e (rm_MM_array d) s m args below meth c Q m_cls D A 15 548 [] (m_cw ad ca ky ty rt u514_Ni Np No Nx u514_Nf u514_Na u514_Nh Nq Nj u514_M0 M1) [(0, .ref (ad 0)), (2, .int u514_x2), (5, .long x5), (9, .int x9), (10, .int x10), (11, .int u514_x11), (12, .int u514_x12), (13, .int u514_x13), (14, .int x14)] := by
  unfold m_MM_array_j548 at h
  intro H locs ls hP hS hl
  have C0 := C
  obtain ⟨hx, hb, -, -, -, hown, hts, hK, -, -⟩ := C0
  refine lv_aload_n hx hb d_MM_array_548 rfl (lv_at hl 0 rfl) ?_
  refine o_get (v := .ref (ad 48)) C in_MM hP 0 mw_0 rfl 5 (by decide) k_7_235 rfl rfl d_MM_array_549 ?_
  refine o_get (v := .ref (ad 56)) C in_MT hP 48 mw_48 rfl 7 (by decide) k_7_115 rfl rfl d_MM_array_552 ?_
  refine lv_iload hx hb d_MM_array_555 (lv_at hl 8 rfl) ?_
  obtain ⟨g22, h⟩ := o_gd_some h
  refine o_iald (f := (MT_next M1)) C hP 56 53 mw_56 rfl g22 d_MM_array_557 ?_
  refine lv_topi (fun x14_558 ex14_558 => ?_)
  replace h := o_nm_at ex14_558 h
  refine lv_istore (lv' := [(14, .int x14_558), (0, .ref (ad 0)), (2, .int u514_x2), (5, .long x5), (9, .int x9), (10, .int x10), (11, .int u514_x11), (12, .int u514_x12), (13, .int u514_x13)]) hx hb d_MM_array_558 hl (by decide) rfl (fun ls hl => ?_)
  obtain ⟨x9_560, ex9_560⟩ : ∃ y : Int32, y = x9 + (1:Int32) := ⟨_, rfl⟩
  replace h := o_nm_at ex9_560 h
  refine lv_iinc (v := x9_560) (lv' := [(9, .int x9_560), (14, .int x14_558), (0, .ref (ad 0)), (2, .int u514_x2), (5, .long x5), (10, .int x10), (11, .int u514_x11), (12, .int u514_x12), (13, .int u514_x13)]) hx hb d_MM_array_560 hl (k := 4) rfl (by rw [ex9_560]; rfl) (by decide) rfl (fun ls hl => ?_)
  refine lv_goto (tgt := 514) hx hb d_MM_array_563 (by decide) ?_
  cases h
  exact h0 rfl _ _ _ hP hS (lv_sub hl [2, 3, 4, 0, 5, 6, 7, 8, 1] rfl)
set_option maxHeartbeats 4000000 in
set_option maxRecDepth 100000 in
theorem f_MM_array_b514 {E : (Nat → Prop) → State → Heap → Prop} {p : Program} {l : Launch} {e : Env} {s : State} {m : MethodId} {args : Array Value} {below : List Frame} {meth : Method} {c : Code} {D : va_G} {ad kd sd vd xd : Nat → Nat} {ca : Nat → ClassId} {A : Nat → Prop} {ky ty : Nat → Option Nat} {Q : State → Prop} (hE : o_EK E kd sd vd xd) (hKy : m_KY ky ty sd) (C : o_Cx E p s m args meth c D m_cls (m_tys ca) "SchemaJudgeModel" b_MM_array (some .boolean) 15 cc_MM_array A) (hDD : ∀ (rt : Nat) (Ni : SNI) (Np : SNP) (No : SNO) (Nx : SNX) (Nf : SNF) (Na : SNA) (Nh : SNH) (Nq : SNQ) (Nj : SNJ) (M0 : SMT) (M1 : SMT), va_D A (m_cw ad ca ky ty rt Ni Np No Nx Nf Na Nh Nq Nj M0 M1)) (d : Nat) (rec : Int32 → Int32 → SMT → SMT → SNP → SNO → SNX → SNA → SNQ → SNJ → Nat → Option (Int32 × SMT × SNP × SNO × SNX × SNQ × SNJ × Nat)) (hrec : ∀ (x1 : Int32) (x2 : Int32) (M0 : SMT) (M1 : SMT) (Np : SNP) (No : SNO) (Nx : SNX) (Na : SNA) (Nq : SNQ) (Nj : SNJ) (rt : Nat) (Ni : SNI) (Nf : SNF) (Nh : SNH) (r : Int32 × SMT × SNP × SNO × SNX × SNQ × SNJ × Nat), rec x1 x2 M0 M1 Np No Nx Na Nq Nj rt = some r → o_Cn E l D m_cls (m_tys ca) y_MM_judge cc_MM_judge (rm_MM_judge d) [.ref (ad 0), .int x1, .int x2] (m_cw ad ca ky ty rt Ni Np No Nx Nf Na Nh Nq Nj M0 M1) (m_cw ad ca ky ty r.2.2.2.2.2.2.2 Ni r.2.2.1 r.2.2.2.1 r.2.2.2.2.1 Nf Na Nh r.2.2.2.2.2.1 r.2.2.2.2.2.2.1 M0 r.2.1) (some (.int r.1))) (n : Nat) (u514_x2 : Int32) (u514_x11 : Int32) (u514_x12 : Int32) (u514_x13 : Int32) (u514_M0 : SMT) (u514_Na : SNA) (u514_Ni : SNI) (u514_Nf : SNF) (u514_Nh : SNH) (z : Int64 × Int32 × Int32 × Int32 × SMT × SNP × SNO × SNX × SNQ × SNJ × Nat) (q : Nat × Int64 × Int32 × Int32 × Int32 × SMT × SNP × SNO × SNX × SNQ × SNJ × Nat) (h : m_MM_array_b514 n rec u514_x2 u514_x11 u514_x12 u514_x13 u514_M0 u514_Na z = some q) (h0 : q.1 = 0 → o_At p l e (rm_MM_array d) s m args below meth c Q m_cls D A 15 514 [] (m_cw ad ca ky ty q.2.2.2.2.2.2.2.2.2.2.2 u514_Ni q.2.2.2.2.2.2.1 q.2.2.2.2.2.2.2.1 q.2.2.2.2.2.2.2.2.1 u514_Nf u514_Na u514_Nh q.2.2.2.2.2.2.2.2.2.1 q.2.2.2.2.2.2.2.2.2.2.1 u514_M0 q.2.2.2.2.2.1) [(0, .ref (ad 0)), (2, .int u514_x2), (5, .long q.2.1), (9, .int q.2.2.1), (10, .int q.2.2.2.1), (11, .int u514_x11), (12, .int u514_x12), (13, .int u514_x13), (14, .int q.2.2.2.2.1)]) (h1 : q.1 ≠ 0 → (o_At p l e (rm_MM_array d) s m args below meth c Q m_cls D A 15 566 [] (m_cw ad ca ky ty q.2.2.2.2.2.2.2.2.2.2.2 u514_Ni q.2.2.2.2.2.2.1 q.2.2.2.2.2.2.2.1 q.2.2.2.2.2.2.2.2.1 u514_Nf u514_Na u514_Nh q.2.2.2.2.2.2.2.2.2.1 q.2.2.2.2.2.2.2.2.2.2.1 u514_M0 q.2.2.2.2.2.1) [(0, .ref (ad 0)), (5, .long q.2.1), (10, .int q.2.2.2.1), (11, .int u514_x11), (12, .int u514_x12), (13, .int u514_x13)])) : o_At p l e (rm_MM_array d) s m args below meth c Q m_cls D A 15 514 [] (m_cw ad ca ky ty z.2.2.2.2.2.2.2.2.2.2 u514_Ni z.2.2.2.2.2.1 z.2.2.2.2.2.2.1 z.2.2.2.2.2.2.2.1 u514_Nf u514_Na u514_Nh z.2.2.2.2.2.2.2.2.1 z.2.2.2.2.2.2.2.2.2.1 u514_M0 z.2.2.2.2.1) [(0, .ref (ad 0)), (2, .int u514_x2), (5, .long z.1), (9, .int z.2.1), (10, .int z.2.2.1), (11, .int u514_x11), (12, .int u514_x12), (13, .int u514_x13), (14, .int z.2.2.2.1)] := by
  unfold m_MM_array_b514 at h
  intro H locs ls hP hS hl
  have C0 := C
  obtain ⟨hx, hb, -, -, -, hown, hts, hK, -, -⟩ := C0
  refine lv_iload hx hb d_MM_array_514 (lv_at hl 8 rfl) ?_
  refine lv_if_lt (tgt := 566) hx hb d_MM_array_516 (by decide) (fun c19 => ?_) (fun c19 => ?_)
  · replace h := o_tt c19 h
    cases h
    exact h1 (Nat.succ_ne_zero 0) _ _ _ hP hS (lv_sub hl [0, 2, 4, 5, 6, 7] rfl)
  · replace h := o_ff c19 h
    refine lv_aload_n hx hb d_MM_array_519 rfl (lv_at hl 0 rfl) ?_
    refine o_get (v := .int (NJ_over z.2.2.2.2.2.2.2.2.2.1)) C in_MM hP 0 mw_0 rfl 57 (by decide) k_8_47 rfl rfl d_MM_array_520 ?_
    refine lv_if_ne (tgt := 566) hx hb d_MM_array_523 (by decide) (fun c20 => ?_) (fun c20 => ?_)
    · replace h := o_ff c20 h
      cases h
      exact h1 (Nat.succ_ne_zero 0) _ _ _ hP hS (lv_sub hl [0, 2, 4, 5, 6, 7] rfl)
    · replace h := o_tt c20 h
      refine lv_aload_n hx hb d_MM_array_526 rfl (lv_at hl 0 rfl) ?_
      refine lv_iload_n hx hb d_MM_array_527 rfl (lv_at hl 1 rfl) ?_
      refine lv_iload hx hb d_MM_array_528 (lv_at hl 8 rfl) ?_
      obtain ⟨q6, hq6, h⟩ := o_bd_some h
      refine o_V (st1 := [.int q6.1]) (w1 := (m_cw ad ca ky ty q6.2.2.2.2.2.2.2 u514_Ni q6.2.2.1 q6.2.2.2.1 q6.2.2.2.2.1 u514_Nf u514_Na u514_Nh q6.2.2.2.2.2.1 q6.2.2.2.2.2.2.1 u514_M0 q6.2.1)) hE.1 C (hrec u514_x2 z.2.2.2.1 u514_M0 z.2.2.2.2.1 z.2.2.2.2.2.1 z.2.2.2.2.2.2.1 z.2.2.2.2.2.2.2.1 u514_Na z.2.2.2.2.2.2.2.2.1 z.2.2.2.2.2.2.2.2.2.1 z.2.2.2.2.2.2.2.2.2.2 u514_Ni u514_Nf u514_Nh _ hq6) hP (hDD _ _ _ _ _ _ _ _ _ _ _ _) hS hl.1 rfl mw_0 k_9_210 k_9_212 k_s_116 k_1_12 k_9_213 hv_MM_judge rfl rfl ⟨(by dsimp only [rm_MM_array, rm_MM_judge]; omega), (by dsimp only [rm_MM_array, rm_MM_judge]; omega)⟩ rfl (Nat.le_of_ble_eq_true rfl) ⟨Nat.zero_le _, Nat.zero_le _⟩ rfl d_MM_array_530 (fun H locs hP hS => ?_)
      refine lv_if_eq (tgt := 548) hx hb d_MM_array_533 (by decide) (fun c21 => ?_) (fun c21 => ?_)
      · replace h := o_tt c21 h
        exact f_MM_array_j548 hE hKy C hDD d rec hrec n u514_x2 u514_x11 u514_x12 u514_x13 u514_M0 u514_Na u514_Ni u514_Nf u514_Nh z.1 z.2.1 z.2.2.1 z.2.2.2.1 q6.2.1 q6.2.2.1 q6.2.2.2.1 q6.2.2.2.2.1 q6.2.2.2.2.2.1 q6.2.2.2.2.2.2.1 q6.2.2.2.2.2.2.2 h h0 h1 _ _ _ hP hS (lv_sub hl [0, 1, 2, 3, 4, 5, 6, 7, 8] rfl)
      · replace h := o_ff c21 h
        obtain ⟨x10_536, ex10_536⟩ : ∃ y : Int32, y = z.2.2.1 + (1:Int32) := ⟨_, rfl⟩
        replace h := o_nm_at ex10_536 h
        refine lv_iinc (v := x10_536) (lv' := [(10, .int x10_536), (0, .ref (ad 0)), (2, .int u514_x2), (5, .long z.1), (9, .int z.2.1), (11, .int u514_x11), (12, .int u514_x12), (13, .int u514_x13), (14, .int z.2.2.2.1)]) hx hb d_MM_array_536 hl (k := 4) rfl (by rw [ex10_536]; rfl) (by decide) rfl (fun ls hl => ?_)
        refine lv_lload hx hb d_MM_array_539 (lv_at hl 3 rfl) ?_
        refine lv_lconst (v := (1:Int64)) hx hb d_MM_array_541 (by decide) ?_
        refine lv_iload hx hb d_MM_array_542 (lv_at hl 4 rfl) ?_
        refine lv_lshl hx hb d_MM_array_544 rfl ?_
        refine lv_lor hx hb d_MM_array_545 ?_
        refine lv_topl (fun x5_546 ex5_546 => ?_)
        replace h := o_nm_at ex5_546 h
        refine lv_lstore (lv' := [(5, .long x5_546), (10, .int x10_536), (0, .ref (ad 0)), (2, .int u514_x2), (9, .int z.2.1), (11, .int u514_x11), (12, .int u514_x12), (13, .int u514_x13), (14, .int z.2.2.2.1)]) hx hb d_MM_array_546 hl (by decide) rfl (fun ls hl => ?_)
        exact f_MM_array_j548 hE hKy C hDD d rec hrec n u514_x2 u514_x11 u514_x12 u514_x13 u514_M0 u514_Na u514_Ni u514_Nf u514_Nh x5_546 z.2.1 x10_536 z.2.2.2.1 q6.2.1 q6.2.2.1 q6.2.2.2.1 q6.2.2.2.2.1 q6.2.2.2.2.2.1 q6.2.2.2.2.2.2.1 q6.2.2.2.2.2.2.2 h h0 h1 _ _ _ hP hS (lv_sub hl [2, 3, 0, 4, 1, 5, 6, 7, 8] rfl)
set_option maxHeartbeats 4000000 in
set_option maxRecDepth 100000 in
theorem f_MM_array_j589 {E : (Nat → Prop) → State → Heap → Prop} {p : Program} {l : Launch} {e : Env} {s : State} {m : MethodId} {args : Array Value} {below : List Frame} {meth : Method} {c : Code} {D : va_G} {ad kd sd vd xd : Nat → Nat} {ca : Nat → ClassId} {A : Nat → Prop} {ky ty : Nat → Option Nat} (hE : o_EK E kd sd vd xd) (hKy : m_KY ky ty sd) (C : o_Cx E p s m args meth c D m_cls (m_tys ca) "SchemaJudgeModel" b_MM_array (some .boolean) 15 cc_MM_array A) (hDD : ∀ (rt : Nat) (Ni : SNI) (Np : SNP) (No : SNO) (Nx : SNX) (Nf : SNF) (Na : SNA) (Nh : SNH) (Nq : SNQ) (Nj : SNJ) (M0 : SMT) (M1 : SMT), va_D A (m_cw ad ca ky ty rt Ni Np No Nx Nf Na Nh Nq Nj M0 M1)) (d : Nat) (rec : Int32 → Int32 → SMT → SMT → SNP → SNO → SNX → SNA → SNQ → SNJ → Nat → Option (Int32 × SMT × SNP × SNO × SNX × SNQ × SNJ × Nat)) (hrec : ∀ (x1 : Int32) (x2 : Int32) (M0 : SMT) (M1 : SMT) (Np : SNP) (No : SNO) (Nx : SNX) (Na : SNA) (Nq : SNQ) (Nj : SNJ) (rt : Nat) (Ni : SNI) (Nf : SNF) (Nh : SNH) (r : Int32 × SMT × SNP × SNO × SNX × SNQ × SNJ × Nat), rec x1 x2 M0 M1 Np No Nx Na Nq Nj rt = some r → o_Cn E l D m_cls (m_tys ca) y_MM_judge cc_MM_judge (rm_MM_judge d) [.ref (ad 0), .int x1, .int x2] (m_cw ad ca ky ty rt Ni Np No Nx Nf Na Nh Nq Nj M0 M1) (m_cw ad ca ky ty r.2.2.2.2.2.2.2 Ni r.2.2.1 r.2.2.2.1 r.2.2.2.2.1 Nf Na Nh r.2.2.2.2.2.1 r.2.2.2.2.2.2.1 M0 r.2.1) (some (.int r.1))) (n : Nat) (x5 : Int64) (x10 : Int32) (x13 : Int32) (y0 : Int32) (y1 : Int32) (M0 : SMT) (M1 : SMT) (Np : SNP) (No : SNO) (Nx : SNX) (Na : SNA) (Nq : SNQ) (Nj : SNJ) (rt : Nat) (Ni : SNI) (Nf : SNF) (Nh : SNH) {r : Int32 × SMT × SNP × SNO × SNX × SNQ × SNJ × Nat} (h : m_MM_array_j589 n rec x5 x10 x13 y0 y1 M0 M1 Np No Nx Na Nq Nj rt = some r) : o_At p l e (rm_MM_array d) s m args below meth c (MQ below (o_Qx D m_cls (some (.int r.1)) (m_cw ad ca ky ty r.2.2.2.2.2.2.2 Ni r.2.2.1 r.2.2.2.1 r.2.2.2.2.1 Nf Na Nh r.2.2.2.2.2.1 r.2.2.2.2.2.2.1 M0 r.2.1) A) args s 0 0 A) m_cls D A 15 589 [.int y1, .int y0] (m_cw ad ca ky ty rt Ni Np No Nx Nf Na Nh Nq Nj M0 M1) [(0, .ref (ad 0)), (5, .long x5), (10, .int x10), (13, .int x13)] := by
  unfold m_MM_array_j589 at h
  intro H locs ls hP hS hl
  have C0 := C
  obtain ⟨hx, hb, -, -, -, hown, hts, hK, -, -⟩ := C0
  refine lv_icmp_lt (tgt := 612) hx hb d_MM_array_589 (by decide) (fun c24 => ?_) (fun c24 => ?_)
  · replace h := o_tt c24 h
    refine lv_iconst (v := (0:Int32)) hx hb d_MM_array_612 (by decide) ?_
    refine lv_istore (lv' := [(7, .int (0:Int32)), (0, .ref (ad 0)), (5, .long x5), (10, .int x10), (13, .int x13)]) hx hb d_MM_array_613 hl (by decide) rfl (fun ls hl => ?_)
    refine lv_goto (tgt := 620) hx hb d_MM_array_615 (by decide) ?_
    refine lv_aload_n hx hb d_MM_array_620 rfl (lv_at hl 1 rfl) ?_
    refine lv_lload hx hb d_MM_array_621 (lv_at hl 2 rfl) ?_
    refine o_put (v := .long x5) (ty := .long) (w1 := (m_cw ad ca ky ty rt Ni Np No Nx Nf Na Nh Nq (NJ_mk (NJ_judged Nj) (NJ_deepest Nj) (NJ_depth Nj) (NJ_over Nj) x5) M0 M1)) C in_MM t_MM t_MM_ok n_MM hP (hDD _ _ _ _ _ _ _ _ _ _ _ _) hS 0 mw_0 rfl 58 (by decide) k_8_48 rfl rfl (by decide +kernel) rfl rfl (Nat.le_of_ble_eq_true rfl) rfl d_MM_array_623 (fun H locs hP hS => ?_)
    refine lv_iload hx hb d_MM_array_626 (lv_at hl 0 rfl) ?_
    cases h
    exact o_rz (v := (0:Int32)) C o_nar0 hP hS d_MM_array_628
  · replace h := o_ff c24 h
    refine lv_iload hx hb d_MM_array_592 (lv_at hl 3 rfl) ?_
    refine lv_if_lt (tgt := 608) hx hb d_MM_array_594 (by decide) (fun c25 => ?_) (fun c25 => ?_)
    · replace h := o_tt c25 h
      refine lv_iconst (v := (1:Int32)) hx hb d_MM_array_608 (by decide) ?_
      refine lv_goto (tgt := 613) hx hb d_MM_array_609 (by decide) ?_
      refine lv_istore (lv' := [(7, .int (1:Int32)), (0, .ref (ad 0)), (5, .long x5), (10, .int x10), (13, .int x13)]) hx hb d_MM_array_613 hl (by decide) rfl (fun ls hl => ?_)
      refine lv_goto (tgt := 620) hx hb d_MM_array_615 (by decide) ?_
      refine lv_aload_n hx hb d_MM_array_620 rfl (lv_at hl 1 rfl) ?_
      refine lv_lload hx hb d_MM_array_621 (lv_at hl 2 rfl) ?_
      refine o_put (v := .long x5) (ty := .long) (w1 := (m_cw ad ca ky ty rt Ni Np No Nx Nf Na Nh Nq (NJ_mk (NJ_judged Nj) (NJ_deepest Nj) (NJ_depth Nj) (NJ_over Nj) x5) M0 M1)) C in_MM t_MM t_MM_ok n_MM hP (hDD _ _ _ _ _ _ _ _ _ _ _ _) hS 0 mw_0 rfl 58 (by decide) k_8_48 rfl rfl (by decide +kernel) rfl rfl (Nat.le_of_ble_eq_true rfl) rfl d_MM_array_623 (fun H locs hP hS => ?_)
      refine lv_iload hx hb d_MM_array_626 (lv_at hl 0 rfl) ?_
      cases h
      exact o_rz (v := (1:Int32)) C o_nar1 hP hS d_MM_array_628
    · replace h := o_ff c25 h
      refine lv_iload hx hb d_MM_array_597 (lv_at hl 2 rfl) ?_
      refine lv_aload_n hx hb d_MM_array_599 rfl (lv_at hl 0 rfl) ?_
      refine lv_iload hx hb d_MM_array_600 (lv_at hl 3 rfl) ?_
      obtain ⟨q9, hq9, h⟩ := o_bd_some h
      refine o_V (st1 := [.int q9, .int x10]) (w1 := (m_cw ad ca ky ty rt Ni Np No Nx Nf Na Nh Nq Nj M0 M1)) hE.1 C (e_MM_intOf hE hKy l n x13 M0 Ni Np No Nx Nf Na Nh Nq Nj M1 rt hq9) hP (hDD _ _ _ _ _ _ _ _ _ _ _ _) hS hl.1 rfl mw_0 k_9_153 k_9_155 k_s_106 k_1_12 k_9_156 hv_MM_intOf rfl rfl ⟨(by dsimp only [rm_MM_array, rm_MM_intOf]; omega), (by dsimp only [rm_MM_array, rm_MM_intOf]; omega)⟩ rfl (Nat.le_of_ble_eq_true rfl) ⟨Nat.zero_le _, Nat.zero_le _⟩ rfl d_MM_array_602 (fun H locs hP hS => ?_)
      refine lv_icmp_gt (tgt := 612) hx hb d_MM_array_605 (by decide) (fun c26 => ?_) (fun c26 => ?_)
      · replace h := o_tt c26 h
        refine lv_iconst (v := (0:Int32)) hx hb d_MM_array_612 (by decide) ?_
        refine lv_istore (lv' := [(7, .int (0:Int32)), (0, .ref (ad 0)), (5, .long x5), (10, .int x10), (13, .int x13)]) hx hb d_MM_array_613 hl (by decide) rfl (fun ls hl => ?_)
        refine lv_goto (tgt := 620) hx hb d_MM_array_615 (by decide) ?_
        refine lv_aload_n hx hb d_MM_array_620 rfl (lv_at hl 1 rfl) ?_
        refine lv_lload hx hb d_MM_array_621 (lv_at hl 2 rfl) ?_
        refine o_put (v := .long x5) (ty := .long) (w1 := (m_cw ad ca ky ty rt Ni Np No Nx Nf Na Nh Nq (NJ_mk (NJ_judged Nj) (NJ_deepest Nj) (NJ_depth Nj) (NJ_over Nj) x5) M0 M1)) C in_MM t_MM t_MM_ok n_MM hP (hDD _ _ _ _ _ _ _ _ _ _ _ _) hS 0 mw_0 rfl 58 (by decide) k_8_48 rfl rfl (by decide +kernel) rfl rfl (Nat.le_of_ble_eq_true rfl) rfl d_MM_array_623 (fun H locs hP hS => ?_)
        refine lv_iload hx hb d_MM_array_626 (lv_at hl 0 rfl) ?_
        cases h
        exact o_rz (v := (0:Int32)) C o_nar0 hP hS d_MM_array_628
      · replace h := o_ff c26 h
        refine lv_iconst (v := (1:Int32)) hx hb d_MM_array_608 (by decide) ?_
        refine lv_goto (tgt := 613) hx hb d_MM_array_609 (by decide) ?_
        refine lv_istore (lv' := [(7, .int (1:Int32)), (0, .ref (ad 0)), (5, .long x5), (10, .int x10), (13, .int x13)]) hx hb d_MM_array_613 hl (by decide) rfl (fun ls hl => ?_)
        refine lv_goto (tgt := 620) hx hb d_MM_array_615 (by decide) ?_
        refine lv_aload_n hx hb d_MM_array_620 rfl (lv_at hl 1 rfl) ?_
        refine lv_lload hx hb d_MM_array_621 (lv_at hl 2 rfl) ?_
        refine o_put (v := .long x5) (ty := .long) (w1 := (m_cw ad ca ky ty rt Ni Np No Nx Nf Na Nh Nq (NJ_mk (NJ_judged Nj) (NJ_deepest Nj) (NJ_depth Nj) (NJ_over Nj) x5) M0 M1)) C in_MM t_MM t_MM_ok n_MM hP (hDD _ _ _ _ _ _ _ _ _ _ _ _) hS 0 mw_0 rfl 58 (by decide) k_8_48 rfl rfl (by decide +kernel) rfl rfl (Nat.le_of_ble_eq_true rfl) rfl d_MM_array_623 (fun H locs hP hS => ?_)
        refine lv_iload hx hb d_MM_array_626 (lv_at hl 0 rfl) ?_
        cases h
        exact o_rz (v := (1:Int32)) C o_nar1 hP hS d_MM_array_628
set_option maxHeartbeats 4000000 in
set_option maxRecDepth 100000 in
theorem f_MM_array_j566 {E : (Nat → Prop) → State → Heap → Prop} {p : Program} {l : Launch} {e : Env} {s : State} {m : MethodId} {args : Array Value} {below : List Frame} {meth : Method} {c : Code} {D : va_G} {ad kd sd vd xd : Nat → Nat} {ca : Nat → ClassId} {A : Nat → Prop} {ky ty : Nat → Option Nat} (hE : o_EK E kd sd vd xd) (hKy : m_KY ky ty sd) (C : o_Cx E p s m args meth c D m_cls (m_tys ca) "SchemaJudgeModel" b_MM_array (some .boolean) 15 cc_MM_array A) (hDD : ∀ (rt : Nat) (Ni : SNI) (Np : SNP) (No : SNO) (Nx : SNX) (Nf : SNF) (Na : SNA) (Nh : SNH) (Nq : SNQ) (Nj : SNJ) (M0 : SMT) (M1 : SMT), va_D A (m_cw ad ca ky ty rt Ni Np No Nx Nf Na Nh Nq Nj M0 M1)) (d : Nat) (rec : Int32 → Int32 → SMT → SMT → SNP → SNO → SNX → SNA → SNQ → SNJ → Nat → Option (Int32 × SMT × SNP × SNO × SNX × SNQ × SNJ × Nat)) (hrec : ∀ (x1 : Int32) (x2 : Int32) (M0 : SMT) (M1 : SMT) (Np : SNP) (No : SNO) (Nx : SNX) (Na : SNA) (Nq : SNQ) (Nj : SNJ) (rt : Nat) (Ni : SNI) (Nf : SNF) (Nh : SNH) (r : Int32 × SMT × SNP × SNO × SNX × SNQ × SNJ × Nat), rec x1 x2 M0 M1 Np No Nx Na Nq Nj rt = some r → o_Cn E l D m_cls (m_tys ca) y_MM_judge cc_MM_judge (rm_MM_judge d) [.ref (ad 0), .int x1, .int x2] (m_cw ad ca ky ty rt Ni Np No Nx Nf Na Nh Nq Nj M0 M1) (m_cw ad ca ky ty r.2.2.2.2.2.2.2 Ni r.2.2.1 r.2.2.2.1 r.2.2.2.2.1 Nf Na Nh r.2.2.2.2.2.1 r.2.2.2.2.2.2.1 M0 r.2.1) (some (.int r.1))) (n : Nat) (x5 : Int64) (x10 : Int32) (x11 : Int32) (x12 : Int32) (x13 : Int32) (M0 : SMT) (M1 : SMT) (Np : SNP) (No : SNO) (Nx : SNX) (Na : SNA) (Nq : SNQ) (Nj : SNJ) (rt : Nat) (Ni : SNI) (Nf : SNF) (Nh : SNH) {r : Int32 × SMT × SNP × SNO × SNX × SNQ × SNJ × Nat} (h : m_MM_array_j566 n rec x5 x10 x11 x12 x13 M0 M1 Np No Nx Na Nq Nj rt = some r) : o_At p l e (rm_MM_array d) s m args below meth c (MQ below (o_Qx D m_cls (some (.int r.1)) (m_cw ad ca ky ty r.2.2.2.2.2.2.2 Ni r.2.2.1 r.2.2.2.1 r.2.2.2.2.1 Nf Na Nh r.2.2.2.2.2.1 r.2.2.2.2.2.2.1 M0 r.2.1) A) args s 0 0 A) m_cls D A 15 566 [] (m_cw ad ca ky ty rt Ni Np No Nx Nf Na Nh Nq Nj M0 M1) [(0, .ref (ad 0)), (5, .long x5), (10, .int x10), (11, .int x11), (12, .int x12), (13, .int x13)] := by
  unfold m_MM_array_j566 at h
  intro H locs ls hP hS hl
  have C0 := C
  obtain ⟨hx, hb, -, -, -, hown, hts, hK, -, -⟩ := C0
  refine lv_aload_n hx hb d_MM_array_566 rfl (lv_at hl 0 rfl) ?_
  refine lv_iload hx hb d_MM_array_567 (lv_at hl 3 rfl) ?_
  refine o_put (v := .int x11) (ty := .int) (w1 := (m_cw ad ca ky ty rt Ni Np No Nx Nf Na Nh (NQ_mk (NQ_pairValue Nq) (NQ_pairKey Nq) x11) Nj M0 M1)) C in_MM t_MM t_MM_ok n_MM hP (hDD _ _ _ _ _ _ _ _ _ _ _ _) hS 0 mw_0 rfl 53 (by decide) k_8_43 rfl rfl (by decide +kernel) rfl rfl (Nat.le_of_ble_eq_true rfl) rfl d_MM_array_569 (fun H locs hP hS => ?_)
  refine lv_iload hx hb d_MM_array_572 (lv_at hl 2 rfl) ?_
  refine lv_iload hx hb d_MM_array_574 (lv_at hl 4 rfl) ?_
  refine lv_if_ge (tgt := 583) hx hb d_MM_array_576 (by decide) (fun c23 => ?_) (fun c23 => ?_)
  · replace h := o_tt c23 h
    refine lv_aload_n hx hb d_MM_array_583 rfl (lv_at hl 0 rfl) ?_
    refine lv_iload hx hb d_MM_array_584 (lv_at hl 4 rfl) ?_
    obtain ⟨q8, hq8, h⟩ := o_bd_some h
    refine o_V (st1 := [.int q8, .int x10]) (w1 := (m_cw ad ca ky ty rt Ni Np No Nx Nf Na Nh (NQ_mk (NQ_pairValue Nq) (NQ_pairKey Nq) x11) Nj M0 M1)) hE.1 C (e_MM_intOf hE hKy l n x12 M0 Ni Np No Nx Nf Na Nh (NQ_mk (NQ_pairValue Nq) (NQ_pairKey Nq) x11) Nj M1 rt hq8) hP (hDD _ _ _ _ _ _ _ _ _ _ _ _) hS hl.1 rfl mw_0 k_9_153 k_9_155 k_s_106 k_1_12 k_9_156 hv_MM_intOf rfl rfl ⟨(by dsimp only [rm_MM_array, rm_MM_intOf]; omega), (by dsimp only [rm_MM_array, rm_MM_intOf]; omega)⟩ rfl (Nat.le_of_ble_eq_true rfl) ⟨Nat.zero_le _, Nat.zero_le _⟩ rfl d_MM_array_586 (fun H locs hP hS => ?_)
    exact f_MM_array_j589 hE hKy C hDD d rec hrec n x5 x10 x13 x10 q8 M0 M1 Np No Nx Na (NQ_mk (NQ_pairValue Nq) (NQ_pairKey Nq) x11) Nj rt Ni Nf Nh h _ _ _ hP hS (lv_sub hl [0, 1, 2, 5] rfl)
  · replace h := o_ff c23 h
    refine lv_iconst (v := (1:Int32)) hx hb d_MM_array_579 (by decide) ?_
    refine lv_goto (tgt := 589) hx hb d_MM_array_580 (by decide) ?_
    exact f_MM_array_j589 hE hKy C hDD d rec hrec n x5 x10 x13 x10 (1:Int32) M0 M1 Np No Nx Na (NQ_mk (NQ_pairValue Nq) (NQ_pairKey Nq) x11) Nj rt Ni Nf Nh h _ _ _ hP hS (lv_sub hl [0, 1, 2, 5] rfl)
set_option maxHeartbeats 4000000 in
set_option maxRecDepth 100000 in
theorem f_MM_array_b252 {E : (Nat → Prop) → State → Heap → Prop} {p : Program} {l : Launch} {e : Env} {s : State} {m : MethodId} {args : Array Value} {below : List Frame} {meth : Method} {c : Code} {D : va_G} {ad kd sd vd xd : Nat → Nat} {ca : Nat → ClassId} {A : Nat → Prop} {ky ty : Nat → Option Nat} {Q : State → Prop} (hE : o_EK E kd sd vd xd) (hKy : m_KY ky ty sd) (C : o_Cx E p s m args meth c D m_cls (m_tys ca) "SchemaJudgeModel" b_MM_array (some .boolean) 15 cc_MM_array A) (hDD : ∀ (rt : Nat) (Ni : SNI) (Np : SNP) (No : SNO) (Nx : SNX) (Nf : SNF) (Na : SNA) (Nh : SNH) (Nq : SNQ) (Nj : SNJ) (M0 : SMT) (M1 : SMT), va_D A (m_cw ad ca ky ty rt Ni Np No Nx Nf Na Nh Nq Nj M0 M1)) (d : Nat) (rec : Int32 → Int32 → SMT → SMT → SNP → SNO → SNX → SNA → SNQ → SNJ → Nat → Option (Int32 × SMT × SNP × SNO × SNX × SNQ × SNJ × Nat)) (hrec : ∀ (x1 : Int32) (x2 : Int32) (M0 : SMT) (M1 : SMT) (Np : SNP) (No : SNO) (Nx : SNX) (Na : SNA) (Nq : SNQ) (Nj : SNJ) (rt : Nat) (Ni : SNI) (Nf : SNF) (Nh : SNH) (r : Int32 × SMT × SNP × SNO × SNX × SNQ × SNJ × Nat), rec x1 x2 M0 M1 Np No Nx Na Nq Nj rt = some r → o_Cn E l D m_cls (m_tys ca) y_MM_judge cc_MM_judge (rm_MM_judge d) [.ref (ad 0), .int x1, .int x2] (m_cw ad ca ky ty rt Ni Np No Nx Nf Na Nh Nq Nj M0 M1) (m_cw ad ca ky ty r.2.2.2.2.2.2.2 Ni r.2.2.1 r.2.2.2.1 r.2.2.2.2.1 Nf Na Nh r.2.2.2.2.2.1 r.2.2.2.2.2.2.1 M0 r.2.1) (some (.int r.1))) (n : Nat) (u252_M0 : SMT) (u252_Na : SNA) (u252_Ni : SNI) (u252_Nf : SNF) (u252_Nh : SNH) (z : Int64 × Int32 × Int32 × Int32 × Int32 × SMT × SNP × SNO × SNX × SNQ × SNJ × Nat) (q : Nat × Int64 × Int32 × Int32 × Int32 × Int32 × SMT × SNP × SNO × SNX × SNQ × SNJ × Nat) (h : m_MM_array_b252 n rec u252_M0 u252_Na z = some q) (h0 : q.1 = 0 → o_At p l e (rm_MM_array d) s m args below meth c Q m_cls D A 15 252 [] (m_cw ad ca ky ty q.2.2.2.2.2.2.2.2.2.2.2.2 u252_Ni q.2.2.2.2.2.2.2.1 q.2.2.2.2.2.2.2.2.1 q.2.2.2.2.2.2.2.2.2.1 u252_Nf u252_Na u252_Nh q.2.2.2.2.2.2.2.2.2.2.1 q.2.2.2.2.2.2.2.2.2.2.2.1 u252_M0 q.2.2.2.2.2.2.1) [(0, .ref (ad 0)), (5, .long q.2.1), (7, .int q.2.2.1), (9, .int q.2.2.2.1), (11, .int q.2.2.2.2.1), (12, .int q.2.2.2.2.2.1)]) (h1 : q.1 ≠ 0 → (o_At p l e (rm_MM_array d) s m args below meth c Q m_cls D A 15 321 [] (m_cw ad ca ky ty q.2.2.2.2.2.2.2.2.2.2.2.2 u252_Ni q.2.2.2.2.2.2.2.1 q.2.2.2.2.2.2.2.2.1 q.2.2.2.2.2.2.2.2.2.1 u252_Nf u252_Na u252_Nh q.2.2.2.2.2.2.2.2.2.2.1 q.2.2.2.2.2.2.2.2.2.2.2.1 u252_M0 q.2.2.2.2.2.2.1) [(0, .ref (ad 0)), (5, .long q.2.1), (7, .int q.2.2.1)])) : o_At p l e (rm_MM_array d) s m args below meth c Q m_cls D A 15 252 [] (m_cw ad ca ky ty z.2.2.2.2.2.2.2.2.2.2.2 u252_Ni z.2.2.2.2.2.2.1 z.2.2.2.2.2.2.2.1 z.2.2.2.2.2.2.2.2.1 u252_Nf u252_Na u252_Nh z.2.2.2.2.2.2.2.2.2.1 z.2.2.2.2.2.2.2.2.2.2.1 u252_M0 z.2.2.2.2.2.1) [(0, .ref (ad 0)), (5, .long z.1), (7, .int z.2.1), (9, .int z.2.2.1), (11, .int z.2.2.2.1), (12, .int z.2.2.2.2.1)] := by
  unfold m_MM_array_b252 at h
  intro H locs ls hP hS hl
  have C0 := C
  obtain ⟨hx, hb, -, -, -, hown, hts, hK, -, -⟩ := C0
  refine lv_iload hx hb d_MM_array_252 (lv_at hl 5 rfl) ?_
  refine lv_if_lt (tgt := 321) hx hb d_MM_array_254 (by decide) (fun c34 => ?_) (fun c34 => ?_)
  · replace h := o_tt c34 h
    cases h
    exact h1 (Nat.succ_ne_zero 0) _ _ _ hP hS (lv_sub hl [0, 1, 2] rfl)
  · replace h := o_ff c34 h
    refine lv_iload hx hb d_MM_array_257 (lv_at hl 4 rfl) ?_
    refine lv_if_lt (tgt := 321) hx hb d_MM_array_259 (by decide) (fun c35 => ?_) (fun c35 => ?_)
    · replace h := o_tt c35 h
      cases h
      exact h1 (Nat.succ_ne_zero 0) _ _ _ hP hS (lv_sub hl [0, 1, 2] rfl)
    · replace h := o_ff c35 h
      refine lv_aload_n hx hb d_MM_array_262 rfl (lv_at hl 0 rfl) ?_
      refine o_get (v := .int (NJ_over z.2.2.2.2.2.2.2.2.2.2.1)) C in_MM hP 0 mw_0 rfl 57 (by decide) k_8_47 rfl rfl d_MM_array_263 ?_
      refine lv_if_ne (tgt := 321) hx hb d_MM_array_266 (by decide) (fun c36 => ?_) (fun c36 => ?_)
      · replace h := o_ff c36 h
        cases h
        exact h1 (Nat.succ_ne_zero 0) _ _ _ hP hS (lv_sub hl [0, 1, 2] rfl)
      · replace h := o_tt c36 h
        refine lv_iload hx hb d_MM_array_269 (lv_at hl 2 rfl) ?_
        refine lv_aload_n hx hb d_MM_array_271 rfl (lv_at hl 0 rfl) ?_
        refine lv_iload hx hb d_MM_array_272 (lv_at hl 4 rfl) ?_
        refine lv_iload hx hb d_MM_array_274 (lv_at hl 5 rfl) ?_
        obtain ⟨q11, hq11, h⟩ := o_bd_some h
        refine o_V (st1 := [.int q11.1, .int z.2.1]) (w1 := (m_cw ad ca ky ty q11.2.2.2.2.2.2.2 u252_Ni q11.2.2.1 q11.2.2.2.1 q11.2.2.2.2.1 u252_Nf u252_Na u252_Nh q11.2.2.2.2.2.1 q11.2.2.2.2.2.2.1 u252_M0 q11.2.1)) hE.1 C (hrec z.2.2.2.1 z.2.2.2.2.1 u252_M0 z.2.2.2.2.2.1 z.2.2.2.2.2.2.1 z.2.2.2.2.2.2.2.1 z.2.2.2.2.2.2.2.2.1 u252_Na z.2.2.2.2.2.2.2.2.2.1 z.2.2.2.2.2.2.2.2.2.2.1 z.2.2.2.2.2.2.2.2.2.2.2 u252_Ni u252_Nf u252_Nh _ hq11) hP (hDD _ _ _ _ _ _ _ _ _ _ _ _) hS hl.1 rfl mw_0 k_9_210 k_9_212 k_s_116 k_1_12 k_9_213 hv_MM_judge rfl rfl ⟨(by dsimp only [rm_MM_array, rm_MM_judge]; omega), (by dsimp only [rm_MM_array, rm_MM_judge]; omega)⟩ rfl (Nat.le_of_ble_eq_true rfl) ⟨Nat.zero_le _, Nat.zero_le _⟩ rfl d_MM_array_276 (fun H locs hP hS => ?_)
        refine lv_iand hx hb d_MM_array_279 ?_
        refine lv_topi (fun x7_280 ex7_280 => ?_)
        replace h := o_nm_at ex7_280 h
        refine lv_istore (lv' := [(7, .int x7_280), (0, .ref (ad 0)), (5, .long z.1), (9, .int z.2.2.1), (11, .int z.2.2.2.1), (12, .int z.2.2.2.2.1)]) hx hb d_MM_array_280 hl (by decide) rfl (fun ls hl => ?_)
        refine lv_lload hx hb d_MM_array_282 (lv_at hl 2 rfl) ?_
        refine lv_lconst (v := (1:Int64)) hx hb d_MM_array_284 (by decide) ?_
        refine lv_iload hx hb d_MM_array_285 (lv_at hl 3 rfl) ?_
        obtain ⟨x9_287, ex9_287⟩ : ∃ y : Int32, y = z.2.2.1 + (1:Int32) := ⟨_, rfl⟩
        replace h := o_nm_at ex9_287 h
        refine lv_iinc (v := x9_287) (lv' := [(9, .int x9_287), (7, .int x7_280), (0, .ref (ad 0)), (5, .long z.1), (11, .int z.2.2.2.1), (12, .int z.2.2.2.2.1)]) hx hb d_MM_array_287 hl (k := 3) rfl (by rw [ex9_287]; rfl) (by decide) rfl (fun ls hl => ?_)
        refine lv_lshl hx hb d_MM_array_290 rfl ?_
        refine lv_lor hx hb d_MM_array_291 ?_
        refine lv_topl (fun x5_292 ex5_292 => ?_)
        replace h := o_nm_at ex5_292 h
        refine lv_lstore (lv' := [(5, .long x5_292), (9, .int x9_287), (7, .int x7_280), (0, .ref (ad 0)), (11, .int z.2.2.2.1), (12, .int z.2.2.2.2.1)]) hx hb d_MM_array_292 hl (by decide) rfl (fun ls hl => ?_)
        refine lv_aload_n hx hb d_MM_array_294 rfl (lv_at hl 3 rfl) ?_
        refine o_get (v := .ref (ad 48)) C in_MM hP 0 mw_0 rfl 5 (by decide) k_7_235 rfl rfl d_MM_array_295 ?_
        refine o_get (v := .ref (ad 56)) C in_MT hP 48 mw_48 rfl 7 (by decide) k_7_115 rfl rfl d_MM_array_298 ?_
        refine lv_iload hx hb d_MM_array_301 (lv_at hl 5 rfl) ?_
        obtain ⟨g37, h⟩ := o_gd_some h
        refine o_iald (f := (MT_next q11.2.1)) C hP 56 53 mw_56 rfl g37 d_MM_array_303 ?_
        refine lv_topi (fun x12_304 ex12_304 => ?_)
        replace h := o_nm_at ex12_304 h
        refine lv_istore (lv' := [(12, .int x12_304), (5, .long x5_292), (9, .int x9_287), (7, .int x7_280), (0, .ref (ad 0)), (11, .int z.2.2.2.1)]) hx hb d_MM_array_304 hl (by decide) rfl (fun ls hl => ?_)
        refine lv_aload_n hx hb d_MM_array_306 rfl (lv_at hl 4 rfl) ?_
        refine o_get (v := .ref (ad 33)) C in_MM hP 0 mw_0 rfl 4 (by decide) k_7_234 rfl rfl d_MM_array_307 ?_
        refine o_get (v := .ref (ad 41)) C in_MT hP 33 mw_33 rfl 7 (by decide) k_7_115 rfl rfl d_MM_array_310 ?_
        refine lv_iload hx hb d_MM_array_313 (lv_at hl 5 rfl) ?_
        obtain ⟨g38, h⟩ := o_gd_some h
        refine o_iald (f := (MT_next u252_M0)) C hP 41 39 mw_41 rfl g38 d_MM_array_315 ?_
        refine lv_topi (fun x11_316 ex11_316 => ?_)
        replace h := o_nm_at ex11_316 h
        refine lv_istore (lv' := [(11, .int x11_316), (12, .int x12_304), (5, .long x5_292), (9, .int x9_287), (7, .int x7_280), (0, .ref (ad 0))]) hx hb d_MM_array_316 hl (by decide) rfl (fun ls hl => ?_)
        refine lv_goto (tgt := 252) hx hb d_MM_array_318 (by decide) ?_
        cases h
        exact h0 rfl _ _ _ hP hS (lv_sub hl [5, 2, 4, 3, 0, 1] rfl)
set_option maxHeartbeats 4000000 in
set_option maxRecDepth 100000 in
theorem f_MM_array_b172 {E : (Nat → Prop) → State → Heap → Prop} {p : Program} {l : Launch} {e : Env} {s : State} {m : MethodId} {args : Array Value} {below : List Frame} {meth : Method} {c : Code} {D : va_G} {ad kd sd vd xd : Nat → Nat} {ca : Nat → ClassId} {A : Nat → Prop} {ky ty : Nat → Option Nat} {Q : State → Prop} (hE : o_EK E kd sd vd xd) (hKy : m_KY ky ty sd) (C : o_Cx E p s m args meth c D m_cls (m_tys ca) "SchemaJudgeModel" b_MM_array (some .boolean) 15 cc_MM_array A) (hDD : ∀ (rt : Nat) (Ni : SNI) (Np : SNP) (No : SNO) (Nx : SNX) (Nf : SNF) (Na : SNA) (Nh : SNH) (Nq : SNQ) (Nj : SNJ) (M0 : SMT) (M1 : SMT), va_D A (m_cw ad ca ky ty rt Ni Np No Nx Nf Na Nh Nq Nj M0 M1)) (d : Nat) (rec : Int32 → Int32 → SMT → SMT → SNP → SNO → SNX → SNA → SNQ → SNJ → Nat → Option (Int32 × SMT × SNP × SNO × SNX × SNQ × SNJ × Nat)) (hrec : ∀ (x1 : Int32) (x2 : Int32) (M0 : SMT) (M1 : SMT) (Np : SNP) (No : SNO) (Nx : SNX) (Na : SNA) (Nq : SNQ) (Nj : SNJ) (rt : Nat) (Ni : SNI) (Nf : SNF) (Nh : SNH) (r : Int32 × SMT × SNP × SNO × SNX × SNQ × SNJ × Nat), rec x1 x2 M0 M1 Np No Nx Na Nq Nj rt = some r → o_Cn E l D m_cls (m_tys ca) y_MM_judge cc_MM_judge (rm_MM_judge d) [.ref (ad 0), .int x1, .int x2] (m_cw ad ca ky ty rt Ni Np No Nx Nf Na Nh Nq Nj M0 M1) (m_cw ad ca ky ty r.2.2.2.2.2.2.2 Ni r.2.2.1 r.2.2.2.1 r.2.2.2.2.1 Nf Na Nh r.2.2.2.2.2.1 r.2.2.2.2.2.2.1 M0 r.2.1) (some (.int r.1))) (n : Nat) (u172_x11 : Int32) (u172_M0 : SMT) (u172_M1 : SMT) (u172_Np : SNP) (u172_No : SNO) (u172_Nx : SNX) (u172_Na : SNA) (u172_Nq : SNQ) (u172_Nj : SNJ) (u172_rt : Nat) (u172_Ni : SNI) (u172_Nf : SNF) (u172_Nh : SNH) (z : Int32) (q : Nat × Int32) (h : m_MM_array_b172 n rec u172_x11 u172_M0 u172_M1 u172_Np u172_No u172_Nx u172_Na u172_Nq u172_Nj u172_rt z = some q) (h0 : q.1 = 0 → o_At p l e (rm_MM_array d) s m args below meth c Q m_cls D A 15 172 [] (m_cw ad ca ky ty u172_rt u172_Ni u172_Np u172_No u172_Nx u172_Nf u172_Na u172_Nh u172_Nq u172_Nj u172_M0 u172_M1) [(0, .ref (ad 0)), (11, .int u172_x11), (12, .int q.2)]) (h1 : q.1 ≠ 0 → (if q.1 = 1 then o_At p l e (rm_MM_array d) s m args below meth c Q m_cls D A 15 195 [] (m_cw ad ca ky ty u172_rt u172_Ni u172_Np u172_No u172_Nx u172_Nf u172_Na u172_Nh u172_Nq u172_Nj u172_M0 u172_M1) [] else o_At p l e (rm_MM_array d) s m args below meth c Q m_cls D A 15 212 [] (m_cw ad ca ky ty u172_rt u172_Ni u172_Np u172_No u172_Nx u172_Nf u172_Na u172_Nh u172_Nq u172_Nj u172_M0 u172_M1) [(0, .ref (ad 0)), (11, .int u172_x11)])) : o_At p l e (rm_MM_array d) s m args below meth c Q m_cls D A 15 172 [] (m_cw ad ca ky ty u172_rt u172_Ni u172_Np u172_No u172_Nx u172_Nf u172_Na u172_Nh u172_Nq u172_Nj u172_M0 u172_M1) [(0, .ref (ad 0)), (11, .int u172_x11), (12, .int z)] := by
  unfold m_MM_array_b172 at h
  intro H locs ls hP hS hl
  have C0 := C
  obtain ⟨hx, hb, -, -, -, hown, hts, hK, -, -⟩ := C0
  refine lv_iload hx hb d_MM_array_172 (lv_at hl 2 rfl) ?_
  refine lv_if_lt (tgt := 212) hx hb d_MM_array_174 (by decide) (fun c50 => ?_) (fun c50 => ?_)
  · replace h := o_tt c50 h
    cases h
    exact h1 (Nat.succ_ne_zero 1) _ _ _ hP hS (lv_sub hl [0, 1] rfl)
  · replace h := o_ff c50 h
    refine lv_aload_n hx hb d_MM_array_177 rfl (lv_at hl 0 rfl) ?_
    refine o_get (v := .ref (ad 48)) C in_MM hP 0 mw_0 rfl 5 (by decide) k_7_235 rfl rfl d_MM_array_178 ?_
    refine lv_iload hx hb d_MM_array_181 (lv_at hl 1 rfl) ?_
    refine lv_aload_n hx hb d_MM_array_183 rfl (lv_at hl 0 rfl) ?_
    refine o_get (v := .ref (ad 48)) C in_MM hP 0 mw_0 rfl 5 (by decide) k_7_235 rfl rfl d_MM_array_184 ?_
    refine lv_iload hx hb d_MM_array_187 (lv_at hl 2 rfl) ?_
    obtain ⟨q15, hq15, h⟩ := o_bd_some h
    refine o_V (st1 := [.int q15]) (w1 := (m_cw ad ca ky ty u172_rt u172_Ni u172_Np u172_No u172_Nx u172_Nf u172_Na u172_Nh u172_Nq u172_Nj u172_M0 u172_M1)) hE.1 C (e_MT_alike_bb hE hKy l n 1003 u172_x11 z u172_M1 u172_Ni u172_Np u172_No u172_Nx u172_Nf u172_Na u172_Nh u172_Nq u172_Nj u172_M0 u172_rt hq15) hP (hDD _ _ _ _ _ _ _ _ _ _ _ _) hS hl.1 rfl mw_48 k_10_27 k_10_28 k_10_29 k_1_13 k_10_30 hv_MT_alike rfl rfl ⟨(by dsimp only [rm_MM_array, rm_MT_alike]; omega), (by dsimp only [rm_MM_array, rm_MT_alike]; omega)⟩ rfl (Nat.le_of_ble_eq_true rfl) ⟨Nat.zero_le _, Nat.zero_le _⟩ rfl d_MM_array_189 (fun H locs hP hS => ?_)
    refine lv_if_eq (tgt := 197) hx hb d_MM_array_192 (by decide) (fun c51 => ?_) (fun c51 => ?_)
    · replace h := o_tt c51 h
      refine lv_aload_n hx hb d_MM_array_197 rfl (lv_at hl 0 rfl) ?_
      refine o_get (v := .ref (ad 48)) C in_MM hP 0 mw_0 rfl 5 (by decide) k_7_235 rfl rfl d_MM_array_198 ?_
      refine o_get (v := .ref (ad 56)) C in_MT hP 48 mw_48 rfl 7 (by decide) k_7_115 rfl rfl d_MM_array_201 ?_
      refine lv_iload hx hb d_MM_array_204 (lv_at hl 2 rfl) ?_
      obtain ⟨g52, h⟩ := o_gd_some h
      refine o_iald (f := (MT_next u172_M1)) C hP 56 53 mw_56 rfl g52 d_MM_array_206 ?_
      refine lv_topi (fun x12_207 ex12_207 => ?_)
      replace h := o_nm_at ex12_207 h
      refine lv_istore (lv' := [(12, .int x12_207), (0, .ref (ad 0)), (11, .int u172_x11)]) hx hb d_MM_array_207 hl (by decide) rfl (fun ls hl => ?_)
      refine lv_goto (tgt := 172) hx hb d_MM_array_209 (by decide) ?_
      cases h
      exact h0 rfl _ _ _ hP hS (lv_sub hl [1, 2, 0] rfl)
    · replace h := o_ff c51 h
      cases h
      exact h1 (Nat.succ_ne_zero 0) _ _ _ hP hS (lv_sub hl [] rfl)
set_option maxHeartbeats 4000000 in
set_option maxRecDepth 100000 in
theorem f_MM_array_b155 {E : (Nat → Prop) → State → Heap → Prop} {p : Program} {l : Launch} {e : Env} {s : State} {m : MethodId} {args : Array Value} {below : List Frame} {meth : Method} {c : Code} {D : va_G} {ad kd sd vd xd : Nat → Nat} {ca : Nat → ClassId} {A : Nat → Prop} {ky ty : Nat → Option Nat} {Q : State → Prop} (hE : o_EK E kd sd vd xd) (hKy : m_KY ky ty sd) (C : o_Cx E p s m args meth c D m_cls (m_tys ca) "SchemaJudgeModel" b_MM_array (some .boolean) 15 cc_MM_array A) (hDD : ∀ (rt : Nat) (Ni : SNI) (Np : SNP) (No : SNO) (Nx : SNX) (Nf : SNF) (Na : SNA) (Nh : SNH) (Nq : SNQ) (Nj : SNJ) (M0 : SMT) (M1 : SMT), va_D A (m_cw ad ca ky ty rt Ni Np No Nx Nf Na Nh Nq Nj M0 M1)) (d : Nat) (rec : Int32 → Int32 → SMT → SMT → SNP → SNO → SNX → SNA → SNQ → SNJ → Nat → Option (Int32 × SMT × SNP × SNO × SNX × SNQ × SNJ × Nat)) (hrec : ∀ (x1 : Int32) (x2 : Int32) (M0 : SMT) (M1 : SMT) (Np : SNP) (No : SNO) (Nx : SNX) (Na : SNA) (Nq : SNQ) (Nj : SNJ) (rt : Nat) (Ni : SNI) (Nf : SNF) (Nh : SNH) (r : Int32 × SMT × SNP × SNO × SNX × SNQ × SNJ × Nat), rec x1 x2 M0 M1 Np No Nx Na Nq Nj rt = some r → o_Cn E l D m_cls (m_tys ca) y_MM_judge cc_MM_judge (rm_MM_judge d) [.ref (ad 0), .int x1, .int x2] (m_cw ad ca ky ty rt Ni Np No Nx Nf Na Nh Nq Nj M0 M1) (m_cw ad ca ky ty r.2.2.2.2.2.2.2 Ni r.2.2.1 r.2.2.2.1 r.2.2.2.2.1 Nf Na Nh r.2.2.2.2.2.1 r.2.2.2.2.2.2.1 M0 r.2.1) (some (.int r.1))) (n : Nat) (u155_M0 : SMT) (u155_M1 : SMT) (u155_Np : SNP) (u155_No : SNO) (u155_Nx : SNX) (u155_Na : SNA) (u155_Nq : SNQ) (u155_Nj : SNJ) (u155_rt : Nat) (u155_Ni : SNI) (u155_Nf : SNF) (u155_Nh : SNH) (z : Int32) (q : Nat × Int32) (h : m_MM_array_b155 n rec u155_M0 u155_M1 u155_Np u155_No u155_Nx u155_Na u155_Nq u155_Nj u155_rt z = some q) (h0 : q.1 = 0 → o_At p l e (rm_MM_array d) s m args below meth c Q m_cls D A 15 155 [] (m_cw ad ca ky ty u155_rt u155_Ni u155_Np u155_No u155_Nx u155_Nf u155_Na u155_Nh u155_Nq u155_Nj u155_M0 u155_M1) [(0, .ref (ad 0)), (11, .int q.2)]) (h1 : q.1 ≠ 0 → (if q.1 = 1 then o_At p l e (rm_MM_array d) s m args below meth c Q m_cls D A 15 195 [] (m_cw ad ca ky ty u155_rt u155_Ni u155_Np u155_No u155_Nx u155_Nf u155_Na u155_Nh u155_Nq u155_Nj u155_M0 u155_M1) [] else o_At p l e (rm_MM_array d) s m args below meth c Q m_cls D A 15 227 [] (m_cw ad ca ky ty u155_rt u155_Ni u155_Np u155_No u155_Nx u155_Nf u155_Na u155_Nh u155_Nq u155_Nj u155_M0 u155_M1) [])) : o_At p l e (rm_MM_array d) s m args below meth c Q m_cls D A 15 155 [] (m_cw ad ca ky ty u155_rt u155_Ni u155_Np u155_No u155_Nx u155_Nf u155_Na u155_Nh u155_Nq u155_Nj u155_M0 u155_M1) [(0, .ref (ad 0)), (11, .int z)] := by
  unfold m_MM_array_b155 at h
  intro H locs ls hP hS hl
  have C0 := C
  obtain ⟨hx, hb, -, -, -, hown, hts, hK, -, -⟩ := C0
  refine lv_iload hx hb d_MM_array_155 (lv_at hl 1 rfl) ?_
  refine lv_if_lt (tgt := 227) hx hb d_MM_array_157 (by decide) (fun c48 => ?_) (fun c48 => ?_)
  · replace h := o_tt c48 h
    cases h
    exact h1 (Nat.succ_ne_zero 1) _ _ _ hP hS (lv_sub hl [] rfl)
  · replace h := o_ff c48 h
    refine lv_aload_n hx hb d_MM_array_160 rfl (lv_at hl 0 rfl) ?_
    refine o_get (v := .ref (ad 48)) C in_MM hP 0 mw_0 rfl 5 (by decide) k_7_235 rfl rfl d_MM_array_161 ?_
    refine o_get (v := .ref (ad 56)) C in_MT hP 48 mw_48 rfl 7 (by decide) k_7_115 rfl rfl d_MM_array_164 ?_
    refine lv_iload hx hb d_MM_array_167 (lv_at hl 1 rfl) ?_
    obtain ⟨g49, h⟩ := o_gd_some h
    refine o_iald (f := (MT_next u155_M1)) C hP 56 53 mw_56 rfl g49 d_MM_array_169 ?_
    refine lv_topi (fun x12_170 ex12_170 => ?_)
    replace h := o_nm_at ex12_170 h
    refine lv_istore (lv' := [(12, .int x12_170), (0, .ref (ad 0)), (11, .int z)]) hx hb d_MM_array_170 hl (by decide) rfl (fun ls hl => ?_)
    obtain ⟨q16, hq16, h⟩ := o_bd_some h
    refine o_sim2 (AH := fun zz => o_At p l e (rm_MM_array d) s m args below meth c _ m_cls D A 15 172 [] (m_cw ad ca ky ty u155_rt u155_Ni u155_Np u155_No u155_Nx u155_Nf u155_Na u155_Nh u155_Nq u155_Nj u155_M0 u155_M1) [(0, .ref (ad 0)), (11, .int z), (12, .int zz)]) (AX := fun qq => if qq.1 = 1 then o_At p l e (rm_MM_array d) s m args below meth c _ m_cls D A 15 195 [] (m_cw ad ca ky ty u155_rt u155_Ni u155_Np u155_No u155_Nx u155_Nf u155_Na u155_Nh u155_Nq u155_Nj u155_M0 u155_M1) [] else o_At p l e (rm_MM_array d) s m args below meth c _ m_cls D A 15 212 [] (m_cw ad ca ky ty u155_rt u155_Ni u155_Np u155_No u155_Nx u155_Nf u155_Na u155_Nh u155_Nq u155_Nj u155_M0 u155_M1) [(0, .ref (ad 0)), (11, .int z)]) (fun zz qq h h0 h1 => f_MM_array_b172 hE hKy C hDD d rec hrec n z u155_M0 u155_M1 u155_Np u155_No u155_Nx u155_Na u155_Nq u155_Nj u155_rt u155_Ni u155_Nf u155_Nh zz qq h h0 h1) n _ q16 hq16 ?_ _ _ _ hP hS (lv_sub hl [1, 2, 0] rfl)
    by_cases c54 : q16.1 = 1
    · replace h := o_tt c54 h
      refine o_ip c54 ?_
      intro H locs ls hP hS hl
      cases h
      exact h1 (Nat.succ_ne_zero 0) _ _ _ hP hS (lv_sub hl [] rfl)
    replace h := o_ff c54 h
    refine o_in_ c54 ?_
    intro H locs ls hP hS hl
    refine lv_aload_n hx hb d_MM_array_212 rfl (lv_at hl 0 rfl) ?_
    refine o_get (v := .ref (ad 48)) C in_MM hP 0 mw_0 rfl 5 (by decide) k_7_235 rfl rfl d_MM_array_213 ?_
    refine o_get (v := .ref (ad 56)) C in_MT hP 48 mw_48 rfl 7 (by decide) k_7_115 rfl rfl d_MM_array_216 ?_
    refine lv_iload hx hb d_MM_array_219 (lv_at hl 1 rfl) ?_
    obtain ⟨g53, h⟩ := o_gd_some h
    refine o_iald (f := (MT_next u155_M1)) C hP 56 53 mw_56 rfl g53 d_MM_array_221 ?_
    refine lv_topi (fun x11_222 ex11_222 => ?_)
    replace h := o_nm_at ex11_222 h
    refine lv_istore (lv' := [(11, .int x11_222), (0, .ref (ad 0))]) hx hb d_MM_array_222 hl (by decide) rfl (fun ls hl => ?_)
    refine lv_goto (tgt := 155) hx hb d_MM_array_224 (by decide) ?_
    cases h
    exact h0 rfl _ _ _ hP hS (lv_sub hl [1, 0] rfl)
set_option maxHeartbeats 4000000 in
set_option maxRecDepth 100000 in
theorem e_MM_array {E : (Nat → Prop) → State → Heap → Prop} {D : va_G} {ad kd sd vd xd : Nat → Nat} {ca : Nat → ClassId} {ky ty : Nat → Option Nat} (hE : o_EK E kd sd vd xd) (hKy : m_KY ky ty sd) (l : Launch) (n : Nat) (d : Nat) (rec : Int32 → Int32 → SMT → SMT → SNP → SNO → SNX → SNA → SNQ → SNJ → Nat → Option (Int32 × SMT × SNP × SNO × SNX × SNQ × SNJ × Nat)) (hrec : ∀ (x1 : Int32) (x2 : Int32) (M0 : SMT) (M1 : SMT) (Np : SNP) (No : SNO) (Nx : SNX) (Na : SNA) (Nq : SNQ) (Nj : SNJ) (rt : Nat) (Ni : SNI) (Nf : SNF) (Nh : SNH) (r : Int32 × SMT × SNP × SNO × SNX × SNQ × SNJ × Nat), rec x1 x2 M0 M1 Np No Nx Na Nq Nj rt = some r → o_Cn E l D m_cls (m_tys ca) y_MM_judge cc_MM_judge (rm_MM_judge d) [.ref (ad 0), .int x1, .int x2] (m_cw ad ca ky ty rt Ni Np No Nx Nf Na Nh Nq Nj M0 M1) (m_cw ad ca ky ty r.2.2.2.2.2.2.2 Ni r.2.2.1 r.2.2.2.1 r.2.2.2.2.1 Nf Na Nh r.2.2.2.2.2.1 r.2.2.2.2.2.2.1 M0 r.2.1) (some (.int r.1))) (x1 : Int32) (x2 : Int32) (x3 : Int32) (x4 : Int32) (M0 : SMT) (M1 : SMT) (Np : SNP) (No : SNO) (Nx : SNX) (Na : SNA) (Nq : SNQ) (Nj : SNJ) (rt : Nat) (Ni : SNI) (Nf : SNF) (Nh : SNH) {r : Int32 × SMT × SNP × SNO × SNX × SNQ × SNJ × Nat} (h : m_MM_array n rec x1 x2 x3 x4 M0 M1 Np No Nx Na Nq Nj rt = some r) : o_Cn E l D m_cls (m_tys ca) y_MM_array cc_MM_array (rm_MM_array d) [.ref (ad 0), .int x1, .int x2, .int x3, .int x4] (m_cw ad ca ky ty rt Ni Np No Nx Nf Na Nh Nq Nj M0 M1) (m_cw ad ca ky ty r.2.2.2.2.2.2.2 Ni r.2.2.1 r.2.2.2.1 r.2.2.2.2.1 Nf Na Nh r.2.2.2.2.2.1 r.2.2.2.2.2.2.1 M0 r.2.1) (some (.int r.1)) := by
  refine o_Cn_of (by decide) (Nat.le_of_ble_eq_true rfl) ?_
  intro p e s m below meth c A ls C hD hP hS hl
  have hDD : ∀ (rt : Nat) (Ni : SNI) (Np : SNP) (No : SNO) (Nx : SNX) (Nf : SNF) (Na : SNA) (Nh : SNH) (Nq : SNQ) (Nj : SNJ) (M0 : SMT) (M1 : SMT), va_D A (m_cw ad ca ky ty rt Ni Np No Nx Nf Na Nh Nq Nj M0 M1) := fun _ _ _ _ _ _ _ _ _ _ _ _ => o_D_map hD rfl
  have hl : lv_has ls 15 [(0, .ref (ad 0)), (1, .int x1), (2, .int x2), (3, .int x3), (4, .int x4)] := hl
  unfold m_MM_array at h
  have C0 := C
  obtain ⟨hx, hb, -, -, -, hown, hts, hK, -, -⟩ := C0
  refine lv_aload_n hx hb d_MM_array_0 rfl (lv_at hl 0 rfl) ?_
  refine o_get (v := .long (NJ_seen Nj)) C in_MM hP 0 mw_0 rfl 58 (by decide) k_8_48 rfl rfl d_MM_array_1 ?_
  refine lv_topl (fun x5_4 ex5_4 => ?_)
  replace h := o_nm_at ex5_4 h
  refine lv_lstore (lv' := [(5, .long x5_4), (0, .ref (ad 0)), (1, .int x1), (2, .int x2), (3, .int x3), (4, .int x4)]) hx hb d_MM_array_4 hl (by decide) rfl (fun ls hl => ?_)
  refine lv_iconst (v := (1:Int32)) hx hb d_MM_array_6 (by decide) ?_
  refine lv_istore (lv' := [(7, .int (1:Int32)), (5, .long x5_4), (0, .ref (ad 0)), (1, .int x1), (2, .int x2), (3, .int x3), (4, .int x4)]) hx hb d_MM_array_7 hl (by decide) rfl (fun ls hl => ?_)
  refine lv_aload_n hx hb d_MM_array_9 rfl (lv_at hl 2 rfl) ?_
  refine o_get (v := .ref (ad 48)) C in_MM hP 0 mw_0 rfl 5 (by decide) k_7_235 rfl rfl d_MM_array_10 ?_
  refine o_get (v := .ref (ad 52)) C in_MT hP 48 mw_48 rfl 3 (by decide) k_7_107 rfl rfl d_MM_array_13 ?_
  refine lv_iload hx hb d_MM_array_16 (lv_at hl 6 rfl) ?_
  obtain ⟨g1, h⟩ := o_gd_some h
  refine o_iald (f := (MT_many M1)) C hP 52 49 mw_52 rfl g1 d_MM_array_18 ?_
  refine lv_topi (fun x8_19 ex8_19 => ?_)
  replace h := o_nm_at ex8_19 h
  refine lv_istore (lv' := [(8, .int x8_19), (7, .int (1:Int32)), (5, .long x5_4), (0, .ref (ad 0)), (1, .int x1), (2, .int x2), (3, .int x3), (4, .int x4)]) hx hb d_MM_array_19 hl (by decide) rfl (fun ls hl => ?_)
  refine lv_iconst (v := (0:Int32)) hx hb d_MM_array_21 (by decide) ?_
  refine lv_istore (lv' := [(9, .int (0:Int32)), (8, .int x8_19), (7, .int (1:Int32)), (5, .long x5_4), (0, .ref (ad 0)), (1, .int x1), (2, .int x2), (3, .int x3), (4, .int x4)]) hx hb d_MM_array_22 hl (by decide) rfl (fun ls hl => ?_)
  refine lv_iconst (v := (0:Int32)) hx hb d_MM_array_24 (by decide) ?_
  refine lv_istore (lv' := [(10, .int (0:Int32)), (9, .int (0:Int32)), (8, .int x8_19), (7, .int (1:Int32)), (5, .long x5_4), (0, .ref (ad 0)), (1, .int x1), (2, .int x2), (3, .int x3), (4, .int x4)]) hx hb d_MM_array_25 hl (by decide) rfl (fun ls hl => ?_)
  refine lv_iload_n hx hb d_MM_array_27 rfl (lv_at hl 6 rfl) ?_
  by_cases c2 : x1 = (4:Int32)
  · replace h := o_tt c2 h
    refine lv_lookup (off := 296) (tgt := 324) hx hb d_MM_array_28 (by decide) (by rw [c2]; rfl) (by decide) ?_
    refine lv_aload_n hx hb d_MM_array_324 rfl (lv_at hl 5 rfl) ?_
    refine o_get (v := .ref (ad 33)) C in_MM hP 0 mw_0 rfl 4 (by decide) k_7_234 rfl rfl d_MM_array_325 ?_
    refine lv_iload_n hx hb d_MM_array_328 rfl (lv_at hl 8 rfl) ?_
    refine va_ldcS (q := sd 38) hx hb hown (hE.2.2.2.2.2.1 _ _ _ C.2.2.2.2.2.2.2.2.2 ("SchemaJudgeModel", 108, "prefixItems", 38) (List.mem_of_getElem? (i := 46) rfl)) d_MM_array_329 ?_
    obtain ⟨q1, hq1, h⟩ := o_bd_some h
    refine o_V (st1 := [.int q1]) (w1 := (m_cw ad ca ky ty rt Ni Np No Nx Nf Na Nh Nq Nj M0 M1)) hE.1 C (e_MT_member_a hE hKy l n x3 38 rfl M0 Ni Np No Nx Nf Na Nh Nq Nj M1 rt hq1) hP (hDD _ _ _ _ _ _ _ _ _ _ _ _) hS hl.1 rfl mw_33 k_9_226 k_9_227 k_9_228 k_1_13 k_9_229 hv_MT_member rfl rfl ⟨(by dsimp only [rm_MM_array, rm_MT_member]; omega), (by dsimp only [rm_MM_array, rm_MT_member]; omega)⟩ rfl (Nat.le_of_ble_eq_true rfl) ⟨Nat.zero_le _, Nat.zero_le _⟩ rfl d_MM_array_331 (fun H locs hP hS => ?_)
    refine lv_istore (lv' := [(11, .int q1), (10, .int (0:Int32)), (9, .int (0:Int32)), (8, .int x8_19), (7, .int (1:Int32)), (5, .long x5_4), (0, .ref (ad 0)), (1, .int x1), (2, .int x2), (3, .int x3), (4, .int x4)]) hx hb d_MM_array_334 hl (by decide) rfl (fun ls hl => ?_)
    refine lv_iload_n hx hb d_MM_array_336 rfl (lv_at hl 7 rfl) ?_
    refine lv_iconst (v := (4:Int32)) hx hb d_MM_array_337 (by decide) ?_
    refine lv_icmp_ne (tgt := 359) hx hb d_MM_array_338 (by decide) (fun c3 => ?_) (fun c3 => ?_)
    · replace h := o_ff c3 h
      refine lv_iconst (v := (0:Int32)) hx hb d_MM_array_359 (by decide) ?_
      exact f_MM_array_j360 hE hKy C hDD d rec hrec n x1 x2 x4 x5_4 (1:Int32) (0:Int32) (0:Int32) M0 M1 Np No Nx Na Nq Nj rt Ni Nf Nh h _ _ _ hP hS (lv_sub hl [6, 7, 8, 10, 5, 4, 2] rfl)
    · replace h := o_tt c3 h
      refine lv_iload hx hb d_MM_array_341 (lv_at hl 0 rfl) ?_
      refine lv_if_lt (tgt := 359) hx hb d_MM_array_343 (by decide) (fun c15 => ?_) (fun c15 => ?_)
      · replace h := o_tt c15 h
        refine lv_iconst (v := (0:Int32)) hx hb d_MM_array_359 (by decide) ?_
        exact f_MM_array_j360 hE hKy C hDD d rec hrec n x1 x2 x4 x5_4 (1:Int32) (0:Int32) (0:Int32) M0 M1 Np No Nx Na Nq Nj rt Ni Nf Nh h _ _ _ hP hS (lv_sub hl [6, 7, 8, 10, 5, 4, 2] rfl)
      · replace h := o_ff c15 h
        refine lv_aload_n hx hb d_MM_array_346 rfl (lv_at hl 6 rfl) ?_
        refine o_get (v := .ref (ad 33)) C in_MM hP 0 mw_0 rfl 4 (by decide) k_7_234 rfl rfl d_MM_array_347 ?_
        refine o_get (v := .ref (ad 37)) C in_MT hP 33 mw_33 rfl 3 (by decide) k_7_107 rfl rfl d_MM_array_350 ?_
        refine lv_iload hx hb d_MM_array_353 (lv_at hl 0 rfl) ?_
        obtain ⟨g16, h⟩ := o_gd_some h
        refine o_iald (f := (MT_many M0)) C hP 37 35 mw_37 rfl g16 d_MM_array_355 ?_
        refine lv_goto (tgt := 360) hx hb d_MM_array_356 (by decide) ?_
        exact f_MM_array_j360 hE hKy C hDD d rec hrec n x1 x2 x4 x5_4 (1:Int32) (0:Int32) ((MT_many M0) q1.toNatClampNeg) M0 M1 Np No Nx Na Nq Nj rt Ni Nf Nh h _ _ _ hP hS (lv_sub hl [6, 7, 8, 10, 5, 4, 2] rfl)
  replace h := o_ff c2 h
  by_cases c17 : x1 = (5:Int32)
  · replace h := o_tt c17 h
    refine lv_lookup (off := 444) (tgt := 472) hx hb d_MM_array_28 (by decide) (by rw [c17]; rfl) (by decide) ?_
    refine lv_aload_n hx hb d_MM_array_472 rfl (lv_at hl 5 rfl) ?_
    refine o_get (v := .int (NQ_pairs Nq)) C in_MM hP 0 mw_0 rfl 53 (by decide) k_8_43 rfl rfl d_MM_array_473 ?_
    refine lv_topi (fun x11_476 ex11_476 => ?_)
    replace h := o_nm_at ex11_476 h
    refine lv_istore (lv' := [(11, .int x11_476), (10, .int (0:Int32)), (9, .int (0:Int32)), (8, .int x8_19), (7, .int (1:Int32)), (5, .long x5_4), (0, .ref (ad 0)), (1, .int x1), (2, .int x2), (3, .int x3), (4, .int x4)]) hx hb d_MM_array_476 hl (by decide) rfl (fun ls hl => ?_)
    refine lv_aload_n hx hb d_MM_array_478 rfl (lv_at hl 6 rfl) ?_
    refine o_get (v := .ref (ad 33)) C in_MM hP 0 mw_0 rfl 4 (by decide) k_7_234 rfl rfl d_MM_array_479 ?_
    refine lv_iload_n hx hb d_MM_array_482 rfl (lv_at hl 9 rfl) ?_
    refine va_ldcS (q := sd 53) hx hb hown (hE.2.2.2.2.2.1 _ _ _ C.2.2.2.2.2.2.2.2.2 ("SchemaJudgeModel", 138, "minContains", 53) (List.mem_of_getElem? (i := 61) rfl)) d_MM_array_483 ?_
    obtain ⟨q4, hq4, h⟩ := o_bd_some h
    refine o_V (st1 := [.int q4]) (w1 := (m_cw ad ca ky ty rt Ni Np No Nx Nf Na Nh Nq Nj M0 M1)) hE.1 C (e_MT_member_a hE hKy l n x3 53 rfl M0 Ni Np No Nx Nf Na Nh Nq Nj M1 rt hq4) hP (hDD _ _ _ _ _ _ _ _ _ _ _ _) hS hl.1 rfl mw_33 k_9_226 k_9_227 k_9_228 k_1_13 k_9_229 hv_MT_member rfl rfl ⟨(by dsimp only [rm_MM_array, rm_MT_member]; omega), (by dsimp only [rm_MM_array, rm_MT_member]; omega)⟩ rfl (Nat.le_of_ble_eq_true rfl) ⟨Nat.zero_le _, Nat.zero_le _⟩ rfl d_MM_array_485 (fun H locs hP hS => ?_)
    refine lv_istore (lv' := [(12, .int q4), (11, .int x11_476), (10, .int (0:Int32)), (9, .int (0:Int32)), (8, .int x8_19), (7, .int (1:Int32)), (5, .long x5_4), (0, .ref (ad 0)), (1, .int x1), (2, .int x2), (3, .int x3), (4, .int x4)]) hx hb d_MM_array_488 hl (by decide) rfl (fun ls hl => ?_)
    refine lv_aload_n hx hb d_MM_array_490 rfl (lv_at hl 7 rfl) ?_
    refine o_get (v := .ref (ad 33)) C in_MM hP 0 mw_0 rfl 4 (by decide) k_7_234 rfl rfl d_MM_array_491 ?_
    refine lv_iload_n hx hb d_MM_array_494 rfl (lv_at hl 10 rfl) ?_
    refine va_ldcS (q := sd 52) hx hb hown (hE.2.2.2.2.2.1 _ _ _ C.2.2.2.2.2.2.2.2.2 ("SchemaJudgeModel", 136, "maxContains", 52) (List.mem_of_getElem? (i := 60) rfl)) d_MM_array_495 ?_
    obtain ⟨q5, hq5, h⟩ := o_bd_some h
    refine o_V (st1 := [.int q5]) (w1 := (m_cw ad ca ky ty rt Ni Np No Nx Nf Na Nh Nq Nj M0 M1)) hE.1 C (e_MT_member_a hE hKy l n x3 52 rfl M0 Ni Np No Nx Nf Na Nh Nq Nj M1 rt hq5) hP (hDD _ _ _ _ _ _ _ _ _ _ _ _) hS hl.1 rfl mw_33 k_9_226 k_9_227 k_9_228 k_1_13 k_9_229 hv_MT_member rfl rfl ⟨(by dsimp only [rm_MM_array, rm_MT_member]; omega), (by dsimp only [rm_MM_array, rm_MT_member]; omega)⟩ rfl (Nat.le_of_ble_eq_true rfl) ⟨Nat.zero_le _, Nat.zero_le _⟩ rfl d_MM_array_497 (fun H locs hP hS => ?_)
    refine lv_istore (lv' := [(13, .int q5), (12, .int q4), (11, .int x11_476), (10, .int (0:Int32)), (9, .int (0:Int32)), (8, .int x8_19), (7, .int (1:Int32)), (5, .long x5_4), (0, .ref (ad 0)), (1, .int x1), (2, .int x2), (3, .int x3), (4, .int x4)]) hx hb d_MM_array_500 hl (by decide) rfl (fun ls hl => ?_)
    refine lv_aload_n hx hb d_MM_array_502 rfl (lv_at hl 8 rfl) ?_
    refine o_get (v := .ref (ad 48)) C in_MM hP 0 mw_0 rfl 5 (by decide) k_7_235 rfl rfl d_MM_array_503 ?_
    refine o_get (v := .ref (ad 55)) C in_MT hP 48 mw_48 rfl 6 (by decide) k_7_113 rfl rfl d_MM_array_506 ?_
    refine lv_iload hx hb d_MM_array_509 (lv_at hl 12 rfl) ?_
    obtain ⟨g18, h⟩ := o_gd_some h
    refine o_iald (f := (MT_first M1)) C hP 55 52 mw_55 rfl g18 d_MM_array_511 ?_
    refine lv_topi (fun x14_512 ex14_512 => ?_)
    replace h := o_nm_at ex14_512 h
    refine lv_istore (lv' := [(14, .int x14_512), (13, .int q5), (12, .int q4), (11, .int x11_476), (10, .int (0:Int32)), (9, .int (0:Int32)), (8, .int x8_19), (7, .int (1:Int32)), (5, .long x5_4), (0, .ref (ad 0)), (1, .int x1), (2, .int x2), (3, .int x3), (4, .int x4)]) hx hb d_MM_array_512 hl (by decide) rfl (fun ls hl => ?_)
    obtain ⟨q7, hq7, h⟩ := o_bd_some h
    refine o_sim2 (AH := fun zz => o_At p l e (rm_MM_array d) s m _ below meth c _ m_cls D A 15 514 [] (m_cw ad ca ky ty zz.2.2.2.2.2.2.2.2.2.2 Ni zz.2.2.2.2.2.1 zz.2.2.2.2.2.2.1 zz.2.2.2.2.2.2.2.1 Nf Na Nh zz.2.2.2.2.2.2.2.2.1 zz.2.2.2.2.2.2.2.2.2.1 M0 zz.2.2.2.2.1) [(0, .ref (ad 0)), (2, .int x2), (5, .long zz.1), (9, .int zz.2.1), (10, .int zz.2.2.1), (11, .int x11_476), (12, .int q4), (13, .int q5), (14, .int zz.2.2.2.1)]) (AX := fun qq => o_At p l e (rm_MM_array d) s m _ below meth c _ m_cls D A 15 566 [] (m_cw ad ca ky ty qq.2.2.2.2.2.2.2.2.2.2.2 Ni qq.2.2.2.2.2.2.1 qq.2.2.2.2.2.2.2.1 qq.2.2.2.2.2.2.2.2.1 Nf Na Nh qq.2.2.2.2.2.2.2.2.2.1 qq.2.2.2.2.2.2.2.2.2.2.1 M0 qq.2.2.2.2.2.1) [(0, .ref (ad 0)), (5, .long qq.2.1), (10, .int qq.2.2.2.1), (11, .int x11_476), (12, .int q4), (13, .int q5)]) (fun zz qq h h0 h1 => f_MM_array_b514 hE hKy C hDD d rec hrec n x2 x11_476 q4 q5 M0 Na Ni Nf Nh zz qq h h0 h1) n _ q7 hq7 ?_ _ _ _ hP hS (lv_sub hl [9, 11, 8, 5, 4, 3, 2, 1, 0] rfl)
    intro H locs ls hP hS hl
    exact f_MM_array_j566 hE hKy C hDD d rec hrec n q7.2.1 q7.2.2.2.1 x11_476 q4 q5 M0 q7.2.2.2.2.2.1 q7.2.2.2.2.2.2.1 q7.2.2.2.2.2.2.2.1 q7.2.2.2.2.2.2.2.2.1 Na q7.2.2.2.2.2.2.2.2.2.1 q7.2.2.2.2.2.2.2.2.2.2.1 q7.2.2.2.2.2.2.2.2.2.2.2 Ni Nf Nh h _ _ _ hP hS (lv_sub hl [0, 1, 2, 3, 4, 5] rfl)
  replace h := o_ff c17 h
  by_cases c27 : x1 = (8:Int32)
  · replace h := o_tt c27 h
    refine lv_lookup (off := 296) (tgt := 324) hx hb d_MM_array_28 (by decide) (by rw [c27]; rfl) (by decide) ?_
    refine lv_aload_n hx hb d_MM_array_324 rfl (lv_at hl 5 rfl) ?_
    refine o_get (v := .ref (ad 33)) C in_MM hP 0 mw_0 rfl 4 (by decide) k_7_234 rfl rfl d_MM_array_325 ?_
    refine lv_iload_n hx hb d_MM_array_328 rfl (lv_at hl 8 rfl) ?_
    refine va_ldcS (q := sd 38) hx hb hown (hE.2.2.2.2.2.1 _ _ _ C.2.2.2.2.2.2.2.2.2 ("SchemaJudgeModel", 108, "prefixItems", 38) (List.mem_of_getElem? (i := 46) rfl)) d_MM_array_329 ?_
    obtain ⟨q10, hq10, h⟩ := o_bd_some h
    refine o_V (st1 := [.int q10]) (w1 := (m_cw ad ca ky ty rt Ni Np No Nx Nf Na Nh Nq Nj M0 M1)) hE.1 C (e_MT_member_a hE hKy l n x3 38 rfl M0 Ni Np No Nx Nf Na Nh Nq Nj M1 rt hq10) hP (hDD _ _ _ _ _ _ _ _ _ _ _ _) hS hl.1 rfl mw_33 k_9_226 k_9_227 k_9_228 k_1_13 k_9_229 hv_MT_member rfl rfl ⟨(by dsimp only [rm_MM_array, rm_MT_member]; omega), (by dsimp only [rm_MM_array, rm_MT_member]; omega)⟩ rfl (Nat.le_of_ble_eq_true rfl) ⟨Nat.zero_le _, Nat.zero_le _⟩ rfl d_MM_array_331 (fun H locs hP hS => ?_)
    refine lv_istore (lv' := [(11, .int q10), (10, .int (0:Int32)), (9, .int (0:Int32)), (8, .int x8_19), (7, .int (1:Int32)), (5, .long x5_4), (0, .ref (ad 0)), (1, .int x1), (2, .int x2), (3, .int x3), (4, .int x4)]) hx hb d_MM_array_334 hl (by decide) rfl (fun ls hl => ?_)
    refine lv_iload_n hx hb d_MM_array_336 rfl (lv_at hl 7 rfl) ?_
    refine lv_iconst (v := (4:Int32)) hx hb d_MM_array_337 (by decide) ?_
    refine lv_icmp_ne (tgt := 359) hx hb d_MM_array_338 (by decide) (fun c28 => ?_) (fun c28 => ?_)
    · replace h := o_ff c28 h
      refine lv_iconst (v := (0:Int32)) hx hb d_MM_array_359 (by decide) ?_
      exact f_MM_array_j360 hE hKy C hDD d rec hrec n x1 x2 x4 x5_4 (1:Int32) (0:Int32) (0:Int32) M0 M1 Np No Nx Na Nq Nj rt Ni Nf Nh h _ _ _ hP hS (lv_sub hl [6, 7, 8, 10, 5, 4, 2] rfl)
    · replace h := o_tt c28 h
      refine lv_iload hx hb d_MM_array_341 (lv_at hl 0 rfl) ?_
      refine lv_if_lt (tgt := 359) hx hb d_MM_array_343 (by decide) (fun c29 => ?_) (fun c29 => ?_)
      · replace h := o_tt c29 h
        refine lv_iconst (v := (0:Int32)) hx hb d_MM_array_359 (by decide) ?_
        exact f_MM_array_j360 hE hKy C hDD d rec hrec n x1 x2 x4 x5_4 (1:Int32) (0:Int32) (0:Int32) M0 M1 Np No Nx Na Nq Nj rt Ni Nf Nh h _ _ _ hP hS (lv_sub hl [6, 7, 8, 10, 5, 4, 2] rfl)
      · replace h := o_ff c29 h
        refine lv_aload_n hx hb d_MM_array_346 rfl (lv_at hl 6 rfl) ?_
        refine o_get (v := .ref (ad 33)) C in_MM hP 0 mw_0 rfl 4 (by decide) k_7_234 rfl rfl d_MM_array_347 ?_
        refine o_get (v := .ref (ad 37)) C in_MT hP 33 mw_33 rfl 3 (by decide) k_7_107 rfl rfl d_MM_array_350 ?_
        refine lv_iload hx hb d_MM_array_353 (lv_at hl 0 rfl) ?_
        obtain ⟨g30, h⟩ := o_gd_some h
        refine o_iald (f := (MT_many M0)) C hP 37 35 mw_37 rfl g30 d_MM_array_355 ?_
        refine lv_goto (tgt := 360) hx hb d_MM_array_356 (by decide) ?_
        exact f_MM_array_j360 hE hKy C hDD d rec hrec n x1 x2 x4 x5_4 (1:Int32) (0:Int32) ((MT_many M0) q10.toNatClampNeg) M0 M1 Np No Nx Na Nq Nj rt Ni Nf Nh h _ _ _ hP hS (lv_sub hl [6, 7, 8, 10, 5, 4, 2] rfl)
  replace h := o_ff c27 h
  by_cases c31 : x1 = (13:Int32)
  · replace h := o_tt c31 h
    refine lv_lookup (off := 201) (tgt := 229) hx hb d_MM_array_28 (by decide) (by rw [c31]; rfl) (by decide) ?_
    refine lv_aload_n hx hb d_MM_array_229 rfl (lv_at hl 5 rfl) ?_
    refine o_get (v := .ref (ad 33)) C in_MM hP 0 mw_0 rfl 4 (by decide) k_7_234 rfl rfl d_MM_array_230 ?_
    refine o_get (v := .ref (ad 40)) C in_MT hP 33 mw_33 rfl 6 (by decide) k_7_113 rfl rfl d_MM_array_233 ?_
    refine lv_iload_n hx hb d_MM_array_236 rfl (lv_at hl 7 rfl) ?_
    obtain ⟨g32, h⟩ := o_gd_some h
    refine o_iald (f := (MT_first M0)) C hP 40 38 mw_40 rfl g32 d_MM_array_237 ?_
    refine lv_topi (fun x11_238 ex11_238 => ?_)
    replace h := o_nm_at ex11_238 h
    refine lv_istore (lv' := [(11, .int x11_238), (10, .int (0:Int32)), (9, .int (0:Int32)), (8, .int x8_19), (7, .int (1:Int32)), (5, .long x5_4), (0, .ref (ad 0)), (1, .int x1), (2, .int x2), (3, .int x3), (4, .int x4)]) hx hb d_MM_array_238 hl (by decide) rfl (fun ls hl => ?_)
    refine lv_aload_n hx hb d_MM_array_240 rfl (lv_at hl 6 rfl) ?_
    refine o_get (v := .ref (ad 48)) C in_MM hP 0 mw_0 rfl 5 (by decide) k_7_235 rfl rfl d_MM_array_241 ?_
    refine o_get (v := .ref (ad 55)) C in_MT hP 48 mw_48 rfl 6 (by decide) k_7_113 rfl rfl d_MM_array_244 ?_
    refine lv_iload hx hb d_MM_array_247 (lv_at hl 10 rfl) ?_
    obtain ⟨g33, h⟩ := o_gd_some h
    refine o_iald (f := (MT_first M1)) C hP 55 52 mw_55 rfl g33 d_MM_array_249 ?_
    refine lv_topi (fun x12_250 ex12_250 => ?_)
    replace h := o_nm_at ex12_250 h
    refine lv_istore (lv' := [(12, .int x12_250), (11, .int x11_238), (10, .int (0:Int32)), (9, .int (0:Int32)), (8, .int x8_19), (7, .int (1:Int32)), (5, .long x5_4), (0, .ref (ad 0)), (1, .int x1), (2, .int x2), (3, .int x3), (4, .int x4)]) hx hb d_MM_array_250 hl (by decide) rfl (fun ls hl => ?_)
    obtain ⟨q12, hq12, h⟩ := o_bd_some h
    refine o_sim2 (AH := fun zz => o_At p l e (rm_MM_array d) s m _ below meth c _ m_cls D A 15 252 [] (m_cw ad ca ky ty zz.2.2.2.2.2.2.2.2.2.2.2 Ni zz.2.2.2.2.2.2.1 zz.2.2.2.2.2.2.2.1 zz.2.2.2.2.2.2.2.2.1 Nf Na Nh zz.2.2.2.2.2.2.2.2.2.1 zz.2.2.2.2.2.2.2.2.2.2.1 M0 zz.2.2.2.2.2.1) [(0, .ref (ad 0)), (5, .long zz.1), (7, .int zz.2.1), (9, .int zz.2.2.1), (11, .int zz.2.2.2.1), (12, .int zz.2.2.2.2.1)]) (AX := fun qq => o_At p l e (rm_MM_array d) s m _ below meth c _ m_cls D A 15 321 [] (m_cw ad ca ky ty qq.2.2.2.2.2.2.2.2.2.2.2.2 Ni qq.2.2.2.2.2.2.2.1 qq.2.2.2.2.2.2.2.2.1 qq.2.2.2.2.2.2.2.2.2.1 Nf Na Nh qq.2.2.2.2.2.2.2.2.2.2.1 qq.2.2.2.2.2.2.2.2.2.2.2.1 M0 qq.2.2.2.2.2.2.1) [(0, .ref (ad 0)), (5, .long qq.2.1), (7, .int qq.2.2.1)]) (fun zz qq h h0 h1 => f_MM_array_b252 hE hKy C hDD d rec hrec n M0 Na Ni Nf Nh zz qq h h0 h1) n _ q12 hq12 ?_ _ _ _ hP hS (lv_sub hl [7, 6, 5, 3, 1, 0] rfl)
    intro H locs ls hP hS hl
    refine lv_goto (tgt := 620) hx hb d_MM_array_321 (by decide) ?_
    refine lv_aload_n hx hb d_MM_array_620 rfl (lv_at hl 0 rfl) ?_
    refine lv_lload hx hb d_MM_array_621 (lv_at hl 1 rfl) ?_
    refine o_put (v := .long q12.2.1) (ty := .long) (w1 := (m_cw ad ca ky ty q12.2.2.2.2.2.2.2.2.2.2.2.2 Ni q12.2.2.2.2.2.2.2.1 q12.2.2.2.2.2.2.2.2.1 q12.2.2.2.2.2.2.2.2.2.1 Nf Na Nh q12.2.2.2.2.2.2.2.2.2.2.1 (NJ_mk (NJ_judged q12.2.2.2.2.2.2.2.2.2.2.2.1) (NJ_deepest q12.2.2.2.2.2.2.2.2.2.2.2.1) (NJ_depth q12.2.2.2.2.2.2.2.2.2.2.2.1) (NJ_over q12.2.2.2.2.2.2.2.2.2.2.2.1) q12.2.1) M0 q12.2.2.2.2.2.2.1)) C in_MM t_MM t_MM_ok n_MM hP (hDD _ _ _ _ _ _ _ _ _ _ _ _) hS 0 mw_0 rfl 58 (by decide) k_8_48 rfl rfl (by decide +kernel) rfl rfl (Nat.le_of_ble_eq_true rfl) rfl d_MM_array_623 (fun H locs hP hS => ?_)
    refine lv_iload hx hb d_MM_array_626 (lv_at hl 2 rfl) ?_
    obtain ⟨g39, h⟩ := o_gd_some h
    cases h
    exact o_rz C (o_zb_nar g39) hP hS d_MM_array_628
  replace h := o_ff c31 h
  by_cases c40 : x1 = (25:Int32)
  · replace h := o_tt c40 h
    refine lv_lookup (off := 68) (tgt := 96) hx hb d_MM_array_28 (by decide) (by rw [c40]; rfl) (by decide) ?_
    refine lv_iload hx hb d_MM_array_96 (lv_at hl 2 rfl) ?_
    refine lv_aload_n hx hb d_MM_array_98 rfl (lv_at hl 5 rfl) ?_
    refine lv_iload_n hx hb d_MM_array_99 rfl (lv_at hl 7 rfl) ?_
    obtain ⟨q13, hq13, h⟩ := o_bd_some h
    refine o_V (st1 := [.int q13, .int x8_19]) (w1 := (m_cw ad ca ky ty rt Ni Np No Nx Nf Na Nh Nq Nj M0 M1)) hE.1 C (e_MM_intOf hE hKy l n x2 M0 Ni Np No Nx Nf Na Nh Nq Nj M1 rt hq13) hP (hDD _ _ _ _ _ _ _ _ _ _ _ _) hS hl.1 rfl mw_0 k_9_153 k_9_155 k_s_106 k_1_12 k_9_156 hv_MM_intOf rfl rfl ⟨(by dsimp only [rm_MM_array, rm_MM_intOf]; omega), (by dsimp only [rm_MM_array, rm_MM_intOf]; omega)⟩ rfl (Nat.le_of_ble_eq_true rfl) ⟨Nat.zero_le _, Nat.zero_le _⟩ rfl d_MM_array_100 (fun H locs hP hS => ?_)
    refine lv_icmp_gt (tgt := 110) hx hb d_MM_array_103 (by decide) (fun c41 => ?_) (fun c41 => ?_)
    · replace h := o_tt c41 h
      refine lv_iconst (v := (0:Int32)) hx hb d_MM_array_110 (by decide) ?_
      cases h
      exact o_rz (v := (0:Int32)) C o_nar0 hP hS d_MM_array_111
    · replace h := o_ff c41 h
      refine lv_iconst (v := (1:Int32)) hx hb d_MM_array_106 (by decide) ?_
      refine lv_goto (tgt := 111) hx hb d_MM_array_107 (by decide) ?_
      cases h
      exact o_rz (v := (1:Int32)) C o_nar1 hP hS d_MM_array_111
  replace h := o_ff c40 h
  by_cases c42 : x1 = (26:Int32)
  · replace h := o_tt c42 h
    refine lv_lookup (off := 84) (tgt := 112) hx hb d_MM_array_28 (by decide) (by rw [c42]; rfl) (by decide) ?_
    refine lv_iload hx hb d_MM_array_112 (lv_at hl 2 rfl) ?_
    refine lv_aload_n hx hb d_MM_array_114 rfl (lv_at hl 5 rfl) ?_
    refine lv_iload_n hx hb d_MM_array_115 rfl (lv_at hl 7 rfl) ?_
    obtain ⟨q14, hq14, h⟩ := o_bd_some h
    refine o_V (st1 := [.int q14, .int x8_19]) (w1 := (m_cw ad ca ky ty rt Ni Np No Nx Nf Na Nh Nq Nj M0 M1)) hE.1 C (e_MM_intOf hE hKy l n x2 M0 Ni Np No Nx Nf Na Nh Nq Nj M1 rt hq14) hP (hDD _ _ _ _ _ _ _ _ _ _ _ _) hS hl.1 rfl mw_0 k_9_153 k_9_155 k_s_106 k_1_12 k_9_156 hv_MM_intOf rfl rfl ⟨(by dsimp only [rm_MM_array, rm_MM_intOf]; omega), (by dsimp only [rm_MM_array, rm_MM_intOf]; omega)⟩ rfl (Nat.le_of_ble_eq_true rfl) ⟨Nat.zero_le _, Nat.zero_le _⟩ rfl d_MM_array_116 (fun H locs hP hS => ?_)
    refine lv_icmp_lt (tgt := 126) hx hb d_MM_array_119 (by decide) (fun c43 => ?_) (fun c43 => ?_)
    · replace h := o_tt c43 h
      refine lv_iconst (v := (0:Int32)) hx hb d_MM_array_126 (by decide) ?_
      cases h
      exact o_rz (v := (0:Int32)) C o_nar0 hP hS d_MM_array_127
    · replace h := o_ff c43 h
      refine lv_iconst (v := (1:Int32)) hx hb d_MM_array_122 (by decide) ?_
      refine lv_goto (tgt := 127) hx hb d_MM_array_123 (by decide) ?_
      cases h
      exact o_rz (v := (1:Int32)) C o_nar1 hP hS d_MM_array_127
  replace h := o_ff c42 h
  by_cases c44 : x1 = (37:Int32)
  · replace h := o_tt c44 h
    refine lv_lookup (off := 100) (tgt := 128) hx hb d_MM_array_28 (by decide) (by rw [c44]; rfl) (by decide) ?_
    refine lv_aload_n hx hb d_MM_array_128 rfl (lv_at hl 5 rfl) ?_
    refine o_get (v := .ref (ad 33)) C in_MM hP 0 mw_0 rfl 4 (by decide) k_7_234 rfl rfl d_MM_array_129 ?_
    refine o_get (v := .ref (ad 35)) C in_MT hP 33 mw_33 rfl 1 (by decide) k_7_103 rfl rfl d_MM_array_132 ?_
    refine lv_iload_n hx hb d_MM_array_135 rfl (lv_at hl 7 rfl) ?_
    obtain ⟨g45, h⟩ := o_gd_some h
    refine o_iald (f := (MT_kind M0)) C hP 35 33 mw_35 rfl g45 d_MM_array_136 ?_
    refine lv_iconst (v := (1:Int32)) hx hb d_MM_array_137 (by decide) ?_
    refine lv_icmp_ne (tgt := 143) hx hb d_MM_array_138 (by decide) (fun c46 => ?_) (fun c46 => ?_)
    · replace h := o_ff c46 h
      refine lv_aload_n hx hb d_MM_array_143 rfl (lv_at hl 5 rfl) ?_
      refine o_get (v := .ref (ad 48)) C in_MM hP 0 mw_0 rfl 5 (by decide) k_7_235 rfl rfl d_MM_array_144 ?_
      refine o_get (v := .ref (ad 55)) C in_MT hP 48 mw_48 rfl 6 (by decide) k_7_113 rfl rfl d_MM_array_147 ?_
      refine lv_iload hx hb d_MM_array_150 (lv_at hl 9 rfl) ?_
      obtain ⟨g47, h⟩ := o_gd_some h
      refine o_iald (f := (MT_first M1)) C hP 55 52 mw_55 rfl g47 d_MM_array_152 ?_
      refine lv_topi (fun x11_153 ex11_153 => ?_)
      replace h := o_nm_at ex11_153 h
      refine lv_istore (lv' := [(11, .int x11_153), (10, .int (0:Int32)), (9, .int (0:Int32)), (8, .int x8_19), (7, .int (1:Int32)), (5, .long x5_4), (0, .ref (ad 0)), (1, .int x1), (2, .int x2), (3, .int x3), (4, .int x4)]) hx hb d_MM_array_153 hl (by decide) rfl (fun ls hl => ?_)
      obtain ⟨q17, hq17, h⟩ := o_bd_some h
      refine o_sim2 (AH := fun zz => o_At p l e (rm_MM_array d) s m _ below meth c _ m_cls D A 15 155 [] (m_cw ad ca ky ty rt Ni Np No Nx Nf Na Nh Nq Nj M0 M1) [(0, .ref (ad 0)), (11, .int zz)]) (AX := fun qq => if qq.1 = 1 then o_At p l e (rm_MM_array d) s m _ below meth c _ m_cls D A 15 195 [] (m_cw ad ca ky ty rt Ni Np No Nx Nf Na Nh Nq Nj M0 M1) [] else o_At p l e (rm_MM_array d) s m _ below meth c _ m_cls D A 15 227 [] (m_cw ad ca ky ty rt Ni Np No Nx Nf Na Nh Nq Nj M0 M1) []) (fun zz qq h h0 h1 => f_MM_array_b155 hE hKy C hDD d rec hrec n M0 M1 Np No Nx Na Nq Nj rt Ni Nf Nh zz qq h h0 h1) n _ q17 hq17 ?_ _ _ _ hP hS (lv_sub hl [6, 0] rfl)
      by_cases c55 : q17.1 = 1
      · replace h := o_tt c55 h
        refine o_ip c55 ?_
        intro H locs ls hP hS hl
        refine lv_iconst (v := (0:Int32)) hx hb d_MM_array_195 (by decide) ?_
        cases h
        exact o_rz (v := (0:Int32)) C o_nar0 hP hS d_MM_array_196
      replace h := o_ff c55 h
      refine o_in_ c55 ?_
      intro H locs ls hP hS hl
      refine lv_iconst (v := (1:Int32)) hx hb d_MM_array_227 (by decide) ?_
      cases h
      exact o_rz (v := (1:Int32)) C o_nar1 hP hS d_MM_array_228
    · replace h := o_tt c46 h
      refine lv_iconst (v := (1:Int32)) hx hb d_MM_array_141 (by decide) ?_
      cases h
      exact o_rz (v := (1:Int32)) C o_nar1 hP hS d_MM_array_142
  replace h := o_ff c44 h
  refine lv_lookup (off := 590) (tgt := 618) hx hb d_MM_array_28 (by decide) ((lv_osw c2 (by decide)).trans ((lv_osw c17 (by decide)).trans ((lv_osw c27 (by decide)).trans ((lv_osw c31 (by decide)).trans ((lv_osw c40 (by decide)).trans ((lv_osw c42 (by decide)).trans ((lv_osw c44 (by decide)).trans rfl))))))) (by decide) ?_
  refine lv_iconst (v := (1:Int32)) hx hb d_MM_array_618 (by decide) ?_
  cases h
  exact o_rz (v := (1:Int32)) C o_nar1 hP hS d_MM_array_619
