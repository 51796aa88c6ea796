set_option maxHeartbeats 4000000 in
set_option maxRecDepth 100000 in
theorem f_MM_judge_j45 {E : (Nat → Prop) → State → Heap → Prop} {p : Program} {l : Launch} {e : Env} {s : State} {m : MethodId} {args : Array Value} {below : List Frame} {meth : Method} {c : Code} {D : va_G} {ad kd sd vd xd : Nat → Nat} {ca : Nat → ClassId} {A : Nat → Prop} {ky ty : Nat → Option Nat} (hE : o_EK E kd sd vd xd) (hKy : m_KY ky ty sd) (C : o_Cx E p s m args meth c D m_cls (m_tys ca) "SchemaJudgeModel" b_MM_judge (some .boolean) 10 cc_MM_judge A) (hDD : ∀ (rt : Nat) (Ni : SNI) (Np : SNP) (No : SNO) (Nx : SNX) (Nf : SNF) (Na : SNA) (Nh : SNH) (Nq : SNQ) (Nj : SNJ) (M0 : SMT) (M1 : SMT), va_D A (m_cw ad ca ky ty rt Ni Np No Nx Nf Na Nh Nq Nj M0 M1)) (d : Nat) (rec : Int32 → Int32 → SMT → SMT → SNP → SNO → SNX → SNA → SNQ → SNJ → Nat → Option (Int32 × SMT × SNP × SNO × SNX × SNQ × SNJ × Nat)) (hrec : ∀ (x1 : Int32) (x2 : Int32) (M0 : SMT) (M1 : SMT) (Np : SNP) (No : SNO) (Nx : SNX) (Na : SNA) (Nq : SNQ) (Nj : SNJ) (rt : Nat) (Ni : SNI) (Nf : SNF) (Nh : SNH) (r : Int32 × SMT × SNP × SNO × SNX × SNQ × SNJ × Nat), rec x1 x2 M0 M1 Np No Nx Na Nq Nj rt = some r → o_Cn E l D m_cls (m_tys ca) y_MM_judge cc_MM_judge (rm_MM_judge d) [.ref (ad 0), .int x1, .int x2] (m_cw ad ca ky ty rt Ni Np No Nx Nf Na Nh Nq Nj M0 M1) (m_cw ad ca ky ty r.2.2.2.2.2.2.2 Ni r.2.2.1 r.2.2.2.1 r.2.2.2.2.1 Nf Na Nh r.2.2.2.2.2.1 r.2.2.2.2.2.2.1 M0 r.2.1) (some (.int r.1))) (n : Nat)  (M0 : SMT) (M1 : SMT) (Np : SNP) (No : SNO) (Nx : SNX) (Na : SNA) (Nq : SNQ) (Nj : SNJ) (rt : Nat) (Ni : SNI) (Nf : SNF) (Nh : SNH) {r : Int32 × SMT × SNP × SNO × SNX × SNQ × SNJ × Nat} (h : m_MM_judge_j45 n rec M0 M1 Np No Nx Na Nq Nj rt = some r) : o_At p l e (rm_MM_judge (d + 1)) s m args below meth c (MQ below (o_Qx D m_cls (some (.int r.1)) (m_cw ad ca ky ty r.2.2.2.2.2.2.2 Ni r.2.2.1 r.2.2.2.1 r.2.2.2.2.1 Nf Na Nh r.2.2.2.2.2.1 r.2.2.2.2.2.2.1 M0 r.2.1) A) args s 0 0 A) m_cls D A 10 45 [] (m_cw ad ca ky ty rt Ni Np No Nx Nf Na Nh Nq Nj M0 M1) [(0, .ref (ad 0))] := by
  unfold m_MM_judge_j45 at h
  intro H locs ls hP hS hl
  have C0 := C
  obtain ⟨hx, hb, -, -, -, hown, hts, hK, -, -⟩ := C0
  refine lv_aload_n hx hb d_MM_judge_45 rfl (lv_at hl 0 rfl) ?_
  refine lv_iconst (v := (1:Int32)) hx hb d_MM_judge_46 (by decide) ?_
  refine o_put (v := .int (1:Int32)) (ty := .boolean) (w1 := (m_cw ad ca ky ty rt Ni Np No Nx Nf Na Nh Nq (NJ_mk (NJ_judged Nj) (NJ_deepest Nj) (NJ_depth Nj) (1:Int32) (NJ_seen Nj)) M0 M1)) C in_MM t_MM t_MM_ok n_MM hP (hDD _ _ _ _ _ _ _ _ _ _ _ _) hS 0 mw_0 rfl 57 (by decide) k_8_47 rfl rfl (by decide +kernel) rfl rfl (Nat.le_of_ble_eq_true rfl) rfl d_MM_judge_47 (fun H locs hP hS => ?_)
  refine lv_aload_n hx hb d_MM_judge_50 rfl (lv_at hl 0 rfl) ?_
  refine lv_dup hx hb d_MM_judge_51 rfl ?_
  refine o_get (v := .int (NJ_depth Nj)) C in_MM hP 0 mw_0 rfl 56 (by decide) k_8_46 rfl rfl d_MM_judge_52 ?_
  refine lv_iconst (v := (1:Int32)) hx hb d_MM_judge_55 (by decide) ?_
  refine lv_isub hx hb d_MM_judge_56 ?_
  refine o_put (v := .int ((NJ_depth Nj) - (1:Int32))) (ty := .int) (w1 := (m_cw ad ca ky ty rt Ni Np No Nx Nf Na Nh Nq (NJ_mk (NJ_judged Nj) (NJ_deepest Nj) ((NJ_depth Nj) - (1:Int32)) (1:Int32) (NJ_seen Nj)) M0 M1)) C in_MM t_MM t_MM_ok n_MM hP (hDD _ _ _ _ _ _ _ _ _ _ _ _) hS 0 mw_0 rfl 56 (by decide) k_8_46 rfl rfl (by decide +kernel) rfl rfl (Nat.le_of_ble_eq_true rfl) rfl d_MM_judge_57 (fun H locs hP hS => ?_)
  refine lv_iconst (v := (0:Int32)) hx hb d_MM_judge_60 (by decide) ?_
  cases h
  exact o_rz (v := (0:Int32)) C o_nar0 hP hS d_MM_judge_61
set_option maxHeartbeats 4000000 in
set_option maxRecDepth 100000 in
theorem f_MM_judge_j294 {E : (Nat → Prop) → State → Heap → Prop} {p : Program} {l : Launch} {e : Env} {s : State} {m : MethodId} {args : Array Value} {below : List Frame} {meth : Method} {c : Code} {D : va_G} {ad kd sd vd xd : Nat → Nat} {ca : Nat → ClassId} {A : Nat → Prop} {ky ty : Nat → Option Nat} (hE : o_EK E kd sd vd xd) (hKy : m_KY ky ty sd) (C : o_Cx E p s m args meth c D m_cls (m_tys ca) "SchemaJudgeModel" b_MM_judge (some .boolean) 10 cc_MM_judge A) (hDD : ∀ (rt : Nat) (Ni : SNI) (Np : SNP) (No : SNO) (Nx : SNX) (Nf : SNF) (Na : SNA) (Nh : SNH) (Nq : SNQ) (Nj : SNJ) (M0 : SMT) (M1 : SMT), va_D A (m_cw ad ca ky ty rt Ni Np No Nx Nf Na Nh Nq Nj M0 M1)) (d : Nat) (rec : Int32 → Int32 → SMT → SMT → SNP → SNO → SNX → SNA → SNQ → SNJ → Nat → Option (Int32 × SMT × SNP × SNO × SNX × SNQ × SNJ × Nat)) (hrec : ∀ (x1 : Int32) (x2 : Int32) (M0 : SMT) (M1 : SMT) (Np : SNP) (No : SNO) (Nx : SNX) (Na : SNA) (Nq : SNQ) (Nj : SNJ) (rt : Nat) (Ni : SNI) (Nf : SNF) (Nh : SNH) (r : Int32 × SMT × SNP × SNO × SNX × SNQ × SNJ × Nat), rec x1 x2 M0 M1 Np No Nx Na Nq Nj rt = some r → o_Cn E l D m_cls (m_tys ca) y_MM_judge cc_MM_judge (rm_MM_judge d) [.ref (ad 0), .int x1, .int x2] (m_cw ad ca ky ty rt Ni Np No Nx Nf Na Nh Nq Nj M0 M1) (m_cw ad ca ky ty r.2.2.2.2.2.2.2 Ni r.2.2.1 r.2.2.2.1 r.2.2.2.2.1 Nf Na Nh r.2.2.2.2.2.1 r.2.2.2.2.2.2.1 M0 r.2.1) (some (.int r.1))) (n : Nat) (x3 : Int32) (x4 : Int64) (M0 : SMT) (M1 : SMT) (Np : SNP) (No : SNO) (Nx : SNX) (Na : SNA) (Nq : SNQ) (Nj : SNJ) (rt : Nat) (Ni : SNI) (Nf : SNF) (Nh : SNH) {r : Int32 × SMT × SNP × SNO × SNX × SNQ × SNJ × Nat} (h : m_MM_judge_j294 n rec x3 x4 M0 M1 Np No Nx Na Nq Nj rt = some r) : o_At p l e (rm_MM_judge (d + 1)) s m args below meth c (MQ below (o_Qx D m_cls (some (.int r.1)) (m_cw ad ca ky ty r.2.2.2.2.2.2.2 Ni r.2.2.1 r.2.2.2.1 r.2.2.2.2.1 Nf Na Nh r.2.2.2.2.2.1 r.2.2.2.2.2.2.1 M0 r.2.1) A) args s 0 0 A) m_cls D A 10 294 [] (m_cw ad ca ky ty rt Ni Np No Nx Nf Na Nh Nq Nj M0 M1) [(0, .ref (ad 0)), (3, .int x3), (4, .long x4)] := by
  unfold m_MM_judge_j294 at h
  intro H locs ls hP hS hl
  have C0 := C
  obtain ⟨hx, hb, -, -, -, hown, hts, hK, -, -⟩ := C0
  refine lv_aload_n hx hb d_MM_judge_294 rfl (lv_at hl 0 rfl) ?_
  refine lv_lload hx hb d_MM_judge_295 (lv_at hl 2 rfl) ?_
  refine o_put (v := .long x4) (ty := .long) (w1 := (m_cw ad ca ky ty rt Ni Np No Nx Nf Na Nh Nq (NJ_mk (NJ_judged Nj) (NJ_deepest Nj) (NJ_depth Nj) (NJ_over Nj) x4) M0 M1)) C in_MM t_MM t_MM_ok n_MM hP (hDD _ _ _ _ _ _ _ _ _ _ _ _) hS 0 mw_0 rfl 58 (by decide) k_8_48 rfl rfl (by decide +kernel) rfl rfl (Nat.le_of_ble_eq_true rfl) rfl d_MM_judge_297 (fun H locs hP hS => ?_)
  refine lv_aload_n hx hb d_MM_judge_300 rfl (lv_at hl 0 rfl) ?_
  refine lv_dup hx hb d_MM_judge_301 rfl ?_
  refine o_get (v := .int (NJ_depth Nj)) C in_MM hP 0 mw_0 rfl 56 (by decide) k_8_46 rfl rfl d_MM_judge_302 ?_
  refine lv_iconst (v := (1:Int32)) hx hb d_MM_judge_305 (by decide) ?_
  refine lv_isub hx hb d_MM_judge_306 ?_
  refine o_put (v := .int ((NJ_depth Nj) - (1:Int32))) (ty := .int) (w1 := (m_cw ad ca ky ty rt Ni Np No Nx Nf Na Nh Nq (NJ_mk (NJ_judged Nj) (NJ_deepest Nj) ((NJ_depth Nj) - (1:Int32)) (NJ_over Nj) x4) M0 M1)) C in_MM t_MM t_MM_ok n_MM hP (hDD _ _ _ _ _ _ _ _ _ _ _ _) hS 0 mw_0 rfl 56 (by decide) k_8_46 rfl rfl (by decide +kernel) rfl rfl (Nat.le_of_ble_eq_true rfl) rfl d_MM_judge_307 (fun H locs hP hS => ?_)
  refine lv_iload_n hx hb d_MM_judge_310 rfl (lv_at hl 1 rfl) ?_
  refine lv_if_eq (tgt := 325) hx hb d_MM_judge_311 (by decide) (fun c11 => ?_) (fun c11 => ?_)
  · replace h := o_tt c11 h
    refine lv_iconst (v := (0:Int32)) hx hb d_MM_judge_325 (by decide) ?_
    cases h
    exact o_rz (v := (0:Int32)) C o_nar0 hP hS d_MM_judge_326
  · replace h := o_ff c11 h
    refine lv_aload_n hx hb d_MM_judge_314 rfl (lv_at hl 0 rfl) ?_
    refine o_get (v := .int (NJ_over Nj)) C in_MM hP 0 mw_0 rfl 57 (by decide) k_8_47 rfl rfl d_MM_judge_315 ?_
    refine lv_if_ne (tgt := 325) hx hb d_MM_judge_318 (by decide) (fun c12 => ?_) (fun c12 => ?_)
    · replace h := o_ff c12 h
      refine lv_iconst (v := (0:Int32)) hx hb d_MM_judge_325 (by decide) ?_
      cases h
      exact o_rz (v := (0:Int32)) C o_nar0 hP hS d_MM_judge_326
    · replace h := o_tt c12 h
      refine lv_iconst (v := (1:Int32)) hx hb d_MM_judge_321 (by decide) ?_
      refine lv_goto (tgt := 326) hx hb d_MM_judge_322 (by decide) ?_
      cases h
      exact o_rz (v := (1:Int32)) C o_nar1 hP hS d_MM_judge_326
set_option maxHeartbeats 4000000 in
set_option maxRecDepth 100000 in
theorem f_MM_judge_j273 {E : (Nat → Prop) → State → Heap → Prop} {p : Program} {l : Launch} {e : Env} {s : State} {m : MethodId} {args : Array Value} {below : List Frame} {meth : Method} {c : Code} {D : va_G} {ad kd sd vd xd : Nat → Nat} {ca : Nat → ClassId} {A : Nat → Prop} {ky ty : Nat → Option Nat} {Q : State → Prop} (hE : o_EK E kd sd vd xd) (hKy : m_KY ky ty sd) (C : o_Cx E p s m args meth c D m_cls (m_tys ca) "SchemaJudgeModel" b_MM_judge (some .boolean) 10 cc_MM_judge A) (hDD : ∀ (rt : Nat) (Ni : SNI) (Np : SNP) (No : SNO) (Nx : SNX) (Nf : SNF) (Na : SNA) (Nh : SNH) (Nq : SNQ) (Nj : SNJ) (M0 : SMT) (M1 : SMT), va_D A (m_cw ad ca ky ty rt Ni Np No Nx Nf Na Nh Nq Nj M0 M1)) (d : Nat) (rec : Int32 → Int32 → SMT → SMT → SNP → SNO → SNX → SNA → SNQ → SNJ → Nat → Option (Int32 × SMT × SNP × SNO × SNX × SNQ × SNJ × Nat)) (hrec : ∀ (x1 : Int32) (x2 : Int32) (M0 : SMT) (M1 : SMT) (Np : SNP) (No : SNO) (Nx : SNX) (Na : SNA) (Nq : SNQ) (Nj : SNJ) (rt : Nat) (Ni : SNI) (Nf : SNF) (Nh : SNH) (r : Int32 × SMT × SNP × SNO × SNX × SNQ × SNJ × Nat), rec x1 x2 M0 M1 Np No Nx Na Nq Nj rt = some r → o_Cn E l D m_cls (m_tys ca) y_MM_judge cc_MM_judge (rm_MM_judge d) [.ref (ad 0), .int x1, .int x2] (m_cw ad ca ky ty rt Ni Np No Nx Nf Na Nh Nq Nj M0 M1) (m_cw ad ca ky ty r.2.2.2.2.2.2.2 Ni r.2.2.1 r.2.2.2.1 r.2.2.2.2.1 Nf Na Nh r.2.2.2.2.2.1 r.2.2.2.2.2.2.1 M0 r.2.1) (some (.int r.1))) (n : Nat) (u161_x1 : Int32) (u161_x2 : Int32) (u161_x6 : Int32) (u161_M0 : SMT) (u161_Na : SNA) (u161_Ni : SNI) (u161_Nf : SNF) (u161_Nh : SNH) (x3 : Int32) (x4 : Int64) (x7 : Int32) (M1 : SMT) (Np : SNP) (No : SNO) (Nx : SNX) (Nq : SNQ) (Nj : SNJ) (rt : Nat) {q : Nat × Int32 × Int64 × Int32 × SMT × SNP × SNO × SNX × SNQ × SNJ × Nat} (h : m_MM_judge_j273 n rec u161_x1 u161_x2 x3 x4 u161_x6 x7 u161_M0 M1 Np No Nx u161_Na Nq Nj rt = some q) (h0 : q.1 = 0 → o_At p l e (rm_MM_judge (d + 1)) s m args below meth c Q m_cls D A 10 161 [] (m_cw ad ca ky ty q.2.2.2.2.2.2.2.2.2.2 u161_Ni q.2.2.2.2.2.1 q.2.2.2.2.2.2.1 q.2.2.2.2.2.2.2.1 u161_Nf u161_Na u161_Nh q.2.2.2.2.2.2.2.2.1 q.2.2.2.2.2.2.2.2.2.1 u161_M0 q.2.2.2.2.1) [(0, .ref (ad 0)), (1, .int u161_x1), (2, .int u161_x2), (3, .int q.2.1), (4, .long q.2.2.1), (6, .int u161_x6), (7, .int q.2.2.2.1)]) (h1 : q.1 ≠ 0 → (o_At p l e (rm_MM_judge (d + 1)) s m args below meth c Q m_cls D A 10 288 [] (m_cw ad ca ky ty q.2.2.2.2.2.2.2.2.2.2 u161_Ni q.2.2.2.2.2.1 q.2.2.2.2.2.2.1 q.2.2.2.2.2.2.2.1 u161_Nf u161_Na u161_Nh q.2.2.2.2.2.2.2.2.1 q.2.2.2.2.2.2.2.2.2.1 u161_M0 q.2.2.2.2.1) [(0, .ref (ad 0)), (1, .int u161_x1), (2, .int u161_x2), (3, .int q.2.1), (4, .long q.2.2.1), (6, .int u161_x6)])) : o_At p l e (rm_MM_judge (d + 1)) s m args below meth c Q m_cls D A 10 273 [] (m_cw ad ca ky ty rt u161_Ni Np No Nx u161_Nf u161_Na u161_Nh Nq Nj u161_M0 M1) [(0, .ref (ad 0)), (1, .int u161_x1), (2, .int u161_x2), (3, .int x3), (4, .long x4), (6, .int u161_x6), (7, .int x7)] := by
  unfold m_MM_judge_j273 at h
  intro H locs ls hP hS hl
  have C0 := C
  obtain ⟨hx, hb, -, -, -, hown, hts, hK, -, -⟩ := C0
  refine lv_aload_n hx hb d_MM_judge_273 rfl (lv_at hl 0 rfl) ?_
  refine o_get (v := .ref (ad 33)) C in_MM hP 0 mw_0 rfl 4 (by decide) k_7_234 rfl rfl d_MM_judge_274 ?_
  refine o_get (v := .ref (ad 41)) C in_MT hP 33 mw_33 rfl 7 (by decide) k_7_115 rfl rfl d_MM_judge_277 ?_
  refine lv_iload hx hb d_MM_judge_280 (lv_at hl 6 rfl) ?_
  obtain ⟨g19, h⟩ := o_gd_some h
  refine o_iald (f := (MT_next u161_M0)) C hP 41 39 mw_41 rfl g19 d_MM_judge_282 ?_
  refine lv_topi (fun x7_283 ex7_283 => ?_)
  replace h := o_nm_at ex7_283 h
  refine lv_istore (lv' := [(7, .int x7_283), (0, .ref (ad 0)), (1, .int u161_x1), (2, .int u161_x2), (3, .int x3), (4, .long x4), (6, .int u161_x6)]) hx hb d_MM_judge_283 hl (by decide) rfl (fun ls hl => ?_)
  refine lv_goto (tgt := 161) hx hb d_MM_judge_285 (by decide) ?_
  cases h
  exact h0 rfl _ _ _ hP hS (lv_sub hl [1, 2, 3, 4, 5, 6, 0] rfl)
set_option maxHeartbeats 4000000 in
set_option maxRecDepth 100000 in
theorem f_MM_judge_j217 {E : (Nat → Prop) → State → Heap → Prop} {p : Program} {l : Launch} {e : Env} {s : State} {m : MethodId} {args : Array Value} {below : List Frame} {meth : Method} {c : Code} {D : va_G} {ad kd sd vd xd : Nat → Nat} {ca : Nat → ClassId} {A : Nat → Prop} {ky ty : Nat → Option Nat} {Q : State → Prop} (hE : o_EK E kd sd vd xd) (hKy : m_KY ky ty sd) (C : o_Cx E p s m args meth c D m_cls (m_tys ca) "SchemaJudgeModel" b_MM_judge (some .boolean) 10 cc_MM_judge A) (hDD : ∀ (rt : Nat) (Ni : SNI) (Np : SNP) (No : SNO) (Nx : SNX) (Nf : SNF) (Na : SNA) (Nh : SNH) (Nq : SNQ) (Nj : SNJ) (M0 : SMT) (M1 : SMT), va_D A (m_cw ad ca ky ty rt Ni Np No Nx Nf Na Nh Nq Nj M0 M1)) (d : Nat) (rec : Int32 → Int32 → SMT → SMT → SNP → SNO → SNX → SNA → SNQ → SNJ → Nat → Option (Int32 × SMT × SNP × SNO × SNX × SNQ × SNJ × Nat)) (hrec : ∀ (x1 : Int32) (x2 : Int32) (M0 : SMT) (M1 : SMT) (Np : SNP) (No : SNO) (Nx : SNX) (Na : SNA) (Nq : SNQ) (Nj : SNJ) (rt : Nat) (Ni : SNI) (Nf : SNF) (Nh : SNH) (r : Int32 × SMT × SNP × SNO × SNX × SNQ × SNJ × Nat), rec x1 x2 M0 M1 Np No Nx Na Nq Nj rt = some r → o_Cn E l D m_cls (m_tys ca) y_MM_judge cc_MM_judge (rm_MM_judge d) [.ref (ad 0), .int x1, .int x2] (m_cw ad ca ky ty rt Ni Np No Nx Nf Na Nh Nq Nj M0 M1) (m_cw ad ca ky ty r.2.2.2.2.2.2.2 Ni r.2.2.1 r.2.2.2.1 r.2.2.2.2.1 Nf Na Nh r.2.2.2.2.2.1 r.2.2.2.2.2.2.1 M0 r.2.1) (some (.int r.1))) (n : Nat) (u161_x1 : Int32) (u161_x2 : Int32) (u161_x6 : Int32) (u161_M0 : SMT) (u161_Na : SNA) (u161_Ni : SNI) (u161_Nf : SNF) (u161_Nh : SNH) (x3 : Int32) (x4 : Int64) (x7 : Int32) (x8 : Int32) (y0 : Int32) (y1 : Int32) (M1 : SMT) (Np : SNP) (No : SNO) (Nx : SNX) (Nq : SNQ) (Nj : SNJ) (rt : Nat) {q : Nat × Int32 × Int64 × Int32 × SMT × SNP × SNO × SNX × SNQ × SNJ × Nat} (h : m_MM_judge_j217 n rec u161_x1 u161_x2 x3 x4 u161_x6 x7 x8 y0 y1 u161_M0 M1 Np No Nx u161_Na Nq Nj rt = some q) (h0 : q.1 = 0 → o_At p l e (rm_MM_judge (d + 1)) s m args below meth c Q m_cls D A 10 161 [] (m_cw ad ca ky ty q.2.2.2.2.2.2.2.2.2.2 u161_Ni q.2.2.2.2.2.1 q.2.2.2.2.2.2.1 q.2.2.2.2.2.2.2.1 u161_Nf u161_Na u161_Nh q.2.2.2.2.2.2.2.2.1 q.2.2.2.2.2.2.2.2.2.1 u161_M0 q.2.2.2.2.1) [(0, .ref (ad 0)), (1, .int u161_x1), (2, .int u161_x2), (3, .int q.2.1), (4, .long q.2.2.1), (6, .int u161_x6), (7, .int q.2.2.2.1)]) (h1 : q.1 ≠ 0 → (o_At p l e (rm_MM_judge (d + 1)) s m args below meth c Q m_cls D A 10 288 [] (m_cw ad ca ky ty q.2.2.2.2.2.2.2.2.2.2 u161_Ni q.2.2.2.2.2.1 q.2.2.2.2.2.2.1 q.2.2.2.2.2.2.2.1 u161_Nf u161_Na u161_Nh q.2.2.2.2.2.2.2.2.1 q.2.2.2.2.2.2.2.2.2.1 u161_M0 q.2.2.2.2.1) [(0, .ref (ad 0)), (1, .int u161_x1), (2, .int u161_x2), (3, .int q.2.1), (4, .long q.2.2.1), (6, .int u161_x6)])) : o_At p l e (rm_MM_judge (d + 1)) s m args below meth c Q m_cls D A 10 217 [.int y1, .int y0] (m_cw ad ca ky ty rt u161_Ni Np No Nx u161_Nf u161_Na u161_Nh Nq Nj u161_M0 M1) [(0, .ref (ad 0)), (1, .int u161_x1), (2, .int u161_x2), (3, .int x3), (4, .long x4), (6, .int u161_x6), (7, .int x7), (8, .int x8)] := by
  unfold m_MM_judge_j217 at h
  intro H locs ls hP hS hl
  have C0 := C
  obtain ⟨hx, hb, -, -, -, hown, hts, hK, -, -⟩ := C0
  refine lv_icmp_eq (tgt := 223) hx hb d_MM_judge_217 (by decide) (fun c22 => ?_) (fun c22 => ?_)
  · replace h := o_tt c22 h
    refine lv_aload_n hx hb d_MM_judge_223 rfl (lv_at hl 0 rfl) ?_
    refine lv_lload hx hb d_MM_judge_224 (lv_at hl 4 rfl) ?_
    refine o_put (v := .long x4) (ty := .long) (w1 := (m_cw ad ca ky ty rt u161_Ni Np No Nx u161_Nf u161_Na u161_Nh Nq (NJ_mk (NJ_judged Nj) (NJ_deepest Nj) (NJ_depth Nj) (NJ_over Nj) x4) u161_M0 M1)) C in_MM t_MM t_MM_ok n_MM hP (hDD _ _ _ _ _ _ _ _ _ _ _ _) hS 0 mw_0 rfl 58 (by decide) k_8_48 rfl rfl (by decide +kernel) rfl rfl (Nat.le_of_ble_eq_true rfl) rfl d_MM_judge_226 (fun H locs hP hS => ?_)
    refine lv_aload_n hx hb d_MM_judge_229 rfl (lv_at hl 0 rfl) ?_
    refine lv_iload hx hb d_MM_judge_230 (lv_at hl 7 rfl) ?_
    refine lv_iload hx hb d_MM_judge_232 (lv_at hl 6 rfl) ?_
    refine lv_iload_n hx hb d_MM_judge_234 rfl (lv_at hl 1 rfl) ?_
    refine lv_iload_n hx hb d_MM_judge_235 rfl (lv_at hl 2 rfl) ?_
    obtain ⟨q1, hq1, h⟩ := o_bd_some h
    refine o_V (st1 := [.int q1.1]) (w1 := (m_cw ad ca ky ty q1.2.2.2.2.2.2.2 u161_Ni q1.2.2.1 q1.2.2.2.1 q1.2.2.2.2.1 u161_Nf u161_Na u161_Nh q1.2.2.2.2.2.1 q1.2.2.2.2.2.2.1 u161_M0 q1.2.1)) hE.1 C (e_MM_asks hE hKy l n d rec hrec x8 x7 u161_x1 u161_x2 u161_M0 M1 Np No Nx u161_Na Nq (NJ_mk (NJ_judged Nj) (NJ_deepest Nj) (NJ_depth Nj) (NJ_over Nj) x4) rt u161_Ni u161_Nf u161_Nh hq1) hP (hDD _ _ _ _ _ _ _ _ _ _ _ _) hS hl.1 rfl mw_0 k_9_218 k_9_220 k_s_118 k_1_12 k_9_221 hv_MM_asks rfl rfl ⟨(by dsimp only [rm_MM_judge, rm_MM_asks]; omega), (by dsimp only [rm_MM_judge, rm_MM_asks]; omega)⟩ rfl (Nat.le_of_ble_eq_true rfl) ⟨Nat.zero_le _, Nat.zero_le _⟩ rfl d_MM_judge_236 (fun H locs hP hS => ?_)
    refine lv_istore (lv' := [(9, .int q1.1), (0, .ref (ad 0)), (1, .int u161_x1), (2, .int u161_x2), (3, .int x3), (4, .long x4), (6, .int u161_x6), (7, .int x7), (8, .int x8)]) hx hb d_MM_judge_239 hl (by decide) rfl (fun ls hl => ?_)
    refine lv_lload hx hb d_MM_judge_241 (lv_at hl 5 rfl) ?_
    refine lv_aload_n hx hb d_MM_judge_243 rfl (lv_at hl 1 rfl) ?_
    refine o_get (v := .long (NJ_seen q1.2.2.2.2.2.2.1)) C in_MM hP 0 mw_0 rfl 58 (by decide) k_8_48 rfl rfl d_MM_judge_244 ?_
    refine lv_lor hx hb d_MM_judge_247 ?_
    refine lv_topl (fun x4_248 ex4_248 => ?_)
    replace h := o_nm_at ex4_248 h
    refine lv_lstore (lv' := [(4, .long x4_248), (9, .int q1.1), (0, .ref (ad 0)), (1, .int u161_x1), (2, .int u161_x2), (3, .int x3), (6, .int u161_x6), (7, .int x7), (8, .int x8)]) hx hb d_MM_judge_248 hl (by decide) rfl (fun ls hl => ?_)
    refine lv_iload hx hb d_MM_judge_250 (lv_at hl 1 rfl) ?_
    refine lv_if_eq (tgt := 258) hx hb d_MM_judge_252 (by decide) (fun c23 => ?_) (fun c23 => ?_)
    · replace h := o_tt c23 h
      refine lv_iconst (v := (0:Int32)) hx hb d_MM_judge_258 (by decide) ?_
      refine lv_istore_n (lv' := [(3, .int (0:Int32)), (4, .long x4_248), (9, .int q1.1), (0, .ref (ad 0)), (1, .int u161_x1), (2, .int u161_x2), (6, .int u161_x6), (7, .int x7), (8, .int x8)]) hx hb d_MM_judge_259 rfl hl (by decide) rfl (fun ls hl => ?_)
      refine lv_iload hx hb d_MM_judge_260 (lv_at hl 8 rfl) ?_
      refine lv_iconst (v := (1:Int32)) hx hb d_MM_judge_262 (by decide) ?_
      refine lv_icmp_eq (tgt := 273) hx hb d_MM_judge_263 (by decide) (fun c24 => ?_) (fun c24 => ?_)
      · replace h := o_tt c24 h
        exact f_MM_judge_j273 hE hKy C hDD d rec hrec n u161_x1 u161_x2 u161_x6 u161_M0 u161_Na u161_Ni u161_Nf u161_Nh (0:Int32) x4_248 x7 q1.2.1 q1.2.2.1 q1.2.2.2.1 q1.2.2.2.2.1 q1.2.2.2.2.2.1 q1.2.2.2.2.2.2.1 q1.2.2.2.2.2.2.2 h h0 h1 _ _ _ hP hS (lv_sub hl [3, 4, 5, 0, 1, 6, 7] rfl)
      · replace h := o_ff c24 h
        refine lv_aload_n hx hb d_MM_judge_266 rfl (lv_at hl 3 rfl) ?_
        refine lv_iload_n hx hb d_MM_judge_267 rfl (lv_at hl 5 rfl) ?_
        refine lv_iload hx hb d_MM_judge_268 (lv_at hl 7 rfl) ?_
        obtain ⟨q2, hq2, h⟩ := o_bd_some h
        refine o_V (st1 := []) (w1 := (m_cw ad ca ky ty q1.2.2.2.2.2.2.2 u161_Ni q1.2.2.1 q1.2.2.2.1 q1.2.2.2.2.1 u161_Nf u161_Na u161_Nh q2 q1.2.2.2.2.2.2.1 u161_M0 q1.2.1)) hE.1 C (e_MM_pair hE hKy l u161_x2 x7 q1.2.2.2.2.2.1 u161_Ni q1.2.2.1 q1.2.2.2.1 q1.2.2.2.2.1 u161_Nf u161_Na u161_Nh q1.2.2.2.2.2.2.1 u161_M0 q1.2.1 q1.2.2.2.2.2.2.2 hq2) hP (hDD _ _ _ _ _ _ _ _ _ _ _ _) hS hl.1 rfl mw_0 k_9_214 k_9_216 k_s_117 k_1_12 k_9_217 hv_MM_pair rfl rfl ⟨(by dsimp only [rm_MM_judge, rm_MM_pair]; omega), (by dsimp only [rm_MM_judge, rm_MM_pair]; omega)⟩ rfl (Nat.le_of_ble_eq_true rfl) ⟨Nat.zero_le _, Nat.zero_le _⟩ rfl d_MM_judge_270 (fun H locs hP hS => ?_)
        exact f_MM_judge_j273 hE hKy C hDD d rec hrec n u161_x1 u161_x2 u161_x6 u161_M0 u161_Na u161_Ni u161_Nf u161_Nh (0:Int32) x4_248 x7 q1.2.1 q1.2.2.1 q1.2.2.2.1 q1.2.2.2.2.1 q2 q1.2.2.2.2.2.2.1 q1.2.2.2.2.2.2.2 h h0 h1 _ _ _ hP hS (lv_sub hl [3, 4, 5, 0, 1, 6, 7] rfl)
    · replace h := o_ff c23 h
      refine lv_goto (tgt := 273) hx hb d_MM_judge_255 (by decide) ?_
      exact f_MM_judge_j273 hE hKy C hDD d rec hrec n u161_x1 u161_x2 u161_x6 u161_M0 u161_Na u161_Ni u161_Nf u161_Nh x3 x4_248 x7 q1.2.1 q1.2.2.1 q1.2.2.2.1 q1.2.2.2.2.1 q1.2.2.2.2.2.1 q1.2.2.2.2.2.2.1 q1.2.2.2.2.2.2.2 h h0 h1 _ _ _ hP hS (lv_sub hl [2, 3, 4, 5, 0, 6, 7] rfl)
  · replace h := o_ff c22 h
    refine lv_goto (tgt := 273) hx hb d_MM_judge_220 (by decide) ?_
    exact f_MM_judge_j273 hE hKy C hDD d rec hrec n u161_x1 u161_x2 u161_x6 u161_M0 u161_Na u161_Ni u161_Nf u161_Nh x3 x4 x7 M1 Np No Nx Nq Nj rt h h0 h1 _ _ _ hP hS (lv_sub hl [0, 1, 2, 3, 4, 5, 6] rfl)
set_option maxHeartbeats 4000000 in
set_option maxRecDepth 100000 in
theorem f_MM_judge_j206 {E : (Nat → Prop) → State → Heap → Prop} {p : Program} {l : Launch} {e : Env} {s : State} {m : MethodId} {args : Array Value} {below : List Frame} {meth : Method} {c : Code} {D : va_G} {ad kd sd vd xd : Nat → Nat} {ca : Nat → ClassId} {A : Nat → Prop} {ky ty : Nat → Option Nat} {Q : State → Prop} (hE : o_EK E kd sd vd xd) (hKy : m_KY ky ty sd) (C : o_Cx E p s m args meth c D m_cls (m_tys ca) "SchemaJudgeModel" b_MM_judge (some .boolean) 10 cc_MM_judge A) (hDD : ∀ (rt : Nat) (Ni : SNI) (Np : SNP) (No : SNO) (Nx : SNX) (Nf : SNF) (Na : SNA) (Nh : SNH) (Nq : SNQ) (Nj : SNJ) (M0 : SMT) (M1 : SMT), va_D A (m_cw ad ca ky ty rt Ni Np No Nx Nf Na Nh Nq Nj M0 M1)) (d : Nat) (rec : Int32 → Int32 → SMT → SMT → SNP → SNO → SNX → SNA → SNQ → SNJ → Nat → Option (Int32 × SMT × SNP × SNO × SNX × SNQ × SNJ × Nat)) (hrec : ∀ (x1 : Int32) (x2 : Int32) (M0 : SMT) (M1 : SMT) (Np : SNP) (No : SNO) (Nx : SNX) (Na : SNA) (Nq : SNQ) (Nj : SNJ) (rt : Nat) (Ni : SNI) (Nf : SNF) (Nh : SNH) (r : Int32 × SMT × SNP × SNO × SNX × SNQ × SNJ × Nat), rec x1 x2 M0 M1 Np No Nx Na Nq Nj rt = some r → o_Cn E l D m_cls (m_tys ca) y_MM_judge cc_MM_judge (rm_MM_judge d) [.ref (ad 0), .int x1, .int x2] (m_cw ad ca ky ty rt Ni Np No Nx Nf Na Nh Nq Nj M0 M1) (m_cw ad ca ky ty r.2.2.2.2.2.2.2 Ni r.2.2.1 r.2.2.2.1 r.2.2.2.2.1 Nf Na Nh r.2.2.2.2.2.1 r.2.2.2.2.2.2.1 M0 r.2.1) (some (.int r.1))) (n : Nat) (u161_x1 : Int32) (u161_x2 : Int32) (u161_x6 : Int32) (u161_M0 : SMT) (u161_Na : SNA) (u161_Ni : SNI) (u161_Nf : SNF) (u161_Nh : SNH) (x3 : Int32) (x4 : Int64) (x7 : Int32) (x8 : Int32) (y0 : Int32) (M1 : SMT) (Np : SNP) (No : SNO) (Nx : SNX) (Nq : SNQ) (Nj : SNJ) (rt : Nat) {q : Nat × Int32 × Int64 × Int32 × SMT × SNP × SNO × SNX × SNQ × SNJ × Nat} (h : m_MM_judge_j206 n rec u161_x1 u161_x2 x3 x4 u161_x6 x7 x8 y0 u161_M0 M1 Np No Nx u161_Na Nq Nj rt = some q) (h0 : q.1 = 0 → o_At p l e (rm_MM_judge (d + 1)) s m args below meth c Q m_cls D A 10 161 [] (m_cw ad ca ky ty q.2.2.2.2.2.2.2.2.2.2 u161_Ni q.2.2.2.2.2.1 q.2.2.2.2.2.2.1 q.2.2.2.2.2.2.2.1 u161_Nf u161_Na u161_Nh q.2.2.2.2.2.2.2.2.1 q.2.2.2.2.2.2.2.2.2.1 u161_M0 q.2.2.2.2.1) [(0, .ref (ad 0)), (1, .int u161_x1), (2, .int u161_x2), (3, .int q.2.1), (4, .long q.2.2.1), (6, .int u161_x6), (7, .int q.2.2.2.1)]) (h1 : q.1 ≠ 0 → (o_At p l e (rm_MM_judge (d + 1)) s m args below meth c Q m_cls D A 10 288 [] (m_cw ad ca ky ty q.2.2.2.2.2.2.2.2.2.2 u161_Ni q.2.2.2.2.2.1 q.2.2.2.2.2.2.1 q.2.2.2.2.2.2.2.1 u161_Nf u161_Na u161_Nh q.2.2.2.2.2.2.2.2.1 q.2.2.2.2.2.2.2.2.2.1 u161_M0 q.2.2.2.2.1) [(0, .ref (ad 0)), (1, .int u161_x1), (2, .int u161_x2), (3, .int q.2.1), (4, .long q.2.2.1), (6, .int u161_x6)])) : o_At p l e (rm_MM_judge (d + 1)) s m args below meth c Q m_cls D A 10 206 [.int y0] (m_cw ad ca ky ty rt u161_Ni Np No Nx u161_Nf u161_Na u161_Nh Nq Nj u161_M0 M1) [(0, .ref (ad 0)), (1, .int u161_x1), (2, .int u161_x2), (3, .int x3), (4, .long x4), (6, .int u161_x6), (7, .int x7), (8, .int x8)] := by
  unfold m_MM_judge_j206 at h
  intro H locs ls hP hS hl
  have C0 := C
  obtain ⟨hx, hb, -, -, -, hown, hts, hK, -, -⟩ := C0
  refine lv_iload hx hb d_MM_judge_206 (lv_at hl 5 rfl) ?_
  refine lv_iconst (v := (1:Int32)) hx hb d_MM_judge_208 (by decide) ?_
  refine lv_icmp_ne (tgt := 216) hx hb d_MM_judge_209 (by decide) (fun c21 => ?_) (fun c21 => ?_)
  · replace h := o_ff c21 h
    refine lv_iconst (v := (0:Int32)) hx hb d_MM_judge_216 (by decide) ?_
    exact f_MM_judge_j217 hE hKy C hDD d rec hrec n u161_x1 u161_x2 u161_x6 u161_M0 u161_Na u161_Ni u161_Nf u161_Nh x3 x4 x7 x8 y0 (0:Int32) M1 Np No Nx Nq Nj rt h h0 h1 _ _ _ hP hS (lv_sub hl [0, 1, 2, 3, 4, 5, 6, 7] rfl)
  · replace h := o_tt c21 h
    refine lv_iconst (v := (1:Int32)) hx hb d_MM_judge_212 (by decide) ?_
    refine lv_goto (tgt := 217) hx hb d_MM_judge_213 (by decide) ?_
    exact f_MM_judge_j217 hE hKy C hDD d rec hrec n u161_x1 u161_x2 u161_x6 u161_M0 u161_Na u161_Ni u161_Nf u161_Nh x3 x4 x7 x8 y0 (1:Int32) M1 Np No Nx Nq Nj rt h h0 h1 _ _ _ hP hS (lv_sub hl [0, 1, 2, 3, 4, 5, 6, 7] rfl)
set_option maxHeartbeats 4000000 in
set_option maxRecDepth 100000 in
theorem f_MM_judge_b161 {E : (Nat → Prop) → State → Heap → Prop} {p : Program} {l : Launch} {e : Env} {s : State} {m : MethodId} {args : Array Value} {below : List Frame} {meth : Method} {c : Code} {D : va_G} {ad kd sd vd xd : Nat → Nat} {ca : Nat → ClassId} {A : Nat → Prop} {ky ty : Nat → Option Nat} {Q : State → Prop} (hE : o_EK E kd sd vd xd) (hKy : m_KY ky ty sd) (C : o_Cx E p s m args meth c D m_cls (m_tys ca) "SchemaJudgeModel" b_MM_judge (some .boolean) 10 cc_MM_judge A) (hDD : ∀ (rt : Nat) (Ni : SNI) (Np : SNP) (No : SNO) (Nx : SNX) (Nf : SNF) (Na : SNA) (Nh : SNH) (Nq : SNQ) (Nj : SNJ) (M0 : SMT) (M1 : SMT), va_D A (m_cw ad ca ky ty rt Ni Np No Nx Nf Na Nh Nq Nj M0 M1)) (d : Nat) (rec : Int32 → Int32 → SMT → SMT → SNP → SNO → SNX → SNA → SNQ → SNJ → Nat → Option (Int32 × SMT × SNP × SNO × SNX × SNQ × SNJ × Nat)) (hrec : ∀ (x1 : Int32) (x2 : Int32) (M0 : SMT) (M1 : SMT) (Np : SNP) (No : SNO) (Nx : SNX) (Na : SNA) (Nq : SNQ) (Nj : SNJ) (rt : Nat) (Ni : SNI) (Nf : SNF) (Nh : SNH) (r : Int32 × SMT × SNP × SNO × SNX × SNQ × SNJ × Nat), rec x1 x2 M0 M1 Np No Nx Na Nq Nj rt = some r → o_Cn E l D m_cls (m_tys ca) y_MM_judge cc_MM_judge (rm_MM_judge d) [.ref (ad 0), .int x1, .int x2] (m_cw ad ca ky ty rt Ni Np No Nx Nf Na Nh Nq Nj M0 M1) (m_cw ad ca ky ty r.2.2.2.2.2.2.2 Ni r.2.2.1 r.2.2.2.1 r.2.2.2.2.1 Nf Na Nh r.2.2.2.2.2.1 r.2.2.2.2.2.2.1 M0 r.2.1) (some (.int r.1))) (n : Nat) (u161_x1 : Int32) (u161_x2 : Int32) (u161_x6 : Int32) (u161_M0 : SMT) (u161_Na : SNA) (u161_Ni : SNI) (u161_Nf : SNF) (u161_Nh : SNH) (z : Int32 × Int64 × Int32 × SMT × SNP × SNO × SNX × SNQ × SNJ × Nat) (q : Nat × Int32 × Int64 × Int32 × SMT × SNP × SNO × SNX × SNQ × SNJ × Nat) (h : m_MM_judge_b161 n rec u161_x1 u161_x2 u161_x6 u161_M0 u161_Na z = some q) (h0 : q.1 = 0 → o_At p l e (rm_MM_judge (d + 1)) s m args below meth c Q m_cls D A 10 161 [] (m_cw ad ca ky ty q.2.2.2.2.2.2.2.2.2.2 u161_Ni q.2.2.2.2.2.1 q.2.2.2.2.2.2.1 q.2.2.2.2.2.2.2.1 u161_Nf u161_Na u161_Nh q.2.2.2.2.2.2.2.2.1 q.2.2.2.2.2.2.2.2.2.1 u161_M0 q.2.2.2.2.1) [(0, .ref (ad 0)), (1, .int u161_x1), (2, .int u161_x2), (3, .int q.2.1), (4, .long q.2.2.1), (6, .int u161_x6), (7, .int q.2.2.2.1)]) (h1 : q.1 ≠ 0 → (o_At p l e (rm_MM_judge (d + 1)) s m args below meth c Q m_cls D A 10 288 [] (m_cw ad ca ky ty q.2.2.2.2.2.2.2.2.2.2 u161_Ni q.2.2.2.2.2.1 q.2.2.2.2.2.2.1 q.2.2.2.2.2.2.2.1 u161_Nf u161_Na u161_Nh q.2.2.2.2.2.2.2.2.1 q.2.2.2.2.2.2.2.2.2.1 u161_M0 q.2.2.2.2.1) [(0, .ref (ad 0)), (1, .int u161_x1), (2, .int u161_x2), (3, .int q.2.1), (4, .long q.2.2.1), (6, .int u161_x6)])) : o_At p l e (rm_MM_judge (d + 1)) s m args below meth c Q m_cls D A 10 161 [] (m_cw ad ca ky ty z.2.2.2.2.2.2.2.2.2 u161_Ni z.2.2.2.2.1 z.2.2.2.2.2.1 z.2.2.2.2.2.2.1 u161_Nf u161_Na u161_Nh z.2.2.2.2.2.2.2.1 z.2.2.2.2.2.2.2.2.1 u161_M0 z.2.2.2.1) [(0, .ref (ad 0)), (1, .int u161_x1), (2, .int u161_x2), (3, .int z.1), (4, .long z.2.1), (6, .int u161_x6), (7, .int z.2.2.1)] := by
  unfold m_MM_judge_b161 at h
  intro H locs ls hP hS hl
  have C0 := C
  obtain ⟨hx, hb, -, -, -, hown, hts, hK, -, -⟩ := C0
  refine lv_iload hx hb d_MM_judge_161 (lv_at hl 6 rfl) ?_
  refine lv_if_lt (tgt := 288) hx hb d_MM_judge_163 (by decide) (fun c15 => ?_) (fun c15 => ?_)
  · replace h := o_tt c15 h
    cases h
    exact h1 (Nat.succ_ne_zero 0) _ _ _ hP hS (lv_sub hl [0, 1, 2, 3, 4, 5] rfl)
  · replace h := o_ff c15 h
    refine lv_aload_n hx hb d_MM_judge_166 rfl (lv_at hl 0 rfl) ?_
    refine o_get (v := .int (NJ_over z.2.2.2.2.2.2.2.2.1)) C in_MM hP 0 mw_0 rfl 57 (by decide) k_8_47 rfl rfl d_MM_judge_167 ?_
    refine lv_if_ne (tgt := 288) hx hb d_MM_judge_170 (by decide) (fun c16 => ?_) (fun c16 => ?_)
    · replace h := o_ff c16 h
      cases h
      exact h1 (Nat.succ_ne_zero 0) _ _ _ hP hS (lv_sub hl [0, 1, 2, 3, 4, 5] rfl)
    · replace h := o_tt c16 h
      refine lv_aload_n hx hb d_MM_judge_173 rfl (lv_at hl 0 rfl) ?_
      refine o_get (v := .ref (ad 21)) C in_MM hP 0 mw_0 rfl 40 (by decide) k_8_30 rfl rfl d_MM_judge_174 ?_
      refine lv_iload hx hb d_MM_judge_177 (lv_at hl 6 rfl) ?_
      obtain ⟨g17, h⟩ := o_gd_some h
      refine o_iald (f := (NA_key u161_Na)) C hP 21 20 mw_21 rfl g17 d_MM_judge_179 ?_
      refine lv_topi (fun x8_180 ex8_180 => ?_)
      replace h := o_nm_at ex8_180 h
      refine lv_istore (lv' := [(8, .int x8_180), (0, .ref (ad 0)), (1, .int u161_x1), (2, .int u161_x2), (3, .int z.1), (4, .long z.2.1), (6, .int u161_x6), (7, .int z.2.2.1)]) hx hb d_MM_judge_180 hl (by decide) rfl (fun ls hl => ?_)
      refine lv_iload hx hb d_MM_judge_182 (lv_at hl 0 rfl) ?_
      refine lv_if_lt (tgt := 273) hx hb d_MM_judge_184 (by decide) (fun c18 => ?_) (fun c18 => ?_)
      · replace h := o_tt c18 h
        exact f_MM_judge_j273 hE hKy C hDD d rec hrec n u161_x1 u161_x2 u161_x6 u161_M0 u161_Na u161_Ni u161_Nf u161_Nh z.1 z.2.1 z.2.2.1 z.2.2.2.1 z.2.2.2.2.1 z.2.2.2.2.2.1 z.2.2.2.2.2.2.1 z.2.2.2.2.2.2.2.1 z.2.2.2.2.2.2.2.2.1 z.2.2.2.2.2.2.2.2.2 h h0 h1 _ _ _ hP hS (lv_sub hl [1, 2, 3, 4, 5, 6, 7] rfl)
      · replace h := o_ff c18 h
        refine lv_iload hx hb d_MM_judge_187 (lv_at hl 0 rfl) ?_
        refine lv_bipush (v := (8:Int32)) hx hb d_MM_judge_189 (by decide) ?_
        refine lv_icmp_eq (tgt := 201) hx hb d_MM_judge_191 (by decide) (fun c20 => ?_) (fun c20 => ?_)
        · replace h := o_tt c20 h
          refine lv_iconst (v := (1:Int32)) hx hb d_MM_judge_201 (by decide) ?_
          refine lv_goto (tgt := 206) hx hb d_MM_judge_202 (by decide) ?_
          exact f_MM_judge_j206 hE hKy C hDD d rec hrec n u161_x1 u161_x2 u161_x6 u161_M0 u161_Na u161_Ni u161_Nf u161_Nh z.1 z.2.1 z.2.2.1 x8_180 (1:Int32) z.2.2.2.1 z.2.2.2.2.1 z.2.2.2.2.2.1 z.2.2.2.2.2.2.1 z.2.2.2.2.2.2.2.1 z.2.2.2.2.2.2.2.2.1 z.2.2.2.2.2.2.2.2.2 h h0 h1 _ _ _ hP hS (lv_sub hl [1, 2, 3, 4, 5, 6, 7, 0] rfl)
        · replace h := o_ff c20 h
          refine lv_iload hx hb d_MM_judge_194 (lv_at hl 0 rfl) ?_
          refine lv_bipush (v := (9:Int32)) hx hb d_MM_judge_196 (by decide) ?_
          refine lv_icmp_ne (tgt := 205) hx hb d_MM_judge_198 (by decide) (fun c25 => ?_) (fun c25 => ?_)
          · replace h := o_ff c25 h
            refine lv_iconst (v := (0:Int32)) hx hb d_MM_judge_205 (by decide) ?_
            exact f_MM_judge_j206 hE hKy C hDD d rec hrec n u161_x1 u161_x2 u161_x6 u161_M0 u161_Na u161_Ni u161_Nf u161_Nh z.1 z.2.1 z.2.2.1 x8_180 (0:Int32) z.2.2.2.1 z.2.2.2.2.1 z.2.2.2.2.2.1 z.2.2.2.2.2.2.1 z.2.2.2.2.2.2.2.1 z.2.2.2.2.2.2.2.2.1 z.2.2.2.2.2.2.2.2.2 h h0 h1 _ _ _ hP hS (lv_sub hl [1, 2, 3, 4, 5, 6, 7, 0] rfl)
          · replace h := o_tt c25 h
            refine lv_iconst (v := (1:Int32)) hx hb d_MM_judge_201 (by decide) ?_
            refine lv_goto (tgt := 206) hx hb d_MM_judge_202 (by decide) ?_
            exact f_MM_judge_j206 hE hKy C hDD d rec hrec n u161_x1 u161_x2 u161_x6 u161_M0 u161_Na u161_Ni u161_Nf u161_Nh z.1 z.2.1 z.2.2.1 x8_180 (1:Int32) z.2.2.2.1 z.2.2.2.2.1 z.2.2.2.2.2.1 z.2.2.2.2.2.2.1 z.2.2.2.2.2.2.2.1 z.2.2.2.2.2.2.2.2.1 z.2.2.2.2.2.2.2.2.2 h h0 h1 _ _ _ hP hS (lv_sub hl [1, 2, 3, 4, 5, 6, 7, 0] rfl)
set_option maxHeartbeats 4000000 in
set_option maxRecDepth 100000 in
theorem f_MM_judge_b144 {E : (Nat → Prop) → State → Heap → Prop} {p : Program} {l : Launch} {e : Env} {s : State} {m : MethodId} {args : Array Value} {below : List Frame} {meth : Method} {c : Code} {D : va_G} {ad kd sd vd xd : Nat → Nat} {ca : Nat → ClassId} {A : Nat → Prop} {ky ty : Nat → Option Nat} {Q : State → Prop} (hE : o_EK E kd sd vd xd) (hKy : m_KY ky ty sd) (C : o_Cx E p s m args meth c D m_cls (m_tys ca) "SchemaJudgeModel" b_MM_judge (some .boolean) 10 cc_MM_judge A) (hDD : ∀ (rt : Nat) (Ni : SNI) (Np : SNP) (No : SNO) (Nx : SNX) (Nf : SNF) (Na : SNA) (Nh : SNH) (Nq : SNQ) (Nj : SNJ) (M0 : SMT) (M1 : SMT), va_D A (m_cw ad ca ky ty rt Ni Np No Nx Nf Na Nh Nq Nj M0 M1)) (d : Nat) (rec : Int32 → Int32 → SMT → SMT → SNP → SNO → SNX → SNA → SNQ → SNJ → Nat → Option (Int32 × SMT × SNP × SNO × SNX × SNQ × SNJ × Nat)) (hrec : ∀ (x1 : Int32) (x2 : Int32) (M0 : SMT) (M1 : SMT) (Np : SNP) (No : SNO) (Nx : SNX) (Na : SNA) (Nq : SNQ) (Nj : SNJ) (rt : Nat) (Ni : SNI) (Nf : SNF) (Nh : SNH) (r : Int32 × SMT × SNP × SNO × SNX × SNQ × SNJ × Nat), rec x1 x2 M0 M1 Np No Nx Na Nq Nj rt = some r → o_Cn E l D m_cls (m_tys ca) y_MM_judge cc_MM_judge (rm_MM_judge d) [.ref (ad 0), .int x1, .int x2] (m_cw ad ca ky ty rt Ni Np No Nx Nf Na Nh Nq Nj M0 M1) (m_cw ad ca ky ty r.2.2.2.2.2.2.2 Ni r.2.2.1 r.2.2.2.1 r.2.2.2.2.1 Nf Na Nh r.2.2.2.2.2.1 r.2.2.2.2.2.2.1 M0 r.2.1) (some (.int r.1))) (n : Nat) (u144_x1 : Int32) (u144_x2 : Int32) (u144_M0 : SMT) (u144_Na : SNA) (u144_Ni : SNI) (u144_Nf : SNF) (u144_Nh : SNH) (z : Int32 × Int64 × Int32 × SMT × SNP × SNO × SNX × SNQ × SNJ × Nat) (q : Nat × Int32 × Int64 × Int32 × SMT × SNP × SNO × SNX × SNQ × SNJ × Nat) (h : m_MM_judge_b144 n rec u144_x1 u144_x2 u144_M0 u144_Na z = some q) (h0 : q.1 = 0 → o_At p l e (rm_MM_judge (d + 1)) s m args below meth c Q m_cls D A 10 144 [] (m_cw ad ca ky ty q.2.2.2.2.2.2.2.2.2.2 u144_Ni q.2.2.2.2.2.1 q.2.2.2.2.2.2.1 q.2.2.2.2.2.2.2.1 u144_Nf u144_Na u144_Nh q.2.2.2.2.2.2.2.2.1 q.2.2.2.2.2.2.2.2.2.1 u144_M0 q.2.2.2.2.1) [(0, .ref (ad 0)), (1, .int u144_x1), (2, .int u144_x2), (3, .int q.2.1), (4, .long q.2.2.1), (6, .int q.2.2.2.1)]) (h1 : q.1 ≠ 0 → (o_At p l e (rm_MM_judge (d + 1)) s m args below meth c Q m_cls D A 10 294 [] (m_cw ad ca ky ty q.2.2.2.2.2.2.2.2.2.2 u144_Ni q.2.2.2.2.2.1 q.2.2.2.2.2.2.1 q.2.2.2.2.2.2.2.1 u144_Nf u144_Na u144_Nh q.2.2.2.2.2.2.2.2.1 q.2.2.2.2.2.2.2.2.2.1 u144_M0 q.2.2.2.2.1) [(0, .ref (ad 0)), (3, .int q.2.1), (4, .long q.2.2.1)])) : o_At p l e (rm_MM_judge (d + 1)) s m args below meth c Q m_cls D A 10 144 [] (m_cw ad ca ky ty z.2.2.2.2.2.2.2.2.2 u144_Ni z.2.2.2.2.1 z.2.2.2.2.2.1 z.2.2.2.2.2.2.1 u144_Nf u144_Na u144_Nh z.2.2.2.2.2.2.2.1 z.2.2.2.2.2.2.2.2.1 u144_M0 z.2.2.2.1) [(0, .ref (ad 0)), (1, .int u144_x1), (2, .int u144_x2), (3, .int z.1), (4, .long z.2.1), (6, .int z.2.2.1)] := by
  unfold m_MM_judge_b144 at h
  intro H locs ls hP hS hl
  have C0 := C
  obtain ⟨hx, hb, -, -, -, hown, hts, hK, -, -⟩ := C0
  refine lv_iload hx hb d_MM_judge_144 (lv_at hl 5 rfl) ?_
  refine lv_iconst (v := (2:Int32)) hx hb d_MM_judge_146 (by decide) ?_
  refine lv_icmp_ge (tgt := 294) hx hb d_MM_judge_147 (by decide) (fun c13 => ?_) (fun c13 => ?_)
  · replace h := o_tt c13 h
    cases h
    exact h1 (Nat.succ_ne_zero 0) _ _ _ hP hS (lv_sub hl [0, 3, 4] rfl)
  · replace h := o_ff c13 h
    refine lv_aload_n hx hb d_MM_judge_150 rfl (lv_at hl 0 rfl) ?_
    refine o_get (v := .ref (ad 33)) C in_MM hP 0 mw_0 rfl 4 (by decide) k_7_234 rfl rfl d_MM_judge_151 ?_
    refine o_get (v := .ref (ad 40)) C in_MT hP 33 mw_33 rfl 6 (by decide) k_7_113 rfl rfl d_MM_judge_154 ?_
    refine lv_iload_n hx hb d_MM_judge_157 rfl (lv_at hl 1 rfl) ?_
    obtain ⟨g14, h⟩ := o_gd_some h
    refine o_iald (f := (MT_first u144_M0)) C hP 40 38 mw_40 rfl g14 d_MM_judge_158 ?_
    refine lv_topi (fun x7_159 ex7_159 => ?_)
    replace h := o_nm_at ex7_159 h
    refine lv_istore (lv' := [(7, .int x7_159), (0, .ref (ad 0)), (1, .int u144_x1), (2, .int u144_x2), (3, .int z.1), (4, .long z.2.1), (6, .int z.2.2.1)]) hx hb d_MM_judge_159 hl (by decide) rfl (fun ls hl => ?_)
    obtain ⟨q3, hq3, h⟩ := o_bd_some h
    refine o_sim2 (AH := fun zz => o_At p l e (rm_MM_judge (d + 1)) s m args below meth c _ m_cls D A 10 161 [] (m_cw ad ca ky ty zz.2.2.2.2.2.2.2.2.2 u144_Ni zz.2.2.2.2.1 zz.2.2.2.2.2.1 zz.2.2.2.2.2.2.1 u144_Nf u144_Na u144_Nh zz.2.2.2.2.2.2.2.1 zz.2.2.2.2.2.2.2.2.1 u144_M0 zz.2.2.2.1) [(0, .ref (ad 0)), (1, .int u144_x1), (2, .int u144_x2), (3, .int zz.1), (4, .long zz.2.1), (6, .int z.2.2.1), (7, .int zz.2.2.1)]) (AX := fun qq => o_At p l e (rm_MM_judge (d + 1)) s m args below meth c _ m_cls D A 10 288 [] (m_cw ad ca ky ty qq.2.2.2.2.2.2.2.2.2.2 u144_Ni qq.2.2.2.2.2.1 qq.2.2.2.2.2.2.1 qq.2.2.2.2.2.2.2.1 u144_Nf u144_Na u144_Nh qq.2.2.2.2.2.2.2.2.1 qq.2.2.2.2.2.2.2.2.2.1 u144_M0 qq.2.2.2.2.1) [(0, .ref (ad 0)), (1, .int u144_x1), (2, .int u144_x2), (3, .int qq.2.1), (4, .long qq.2.2.1), (6, .int z.2.2.1)]) (fun zz qq h h0 h1 => f_MM_judge_b161 hE hKy C hDD d rec hrec n u144_x1 u144_x2 z.2.2.1 u144_M0 u144_Na u144_Ni u144_Nf u144_Nh zz qq h h0 h1) n _ q3 hq3 ?_ _ _ _ hP hS (lv_sub hl [1, 2, 3, 4, 5, 6, 0] rfl)
    intro H locs ls hP hS hl
    obtain ⟨x6_288, ex6_288⟩ : ∃ y : Int32, y = z.2.2.1 + (1:Int32) := ⟨_, rfl⟩
    replace h := o_nm_at ex6_288 h
    refine lv_iinc (v := x6_288) (lv' := [(6, .int x6_288), (0, .ref (ad 0)), (1, .int u144_x1), (2, .int u144_x2), (3, .int q3.2.1), (4, .long q3.2.2.1)]) hx hb d_MM_judge_288 hl (k := 5) rfl (by rw [ex6_288]; rfl) (by decide) rfl (fun ls hl => ?_)
    refine lv_goto (tgt := 144) hx hb d_MM_judge_291 (by decide) ?_
    cases h
    exact h0 rfl _ _ _ hP hS (lv_sub hl [1, 2, 3, 4, 5, 0] rfl)
set_option maxHeartbeats 4000000 in
set_option maxRecDepth 100000 in
theorem f_MM_judge_j99 {E : (Nat → Prop) → State → Heap → Prop} {p : Program} {l : Launch} {e : Env} {s : State} {m : MethodId} {args : Array Value} {below : List Frame} {meth : Method} {c : Code} {D : va_G} {ad kd sd vd xd : Nat → Nat} {ca : Nat → ClassId} {A : Nat → Prop} {ky ty : Nat → Option Nat} (hE : o_EK E kd sd vd xd) (hKy : m_KY ky ty sd) (C : o_Cx E p s m args meth c D m_cls (m_tys ca) "SchemaJudgeModel" b_MM_judge (some .boolean) 10 cc_MM_judge A) (hDD : ∀ (rt : Nat) (Ni : SNI) (Np : SNP) (No : SNO) (Nx : SNX) (Nf : SNF) (Na : SNA) (Nh : SNH) (Nq : SNQ) (Nj : SNJ) (M0 : SMT) (M1 : SMT), va_D A (m_cw ad ca ky ty rt Ni Np No Nx Nf Na Nh Nq Nj M0 M1)) (d : Nat) (rec : Int32 → Int32 → SMT → SMT → SNP → SNO → SNX → SNA → SNQ → SNJ → Nat → Option (Int32 × SMT × SNP × SNO × SNX × SNQ × SNJ × Nat)) (hrec : ∀ (x1 : Int32) (x2 : Int32) (M0 : SMT) (M1 : SMT) (Np : SNP) (No : SNO) (Nx : SNX) (Na : SNA) (Nq : SNQ) (Nj : SNJ) (rt : Nat) (Ni : SNI) (Nf : SNF) (Nh : SNH) (r : Int32 × SMT × SNP × SNO × SNX × SNQ × SNJ × Nat), rec x1 x2 M0 M1 Np No Nx Na Nq Nj rt = some r → o_Cn E l D m_cls (m_tys ca) y_MM_judge cc_MM_judge (rm_MM_judge d) [.ref (ad 0), .int x1, .int x2] (m_cw ad ca ky ty rt Ni Np No Nx Nf Na Nh Nq Nj M0 M1) (m_cw ad ca ky ty r.2.2.2.2.2.2.2 Ni r.2.2.1 r.2.2.2.1 r.2.2.2.2.1 Nf Na Nh r.2.2.2.2.2.1 r.2.2.2.2.2.2.1 M0 r.2.1) (some (.int r.1))) (n : Nat) (x1 : Int32) (x2 : Int32) (y0 : Int32) (M0 : SMT) (M1 : SMT) (Np : SNP) (No : SNO) (Nx : SNX) (Na : SNA) (Nq : SNQ) (Nj : SNJ) (rt : Nat) (Ni : SNI) (Nf : SNF) (Nh : SNH) {r : Int32 × SMT × SNP × SNO × SNX × SNQ × SNJ × Nat} (h : m_MM_judge_j99 n rec x1 x2 y0 M0 M1 Np No Nx Na Nq Nj rt = some r) : o_At p l e (rm_MM_judge (d + 1)) s m args below meth c (MQ below (o_Qx D m_cls (some (.int r.1)) (m_cw ad ca ky ty r.2.2.2.2.2.2.2 Ni r.2.2.1 r.2.2.2.1 r.2.2.2.2.1 Nf Na Nh r.2.2.2.2.2.1 r.2.2.2.2.2.2.1 M0 r.2.1) A) args s 0 0 A) m_cls D A 10 99 [.int y0] (m_cw ad ca ky ty rt Ni Np No Nx Nf Na Nh Nq Nj M0 M1) [(0, .ref (ad 0)), (1, .int x1), (2, .int x2)] := by
  unfold m_MM_judge_j99 at h
  intro H locs ls hP hS hl
  have C0 := C
  obtain ⟨hx, hb, -, -, -, hown, hts, hK, -, -⟩ := C0
  refine lv_istore_n (lv' := [(3, .int y0), (0, .ref (ad 0)), (1, .int x1), (2, .int x2)]) hx hb d_MM_judge_99 rfl hl (by decide) rfl (fun ls hl => ?_)
  refine lv_lconst (v := (0:Int64)) hx hb d_MM_judge_100 (by decide) ?_
  refine lv_lstore (lv' := [(4, .long (0:Int64)), (3, .int y0), (0, .ref (ad 0)), (1, .int x1), (2, .int x2)]) hx hb d_MM_judge_101 hl (by decide) rfl (fun ls hl => ?_)
  refine lv_aload_n hx hb d_MM_judge_103 rfl (lv_at hl 2 rfl) ?_
  refine o_get (v := .ref (ad 33)) C in_MM hP 0 mw_0 rfl 4 (by decide) k_7_234 rfl rfl d_MM_judge_104 ?_
  refine o_get (v := .ref (ad 35)) C in_MT hP 33 mw_33 rfl 1 (by decide) k_7_103 rfl rfl d_MM_judge_107 ?_
  refine lv_iload_n hx hb d_MM_judge_110 rfl (lv_at hl 3 rfl) ?_
  obtain ⟨g7, h⟩ := o_gd_some h
  refine o_iald (f := (MT_kind M0)) C hP 35 33 mw_35 rfl g7 d_MM_judge_111 ?_
  refine lv_iconst (v := (1:Int32)) hx hb d_MM_judge_112 (by decide) ?_
  refine lv_icmp_ne (tgt := 125) hx hb d_MM_judge_113 (by decide) (fun c8 => ?_) (fun c8 => ?_)
  · replace h := o_ff c8 h
    refine lv_aload_n hx hb d_MM_judge_125 rfl (lv_at hl 2 rfl) ?_
    refine o_get (v := .ref (ad 33)) C in_MM hP 0 mw_0 rfl 4 (by decide) k_7_234 rfl rfl d_MM_judge_126 ?_
    refine o_get (v := .ref (ad 35)) C in_MT hP 33 mw_33 rfl 1 (by decide) k_7_103 rfl rfl d_MM_judge_129 ?_
    refine lv_iload_n hx hb d_MM_judge_132 rfl (lv_at hl 3 rfl) ?_
    obtain ⟨g9, h⟩ := o_gd_some h
    refine o_iald (f := (MT_kind M0)) C hP 35 33 mw_35 rfl g9 d_MM_judge_133 ?_
    refine lv_bipush (v := (6:Int32)) hx hb d_MM_judge_134 (by decide) ?_
    refine lv_icmp_ne (tgt := 294) hx hb d_MM_judge_136 (by decide) (fun c10 => ?_) (fun c10 => ?_)
    · replace h := o_ff c10 h
      exact f_MM_judge_j294 hE hKy C hDD d rec hrec n y0 (0:Int64) M0 M1 Np No Nx Na Nq Nj rt Ni Nf Nh h _ _ _ hP hS (lv_sub hl [2, 1, 0] rfl)
    · replace h := o_tt c10 h
      refine lv_iconst (v := (1:Int32)) hx hb d_MM_judge_139 (by decide) ?_
      refine lv_istore_n (lv' := [(3, .int (1:Int32)), (4, .long (0:Int64)), (0, .ref (ad 0)), (1, .int x1), (2, .int x2)]) hx hb d_MM_judge_140 rfl hl (by decide) rfl (fun ls hl => ?_)
      refine lv_iconst (v := (0:Int32)) hx hb d_MM_judge_141 (by decide) ?_
      refine lv_istore (lv' := [(6, .int (0:Int32)), (3, .int (1:Int32)), (4, .long (0:Int64)), (0, .ref (ad 0)), (1, .int x1), (2, .int x2)]) hx hb d_MM_judge_142 hl (by decide) rfl (fun ls hl => ?_)
      obtain ⟨q4, hq4, h⟩ := o_bd_some h
      refine o_sim2 (AH := fun zz => o_At p l e (rm_MM_judge (d + 1)) s m args below meth c _ m_cls D A 10 144 [] (m_cw ad ca ky ty zz.2.2.2.2.2.2.2.2.2 Ni zz.2.2.2.2.1 zz.2.2.2.2.2.1 zz.2.2.2.2.2.2.1 Nf Na Nh zz.2.2.2.2.2.2.2.1 zz.2.2.2.2.2.2.2.2.1 M0 zz.2.2.2.1) [(0, .ref (ad 0)), (1, .int x1), (2, .int x2), (3, .int zz.1), (4, .long zz.2.1), (6, .int zz.2.2.1)]) (AX := fun qq => o_At p l e (rm_MM_judge (d + 1)) s m args below meth c _ m_cls D A 10 294 [] (m_cw ad ca ky ty qq.2.2.2.2.2.2.2.2.2.2 Ni qq.2.2.2.2.2.1 qq.2.2.2.2.2.2.1 qq.2.2.2.2.2.2.2.1 Nf Na Nh qq.2.2.2.2.2.2.2.2.1 qq.2.2.2.2.2.2.2.2.2.1 M0 qq.2.2.2.2.1) [(0, .ref (ad 0)), (3, .int qq.2.1), (4, .long qq.2.2.1)]) (fun zz qq h h0 h1 => f_MM_judge_b144 hE hKy C hDD d rec hrec n x1 x2 M0 Na Ni Nf Nh zz qq h h0 h1) n _ q4 hq4 ?_ _ _ _ hP hS (lv_sub hl [3, 4, 5, 1, 2, 0] rfl)
      intro H locs ls hP hS hl
      exact f_MM_judge_j294 hE hKy C hDD d rec hrec n q4.2.1 q4.2.2.1 M0 q4.2.2.2.2.1 q4.2.2.2.2.2.1 q4.2.2.2.2.2.2.1 q4.2.2.2.2.2.2.2.1 Na q4.2.2.2.2.2.2.2.2.1 q4.2.2.2.2.2.2.2.2.2.1 q4.2.2.2.2.2.2.2.2.2.2 Ni Nf Nh h _ _ _ hP hS (lv_sub hl [0, 1, 2] rfl)
  · replace h := o_tt c8 h
    refine lv_aload_n hx hb d_MM_judge_116 rfl (lv_at hl 2 rfl) ?_
    refine lv_iload_n hx hb d_MM_judge_117 rfl (lv_at hl 4 rfl) ?_
    refine lv_iload_n hx hb d_MM_judge_118 rfl (lv_at hl 3 rfl) ?_
    obtain ⟨q5, hq5, h⟩ := o_bd_some h
    refine o_V (st1 := []) (w1 := (m_cw ad ca ky ty rt Ni Np No Nx Nf Na Nh q5 Nj M0 M1)) hE.1 C (e_MM_pair hE hKy l x2 x1 Nq Ni Np No Nx Nf Na Nh Nj M0 M1 rt hq5) hP (hDD _ _ _ _ _ _ _ _ _ _ _ _) hS hl.1 rfl mw_0 k_9_214 k_9_216 k_s_117 k_1_12 k_9_217 hv_MM_pair rfl rfl ⟨(by dsimp only [rm_MM_judge, rm_MM_pair]; omega), (by dsimp only [rm_MM_judge, rm_MM_pair]; omega)⟩ rfl (Nat.le_of_ble_eq_true rfl) ⟨Nat.zero_le _, Nat.zero_le _⟩ rfl d_MM_judge_119 (fun H locs hP hS => ?_)
    refine lv_goto (tgt := 294) hx hb d_MM_judge_122 (by decide) ?_
    exact f_MM_judge_j294 hE hKy C hDD d rec hrec n y0 (0:Int64) M0 M1 Np No Nx Na q5 Nj rt Ni Nf Nh h _ _ _ hP hS (lv_sub hl [2, 1, 0] rfl)
set_option maxHeartbeats 4000000 in
set_option maxRecDepth 100000 in
theorem f_MM_judge_j81 {E : (Nat → Prop) → State → Heap → Prop} {p : Program} {l : Launch} {e : Env} {s : State} {m : MethodId} {args : Array Value} {below : List Frame} {meth : Method} {c : Code} {D : va_G} {ad kd sd vd xd : Nat → Nat} {ca : Nat → ClassId} {A : Nat → Prop} {ky ty : Nat → Option Nat} (hE : o_EK E kd sd vd xd) (hKy : m_KY ky ty sd) (C : o_Cx E p s m args meth c D m_cls (m_tys ca) "SchemaJudgeModel" b_MM_judge (some .boolean) 10 cc_MM_judge A) (hDD : ∀ (rt : Nat) (Ni : SNI) (Np : SNP) (No : SNO) (Nx : SNX) (Nf : SNF) (Na : SNA) (Nh : SNH) (Nq : SNQ) (Nj : SNJ) (M0 : SMT) (M1 : SMT), va_D A (m_cw ad ca ky ty rt Ni Np No Nx Nf Na Nh Nq Nj M0 M1)) (d : Nat) (rec : Int32 → Int32 → SMT → SMT → SNP → SNO → SNX → SNA → SNQ → SNJ → Nat → Option (Int32 × SMT × SNP × SNO × SNX × SNQ × SNJ × Nat)) (hrec : ∀ (x1 : Int32) (x2 : Int32) (M0 : SMT) (M1 : SMT) (Np : SNP) (No : SNO) (Nx : SNX) (Na : SNA) (Nq : SNQ) (Nj : SNJ) (rt : Nat) (Ni : SNI) (Nf : SNF) (Nh : SNH) (r : Int32 × SMT × SNP × SNO × SNX × SNQ × SNJ × Nat), rec x1 x2 M0 M1 Np No Nx Na Nq Nj rt = some r → o_Cn E l D m_cls (m_tys ca) y_MM_judge cc_MM_judge (rm_MM_judge d) [.ref (ad 0), .int x1, .int x2] (m_cw ad ca ky ty rt Ni Np No Nx Nf Na Nh Nq Nj M0 M1) (m_cw ad ca ky ty r.2.2.2.2.2.2.2 Ni r.2.2.1 r.2.2.2.1 r.2.2.2.2.1 Nf Na Nh r.2.2.2.2.2.1 r.2.2.2.2.2.2.1 M0 r.2.1) (some (.int r.1))) (n : Nat) (x1 : Int32) (x2 : Int32) (M0 : SMT) (M1 : SMT) (Np : SNP) (No : SNO) (Nx : SNX) (Na : SNA) (Nq : SNQ) (Nj : SNJ) (rt : Nat) (Ni : SNI) (Nf : SNF) (Nh : SNH) {r : Int32 × SMT × SNP × SNO × SNX × SNQ × SNJ × Nat} (h : m_MM_judge_j81 n rec x1 x2 M0 M1 Np No Nx Na Nq Nj rt = some r) : o_At p l e (rm_MM_judge (d + 1)) s m args below meth c (MQ below (o_Qx D m_cls (some (.int r.1)) (m_cw ad ca ky ty r.2.2.2.2.2.2.2 Ni r.2.2.1 r.2.2.2.1 r.2.2.2.2.1 Nf Na Nh r.2.2.2.2.2.1 r.2.2.2.2.2.2.1 M0 r.2.1) A) args s 0 0 A) m_cls D A 10 81 [] (m_cw ad ca ky ty rt Ni Np No Nx Nf Na Nh Nq Nj M0 M1) [(0, .ref (ad 0)), (1, .int x1), (2, .int x2)] := by
  unfold m_MM_judge_j81 at h
  intro H locs ls hP hS hl
  have C0 := C
  obtain ⟨hx, hb, -, -, -, hown, hts, hK, -, -⟩ := C0
  refine lv_aload_n hx hb d_MM_judge_81 rfl (lv_at hl 0 rfl) ?_
  refine o_get (v := .ref (ad 33)) C in_MM hP 0 mw_0 rfl 4 (by decide) k_7_234 rfl rfl d_MM_judge_82 ?_
  refine o_get (v := .ref (ad 35)) C in_MT hP 33 mw_33 rfl 1 (by decide) k_7_103 rfl rfl d_MM_judge_85 ?_
  refine lv_iload_n hx hb d_MM_judge_88 rfl (lv_at hl 1 rfl) ?_
  obtain ⟨g5, h⟩ := o_gd_some h
  refine o_iald (f := (MT_kind M0)) C hP 35 33 mw_35 rfl g5 d_MM_judge_89 ?_
  refine lv_iconst (v := (2:Int32)) hx hb d_MM_judge_90 (by decide) ?_
  refine lv_icmp_ne (tgt := 98) hx hb d_MM_judge_91 (by decide) (fun c6 => ?_) (fun c6 => ?_)
  · replace h := o_ff c6 h
    refine lv_iconst (v := (0:Int32)) hx hb d_MM_judge_98 (by decide) ?_
    exact f_MM_judge_j99 hE hKy C hDD d rec hrec n x1 x2 (0:Int32) M0 M1 Np No Nx Na Nq Nj rt Ni Nf Nh h _ _ _ hP hS (lv_sub hl [0, 1, 2] rfl)
  · replace h := o_tt c6 h
    refine lv_iconst (v := (1:Int32)) hx hb d_MM_judge_94 (by decide) ?_
    refine lv_goto (tgt := 99) hx hb d_MM_judge_95 (by decide) ?_
    exact f_MM_judge_j99 hE hKy C hDD d rec hrec n x1 x2 (1:Int32) M0 M1 Np No Nx Na Nq Nj rt Ni Nf Nh h _ _ _ hP hS (lv_sub hl [0, 1, 2] rfl)
set_option maxHeartbeats 4000000 in
set_option maxRecDepth 100000 in
theorem e_MM_judge_F {E : (Nat → Prop) → State → Heap → Prop} {D : va_G} {ad kd sd vd xd : Nat → Nat} {ca : Nat → ClassId} {ky ty : Nat → Option Nat} (hE : o_EK E kd sd vd xd) (hKy : m_KY ky ty sd) (l : Launch) (n : Nat) (d : Nat) (rec : Int32 → Int32 → SMT → SMT → SNP → SNO → SNX → SNA → SNQ → SNJ → Nat → Option (Int32 × SMT × SNP × SNO × SNX × SNQ × SNJ × Nat)) (hrec : ∀ (x1 : Int32) (x2 : Int32) (M0 : SMT) (M1 : SMT) (Np : SNP) (No : SNO) (Nx : SNX) (Na : SNA) (Nq : SNQ) (Nj : SNJ) (rt : Nat) (Ni : SNI) (Nf : SNF) (Nh : SNH) (r : Int32 × SMT × SNP × SNO × SNX × SNQ × SNJ × Nat), rec x1 x2 M0 M1 Np No Nx Na Nq Nj rt = some r → o_Cn E l D m_cls (m_tys ca) y_MM_judge cc_MM_judge (rm_MM_judge d) [.ref (ad 0), .int x1, .int x2] (m_cw ad ca ky ty rt Ni Np No Nx Nf Na Nh Nq Nj M0 M1) (m_cw ad ca ky ty r.2.2.2.2.2.2.2 Ni r.2.2.1 r.2.2.2.1 r.2.2.2.2.1 Nf Na Nh r.2.2.2.2.2.1 r.2.2.2.2.2.2.1 M0 r.2.1) (some (.int r.1))) (x1 : Int32) (x2 : Int32) (M0 : SMT) (M1 : SMT) (Np : SNP) (No : SNO) (Nx : SNX) (Na : SNA) (Nq : SNQ) (Nj : SNJ) (rt : Nat) (Ni : SNI) (Nf : SNF) (Nh : SNH) {r : Int32 × SMT × SNP × SNO × SNX × SNQ × SNJ × Nat} (h : m_MM_judge_F n rec x1 x2 M0 M1 Np No Nx Na Nq Nj rt = some r) : o_Cn E l D m_cls (m_tys ca) y_MM_judge cc_MM_judge (rm_MM_judge (d + 1)) [.ref (ad 0), .int x1, .int x2] (m_cw ad ca ky ty rt Ni Np No Nx Nf Na Nh Nq Nj M0 M1) (m_cw ad ca ky ty r.2.2.2.2.2.2.2 Ni r.2.2.1 r.2.2.2.1 r.2.2.2.2.1 Nf Na Nh r.2.2.2.2.2.1 r.2.2.2.2.2.2.1 M0 r.2.1) (some (.int r.1)) := by
  refine o_Cn_of (by decide) (Nat.le_of_ble_eq_true rfl) ?_
  intro p e s m below meth c A ls C hD hP hS hl
  have hDD : ∀ (rt : Nat) (Ni : SNI) (Np : SNP) (No : SNO) (Nx : SNX) (Nf : SNF) (Na : SNA) (Nh : SNH) (Nq : SNQ) (Nj : SNJ) (M0 : SMT) (M1 : SMT), va_D A (m_cw ad ca ky ty rt Ni Np No Nx Nf Na Nh Nq Nj M0 M1) := fun _ _ _ _ _ _ _ _ _ _ _ _ => o_D_map hD rfl
  have hl : lv_has ls 10 [(0, .ref (ad 0)), (1, .int x1), (2, .int x2)] := hl
  unfold m_MM_judge_F at h
  have C0 := C
  obtain ⟨hx, hb, -, -, -, hown, hts, hK, -, -⟩ := C0
  refine lv_aload_n hx hb d_MM_judge_0 rfl (lv_at hl 0 rfl) ?_
  refine o_get (v := .int (NJ_over Nj)) C in_MM hP 0 mw_0 rfl 57 (by decide) k_8_47 rfl rfl d_MM_judge_1 ?_
  refine lv_if_eq (tgt := 9) hx hb d_MM_judge_4 (by decide) (fun c1 => ?_) (fun c1 => ?_)
  · replace h := o_tt c1 h
    refine lv_aload_n hx hb d_MM_judge_9 rfl (lv_at hl 0 rfl) ?_
    refine lv_dup hx hb d_MM_judge_10 rfl ?_
    refine o_get (v := .int (NJ_depth Nj)) C in_MM hP 0 mw_0 rfl 56 (by decide) k_8_46 rfl rfl d_MM_judge_11 ?_
    refine lv_iconst (v := (1:Int32)) hx hb d_MM_judge_14 (by decide) ?_
    refine lv_iadd hx hb d_MM_judge_15 ?_
    refine o_put (v := .int ((NJ_depth Nj) + (1:Int32))) (ty := .int) (w1 := (m_cw ad ca ky ty rt Ni Np No Nx Nf Na Nh Nq (NJ_mk (NJ_judged Nj) (NJ_deepest Nj) ((NJ_depth Nj) + (1:Int32)) (NJ_over Nj) (NJ_seen Nj)) M0 M1)) C in_MM t_MM t_MM_ok n_MM hP (hDD _ _ _ _ _ _ _ _ _ _ _ _) hS 0 mw_0 rfl 56 (by decide) k_8_46 rfl rfl (by decide +kernel) rfl rfl (Nat.le_of_ble_eq_true rfl) rfl d_MM_judge_16 (fun H locs hP hS => ?_)
    refine lv_aload_n hx hb d_MM_judge_19 rfl (lv_at hl 0 rfl) ?_
    refine lv_dup hx hb d_MM_judge_20 rfl ?_
    refine o_get (v := .int (NJ_judged Nj)) C in_MM hP 0 mw_0 rfl 54 (by decide) k_8_44 rfl rfl d_MM_judge_21 ?_
    refine lv_iconst (v := (1:Int32)) hx hb d_MM_judge_24 (by decide) ?_
    refine lv_iadd hx hb d_MM_judge_25 ?_
    refine lv_dup_x1 hx hb d_MM_judge_26 rfl rfl ?_
    refine o_put (v := .int ((NJ_judged Nj) + (1:Int32))) (ty := .int) (w1 := (m_cw ad ca ky ty rt Ni Np No Nx Nf Na Nh Nq (NJ_mk ((NJ_judged Nj) + (1:Int32)) (NJ_deepest Nj) ((NJ_depth Nj) + (1:Int32)) (NJ_over Nj) (NJ_seen Nj)) M0 M1)) C in_MM t_MM t_MM_ok n_MM hP (hDD _ _ _ _ _ _ _ _ _ _ _ _) hS 0 mw_0 rfl 54 (by decide) k_8_44 rfl rfl (by decide +kernel) rfl rfl (Nat.le_of_ble_eq_true rfl) rfl d_MM_judge_27 (fun H locs hP hS => ?_)
    refine lv_sipush (v := (20000:Int32)) hx hb d_MM_judge_30 (by decide) ?_
    refine lv_icmp_gt (tgt := 45) hx hb d_MM_judge_33 (by decide) (fun c2 => ?_) (fun c2 => ?_)
    · replace h := o_tt c2 h
      exact f_MM_judge_j45 hE hKy C hDD d rec hrec n M0 M1 Np No Nx Na Nq (NJ_mk ((NJ_judged Nj) + (1:Int32)) (NJ_deepest Nj) ((NJ_depth Nj) + (1:Int32)) (NJ_over Nj) (NJ_seen Nj)) rt Ni Nf Nh h _ _ _ hP hS (lv_sub hl [0] rfl)
    · replace h := o_ff c2 h
      refine lv_aload_n hx hb d_MM_judge_36 rfl (lv_at hl 0 rfl) ?_
      refine o_get (v := .int ((NJ_depth Nj) + (1:Int32))) C in_MM hP 0 mw_0 rfl 56 (by decide) k_8_46 rfl rfl d_MM_judge_37 ?_
      refine lv_bipush (v := (100:Int32)) hx hb d_MM_judge_40 (by decide) ?_
      refine lv_icmp_le (tgt := 62) hx hb d_MM_judge_42 (by decide) (fun c3 => ?_) (fun c3 => ?_)
      · replace h := o_tt c3 h
        refine lv_aload_n hx hb d_MM_judge_62 rfl (lv_at hl 0 rfl) ?_
        refine o_get (v := .int ((NJ_depth Nj) + (1:Int32))) C in_MM hP 0 mw_0 rfl 56 (by decide) k_8_46 rfl rfl d_MM_judge_63 ?_
        refine lv_aload_n hx hb d_MM_judge_66 rfl (lv_at hl 0 rfl) ?_
        refine o_get (v := .int (NJ_deepest Nj)) C in_MM hP 0 mw_0 rfl 55 (by decide) k_8_45 rfl rfl d_MM_judge_67 ?_
        refine lv_icmp_le (tgt := 81) hx hb d_MM_judge_70 (by decide) (fun c4 => ?_) (fun c4 => ?_)
        · replace h := o_tt c4 h
          exact f_MM_judge_j81 hE hKy C hDD d rec hrec n x1 x2 M0 M1 Np No Nx Na Nq (NJ_mk ((NJ_judged Nj) + (1:Int32)) (NJ_deepest Nj) ((NJ_depth Nj) + (1:Int32)) (NJ_over Nj) (NJ_seen Nj)) rt Ni Nf Nh h _ _ _ hP hS (lv_sub hl [0, 1, 2] rfl)
        · replace h := o_ff c4 h
          refine lv_aload_n hx hb d_MM_judge_73 rfl (lv_at hl 0 rfl) ?_
          refine lv_aload_n hx hb d_MM_judge_74 rfl (lv_at hl 0 rfl) ?_
          refine o_get (v := .int ((NJ_depth Nj) + (1:Int32))) C in_MM hP 0 mw_0 rfl 56 (by decide) k_8_46 rfl rfl d_MM_judge_75 ?_
          refine o_put (v := .int ((NJ_depth Nj) + (1:Int32))) (ty := .int) (w1 := (m_cw ad ca ky ty rt Ni Np No Nx Nf Na Nh Nq (NJ_mk ((NJ_judged Nj) + (1:Int32)) ((NJ_depth Nj) + (1:Int32)) ((NJ_depth Nj) + (1:Int32)) (NJ_over Nj) (NJ_seen Nj)) M0 M1)) C in_MM t_MM t_MM_ok n_MM hP (hDD _ _ _ _ _ _ _ _ _ _ _ _) hS 0 mw_0 rfl 55 (by decide) k_8_45 rfl rfl (by decide +kernel) rfl rfl (Nat.le_of_ble_eq_true rfl) rfl d_MM_judge_78 (fun H locs hP hS => ?_)
          exact f_MM_judge_j81 hE hKy C hDD d rec hrec n x1 x2 M0 M1 Np No Nx Na Nq (NJ_mk ((NJ_judged Nj) + (1:Int32)) ((NJ_depth Nj) + (1:Int32)) ((NJ_depth Nj) + (1:Int32)) (NJ_over Nj) (NJ_seen Nj)) rt Ni Nf Nh h _ _ _ hP hS (lv_sub hl [0, 1, 2] rfl)
      · replace h := o_ff c3 h
        exact f_MM_judge_j45 hE hKy C hDD d rec hrec n M0 M1 Np No Nx Na Nq (NJ_mk ((NJ_judged Nj) + (1:Int32)) (NJ_deepest Nj) ((NJ_depth Nj) + (1:Int32)) (NJ_over Nj) (NJ_seen Nj)) rt Ni Nf Nh h _ _ _ hP hS (lv_sub hl [0] rfl)
  · replace h := o_ff c1 h
    refine lv_iconst (v := (0:Int32)) hx hb d_MM_judge_7 (by decide) ?_
    cases h
    exact o_rz (v := (0:Int32)) C o_nar0 hP hS d_MM_judge_8
set_option maxHeartbeats 4000000 in
set_option maxRecDepth 100000 in
theorem e_MM_judge {E : (Nat → Prop) → State → Heap → Prop} {D : va_G} {ad kd sd vd xd : Nat → Nat} {ca : Nat → ClassId} {ky ty : Nat → Option Nat} (hE : o_EK E kd sd vd xd) (hKy : m_KY ky ty sd) (l : Launch) (n : Nat) (d : Nat) (x1 : Int32) (x2 : Int32) (M0 : SMT) (M1 : SMT) (Np : SNP) (No : SNO) (Nx : SNX) (Na : SNA) (Nq : SNQ) (Nj : SNJ) (rt : Nat) (Ni : SNI) (Nf : SNF) (Nh : SNH) {r : Int32 × SMT × SNP × SNO × SNX × SNQ × SNJ × Nat} (h : m_MM_judge n d x1 x2 M0 M1 Np No Nx Na Nq Nj rt = some r) : o_Cn E l D m_cls (m_tys ca) y_MM_judge cc_MM_judge (rm_MM_judge d) [.ref (ad 0), .int x1, .int x2] (m_cw ad ca ky ty rt Ni Np No Nx Nf Na Nh Nq Nj M0 M1) (m_cw ad ca ky ty r.2.2.2.2.2.2.2 Ni r.2.2.1 r.2.2.2.1 r.2.2.2.2.1 Nf Na Nh r.2.2.2.2.2.1 r.2.2.2.2.2.2.1 M0 r.2.1) (some (.int r.1)) := by
  induction d generalizing x1 x2 M0 M1 Np No Nx Na Nq Nj rt Ni Nf Nh r with
  | zero => cases h
  | succ d ih =>
    exact e_MM_judge_F hE hKy l n d (m_MM_judge n d) (fun x1 x2 M0 M1 Np No Nx Na Nq Nj rt Ni Nf Nh r h => ih x1 x2 M0 M1 Np No Nx Na Nq Nj rt Ni Nf Nh h) _ _ _ _ _ _ _ _ _ _ _ _ _ _ h
set_option maxHeartbeats 4000000 in
set_option maxRecDepth 100000 in
theorem f_MM_sort_j71 {E : (Nat → Prop) → State → Heap → Prop} {p : Program} {l : Launch} {e : Env} {s : State} {m : MethodId} {args : Array Value} {below : List Frame} {meth : Method} {c : Code} {D : va_G} {ad kd sd vd xd : Nat → Nat} {ca : Nat → ClassId} {A : Nat → Prop} {ky ty : Nat → Option Nat} {Q : State → Prop} (hE : o_EK E kd sd vd xd) (hKy : m_KY ky ty sd) (C : o_Cx E p s m args meth c D m_cls (m_tys ca) "SchemaJudgeModel" b_MM_sort none 5 cc_MM_sort A) (hDD : ∀ (rt : Nat) (Ni : SNI) (Np : SNP) (No : SNO) (Nx : SNX) (Nf : SNF) (Na : SNA) (Nh : SNH) (Nq : SNQ) (Nj : SNJ) (M0 : SMT) (M1 : SMT), va_D A (m_cw ad ca ky ty rt Ni Np No Nx Nf Na Nh Nq Nj M0 M1)) (n : Nat) (u27_x1 : Int32) (u27_x2 : Int32) (u27_x3 : Int32) (u27_Ni : SNI) (u27_Np : SNP) (u27_No : SNO) (u27_Nx : SNX) (u27_Nf : SNF) (u27_Na : SNA) (u27_Nh : SNH) (u27_Nj : SNJ) (u27_M0 : SMT) (u27_M1 : SMT) (u27_rt : Nat) (x4 : Int32) (Nq : SNQ) {q : Nat × Int32 × SNQ} (h : m_MM_sort_j71 n u27_x1 u27_x2 u27_x3 x4 Nq = some q) (h0 : q.1 = 0 → o_At p l e rm_MM_sort s m args below meth c Q m_cls D A 5 27 [] (m_cw ad ca ky ty u27_rt u27_Ni u27_Np u27_No u27_Nx u27_Nf u27_Na u27_Nh q.2.2 u27_Nj u27_M0 u27_M1) [(0, .ref (ad 0)), (1, .int u27_x1), (2, .int u27_x2), (3, .int u27_x3), (4, .int q.2.1)]) (h1 : q.1 ≠ 0 → (o_At p l e rm_MM_sort s m args below meth c Q m_cls D A 5 109 [] (m_cw ad ca ky ty u27_rt u27_Ni u27_Np u27_No u27_Nx u27_Nf u27_Na u27_Nh q.2.2 u27_Nj u27_M0 u27_M1) [(0, .ref (ad 0)), (1, .int u27_x1), (2, .int u27_x2), (3, .int u27_x3), (4, .int q.2.1)])) : o_At p l e rm_MM_sort s m args below meth c Q m_cls D A 5 71 [] (m_cw ad ca ky ty u27_rt u27_Ni u27_Np u27_No u27_Nx u27_Nf u27_Na u27_Nh Nq u27_Nj u27_M0 u27_M1) [(0, .ref (ad 0)), (1, .int u27_x1), (2, .int u27_x2), (3, .int u27_x3), (4, .int x4)] := by
  unfold m_MM_sort_j71 at h
  intro H locs ls hP hS hl
  have C0 := C
  obtain ⟨hx, hb, -, -, -, hown, hts, hK, -, -⟩ := C0
  refine lv_aload_n hx hb d_MM_sort_71 rfl (lv_at hl 0 rfl) ?_
  refine o_get (v := .ref (ad 31)) C in_MM hP 0 mw_0 rfl 51 (by decide) k_8_41 rfl rfl d_MM_sort_72 ?_
  refine lv_iload hx hb d_MM_sort_75 (lv_at hl 4 rfl) ?_
  refine lv_aload_n hx hb d_MM_sort_77 rfl (lv_at hl 0 rfl) ?_
  refine o_get (v := .ref (ad 31)) C in_MM hP 0 mw_0 rfl 51 (by decide) k_8_41 rfl rfl d_MM_sort_78 ?_
  refine lv_iload hx hb d_MM_sort_81 (lv_at hl 4 rfl) ?_
  refine lv_iconst (v := (1:Int32)) hx hb d_MM_sort_83 (by decide) ?_
  refine lv_isub hx hb d_MM_sort_84 ?_
  obtain ⟨g7, h⟩ := o_gd_some h
  refine o_iald (f := (NQ_pairValue Nq)) C hP 31 30 mw_31 rfl g7 d_MM_sort_85 ?_
  obtain ⟨g8, h⟩ := o_gd_some h
  refine o_iast (f := (NQ_pairValue Nq)) (w1 := (m_cw ad ca ky ty u27_rt u27_Ni u27_Np u27_No u27_Nx u27_Nf u27_Na u27_Nh (NQ_mk (upd (NQ_pairValue Nq) x4.toNatClampNeg ((NQ_pairValue Nq) (x4 - (1:Int32)).toNatClampNeg)) (NQ_pairKey Nq) (NQ_pairs Nq)) u27_Nj u27_M0 u27_M1)) C hP (hDD _ _ _ _ _ _ _ _ _ _ _ _) hS 31 30 mw_31 rfl g8 rfl d_MM_sort_86 (fun H locs hP hS => ?_)
  refine lv_aload_n hx hb d_MM_sort_87 rfl (lv_at hl 0 rfl) ?_
  refine o_get (v := .ref (ad 32)) C in_MM hP 0 mw_0 rfl 52 (by decide) k_8_42 rfl rfl d_MM_sort_88 ?_
  refine lv_iload hx hb d_MM_sort_91 (lv_at hl 4 rfl) ?_
  refine lv_aload_n hx hb d_MM_sort_93 rfl (lv_at hl 0 rfl) ?_
  refine o_get (v := .ref (ad 32)) C in_MM hP 0 mw_0 rfl 52 (by decide) k_8_42 rfl rfl d_MM_sort_94 ?_
  refine lv_iload hx hb d_MM_sort_97 (lv_at hl 4 rfl) ?_
  refine lv_iconst (v := (1:Int32)) hx hb d_MM_sort_99 (by decide) ?_
  refine lv_isub hx hb d_MM_sort_100 ?_
  obtain ⟨g9, h⟩ := o_gd_some h
  refine o_iald (f := (NQ_pairKey Nq)) C hP 32 31 mw_32 rfl g9 d_MM_sort_101 ?_
  obtain ⟨g10, h⟩ := o_gd_some h
  refine o_iast (f := (NQ_pairKey Nq)) (w1 := (m_cw ad ca ky ty u27_rt u27_Ni u27_Np u27_No u27_Nx u27_Nf u27_Na u27_Nh (NQ_mk (upd (NQ_pairValue Nq) x4.toNatClampNeg ((NQ_pairValue Nq) (x4 - (1:Int32)).toNatClampNeg)) (upd (NQ_pairKey Nq) x4.toNatClampNeg ((NQ_pairKey Nq) (x4 - (1:Int32)).toNatClampNeg)) (NQ_pairs Nq)) u27_Nj u27_M0 u27_M1)) C hP (hDD _ _ _ _ _ _ _ _ _ _ _ _) hS 32 31 mw_32 rfl g10 rfl d_MM_sort_102 (fun H locs hP hS => ?_)
  obtain ⟨x4_103, ex4_103⟩ : ∃ y : Int32, y = x4 + (-1:Int32) := ⟨_, rfl⟩
  replace h := o_nm_at ex4_103 h
  refine lv_iinc (v := x4_103) (lv' := [(4, .int x4_103), (0, .ref (ad 0)), (1, .int u27_x1), (2, .int u27_x2), (3, .int u27_x3)]) hx hb d_MM_sort_103 hl (k := 4) rfl (by rw [ex4_103]; rfl) (by decide) rfl (fun ls hl => ?_)
  refine lv_goto (tgt := 27) hx hb d_MM_sort_106 (by decide) ?_
  cases h
  exact h0 rfl _ _ _ hP hS (lv_sub hl [1, 2, 3, 4, 0] rfl)
set_option maxHeartbeats 4000000 in
set_option maxRecDepth 100000 in
theorem f_MM_sort_b27 {E : (Nat → Prop) → State → Heap → Prop} {p : Program} {l : Launch} {e : Env} {s : State} {m : MethodId} {args : Array Value} {below : List Frame} {meth : Method} {c : Code} {D : va_G} {ad kd sd vd xd : Nat → Nat} {ca : Nat → ClassId} {A : Nat → Prop} {ky ty : Nat → Option Nat} {Q : State → Prop} (hE : o_EK E kd sd vd xd) (hKy : m_KY ky ty sd) (C : o_Cx E p s m args meth c D m_cls (m_tys ca) "SchemaJudgeModel" b_MM_sort none 5 cc_MM_sort A) (hDD : ∀ (rt : Nat) (Ni : SNI) (Np : SNP) (No : SNO) (Nx : SNX) (Nf : SNF) (Na : SNA) (Nh : SNH) (Nq : SNQ) (Nj : SNJ) (M0 : SMT) (M1 : SMT), va_D A (m_cw ad ca ky ty rt Ni Np No Nx Nf Na Nh Nq Nj M0 M1)) (n : Nat) (u27_x1 : Int32) (u27_x2 : Int32) (u27_x3 : Int32) (u27_Ni : SNI) (u27_Np : SNP) (u27_No : SNO) (u27_Nx : SNX) (u27_Nf : SNF) (u27_Na : SNA) (u27_Nh : SNH) (u27_Nj : SNJ) (u27_M0 : SMT) (u27_M1 : SMT) (u27_rt : Nat) (z : Int32 × SNQ) (q : Nat × Int32 × SNQ) (h : m_MM_sort_b27 n u27_x1 u27_x2 u27_x3 z = some q) (h0 : q.1 = 0 → o_At p l e rm_MM_sort s m args below meth c Q m_cls D A 5 27 [] (m_cw ad ca ky ty u27_rt u27_Ni u27_Np u27_No u27_Nx u27_Nf u27_Na u27_Nh q.2.2 u27_Nj u27_M0 u27_M1) [(0, .ref (ad 0)), (1, .int u27_x1), (2, .int u27_x2), (3, .int u27_x3), (4, .int q.2.1)]) (h1 : q.1 ≠ 0 → (o_At p l e rm_MM_sort s m args below meth c Q m_cls D A 5 109 [] (m_cw ad ca ky ty u27_rt u27_Ni u27_Np u27_No u27_Nx u27_Nf u27_Na u27_Nh q.2.2 u27_Nj u27_M0 u27_M1) [(0, .ref (ad 0)), (1, .int u27_x1), (2, .int u27_x2), (3, .int u27_x3), (4, .int q.2.1)])) : o_At p l e rm_MM_sort s m args below meth c Q m_cls D A 5 27 [] (m_cw ad ca ky ty u27_rt u27_Ni u27_Np u27_No u27_Nx u27_Nf u27_Na u27_Nh z.2 u27_Nj u27_M0 u27_M1) [(0, .ref (ad 0)), (1, .int u27_x1), (2, .int u27_x2), (3, .int u27_x3), (4, .int z.1)] := by
  unfold m_MM_sort_b27 at h
  intro H locs ls hP hS hl
  have C0 := C
  obtain ⟨hx, hb, -, -, -, hown, hts, hK, -, -⟩ := C0
  refine lv_iload hx hb d_MM_sort_27 (lv_at hl 4 rfl) ?_
  refine lv_if_le (tgt := 109) hx hb d_MM_sort_29 (by decide) (fun c4 => ?_) (fun c4 => ?_)
  · replace h := o_tt c4 h
    cases h
    exact h1 (Nat.succ_ne_zero 0) _ _ _ hP hS (lv_sub hl [0, 1, 2, 3, 4] rfl)
  · replace h := o_ff c4 h
    refine lv_aload_n hx hb d_MM_sort_32 rfl (lv_at hl 0 rfl) ?_
    refine o_get (v := .ref (ad 31)) C in_MM hP 0 mw_0 rfl 51 (by decide) k_8_41 rfl rfl d_MM_sort_33 ?_
    refine lv_iload hx hb d_MM_sort_36 (lv_at hl 4 rfl) ?_
    refine lv_iconst (v := (1:Int32)) hx hb d_MM_sort_38 (by decide) ?_
    refine lv_isub hx hb d_MM_sort_39 ?_
    obtain ⟨g5, h⟩ := o_gd_some h
    refine o_iald (f := (NQ_pairValue z.2)) C hP 31 30 mw_31 rfl g5 d_MM_sort_40 ?_
    refine lv_iload_n hx hb d_MM_sort_41 rfl (lv_at hl 2 rfl) ?_
    refine lv_icmp_gt (tgt := 71) hx hb d_MM_sort_42 (by decide) (fun c6 => ?_) (fun c6 => ?_)
    · replace h := o_tt c6 h
      exact f_MM_sort_j71 hE hKy C hDD n u27_x1 u27_x2 u27_x3 u27_Ni u27_Np u27_No u27_Nx u27_Nf u27_Na u27_Nh u27_Nj u27_M0 u27_M1 u27_rt z.1 z.2 h h0 h1 _ _ _ hP hS (lv_sub hl [0, 1, 2, 3, 4] rfl)
    · replace h := o_ff c6 h
      refine lv_aload_n hx hb d_MM_sort_45 rfl (lv_at hl 0 rfl) ?_
      refine o_get (v := .ref (ad 31)) C in_MM hP 0 mw_0 rfl 51 (by decide) k_8_41 rfl rfl d_MM_sort_46 ?_
      refine lv_iload hx hb d_MM_sort_49 (lv_at hl 4 rfl) ?_
      refine lv_iconst (v := (1:Int32)) hx hb d_MM_sort_51 (by decide) ?_
      refine lv_isub hx hb d_MM_sort_52 ?_
      obtain ⟨g11, h⟩ := o_gd_some h
      refine o_iald (f := (NQ_pairValue z.2)) C hP 31 30 mw_31 rfl g11 d_MM_sort_53 ?_
      refine lv_iload_n hx hb d_MM_sort_54 rfl (lv_at hl 2 rfl) ?_
      refine lv_icmp_ne (tgt := 109) hx hb d_MM_sort_55 (by decide) (fun c12 => ?_) (fun c12 => ?_)
      · replace h := o_ff c12 h
        cases h
        exact h1 (Nat.succ_ne_zero 0) _ _ _ hP hS (lv_sub hl [0, 1, 2, 3, 4] rfl)
      · replace h := o_tt c12 h
        refine lv_aload_n hx hb d_MM_sort_58 rfl (lv_at hl 0 rfl) ?_
        refine o_get (v := .ref (ad 32)) C in_MM hP 0 mw_0 rfl 52 (by decide) k_8_42 rfl rfl d_MM_sort_59 ?_
        refine lv_iload hx hb d_MM_sort_62 (lv_at hl 4 rfl) ?_
        refine lv_iconst (v := (1:Int32)) hx hb d_MM_sort_64 (by decide) ?_
        refine lv_isub hx hb d_MM_sort_65 ?_
        obtain ⟨g13, h⟩ := o_gd_some h
        refine o_iald (f := (NQ_pairKey z.2)) C hP 32 31 mw_32 rfl g13 d_MM_sort_66 ?_
        refine lv_iload_n hx hb d_MM_sort_67 rfl (lv_at hl 3 rfl) ?_
        refine lv_icmp_le (tgt := 109) hx hb d_MM_sort_68 (by decide) (fun c14 => ?_) (fun c14 => ?_)
        · replace h := o_tt c14 h
          cases h
          exact h1 (Nat.succ_ne_zero 0) _ _ _ hP hS (lv_sub hl [0, 1, 2, 3, 4] rfl)
        · replace h := o_ff c14 h
          exact f_MM_sort_j71 hE hKy C hDD n u27_x1 u27_x2 u27_x3 u27_Ni u27_Np u27_No u27_Nx u27_Nf u27_Na u27_Nh u27_Nj u27_M0 u27_M1 u27_rt z.1 z.2 h h0 h1 _ _ _ hP hS (lv_sub hl [0, 1, 2, 3, 4] rfl)
set_option maxHeartbeats 4000000 in
set_option maxRecDepth 100000 in
theorem f_MM_sort_j109 {E : (Nat → Prop) → State → Heap → Prop} {p : Program} {l : Launch} {e : Env} {s : State} {m : MethodId} {args : Array Value} {below : List Frame} {meth : Method} {c : Code} {D : va_G} {ad kd sd vd xd : Nat → Nat} {ca : Nat → ClassId} {A : Nat → Prop} {ky ty : Nat → Option Nat} {Q : State → Prop} (hE : o_EK E kd sd vd xd) (hKy : m_KY ky ty sd) (C : o_Cx E p s m args meth c D m_cls (m_tys ca) "SchemaJudgeModel" b_MM_sort none 5 cc_MM_sort A) (hDD : ∀ (rt : Nat) (Ni : SNI) (Np : SNP) (No : SNO) (Nx : SNX) (Nf : SNF) (Na : SNA) (Nh : SNH) (Nq : SNQ) (Nj : SNJ) (M0 : SMT) (M1 : SMT), va_D A (m_cw ad ca ky ty rt Ni Np No Nx Nf Na Nh Nq Nj M0 M1)) (n : Nat) (u2_Ni : SNI) (u2_Np : SNP) (u2_No : SNO) (u2_Nx : SNX) (u2_Nf : SNF) (u2_Na : SNA) (u2_Nh : SNH) (u2_Nj : SNJ) (u2_M0 : SMT) (u2_M1 : SMT) (u2_rt : Nat) (x1 : Int32) (x2 : Int32) (x3 : Int32) (x4 : Int32) (Nq : SNQ) {q : Nat × Int32 × SNQ} (h : m_MM_sort_j109 n x1 x2 x3 x4 Nq = some q) (h0 : q.1 = 0 → o_At p l e rm_MM_sort s m args below meth c Q m_cls D A 5 2 [] (m_cw ad ca ky ty u2_rt u2_Ni u2_Np u2_No u2_Nx u2_Nf u2_Na u2_Nh q.2.2 u2_Nj u2_M0 u2_M1) [(0, .ref (ad 0)), (1, .int q.2.1)]) (h1 : q.1 ≠ 0 → (o_At p l e rm_MM_sort s m args below meth c Q m_cls D A 5 131 [] (m_cw ad ca ky ty u2_rt u2_Ni u2_Np u2_No u2_Nx u2_Nf u2_Na u2_Nh q.2.2 u2_Nj u2_M0 u2_M1) [(0, .ref (ad 0))])) : o_At p l e rm_MM_sort s m args below meth c Q m_cls D A 5 109 [] (m_cw ad ca ky ty u2_rt u2_Ni u2_Np u2_No u2_Nx u2_Nf u2_Na u2_Nh Nq u2_Nj u2_M0 u2_M1) [(0, .ref (ad 0)), (1, .int x1), (2, .int x2), (3, .int x3), (4, .int x4)] := by
  unfold m_MM_sort_j109 at h
  intro H locs ls hP hS hl
  have C0 := C
  obtain ⟨hx, hb, -, -, -, hown, hts, hK, -, -⟩ := C0
  refine lv_aload_n hx hb d_MM_sort_109 rfl (lv_at hl 0 rfl) ?_
  refine o_get (v := .ref (ad 31)) C in_MM hP 0 mw_0 rfl 51 (by decide) k_8_41 rfl rfl d_MM_sort_110 ?_
  refine lv_iload hx hb d_MM_sort_113 (lv_at hl 4 rfl) ?_
  refine lv_iload_n hx hb d_MM_sort_115 rfl (lv_at hl 2 rfl) ?_
  obtain ⟨g15, h⟩ := o_gd_some h
  refine o_iast (f := (NQ_pairValue Nq)) (w1 := (m_cw ad ca ky ty u2_rt u2_Ni u2_Np u2_No u2_Nx u2_Nf u2_Na u2_Nh (NQ_mk (upd (NQ_pairValue Nq) x4.toNatClampNeg x2) (NQ_pairKey Nq) (NQ_pairs Nq)) u2_Nj u2_M0 u2_M1)) C hP (hDD _ _ _ _ _ _ _ _ _ _ _ _) hS 31 30 mw_31 rfl g15 rfl d_MM_sort_116 (fun H locs hP hS => ?_)
  refine lv_aload_n hx hb d_MM_sort_117 rfl (lv_at hl 0 rfl) ?_
  refine o_get (v := .ref (ad 32)) C in_MM hP 0 mw_0 rfl 52 (by decide) k_8_42 rfl rfl d_MM_sort_118 ?_
  refine lv_iload hx hb d_MM_sort_121 (lv_at hl 4 rfl) ?_
  refine lv_iload_n hx hb d_MM_sort_123 rfl (lv_at hl 3 rfl) ?_
  obtain ⟨g16, h⟩ := o_gd_some h
  refine o_iast (f := (NQ_pairKey Nq)) (w1 := (m_cw ad ca ky ty u2_rt u2_Ni u2_Np u2_No u2_Nx u2_Nf u2_Na u2_Nh (NQ_mk (upd (NQ_pairValue Nq) x4.toNatClampNeg x2) (upd (NQ_pairKey Nq) x4.toNatClampNeg x3) (NQ_pairs Nq)) u2_Nj u2_M0 u2_M1)) C hP (hDD _ _ _ _ _ _ _ _ _ _ _ _) hS 32 31 mw_32 rfl g16 rfl d_MM_sort_124 (fun H locs hP hS => ?_)
  obtain ⟨x1_125, ex1_125⟩ : ∃ y : Int32, y = x1 + (1:Int32) := ⟨_, rfl⟩
  replace h := o_nm_at ex1_125 h
  refine lv_iinc (v := x1_125) (lv' := [(1, .int x1_125), (0, .ref (ad 0)), (2, .int x2), (3, .int x3), (4, .int x4)]) hx hb d_MM_sort_125 hl (k := 1) rfl (by rw [ex1_125]; rfl) (by decide) rfl (fun ls hl => ?_)
  refine lv_goto (tgt := 2) hx hb d_MM_sort_128 (by decide) ?_
  cases h
  exact h0 rfl _ _ _ hP hS (lv_sub hl [1, 0] rfl)
set_option maxHeartbeats 4000000 in
set_option maxRecDepth 100000 in
theorem f_MM_sort_b2 {E : (Nat → Prop) → State → Heap → Prop} {p : Program} {l : Launch} {e : Env} {s : State} {m : MethodId} {args : Array Value} {below : List Frame} {meth : Method} {c : Code} {D : va_G} {ad kd sd vd xd : Nat → Nat} {ca : Nat → ClassId} {A : Nat → Prop} {ky ty : Nat → Option Nat} {Q : State → Prop} (hE : o_EK E kd sd vd xd) (hKy : m_KY ky ty sd) (C : o_Cx E p s m args meth c D m_cls (m_tys ca) "SchemaJudgeModel" b_MM_sort none 5 cc_MM_sort A) (hDD : ∀ (rt : Nat) (Ni : SNI) (Np : SNP) (No : SNO) (Nx : SNX) (Nf : SNF) (Na : SNA) (Nh : SNH) (Nq : SNQ) (Nj : SNJ) (M0 : SMT) (M1 : SMT), va_D A (m_cw ad ca ky ty rt Ni Np No Nx Nf Na Nh Nq Nj M0 M1)) (n : Nat) (u2_Ni : SNI) (u2_Np : SNP) (u2_No : SNO) (u2_Nx : SNX) (u2_Nf : SNF) (u2_Na : SNA) (u2_Nh : SNH) (u2_Nj : SNJ) (u2_M0 : SMT) (u2_M1 : SMT) (u2_rt : Nat) (z : Int32 × SNQ) (q : Nat × Int32 × SNQ) (h : m_MM_sort_b2 n z = some q) (h0 : q.1 = 0 → o_At p l e rm_MM_sort s m args below meth c Q m_cls D A 5 2 [] (m_cw ad ca ky ty u2_rt u2_Ni u2_Np u2_No u2_Nx u2_Nf u2_Na u2_Nh q.2.2 u2_Nj u2_M0 u2_M1) [(0, .ref (ad 0)), (1, .int q.2.1)]) (h1 : q.1 ≠ 0 → (o_At p l e rm_MM_sort s m args below meth c Q m_cls D A 5 131 [] (m_cw ad ca ky ty u2_rt u2_Ni u2_Np u2_No u2_Nx u2_Nf u2_Na u2_Nh q.2.2 u2_Nj u2_M0 u2_M1) [(0, .ref (ad 0))])) : o_At p l e rm_MM_sort s m args below meth c Q m_cls D A 5 2 [] (m_cw ad ca ky ty u2_rt u2_Ni u2_Np u2_No u2_Nx u2_Nf u2_Na u2_Nh z.2 u2_Nj u2_M0 u2_M1) [(0, .ref (ad 0)), (1, .int z.1)] := by
  unfold m_MM_sort_b2 at h
  intro H locs ls hP hS hl
  have C0 := C
  obtain ⟨hx, hb, -, -, -, hown, hts, hK, -, -⟩ := C0
  refine lv_iload_n hx hb d_MM_sort_2 rfl (lv_at hl 1 rfl) ?_
  refine lv_aload_n hx hb d_MM_sort_3 rfl (lv_at hl 0 rfl) ?_
  refine o_get (v := .int (NQ_pairs z.2)) C in_MM hP 0 mw_0 rfl 53 (by decide) k_8_43 rfl rfl d_MM_sort_4 ?_
  refine lv_icmp_ge (tgt := 131) hx hb d_MM_sort_7 (by decide) (fun c1 => ?_) (fun c1 => ?_)
  · replace h := o_tt c1 h
    cases h
    exact h1 (Nat.succ_ne_zero 0) _ _ _ hP hS (lv_sub hl [0] rfl)
  · replace h := o_ff c1 h
    refine lv_aload_n hx hb d_MM_sort_10 rfl (lv_at hl 0 rfl) ?_
    refine o_get (v := .ref (ad 31)) C in_MM hP 0 mw_0 rfl 51 (by decide) k_8_41 rfl rfl d_MM_sort_11 ?_
    refine lv_iload_n hx hb d_MM_sort_14 rfl (lv_at hl 1 rfl) ?_
    obtain ⟨g2, h⟩ := o_gd_some h
    refine o_iald (f := (NQ_pairValue z.2)) C hP 31 30 mw_31 rfl g2 d_MM_sort_15 ?_
    refine lv_topi (fun x2_16 ex2_16 => ?_)
    replace h := o_nm_at ex2_16 h
    refine lv_istore_n (lv' := [(2, .int x2_16), (0, .ref (ad 0)), (1, .int z.1)]) hx hb d_MM_sort_16 rfl hl (by decide) rfl (fun ls hl => ?_)
    refine lv_aload_n hx hb d_MM_sort_17 rfl (lv_at hl 1 rfl) ?_
    refine o_get (v := .ref (ad 32)) C in_MM hP 0 mw_0 rfl 52 (by decide) k_8_42 rfl rfl d_MM_sort_18 ?_
    refine lv_iload_n hx hb d_MM_sort_21 rfl (lv_at hl 2 rfl) ?_
    obtain ⟨g3, h⟩ := o_gd_some h
    refine o_iald (f := (NQ_pairKey z.2)) C hP 32 31 mw_32 rfl g3 d_MM_sort_22 ?_
    refine lv_topi (fun x3_23 ex3_23 => ?_)
    replace h := o_nm_at ex3_23 h
    refine lv_istore_n (lv' := [(3, .int x3_23), (2, .int x2_16), (0, .ref (ad 0)), (1, .int z.1)]) hx hb d_MM_sort_23 rfl hl (by decide) rfl (fun ls hl => ?_)
    refine lv_iload_n hx hb d_MM_sort_24 rfl (lv_at hl 3 rfl) ?_
    refine lv_istore (lv' := [(4, .int z.1), (3, .int x3_23), (2, .int x2_16), (0, .ref (ad 0)), (1, .int z.1)]) hx hb d_MM_sort_25 hl (by decide) rfl (fun ls hl => ?_)
    obtain ⟨q1, hq1, h⟩ := o_bd_some h
    refine o_sim2 (AH := fun zz => o_At p l e rm_MM_sort s m args below meth c _ m_cls D A 5 27 [] (m_cw ad ca ky ty u2_rt u2_Ni u2_Np u2_No u2_Nx u2_Nf u2_Na u2_Nh zz.2 u2_Nj u2_M0 u2_M1) [(0, .ref (ad 0)), (1, .int z.1), (2, .int x2_16), (3, .int x3_23), (4, .int zz.1)]) (AX := fun qq => o_At p l e rm_MM_sort s m args below meth c _ m_cls D A 5 109 [] (m_cw ad ca ky ty u2_rt u2_Ni u2_Np u2_No u2_Nx u2_Nf u2_Na u2_Nh qq.2.2 u2_Nj u2_M0 u2_M1) [(0, .ref (ad 0)), (1, .int z.1), (2, .int x2_16), (3, .int x3_23), (4, .int qq.2.1)]) (fun zz qq h h0 h1 => f_MM_sort_b27 hE hKy C hDD n z.1 x2_16 x3_23 u2_Ni u2_Np u2_No u2_Nx u2_Nf u2_Na u2_Nh u2_Nj u2_M0 u2_M1 u2_rt zz qq h h0 h1) n _ q1 hq1 ?_ _ _ _ hP hS (lv_sub hl [3, 4, 2, 1, 0] rfl)
    intro H locs ls hP hS hl
    exact f_MM_sort_j109 hE hKy C hDD n u2_Ni u2_Np u2_No u2_Nx u2_Nf u2_Na u2_Nh u2_Nj u2_M0 u2_M1 u2_rt z.1 x2_16 x3_23 q1.2.1 q1.2.2 h h0 h1 _ _ _ hP hS (lv_sub hl [0, 1, 2, 3, 4] rfl)
set_option maxHeartbeats 4000000 in
set_option maxRecDepth 100000 in
theorem f_MM_sort_j184 {E : (Nat → Prop) → State → Heap → Prop} {p : Program} {l : Launch} {e : Env} {s : State} {m : MethodId} {args : Array Value} {below : List Frame} {meth : Method} {c : Code} {D : va_G} {ad kd sd vd xd : Nat → Nat} {ca : Nat → ClassId} {A : Nat → Prop} {ky ty : Nat → Option Nat} {Q : State → Prop} (hE : o_EK E kd sd vd xd) (hKy : m_KY ky ty sd) (C : o_Cx E p s m args meth c D m_cls (m_tys ca) "SchemaJudgeModel" b_MM_sort none 5 cc_MM_sort A) (hDD : ∀ (rt : Nat) (Ni : SNI) (Np : SNP) (No : SNO) (Nx : SNX) (Nf : SNF) (Na : SNA) (Nh : SNH) (Nq : SNQ) (Nj : SNJ) (M0 : SMT) (M1 : SMT), va_D A (m_cw ad ca ky ty rt Ni Np No Nx Nf Na Nh Nq Nj M0 M1)) (n : Nat) (u135_Ni : SNI) (u135_Np : SNP) (u135_No : SNO) (u135_Nx : SNX) (u135_Nf : SNF) (u135_Na : SNA) (u135_Nh : SNH) (u135_Nj : SNJ) (u135_M0 : SMT) (u135_M1 : SMT) (u135_rt : Nat) (x1 : Int32) (x2 : Int32) (Nq : SNQ) {q : Nat × Int32 × Int32 × SNQ} (h : m_MM_sort_j184 n x1 x2 Nq = some q) (h0 : q.1 = 0 → o_At p l e rm_MM_sort s m args below meth c Q m_cls D A 5 135 [] (m_cw ad ca ky ty u135_rt u135_Ni u135_Np u135_No u135_Nx u135_Nf u135_Na u135_Nh q.2.2.2 u135_Nj u135_M0 u135_M1) [(0, .ref (ad 0)), (1, .int q.2.1), (2, .int q.2.2.1)]) (h1 : q.1 ≠ 0 → (o_At p l e rm_MM_sort s m args below meth c Q m_cls D A 5 217 [] (m_cw ad ca ky ty u135_rt u135_Ni u135_Np u135_No u135_Nx u135_Nf u135_Na u135_Nh q.2.2.2 u135_Nj u135_M0 u135_M1) [(0, .ref (ad 0)), (1, .int q.2.1)])) : o_At p l e rm_MM_sort s m args below meth c Q m_cls D A 5 184 [] (m_cw ad ca ky ty u135_rt u135_Ni u135_Np u135_No u135_Nx u135_Nf u135_Na u135_Nh Nq u135_Nj u135_M0 u135_M1) [(0, .ref (ad 0)), (1, .int x1), (2, .int x2)] := by
  unfold m_MM_sort_j184 at h
  intro H locs ls hP hS hl
  have C0 := C
  obtain ⟨hx, hb, -, -, -, hown, hts, hK, -, -⟩ := C0
  refine lv_aload_n hx hb d_MM_sort_184 rfl (lv_at hl 0 rfl) ?_
  refine o_get (v := .ref (ad 31)) C in_MM hP 0 mw_0 rfl 51 (by decide) k_8_41 rfl rfl d_MM_sort_185 ?_
  refine lv_iload_n hx hb d_MM_sort_188 rfl (lv_at hl 1 rfl) ?_
  refine lv_aload_n hx hb d_MM_sort_189 rfl (lv_at hl 0 rfl) ?_
  refine o_get (v := .ref (ad 31)) C in_MM hP 0 mw_0 rfl 51 (by decide) k_8_41 rfl rfl d_MM_sort_190 ?_
  refine lv_iload_n hx hb d_MM_sort_193 rfl (lv_at hl 2 rfl) ?_
  obtain ⟨g19, h⟩ := o_gd_some h
  refine o_iald (f := (NQ_pairValue Nq)) C hP 31 30 mw_31 rfl g19 d_MM_sort_194 ?_
  obtain ⟨g20, h⟩ := o_gd_some h
  refine o_iast (f := (NQ_pairValue Nq)) (w1 := (m_cw ad ca ky ty u135_rt u135_Ni u135_Np u135_No u135_Nx u135_Nf u135_Na u135_Nh (NQ_mk (upd (NQ_pairValue Nq) x1.toNatClampNeg ((NQ_pairValue Nq) x2.toNatClampNeg)) (NQ_pairKey Nq) (NQ_pairs Nq)) u135_Nj u135_M0 u135_M1)) C hP (hDD _ _ _ _ _ _ _ _ _ _ _ _) hS 31 30 mw_31 rfl g20 rfl d_MM_sort_195 (fun H locs hP hS => ?_)
  refine lv_aload_n hx hb d_MM_sort_196 rfl (lv_at hl 0 rfl) ?_
  refine o_get (v := .ref (ad 32)) C in_MM hP 0 mw_0 rfl 52 (by decide) k_8_42 rfl rfl d_MM_sort_197 ?_
  refine lv_iload_n hx hb d_MM_sort_200 rfl (lv_at hl 1 rfl) ?_
  obtain ⟨x1_201, ex1_201⟩ : ∃ y : Int32, y = x1 + (1:Int32) := ⟨_, rfl⟩
  replace h := o_nm_at ex1_201 h
  refine lv_iinc (v := x1_201) (lv' := [(1, .int x1_201), (0, .ref (ad 0)), (2, .int x2)]) hx hb d_MM_sort_201 hl (k := 1) rfl (by rw [ex1_201]; rfl) (by decide) rfl (fun ls hl => ?_)
  refine lv_aload_n hx hb d_MM_sort_204 rfl (lv_at hl 1 rfl) ?_
  refine o_get (v := .ref (ad 32)) C in_MM hP 0 mw_0 rfl 52 (by decide) k_8_42 rfl rfl d_MM_sort_205 ?_
  refine lv_iload_n hx hb d_MM_sort_208 rfl (lv_at hl 2 rfl) ?_
  obtain ⟨g21, h⟩ := o_gd_some h
  refine o_iald (f := (NQ_pairKey Nq)) C hP 32 31 mw_32 rfl g21 d_MM_sort_209 ?_
  obtain ⟨g22, h⟩ := o_gd_some h
  refine o_iast (f := (NQ_pairKey Nq)) (w1 := (m_cw ad ca ky ty u135_rt u135_Ni u135_Np u135_No u135_Nx u135_Nf u135_Na u135_Nh (NQ_mk (upd (NQ_pairValue Nq) x1.toNatClampNeg ((NQ_pairValue Nq) x2.toNatClampNeg)) (upd (NQ_pairKey Nq) x1.toNatClampNeg ((NQ_pairKey Nq) x2.toNatClampNeg)) (NQ_pairs Nq)) u135_Nj u135_M0 u135_M1)) C hP (hDD _ _ _ _ _ _ _ _ _ _ _ _) hS 32 31 mw_32 rfl g22 rfl d_MM_sort_210 (fun H locs hP hS => ?_)
  obtain ⟨x2_211, ex2_211⟩ : ∃ y : Int32, y = x2 + (1:Int32) := ⟨_, rfl⟩
  replace h := o_nm_at ex2_211 h
  refine lv_iinc (v := x2_211) (lv' := [(2, .int x2_211), (1, .int x1_201), (0, .ref (ad 0))]) hx hb d_MM_sort_211 hl (k := 2) rfl (by rw [ex2_211]; rfl) (by decide) rfl (fun ls hl => ?_)
  refine lv_goto (tgt := 135) hx hb d_MM_sort_214 (by decide) ?_
  cases h
  exact h0 rfl _ _ _ hP hS (lv_sub hl [2, 1, 0] rfl)
set_option maxHeartbeats 4000000 in
set_option maxRecDepth 100000 in
theorem f_MM_sort_b135 {E : (Nat → Prop) → State → Heap → Prop} {p : Program} {l : Launch} {e : Env} {s : State} {m : MethodId} {args : Array Value} {below : List Frame} {meth : Method} {c : Code} {D : va_G} {ad kd sd vd xd : Nat → Nat} {ca : Nat → ClassId} {A : Nat → Prop} {ky ty : Nat → Option Nat} {Q : State → Prop} (hE : o_EK E kd sd vd xd) (hKy : m_KY ky ty sd) (C : o_Cx E p s m args meth c D m_cls (m_tys ca) "SchemaJudgeModel" b_MM_sort none 5 cc_MM_sort A) (hDD : ∀ (rt : Nat) (Ni : SNI) (Np : SNP) (No : SNO) (Nx : SNX) (Nf : SNF) (Na : SNA) (Nh : SNH) (Nq : SNQ) (Nj : SNJ) (M0 : SMT) (M1 : SMT), va_D A (m_cw ad ca ky ty rt Ni Np No Nx Nf Na Nh Nq Nj M0 M1)) (n : Nat) (u135_Ni : SNI) (u135_Np : SNP) (u135_No : SNO) (u135_Nx : SNX) (u135_Nf : SNF) (u135_Na : SNA) (u135_Nh : SNH) (u135_Nj : SNJ) (u135_M0 : SMT) (u135_M1 : SMT) (u135_rt : Nat) (z : Int32 × Int32 × SNQ) (q : Nat × Int32 × Int32 × SNQ) (h : m_MM_sort_b135 n z = some q) (h0 : q.1 = 0 → o_At p l e rm_MM_sort s m args below meth c Q m_cls D A 5 135 [] (m_cw ad ca ky ty u135_rt u135_Ni u135_Np u135_No u135_Nx u135_Nf u135_Na u135_Nh q.2.2.2 u135_Nj u135_M0 u135_M1) [(0, .ref (ad 0)), (1, .int q.2.1), (2, .int q.2.2.1)]) (h1 : q.1 ≠ 0 → (o_At p l e rm_MM_sort s m args below meth c Q m_cls D A 5 217 [] (m_cw ad ca ky ty u135_rt u135_Ni u135_Np u135_No u135_Nx u135_Nf u135_Na u135_Nh q.2.2.2 u135_Nj u135_M0 u135_M1) [(0, .ref (ad 0)), (1, .int q.2.1)])) : o_At p l e rm_MM_sort s m args below meth c Q m_cls D A 5 135 [] (m_cw ad ca ky ty u135_rt u135_Ni u135_Np u135_No u135_Nx u135_Nf u135_Na u135_Nh z.2.2 u135_Nj u135_M0 u135_M1) [(0, .ref (ad 0)), (1, .int z.1), (2, .int z.2.1)] := by
  unfold m_MM_sort_b135 at h
  intro H locs ls hP hS hl
  have C0 := C
  obtain ⟨hx, hb, -, -, -, hown, hts, hK, -, -⟩ := C0
  refine lv_iload_n hx hb d_MM_sort_135 rfl (lv_at hl 2 rfl) ?_
  refine lv_aload_n hx hb d_MM_sort_136 rfl (lv_at hl 0 rfl) ?_
  refine o_get (v := .int (NQ_pairs z.2.2)) C in_MM hP 0 mw_0 rfl 53 (by decide) k_8_43 rfl rfl d_MM_sort_137 ?_
  refine lv_icmp_ge (tgt := 217) hx hb d_MM_sort_140 (by decide) (fun c17 => ?_) (fun c17 => ?_)
  · replace h := o_tt c17 h
    cases h
    exact h1 (Nat.succ_ne_zero 0) _ _ _ hP hS (lv_sub hl [0, 1] rfl)
  · replace h := o_ff c17 h
    refine lv_iload_n hx hb d_MM_sort_143 rfl (lv_at hl 1 rfl) ?_
    refine lv_if_le (tgt := 184) hx hb d_MM_sort_144 (by decide) (fun c18 => ?_) (fun c18 => ?_)
    · replace h := o_tt c18 h
      exact f_MM_sort_j184 hE hKy C hDD n u135_Ni u135_Np u135_No u135_Nx u135_Nf u135_Na u135_Nh u135_Nj u135_M0 u135_M1 u135_rt z.1 z.2.1 z.2.2 h h0 h1 _ _ _ hP hS (lv_sub hl [0, 1, 2] rfl)
    · replace h := o_ff c18 h
      refine lv_aload_n hx hb d_MM_sort_147 rfl (lv_at hl 0 rfl) ?_
      refine o_get (v := .ref (ad 31)) C in_MM hP 0 mw_0 rfl 51 (by decide) k_8_41 rfl rfl d_MM_sort_148 ?_
      refine lv_iload_n hx hb d_MM_sort_151 rfl (lv_at hl 1 rfl) ?_
      refine lv_iconst (v := (1:Int32)) hx hb d_MM_sort_152 (by decide) ?_
      refine lv_isub hx hb d_MM_sort_153 ?_
      obtain ⟨g23, h⟩ := o_gd_some h
      refine o_iald (f := (NQ_pairValue z.2.2)) C hP 31 30 mw_31 rfl g23 d_MM_sort_154 ?_
      refine lv_aload_n hx hb d_MM_sort_155 rfl (lv_at hl 0 rfl) ?_
      refine o_get (v := .ref (ad 31)) C in_MM hP 0 mw_0 rfl 51 (by decide) k_8_41 rfl rfl d_MM_sort_156 ?_
      refine lv_iload_n hx hb d_MM_sort_159 rfl (lv_at hl 2 rfl) ?_
      obtain ⟨g24, h⟩ := o_gd_some h
      refine o_iald (f := (NQ_pairValue z.2.2)) C hP 31 30 mw_31 rfl g24 d_MM_sort_160 ?_
      refine lv_icmp_ne (tgt := 184) hx hb d_MM_sort_161 (by decide) (fun c25 => ?_) (fun c25 => ?_)
      · replace h := o_ff c25 h
        exact f_MM_sort_j184 hE hKy C hDD n u135_Ni u135_Np u135_No u135_Nx u135_Nf u135_Na u135_Nh u135_Nj u135_M0 u135_M1 u135_rt z.1 z.2.1 z.2.2 h h0 h1 _ _ _ hP hS (lv_sub hl [0, 1, 2] rfl)
      · replace h := o_tt c25 h
        refine lv_aload_n hx hb d_MM_sort_164 rfl (lv_at hl 0 rfl) ?_
        refine o_get (v := .ref (ad 32)) C in_MM hP 0 mw_0 rfl 52 (by decide) k_8_42 rfl rfl d_MM_sort_165 ?_
        refine lv_iload_n hx hb d_MM_sort_168 rfl (lv_at hl 1 rfl) ?_
        refine lv_iconst (v := (1:Int32)) hx hb d_MM_sort_169 (by decide) ?_
        refine lv_isub hx hb d_MM_sort_170 ?_
        obtain ⟨g26, h⟩ := o_gd_some h
        refine o_iald (f := (NQ_pairKey z.2.2)) C hP 32 31 mw_32 rfl g26 d_MM_sort_171 ?_
        refine lv_aload_n hx hb d_MM_sort_172 rfl (lv_at hl 0 rfl) ?_
        refine o_get (v := .ref (ad 32)) C in_MM hP 0 mw_0 rfl 52 (by decide) k_8_42 rfl rfl d_MM_sort_173 ?_
        refine lv_iload_n hx hb d_MM_sort_176 rfl (lv_at hl 2 rfl) ?_
        obtain ⟨g27, h⟩ := o_gd_some h
        refine o_iald (f := (NQ_pairKey z.2.2)) C hP 32 31 mw_32 rfl g27 d_MM_sort_177 ?_
        refine lv_icmp_ne (tgt := 184) hx hb d_MM_sort_178 (by decide) (fun c28 => ?_) (fun c28 => ?_)
        · replace h := o_ff c28 h
          exact f_MM_sort_j184 hE hKy C hDD n u135_Ni u135_Np u135_No u135_Nx u135_Nf u135_Na u135_Nh u135_Nj u135_M0 u135_M1 u135_rt z.1 z.2.1 z.2.2 h h0 h1 _ _ _ hP hS (lv_sub hl [0, 1, 2] rfl)
        · replace h := o_tt c28 h
          refine lv_goto (tgt := 211) hx hb d_MM_sort_181 (by decide) ?_
          obtain ⟨x2_211, ex2_211⟩ : ∃ y : Int32, y = z.2.1 + (1:Int32) := ⟨_, rfl⟩
          replace h := o_nm_at ex2_211 h
          refine lv_iinc (v := x2_211) (lv' := [(2, .int x2_211), (0, .ref (ad 0)), (1, .int z.1)]) hx hb d_MM_sort_211 hl (k := 2) rfl (by rw [ex2_211]; rfl) (by decide) rfl (fun ls hl => ?_)
          refine lv_goto (tgt := 135) hx hb d_MM_sort_214 (by decide) ?_
          cases h
          exact h0 rfl _ _ _ hP hS (lv_sub hl [1, 2, 0] rfl)
set_option maxHeartbeats 4000000 in
set_option maxRecDepth 100000 in
theorem e_MM_sort {E : (Nat → Prop) → State → Heap → Prop} {D : va_G} {ad kd sd vd xd : Nat → Nat} {ca : Nat → ClassId} {ky ty : Nat → Option Nat} (hE : o_EK E kd sd vd xd) (hKy : m_KY ky ty sd) (l : Launch) (n : Nat)  (Nq : SNQ) (Ni : SNI) (Np : SNP) (No : SNO) (Nx : SNX) (Nf : SNF) (Na : SNA) (Nh : SNH) (Nj : SNJ) (M0 : SMT) (M1 : SMT) (rt : Nat) {r : SNQ} (h : m_MM_sort n Nq = some r) : o_Cn E l D m_cls (m_tys ca) y_MM_sort cc_MM_sort rm_MM_sort [.ref (ad 0)] (m_cw ad ca ky ty rt Ni Np No Nx Nf Na Nh Nq Nj M0 M1) (m_cw ad ca ky ty rt Ni Np No Nx Nf Na Nh r Nj M0 M1) none := by
  refine o_Cn_of (by decide) (Nat.le_of_ble_eq_true rfl) ?_
  intro p e s m below meth c A ls C hD hP hS hl
  have hDD : ∀ (rt : Nat) (Ni : SNI) (Np : SNP) (No : SNO) (Nx : SNX) (Nf : SNF) (Na : SNA) (Nh : SNH) (Nq : SNQ) (Nj : SNJ) (M0 : SMT) (M1 : SMT), va_D A (m_cw ad ca ky ty rt Ni Np No Nx Nf Na Nh Nq Nj M0 M1) := fun _ _ _ _ _ _ _ _ _ _ _ _ => o_D_map hD rfl
  have hl : lv_has ls 5 [(0, .ref (ad 0))] := hl
  unfold m_MM_sort at h
  have C0 := C
  obtain ⟨hx, hb, -, -, -, hown, hts, hK, -, -⟩ := C0
  refine lv_iconst (v := (1:Int32)) hx hb d_MM_sort_0 (by decide) ?_
  refine lv_istore_n (lv' := [(1, .int (1:Int32)), (0, .ref (ad 0))]) hx hb d_MM_sort_1 rfl hl (by decide) rfl (fun ls hl => ?_)
  obtain ⟨q2, hq2, h⟩ := o_bd_some h
  refine o_sim2 (AH := fun zz => o_At p l e rm_MM_sort s m _ below meth c _ m_cls D A 5 2 [] (m_cw ad ca ky ty rt Ni Np No Nx Nf Na Nh zz.2 Nj M0 M1) [(0, .ref (ad 0)), (1, .int zz.1)]) (AX := fun qq => o_At p l e rm_MM_sort s m _ below meth c _ m_cls D A 5 131 [] (m_cw ad ca ky ty rt Ni Np No Nx Nf Na Nh qq.2.2 Nj M0 M1) [(0, .ref (ad 0))]) (fun zz qq h h0 h1 => f_MM_sort_b2 hE hKy C hDD n Ni Np No Nx Nf Na Nh Nj M0 M1 rt zz qq h h0 h1) n _ q2 hq2 ?_ _ _ _ hP hS (lv_sub hl [1, 0] rfl)
  intro H locs ls hP hS hl
  refine lv_iconst (v := (0:Int32)) hx hb d_MM_sort_131 (by decide) ?_
  refine lv_istore_n (lv' := [(1, .int (0:Int32)), (0, .ref (ad 0))]) hx hb d_MM_sort_132 rfl hl (by decide) rfl (fun ls hl => ?_)
  refine lv_iconst (v := (0:Int32)) hx hb d_MM_sort_133 (by decide) ?_
  refine lv_istore_n (lv' := [(2, .int (0:Int32)), (1, .int (0:Int32)), (0, .ref (ad 0))]) hx hb d_MM_sort_134 rfl hl (by decide) rfl (fun ls hl => ?_)
  obtain ⟨q3, hq3, h⟩ := o_bd_some h
  refine o_sim2 (AH := fun zz => o_At p l e rm_MM_sort s m _ below meth c _ m_cls D A 5 135 [] (m_cw ad ca ky ty rt Ni Np No Nx Nf Na Nh zz.2.2 Nj M0 M1) [(0, .ref (ad 0)), (1, .int zz.1), (2, .int zz.2.1)]) (AX := fun qq => o_At p l e rm_MM_sort s m _ below meth c _ m_cls D A 5 217 [] (m_cw ad ca ky ty rt Ni Np No Nx Nf Na Nh qq.2.2.2 Nj M0 M1) [(0, .ref (ad 0)), (1, .int qq.2.1)]) (fun zz qq h h0 h1 => f_MM_sort_b135 hE hKy C hDD n Ni Np No Nx Nf Na Nh Nj M0 M1 rt zz qq h h0 h1) n _ q3 hq3 ?_ _ _ _ hP hS (lv_sub hl [2, 1, 0] rfl)
  intro H locs ls hP hS hl
  refine lv_aload_n hx hb d_MM_sort_217 rfl (lv_at hl 0 rfl) ?_
  refine lv_iload_n hx hb d_MM_sort_218 rfl (lv_at hl 1 rfl) ?_
  refine o_put (v := .int q3.2.1) (ty := .int) (w1 := (m_cw ad ca ky ty rt Ni Np No Nx Nf Na Nh (NQ_mk (NQ_pairValue q3.2.2.2) (NQ_pairKey q3.2.2.2) q3.2.1) Nj M0 M1)) C in_MM t_MM t_MM_ok n_MM hP (hDD _ _ _ _ _ _ _ _ _ _ _ _) hS 0 mw_0 rfl 53 (by decide) k_8_43 rfl rfl (by decide +kernel) rfl rfl (Nat.le_of_ble_eq_true rfl) rfl d_MM_sort_219 (fun H locs hP hS => ?_)
  cases h
  exact o_rv C hP hS d_MM_sort_222
set_option maxHeartbeats 4000000 in
set_option maxRecDepth 100000 in
theorem f_MM_validate_j91 {E : (Nat → Prop) → State → Heap → Prop} {p : Program} {l : Launch} {e : Env} {s : State} {m : MethodId} {args : Array Value} {below : List Frame} {meth : Method} {c : Code} {D : va_G} {ad kd sd vd xd : Nat → Nat} {ca : Nat → ClassId} {A : Nat → Prop} {ky ty : Nat → Option Nat} (hE : o_EK E kd sd vd xd) (hKy : m_KY ky ty sd) (C : o_Cx E p s m args meth c D m_cls (m_tys ca) "SchemaJudgeModel" b_MM_validate (some .boolean) 2 cc_MM_validate A) (hDD : ∀ (rt : Nat) (Ni : SNI) (Np : SNP) (No : SNO) (Nx : SNX) (Nf : SNF) (Na : SNA) (Nh : SNH) (Nq : SNQ) (Nj : SNJ) (M0 : SMT) (M1 : SMT), va_D A (m_cw ad ca ky ty rt Ni Np No Nx Nf Na Nh Nq Nj M0 M1)) (n : Nat) (x1 : Int32) (M0 : SMT) (M1 : SMT) (Ni : SNI) (Np : SNP) (No : SNO) (Nx : SNX) (Nf : SNF) (Na : SNA) (Nq : SNQ) (Nj : SNJ) (rt : Nat) (Nh : SNH) {r : Int32 × SMT × SNI × SNP × SNO × SNX × SNQ × SNJ × Nat} (h : m_MM_validate_j91 n x1 M0 M1 Ni Np No Nx Nf Na Nq Nj rt = some r) : o_At p l e rm_MM_validate s m args below meth c (MQ below (o_Qx D m_cls (some (.int r.1)) (m_cw ad ca ky ty r.2.2.2.2.2.2.2.2 r.2.2.1 r.2.2.2.1 r.2.2.2.2.1 r.2.2.2.2.2.1 Nf Na Nh r.2.2.2.2.2.2.1 r.2.2.2.2.2.2.2.1 M0 r.2.1) A) args s 0 0 A) m_cls D A 2 91 [] (m_cw ad ca ky ty rt Ni Np No Nx Nf Na Nh Nq Nj M0 M1) [(0, .ref (ad 0)), (1, .int x1)] := by
  unfold m_MM_validate_j91 at h
  intro H locs ls hP hS hl
  have C0 := C
  obtain ⟨hx, hb, -, -, -, hown, hts, hK, -, -⟩ := C0
  refine lv_aload_n hx hb d_MM_validate_91 rfl (lv_at hl 0 rfl) ?_
  refine lv_aload_n hx hb d_MM_validate_92 rfl (lv_at hl 0 rfl) ?_
  refine o_get (v := .int (NJ_over Nj)) C in_MM hP 0 mw_0 rfl 57 (by decide) k_8_47 rfl rfl d_MM_validate_93 ?_
  refine lv_iconst (v := (2:Int32)) hx hb d_MM_validate_96 (by decide) ?_
  obtain ⟨q3, hq3, h⟩ := o_bd_some h
  refine o_V (st1 := [.int q3.1]) (w1 := (m_cw ad ca ky ty rt q3.2 Np No Nx Nf Na Nh Nq Nj M0 M1)) hE.1 C (e_MM_fails hE hKy l (NJ_over Nj) (2:Int32) Ni Np No Nx Nf Na Nh Nq Nj M0 M1 rt hq3) hP (hDD _ _ _ _ _ _ _ _ _ _ _ _) hS hl.1 rfl mw_0 k_8_176 k_8_178 k_s_81 k_1_12 k_8_179 hv_MM_fails rfl rfl ⟨(Nat.le_of_ble_eq_true rfl), (Nat.le_of_ble_eq_true rfl)⟩ rfl (Nat.le_of_ble_eq_true rfl) ⟨Nat.zero_le _, Nat.zero_le _⟩ rfl d_MM_validate_97 (fun H locs hP hS => ?_)
  refine lv_if_eq (tgt := 105) hx hb d_MM_validate_100 (by decide) (fun c4 => ?_) (fun c4 => ?_)
  · replace h := o_tt c4 h
    refine lv_aload_n hx hb d_MM_validate_105 rfl (lv_at hl 0 rfl) ?_
    obtain ⟨q4, hq4, h⟩ := o_bd_some h
    refine o_V (st1 := []) (w1 := (m_cw ad ca ky ty rt q3.2 Np No Nx Nf Na Nh q4 Nj M0 M1)) hE.1 C (e_MM_sort hE hKy l n Nq q3.2 Np No Nx Nf Na Nh Nj M0 M1 rt hq4) hP (hDD _ _ _ _ _ _ _ _ _ _ _ _) hS hl.1 rfl mw_0 k_10_72 k_10_74 k_s_135 k_1_12 k_10_75 hv_MM_sort rfl rfl ⟨(Nat.le_of_ble_eq_true rfl), (Nat.le_of_ble_eq_true rfl)⟩ rfl (Nat.le_of_ble_eq_true rfl) ⟨Nat.zero_le _, Nat.zero_le _⟩ rfl d_MM_validate_106 (fun H locs hP hS => ?_)
    refine lv_iload_n hx hb d_MM_validate_109 rfl (lv_at hl 1 rfl) ?_
    obtain ⟨g5, h⟩ := o_gd_some h
    cases h
    exact o_rz C (o_zb_nar g5) hP hS d_MM_validate_110
  · replace h := o_ff c4 h
    refine lv_iconst (v := (0:Int32)) hx hb d_MM_validate_103 (by decide) ?_
    cases h
    exact o_rz (v := (0:Int32)) C o_nar0 hP hS d_MM_validate_104
set_option maxHeartbeats 4000000 in
set_option maxRecDepth 100000 in
theorem f_MM_validate_j38 {E : (Nat → Prop) → State → Heap → Prop} {p : Program} {l : Launch} {e : Env} {s : State} {m : MethodId} {args : Array Value} {below : List Frame} {meth : Method} {c : Code} {D : va_G} {ad kd sd vd xd : Nat → Nat} {ca : Nat → ClassId} {A : Nat → Prop} {ky ty : Nat → Option Nat} (hE : o_EK E kd sd vd xd) (hKy : m_KY ky ty sd) (C : o_Cx E p s m args meth c D m_cls (m_tys ca) "SchemaJudgeModel" b_MM_validate (some .boolean) 2 cc_MM_validate A) (hDD : ∀ (rt : Nat) (Ni : SNI) (Np : SNP) (No : SNO) (Nx : SNX) (Nf : SNF) (Na : SNA) (Nh : SNH) (Nq : SNQ) (Nj : SNJ) (M0 : SMT) (M1 : SMT), va_D A (m_cw ad ca ky ty rt Ni Np No Nx Nf Na Nh Nq Nj M0 M1)) (n : Nat) (y1 : Int32) (M0 : SMT) (M1 : SMT) (Ni : SNI) (Np : SNP) (No : SNO) (Nx : SNX) (Nf : SNF) (Na : SNA) (Nq : SNQ) (Nj : SNJ) (rt : Nat) (Nh : SNH) {r : Int32 × SMT × SNI × SNP × SNO × SNX × SNQ × SNJ × Nat} (h : m_MM_validate_j38 n y1 M0 M1 Ni Np No Nx Nf Na Nq Nj rt = some r) : o_At p l e rm_MM_validate s m args below meth c (MQ below (o_Qx D m_cls (some (.int r.1)) (m_cw ad ca ky ty r.2.2.2.2.2.2.2.2 r.2.2.1 r.2.2.2.1 r.2.2.2.2.1 r.2.2.2.2.2.1 Nf Na Nh r.2.2.2.2.2.2.1 r.2.2.2.2.2.2.2.1 M0 r.2.1) A) args s 0 0 A) m_cls D A 2 38 [.int y1, .ref (ad 0)] (m_cw ad ca ky ty rt Ni Np No Nx Nf Na Nh Nq Nj M0 M1) [(0, .ref (ad 0))] := by
  unfold m_MM_validate_j38 at h
  intro H locs ls hP hS hl
  have C0 := C
  obtain ⟨hx, hb, -, -, -, hown, hts, hK, -, -⟩ := C0
  refine lv_iconst (v := (1:Int32)) hx hb d_MM_validate_38 (by decide) ?_
  obtain ⟨q1, hq1, h⟩ := o_bd_some h
  refine o_V (st1 := [.int q1.1]) (w1 := (m_cw ad ca ky ty rt q1.2 Np No Nx Nf Na Nh Nq Nj M0 M1)) hE.1 C (e_MM_fails hE hKy l y1 (1:Int32) Ni Np No Nx Nf Na Nh Nq Nj M0 M1 rt hq1) hP (hDD _ _ _ _ _ _ _ _ _ _ _ _) hS hl.1 rfl mw_0 k_8_176 k_8_178 k_s_81 k_1_12 k_8_179 hv_MM_fails rfl rfl ⟨(Nat.le_of_ble_eq_true rfl), (Nat.le_of_ble_eq_true rfl)⟩ rfl (Nat.le_of_ble_eq_true rfl) ⟨Nat.zero_le _, Nat.zero_le _⟩ rfl d_MM_validate_39 (fun H locs hP hS => ?_)
  refine lv_if_eq (tgt := 47) hx hb d_MM_validate_42 (by decide) (fun c2 => ?_) (fun c2 => ?_)
  · replace h := o_tt c2 h
    refine lv_aload_n hx hb d_MM_validate_47 rfl (lv_at hl 0 rfl) ?_
    refine lv_iconst (v := (0:Int32)) hx hb d_MM_validate_48 (by decide) ?_
    refine o_put (v := .int (0:Int32)) (ty := .int) (w1 := (m_cw ad ca ky ty rt q1.2 Np No Nx Nf Na Nh (NQ_mk (NQ_pairValue Nq) (NQ_pairKey Nq) (0:Int32)) Nj M0 M1)) C in_MM t_MM t_MM_ok n_MM hP (hDD _ _ _ _ _ _ _ _ _ _ _ _) hS 0 mw_0 rfl 53 (by decide) k_8_43 rfl rfl (by decide +kernel) rfl rfl (Nat.le_of_ble_eq_true rfl) rfl d_MM_validate_49 (fun H locs hP hS => ?_)
    refine lv_aload_n hx hb d_MM_validate_52 rfl (lv_at hl 0 rfl) ?_
    refine lv_iconst (v := (0:Int32)) hx hb d_MM_validate_53 (by decide) ?_
    refine o_put (v := .int (0:Int32)) (ty := .int) (w1 := (m_cw ad ca ky ty rt q1.2 Np No Nx Nf Na Nh (NQ_mk (NQ_pairValue Nq) (NQ_pairKey Nq) (0:Int32)) (NJ_mk (0:Int32) (NJ_deepest Nj) (NJ_depth Nj) (NJ_over Nj) (NJ_seen Nj)) M0 M1)) C in_MM t_MM t_MM_ok n_MM hP (hDD _ _ _ _ _ _ _ _ _ _ _ _) hS 0 mw_0 rfl 54 (by decide) k_8_44 rfl rfl (by decide +kernel) rfl rfl (Nat.le_of_ble_eq_true rfl) rfl d_MM_validate_54 (fun H locs hP hS => ?_)
    refine lv_aload_n hx hb d_MM_validate_57 rfl (lv_at hl 0 rfl) ?_
    refine lv_iconst (v := (0:Int32)) hx hb d_MM_validate_58 (by decide) ?_
    refine o_put (v := .int (0:Int32)) (ty := .int) (w1 := (m_cw ad ca ky ty rt q1.2 Np No Nx Nf Na Nh (NQ_mk (NQ_pairValue Nq) (NQ_pairKey Nq) (0:Int32)) (NJ_mk (0:Int32) (0:Int32) (NJ_depth Nj) (NJ_over Nj) (NJ_seen Nj)) M0 M1)) C in_MM t_MM t_MM_ok n_MM hP (hDD _ _ _ _ _ _ _ _ _ _ _ _) hS 0 mw_0 rfl 55 (by decide) k_8_45 rfl rfl (by decide +kernel) rfl rfl (Nat.le_of_ble_eq_true rfl) rfl d_MM_validate_59 (fun H locs hP hS => ?_)
    refine lv_aload_n hx hb d_MM_validate_62 rfl (lv_at hl 0 rfl) ?_
    refine lv_iconst (v := (0:Int32)) hx hb d_MM_validate_63 (by decide) ?_
    refine o_put (v := .int (0:Int32)) (ty := .int) (w1 := (m_cw ad ca ky ty rt q1.2 Np No Nx Nf Na Nh (NQ_mk (NQ_pairValue Nq) (NQ_pairKey Nq) (0:Int32)) (NJ_mk (0:Int32) (0:Int32) (0:Int32) (NJ_over Nj) (NJ_seen Nj)) M0 M1)) C in_MM t_MM t_MM_ok n_MM hP (hDD _ _ _ _ _ _ _ _ _ _ _ _) hS 0 mw_0 rfl 56 (by decide) k_8_46 rfl rfl (by decide +kernel) rfl rfl (Nat.le_of_ble_eq_true rfl) rfl d_MM_validate_64 (fun H locs hP hS => ?_)
    refine lv_aload_n hx hb d_MM_validate_67 rfl (lv_at hl 0 rfl) ?_
    refine lv_iconst (v := (0:Int32)) hx hb d_MM_validate_68 (by decide) ?_
    refine o_put (v := .int (0:Int32)) (ty := .boolean) (w1 := (m_cw ad ca ky ty rt q1.2 Np No Nx Nf Na Nh (NQ_mk (NQ_pairValue Nq) (NQ_pairKey Nq) (0:Int32)) (NJ_mk (0:Int32) (0:Int32) (0:Int32) (0:Int32) (NJ_seen Nj)) M0 M1)) C in_MM t_MM t_MM_ok n_MM hP (hDD _ _ _ _ _ _ _ _ _ _ _ _) hS 0 mw_0 rfl 57 (by decide) k_8_47 rfl rfl (by decide +kernel) rfl rfl (Nat.le_of_ble_eq_true rfl) rfl d_MM_validate_69 (fun H locs hP hS => ?_)
    refine lv_aload_n hx hb d_MM_validate_72 rfl (lv_at hl 0 rfl) ?_
    refine lv_iconst (v := (0:Int32)) hx hb d_MM_validate_73 (by decide) ?_
    refine lv_iconst (v := (0:Int32)) hx hb d_MM_validate_74 (by decide) ?_
    obtain ⟨q2, hq2, h⟩ := o_bd_some h
    refine o_V (st1 := [.int q2.1]) (w1 := (m_cw ad ca ky ty q2.2.2.2.2.2.2.2 q1.2 q2.2.2.1 q2.2.2.2.1 q2.2.2.2.2.1 Nf Na Nh q2.2.2.2.2.2.1 q2.2.2.2.2.2.2.1 M0 q2.2.1)) hE.1 C (e_MM_judge hE hKy l n 104 (0:Int32) (0:Int32) M0 M1 Np No Nx Na (NQ_mk (NQ_pairValue Nq) (NQ_pairKey Nq) (0:Int32)) (NJ_mk (0:Int32) (0:Int32) (0:Int32) (0:Int32) (NJ_seen Nj)) rt q1.2 Nf Nh hq2) hP (hDD _ _ _ _ _ _ _ _ _ _ _ _) hS hl.1 rfl mw_0 k_9_210 k_9_212 k_s_116 k_1_12 k_9_213 hv_MM_judge rfl rfl ⟨(Nat.le_of_ble_eq_true rfl), (Nat.le_of_ble_eq_true rfl)⟩ rfl (Nat.le_of_ble_eq_true rfl) ⟨Nat.zero_le _, Nat.zero_le _⟩ rfl d_MM_validate_75 (fun H locs hP hS => ?_)
    refine lv_istore_n (lv' := [(1, .int q2.1), (0, .ref (ad 0))]) hx hb d_MM_validate_78 rfl hl (by decide) rfl (fun ls hl => ?_)
    refine lv_aload_n hx hb d_MM_validate_79 rfl (lv_at hl 1 rfl) ?_
    refine o_get (v := .int (NJ_over q2.2.2.2.2.2.2.1)) C in_MM hP 0 mw_0 rfl 57 (by decide) k_8_47 rfl rfl d_MM_validate_80 ?_
    refine lv_if_eq (tgt := 91) hx hb d_MM_validate_83 (by decide) (fun c3 => ?_) (fun c3 => ?_)
    · replace h := o_tt c3 h
      exact f_MM_validate_j91 hE hKy C hDD n q2.1 M0 q2.2.1 q1.2 q2.2.2.1 q2.2.2.2.1 q2.2.2.2.2.1 Nf Na q2.2.2.2.2.2.1 q2.2.2.2.2.2.2.1 q2.2.2.2.2.2.2.2 Nh h _ _ _ hP hS (lv_sub hl [1, 0] rfl)
    · replace h := o_ff c3 h
      refine lv_aload_n hx hb d_MM_validate_86 rfl (lv_at hl 1 rfl) ?_
      refine lv_iconst (v := (0:Int32)) hx hb d_MM_validate_87 (by decide) ?_
      refine o_put (v := .int (0:Int32)) (ty := .int) (w1 := (m_cw ad ca ky ty q2.2.2.2.2.2.2.2 q1.2 q2.2.2.1 q2.2.2.2.1 q2.2.2.2.2.1 Nf Na Nh (NQ_mk (NQ_pairValue q2.2.2.2.2.2.1) (NQ_pairKey q2.2.2.2.2.2.1) (0:Int32)) q2.2.2.2.2.2.2.1 M0 q2.2.1)) C in_MM t_MM t_MM_ok n_MM hP (hDD _ _ _ _ _ _ _ _ _ _ _ _) hS 0 mw_0 rfl 53 (by decide) k_8_43 rfl rfl (by decide +kernel) rfl rfl (Nat.le_of_ble_eq_true rfl) rfl d_MM_validate_88 (fun H locs hP hS => ?_)
      exact f_MM_validate_j91 hE hKy C hDD n q2.1 M0 q2.2.1 q1.2 q2.2.2.1 q2.2.2.2.1 q2.2.2.2.2.1 Nf Na (NQ_mk (NQ_pairValue q2.2.2.2.2.2.1) (NQ_pairKey q2.2.2.2.2.2.1) (0:Int32)) q2.2.2.2.2.2.2.1 q2.2.2.2.2.2.2.2 Nh h _ _ _ hP hS (lv_sub hl [1, 0] rfl)
  · replace h := o_ff c2 h
    refine lv_iconst (v := (0:Int32)) hx hb d_MM_validate_45 (by decide) ?_
    cases h
    exact o_rz (v := (0:Int32)) C o_nar0 hP hS d_MM_validate_46
set_option maxHeartbeats 4000000 in
set_option maxRecDepth 100000 in
theorem e_MM_validate {E : (Nat → Prop) → State → Heap → Prop} {D : va_G} {ad kd sd vd xd : Nat → Nat} {ca : Nat → ClassId} {ky ty : Nat → Option Nat} (hE : o_EK E kd sd vd xd) (hKy : m_KY ky ty sd) (l : Launch) (n : Nat)  (M0 : SMT) (M1 : SMT) (Ni : SNI) (Np : SNP) (No : SNO) (Nx : SNX) (Nf : SNF) (Na : SNA) (Nq : SNQ) (Nj : SNJ) (rt : Nat) (Nh : SNH) {r : Int32 × SMT × SNI × SNP × SNO × SNX × SNQ × SNJ × Nat} (h : m_MM_validate n M0 M1 Ni Np No Nx Nf Na Nq Nj rt = some r) : o_Cn E l D m_cls (m_tys ca) y_MM_validate cc_MM_validate rm_MM_validate [.ref (ad 0)] (m_cw ad ca ky ty rt Ni Np No Nx Nf Na Nh Nq Nj M0 M1) (m_cw ad ca ky ty r.2.2.2.2.2.2.2.2 r.2.2.1 r.2.2.2.1 r.2.2.2.2.1 r.2.2.2.2.2.1 Nf Na Nh r.2.2.2.2.2.2.1 r.2.2.2.2.2.2.2.1 M0 r.2.1) (some (.int r.1)) := by
  refine o_Cn_of (by decide) (Nat.le_of_ble_eq_true rfl) ?_
  intro p e s m below meth c A ls C hD hP hS hl
  have hDD : ∀ (rt : Nat) (Ni : SNI) (Np : SNP) (No : SNO) (Nx : SNX) (Nf : SNF) (Na : SNA) (Nh : SNH) (Nq : SNQ) (Nj : SNJ) (M0 : SMT) (M1 : SMT), va_D A (m_cw ad ca ky ty rt Ni Np No Nx Nf Na Nh Nq Nj M0 M1) := fun _ _ _ _ _ _ _ _ _ _ _ _ => o_D_map hD rfl
  have hl : lv_has ls 2 [(0, .ref (ad 0))] := hl
  unfold m_MM_validate at h
  have C0 := C
  obtain ⟨hx, hb, -, -, -, hown, hts, hK, -, -⟩ := C0
  refine lv_aload_n hx hb d_MM_validate_0 rfl (lv_at hl 0 rfl) ?_
  refine lv_iconst (v := (0:Int32)) hx hb d_MM_validate_1 (by decide) ?_
  refine o_put (v := .int (0:Int32)) (ty := .int) (w1 := (m_cw ad ca ky ty rt (NI_mk (0:Int32) (NI_fed Ni) (NI_wrong Ni) (NI_octets Ni)) Np No Nx Nf Na Nh Nq Nj M0 M1)) C in_MM t_MM t_MM_ok n_MM hP (hDD _ _ _ _ _ _ _ _ _ _ _ _) hS 0 mw_0 rfl 0 (by decide) k_7_230 rfl rfl (by decide +kernel) rfl rfl (Nat.le_of_ble_eq_true rfl) rfl d_MM_validate_2 (fun H locs hP hS => ?_)
  refine lv_aload_n hx hb d_MM_validate_5 rfl (lv_at hl 0 rfl) ?_
  refine lv_aload_n hx hb d_MM_validate_6 rfl (lv_at hl 0 rfl) ?_
  refine o_get (v := .ref (ad 48)) C in_MM hP 0 mw_0 rfl 5 (by decide) k_7_235 rfl rfl d_MM_validate_7 ?_
  refine o_get (v := .int (MT_values M1)) C in_MT hP 48 mw_48 rfl 13 (by decide) k_7_127 rfl rfl d_MM_validate_10 ?_
  refine lv_if_eq (tgt := 33) hx hb d_MM_validate_13 (by decide) (fun c1 => ?_) (fun c1 => ?_)
  · replace h := o_tt c1 h
    refine lv_iconst (v := (1:Int32)) hx hb d_MM_validate_33 (by decide) ?_
    refine lv_goto (tgt := 38) hx hb d_MM_validate_34 (by decide) ?_
    exact f_MM_validate_j38 hE hKy C hDD n (1:Int32) M0 M1 (NI_mk (0:Int32) (NI_fed Ni) (NI_wrong Ni) (NI_octets Ni)) Np No Nx Nf Na Nq Nj rt Nh h _ _ _ hP hS (lv_sub hl [0] rfl)
  · replace h := o_ff c1 h
    refine lv_aload_n hx hb d_MM_validate_16 rfl (lv_at hl 0 rfl) ?_
    refine o_get (v := .ref (ad 33)) C in_MM hP 0 mw_0 rfl 4 (by decide) k_7_234 rfl rfl d_MM_validate_17 ?_
    refine o_get (v := .int (MT_values M0)) C in_MT hP 33 mw_33 rfl 13 (by decide) k_7_127 rfl rfl d_MM_validate_20 ?_
    refine lv_if_eq (tgt := 33) hx hb d_MM_validate_23 (by decide) (fun c6 => ?_) (fun c6 => ?_)
    · replace h := o_tt c6 h
      refine lv_iconst (v := (1:Int32)) hx hb d_MM_validate_33 (by decide) ?_
      refine lv_goto (tgt := 38) hx hb d_MM_validate_34 (by decide) ?_
      exact f_MM_validate_j38 hE hKy C hDD n (1:Int32) M0 M1 (NI_mk (0:Int32) (NI_fed Ni) (NI_wrong Ni) (NI_octets Ni)) Np No Nx Nf Na Nq Nj rt Nh h _ _ _ hP hS (lv_sub hl [0] rfl)
    · replace h := o_ff c6 h
      refine lv_aload_n hx hb d_MM_validate_26 rfl (lv_at hl 0 rfl) ?_
      refine o_get (v := .int (NF_checked Nf)) C in_MM hP 0 mw_0 rfl 35 (by decide) k_8_25 rfl rfl d_MM_validate_27 ?_
      refine lv_if_ne (tgt := 37) hx hb d_MM_validate_30 (by decide) (fun c7 => ?_) (fun c7 => ?_)
      · replace h := o_ff c7 h
        refine lv_iconst (v := (0:Int32)) hx hb d_MM_validate_37 (by decide) ?_
        exact f_MM_validate_j38 hE hKy C hDD n (0:Int32) M0 M1 (NI_mk (0:Int32) (NI_fed Ni) (NI_wrong Ni) (NI_octets Ni)) Np No Nx Nf Na Nq Nj rt Nh h _ _ _ hP hS (lv_sub hl [0] rfl)
      · replace h := o_tt c7 h
        refine lv_iconst (v := (1:Int32)) hx hb d_MM_validate_33 (by decide) ?_
        refine lv_goto (tgt := 38) hx hb d_MM_validate_34 (by decide) ?_
        exact f_MM_validate_j38 hE hKy C hDD n (1:Int32) M0 M1 (NI_mk (0:Int32) (NI_fed Ni) (NI_wrong Ni) (NI_octets Ni)) Np No Nx Nf Na Nq Nj rt Nh h _ _ _ hP hS (lv_sub hl [0] rfl)
set_option maxHeartbeats 4000000 in
set_option maxRecDepth 100000 in
theorem e_MM_pairs {E : (Nat → Prop) → State → Heap → Prop} {D : va_G} {ad kd sd vd xd : Nat → Nat} {ca : Nat → ClassId} {ky ty : Nat → Option Nat} (hE : o_EK E kd sd vd xd) (hKy : m_KY ky ty sd) (l : Launch)  (Ni : SNI) (Nq : SNQ) (Np : SNP) (No : SNO) (Nx : SNX) (Nf : SNF) (Na : SNA) (Nh : SNH) (Nj : SNJ) (M0 : SMT) (M1 : SMT) (rt : Nat) {r : Int32 × SNI} (h : m_MM_pairs Ni Nq = some r) : o_Cn E l D m_cls (m_tys ca) y_MM_pairs cc_MM_pairs rm_MM_pairs [.ref (ad 0)] (m_cw ad ca ky ty rt Ni Np No Nx Nf Na Nh Nq Nj M0 M1) (m_cw ad ca ky ty rt r.2 Np No Nx Nf Na Nh Nq Nj M0 M1) (some (.int r.1)) := by
  refine o_Cn_of (by decide) (Nat.le_of_ble_eq_true rfl) ?_
  intro p e s m below meth c A ls C hD hP hS hl
  have hDD : ∀ (rt : Nat) (Ni : SNI) (Np : SNP) (No : SNO) (Nx : SNX) (Nf : SNF) (Na : SNA) (Nh : SNH) (Nq : SNQ) (Nj : SNJ) (M0 : SMT) (M1 : SMT), va_D A (m_cw ad ca ky ty rt Ni Np No Nx Nf Na Nh Nq Nj M0 M1) := fun _ _ _ _ _ _ _ _ _ _ _ _ => o_D_map hD rfl
  have hl : lv_has ls 1 [(0, .ref (ad 0))] := hl
  unfold m_MM_pairs at h
  have C0 := C
  obtain ⟨hx, hb, -, -, -, hown, hts, hK, -, -⟩ := C0
  refine lv_aload_n hx hb d_MM_pairs_0 rfl (lv_at hl 0 rfl) ?_
  refine lv_iconst (v := (0:Int32)) hx hb d_MM_pairs_1 (by decide) ?_
  refine o_put (v := .int (0:Int32)) (ty := .int) (w1 := (m_cw ad ca ky ty rt (NI_mk (0:Int32) (NI_fed Ni) (NI_wrong Ni) (NI_octets Ni)) Np No Nx Nf Na Nh Nq Nj M0 M1)) C in_MM t_MM t_MM_ok n_MM hP (hDD _ _ _ _ _ _ _ _ _ _ _ _) hS 0 mw_0 rfl 0 (by decide) k_7_230 rfl rfl (by decide +kernel) rfl rfl (Nat.le_of_ble_eq_true rfl) rfl d_MM_pairs_2 (fun H locs hP hS => ?_)
  refine lv_aload_n hx hb d_MM_pairs_5 rfl (lv_at hl 0 rfl) ?_
  refine o_get (v := .int (NQ_pairs Nq)) C in_MM hP 0 mw_0 rfl 53 (by decide) k_8_43 rfl rfl d_MM_pairs_6 ?_
  cases h
  exact o_ri (v := (NQ_pairs Nq)) C hP hS d_MM_pairs_9
set_option maxHeartbeats 4000000 in
set_option maxRecDepth 100000 in
theorem f_MM_pair_1_j25 {E : (Nat → Prop) → State → Heap → Prop} {p : Program} {l : Launch} {e : Env} {s : State} {m : MethodId} {args : Array Value} {below : List Frame} {meth : Method} {c : Code} {D : va_G} {ad kd sd vd xd : Nat → Nat} {ca : Nat → ClassId} {A : Nat → Prop} {ky ty : Nat → Option Nat} (hE : o_EK E kd sd vd xd) (hKy : m_KY ky ty sd) (C : o_Cx E p s m args meth c D m_cls (m_tys ca) "SchemaJudgeModel" b_MM_pair_1 (some .int) 3 cc_MM_pair_1 A) (hDD : ∀ (rt : Nat) (Ni : SNI) (Np : SNP) (No : SNO) (Nx : SNX) (Nf : SNF) (Na : SNA) (Nh : SNH) (Nq : SNQ) (Nj : SNJ) (M0 : SMT) (M1 : SMT), va_D A (m_cw ad ca ky ty rt Ni Np No Nx Nf Na Nh Nq Nj M0 M1)) (x1 : Int32) (x2 : Int32) (y1 : Int32) (Ni : SNI) (Nq : SNQ) (Np : SNP) (No : SNO) (Nx : SNX) (Nf : SNF) (Na : SNA) (Nh : SNH) (Nj : SNJ) (M0 : SMT) (M1 : SMT) (rt : Nat) {r : Int32 × SNI} (h : m_MM_pair_1_j25 x1 x2 y1 Ni Nq = some r) : o_At p l e rm_MM_pair_1 s m args below meth c (MQ below (o_Qx D m_cls (some (.int r.1)) (m_cw ad ca ky ty rt r.2 Np No Nx Nf Na Nh Nq Nj M0 M1) A) args s 0 0 A) m_cls D A 3 25 [.int y1, .ref (ad 0)] (m_cw ad ca ky ty rt Ni Np No Nx Nf Na Nh Nq Nj M0 M1) [(0, .ref (ad 0)), (1, .int x1), (2, .int x2)] := by
  unfold m_MM_pair_1_j25 at h
  intro H locs ls hP hS hl
  have C0 := C
  obtain ⟨hx, hb, -, -, -, hown, hts, hK, -, -⟩ := C0
  refine lv_iconst (v := (1:Int32)) hx hb d_MM_pair_1_25 (by decide) ?_
  obtain ⟨q2, hq2, h⟩ := o_bd_some h
  refine o_V (st1 := [.int q2.1]) (w1 := (m_cw ad ca ky ty rt q2.2 Np No Nx Nf Na Nh Nq Nj M0 M1)) hE.1 C (e_MM_fails hE hKy l y1 (1:Int32) Ni Np No Nx Nf Na Nh Nq Nj M0 M1 rt hq2) hP (hDD _ _ _ _ _ _ _ _ _ _ _ _) hS hl.1 rfl mw_0 k_8_176 k_8_178 k_s_81 k_1_12 k_8_179 hv_MM_fails rfl rfl ⟨(Nat.le_of_ble_eq_true rfl), (Nat.le_of_ble_eq_true rfl)⟩ rfl (Nat.le_of_ble_eq_true rfl) ⟨Nat.zero_le _, Nat.zero_le _⟩ rfl d_MM_pair_1_26 (fun H locs hP hS => ?_)
  refine lv_if_eq (tgt := 34) hx hb d_MM_pair_1_29 (by decide) (fun c2 => ?_) (fun c2 => ?_)
  · replace h := o_tt c2 h
    refine lv_iload_n hx hb d_MM_pair_1_34 rfl (lv_at hl 2 rfl) ?_
    refine lv_if_eq (tgt := 47) hx hb d_MM_pair_1_35 (by decide) (fun c3 => ?_) (fun c3 => ?_)
    · replace h := o_tt c3 h
      refine lv_aload_n hx hb d_MM_pair_1_47 rfl (lv_at hl 0 rfl) ?_
      refine o_get (v := .ref (ad 31)) C in_MM hP 0 mw_0 rfl 51 (by decide) k_8_41 rfl rfl d_MM_pair_1_48 ?_
      refine lv_iload_n hx hb d_MM_pair_1_51 rfl (lv_at hl 1 rfl) ?_
      obtain ⟨g4, h⟩ := o_gd_some h
      refine o_iald (f := (NQ_pairValue Nq)) C hP 31 30 mw_31 rfl g4 d_MM_pair_1_52 ?_
      cases h
      exact o_ri (v := ((NQ_pairValue Nq) x1.toNatClampNeg)) C hP hS d_MM_pair_1_53
    · replace h := o_ff c3 h
      refine lv_aload_n hx hb d_MM_pair_1_38 rfl (lv_at hl 0 rfl) ?_
      refine o_get (v := .ref (ad 32)) C in_MM hP 0 mw_0 rfl 52 (by decide) k_8_42 rfl rfl d_MM_pair_1_39 ?_
      refine lv_iload_n hx hb d_MM_pair_1_42 rfl (lv_at hl 1 rfl) ?_
      obtain ⟨g5, h⟩ := o_gd_some h
      refine o_iald (f := (NQ_pairKey Nq)) C hP 32 31 mw_32 rfl g5 d_MM_pair_1_43 ?_
      refine lv_goto (tgt := 53) hx hb d_MM_pair_1_44 (by decide) ?_
      cases h
      exact o_ri (v := ((NQ_pairKey Nq) x1.toNatClampNeg)) C hP hS d_MM_pair_1_53
  · replace h := o_ff c2 h
    refine lv_iconst (v := (0:Int32)) hx hb d_MM_pair_1_32 (by decide) ?_
    cases h
    exact o_ri (v := (0:Int32)) C hP hS d_MM_pair_1_33
set_option maxHeartbeats 4000000 in
set_option maxRecDepth 100000 in
theorem e_MM_pair_1 {E : (Nat → Prop) → State → Heap → Prop} {D : va_G} {ad kd sd vd xd : Nat → Nat} {ca : Nat → ClassId} {ky ty : Nat → Option Nat} (hE : o_EK E kd sd vd xd) (hKy : m_KY ky ty sd) (l : Launch) (x1 : Int32) (x2 : Int32) (Ni : SNI) (Nq : SNQ) (Np : SNP) (No : SNO) (Nx : SNX) (Nf : SNF) (Na : SNA) (Nh : SNH) (Nj : SNJ) (M0 : SMT) (M1 : SMT) (rt : Nat) {r : Int32 × SNI} (h : m_MM_pair_1 x1 x2 Ni Nq = some r) : o_Cn E l D m_cls (m_tys ca) y_MM_pair_1 cc_MM_pair_1 rm_MM_pair_1 [.ref (ad 0), .int x1, .int x2] (m_cw ad ca ky ty rt Ni Np No Nx Nf Na Nh Nq Nj M0 M1) (m_cw ad ca ky ty rt r.2 Np No Nx Nf Na Nh Nq Nj M0 M1) (some (.int r.1)) := by
  refine o_Cn_of (by decide) (Nat.le_of_ble_eq_true rfl) ?_
  intro p e s m below meth c A ls C hD hP hS hl
  have hDD : ∀ (rt : Nat) (Ni : SNI) (Np : SNP) (No : SNO) (Nx : SNX) (Nf : SNF) (Na : SNA) (Nh : SNH) (Nq : SNQ) (Nj : SNJ) (M0 : SMT) (M1 : SMT), va_D A (m_cw ad ca ky ty rt Ni Np No Nx Nf Na Nh Nq Nj M0 M1) := fun _ _ _ _ _ _ _ _ _ _ _ _ => o_D_map hD rfl
  have hl : lv_has ls 3 [(0, .ref (ad 0)), (1, .int x1), (2, .int x2)] := hl
  unfold m_MM_pair_1 at h
  have C0 := C
  obtain ⟨hx, hb, -, -, -, hown, hts, hK, -, -⟩ := C0
  refine lv_aload_n hx hb d_MM_pair_1_0 rfl (lv_at hl 0 rfl) ?_
  refine lv_iconst (v := (0:Int32)) hx hb d_MM_pair_1_1 (by decide) ?_
  refine o_put (v := .int (0:Int32)) (ty := .int) (w1 := (m_cw ad ca ky ty rt (NI_mk (0:Int32) (NI_fed Ni) (NI_wrong Ni) (NI_octets Ni)) Np No Nx Nf Na Nh Nq Nj M0 M1)) C in_MM t_MM t_MM_ok n_MM hP (hDD _ _ _ _ _ _ _ _ _ _ _ _) hS 0 mw_0 rfl 0 (by decide) k_7_230 rfl rfl (by decide +kernel) rfl rfl (Nat.le_of_ble_eq_true rfl) rfl d_MM_pair_1_2 (fun H locs hP hS => ?_)
  refine lv_aload_n hx hb d_MM_pair_1_5 rfl (lv_at hl 0 rfl) ?_
  refine lv_iload_n hx hb d_MM_pair_1_6 rfl (lv_at hl 1 rfl) ?_
  refine lv_iconst (v := (0:Int32)) hx hb d_MM_pair_1_7 (by decide) ?_
  refine lv_aload_n hx hb d_MM_pair_1_8 rfl (lv_at hl 0 rfl) ?_
  refine o_get (v := .int (NQ_pairs Nq)) C in_MM hP 0 mw_0 rfl 53 (by decide) k_8_43 rfl rfl d_MM_pair_1_9 ?_
  refine lv_iconst (v := (1:Int32)) hx hb d_MM_pair_1_12 (by decide) ?_
  refine lv_isub hx hb d_MM_pair_1_13 ?_
  obtain ⟨q1, hq1, h⟩ := o_bd_some h
  refine o_S (st1 := [.int q1, .ref (ad 0)]) (w1 := (m_cw ad ca ky ty rt (NI_mk (0:Int32) (NI_fed Ni) (NI_wrong Ni) (NI_octets Ni)) Np No Nx Nf Na Nh Nq Nj M0 M1)) hE.1 C (e_MM_in hE hKy l x1 (0:Int32) ((NQ_pairs Nq) - (1:Int32)) (NI_mk (0:Int32) (NI_fed Ni) (NI_wrong Ni) (NI_octets Ni)) Np No Nx Nf Na Nh Nq Nj M0 M1 rt hq1) hP (hDD _ _ _ _ _ _ _ _ _ _ _ _) hS hl.1 k_9_41 k_8_201 k_1_12 k_8_202 hs_MM_in rfl rfl ⟨(Nat.le_of_ble_eq_true rfl), (Nat.le_of_ble_eq_true rfl)⟩ rfl (Nat.le_of_ble_eq_true rfl) ⟨Nat.zero_le _, Nat.zero_le _⟩ rfl d_MM_pair_1_14 (fun H locs hP hS => ?_)
  refine lv_if_ne (tgt := 24) hx hb d_MM_pair_1_17 (by decide) (fun c1 => ?_) (fun c1 => ?_)
  · replace h := o_ff c1 h
    refine lv_iconst (v := (0:Int32)) hx hb d_MM_pair_1_24 (by decide) ?_
    exact f_MM_pair_1_j25 hE hKy C hDD x1 x2 (0:Int32) (NI_mk (0:Int32) (NI_fed Ni) (NI_wrong Ni) (NI_octets Ni)) Nq Np No Nx Nf Na Nh Nj M0 M1 rt h _ _ _ hP hS (lv_sub hl [0, 1, 2] rfl)
  · replace h := o_tt c1 h
    refine lv_iconst (v := (1:Int32)) hx hb d_MM_pair_1_20 (by decide) ?_
    refine lv_goto (tgt := 25) hx hb d_MM_pair_1_21 (by decide) ?_
    exact f_MM_pair_1_j25 hE hKy C hDD x1 x2 (1:Int32) (NI_mk (0:Int32) (NI_fed Ni) (NI_wrong Ni) (NI_octets Ni)) Nq Np No Nx Nf Na Nh Nj M0 M1 rt h _ _ _ hP hS (lv_sub hl [0, 1, 2] rfl)
set_option maxHeartbeats 4000000 in
set_option maxRecDepth 100000 in
theorem f_MM_value_j65 {E : (Nat → Prop) → State → Heap → Prop} {p : Program} {l : Launch} {e : Env} {s : State} {m : MethodId} {args : Array Value} {below : List Frame} {meth : Method} {c : Code} {D : va_G} {ad kd sd vd xd : Nat → Nat} {ca : Nat → ClassId} {A : Nat → Prop} {ky ty : Nat → Option Nat} (hE : o_EK E kd sd vd xd) (hKy : m_KY ky ty sd) (C : o_Cx E p s m args meth c D m_cls (m_tys ca) "SchemaJudgeModel" b_MM_value (some .int) 5 cc_MM_value A) (hDD : ∀ (rt : Nat) (Ni : SNI) (Np : SNP) (No : SNO) (Nx : SNX) (Nf : SNF) (Na : SNA) (Nh : SNH) (Nq : SNQ) (Nj : SNJ) (M0 : SMT) (M1 : SMT), va_D A (m_cw ad ca ky ty rt Ni Np No Nx Nf Na Nh Nq Nj M0 M1)) (x2 : Int32) (x3 : Int32) (y1 : Int32) (M0 : SMT) (M1 : SMT) (Ni : SNI) (Np : SNP) (No : SNO) (Nx : SNX) (Nf : SNF) (Na : SNA) (Nh : SNH) (Nq : SNQ) (Nj : SNJ) (rt : Nat) {r : Int32 × SNI} (h : m_MM_value_j65 x2 x3 y1 M0 M1 Ni = some r) : o_At p l e rm_MM_value s m args below meth c (MQ below (o_Qx D m_cls (some (.int r.1)) (m_cw ad ca ky ty rt r.2 Np No Nx Nf Na Nh Nq Nj M0 M1) A) args s 0 0 A) m_cls D A 5 65 [.int y1, .ref (ad 0)] (m_cw ad ca ky ty rt Ni Np No Nx Nf Na Nh Nq Nj M0 M1) [(2, .int x2), (3, .int x3), (4, .ref (ad 48))] := by
  unfold m_MM_value_j65 at h
  intro H locs ls hP hS hl
  have C0 := C
  obtain ⟨hx, hb, -, -, -, hown, hts, hK, -, -⟩ := C0
  refine lv_iconst (v := (2:Int32)) hx hb d_MM_value_65 (by decide) ?_
  obtain ⟨q4, hq4, h⟩ := o_bd_some h
  refine o_V (st1 := [.int q4.1]) (w1 := (m_cw ad ca ky ty rt q4.2 Np No Nx Nf Na Nh Nq Nj M0 M1)) hE.1 C (e_MM_fails hE hKy l y1 (2:Int32) Ni Np No Nx Nf Na Nh Nq Nj M0 M1 rt hq4) hP (hDD _ _ _ _ _ _ _ _ _ _ _ _) hS hl.1 rfl mw_0 k_8_176 k_8_178 k_s_81 k_1_12 k_8_179 hv_MM_fails rfl rfl ⟨(Nat.le_of_ble_eq_true rfl), (Nat.le_of_ble_eq_true rfl)⟩ rfl (Nat.le_of_ble_eq_true rfl) ⟨Nat.zero_le _, Nat.zero_le _⟩ rfl d_MM_value_66 (fun H locs hP hS => ?_)
  refine lv_if_eq (tgt := 74) hx hb d_MM_value_69 (by decide) (fun c5 => ?_) (fun c5 => ?_)
  · replace h := o_tt c5 h
    refine lv_iload_n hx hb d_MM_value_74 rfl (lv_at hl 1 rfl) ?_
    refine lv_if_ne (tgt := 88) hx hb d_MM_value_75 (by decide) (fun c6 => ?_) (fun c6 => ?_)
    · replace h := o_ff c6 h
      refine lv_iload_n hx hb d_MM_value_88 rfl (lv_at hl 1 rfl) ?_
      refine lv_iconst (v := (1:Int32)) hx hb d_MM_value_89 (by decide) ?_
      refine lv_icmp_ne (tgt := 103) hx hb d_MM_value_90 (by decide) (fun c7 => ?_) (fun c7 => ?_)
      · replace h := o_ff c7 h
        refine lv_iload_n hx hb d_MM_value_103 rfl (lv_at hl 1 rfl) ?_
        refine lv_iconst (v := (2:Int32)) hx hb d_MM_value_104 (by decide) ?_
        refine lv_icmp_ne (tgt := 118) hx hb d_MM_value_105 (by decide) (fun c8 => ?_) (fun c8 => ?_)
        · replace h := o_ff c8 h
          refine lv_iload_n hx hb d_MM_value_118 rfl (lv_at hl 1 rfl) ?_
          refine lv_iconst (v := (3:Int32)) hx hb d_MM_value_119 (by decide) ?_
          refine lv_icmp_ne (tgt := 133) hx hb d_MM_value_120 (by decide) (fun c9 => ?_) (fun c9 => ?_)
          · replace h := o_ff c9 h
            refine lv_aload hx hb d_MM_value_133 (lv_at hl 2 rfl) ?_
            refine o_get (v := .ref (ad 54)) C in_MT hP 48 mw_48 rfl 5 (by decide) k_7_111 rfl rfl d_MM_value_135 ?_
            refine lv_iload_n hx hb d_MM_value_138 rfl (lv_at hl 0 rfl) ?_
            obtain ⟨g10, h⟩ := o_gd_some h
            refine o_iald (f := (MT_power M1)) C hP 54 51 mw_54 rfl g10 d_MM_value_139 ?_
            cases h
            exact o_ri (v := ((MT_power M1) x2.toNatClampNeg)) C hP hS d_MM_value_140
          · replace h := o_tt c9 h
            refine lv_aload hx hb d_MM_value_123 (lv_at hl 2 rfl) ?_
            refine o_get (v := .ref (ad 53)) C in_MT hP 48 mw_48 rfl 4 (by decide) k_7_109 rfl rfl d_MM_value_125 ?_
            refine lv_iload_n hx hb d_MM_value_128 rfl (lv_at hl 0 rfl) ?_
            obtain ⟨g11, h⟩ := o_gd_some h
            refine o_iald (f := (MT_parent M1)) C hP 53 50 mw_53 rfl g11 d_MM_value_129 ?_
            refine lv_goto (tgt := 140) hx hb d_MM_value_130 (by decide) ?_
            cases h
            exact o_ri (v := ((MT_parent M1) x2.toNatClampNeg)) C hP hS d_MM_value_140
        · replace h := o_tt c8 h
          refine lv_aload hx hb d_MM_value_108 (lv_at hl 2 rfl) ?_
          refine o_get (v := .ref (ad 52)) C in_MT hP 48 mw_48 rfl 3 (by decide) k_7_107 rfl rfl d_MM_value_110 ?_
          refine lv_iload_n hx hb d_MM_value_113 rfl (lv_at hl 0 rfl) ?_
          obtain ⟨g12, h⟩ := o_gd_some h
          refine o_iald (f := (MT_many M1)) C hP 52 49 mw_52 rfl g12 d_MM_value_114 ?_
          refine lv_goto (tgt := 140) hx hb d_MM_value_115 (by decide) ?_
          cases h
          exact o_ri (v := ((MT_many M1) x2.toNatClampNeg)) C hP hS d_MM_value_140
      · replace h := o_tt c7 h
        refine lv_aload hx hb d_MM_value_93 (lv_at hl 2 rfl) ?_
        refine o_get (v := .ref (ad 51)) C in_MT hP 48 mw_48 rfl 2 (by decide) k_7_105 rfl rfl d_MM_value_95 ?_
        refine lv_iload_n hx hb d_MM_value_98 rfl (lv_at hl 0 rfl) ?_
        obtain ⟨g13, h⟩ := o_gd_some h
        refine o_iald (f := (MT_place M1)) C hP 51 48 mw_51 rfl g13 d_MM_value_99 ?_
        refine lv_goto (tgt := 140) hx hb d_MM_value_100 (by decide) ?_
        cases h
        exact o_ri (v := ((MT_place M1) x2.toNatClampNeg)) C hP hS d_MM_value_140
    · replace h := o_tt c6 h
      refine lv_aload hx hb d_MM_value_78 (lv_at hl 2 rfl) ?_
      refine o_get (v := .ref (ad 50)) C in_MT hP 48 mw_48 rfl 1 (by decide) k_7_103 rfl rfl d_MM_value_80 ?_
      refine lv_iload_n hx hb d_MM_value_83 rfl (lv_at hl 0 rfl) ?_
      obtain ⟨g14, h⟩ := o_gd_some h
      refine o_iald (f := (MT_kind M1)) C hP 50 47 mw_50 rfl g14 d_MM_value_84 ?_
      refine lv_goto (tgt := 140) hx hb d_MM_value_85 (by decide) ?_
      cases h
      exact o_ri (v := ((MT_kind M1) x2.toNatClampNeg)) C hP hS d_MM_value_140
  · replace h := o_ff c5 h
    refine lv_iconst (v := (0:Int32)) hx hb d_MM_value_72 (by decide) ?_
    cases h
    exact o_ri (v := (0:Int32)) C hP hS d_MM_value_73
set_option maxHeartbeats 4000000 in
set_option maxRecDepth 100000 in
theorem f_MM_value_j37 {E : (Nat → Prop) → State → Heap → Prop} {p : Program} {l : Launch} {e : Env} {s : State} {m : MethodId} {args : Array Value} {below : List Frame} {meth : Method} {c : Code} {D : va_G} {ad kd sd vd xd : Nat → Nat} {ca : Nat → ClassId} {A : Nat → Prop} {ky ty : Nat → Option Nat} (hE : o_EK E kd sd vd xd) (hKy : m_KY ky ty sd) (C : o_Cx E p s m args meth c D m_cls (m_tys ca) "SchemaJudgeModel" b_MM_value (some .int) 5 cc_MM_value A) (hDD : ∀ (rt : Nat) (Ni : SNI) (Np : SNP) (No : SNO) (Nx : SNX) (Nf : SNF) (Na : SNA) (Nh : SNH) (Nq : SNQ) (Nj : SNJ) (M0 : SMT) (M1 : SMT), va_D A (m_cw ad ca ky ty rt Ni Np No Nx Nf Na Nh Nq Nj M0 M1)) (x2 : Int32) (x3 : Int32) (y1 : Int32) (M0 : SMT) (M1 : SMT) (Ni : SNI) (Np : SNP) (No : SNO) (Nx : SNX) (Nf : SNF) (Na : SNA) (Nh : SNH) (Nq : SNQ) (Nj : SNJ) (rt : Nat) {r : Int32 × SNI} (h : m_MM_value_j37 x2 x3 y1 M0 M1 Ni = some r) : o_At p l e rm_MM_value s m args below meth c (MQ below (o_Qx D m_cls (some (.int r.1)) (m_cw ad ca ky ty rt r.2 Np No Nx Nf Na Nh Nq Nj M0 M1) A) args s 0 0 A) m_cls D A 5 37 [.int y1, .ref (ad 0)] (m_cw ad ca ky ty rt Ni Np No Nx Nf Na Nh Nq Nj M0 M1) [(0, .ref (ad 0)), (2, .int x2), (3, .int x3), (4, .ref (ad 48))] := by
  unfold m_MM_value_j37 at h
  intro H locs ls hP hS hl
  have C0 := C
  obtain ⟨hx, hb, -, -, -, hown, hts, hK, -, -⟩ := C0
  refine lv_iconst (v := (1:Int32)) hx hb d_MM_value_37 (by decide) ?_
  obtain ⟨q2, hq2, h⟩ := o_bd_some h
  refine o_V (st1 := [.int q2.1]) (w1 := (m_cw ad ca ky ty rt q2.2 Np No Nx Nf Na Nh Nq Nj M0 M1)) hE.1 C (e_MM_fails hE hKy l y1 (1:Int32) Ni Np No Nx Nf Na Nh Nq Nj M0 M1 rt hq2) hP (hDD _ _ _ _ _ _ _ _ _ _ _ _) hS hl.1 rfl mw_0 k_8_176 k_8_178 k_s_81 k_1_12 k_8_179 hv_MM_fails rfl rfl ⟨(Nat.le_of_ble_eq_true rfl), (Nat.le_of_ble_eq_true rfl)⟩ rfl (Nat.le_of_ble_eq_true rfl) ⟨Nat.zero_le _, Nat.zero_le _⟩ rfl d_MM_value_38 (fun H locs hP hS => ?_)
  refine lv_if_ne (tgt := 72) hx hb d_MM_value_41 (by decide) (fun c3 => ?_) (fun c3 => ?_)
  · replace h := o_ff c3 h
    refine lv_iconst (v := (0:Int32)) hx hb d_MM_value_72 (by decide) ?_
    cases h
    exact o_ri (v := (0:Int32)) C hP hS d_MM_value_73
  · replace h := o_tt c3 h
    refine lv_aload_n hx hb d_MM_value_44 rfl (lv_at hl 0 rfl) ?_
    refine lv_iload_n hx hb d_MM_value_45 rfl (lv_at hl 1 rfl) ?_
    refine lv_iconst (v := (0:Int32)) hx hb d_MM_value_46 (by decide) ?_
    refine lv_aload hx hb d_MM_value_47 (lv_at hl 3 rfl) ?_
    refine o_get (v := .int (MT_values M1)) C in_MT hP 48 mw_48 rfl 13 (by decide) k_7_127 rfl rfl d_MM_value_49 ?_
    refine lv_iconst (v := (1:Int32)) hx hb d_MM_value_52 (by decide) ?_
    refine lv_isub hx hb d_MM_value_53 ?_
    obtain ⟨q3, hq3, h⟩ := o_bd_some h
    refine o_S (st1 := [.int q3, .ref (ad 0)]) (w1 := (m_cw ad ca ky ty rt q2.2 Np No Nx Nf Na Nh Nq Nj M0 M1)) hE.1 C (e_MM_in hE hKy l x2 (0:Int32) ((MT_values M1) - (1:Int32)) q2.2 Np No Nx Nf Na Nh Nq Nj M0 M1 rt hq3) hP (hDD _ _ _ _ _ _ _ _ _ _ _ _) hS hl.1 k_9_41 k_8_201 k_1_12 k_8_202 hs_MM_in rfl rfl ⟨(Nat.le_of_ble_eq_true rfl), (Nat.le_of_ble_eq_true rfl)⟩ rfl (Nat.le_of_ble_eq_true rfl) ⟨Nat.zero_le _, Nat.zero_le _⟩ rfl d_MM_value_54 (fun H locs hP hS => ?_)
    refine lv_if_ne (tgt := 64) hx hb d_MM_value_57 (by decide) (fun c4 => ?_) (fun c4 => ?_)
    · replace h := o_ff c4 h
      refine lv_iconst (v := (0:Int32)) hx hb d_MM_value_64 (by decide) ?_
      exact f_MM_value_j65 hE hKy C hDD x2 x3 (0:Int32) M0 M1 q2.2 Np No Nx Nf Na Nh Nq Nj rt h _ _ _ hP hS (lv_sub hl [1, 2, 3] rfl)
    · replace h := o_tt c4 h
      refine lv_iconst (v := (1:Int32)) hx hb d_MM_value_60 (by decide) ?_
      refine lv_goto (tgt := 65) hx hb d_MM_value_61 (by decide) ?_
      exact f_MM_value_j65 hE hKy C hDD x2 x3 (1:Int32) M0 M1 q2.2 Np No Nx Nf Na Nh Nq Nj rt h _ _ _ hP hS (lv_sub hl [1, 2, 3] rfl)
set_option maxHeartbeats 4000000 in
set_option maxRecDepth 100000 in
theorem f_MM_value_j20 {E : (Nat → Prop) → State → Heap → Prop} {p : Program} {l : Launch} {e : Env} {s : State} {m : MethodId} {args : Array Value} {below : List Frame} {meth : Method} {c : Code} {D : va_G} {ad kd sd vd xd : Nat → Nat} {ca : Nat → ClassId} {A : Nat → Prop} {ky ty : Nat → Option Nat} (hE : o_EK E kd sd vd xd) (hKy : m_KY ky ty sd) (C : o_Cx E p s m args meth c D m_cls (m_tys ca) "SchemaJudgeModel" b_MM_value (some .int) 5 cc_MM_value A) (hDD : ∀ (rt : Nat) (Ni : SNI) (Np : SNP) (No : SNO) (Nx : SNX) (Nf : SNF) (Na : SNA) (Nh : SNH) (Nq : SNQ) (Nj : SNJ) (M0 : SMT) (M1 : SMT), va_D A (m_cw ad ca ky ty rt Ni Np No Nx Nf Na Nh Nq Nj M0 M1)) (x2 : Int32) (x3 : Int32) (M0 : SMT) (M1 : SMT) (Ni : SNI) (Np : SNP) (No : SNO) (Nx : SNX) (Nf : SNF) (Na : SNA) (Nh : SNH) (Nq : SNQ) (Nj : SNJ) (rt : Nat) {r : Int32 × SNI} (h : m_MM_value_j20 x2 x3 M0 M1 Ni = some r) : o_At p l e rm_MM_value s m args below meth c (MQ below (o_Qx D m_cls (some (.int r.1)) (m_cw ad ca ky ty rt r.2 Np No Nx Nf Na Nh Nq Nj M0 M1) A) args s 0 0 A) m_cls D A 5 20 [.ref (ad 48)] (m_cw ad ca ky ty rt Ni Np No Nx Nf Na Nh Nq Nj M0 M1) [(0, .ref (ad 0)), (2, .int x2), (3, .int x3)] := by
  unfold m_MM_value_j20 at h
  intro H locs ls hP hS hl
  have C0 := C
  obtain ⟨hx, hb, -, -, -, hown, hts, hK, -, -⟩ := C0
  refine lv_astore (lv' := [(4, .ref (ad 48)), (0, .ref (ad 0)), (2, .int x2), (3, .int x3)]) hx hb d_MM_value_20 hl (by decide) rfl (fun ls hl => ?_)
  refine lv_aload_n hx hb d_MM_value_22 rfl (lv_at hl 1 rfl) ?_
  refine lv_iload_n hx hb d_MM_value_23 rfl (lv_at hl 3 rfl) ?_
  refine lv_iconst (v := (0:Int32)) hx hb d_MM_value_24 (by decide) ?_
  refine lv_iconst (v := (4:Int32)) hx hb d_MM_value_25 (by decide) ?_
  obtain ⟨q1, hq1, h⟩ := o_bd_some h
  refine o_S (st1 := [.int q1, .ref (ad 0)]) (w1 := (m_cw ad ca ky ty rt Ni Np No Nx Nf Na Nh Nq Nj M0 M1)) hE.1 C (e_MM_in hE hKy l x3 (0:Int32) (4:Int32) Ni Np No Nx Nf Na Nh Nq Nj M0 M1 rt hq1) hP (hDD _ _ _ _ _ _ _ _ _ _ _ _) hS hl.1 k_9_41 k_8_201 k_1_12 k_8_202 hs_MM_in rfl rfl ⟨(Nat.le_of_ble_eq_true rfl), (Nat.le_of_ble_eq_true rfl)⟩ rfl (Nat.le_of_ble_eq_true rfl) ⟨Nat.zero_le _, Nat.zero_le _⟩ rfl d_MM_value_26 (fun H locs hP hS => ?_)
  refine lv_if_ne (tgt := 36) hx hb d_MM_value_29 (by decide) (fun c2 => ?_) (fun c2 => ?_)
  · replace h := o_ff c2 h
    refine lv_iconst (v := (0:Int32)) hx hb d_MM_value_36 (by decide) ?_
    exact f_MM_value_j37 hE hKy C hDD x2 x3 (0:Int32) M0 M1 Ni Np No Nx Nf Na Nh Nq Nj rt h _ _ _ hP hS (lv_sub hl [1, 2, 3, 0] rfl)
  · replace h := o_tt c2 h
    refine lv_iconst (v := (1:Int32)) hx hb d_MM_value_32 (by decide) ?_
    refine lv_goto (tgt := 37) hx hb d_MM_value_33 (by decide) ?_
    exact f_MM_value_j37 hE hKy C hDD x2 x3 (1:Int32) M0 M1 Ni Np No Nx Nf Na Nh Nq Nj rt h _ _ _ hP hS (lv_sub hl [1, 2, 3, 0] rfl)
set_option maxHeartbeats 4000000 in
set_option maxRecDepth 100000 in
theorem f_MM_value_j65v10 {E : (Nat → Prop) → State → Heap → Prop} {p : Program} {l : Launch} {e : Env} {s : State} {m : MethodId} {args : Array Value} {below : List Frame} {meth : Method} {c : Code} {D : va_G} {ad kd sd vd xd : Nat → Nat} {ca : Nat → ClassId} {A : Nat → Prop} {ky ty : Nat → Option Nat} (hE : o_EK E kd sd vd xd) (hKy : m_KY ky ty sd) (C : o_Cx E p s m args meth c D m_cls (m_tys ca) "SchemaJudgeModel" b_MM_value (some .int) 5 cc_MM_value A) (hDD : ∀ (rt : Nat) (Ni : SNI) (Np : SNP) (No : SNO) (Nx : SNX) (Nf : SNF) (Na : SNA) (Nh : SNH) (Nq : SNQ) (Nj : SNJ) (M0 : SMT) (M1 : SMT), va_D A (m_cw ad ca ky ty rt Ni Np No Nx Nf Na Nh Nq Nj M0 M1)) (x2 : Int32) (x3 : Int32) (y1 : Int32) (M0 : SMT) (M1 : SMT) (Ni : SNI) (Np : SNP) (No : SNO) (Nx : SNX) (Nf : SNF) (Na : SNA) (Nh : SNH) (Nq : SNQ) (Nj : SNJ) (rt : Nat) {r : Int32 × SNI} (h : m_MM_value_j65v10 x2 x3 y1 M0 M1 Ni = some r) : o_At p l e rm_MM_value s m args below meth c (MQ below (o_Qx D m_cls (some (.int r.1)) (m_cw ad ca ky ty rt r.2 Np No Nx Nf Na Nh Nq Nj M0 M1) A) args s 0 0 A) m_cls D A 5 65 [.int y1, .ref (ad 0)] (m_cw ad ca ky ty rt Ni Np No Nx Nf Na Nh Nq Nj M0 M1) [(2, .int x2), (3, .int x3), (4, .ref (ad 33))] := by
  unfold m_MM_value_j65v10 at h
  intro H locs ls hP hS hl
  have C0 := C
  obtain ⟨hx, hb, -, -, -, hown, hts, hK, -, -⟩ := C0
  refine lv_iconst (v := (2:Int32)) hx hb d_MM_value_65 (by decide) ?_
  obtain ⟨q8, hq8, h⟩ := o_bd_some h
  refine o_V (st1 := [.int q8.1]) (w1 := (m_cw ad ca ky ty rt q8.2 Np No Nx Nf Na Nh Nq Nj M0 M1)) hE.1 C (e_MM_fails hE hKy l y1 (2:Int32) Ni Np No Nx Nf Na Nh Nq Nj M0 M1 rt hq8) hP (hDD _ _ _ _ _ _ _ _ _ _ _ _) hS hl.1 rfl mw_0 k_8_176 k_8_178 k_s_81 k_1_12 k_8_179 hv_MM_fails rfl rfl ⟨(Nat.le_of_ble_eq_true rfl), (Nat.le_of_ble_eq_true rfl)⟩ rfl (Nat.le_of_ble_eq_true rfl) ⟨Nat.zero_le _, Nat.zero_le _⟩ rfl d_MM_value_66 (fun H locs hP hS => ?_)
  refine lv_if_eq (tgt := 74) hx hb d_MM_value_69 (by decide) (fun c18 => ?_) (fun c18 => ?_)
  · replace h := o_tt c18 h
    refine lv_iload_n hx hb d_MM_value_74 rfl (lv_at hl 1 rfl) ?_
    refine lv_if_ne (tgt := 88) hx hb d_MM_value_75 (by decide) (fun c19 => ?_) (fun c19 => ?_)
    · replace h := o_ff c19 h
      refine lv_iload_n hx hb d_MM_value_88 rfl (lv_at hl 1 rfl) ?_
      refine lv_iconst (v := (1:Int32)) hx hb d_MM_value_89 (by decide) ?_
      refine lv_icmp_ne (tgt := 103) hx hb d_MM_value_90 (by decide) (fun c20 => ?_) (fun c20 => ?_)
      · replace h := o_ff c20 h
        refine lv_iload_n hx hb d_MM_value_103 rfl (lv_at hl 1 rfl) ?_
        refine lv_iconst (v := (2:Int32)) hx hb d_MM_value_104 (by decide) ?_
        refine lv_icmp_ne (tgt := 118) hx hb d_MM_value_105 (by decide) (fun c21 => ?_) (fun c21 => ?_)
        · replace h := o_ff c21 h
          refine lv_iload_n hx hb d_MM_value_118 rfl (lv_at hl 1 rfl) ?_
          refine lv_iconst (v := (3:Int32)) hx hb d_MM_value_119 (by decide) ?_
          refine lv_icmp_ne (tgt := 133) hx hb d_MM_value_120 (by decide) (fun c22 => ?_) (fun c22 => ?_)
          · replace h := o_ff c22 h
            refine lv_aload hx hb d_MM_value_133 (lv_at hl 2 rfl) ?_
            refine o_get (v := .ref (ad 39)) C in_MT hP 33 mw_33 rfl 5 (by decide) k_7_111 rfl rfl d_MM_value_135 ?_
            refine lv_iload_n hx hb d_MM_value_138 rfl (lv_at hl 0 rfl) ?_
            obtain ⟨g23, h⟩ := o_gd_some h
            refine o_iald (f := (MT_power M0)) C hP 39 37 mw_39 rfl g23 d_MM_value_139 ?_
            cases h
            exact o_ri (v := ((MT_power M0) x2.toNatClampNeg)) C hP hS d_MM_value_140
          · replace h := o_tt c22 h
            refine lv_aload hx hb d_MM_value_123 (lv_at hl 2 rfl) ?_
            refine o_get (v := .ref (ad 38)) C in_MT hP 33 mw_33 rfl 4 (by decide) k_7_109 rfl rfl d_MM_value_125 ?_
            refine lv_iload_n hx hb d_MM_value_128 rfl (lv_at hl 0 rfl) ?_
            obtain ⟨g24, h⟩ := o_gd_some h
            refine o_iald (f := (MT_parent M0)) C hP 38 36 mw_38 rfl g24 d_MM_value_129 ?_
            refine lv_goto (tgt := 140) hx hb d_MM_value_130 (by decide) ?_
            cases h
            exact o_ri (v := ((MT_parent M0) x2.toNatClampNeg)) C hP hS d_MM_value_140
        · replace h := o_tt c21 h
          refine lv_aload hx hb d_MM_value_108 (lv_at hl 2 rfl) ?_
          refine o_get (v := .ref (ad 37)) C in_MT hP 33 mw_33 rfl 3 (by decide) k_7_107 rfl rfl d_MM_value_110 ?_
          refine lv_iload_n hx hb d_MM_value_113 rfl (lv_at hl 0 rfl) ?_
          obtain ⟨g25, h⟩ := o_gd_some h
          refine o_iald (f := (MT_many M0)) C hP 37 35 mw_37 rfl g25 d_MM_value_114 ?_
          refine lv_goto (tgt := 140) hx hb d_MM_value_115 (by decide) ?_
          cases h
          exact o_ri (v := ((MT_many M0) x2.toNatClampNeg)) C hP hS d_MM_value_140
      · replace h := o_tt c20 h
        refine lv_aload hx hb d_MM_value_93 (lv_at hl 2 rfl) ?_
        refine o_get (v := .ref (ad 36)) C in_MT hP 33 mw_33 rfl 2 (by decide) k_7_105 rfl rfl d_MM_value_95 ?_
        refine lv_iload_n hx hb d_MM_value_98 rfl (lv_at hl 0 rfl) ?_
        obtain ⟨g26, h⟩ := o_gd_some h
        refine o_iald (f := (MT_place M0)) C hP 36 34 mw_36 rfl g26 d_MM_value_99 ?_
        refine lv_goto (tgt := 140) hx hb d_MM_value_100 (by decide) ?_
        cases h
        exact o_ri (v := ((MT_place M0) x2.toNatClampNeg)) C hP hS d_MM_value_140
    · replace h := o_tt c19 h
      refine lv_aload hx hb d_MM_value_78 (lv_at hl 2 rfl) ?_
      refine o_get (v := .ref (ad 35)) C in_MT hP 33 mw_33 rfl 1 (by decide) k_7_103 rfl rfl d_MM_value_80 ?_
      refine lv_iload_n hx hb d_MM_value_83 rfl (lv_at hl 0 rfl) ?_
      obtain ⟨g27, h⟩ := o_gd_some h
      refine o_iald (f := (MT_kind M0)) C hP 35 33 mw_35 rfl g27 d_MM_value_84 ?_
      refine lv_goto (tgt := 140) hx hb d_MM_value_85 (by decide) ?_
      cases h
      exact o_ri (v := ((MT_kind M0) x2.toNatClampNeg)) C hP hS d_MM_value_140
  · replace h := o_ff c18 h
    refine lv_iconst (v := (0:Int32)) hx hb d_MM_value_72 (by decide) ?_
    cases h
    exact o_ri (v := (0:Int32)) C hP hS d_MM_value_73
set_option maxHeartbeats 4000000 in
set_option maxRecDepth 100000 in
theorem f_MM_value_j37v7 {E : (Nat → Prop) → State → Heap → Prop} {p : Program} {l : Launch} {e : Env} {s : State} {m : MethodId} {args : Array Value} {below : List Frame} {meth : Method} {c : Code} {D : va_G} {ad kd sd vd xd : Nat → Nat} {ca : Nat → ClassId} {A : Nat → Prop} {ky ty : Nat → Option Nat} (hE : o_EK E kd sd vd xd) (hKy : m_KY ky ty sd) (C : o_Cx E p s m args meth c D m_cls (m_tys ca) "SchemaJudgeModel" b_MM_value (some .int) 5 cc_MM_value A) (hDD : ∀ (rt : Nat) (Ni : SNI) (Np : SNP) (No : SNO) (Nx : SNX) (Nf : SNF) (Na : SNA) (Nh : SNH) (Nq : SNQ) (Nj : SNJ) (M0 : SMT) (M1 : SMT), va_D A (m_cw ad ca ky ty rt Ni Np No Nx Nf Na Nh Nq Nj M0 M1)) (x2 : Int32) (x3 : Int32) (y1 : Int32) (M0 : SMT) (M1 : SMT) (Ni : SNI) (Np : SNP) (No : SNO) (Nx : SNX) (Nf : SNF) (Na : SNA) (Nh : SNH) (Nq : SNQ) (Nj : SNJ) (rt : Nat) {r : Int32 × SNI} (h : m_MM_value_j37v7 x2 x3 y1 M0 M1 Ni = some r) : o_At p l e rm_MM_value s m args below meth c (MQ below (o_Qx D m_cls (some (.int r.1)) (m_cw ad ca ky ty rt r.2 Np No Nx Nf Na Nh Nq Nj M0 M1) A) args s 0 0 A) m_cls D A 5 37 [.int y1, .ref (ad 0)] (m_cw ad ca ky ty rt Ni Np No Nx Nf Na Nh Nq Nj M0 M1) [(0, .ref (ad 0)), (2, .int x2), (3, .int x3), (4, .ref (ad 33))] := by
  unfold m_MM_value_j37v7 at h
  intro H locs ls hP hS hl
  have C0 := C
  obtain ⟨hx, hb, -, -, -, hown, hts, hK, -, -⟩ := C0
  refine lv_iconst (v := (1:Int32)) hx hb d_MM_value_37 (by decide) ?_
  obtain ⟨q6, hq6, h⟩ := o_bd_some h
  refine o_V (st1 := [.int q6.1]) (w1 := (m_cw ad ca ky ty rt q6.2 Np No Nx Nf Na Nh Nq Nj M0 M1)) hE.1 C (e_MM_fails hE hKy l y1 (1:Int32) Ni Np No Nx Nf Na Nh Nq Nj M0 M1 rt hq6) hP (hDD _ _ _ _ _ _ _ _ _ _ _ _) hS hl.1 rfl mw_0 k_8_176 k_8_178 k_s_81 k_1_12 k_8_179 hv_MM_fails rfl rfl ⟨(Nat.le_of_ble_eq_true rfl), (Nat.le_of_ble_eq_true rfl)⟩ rfl (Nat.le_of_ble_eq_true rfl) ⟨Nat.zero_le _, Nat.zero_le _⟩ rfl d_MM_value_38 (fun H locs hP hS => ?_)
  refine lv_if_ne (tgt := 72) hx hb d_MM_value_41 (by decide) (fun c16 => ?_) (fun c16 => ?_)
  · replace h := o_ff c16 h
    refine lv_iconst (v := (0:Int32)) hx hb d_MM_value_72 (by decide) ?_
    cases h
    exact o_ri (v := (0:Int32)) C hP hS d_MM_value_73
  · replace h := o_tt c16 h
    refine lv_aload_n hx hb d_MM_value_44 rfl (lv_at hl 0 rfl) ?_
    refine lv_iload_n hx hb d_MM_value_45 rfl (lv_at hl 1 rfl) ?_
    refine lv_iconst (v := (0:Int32)) hx hb d_MM_value_46 (by decide) ?_
    refine lv_aload hx hb d_MM_value_47 (lv_at hl 3 rfl) ?_
    refine o_get (v := .int (MT_values M0)) C in_MT hP 33 mw_33 rfl 13 (by decide) k_7_127 rfl rfl d_MM_value_49 ?_
    refine lv_iconst (v := (1:Int32)) hx hb d_MM_value_52 (by decide) ?_
    refine lv_isub hx hb d_MM_value_53 ?_
    obtain ⟨q7, hq7, h⟩ := o_bd_some h
    refine o_S (st1 := [.int q7, .ref (ad 0)]) (w1 := (m_cw ad ca ky ty rt q6.2 Np No Nx Nf Na Nh Nq Nj M0 M1)) hE.1 C (e_MM_in hE hKy l x2 (0:Int32) ((MT_values M0) - (1:Int32)) q6.2 Np No Nx Nf Na Nh Nq Nj M0 M1 rt hq7) hP (hDD _ _ _ _ _ _ _ _ _ _ _ _) hS hl.1 k_9_41 k_8_201 k_1_12 k_8_202 hs_MM_in rfl rfl ⟨(Nat.le_of_ble_eq_true rfl), (Nat.le_of_ble_eq_true rfl)⟩ rfl (Nat.le_of_ble_eq_true rfl) ⟨Nat.zero_le _, Nat.zero_le _⟩ rfl d_MM_value_54 (fun H locs hP hS => ?_)
    refine lv_if_ne (tgt := 64) hx hb d_MM_value_57 (by decide) (fun c17 => ?_) (fun c17 => ?_)
    · replace h := o_ff c17 h
      refine lv_iconst (v := (0:Int32)) hx hb d_MM_value_64 (by decide) ?_
      exact f_MM_value_j65v10 hE hKy C hDD x2 x3 (0:Int32) M0 M1 q6.2 Np No Nx Nf Na Nh Nq Nj rt h _ _ _ hP hS (lv_sub hl [1, 2, 3] rfl)
    · replace h := o_tt c17 h
      refine lv_iconst (v := (1:Int32)) hx hb d_MM_value_60 (by decide) ?_
      refine lv_goto (tgt := 65) hx hb d_MM_value_61 (by decide) ?_
      exact f_MM_value_j65v10 hE hKy C hDD x2 x3 (1:Int32) M0 M1 q6.2 Np No Nx Nf Na Nh Nq Nj rt h _ _ _ hP hS (lv_sub hl [1, 2, 3] rfl)
set_option maxHeartbeats 4000000 in
set_option maxRecDepth 100000 in
theorem f_MM_value_j20v5 {E : (Nat → Prop) → State → Heap → Prop} {p : Program} {l : Launch} {e : Env} {s : State} {m : MethodId} {args : Array Value} {below : List Frame} {meth : Method} {c : Code} {D : va_G} {ad kd sd vd xd : Nat → Nat} {ca : Nat → ClassId} {A : Nat → Prop} {ky ty : Nat → Option Nat} (hE : o_EK E kd sd vd xd) (hKy : m_KY ky ty sd) (C : o_Cx E p s m args meth c D m_cls (m_tys ca) "SchemaJudgeModel" b_MM_value (some .int) 5 cc_MM_value A) (hDD : ∀ (rt : Nat) (Ni : SNI) (Np : SNP) (No : SNO) (Nx : SNX) (Nf : SNF) (Na : SNA) (Nh : SNH) (Nq : SNQ) (Nj : SNJ) (M0 : SMT) (M1 : SMT), va_D A (m_cw ad ca ky ty rt Ni Np No Nx Nf Na Nh Nq Nj M0 M1)) (x2 : Int32) (x3 : Int32) (M0 : SMT) (M1 : SMT) (Ni : SNI) (Np : SNP) (No : SNO) (Nx : SNX) (Nf : SNF) (Na : SNA) (Nh : SNH) (Nq : SNQ) (Nj : SNJ) (rt : Nat) {r : Int32 × SNI} (h : m_MM_value_j20v5 x2 x3 M0 M1 Ni = some r) : o_At p l e rm_MM_value s m args below meth c (MQ below (o_Qx D m_cls (some (.int r.1)) (m_cw ad ca ky ty rt r.2 Np No Nx Nf Na Nh Nq Nj M0 M1) A) args s 0 0 A) m_cls D A 5 20 [.ref (ad 33)] (m_cw ad ca ky ty rt Ni Np No Nx Nf Na Nh Nq Nj M0 M1) [(0, .ref (ad 0)), (2, .int x2), (3, .int x3)] := by
  unfold m_MM_value_j20v5 at h
  intro H locs ls hP hS hl
  have C0 := C
  obtain ⟨hx, hb, -, -, -, hown, hts, hK, -, -⟩ := C0
  refine lv_astore (lv' := [(4, .ref (ad 33)), (0, .ref (ad 0)), (2, .int x2), (3, .int x3)]) hx hb d_MM_value_20 hl (by decide) rfl (fun ls hl => ?_)
  refine lv_aload_n hx hb d_MM_value_22 rfl (lv_at hl 1 rfl) ?_
  refine lv_iload_n hx hb d_MM_value_23 rfl (lv_at hl 3 rfl) ?_
  refine lv_iconst (v := (0:Int32)) hx hb d_MM_value_24 (by decide) ?_
  refine lv_iconst (v := (4:Int32)) hx hb d_MM_value_25 (by decide) ?_
  obtain ⟨q5, hq5, h⟩ := o_bd_some h
  refine o_S (st1 := [.int q5, .ref (ad 0)]) (w1 := (m_cw ad ca ky ty rt Ni Np No Nx Nf Na Nh Nq Nj M0 M1)) hE.1 C (e_MM_in hE hKy l x3 (0:Int32) (4:Int32) Ni Np No Nx Nf Na Nh Nq Nj M0 M1 rt hq5) hP (hDD _ _ _ _ _ _ _ _ _ _ _ _) hS hl.1 k_9_41 k_8_201 k_1_12 k_8_202 hs_MM_in rfl rfl ⟨(Nat.le_of_ble_eq_true rfl), (Nat.le_of_ble_eq_true rfl)⟩ rfl (Nat.le_of_ble_eq_true rfl) ⟨Nat.zero_le _, Nat.zero_le _⟩ rfl d_MM_value_26 (fun H locs hP hS => ?_)
  refine lv_if_ne (tgt := 36) hx hb d_MM_value_29 (by decide) (fun c15 => ?_) (fun c15 => ?_)
  · replace h := o_ff c15 h
    refine lv_iconst (v := (0:Int32)) hx hb d_MM_value_36 (by decide) ?_
    exact f_MM_value_j37v7 hE hKy C hDD x2 x3 (0:Int32) M0 M1 Ni Np No Nx Nf Na Nh Nq Nj rt h _ _ _ hP hS (lv_sub hl [1, 2, 3, 0] rfl)
  · replace h := o_tt c15 h
    refine lv_iconst (v := (1:Int32)) hx hb d_MM_value_32 (by decide) ?_
    refine lv_goto (tgt := 37) hx hb d_MM_value_33 (by decide) ?_
    exact f_MM_value_j37v7 hE hKy C hDD x2 x3 (1:Int32) M0 M1 Ni Np No Nx Nf Na Nh Nq Nj rt h _ _ _ hP hS (lv_sub hl [1, 2, 3, 0] rfl)
set_option maxHeartbeats 4000000 in
set_option maxRecDepth 100000 in
theorem e_MM_value {E : (Nat → Prop) → State → Heap → Prop} {D : va_G} {ad kd sd vd xd : Nat → Nat} {ca : Nat → ClassId} {ky ty : Nat → Option Nat} (hE : o_EK E kd sd vd xd) (hKy : m_KY ky ty sd) (l : Launch) (x1 : Int32) (x2 : Int32) (x3 : Int32) (M0 : SMT) (M1 : SMT) (Ni : SNI) (Np : SNP) (No : SNO) (Nx : SNX) (Nf : SNF) (Na : SNA) (Nh : SNH) (Nq : SNQ) (Nj : SNJ) (rt : Nat) {r : Int32 × SNI} (h : m_MM_value x1 x2 x3 M0 M1 Ni = some r) : o_Cn E l D m_cls (m_tys ca) y_MM_value cc_MM_value rm_MM_value [.ref (ad 0), .int x1, .int x2, .int x3] (m_cw ad ca ky ty rt Ni Np No Nx Nf Na Nh Nq Nj M0 M1) (m_cw ad ca ky ty rt r.2 Np No Nx Nf Na Nh Nq Nj M0 M1) (some (.int r.1)) := by
  refine o_Cn_of (by decide) (Nat.le_of_ble_eq_true rfl) ?_
  intro p e s m below meth c A ls C hD hP hS hl
  have hDD : ∀ (rt : Nat) (Ni : SNI) (Np : SNP) (No : SNO) (Nx : SNX) (Nf : SNF) (Na : SNA) (Nh : SNH) (Nq : SNQ) (Nj : SNJ) (M0 : SMT) (M1 : SMT), va_D A (m_cw ad ca ky ty rt Ni Np No Nx Nf Na Nh Nq Nj M0 M1) := fun _ _ _ _ _ _ _ _ _ _ _ _ => o_D_map hD rfl
  have hl : lv_has ls 5 [(0, .ref (ad 0)), (1, .int x1), (2, .int x2), (3, .int x3)] := hl
  unfold m_MM_value at h
  have C0 := C
  obtain ⟨hx, hb, -, -, -, hown, hts, hK, -, -⟩ := C0
  refine lv_aload_n hx hb d_MM_value_0 rfl (lv_at hl 0 rfl) ?_
  refine lv_iconst (v := (0:Int32)) hx hb d_MM_value_1 (by decide) ?_
  refine o_put (v := .int (0:Int32)) (ty := .int) (w1 := (m_cw ad ca ky ty rt (NI_mk (0:Int32) (NI_fed Ni) (NI_wrong Ni) (NI_octets Ni)) Np No Nx Nf Na Nh Nq Nj M0 M1)) C in_MM t_MM t_MM_ok n_MM hP (hDD _ _ _ _ _ _ _ _ _ _ _ _) hS 0 mw_0 rfl 0 (by decide) k_7_230 rfl rfl (by decide +kernel) rfl rfl (Nat.le_of_ble_eq_true rfl) rfl d_MM_value_2 (fun H locs hP hS => ?_)
  refine lv_iload_n hx hb d_MM_value_5 rfl (lv_at hl 1 rfl) ?_
  refine lv_if_eq (tgt := 16) hx hb d_MM_value_6 (by decide) (fun c1 => ?_) (fun c1 => ?_)
  · replace h := o_tt c1 h
    refine lv_aload_n hx hb d_MM_value_16 rfl (lv_at hl 0 rfl) ?_
    refine o_get (v := .ref (ad 48)) C in_MM hP 0 mw_0 rfl 5 (by decide) k_7_235 rfl rfl d_MM_value_17 ?_
    exact f_MM_value_j20 hE hKy C hDD x2 x3 M0 M1 (NI_mk (0:Int32) (NI_fed Ni) (NI_wrong Ni) (NI_octets Ni)) Np No Nx Nf Na Nh Nq Nj rt h _ _ _ hP hS (lv_sub hl [0, 2, 3] rfl)
  · replace h := o_ff c1 h
    refine lv_aload_n hx hb d_MM_value_9 rfl (lv_at hl 0 rfl) ?_
    refine o_get (v := .ref (ad 33)) C in_MM hP 0 mw_0 rfl 4 (by decide) k_7_234 rfl rfl d_MM_value_10 ?_
    refine lv_goto (tgt := 20) hx hb d_MM_value_13 (by decide) ?_
    exact f_MM_value_j20v5 hE hKy C hDD x2 x3 M0 M1 (NI_mk (0:Int32) (NI_fed Ni) (NI_wrong Ni) (NI_octets Ni)) Np No Nx Nf Na Nh Nq Nj rt h _ _ _ hP hS (lv_sub hl [0, 2, 3] rfl)
set_option maxHeartbeats 4000000 in
set_option maxRecDepth 100000 in
theorem f_MM_alike_j45 {E : (Nat → Prop) → State → Heap → Prop} {p : Program} {l : Launch} {e : Env} {s : State} {m : MethodId} {args : Array Value} {below : List Frame} {meth : Method} {c : Code} {D : va_G} {ad kd sd vd xd : Nat → Nat} {ca : Nat → ClassId} {A : Nat → Prop} {ky ty : Nat → Option Nat} (hE : o_EK E kd sd vd xd) (hKy : m_KY ky ty sd) (C : o_Cx E p s m args meth c D m_cls (m_tys ca) "SchemaJudgeModel" b_MM_alike (some .boolean) 3 cc_MM_alike A) (hDD : ∀ (rt : Nat) (Ni : SNI) (Np : SNP) (No : SNO) (Nx : SNX) (Nf : SNF) (Na : SNA) (Nh : SNH) (Nq : SNQ) (Nj : SNJ) (M0 : SMT) (M1 : SMT), va_D A (m_cw ad ca ky ty rt Ni Np No Nx Nf Na Nh Nq Nj M0 M1)) (n : Nat) (x1 : Int32) (x2 : Int32) (y1 : Int32) (M1 : SMT) (Ni : SNI) (Np : SNP) (No : SNO) (Nx : SNX) (Nf : SNF) (Na : SNA) (Nh : SNH) (Nq : SNQ) (Nj : SNJ) (M0 : SMT) (rt : Nat) {r : Int32 × SNI} (h : m_MM_alike_j45 n x1 x2 y1 M1 Ni = some r) : o_At p l e rm_MM_alike s m args below meth c (MQ below (o_Qx D m_cls (some (.int r.1)) (m_cw ad ca ky ty rt r.2 Np No Nx Nf Na Nh Nq Nj M0 M1) A) args s 0 0 A) m_cls D A 3 45 [.int y1, .ref (ad 0)] (m_cw ad ca ky ty rt Ni Np No Nx Nf Na Nh Nq Nj M0 M1) [(0, .ref (ad 0)), (1, .int x1), (2, .int x2)] := by
  unfold m_MM_alike_j45 at h
  intro H locs ls hP hS hl
  have C0 := C
  obtain ⟨hx, hb, -, -, -, hown, hts, hK, -, -⟩ := C0
  refine lv_iconst (v := (1:Int32)) hx hb d_MM_alike_45 (by decide) ?_
  obtain ⟨q2, hq2, h⟩ := o_bd_some h
  refine o_V (st1 := [.int q2.1]) (w1 := (m_cw ad ca ky ty rt q2.2 Np No Nx Nf Na Nh Nq Nj M0 M1)) hE.1 C (e_MM_fails hE hKy l y1 (1:Int32) Ni Np No Nx Nf Na Nh Nq Nj M0 M1 rt hq2) hP (hDD _ _ _ _ _ _ _ _ _ _ _ _) hS hl.1 rfl mw_0 k_8_176 k_8_178 k_s_81 k_1_12 k_8_179 hv_MM_fails rfl rfl ⟨(Nat.le_of_ble_eq_true rfl), (Nat.le_of_ble_eq_true rfl)⟩ rfl (Nat.le_of_ble_eq_true rfl) ⟨Nat.zero_le _, Nat.zero_le _⟩ rfl d_MM_alike_46 (fun H locs hP hS => ?_)
  refine lv_if_eq (tgt := 54) hx hb d_MM_alike_49 (by decide) (fun c2 => ?_) (fun c2 => ?_)
  · replace h := o_tt c2 h
    refine lv_aload_n hx hb d_MM_alike_54 rfl (lv_at hl 0 rfl) ?_
    refine o_get (v := .ref (ad 48)) C in_MM hP 0 mw_0 rfl 5 (by decide) k_7_235 rfl rfl d_MM_alike_55 ?_
    refine lv_iload_n hx hb d_MM_alike_58 rfl (lv_at hl 1 rfl) ?_
    refine lv_aload_n hx hb d_MM_alike_59 rfl (lv_at hl 0 rfl) ?_
    refine o_get (v := .ref (ad 48)) C in_MM hP 0 mw_0 rfl 5 (by decide) k_7_235 rfl rfl d_MM_alike_60 ?_
    refine lv_iload_n hx hb d_MM_alike_63 rfl (lv_at hl 2 rfl) ?_
    obtain ⟨q3, hq3, h⟩ := o_bd_some h
    refine o_V (st1 := [.int q3]) (w1 := (m_cw ad ca ky ty rt q2.2 Np No Nx Nf Na Nh Nq Nj M0 M1)) hE.1 C (e_MT_alike_bb hE hKy l n 1003 x1 x2 M1 q2.2 Np No Nx Nf Na Nh Nq Nj M0 rt hq3) hP (hDD _ _ _ _ _ _ _ _ _ _ _ _) hS hl.1 rfl mw_48 k_10_27 k_10_28 k_10_29 k_1_13 k_10_30 hv_MT_alike rfl rfl ⟨(Nat.le_of_ble_eq_true rfl), (Nat.le_of_ble_eq_true rfl)⟩ rfl (Nat.le_of_ble_eq_true rfl) ⟨Nat.zero_le _, Nat.zero_le _⟩ rfl d_MM_alike_64 (fun H locs hP hS => ?_)
    obtain ⟨g3, h⟩ := o_gd_some h
    cases h
    exact o_rz C (o_zb_nar g3) hP hS d_MM_alike_67
  · replace h := o_ff c2 h
    refine lv_iconst (v := (0:Int32)) hx hb d_MM_alike_52 (by decide) ?_
    cases h
    exact o_rz (v := (0:Int32)) C o_nar0 hP hS d_MM_alike_53
set_option maxHeartbeats 4000000 in
set_option maxRecDepth 100000 in
theorem e_MM_alike {E : (Nat → Prop) → State → Heap → Prop} {D : va_G} {ad kd sd vd xd : Nat → Nat} {ca : Nat → ClassId} {ky ty : Nat → Option Nat} (hE : o_EK E kd sd vd xd) (hKy : m_KY ky ty sd) (l : Launch) (n : Nat) (x1 : Int32) (x2 : Int32) (M1 : SMT) (Ni : SNI) (Np : SNP) (No : SNO) (Nx : SNX) (Nf : SNF) (Na : SNA) (Nh : SNH) (Nq : SNQ) (Nj : SNJ) (M0 : SMT) (rt : Nat) {r : Int32 × SNI} (h : m_MM_alike n x1 x2 M1 Ni = some r) : o_Cn E l D m_cls (m_tys ca) y_MM_alike cc_MM_alike rm_MM_alike [.ref (ad 0), .int x1, .int x2] (m_cw ad ca ky ty rt Ni Np No Nx Nf Na Nh Nq Nj M0 M1) (m_cw ad ca ky ty rt r.2 Np No Nx Nf Na Nh Nq Nj M0 M1) (some (.int r.1)) := by
  refine o_Cn_of (by decide) (Nat.le_of_ble_eq_true rfl) ?_
  intro p e s m below meth c A ls C hD hP hS hl
  have hDD : ∀ (rt : Nat) (Ni : SNI) (Np : SNP) (No : SNO) (Nx : SNX) (Nf : SNF) (Na : SNA) (Nh : SNH) (Nq : SNQ) (Nj : SNJ) (M0 : SMT) (M1 : SMT), va_D A (m_cw ad ca ky ty rt Ni Np No Nx Nf Na Nh Nq Nj M0 M1) := fun _ _ _ _ _ _ _ _ _ _ _ _ => o_D_map hD rfl
  have hl : lv_has ls 3 [(0, .ref (ad 0)), (1, .int x1), (2, .int x2)] := hl
  unfold m_MM_alike at h
  have C0 := C
  obtain ⟨hx, hb, -, -, -, hown, hts, hK, -, -⟩ := C0
  refine lv_aload_n hx hb d_MM_alike_0 rfl (lv_at hl 0 rfl) ?_
  refine lv_iconst (v := (0:Int32)) hx hb d_MM_alike_1 (by decide) ?_
  refine o_put (v := .int (0:Int32)) (ty := .int) (w1 := (m_cw ad ca ky ty rt (NI_mk (0:Int32) (NI_fed Ni) (NI_wrong Ni) (NI_octets Ni)) Np No Nx Nf Na Nh Nq Nj M0 M1)) C in_MM t_MM t_MM_ok n_MM hP (hDD _ _ _ _ _ _ _ _ _ _ _ _) hS 0 mw_0 rfl 0 (by decide) k_7_230 rfl rfl (by decide +kernel) rfl rfl (Nat.le_of_ble_eq_true rfl) rfl d_MM_alike_2 (fun H locs hP hS => ?_)
  refine lv_aload_n hx hb d_MM_alike_5 rfl (lv_at hl 0 rfl) ?_
  refine lv_iload_n hx hb d_MM_alike_6 rfl (lv_at hl 1 rfl) ?_
  refine lv_iconst (v := (0:Int32)) hx hb d_MM_alike_7 (by decide) ?_
  refine lv_aload_n hx hb d_MM_alike_8 rfl (lv_at hl 0 rfl) ?_
  refine o_get (v := .ref (ad 48)) C in_MM hP 0 mw_0 rfl 5 (by decide) k_7_235 rfl rfl d_MM_alike_9 ?_
  refine o_get (v := .int (MT_values M1)) C in_MT hP 48 mw_48 rfl 13 (by decide) k_7_127 rfl rfl d_MM_alike_12 ?_
  refine lv_iconst (v := (1:Int32)) hx hb d_MM_alike_15 (by decide) ?_
  refine lv_isub hx hb d_MM_alike_16 ?_
  obtain ⟨q1, hq1, h⟩ := o_bd_some h
  refine o_S (st1 := [.int q1, .ref (ad 0)]) (w1 := (m_cw ad ca ky ty rt (NI_mk (0:Int32) (NI_fed Ni) (NI_wrong Ni) (NI_octets Ni)) Np No Nx Nf Na Nh Nq Nj M0 M1)) hE.1 C (e_MM_in hE hKy l x1 (0:Int32) ((MT_values M1) - (1:Int32)) (NI_mk (0:Int32) (NI_fed Ni) (NI_wrong Ni) (NI_octets Ni)) Np No Nx Nf Na Nh Nq Nj M0 M1 rt hq1) hP (hDD _ _ _ _ _ _ _ _ _ _ _ _) hS hl.1 k_9_41 k_8_201 k_1_12 k_8_202 hs_MM_in rfl rfl ⟨(Nat.le_of_ble_eq_true rfl), (Nat.le_of_ble_eq_true rfl)⟩ rfl (Nat.le_of_ble_eq_true rfl) ⟨Nat.zero_le _, Nat.zero_le _⟩ rfl d_MM_alike_17 (fun H locs hP hS => ?_)
  refine lv_if_eq (tgt := 40) hx hb d_MM_alike_20 (by decide) (fun c1 => ?_) (fun c1 => ?_)
  · replace h := o_tt c1 h
    refine lv_iconst (v := (1:Int32)) hx hb d_MM_alike_40 (by decide) ?_
    refine lv_goto (tgt := 45) hx hb d_MM_alike_41 (by decide) ?_
    exact f_MM_alike_j45 hE hKy C hDD n x1 x2 (1:Int32) M1 (NI_mk (0:Int32) (NI_fed Ni) (NI_wrong Ni) (NI_octets Ni)) Np No Nx Nf Na Nh Nq Nj M0 rt h _ _ _ hP hS (lv_sub hl [0, 1, 2] rfl)
  · replace h := o_ff c1 h
    refine lv_iload_n hx hb d_MM_alike_23 rfl (lv_at hl 2 rfl) ?_
    refine lv_iconst (v := (0:Int32)) hx hb d_MM_alike_24 (by decide) ?_
    refine lv_aload_n hx hb d_MM_alike_25 rfl (lv_at hl 0 rfl) ?_
    refine o_get (v := .ref (ad 48)) C in_MM hP 0 mw_0 rfl 5 (by decide) k_7_235 rfl rfl d_MM_alike_26 ?_
    refine o_get (v := .int (MT_values M1)) C in_MT hP 48 mw_48 rfl 13 (by decide) k_7_127 rfl rfl d_MM_alike_29 ?_
    refine lv_iconst (v := (1:Int32)) hx hb d_MM_alike_32 (by decide) ?_
    refine lv_isub hx hb d_MM_alike_33 ?_
    obtain ⟨q4, hq4, h⟩ := o_bd_some h
    refine o_S (st1 := [.int q4, .ref (ad 0)]) (w1 := (m_cw ad ca ky ty rt (NI_mk (0:Int32) (NI_fed Ni) (NI_wrong Ni) (NI_octets Ni)) Np No Nx Nf Na Nh Nq Nj M0 M1)) hE.1 C (e_MM_in hE hKy l x2 (0:Int32) ((MT_values M1) - (1:Int32)) (NI_mk (0:Int32) (NI_fed Ni) (NI_wrong Ni) (NI_octets Ni)) Np No Nx Nf Na Nh Nq Nj M0 M1 rt hq4) hP (hDD _ _ _ _ _ _ _ _ _ _ _ _) hS hl.1 k_9_41 k_8_201 k_1_12 k_8_202 hs_MM_in rfl rfl ⟨(Nat.le_of_ble_eq_true rfl), (Nat.le_of_ble_eq_true rfl)⟩ rfl (Nat.le_of_ble_eq_true rfl) ⟨Nat.zero_le _, Nat.zero_le _⟩ rfl d_MM_alike_34 (fun H locs hP hS => ?_)
    refine lv_if_ne (tgt := 44) hx hb d_MM_alike_37 (by decide) (fun c4 => ?_) (fun c4 => ?_)
    · replace h := o_ff c4 h
      refine lv_iconst (v := (0:Int32)) hx hb d_MM_alike_44 (by decide) ?_
      exact f_MM_alike_j45 hE hKy C hDD n x1 x2 (0:Int32) M1 (NI_mk (0:Int32) (NI_fed Ni) (NI_wrong Ni) (NI_octets Ni)) Np No Nx Nf Na Nh Nq Nj M0 rt h _ _ _ hP hS (lv_sub hl [0, 1, 2] rfl)
    · replace h := o_tt c4 h
      refine lv_iconst (v := (1:Int32)) hx hb d_MM_alike_40 (by decide) ?_
      refine lv_goto (tgt := 45) hx hb d_MM_alike_41 (by decide) ?_
      exact f_MM_alike_j45 hE hKy C hDD n x1 x2 (1:Int32) M1 (NI_mk (0:Int32) (NI_fed Ni) (NI_wrong Ni) (NI_octets Ni)) Np No Nx Nf Na Nh Nq Nj M0 rt h _ _ _ hP hS (lv_sub hl [0, 1, 2] rfl)
set_option maxHeartbeats 4000000 in
set_option maxRecDepth 100000 in
theorem e_MM_isPattern_b {E : (Nat → Prop) → State → Heap → Prop} {D : va_G} {ad kd sd vd xd : Nat → Nat} {ca : Nat → ClassId} {ky ty : Nat → Option Nat} (hE : o_EK E kd sd vd xd) (hKy : m_KY ky ty sd) (l : Launch) (n : Nat) (x2 : Int32) (a1 : SMT) (Np : SNP) (No : SNO) (Ni : SNI) (Nx : SNX) (Nf : SNF) (Na : SNA) (Nh : SNH) (Nq : SNQ) (Nj : SNJ) (M0 : SMT) (rt : Nat) {r : Int32 × SNP × SNO} (h : m_MM_isPattern n x2 a1 Np No = some r) : o_Cn E l D m_cls (m_tys ca) y_MM_isPattern cc_MM_isPattern rm_MM_isPattern [.ref (ad 0), .ref (ad 48), .int x2] (m_cw ad ca ky ty rt Ni Np No Nx Nf Na Nh Nq Nj M0 a1) (m_cw ad ca ky ty 48 Ni r.2.1 r.2.2 Nx Nf Na Nh Nq Nj M0 a1) (some (.int r.1)) := by
  refine o_Cn_of (by decide) (Nat.le_of_ble_eq_true rfl) ?_
  intro p e s m below meth c A ls C hD hP hS hl
  have hDD : ∀ (rt : Nat) (Ni : SNI) (Np : SNP) (No : SNO) (Nx : SNX) (Nf : SNF) (Na : SNA) (Nh : SNH) (Nq : SNQ) (Nj : SNJ) (M0 : SMT) (M1 : SMT), va_D A (m_cw ad ca ky ty rt Ni Np No Nx Nf Na Nh Nq Nj M0 M1) := fun _ _ _ _ _ _ _ _ _ _ _ _ => o_D_map hD rfl
  have hl : lv_has ls 4 [(0, .ref (ad 0)), (1, .ref (ad 48)), (2, .int x2)] := hl
  unfold m_MM_isPattern at h
  have C0 := C
  obtain ⟨hx, hb, -, -, -, hown, hts, hK, -, -⟩ := C0
  refine lv_aload_n hx hb d_MM_isPattern_0 rfl (lv_at hl 0 rfl) ?_
  refine lv_aload_n hx hb d_MM_isPattern_1 rfl (lv_at hl 1 rfl) ?_
  refine o_put (v := .ref (ad 48)) (ty := (.object "SchemaJudgeModel$Text")) (w1 := (m_cw ad ca ky ty 48 Ni Np No Nx Nf Na Nh Nq Nj M0 a1)) C in_MM t_MM t_MM_ok n_MM hP (hDD _ _ _ _ _ _ _ _ _ _ _ _) hS 0 mw_0 rfl 31 (by decide) k_8_21 rfl rfl (by decide +kernel) rfl rfl (Nat.le_of_ble_eq_true rfl) rfl d_MM_isPattern_2 (fun H locs hP hS => ?_)
  refine lv_aload_n hx hb d_MM_isPattern_5 rfl (lv_at hl 0 rfl) ?_
  refine lv_aload_n hx hb d_MM_isPattern_6 rfl (lv_at hl 1 rfl) ?_
  refine o_get (v := .ref (ad 58)) C in_MT hP 48 mw_48 rfl 9 (by decide) k_7_119 rfl rfl d_MM_isPattern_7 ?_
  refine lv_iload_n hx hb d_MM_isPattern_10 rfl (lv_at hl 2 rfl) ?_
  obtain ⟨g1, h⟩ := o_gd_some h
  refine o_iald (f := (MT_from a1)) C hP 58 55 mw_58 rfl g1 d_MM_isPattern_11 ?_
  refine o_put (v := .int ((MT_from a1) x2.toNatClampNeg)) (ty := .int) (w1 := (m_cw ad ca ky ty 48 Ni (NP_mk (NP_nodeKind Np) (NP_nodeA Np) (NP_nodeB Np) (NP_nodeC Np) (NP_nodeNext Np) (NP_low Np) (NP_high Np) (NP_setFrom Np) (NP_setTo Np) (NP_setNot Np) (NP_nodes Np) (NP_sets Np) (NP_ranges Np) ((MT_from a1) x2.toNatClampNeg) (NP_patEnd Np) (NP_broken Np)) No Nx Nf Na Nh Nq Nj M0 a1)) C in_MM t_MM t_MM_ok n_MM hP (hDD _ _ _ _ _ _ _ _ _ _ _ _) hS 0 mw_0 rfl 27 (by decide) k_8_17 rfl rfl (by decide +kernel) rfl rfl (Nat.le_of_ble_eq_true rfl) rfl d_MM_isPattern_12 (fun H locs hP hS => ?_)
  refine lv_aload_n hx hb d_MM_isPattern_15 rfl (lv_at hl 0 rfl) ?_
  refine lv_aload_n hx hb d_MM_isPattern_16 rfl (lv_at hl 0 rfl) ?_
  refine o_get (v := .int ((MT_from a1) x2.toNatClampNeg)) C in_MM hP 0 mw_0 rfl 27 (by decide) k_8_17 rfl rfl d_MM_isPattern_17 ?_
  refine lv_aload_n hx hb d_MM_isPattern_20 rfl (lv_at hl 1 rfl) ?_
  refine o_get (v := .ref (ad 52)) C in_MT hP 48 mw_48 rfl 3 (by decide) k_7_107 rfl rfl d_MM_isPattern_21 ?_
  refine lv_iload_n hx hb d_MM_isPattern_24 rfl (lv_at hl 2 rfl) ?_
  obtain ⟨g2, h⟩ := o_gd_some h
  refine o_iald (f := (MT_many a1)) C hP 52 49 mw_52 rfl g2 d_MM_isPattern_25 ?_
  refine lv_iadd hx hb d_MM_isPattern_26 ?_
  refine o_put (v := .int (((MT_from a1) x2.toNatClampNeg) + ((MT_many a1) x2.toNatClampNeg))) (ty := .int) (w1 := (m_cw ad ca ky ty 48 Ni (NP_mk (NP_nodeKind Np) (NP_nodeA Np) (NP_nodeB Np) (NP_nodeC Np) (NP_nodeNext Np) (NP_low Np) (NP_high Np) (NP_setFrom Np) (NP_setTo Np) (NP_setNot Np) (NP_nodes Np) (NP_sets Np) (NP_ranges Np) ((MT_from a1) x2.toNatClampNeg) (((MT_from a1) x2.toNatClampNeg) + ((MT_many a1) x2.toNatClampNeg)) (NP_broken Np)) No Nx Nf Na Nh Nq Nj M0 a1)) C in_MM t_MM t_MM_ok n_MM hP (hDD _ _ _ _ _ _ _ _ _ _ _ _) hS 0 mw_0 rfl 28 (by decide) k_8_18 rfl rfl (by decide +kernel) rfl rfl (Nat.le_of_ble_eq_true rfl) rfl d_MM_isPattern_27 (fun H locs hP hS => ?_)
  refine lv_aload_n hx hb d_MM_isPattern_30 rfl (lv_at hl 0 rfl) ?_
  refine lv_iconst (v := (0:Int32)) hx hb d_MM_isPattern_31 (by decide) ?_
  refine o_put (v := .int (0:Int32)) (ty := .int) (w1 := (m_cw ad ca ky ty 48 Ni (NP_mk (NP_nodeKind Np) (NP_nodeA Np) (NP_nodeB Np) (NP_nodeC Np) (NP_nodeNext Np) (NP_low Np) (NP_high Np) (NP_setFrom Np) (NP_setTo Np) (NP_setNot Np) (0:Int32) (NP_sets Np) (NP_ranges Np) ((MT_from a1) x2.toNatClampNeg) (((MT_from a1) x2.toNatClampNeg) + ((MT_many a1) x2.toNatClampNeg)) (NP_broken Np)) No Nx Nf Na Nh Nq Nj M0 a1)) C in_MM t_MM t_MM_ok n_MM hP (hDD _ _ _ _ _ _ _ _ _ _ _ _) hS 0 mw_0 rfl 23 (by decide) k_8_13 rfl rfl (by decide +kernel) rfl rfl (Nat.le_of_ble_eq_true rfl) rfl d_MM_isPattern_32 (fun H locs hP hS => ?_)
  refine lv_aload_n hx hb d_MM_isPattern_35 rfl (lv_at hl 0 rfl) ?_
  refine lv_iconst (v := (0:Int32)) hx hb d_MM_isPattern_36 (by decide) ?_
  refine o_put (v := .int (0:Int32)) (ty := .int) (w1 := (m_cw ad ca ky ty 48 Ni (NP_mk (NP_nodeKind Np) (NP_nodeA Np) (NP_nodeB Np) (NP_nodeC Np) (NP_nodeNext Np) (NP_low Np) (NP_high Np) (NP_setFrom Np) (NP_setTo Np) (NP_setNot Np) (0:Int32) (0:Int32) (NP_ranges Np) ((MT_from a1) x2.toNatClampNeg) (((MT_from a1) x2.toNatClampNeg) + ((MT_many a1) x2.toNatClampNeg)) (NP_broken Np)) No Nx Nf Na Nh Nq Nj M0 a1)) C in_MM t_MM t_MM_ok n_MM hP (hDD _ _ _ _ _ _ _ _ _ _ _ _) hS 0 mw_0 rfl 24 (by decide) k_8_14 rfl rfl (by decide +kernel) rfl rfl (Nat.le_of_ble_eq_true rfl) rfl d_MM_isPattern_37 (fun H locs hP hS => ?_)
  refine lv_aload_n hx hb d_MM_isPattern_40 rfl (lv_at hl 0 rfl) ?_
  refine lv_iconst (v := (0:Int32)) hx hb d_MM_isPattern_41 (by decide) ?_
  refine o_put (v := .int (0:Int32)) (ty := .int) (w1 := (m_cw ad ca ky ty 48 Ni (NP_mk (NP_nodeKind Np) (NP_nodeA Np) (NP_nodeB Np) (NP_nodeC Np) (NP_nodeNext Np) (NP_low Np) (NP_high Np) (NP_setFrom Np) (NP_setTo Np) (NP_setNot Np) (0:Int32) (0:Int32) (0:Int32) ((MT_from a1) x2.toNatClampNeg) (((MT_from a1) x2.toNatClampNeg) + ((MT_many a1) x2.toNatClampNeg)) (NP_broken Np)) No Nx Nf Na Nh Nq Nj M0 a1)) C in_MM t_MM t_MM_ok n_MM hP (hDD _ _ _ _ _ _ _ _ _ _ _ _) hS 0 mw_0 rfl 25 (by decide) k_8_15 rfl rfl (by decide +kernel) rfl rfl (Nat.le_of_ble_eq_true rfl) rfl d_MM_isPattern_42 (fun H locs hP hS => ?_)
  refine lv_aload_n hx hb d_MM_isPattern_45 rfl (lv_at hl 0 rfl) ?_
  refine lv_iconst (v := (0:Int32)) hx hb d_MM_isPattern_46 (by decide) ?_
  refine o_put (v := .int (0:Int32)) (ty := .boolean) (w1 := (m_cw ad ca ky ty 48 Ni (NP_mk (NP_nodeKind Np) (NP_nodeA Np) (NP_nodeB Np) (NP_nodeC Np) (NP_nodeNext Np) (NP_low Np) (NP_high Np) (NP_setFrom Np) (NP_setTo Np) (NP_setNot Np) (0:Int32) (0:Int32) (0:Int32) ((MT_from a1) x2.toNatClampNeg) (((MT_from a1) x2.toNatClampNeg) + ((MT_many a1) x2.toNatClampNeg)) (0:Int32)) No Nx Nf Na Nh Nq Nj M0 a1)) C in_MM t_MM t_MM_ok n_MM hP (hDD _ _ _ _ _ _ _ _ _ _ _ _) hS 0 mw_0 rfl 32 (by decide) k_8_22 rfl rfl (by decide +kernel) rfl rfl (Nat.le_of_ble_eq_true rfl) rfl d_MM_isPattern_47 (fun H locs hP hS => ?_)
  refine lv_aload_n hx hb d_MM_isPattern_50 rfl (lv_at hl 0 rfl) ?_
  refine lv_iconst (v := (0:Int32)) hx hb d_MM_isPattern_51 (by decide) ?_
  obtain ⟨q1, hq1, h⟩ := o_bd_some h
  refine o_V (st1 := [.int q1.1]) (w1 := (m_cw ad ca ky ty 48 Ni q1.2 No Nx Nf Na Nh Nq Nj M0 a1)) hE.1 C (e_MM_ways_b hE hKy l n 33 (0:Int32) a1 (NP_mk (NP_nodeKind Np) (NP_nodeA Np) (NP_nodeB Np) (NP_nodeC Np) (NP_nodeNext Np) (NP_low Np) (NP_high Np) (NP_setFrom Np) (NP_setTo Np) (NP_setNot Np) (0:Int32) (0:Int32) (0:Int32) ((MT_from a1) x2.toNatClampNeg) (((MT_from a1) x2.toNatClampNeg) + ((MT_many a1) x2.toNatClampNeg)) (0:Int32)) Ni No Nx Nf Na Nh Nq Nj M0 hq1) hP (hDD _ _ _ _ _ _ _ _ _ _ _ _) hS hl.1 rfl mw_0 k_9_58 k_9_60 k_s_86 k_1_12 k_9_61 hv_MM_ways rfl rfl ⟨(Nat.le_of_ble_eq_true rfl), (Nat.le_of_ble_eq_true rfl)⟩ rfl (Nat.le_of_ble_eq_true rfl) ⟨Nat.zero_le _, Nat.zero_le _⟩ rfl d_MM_isPattern_52 (fun H locs hP hS => ?_)
  refine lv_istore_n (lv' := [(3, .int q1.1), (0, .ref (ad 0)), (1, .ref (ad 48)), (2, .int x2)]) hx hb d_MM_isPattern_55 rfl hl (by decide) rfl (fun ls hl => ?_)
  refine lv_aload_n hx hb d_MM_isPattern_56 rfl (lv_at hl 1 rfl) ?_
  refine o_get (v := .int (NP_broken q1.2)) C in_MM hP 0 mw_0 rfl 32 (by decide) k_8_22 rfl rfl d_MM_isPattern_57 ?_
  refine lv_if_ne (tgt := 86) hx hb d_MM_isPattern_60 (by decide) (fun c3 => ?_) (fun c3 => ?_)
  · replace h := o_ff c3 h
    refine lv_iconst (v := (0:Int32)) hx hb d_MM_isPattern_86 (by decide) ?_
    cases h
    exact o_rz (v := (0:Int32)) C o_nar0 hP hS d_MM_isPattern_87
  · replace h := o_tt c3 h
    refine lv_aload_n hx hb d_MM_isPattern_63 rfl (lv_at hl 1 rfl) ?_
    refine o_get (v := .int (NP_pat q1.2)) C in_MM hP 0 mw_0 rfl 27 (by decide) k_8_17 rfl rfl d_MM_isPattern_64 ?_
    refine lv_aload_n hx hb d_MM_isPattern_67 rfl (lv_at hl 1 rfl) ?_
    refine o_get (v := .int (NP_patEnd q1.2)) C in_MM hP 0 mw_0 rfl 28 (by decide) k_8_18 rfl rfl d_MM_isPattern_68 ?_
    refine lv_icmp_lt (tgt := 86) hx hb d_MM_isPattern_71 (by decide) (fun c4 => ?_) (fun c4 => ?_)
    · replace h := o_tt c4 h
      refine lv_iconst (v := (0:Int32)) hx hb d_MM_isPattern_86 (by decide) ?_
      cases h
      exact o_rz (v := (0:Int32)) C o_nar0 hP hS d_MM_isPattern_87
    · replace h := o_ff c4 h
      refine lv_aload_n hx hb d_MM_isPattern_74 rfl (lv_at hl 1 rfl) ?_
      refine lv_iload_n hx hb d_MM_isPattern_75 rfl (lv_at hl 0 rfl) ?_
      obtain ⟨q2, hq2, h⟩ := o_bd_some h
      refine o_V (st1 := [.long q2]) (w1 := (m_cw ad ca ky ty 48 Ni q1.2 No Nx Nf Na Nh Nq Nj M0 a1)) hE.1 C (e_MM_size hE hKy l n 110 q1.1 q1.2 Ni No Nx Nf Na Nh Nq Nj M0 a1 48 hq2) hP (hDD _ _ _ _ _ _ _ _ _ _ _ _) hS hl.1 rfl mw_0 k_9_129 k_9_131 k_s_103 k_1_12 k_9_132 hv_MM_size rfl rfl ⟨(Nat.le_of_ble_eq_true rfl), (Nat.le_of_ble_eq_true rfl)⟩ rfl (Nat.le_of_ble_eq_true rfl) ⟨Nat.zero_le _, Nat.zero_le _⟩ rfl d_MM_isPattern_76 (fun H locs hP hS => ?_)
      refine lv_ldc2 (v := (400:Int64)) hx hb hown (hts _ k_9_140) d_MM_isPattern_79 ?_
      refine W.lcmp hx hb d_MM_isPattern_82 ?_
      refine lv_if_le (tgt := 88) hx hb d_MM_isPattern_83 (by decide) (fun c5 => ?_) (fun c5 => ?_)
      · replace h := o_tt c5 h
        refine lv_aload_n hx hb d_MM_isPattern_88 rfl (lv_at hl 1 rfl) ?_
        refine lv_iconst (v := (0:Int32)) hx hb d_MM_isPattern_89 (by decide) ?_
        refine o_put (v := .int (0:Int32)) (ty := .int) (w1 := (m_cw ad ca ky ty 48 Ni q1.2 (NO_mk (NO_op No) (NO_opA No) (NO_opB No) (0:Int32)) Nx Nf Na Nh Nq Nj M0 a1)) C in_MM t_MM t_MM_ok n_MM hP (hDD _ _ _ _ _ _ _ _ _ _ _ _) hS 0 mw_0 rfl 26 (by decide) k_8_16 rfl rfl (by decide +kernel) rfl rfl (Nat.le_of_ble_eq_true rfl) rfl d_MM_isPattern_90 (fun H locs hP hS => ?_)
        refine lv_aload_n hx hb d_MM_isPattern_93 rfl (lv_at hl 1 rfl) ?_
        refine lv_iload_n hx hb d_MM_isPattern_94 rfl (lv_at hl 0 rfl) ?_
        obtain ⟨q3, hq3, h⟩ := o_bd_some h
        refine o_V (st1 := []) (w1 := (m_cw ad ca ky ty 48 Ni q1.2 q3 Nx Nf Na Nh Nq Nj M0 a1)) hE.1 C (e_MM_compile hE hKy l n 110 q1.1 q1.2 (NO_mk (NO_op No) (NO_opA No) (NO_opB No) (0:Int32)) Ni Nx Nf Na Nh Nq Nj M0 a1 48 hq3) hP (hDD _ _ _ _ _ _ _ _ _ _ _ _) hS hl.1 rfl mw_0 k_9_141 k_9_143 k_s_104 k_1_12 k_9_144 hv_MM_compile rfl rfl ⟨(Nat.le_of_ble_eq_true rfl), (Nat.le_of_ble_eq_true rfl)⟩ rfl (Nat.le_of_ble_eq_true rfl) ⟨Nat.zero_le _, Nat.zero_le _⟩ rfl d_MM_isPattern_95 (fun H locs hP hS => ?_)
        refine lv_aload_n hx hb d_MM_isPattern_98 rfl (lv_at hl 1 rfl) ?_
        refine lv_bipush (v := (9:Int32)) hx hb d_MM_isPattern_99 (by decide) ?_
        refine lv_iconst (v := (0:Int32)) hx hb d_MM_isPattern_101 (by decide) ?_
        refine lv_iconst (v := (0:Int32)) hx hb d_MM_isPattern_102 (by decide) ?_
        obtain ⟨q4, hq4, h⟩ := o_bd_some h
        refine o_V (st1 := [.int q4.1]) (w1 := (m_cw ad ca ky ty 48 Ni q1.2 q4.2 Nx Nf Na Nh Nq Nj M0 a1)) hE.1 C (e_MM_step hE hKy l (9:Int32) (0:Int32) (0:Int32) q3 Ni q1.2 Nx Nf Na Nh Nq Nj M0 a1 48 hq4) hP (hDD _ _ _ _ _ _ _ _ _ _ _ _) hS hl.1 rfl mw_0 k_9_145 k_9_147 k_s_105 k_1_12 k_9_148 hv_MM_step rfl rfl ⟨(Nat.le_of_ble_eq_true rfl), (Nat.le_of_ble_eq_true rfl)⟩ rfl (Nat.le_of_ble_eq_true rfl) ⟨Nat.zero_le _, Nat.zero_le _⟩ rfl d_MM_isPattern_103 (fun H locs hP hS => ?_)
        refine lv_pop hx hb d_MM_isPattern_106 rfl ?_
        refine lv_iconst (v := (1:Int32)) hx hb d_MM_isPattern_107 (by decide) ?_
        cases h
        exact o_rz (v := (1:Int32)) C o_nar1 hP hS d_MM_isPattern_108
      · replace h := o_ff c5 h
        refine lv_iconst (v := (0:Int32)) hx hb d_MM_isPattern_86 (by decide) ?_
        cases h
        exact o_rz (v := (0:Int32)) C o_nar0 hP hS d_MM_isPattern_87
set_option maxHeartbeats 4000000 in
set_option maxRecDepth 100000 in
theorem f_MM_matches_1_j96 {E : (Nat → Prop) → State → Heap → Prop} {p : Program} {l : Launch} {e : Env} {s : State} {m : MethodId} {args : Array Value} {below : List Frame} {meth : Method} {c : Code} {D : va_G} {ad kd sd vd xd : Nat → Nat} {ca : Nat → ClassId} {A : Nat → Prop} {ky ty : Nat → Option Nat} (hE : o_EK E kd sd vd xd) (hKy : m_KY ky ty sd) (C : o_Cx E p s m args meth c D m_cls (m_tys ca) "SchemaJudgeModel" b_MM_matches_1 (some .boolean) 3 cc_MM_matches_1 A) (hDD : ∀ (rt : Nat) (Ni : SNI) (Np : SNP) (No : SNO) (Nx : SNX) (Nf : SNF) (Na : SNA) (Nh : SNH) (Nq : SNQ) (Nj : SNJ) (M0 : SMT) (M1 : SMT), va_D A (m_cw ad ca ky ty rt Ni Np No Nx Nf Na Nh Nq Nj M0 M1)) (n : Nat) (x1 : Int32) (y1 : Int32) (M1 : SMT) (Ni : SNI) (Np : SNP) (No : SNO) (Nx : SNX) (rt : Nat) (Nf : SNF) (Na : SNA) (Nh : SNH) (Nq : SNQ) (Nj : SNJ) (M0 : SMT) {r : Int32 × SNI × SNP × SNO × SNX × Nat} (h : m_MM_matches_1_j96 n x1 y1 M1 Ni Np No Nx rt = some r) : o_At p l e rm_MM_matches_1 s m args below meth c (MQ below (o_Qx D m_cls (some (.int r.1)) (m_cw ad ca ky ty r.2.2.2.2.2 r.2.1 r.2.2.1 r.2.2.2.1 r.2.2.2.2.1 Nf Na Nh Nq Nj M0 M1) A) args s 0 0 A) m_cls D A 3 96 [.int y1, .ref (ad 0)] (m_cw ad ca ky ty rt Ni Np No Nx Nf Na Nh Nq Nj M0 M1) [(0, .ref (ad 0)), (1, .int x1)] := by
  unfold m_MM_matches_1_j96 at h
  intro H locs ls hP hS hl
  have C0 := C
  obtain ⟨hx, hb, -, -, -, hown, hts, hK, -, -⟩ := C0
  refine lv_iconst (v := (2:Int32)) hx hb d_MM_matches_1_96 (by decide) ?_
  obtain ⟨q3, hq3, h⟩ := o_bd_some h
  refine o_V (st1 := [.int q3.1]) (w1 := (m_cw ad ca ky ty rt q3.2 Np No Nx Nf Na Nh Nq Nj M0 M1)) hE.1 C (e_MM_fails hE hKy l y1 (2:Int32) Ni Np No Nx Nf Na Nh Nq Nj M0 M1 rt hq3) hP (hDD _ _ _ _ _ _ _ _ _ _ _ _) hS hl.1 rfl mw_0 k_8_176 k_8_178 k_s_81 k_1_12 k_8_179 hv_MM_fails rfl rfl ⟨(Nat.le_of_ble_eq_true rfl), (Nat.le_of_ble_eq_true rfl)⟩ rfl (Nat.le_of_ble_eq_true rfl) ⟨Nat.zero_le _, Nat.zero_le _⟩ rfl d_MM_matches_1_97 (fun H locs hP hS => ?_)
  refine lv_if_eq (tgt := 105) hx hb d_MM_matches_1_100 (by decide) (fun c5 => ?_) (fun c5 => ?_)
  · replace h := o_tt c5 h
    refine lv_aload_n hx hb d_MM_matches_1_105 rfl (lv_at hl 0 rfl) ?_
    refine lv_aload_n hx hb d_MM_matches_1_106 rfl (lv_at hl 0 rfl) ?_
    refine o_get (v := .ref (ad 48)) C in_MM hP 0 mw_0 rfl 5 (by decide) k_7_235 rfl rfl d_MM_matches_1_107 ?_
    refine lv_iload_n hx hb d_MM_matches_1_110 rfl (lv_at hl 1 rfl) ?_
    obtain ⟨q4, hq4, h⟩ := o_bd_some h
    refine o_V (st1 := [.int q4.1]) (w1 := (m_cw ad ca ky ty rt q3.2 Np No q4.2 Nf Na Nh Nq Nj M0 M1)) hE.1 C (e_MM_matches_b hE hKy l n x1 M1 Np No Nx q3.2 Nf Na Nh Nq Nj M0 rt hq4) hP (hDD _ _ _ _ _ _ _ _ _ _ _ _) hS hl.1 rfl mw_0 k_10_34 k_10_36 k_s_126 k_1_12 k_10_37 hv_MM_matches rfl rfl ⟨(Nat.le_of_ble_eq_true rfl), (Nat.le_of_ble_eq_true rfl)⟩ rfl (Nat.le_of_ble_eq_true rfl) ⟨Nat.zero_le _, Nat.zero_le _⟩ rfl d_MM_matches_1_111 (fun H locs hP hS => ?_)
    obtain ⟨g6, h⟩ := o_gd_some h
    cases h
    exact o_rz C (o_zb_nar g6) hP hS d_MM_matches_1_114
  · replace h := o_ff c5 h
    refine lv_iconst (v := (0:Int32)) hx hb d_MM_matches_1_103 (by decide) ?_
    cases h
    exact o_rz (v := (0:Int32)) C o_nar0 hP hS d_MM_matches_1_104
set_option maxHeartbeats 4000000 in
set_option maxRecDepth 100000 in
theorem f_MM_matches_1_j45 {E : (Nat → Prop) → State → Heap → Prop} {p : Program} {l : Launch} {e : Env} {s : State} {m : MethodId} {args : Array Value} {below : List Frame} {meth : Method} {c : Code} {D : va_G} {ad kd sd vd xd : Nat → Nat} {ca : Nat → ClassId} {A : Nat → Prop} {ky ty : Nat → Option Nat} (hE : o_EK E kd sd vd xd) (hKy : m_KY ky ty sd) (C : o_Cx E p s m args meth c D m_cls (m_tys ca) "SchemaJudgeModel" b_MM_matches_1 (some .boolean) 3 cc_MM_matches_1 A) (hDD : ∀ (rt : Nat) (Ni : SNI) (Np : SNP) (No : SNO) (Nx : SNX) (Nf : SNF) (Na : SNA) (Nh : SNH) (Nq : SNQ) (Nj : SNJ) (M0 : SMT) (M1 : SMT), va_D A (m_cw ad ca ky ty rt Ni Np No Nx Nf Na Nh Nq Nj M0 M1)) (n : Nat) (x1 : Int32) (x2 : Int32) (y1 : Int32) (M1 : SMT) (Ni : SNI) (Np : SNP) (No : SNO) (Nx : SNX) (rt : Nat) (Nf : SNF) (Na : SNA) (Nh : SNH) (Nq : SNQ) (Nj : SNJ) (M0 : SMT) {r : Int32 × SNI × SNP × SNO × SNX × Nat} (h : m_MM_matches_1_j45 n x1 x2 y1 M1 Ni Np No Nx rt = some r) : o_At p l e rm_MM_matches_1 s m args below meth c (MQ below (o_Qx D m_cls (some (.int r.1)) (m_cw ad ca ky ty r.2.2.2.2.2 r.2.1 r.2.2.1 r.2.2.2.1 r.2.2.2.2.1 Nf Na Nh Nq Nj M0 M1) A) args s 0 0 A) m_cls D A 3 45 [.int y1, .ref (ad 0)] (m_cw ad ca ky ty rt Ni Np No Nx Nf Na Nh Nq Nj M0 M1) [(0, .ref (ad 0)), (1, .int x1), (2, .int x2)] := by
  unfold m_MM_matches_1_j45 at h
  intro H locs ls hP hS hl
  have C0 := C
  obtain ⟨hx, hb, -, -, -, hown, hts, hK, -, -⟩ := C0
  refine lv_iconst (v := (1:Int32)) hx hb d_MM_matches_1_45 (by decide) ?_
  obtain ⟨q2, hq2, h⟩ := o_bd_some h
  refine o_V (st1 := [.int q2.1]) (w1 := (m_cw ad ca ky ty rt q2.2 Np No Nx Nf Na Nh Nq Nj M0 M1)) hE.1 C (e_MM_fails hE hKy l y1 (1:Int32) Ni Np No Nx Nf Na Nh Nq Nj M0 M1 rt hq2) hP (hDD _ _ _ _ _ _ _ _ _ _ _ _) hS hl.1 rfl mw_0 k_8_176 k_8_178 k_s_81 k_1_12 k_8_179 hv_MM_fails rfl rfl ⟨(Nat.le_of_ble_eq_true rfl), (Nat.le_of_ble_eq_true rfl)⟩ rfl (Nat.le_of_ble_eq_true rfl) ⟨Nat.zero_le _, Nat.zero_le _⟩ rfl d_MM_matches_1_46 (fun H locs hP hS => ?_)
  refine lv_if_ne (tgt := 103) hx hb d_MM_matches_1_49 (by decide) (fun c2 => ?_) (fun c2 => ?_)
  · replace h := o_ff c2 h
    refine lv_iconst (v := (0:Int32)) hx hb d_MM_matches_1_103 (by decide) ?_
    cases h
    exact o_rz (v := (0:Int32)) C o_nar0 hP hS d_MM_matches_1_104
  · replace h := o_tt c2 h
    refine lv_aload_n hx hb d_MM_matches_1_52 rfl (lv_at hl 0 rfl) ?_
    refine lv_aload_n hx hb d_MM_matches_1_53 rfl (lv_at hl 0 rfl) ?_
    refine o_get (v := .ref (ad 48)) C in_MM hP 0 mw_0 rfl 5 (by decide) k_7_235 rfl rfl d_MM_matches_1_54 ?_
    refine o_get (v := .ref (ad 50)) C in_MT hP 48 mw_48 rfl 1 (by decide) k_7_103 rfl rfl d_MM_matches_1_57 ?_
    refine lv_iload_n hx hb d_MM_matches_1_60 rfl (lv_at hl 1 rfl) ?_
    obtain ⟨g3, h⟩ := o_gd_some h
    refine o_iald (f := (MT_kind M1)) C hP 50 47 mw_50 rfl g3 d_MM_matches_1_61 ?_
    refine lv_iconst (v := (4:Int32)) hx hb d_MM_matches_1_62 (by decide) ?_
    refine lv_icmp_ne (tgt := 91) hx hb d_MM_matches_1_63 (by decide) (fun c4 => ?_) (fun c4 => ?_)
    · replace h := o_ff c4 h
      refine lv_iconst (v := (1:Int32)) hx hb d_MM_matches_1_91 (by decide) ?_
      refine lv_goto (tgt := 96) hx hb d_MM_matches_1_92 (by decide) ?_
      exact f_MM_matches_1_j96 hE hKy C hDD n x1 (1:Int32) M1 q2.2 Np No Nx rt Nf Na Nh Nq Nj M0 h _ _ _ hP hS (lv_sub hl [0, 1] rfl)
    · replace h := o_tt c4 h
      refine lv_aload_n hx hb d_MM_matches_1_66 rfl (lv_at hl 0 rfl) ?_
      refine o_get (v := .ref (ad 48)) C in_MM hP 0 mw_0 rfl 5 (by decide) k_7_235 rfl rfl d_MM_matches_1_67 ?_
      refine o_get (v := .ref (ad 50)) C in_MT hP 48 mw_48 rfl 1 (by decide) k_7_103 rfl rfl d_MM_matches_1_70 ?_
      refine lv_iload_n hx hb d_MM_matches_1_73 rfl (lv_at hl 2 rfl) ?_
      obtain ⟨g7, h⟩ := o_gd_some h
      refine o_iald (f := (MT_kind M1)) C hP 50 47 mw_50 rfl g7 d_MM_matches_1_74 ?_
      refine lv_iconst (v := (4:Int32)) hx hb d_MM_matches_1_75 (by decide) ?_
      refine lv_icmp_ne (tgt := 91) hx hb d_MM_matches_1_76 (by decide) (fun c8 => ?_) (fun c8 => ?_)
      · replace h := o_ff c8 h
        refine lv_iconst (v := (1:Int32)) hx hb d_MM_matches_1_91 (by decide) ?_
        refine lv_goto (tgt := 96) hx hb d_MM_matches_1_92 (by decide) ?_
        exact f_MM_matches_1_j96 hE hKy C hDD n x1 (1:Int32) M1 q2.2 Np No Nx rt Nf Na Nh Nq Nj M0 h _ _ _ hP hS (lv_sub hl [0, 1] rfl)
      · replace h := o_tt c8 h
        refine lv_aload_n hx hb d_MM_matches_1_79 rfl (lv_at hl 0 rfl) ?_
        refine lv_aload_n hx hb d_MM_matches_1_80 rfl (lv_at hl 0 rfl) ?_
        refine o_get (v := .ref (ad 48)) C in_MM hP 0 mw_0 rfl 5 (by decide) k_7_235 rfl rfl d_MM_matches_1_81 ?_
        refine lv_iload_n hx hb d_MM_matches_1_84 rfl (lv_at hl 2 rfl) ?_
        obtain ⟨q5, hq5, h⟩ := o_bd_some h
        refine o_V (st1 := [.int q5.1, .ref (ad 0)]) (w1 := (m_cw ad ca ky ty 48 q2.2 q5.2.1 q5.2.2 Nx Nf Na Nh Nq Nj M0 M1)) hE.1 C (e_MM_isPattern_b hE hKy l n x2 M1 Np No q2.2 Nx Nf Na Nh Nq Nj M0 rt hq5) hP (hDD _ _ _ _ _ _ _ _ _ _ _ _) hS hl.1 rfl mw_0 k_9_54 k_9_56 k_s_85 k_1_12 k_9_57 hv_MM_isPattern rfl rfl ⟨(Nat.le_of_ble_eq_true rfl), (Nat.le_of_ble_eq_true rfl)⟩ rfl (Nat.le_of_ble_eq_true rfl) ⟨Nat.zero_le _, Nat.zero_le _⟩ rfl d_MM_matches_1_85 (fun H locs hP hS => ?_)
        refine lv_if_ne (tgt := 95) hx hb d_MM_matches_1_88 (by decide) (fun c9 => ?_) (fun c9 => ?_)
        · replace h := o_ff c9 h
          refine lv_iconst (v := (0:Int32)) hx hb d_MM_matches_1_95 (by decide) ?_
          exact f_MM_matches_1_j96 hE hKy C hDD n x1 (0:Int32) M1 q2.2 q5.2.1 q5.2.2 Nx 48 Nf Na Nh Nq Nj M0 h _ _ _ hP hS (lv_sub hl [0, 1] rfl)
        · replace h := o_tt c9 h
          refine lv_iconst (v := (1:Int32)) hx hb d_MM_matches_1_91 (by decide) ?_
          refine lv_goto (tgt := 96) hx hb d_MM_matches_1_92 (by decide) ?_
          exact f_MM_matches_1_j96 hE hKy C hDD n x1 (1:Int32) M1 q2.2 q5.2.1 q5.2.2 Nx 48 Nf Na Nh Nq Nj M0 h _ _ _ hP hS (lv_sub hl [0, 1] rfl)
set_option maxHeartbeats 4000000 in
set_option maxRecDepth 100000 in
theorem e_MM_matches_1 {E : (Nat → Prop) → State → Heap → Prop} {D : va_G} {ad kd sd vd xd : Nat → Nat} {ca : Nat → ClassId} {ky ty : Nat → Option Nat} (hE : o_EK E kd sd vd xd) (hKy : m_KY ky ty sd) (l : Launch) (n : Nat) (x1 : Int32) (x2 : Int32) (M1 : SMT) (Ni : SNI) (Np : SNP) (No : SNO) (Nx : SNX) (rt : Nat) (Nf : SNF) (Na : SNA) (Nh : SNH) (Nq : SNQ) (Nj : SNJ) (M0 : SMT) {r : Int32 × SNI × SNP × SNO × SNX × Nat} (h : m_MM_matches_1 n x1 x2 M1 Ni Np No Nx rt = some r) : o_Cn E l D m_cls (m_tys ca) y_MM_matches_1 cc_MM_matches_1 rm_MM_matches_1 [.ref (ad 0), .int x1, .int x2] (m_cw ad ca ky ty rt Ni Np No Nx Nf Na Nh Nq Nj M0 M1) (m_cw ad ca ky ty r.2.2.2.2.2 r.2.1 r.2.2.1 r.2.2.2.1 r.2.2.2.2.1 Nf Na Nh Nq Nj M0 M1) (some (.int r.1)) := by
  refine o_Cn_of (by decide) (Nat.le_of_ble_eq_true rfl) ?_
  intro p e s m below meth c A ls C hD hP hS hl
  have hDD : ∀ (rt : Nat) (Ni : SNI) (Np : SNP) (No : SNO) (Nx : SNX) (Nf : SNF) (Na : SNA) (Nh : SNH) (Nq : SNQ) (Nj : SNJ) (M0 : SMT) (M1 : SMT), va_D A (m_cw ad ca ky ty rt Ni Np No Nx Nf Na Nh Nq Nj M0 M1) := fun _ _ _ _ _ _ _ _ _ _ _ _ => o_D_map hD rfl
  have hl : lv_has ls 3 [(0, .ref (ad 0)), (1, .int x1), (2, .int x2)] := hl
  unfold m_MM_matches_1 at h
  have C0 := C
  obtain ⟨hx, hb, -, -, -, hown, hts, hK, -, -⟩ := C0
  refine lv_aload_n hx hb d_MM_matches_1_0 rfl (lv_at hl 0 rfl) ?_
  refine lv_iconst (v := (0:Int32)) hx hb d_MM_matches_1_1 (by decide) ?_
  refine o_put (v := .int (0:Int32)) (ty := .int) (w1 := (m_cw ad ca ky ty rt (NI_mk (0:Int32) (NI_fed Ni) (NI_wrong Ni) (NI_octets Ni)) Np No Nx Nf Na Nh Nq Nj M0 M1)) C in_MM t_MM t_MM_ok n_MM hP (hDD _ _ _ _ _ _ _ _ _ _ _ _) hS 0 mw_0 rfl 0 (by decide) k_7_230 rfl rfl (by decide +kernel) rfl rfl (Nat.le_of_ble_eq_true rfl) rfl d_MM_matches_1_2 (fun H locs hP hS => ?_)
  refine lv_aload_n hx hb d_MM_matches_1_5 rfl (lv_at hl 0 rfl) ?_
  refine lv_iload_n hx hb d_MM_matches_1_6 rfl (lv_at hl 1 rfl) ?_
  refine lv_iconst (v := (0:Int32)) hx hb d_MM_matches_1_7 (by decide) ?_
  refine lv_aload_n hx hb d_MM_matches_1_8 rfl (lv_at hl 0 rfl) ?_
  refine o_get (v := .ref (ad 48)) C in_MM hP 0 mw_0 rfl 5 (by decide) k_7_235 rfl rfl d_MM_matches_1_9 ?_
  refine o_get (v := .int (MT_values M1)) C in_MT hP 48 mw_48 rfl 13 (by decide) k_7_127 rfl rfl d_MM_matches_1_12 ?_
  refine lv_iconst (v := (1:Int32)) hx hb d_MM_matches_1_15 (by decide) ?_
  refine lv_isub hx hb d_MM_matches_1_16 ?_
  obtain ⟨q1, hq1, h⟩ := o_bd_some h
  refine o_S (st1 := [.int q1, .ref (ad 0)]) (w1 := (m_cw ad ca ky ty rt (NI_mk (0:Int32) (NI_fed Ni) (NI_wrong Ni) (NI_octets Ni)) Np No Nx Nf Na Nh Nq Nj M0 M1)) hE.1 C (e_MM_in hE hKy l x1 (0:Int32) ((MT_values M1) - (1:Int32)) (NI_mk (0:Int32) (NI_fed Ni) (NI_wrong Ni) (NI_octets Ni)) Np No Nx Nf Na Nh Nq Nj M0 M1 rt hq1) hP (hDD _ _ _ _ _ _ _ _ _ _ _ _) hS hl.1 k_9_41 k_8_201 k_1_12 k_8_202 hs_MM_in rfl rfl ⟨(Nat.le_of_ble_eq_true rfl), (Nat.le_of_ble_eq_true rfl)⟩ rfl (Nat.le_of_ble_eq_true rfl) ⟨Nat.zero_le _, Nat.zero_le _⟩ rfl d_MM_matches_1_17 (fun H locs hP hS => ?_)
  refine lv_if_eq (tgt := 40) hx hb d_MM_matches_1_20 (by decide) (fun c1 => ?_) (fun c1 => ?_)
  · replace h := o_tt c1 h
    refine lv_iconst (v := (1:Int32)) hx hb d_MM_matches_1_40 (by decide) ?_
    refine lv_goto (tgt := 45) hx hb d_MM_matches_1_41 (by decide) ?_
    exact f_MM_matches_1_j45 hE hKy C hDD n x1 x2 (1:Int32) M1 (NI_mk (0:Int32) (NI_fed Ni) (NI_wrong Ni) (NI_octets Ni)) Np No Nx rt Nf Na Nh Nq Nj M0 h _ _ _ hP hS (lv_sub hl [0, 1, 2] rfl)
  · replace h := o_ff c1 h
    refine lv_iload_n hx hb d_MM_matches_1_23 rfl (lv_at hl 2 rfl) ?_
    refine lv_iconst (v := (0:Int32)) hx hb d_MM_matches_1_24 (by decide) ?_
    refine lv_aload_n hx hb d_MM_matches_1_25 rfl (lv_at hl 0 rfl) ?_
    refine o_get (v := .ref (ad 48)) C in_MM hP 0 mw_0 rfl 5 (by decide) k_7_235 rfl rfl d_MM_matches_1_26 ?_
    refine o_get (v := .int (MT_values M1)) C in_MT hP 48 mw_48 rfl 13 (by decide) k_7_127 rfl rfl d_MM_matches_1_29 ?_
    refine lv_iconst (v := (1:Int32)) hx hb d_MM_matches_1_32 (by decide) ?_
    refine lv_isub hx hb d_MM_matches_1_33 ?_
    obtain ⟨q6, hq6, h⟩ := o_bd_some h
    refine o_S (st1 := [.int q6, .ref (ad 0)]) (w1 := (m_cw ad ca ky ty rt (NI_mk (0:Int32) (NI_fed Ni) (NI_wrong Ni) (NI_octets Ni)) Np No Nx Nf Na Nh Nq Nj M0 M1)) hE.1 C (e_MM_in hE hKy l x2 (0:Int32) ((MT_values M1) - (1:Int32)) (NI_mk (0:Int32) (NI_fed Ni) (NI_wrong Ni) (NI_octets Ni)) Np No Nx Nf Na Nh Nq Nj M0 M1 rt hq6) hP (hDD _ _ _ _ _ _ _ _ _ _ _ _) hS hl.1 k_9_41 k_8_201 k_1_12 k_8_202 hs_MM_in rfl rfl ⟨(Nat.le_of_ble_eq_true rfl), (Nat.le_of_ble_eq_true rfl)⟩ rfl (Nat.le_of_ble_eq_true rfl) ⟨Nat.zero_le _, Nat.zero_le _⟩ rfl d_MM_matches_1_34 (fun H locs hP hS => ?_)
    refine lv_if_ne (tgt := 44) hx hb d_MM_matches_1_37 (by decide) (fun c10 => ?_) (fun c10 => ?_)
    · replace h := o_ff c10 h
      refine lv_iconst (v := (0:Int32)) hx hb d_MM_matches_1_44 (by decide) ?_
      exact f_MM_matches_1_j45 hE hKy C hDD n x1 x2 (0:Int32) M1 (NI_mk (0:Int32) (NI_fed Ni) (NI_wrong Ni) (NI_octets Ni)) Np No Nx rt Nf Na Nh Nq Nj M0 h _ _ _ hP hS (lv_sub hl [0, 1, 2] rfl)
    · replace h := o_tt c10 h
      refine lv_iconst (v := (1:Int32)) hx hb d_MM_matches_1_40 (by decide) ?_
      refine lv_goto (tgt := 45) hx hb d_MM_matches_1_41 (by decide) ?_
      exact f_MM_matches_1_j45 hE hKy C hDD n x1 x2 (1:Int32) M1 (NI_mk (0:Int32) (NI_fed Ni) (NI_wrong Ni) (NI_octets Ni)) Np No Nx rt Nf Na Nh Nq Nj M0 h _ _ _ hP hS (lv_sub hl [0, 1, 2] rfl)
set_option maxHeartbeats 4000000 in
set_option maxRecDepth 100000 in
theorem f_MM_count_j20 {E : (Nat → Prop) → State → Heap → Prop} {p : Program} {l : Launch} {e : Env} {s : State} {m : MethodId} {args : Array Value} {below : List Frame} {meth : Method} {c : Code} {D : va_G} {ad kd sd vd xd : Nat → Nat} {ca : Nat → ClassId} {A : Nat → Prop} {ky ty : Nat → Option Nat} (hE : o_EK E kd sd vd xd) (hKy : m_KY ky ty sd) (C : o_Cx E p s m args meth c D m_cls (m_tys ca) "SchemaJudgeModel" b_MM_count (some .int) 2 cc_MM_count A) (hDD : ∀ (rt : Nat) (Ni : SNI) (Np : SNP) (No : SNO) (Nx : SNX) (Nf : SNF) (Na : SNA) (Nh : SNH) (Nq : SNQ) (Nj : SNJ) (M0 : SMT) (M1 : SMT), va_D A (m_cw ad ca ky ty rt Ni Np No Nx Nf Na Nh Nq Nj M0 M1)) (x1 : Int32) (y1 : Int32) (M0 : SMT) (M1 : SMT) (Ni : SNI) (Nj : SNJ) (Np : SNP) (No : SNO) (Nx : SNX) (Nf : SNF) (Na : SNA) (Nh : SNH) (Nq : SNQ) (rt : Nat) {r : Int32 × SNI} (h : m_MM_count_j20 x1 y1 M0 M1 Ni Nj = some r) : o_At p l e rm_MM_count s m args below meth c (MQ below (o_Qx D m_cls (some (.int r.1)) (m_cw ad ca ky ty rt r.2 Np No Nx Nf Na Nh Nq Nj M0 M1) A) args s 0 0 A) m_cls D A 2 20 [.int y1, .ref (ad 0)] (m_cw ad ca ky ty rt Ni Np No Nx Nf Na Nh Nq Nj M0 M1) [(0, .ref (ad 0)), (1, .int x1)] := by
  unfold m_MM_count_j20 at h
  intro H locs ls hP hS hl
  have C0 := C
  obtain ⟨hx, hb, -, -, -, hown, hts, hK, -, -⟩ := C0
  refine lv_iconst (v := (1:Int32)) hx hb d_MM_count_20 (by decide) ?_
  obtain ⟨q2, hq2, h⟩ := o_bd_some h
  refine o_V (st1 := [.int q2.1]) (w1 := (m_cw ad ca ky ty rt q2.2 Np No Nx Nf Na Nh Nq Nj M0 M1)) hE.1 C (e_MM_fails hE hKy l y1 (1:Int32) Ni Np No Nx Nf Na Nh Nq Nj M0 M1 rt hq2) hP (hDD _ _ _ _ _ _ _ _ _ _ _ _) hS hl.1 rfl mw_0 k_8_176 k_8_178 k_s_81 k_1_12 k_8_179 hv_MM_fails rfl rfl ⟨(Nat.le_of_ble_eq_true rfl), (Nat.le_of_ble_eq_true rfl)⟩ rfl (Nat.le_of_ble_eq_true rfl) ⟨Nat.zero_le _, Nat.zero_le _⟩ rfl d_MM_count_21 (fun H locs hP hS => ?_)
  refine lv_if_eq (tgt := 29) hx hb d_MM_count_24 (by decide) (fun c2 => ?_) (fun c2 => ?_)
  · replace h := o_tt c2 h
    refine lv_iload_n hx hb d_MM_count_29 rfl (lv_at hl 1 rfl) ?_
    refine lv_if_ne (tgt := 43) hx hb d_MM_count_30 (by decide) (fun c3 => ?_) (fun c3 => ?_)
    · replace h := o_ff c3 h
      refine lv_iload_n hx hb d_MM_count_43 rfl (lv_at hl 1 rfl) ?_
      refine lv_iconst (v := (1:Int32)) hx hb d_MM_count_44 (by decide) ?_
      refine lv_icmp_ne (tgt := 58) hx hb d_MM_count_45 (by decide) (fun c4 => ?_) (fun c4 => ?_)
      · replace h := o_ff c4 h
        refine lv_iload_n hx hb d_MM_count_58 rfl (lv_at hl 1 rfl) ?_
        refine lv_iconst (v := (2:Int32)) hx hb d_MM_count_59 (by decide) ?_
        refine lv_icmp_ne (tgt := 70) hx hb d_MM_count_60 (by decide) (fun c5 => ?_) (fun c5 => ?_)
        · replace h := o_ff c5 h
          refine lv_aload_n hx hb d_MM_count_70 rfl (lv_at hl 0 rfl) ?_
          refine o_get (v := .int (NJ_deepest Nj)) C in_MM hP 0 mw_0 rfl 55 (by decide) k_8_45 rfl rfl d_MM_count_71 ?_
          cases h
          exact o_ri (v := (NJ_deepest Nj)) C hP hS d_MM_count_74
        · replace h := o_tt c5 h
          refine lv_aload_n hx hb d_MM_count_63 rfl (lv_at hl 0 rfl) ?_
          refine o_get (v := .int (NJ_judged Nj)) C in_MM hP 0 mw_0 rfl 54 (by decide) k_8_44 rfl rfl d_MM_count_64 ?_
          refine lv_goto (tgt := 74) hx hb d_MM_count_67 (by decide) ?_
          cases h
          exact o_ri (v := (NJ_judged Nj)) C hP hS d_MM_count_74
      · replace h := o_tt c4 h
        refine lv_aload_n hx hb d_MM_count_48 rfl (lv_at hl 0 rfl) ?_
        refine o_get (v := .ref (ad 48)) C in_MM hP 0 mw_0 rfl 5 (by decide) k_7_235 rfl rfl d_MM_count_49 ?_
        refine o_get (v := .int (MT_values M1)) C in_MT hP 48 mw_48 rfl 13 (by decide) k_7_127 rfl rfl d_MM_count_52 ?_
        refine lv_goto (tgt := 74) hx hb d_MM_count_55 (by decide) ?_
        cases h
        exact o_ri (v := (MT_values M1)) C hP hS d_MM_count_74
    · replace h := o_tt c3 h
      refine lv_aload_n hx hb d_MM_count_33 rfl (lv_at hl 0 rfl) ?_
      refine o_get (v := .ref (ad 33)) C in_MM hP 0 mw_0 rfl 4 (by decide) k_7_234 rfl rfl d_MM_count_34 ?_
      refine o_get (v := .int (MT_values M0)) C in_MT hP 33 mw_33 rfl 13 (by decide) k_7_127 rfl rfl d_MM_count_37 ?_
      refine lv_goto (tgt := 74) hx hb d_MM_count_40 (by decide) ?_
      cases h
      exact o_ri (v := (MT_values M0)) C hP hS d_MM_count_74
  · replace h := o_ff c2 h
    refine lv_iconst (v := (0:Int32)) hx hb d_MM_count_27 (by decide) ?_
    cases h
    exact o_ri (v := (0:Int32)) C hP hS d_MM_count_28
set_option maxHeartbeats 4000000 in
set_option maxRecDepth 100000 in
theorem e_MM_count {E : (Nat → Prop) → State → Heap → Prop} {D : va_G} {ad kd sd vd xd : Nat → Nat} {ca : Nat → ClassId} {ky ty : Nat → Option Nat} (hE : o_EK E kd sd vd xd) (hKy : m_KY ky ty sd) (l : Launch) (x1 : Int32) (M0 : SMT) (M1 : SMT) (Ni : SNI) (Nj : SNJ) (Np : SNP) (No : SNO) (Nx : SNX) (Nf : SNF) (Na : SNA) (Nh : SNH) (Nq : SNQ) (rt : Nat) {r : Int32 × SNI} (h : m_MM_count x1 M0 M1 Ni Nj = some r) : o_Cn E l D m_cls (m_tys ca) y_MM_count cc_MM_count rm_MM_count [.ref (ad 0), .int x1] (m_cw ad ca ky ty rt Ni Np No Nx Nf Na Nh Nq Nj M0 M1) (m_cw ad ca ky ty rt r.2 Np No Nx Nf Na Nh Nq Nj M0 M1) (some (.int r.1)) := by
  refine o_Cn_of (by decide) (Nat.le_of_ble_eq_true rfl) ?_
  intro p e s m below meth c A ls C hD hP hS hl
  have hDD : ∀ (rt : Nat) (Ni : SNI) (Np : SNP) (No : SNO) (Nx : SNX) (Nf : SNF) (Na : SNA) (Nh : SNH) (Nq : SNQ) (Nj : SNJ) (M0 : SMT) (M1 : SMT), va_D A (m_cw ad ca ky ty rt Ni Np No Nx Nf Na Nh Nq Nj M0 M1) := fun _ _ _ _ _ _ _ _ _ _ _ _ => o_D_map hD rfl
  have hl : lv_has ls 2 [(0, .ref (ad 0)), (1, .int x1)] := hl
  unfold m_MM_count at h
  have C0 := C
  obtain ⟨hx, hb, -, -, -, hown, hts, hK, -, -⟩ := C0
  refine lv_aload_n hx hb d_MM_count_0 rfl (lv_at hl 0 rfl) ?_
  refine lv_iconst (v := (0:Int32)) hx hb d_MM_count_1 (by decide) ?_
  refine o_put (v := .int (0:Int32)) (ty := .int) (w1 := (m_cw ad ca ky ty rt (NI_mk (0:Int32) (NI_fed Ni) (NI_wrong Ni) (NI_octets Ni)) Np No Nx Nf Na Nh Nq Nj M0 M1)) C in_MM t_MM t_MM_ok n_MM hP (hDD _ _ _ _ _ _ _ _ _ _ _ _) hS 0 mw_0 rfl 0 (by decide) k_7_230 rfl rfl (by decide +kernel) rfl rfl (Nat.le_of_ble_eq_true rfl) rfl d_MM_count_2 (fun H locs hP hS => ?_)
  refine lv_aload_n hx hb d_MM_count_5 rfl (lv_at hl 0 rfl) ?_
  refine lv_iload_n hx hb d_MM_count_6 rfl (lv_at hl 1 rfl) ?_
  refine lv_iconst (v := (0:Int32)) hx hb d_MM_count_7 (by decide) ?_
  refine lv_iconst (v := (3:Int32)) hx hb d_MM_count_8 (by decide) ?_
  obtain ⟨q1, hq1, h⟩ := o_bd_some h
  refine o_S (st1 := [.int q1, .ref (ad 0)]) (w1 := (m_cw ad ca ky ty rt (NI_mk (0:Int32) (NI_fed Ni) (NI_wrong Ni) (NI_octets Ni)) Np No Nx Nf Na Nh Nq Nj M0 M1)) hE.1 C (e_MM_in hE hKy l x1 (0:Int32) (3:Int32) (NI_mk (0:Int32) (NI_fed Ni) (NI_wrong Ni) (NI_octets Ni)) Np No Nx Nf Na Nh Nq Nj M0 M1 rt hq1) hP (hDD _ _ _ _ _ _ _ _ _ _ _ _) hS hl.1 k_9_41 k_8_201 k_1_12 k_8_202 hs_MM_in rfl rfl ⟨(Nat.le_of_ble_eq_true rfl), (Nat.le_of_ble_eq_true rfl)⟩ rfl (Nat.le_of_ble_eq_true rfl) ⟨Nat.zero_le _, Nat.zero_le _⟩ rfl d_MM_count_9 (fun H locs hP hS => ?_)
  refine lv_if_ne (tgt := 19) hx hb d_MM_count_12 (by decide) (fun c1 => ?_) (fun c1 => ?_)
  · replace h := o_ff c1 h
    refine lv_iconst (v := (0:Int32)) hx hb d_MM_count_19 (by decide) ?_
    exact f_MM_count_j20 hE hKy C hDD x1 (0:Int32) M0 M1 (NI_mk (0:Int32) (NI_fed Ni) (NI_wrong Ni) (NI_octets Ni)) Nj Np No Nx Nf Na Nh Nq rt h _ _ _ hP hS (lv_sub hl [0, 1] rfl)
  · replace h := o_tt c1 h
    refine lv_iconst (v := (1:Int32)) hx hb d_MM_count_15 (by decide) ?_
    refine lv_goto (tgt := 20) hx hb d_MM_count_16 (by decide) ?_
    exact f_MM_count_j20 hE hKy C hDD x1 (1:Int32) M0 M1 (NI_mk (0:Int32) (NI_fed Ni) (NI_wrong Ni) (NI_octets Ni)) Nj Np No Nx Nf Na Nh Nq rt h _ _ _ hP hS (lv_sub hl [0, 1] rfl)
