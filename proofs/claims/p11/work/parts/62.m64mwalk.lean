set_option maxHeartbeats 4000000 in
set_option maxRecDepth 100000 in
theorem e_MM_thrown {E : (Nat → Prop) → State → Heap → Prop} {D : va_G} {ad kd sd vd xd : Nat → Nat} {ca : Nat → ClassId} {ky ty : Nat → Option Nat} (hE : o_EK E kd sd vd xd) (hKy : m_KY ky ty sd) (l : Launch)  (Ni : SNI) (Np : SNP) (No : SNO) (Nx : SNX) (Nf : SNF) (Na : SNA) (Nh : SNH) (Nq : SNQ) (Nj : SNJ) (M0 : SMT) (M1 : SMT) (rt : Nat) {r : Int32} (h : m_MM_thrown Ni = some r) : o_Cn E l D m_cls (m_tys ca) y_MM_thrown cc_MM_thrown rm_MM_thrown [.ref (ad 0)] (m_cw ad ca ky ty rt Ni Np No Nx Nf Na Nh Nq Nj M0 M1) (m_cw ad ca ky ty rt Ni Np No Nx Nf Na Nh Nq Nj M0 M1) (some (.int r)) := by
  refine o_Cn_of (by decide) (Nat.le_of_ble_eq_true rfl) ?_
  intro p e s m below meth c A ls C hD hP hS hl
  have hDD : ∀ (rt : Nat) (Ni : SNI) (Np : SNP) (No : SNO) (Nx : SNX) (Nf : SNF) (Na : SNA) (Nh : SNH) (Nq : SNQ) (Nj : SNJ) (M0 : SMT) (M1 : SMT), va_D A (m_cw ad ca ky ty rt Ni Np No Nx Nf Na Nh Nq Nj M0 M1) := fun _ _ _ _ _ _ _ _ _ _ _ _ => o_D_map hD rfl
  have hl : lv_has ls 1 [(0, .ref (ad 0))] := hl
  unfold m_MM_thrown at h
  have C0 := C
  obtain ⟨hx, hb, -, -, -, hown, hts, hK, -, -⟩ := C0
  refine lv_aload_n hx hb d_MM_thrown_0 rfl (lv_at hl 0 rfl) ?_
  refine o_get (v := .int (NI_err Ni)) C in_MM hP 0 mw_0 rfl 0 (by decide) k_7_230 rfl rfl d_MM_thrown_1 ?_
  cases h
  exact o_ri (v := (NI_err Ni)) C hP hS d_MM_thrown_4
set_option maxHeartbeats 4000000 in
set_option maxRecDepth 100000 in
theorem f_MM_fails_j16 {E : (Nat → Prop) → State → Heap → Prop} {p : Program} {l : Launch} {e : Env} {s : State} {m : MethodId} {args : Array Value} {below : List Frame} {meth : Method} {c : Code} {D : va_G} {ad kd sd vd xd : Nat → Nat} {ca : Nat → ClassId} {A : Nat → Prop} {ky ty : Nat → Option Nat} (hE : o_EK E kd sd vd xd) (hKy : m_KY ky ty sd) (C : o_Cx E p s m args meth c D m_cls (m_tys ca) "SchemaJudgeModel" b_MM_fails (some .boolean) 3 cc_MM_fails A) (hDD : ∀ (rt : Nat) (Ni : SNI) (Np : SNP) (No : SNO) (Nx : SNX) (Nf : SNF) (Na : SNA) (Nh : SNH) (Nq : SNQ) (Nj : SNJ) (M0 : SMT) (M1 : SMT), va_D A (m_cw ad ca ky ty rt Ni Np No Nx Nf Na Nh Nq Nj M0 M1))  (Ni : SNI) (Np : SNP) (No : SNO) (Nx : SNX) (Nf : SNF) (Na : SNA) (Nh : SNH) (Nq : SNQ) (Nj : SNJ) (M0 : SMT) (M1 : SMT) (rt : Nat) {r : Int32 × SNI} (h : m_MM_fails_j16 Ni = some r) : o_At p l e rm_MM_fails s m args below meth c (MQ below (o_Qx D m_cls (some (.int r.1)) (m_cw ad ca ky ty rt r.2 Np No Nx Nf Na Nh Nq Nj M0 M1) A) args s 0 0 A) m_cls D A 3 16 [] (m_cw ad ca ky ty rt Ni Np No Nx Nf Na Nh Nq Nj M0 M1) [(0, .ref (ad 0))] := by
  unfold m_MM_fails_j16 at h
  intro H locs ls hP hS hl
  have C0 := C
  obtain ⟨hx, hb, -, -, -, hown, hts, hK, -, -⟩ := C0
  refine lv_aload_n hx hb d_MM_fails_16 rfl (lv_at hl 0 rfl) ?_
  refine o_get (v := .int (NI_err Ni)) C in_MM hP 0 mw_0 rfl 0 (by decide) k_7_230 rfl rfl d_MM_fails_17 ?_
  refine lv_if_eq (tgt := 27) hx hb d_MM_fails_20 (by decide) (fun c2 => ?_) (fun c2 => ?_)
  · replace h := o_tt c2 h
    refine lv_iconst (v := (0:Int32)) hx hb d_MM_fails_27 (by decide) ?_
    cases h
    exact o_rz (v := (0:Int32)) C o_nar0 hP hS d_MM_fails_28
  · replace h := o_ff c2 h
    refine lv_iconst (v := (1:Int32)) hx hb d_MM_fails_23 (by decide) ?_
    refine lv_goto (tgt := 28) hx hb d_MM_fails_24 (by decide) ?_
    cases h
    exact o_rz (v := (1:Int32)) C o_nar1 hP hS d_MM_fails_28
set_option maxHeartbeats 4000000 in
set_option maxRecDepth 100000 in
theorem e_MM_fails {E : (Nat → Prop) → State → Heap → Prop} {D : va_G} {ad kd sd vd xd : Nat → Nat} {ca : Nat → ClassId} {ky ty : Nat → Option Nat} (hE : o_EK E kd sd vd xd) (hKy : m_KY ky ty sd) (l : Launch) (x1 : Int32) (x2 : Int32) (Ni : SNI) (Np : SNP) (No : SNO) (Nx : SNX) (Nf : SNF) (Na : SNA) (Nh : SNH) (Nq : SNQ) (Nj : SNJ) (M0 : SMT) (M1 : SMT) (rt : Nat) {r : Int32 × SNI} (h : m_MM_fails x1 x2 Ni = some r) : o_Cn E l D m_cls (m_tys ca) y_MM_fails cc_MM_fails rm_MM_fails [.ref (ad 0), .int x1, .int x2] (m_cw ad ca ky ty rt Ni Np No Nx Nf Na Nh Nq Nj M0 M1) (m_cw ad ca ky ty rt r.2 Np No Nx Nf Na Nh Nq Nj M0 M1) (some (.int r.1)) := by
  refine o_Cn_of (by decide) (Nat.le_of_ble_eq_true rfl) ?_
  intro p e s m below meth c A ls C hD hP hS hl
  have hDD : ∀ (rt : Nat) (Ni : SNI) (Np : SNP) (No : SNO) (Nx : SNX) (Nf : SNF) (Na : SNA) (Nh : SNH) (Nq : SNQ) (Nj : SNJ) (M0 : SMT) (M1 : SMT), va_D A (m_cw ad ca ky ty rt Ni Np No Nx Nf Na Nh Nq Nj M0 M1) := fun _ _ _ _ _ _ _ _ _ _ _ _ => o_D_map hD rfl
  have hl : lv_has ls 3 [(0, .ref (ad 0)), (1, .int x1), (2, .int x2)] := hl
  unfold m_MM_fails at h
  have C0 := C
  obtain ⟨hx, hb, -, -, -, hown, hts, hK, -, -⟩ := C0
  refine lv_iload_n hx hb d_MM_fails_0 rfl (lv_at hl 1 rfl) ?_
  refine lv_if_eq (tgt := 16) hx hb d_MM_fails_1 (by decide) (fun c1 => ?_) (fun c1 => ?_)
  · replace h := o_tt c1 h
    exact f_MM_fails_j16 hE hKy C hDD Ni Np No Nx Nf Na Nh Nq Nj M0 M1 rt h _ _ _ hP hS (lv_sub hl [0] rfl)
  · replace h := o_ff c1 h
    refine lv_aload_n hx hb d_MM_fails_4 rfl (lv_at hl 0 rfl) ?_
    refine o_get (v := .int (NI_err Ni)) C in_MM hP 0 mw_0 rfl 0 (by decide) k_7_230 rfl rfl d_MM_fails_5 ?_
    refine lv_if_ne (tgt := 16) hx hb d_MM_fails_8 (by decide) (fun c3 => ?_) (fun c3 => ?_)
    · replace h := o_ff c3 h
      exact f_MM_fails_j16 hE hKy C hDD Ni Np No Nx Nf Na Nh Nq Nj M0 M1 rt h _ _ _ hP hS (lv_sub hl [0] rfl)
    · replace h := o_tt c3 h
      refine lv_aload_n hx hb d_MM_fails_11 rfl (lv_at hl 0 rfl) ?_
      refine lv_iload_n hx hb d_MM_fails_12 rfl (lv_at hl 2 rfl) ?_
      refine o_put (v := .int x2) (ty := .int) (w1 := (m_cw ad ca ky ty rt (NI_mk x2 (NI_fed Ni) (NI_wrong Ni) (NI_octets Ni)) Np No Nx Nf Na Nh Nq Nj M0 M1)) C in_MM t_MM t_MM_ok n_MM hP (hDD _ _ _ _ _ _ _ _ _ _ _ _) hS 0 mw_0 rfl 0 (by decide) k_7_230 rfl rfl (by decide +kernel) rfl rfl (Nat.le_of_ble_eq_true rfl) rfl d_MM_fails_13 (fun H locs hP hS => ?_)
      exact f_MM_fails_j16 hE hKy C hDD (NI_mk x2 (NI_fed Ni) (NI_wrong Ni) (NI_octets Ni)) Np No Nx Nf Na Nh Nq Nj M0 M1 rt h _ _ _ hP hS (lv_sub hl [0] rfl)
set_option maxHeartbeats 4000000 in
set_option maxRecDepth 100000 in
theorem e_MM_in {E : (Nat → Prop) → State → Heap → Prop} {D : va_G} {ad kd sd vd xd : Nat → Nat} {ca : Nat → ClassId} {ky ty : Nat → Option Nat} (hE : o_EK E kd sd vd xd) (hKy : m_KY ky ty sd) (l : Launch) (x0 : Int32) (x1 : Int32) (x2 : Int32) (Ni : SNI) (Np : SNP) (No : SNO) (Nx : SNX) (Nf : SNF) (Na : SNA) (Nh : SNH) (Nq : SNQ) (Nj : SNJ) (M0 : SMT) (M1 : SMT) (rt : Nat) {r : Int32} (h : m_MM_in x0 x1 x2 = some r) : o_Cn E l D m_cls (m_tys ca) y_MM_in cc_MM_in rm_MM_in [.int x0, .int x1, .int x2] (m_cw ad ca ky ty rt Ni Np No Nx Nf Na Nh Nq Nj M0 M1) (m_cw ad ca ky ty rt Ni Np No Nx Nf Na Nh Nq Nj M0 M1) (some (.int r)) := by
  refine o_Cn_of (by decide) (Nat.le_of_ble_eq_true rfl) ?_
  intro p e s m below meth c A ls C hD hP hS hl
  have hDD : ∀ (rt : Nat) (Ni : SNI) (Np : SNP) (No : SNO) (Nx : SNX) (Nf : SNF) (Na : SNA) (Nh : SNH) (Nq : SNQ) (Nj : SNJ) (M0 : SMT) (M1 : SMT), va_D A (m_cw ad ca ky ty rt Ni Np No Nx Nf Na Nh Nq Nj M0 M1) := fun _ _ _ _ _ _ _ _ _ _ _ _ => o_D_map hD rfl
  have hl : lv_has ls 3 [(0, .int x0), (1, .int x1), (2, .int x2)] := hl
  unfold m_MM_in at h
  have C0 := C
  obtain ⟨hx, hb, -, -, -, hown, hts, hK, -, -⟩ := C0
  refine lv_iload_n hx hb d_MM_in_0 rfl (lv_at hl 0 rfl) ?_
  refine lv_iload_n hx hb d_MM_in_1 rfl (lv_at hl 1 rfl) ?_
  refine lv_icmp_lt (tgt := 14) hx hb d_MM_in_2 (by decide) (fun c1 => ?_) (fun c1 => ?_)
  · replace h := o_tt c1 h
    refine lv_iconst (v := (0:Int32)) hx hb d_MM_in_14 (by decide) ?_
    cases h
    exact o_rz (v := (0:Int32)) C o_nar0 hP hS d_MM_in_15
  · replace h := o_ff c1 h
    refine lv_iload_n hx hb d_MM_in_5 rfl (lv_at hl 0 rfl) ?_
    refine lv_iload_n hx hb d_MM_in_6 rfl (lv_at hl 2 rfl) ?_
    refine lv_icmp_gt (tgt := 14) hx hb d_MM_in_7 (by decide) (fun c2 => ?_) (fun c2 => ?_)
    · replace h := o_tt c2 h
      refine lv_iconst (v := (0:Int32)) hx hb d_MM_in_14 (by decide) ?_
      cases h
      exact o_rz (v := (0:Int32)) C o_nar0 hP hS d_MM_in_15
    · replace h := o_ff c2 h
      refine lv_iconst (v := (1:Int32)) hx hb d_MM_in_10 (by decide) ?_
      refine lv_goto (tgt := 15) hx hb d_MM_in_11 (by decide) ?_
      cases h
      exact o_rz (v := (1:Int32)) C o_nar1 hP hS d_MM_in_15
set_option maxHeartbeats 4000000 in
set_option maxRecDepth 100000 in
theorem f_MM_feed_j89 {E : (Nat → Prop) → State → Heap → Prop} {p : Program} {l : Launch} {e : Env} {s : State} {m : MethodId} {args : Array Value} {below : List Frame} {meth : Method} {c : Code} {D : va_G} {ad kd sd vd xd : Nat → Nat} {ca : Nat → ClassId} {A : Nat → Prop} {ky ty : Nat → Option Nat} {Q : State → Prop} (hE : o_EK E kd sd vd xd) (hKy : m_KY ky ty sd) (C : o_Cx E p s m args meth c D m_cls (m_tys ca) "SchemaJudgeModel" b_MM_feed (some .int) 8 cc_MM_feed A) (hDD : ∀ (rt : Nat) (Ni : SNI) (Np : SNP) (No : SNO) (Nx : SNX) (Nf : SNF) (Na : SNA) (Nh : SNH) (Nq : SNQ) (Nj : SNJ) (M0 : SMT) (M1 : SMT), va_D A (m_cw ad ca ky ty rt Ni Np No Nx Nf Na Nh Nq Nj M0 M1)) (n : Nat) (u36_x1 : Int32) (u36_x2 : Int32) (u36_x3 : Int32) (u36_x4 : Int32) (u36_x5 : Int32) (u36_Np : SNP) (u36_No : SNO) (u36_Nx : SNX) (u36_Nf : SNF) (u36_Na : SNA) (u36_Nh : SNH) (u36_Nq : SNQ) (u36_Nj : SNJ) (u36_M0 : SMT) (u36_M1 : SMT) (u36_rt : Nat) (x6 : Int32) (y0 : Int32) (Ni : SNI) {q : Nat × Int32 × SNI} (h : m_MM_feed_j89 n u36_x1 u36_x2 u36_x3 u36_x4 u36_x5 x6 y0 Ni = some q) (h0 : q.1 = 0 → o_At p l e rm_MM_feed s m args below meth c Q m_cls D A 8 36 [] (m_cw ad ca ky ty u36_rt q.2.2 u36_Np u36_No u36_Nx u36_Nf u36_Na u36_Nh u36_Nq u36_Nj u36_M0 u36_M1) [(0, .ref (ad 0)), (1, .int u36_x1), (2, .int u36_x2), (3, .int u36_x3), (4, .int u36_x4), (5, .int u36_x5), (6, .int q.2.1)]) (h1 : q.1 ≠ 0 → (o_At p l e rm_MM_feed s m args below meth c Q m_cls D A 8 130 [] (m_cw ad ca ky ty u36_rt q.2.2 u36_Np u36_No u36_Nx u36_Nf u36_Na u36_Nh u36_Nq u36_Nj u36_M0 u36_M1) [(0, .ref (ad 0))])) : o_At p l e rm_MM_feed s m args below meth c Q m_cls D A 8 89 [.int y0] (m_cw ad ca ky ty u36_rt Ni u36_Np u36_No u36_Nx u36_Nf u36_Na u36_Nh u36_Nq u36_Nj u36_M0 u36_M1) [(0, .ref (ad 0)), (1, .int u36_x1), (2, .int u36_x2), (3, .int u36_x3), (4, .int u36_x4), (5, .int u36_x5), (6, .int x6)] := by
  unfold m_MM_feed_j89 at h
  intro H locs ls hP hS hl
  have C0 := C
  obtain ⟨hx, hb, -, -, -, hown, hts, hK, -, -⟩ := C0
  refine lv_istore (lv' := [(7, .int y0), (0, .ref (ad 0)), (1, .int u36_x1), (2, .int u36_x2), (3, .int u36_x3), (4, .int u36_x4), (5, .int u36_x5), (6, .int x6)]) hx hb d_MM_feed_89 hl (by decide) rfl (fun ls hl => ?_)
  refine lv_aload_n hx hb d_MM_feed_91 rfl (lv_at hl 1 rfl) ?_
  refine o_get (v := .ref (ad 1)) C in_MM hP 0 mw_0 rfl 3 (by decide) k_7_233 rfl rfl d_MM_feed_92 ?_
  refine lv_aload_n hx hb d_MM_feed_95 rfl (lv_at hl 1 rfl) ?_
  refine lv_dup hx hb d_MM_feed_96 rfl ?_
  refine o_get (v := .int (NI_fed Ni)) C in_MM hP 0 mw_0 rfl 1 (by decide) k_7_231 rfl rfl d_MM_feed_97 ?_
  refine lv_dup_x1 hx hb d_MM_feed_100 rfl rfl ?_
  refine lv_iconst (v := (1:Int32)) hx hb d_MM_feed_101 (by decide) ?_
  refine lv_iadd hx hb d_MM_feed_102 ?_
  refine o_put (v := .int ((NI_fed Ni) + (1:Int32))) (ty := .int) (w1 := (m_cw ad ca ky ty u36_rt (NI_mk (NI_err Ni) ((NI_fed Ni) + (1:Int32)) (NI_wrong Ni) (NI_octets Ni)) u36_Np u36_No u36_Nx u36_Nf u36_Na u36_Nh u36_Nq u36_Nj u36_M0 u36_M1)) C in_MM t_MM t_MM_ok n_MM hP (hDD _ _ _ _ _ _ _ _ _ _ _ _) hS 0 mw_0 rfl 1 (by decide) k_7_231 rfl rfl (by decide +kernel) rfl rfl (Nat.le_of_ble_eq_true rfl) rfl d_MM_feed_103 (fun H locs hP hS => ?_)
  refine lv_iload hx hb d_MM_feed_106 (lv_at hl 0 rfl) ?_
  refine lv_bipush (v := (24:Int32)) hx hb d_MM_feed_108 (by decide) ?_
  refine lv_bipush (v := (8:Int32)) hx hb d_MM_feed_110 (by decide) ?_
  refine lv_iload hx hb d_MM_feed_112 (lv_at hl 7 rfl) ?_
  refine lv_iconst (v := (3:Int32)) hx hb d_MM_feed_114 (by decide) ?_
  refine lv_iand hx hb d_MM_feed_115 ?_
  refine lv_imul hx hb d_MM_feed_116 ?_
  refine lv_isub hx hb d_MM_feed_117 ?_
  refine lv_iushr hx hb d_MM_feed_118 rfl ?_
  refine lv_sipush (v := (255:Int32)) hx hb d_MM_feed_119 (by decide) ?_
  refine lv_iand hx hb d_MM_feed_122 ?_
  obtain ⟨g8, h⟩ := o_gd_some h
  refine o_iast (f := (NI_octets Ni)) (w1 := (m_cw ad ca ky ty u36_rt (NI_mk (NI_err Ni) ((NI_fed Ni) + (1:Int32)) (NI_wrong Ni) (upd (NI_octets Ni) (NI_fed Ni).toNatClampNeg ((y0.toUInt32 >>> (((24:Int32) - ((8:Int32) * (x6 &&& (3:Int32)))).toUInt32 &&& Int32.toUInt32 31)).toInt32 &&& (255:Int32)))) u36_Np u36_No u36_Nx u36_Nf u36_Na u36_Nh u36_Nq u36_Nj u36_M0 u36_M1)) C hP (hDD _ _ _ _ _ _ _ _ _ _ _ _) hS 1 0 mw_1 rfl g8 rfl d_MM_feed_123 (fun H locs hP hS => ?_)
  obtain ⟨x6_124, ex6_124⟩ : ∃ y : Int32, y = x6 + (1:Int32) := ⟨_, rfl⟩
  replace h := o_nm_at ex6_124 h
  refine lv_iinc (v := x6_124) (lv' := [(6, .int x6_124), (7, .int y0), (0, .ref (ad 0)), (1, .int u36_x1), (2, .int u36_x2), (3, .int u36_x3), (4, .int u36_x4), (5, .int u36_x5)]) hx hb d_MM_feed_124 hl (k := 7) rfl (by rw [ex6_124]; rfl) (by decide) rfl (fun ls hl => ?_)
  refine lv_goto (tgt := 36) hx hb d_MM_feed_127 (by decide) ?_
  cases h
  exact h0 rfl _ _ _ hP hS (lv_sub hl [2, 3, 4, 5, 6, 7, 0] rfl)
set_option maxHeartbeats 4000000 in
set_option maxRecDepth 100000 in
theorem f_MM_feed_b36 {E : (Nat → Prop) → State → Heap → Prop} {p : Program} {l : Launch} {e : Env} {s : State} {m : MethodId} {args : Array Value} {below : List Frame} {meth : Method} {c : Code} {D : va_G} {ad kd sd vd xd : Nat → Nat} {ca : Nat → ClassId} {A : Nat → Prop} {ky ty : Nat → Option Nat} {Q : State → Prop} (hE : o_EK E kd sd vd xd) (hKy : m_KY ky ty sd) (C : o_Cx E p s m args meth c D m_cls (m_tys ca) "SchemaJudgeModel" b_MM_feed (some .int) 8 cc_MM_feed A) (hDD : ∀ (rt : Nat) (Ni : SNI) (Np : SNP) (No : SNO) (Nx : SNX) (Nf : SNF) (Na : SNA) (Nh : SNH) (Nq : SNQ) (Nj : SNJ) (M0 : SMT) (M1 : SMT), va_D A (m_cw ad ca ky ty rt Ni Np No Nx Nf Na Nh Nq Nj M0 M1)) (n : Nat) (u36_x1 : Int32) (u36_x2 : Int32) (u36_x3 : Int32) (u36_x4 : Int32) (u36_x5 : Int32) (u36_Np : SNP) (u36_No : SNO) (u36_Nx : SNX) (u36_Nf : SNF) (u36_Na : SNA) (u36_Nh : SNH) (u36_Nq : SNQ) (u36_Nj : SNJ) (u36_M0 : SMT) (u36_M1 : SMT) (u36_rt : Nat) (z : Int32 × SNI) (q : Nat × Int32 × SNI) (h : m_MM_feed_b36 n u36_x1 u36_x2 u36_x3 u36_x4 u36_x5 z = some q) (h0 : q.1 = 0 → o_At p l e rm_MM_feed s m args below meth c Q m_cls D A 8 36 [] (m_cw ad ca ky ty u36_rt q.2.2 u36_Np u36_No u36_Nx u36_Nf u36_Na u36_Nh u36_Nq u36_Nj u36_M0 u36_M1) [(0, .ref (ad 0)), (1, .int u36_x1), (2, .int u36_x2), (3, .int u36_x3), (4, .int u36_x4), (5, .int u36_x5), (6, .int q.2.1)]) (h1 : q.1 ≠ 0 → (o_At p l e rm_MM_feed s m args below meth c Q m_cls D A 8 130 [] (m_cw ad ca ky ty u36_rt q.2.2 u36_Np u36_No u36_Nx u36_Nf u36_Na u36_Nh u36_Nq u36_Nj u36_M0 u36_M1) [(0, .ref (ad 0))])) : o_At p l e rm_MM_feed s m args below meth c Q m_cls D A 8 36 [] (m_cw ad ca ky ty u36_rt z.2 u36_Np u36_No u36_Nx u36_Nf u36_Na u36_Nh u36_Nq u36_Nj u36_M0 u36_M1) [(0, .ref (ad 0)), (1, .int u36_x1), (2, .int u36_x2), (3, .int u36_x3), (4, .int u36_x4), (5, .int u36_x5), (6, .int z.1)] := by
  unfold m_MM_feed_b36 at h
  intro H locs ls hP hS hl
  have C0 := C
  obtain ⟨hx, hb, -, -, -, hown, hts, hK, -, -⟩ := C0
  refine lv_iload hx hb d_MM_feed_36 (lv_at hl 6 rfl) ?_
  refine lv_bipush (v := (20:Int32)) hx hb d_MM_feed_38 (by decide) ?_
  refine lv_icmp_ge (tgt := 130) hx hb d_MM_feed_40 (by decide) (fun c3 => ?_) (fun c3 => ?_)
  · replace h := o_tt c3 h
    cases h
    exact h1 (Nat.succ_ne_zero 0) _ _ _ hP hS (lv_sub hl [0] rfl)
  · replace h := o_ff c3 h
    refine lv_iload hx hb d_MM_feed_43 (lv_at hl 6 rfl) ?_
    refine lv_iconst (v := (4:Int32)) hx hb d_MM_feed_45 (by decide) ?_
    refine lv_icmp_ge (tgt := 53) hx hb d_MM_feed_46 (by decide) (fun c4 => ?_) (fun c4 => ?_)
    · replace h := o_tt c4 h
      refine lv_iload hx hb d_MM_feed_53 (lv_at hl 6 rfl) ?_
      refine lv_bipush (v := (8:Int32)) hx hb d_MM_feed_55 (by decide) ?_
      refine lv_icmp_ge (tgt := 64) hx hb d_MM_feed_57 (by decide) (fun c5 => ?_) (fun c5 => ?_)
      · replace h := o_tt c5 h
        refine lv_iload hx hb d_MM_feed_64 (lv_at hl 6 rfl) ?_
        refine lv_bipush (v := (12:Int32)) hx hb d_MM_feed_66 (by decide) ?_
        refine lv_icmp_ge (tgt := 75) hx hb d_MM_feed_68 (by decide) (fun c6 => ?_) (fun c6 => ?_)
        · replace h := o_tt c6 h
          refine lv_iload hx hb d_MM_feed_75 (lv_at hl 6 rfl) ?_
          refine lv_bipush (v := (16:Int32)) hx hb d_MM_feed_77 (by decide) ?_
          refine lv_icmp_ge (tgt := 87) hx hb d_MM_feed_79 (by decide) (fun c7 => ?_) (fun c7 => ?_)
          · replace h := o_tt c7 h
            refine lv_iload hx hb d_MM_feed_87 (lv_at hl 5 rfl) ?_
            exact f_MM_feed_j89 hE hKy C hDD n u36_x1 u36_x2 u36_x3 u36_x4 u36_x5 u36_Np u36_No u36_Nx u36_Nf u36_Na u36_Nh u36_Nq u36_Nj u36_M0 u36_M1 u36_rt z.1 u36_x5 z.2 h h0 h1 _ _ _ hP hS (lv_sub hl [0, 1, 2, 3, 4, 5, 6] rfl)
          · replace h := o_ff c7 h
            refine lv_iload hx hb d_MM_feed_82 (lv_at hl 4 rfl) ?_
            refine lv_goto (tgt := 89) hx hb d_MM_feed_84 (by decide) ?_
            exact f_MM_feed_j89 hE hKy C hDD n u36_x1 u36_x2 u36_x3 u36_x4 u36_x5 u36_Np u36_No u36_Nx u36_Nf u36_Na u36_Nh u36_Nq u36_Nj u36_M0 u36_M1 u36_rt z.1 u36_x4 z.2 h h0 h1 _ _ _ hP hS (lv_sub hl [0, 1, 2, 3, 4, 5, 6] rfl)
        · replace h := o_ff c6 h
          refine lv_iload_n hx hb d_MM_feed_71 rfl (lv_at hl 3 rfl) ?_
          refine lv_goto (tgt := 89) hx hb d_MM_feed_72 (by decide) ?_
          exact f_MM_feed_j89 hE hKy C hDD n u36_x1 u36_x2 u36_x3 u36_x4 u36_x5 u36_Np u36_No u36_Nx u36_Nf u36_Na u36_Nh u36_Nq u36_Nj u36_M0 u36_M1 u36_rt z.1 u36_x3 z.2 h h0 h1 _ _ _ hP hS (lv_sub hl [0, 1, 2, 3, 4, 5, 6] rfl)
      · replace h := o_ff c5 h
        refine lv_iload_n hx hb d_MM_feed_60 rfl (lv_at hl 2 rfl) ?_
        refine lv_goto (tgt := 89) hx hb d_MM_feed_61 (by decide) ?_
        exact f_MM_feed_j89 hE hKy C hDD n u36_x1 u36_x2 u36_x3 u36_x4 u36_x5 u36_Np u36_No u36_Nx u36_Nf u36_Na u36_Nh u36_Nq u36_Nj u36_M0 u36_M1 u36_rt z.1 u36_x2 z.2 h h0 h1 _ _ _ hP hS (lv_sub hl [0, 1, 2, 3, 4, 5, 6] rfl)
    · replace h := o_ff c4 h
      refine lv_iload_n hx hb d_MM_feed_49 rfl (lv_at hl 1 rfl) ?_
      refine lv_goto (tgt := 89) hx hb d_MM_feed_50 (by decide) ?_
      exact f_MM_feed_j89 hE hKy C hDD n u36_x1 u36_x2 u36_x3 u36_x4 u36_x5 u36_Np u36_No u36_Nx u36_Nf u36_Na u36_Nh u36_Nq u36_Nj u36_M0 u36_M1 u36_rt z.1 u36_x1 z.2 h h0 h1 _ _ _ hP hS (lv_sub hl [0, 1, 2, 3, 4, 5, 6] rfl)
set_option maxHeartbeats 4000000 in
set_option maxRecDepth 100000 in
theorem f_MM_feed_j24 {E : (Nat → Prop) → State → Heap → Prop} {p : Program} {l : Launch} {e : Env} {s : State} {m : MethodId} {args : Array Value} {below : List Frame} {meth : Method} {c : Code} {D : va_G} {ad kd sd vd xd : Nat → Nat} {ca : Nat → ClassId} {A : Nat → Prop} {ky ty : Nat → Option Nat} (hE : o_EK E kd sd vd xd) (hKy : m_KY ky ty sd) (C : o_Cx E p s m args meth c D m_cls (m_tys ca) "SchemaJudgeModel" b_MM_feed (some .int) 8 cc_MM_feed A) (hDD : ∀ (rt : Nat) (Ni : SNI) (Np : SNP) (No : SNO) (Nx : SNX) (Nf : SNF) (Na : SNA) (Nh : SNH) (Nq : SNQ) (Nj : SNJ) (M0 : SMT) (M1 : SMT), va_D A (m_cw ad ca ky ty rt Ni Np No Nx Nf Na Nh Nq Nj M0 M1)) (n : Nat) (x1 : Int32) (x2 : Int32) (x3 : Int32) (x4 : Int32) (x5 : Int32) (y1 : Int32) (Ni : SNI) (Np : SNP) (No : SNO) (Nx : SNX) (Nf : SNF) (Na : SNA) (Nh : SNH) (Nq : SNQ) (Nj : SNJ) (M0 : SMT) (M1 : SMT) (rt : Nat) {r : Int32 × SNI} (h : m_MM_feed_j24 n x1 x2 x3 x4 x5 y1 Ni = some r) : o_At p l e rm_MM_feed s m args below meth c (MQ below (o_Qx D m_cls (some (.int r.1)) (m_cw ad ca ky ty rt r.2 Np No Nx Nf Na Nh Nq Nj M0 M1) A) args s 0 0 A) m_cls D A 8 24 [.int y1, .ref (ad 0)] (m_cw ad ca ky ty rt Ni Np No Nx Nf Na Nh Nq Nj M0 M1) [(0, .ref (ad 0)), (1, .int x1), (2, .int x2), (3, .int x3), (4, .int x4), (5, .int x5)] := by
  unfold m_MM_feed_j24 at h
  intro H locs ls hP hS hl
  have C0 := C
  obtain ⟨hx, hb, -, -, -, hown, hts, hK, -, -⟩ := C0
  refine lv_iconst (v := (1:Int32)) hx hb d_MM_feed_24 (by decide) ?_
  obtain ⟨q1, hq1, h⟩ := o_bd_some h
  refine o_V (st1 := [.int q1.1]) (w1 := (m_cw ad ca ky ty rt q1.2 Np No Nx Nf Na Nh Nq Nj M0 M1)) hE.1 C (e_MM_fails hE hKy l y1 (1:Int32) Ni Np No Nx Nf Na Nh Nq Nj M0 M1 rt hq1) hP (hDD _ _ _ _ _ _ _ _ _ _ _ _) hS hl.1 rfl mw_0 k_8_176 k_8_178 k_s_81 k_1_12 k_8_179 hv_MM_fails rfl rfl ⟨(Nat.le_of_ble_eq_true rfl), (Nat.le_of_ble_eq_true rfl)⟩ rfl (Nat.le_of_ble_eq_true rfl) ⟨Nat.zero_le _, Nat.zero_le _⟩ rfl d_MM_feed_25 (fun H locs hP hS => ?_)
  refine lv_if_eq (tgt := 33) hx hb d_MM_feed_28 (by decide) (fun c2 => ?_) (fun c2 => ?_)
  · replace h := o_tt c2 h
    refine lv_iconst (v := (0:Int32)) hx hb d_MM_feed_33 (by decide) ?_
    refine lv_istore (lv' := [(6, .int (0:Int32)), (0, .ref (ad 0)), (1, .int x1), (2, .int x2), (3, .int x3), (4, .int x4), (5, .int x5)]) hx hb d_MM_feed_34 hl (by decide) rfl (fun ls hl => ?_)
    obtain ⟨q2, hq2, h⟩ := o_bd_some h
    refine o_sim2 (AH := fun zz => o_At p l e rm_MM_feed s m args below meth c _ m_cls D A 8 36 [] (m_cw ad ca ky ty rt zz.2 Np No Nx Nf Na Nh Nq Nj M0 M1) [(0, .ref (ad 0)), (1, .int x1), (2, .int x2), (3, .int x3), (4, .int x4), (5, .int x5), (6, .int zz.1)]) (AX := fun qq => o_At p l e rm_MM_feed s m args below meth c _ m_cls D A 8 130 [] (m_cw ad ca ky ty rt qq.2.2 Np No Nx Nf Na Nh Nq Nj M0 M1) [(0, .ref (ad 0))]) (fun zz qq h h0 h1 => f_MM_feed_b36 hE hKy C hDD n x1 x2 x3 x4 x5 Np No Nx Nf Na Nh Nq Nj M0 M1 rt zz qq h h0 h1) n _ q2 hq2 ?_ _ _ _ hP hS (lv_sub hl [1, 2, 3, 4, 5, 6, 0] rfl)
    intro H locs ls hP hS hl
    refine lv_aload_n hx hb d_MM_feed_130 rfl (lv_at hl 0 rfl) ?_
    refine o_get (v := .int (NI_fed q2.2.2)) C in_MM hP 0 mw_0 rfl 1 (by decide) k_7_231 rfl rfl d_MM_feed_131 ?_
    cases h
    exact o_ri (v := (NI_fed q2.2.2)) C hP hS d_MM_feed_134
  · replace h := o_ff c2 h
    refine lv_iconst (v := (0:Int32)) hx hb d_MM_feed_31 (by decide) ?_
    cases h
    exact o_ri (v := (0:Int32)) C hP hS d_MM_feed_32
set_option maxHeartbeats 4000000 in
set_option maxRecDepth 100000 in
theorem e_MM_feed {E : (Nat → Prop) → State → Heap → Prop} {D : va_G} {ad kd sd vd xd : Nat → Nat} {ca : Nat → ClassId} {ky ty : Nat → Option Nat} (hE : o_EK E kd sd vd xd) (hKy : m_KY ky ty sd) (l : Launch) (n : Nat) (x1 : Int32) (x2 : Int32) (x3 : Int32) (x4 : Int32) (x5 : Int32) (Ni : SNI) (Np : SNP) (No : SNO) (Nx : SNX) (Nf : SNF) (Na : SNA) (Nh : SNH) (Nq : SNQ) (Nj : SNJ) (M0 : SMT) (M1 : SMT) (rt : Nat) {r : Int32 × SNI} (h : m_MM_feed n x1 x2 x3 x4 x5 Ni = some r) : o_Cn E l D m_cls (m_tys ca) y_MM_feed cc_MM_feed rm_MM_feed [.ref (ad 0), .int x1, .int x2, .int x3, .int x4, .int x5] (m_cw ad ca ky ty rt Ni Np No Nx Nf Na Nh Nq Nj M0 M1) (m_cw ad ca ky ty rt r.2 Np No Nx Nf Na Nh Nq Nj M0 M1) (some (.int r.1)) := by
  refine o_Cn_of (by decide) (Nat.le_of_ble_eq_true rfl) ?_
  intro p e s m below meth c A ls C hD hP hS hl
  have hDD : ∀ (rt : Nat) (Ni : SNI) (Np : SNP) (No : SNO) (Nx : SNX) (Nf : SNF) (Na : SNA) (Nh : SNH) (Nq : SNQ) (Nj : SNJ) (M0 : SMT) (M1 : SMT), va_D A (m_cw ad ca ky ty rt Ni Np No Nx Nf Na Nh Nq Nj M0 M1) := fun _ _ _ _ _ _ _ _ _ _ _ _ => o_D_map hD rfl
  have hl : lv_has ls 8 [(0, .ref (ad 0)), (1, .int x1), (2, .int x2), (3, .int x3), (4, .int x4), (5, .int x5)] := hl
  unfold m_MM_feed at h
  have C0 := C
  obtain ⟨hx, hb, -, -, -, hown, hts, hK, -, -⟩ := C0
  refine lv_aload_n hx hb d_MM_feed_0 rfl (lv_at hl 0 rfl) ?_
  refine lv_iconst (v := (0:Int32)) hx hb d_MM_feed_1 (by decide) ?_
  refine o_put (v := .int (0:Int32)) (ty := .int) (w1 := (m_cw ad ca ky ty rt (NI_mk (0:Int32) (NI_fed Ni) (NI_wrong Ni) (NI_octets Ni)) Np No Nx Nf Na Nh Nq Nj M0 M1)) C in_MM t_MM t_MM_ok n_MM hP (hDD _ _ _ _ _ _ _ _ _ _ _ _) hS 0 mw_0 rfl 0 (by decide) k_7_230 rfl rfl (by decide +kernel) rfl rfl (Nat.le_of_ble_eq_true rfl) rfl d_MM_feed_2 (fun H locs hP hS => ?_)
  refine lv_aload_n hx hb d_MM_feed_5 rfl (lv_at hl 0 rfl) ?_
  refine lv_aload_n hx hb d_MM_feed_6 rfl (lv_at hl 0 rfl) ?_
  refine o_get (v := .int (NI_fed Ni)) C in_MM hP 0 mw_0 rfl 1 (by decide) k_7_231 rfl rfl d_MM_feed_7 ?_
  refine lv_bipush (v := (20:Int32)) hx hb d_MM_feed_10 (by decide) ?_
  refine lv_iadd hx hb d_MM_feed_12 ?_
  refine lv_sipush (v := (8200:Int32)) hx hb d_MM_feed_13 (by decide) ?_
  refine lv_icmp_le (tgt := 23) hx hb d_MM_feed_16 (by decide) (fun c1 => ?_) (fun c1 => ?_)
  · replace h := o_tt c1 h
    refine lv_iconst (v := (0:Int32)) hx hb d_MM_feed_23 (by decide) ?_
    exact f_MM_feed_j24 hE hKy C hDD n x1 x2 x3 x4 x5 (0:Int32) (NI_mk (0:Int32) (NI_fed Ni) (NI_wrong Ni) (NI_octets Ni)) Np No Nx Nf Na Nh Nq Nj M0 M1 rt h _ _ _ hP hS (lv_sub hl [0, 1, 2, 3, 4, 5] rfl)
  · replace h := o_ff c1 h
    refine lv_iconst (v := (1:Int32)) hx hb d_MM_feed_19 (by decide) ?_
    refine lv_goto (tgt := 24) hx hb d_MM_feed_20 (by decide) ?_
    exact f_MM_feed_j24 hE hKy C hDD n x1 x2 x3 x4 x5 (1:Int32) (NI_mk (0:Int32) (NI_fed Ni) (NI_wrong Ni) (NI_octets Ni)) Np No Nx Nf Na Nh Nq Nj M0 M1 rt h _ _ _ hP hS (lv_sub hl [0, 1, 2, 3, 4, 5] rfl)
set_option maxHeartbeats 4000000 in
set_option maxRecDepth 100000 in
theorem e_MT_c_a {E : (Nat → Prop) → State → Heap → Prop} {D : va_G} {ad kd sd vd xd : Nat → Nat} {ca : Nat → ClassId} {ky ty : Nat → Option Nat} (hE : o_EK E kd sd vd xd) (hKy : m_KY ky ty sd) (l : Launch) (x1 : Int32) (a0 : SMT) (Ni : SNI) (Np : SNP) (No : SNO) (Nx : SNX) (Nf : SNF) (Na : SNA) (Nh : SNH) (Nq : SNQ) (Nj : SNJ) (M1 : SMT) (rt : Nat) {r : Int32} (h : m_MT_c x1 a0 = some r) : o_Cn E l D m_cls (m_tys ca) y_MT_c cc_MT_c rm_MT_c [.ref (ad 33), .int x1] (m_cw ad ca ky ty rt Ni Np No Nx Nf Na Nh Nq Nj a0 M1) (m_cw ad ca ky ty rt Ni Np No Nx Nf Na Nh Nq Nj a0 M1) (some (.int r)) := by
  refine o_Cn_of (by decide) (Nat.le_of_ble_eq_true rfl) ?_
  intro p e s m below meth c A ls C hD hP hS hl
  have hDD : ∀ (rt : Nat) (Ni : SNI) (Np : SNP) (No : SNO) (Nx : SNX) (Nf : SNF) (Na : SNA) (Nh : SNH) (Nq : SNQ) (Nj : SNJ) (M0 : SMT) (M1 : SMT), va_D A (m_cw ad ca ky ty rt Ni Np No Nx Nf Na Nh Nq Nj M0 M1) := fun _ _ _ _ _ _ _ _ _ _ _ _ => o_D_map hD rfl
  have hl : lv_has ls 2 [(0, .ref (ad 33)), (1, .int x1)] := hl
  unfold m_MT_c at h
  have C0 := C
  obtain ⟨hx, hb, -, -, -, hown, hts, hK, -, -⟩ := C0
  refine lv_iload_n hx hb d_MT_c_0 rfl (lv_at hl 1 rfl) ?_
  refine lv_aload_n hx hb d_MT_c_1 rfl (lv_at hl 0 rfl) ?_
  refine o_get (v := .int (MT_letters a0)) C in_MT hP 33 mw_33 rfl 14 (by decide) k_7_128 rfl rfl d_MT_c_2 ?_
  refine lv_icmp_ge (tgt := 17) hx hb d_MT_c_5 (by decide) (fun c1 => ?_) (fun c1 => ?_)
  · replace h := o_tt c1 h
    refine lv_iconst (v := (-1:Int32)) hx hb d_MT_c_17 (by decide) ?_
    cases h
    exact o_ri (v := (-1:Int32)) C hP hS d_MT_c_18
  · replace h := o_ff c1 h
    refine lv_aload_n hx hb d_MT_c_8 rfl (lv_at hl 0 rfl) ?_
    refine o_get (v := .ref (ad 34)) C in_MT hP 33 mw_33 rfl 0 (by decide) k_7_100 rfl rfl d_MT_c_9 ?_
    refine lv_iload_n hx hb d_MT_c_12 rfl (lv_at hl 1 rfl) ?_
    obtain ⟨g2, h⟩ := o_gd_some h
    refine o_iald (f := (MT_text a0)) C hP 34 32 mw_34 rfl g2 d_MT_c_13 ?_
    refine lv_goto (tgt := 18) hx hb d_MT_c_14 (by decide) ?_
    cases h
    exact o_ri (v := ((MT_text a0) x1.toNatClampNeg)) C hP hS d_MT_c_18
set_option maxHeartbeats 4000000 in
set_option maxRecDepth 100000 in
theorem e_MT_c_b {E : (Nat → Prop) → State → Heap → Prop} {D : va_G} {ad kd sd vd xd : Nat → Nat} {ca : Nat → ClassId} {ky ty : Nat → Option Nat} (hE : o_EK E kd sd vd xd) (hKy : m_KY ky ty sd) (l : Launch) (x1 : Int32) (a0 : SMT) (Ni : SNI) (Np : SNP) (No : SNO) (Nx : SNX) (Nf : SNF) (Na : SNA) (Nh : SNH) (Nq : SNQ) (Nj : SNJ) (M0 : SMT) (rt : Nat) {r : Int32} (h : m_MT_c x1 a0 = some r) : o_Cn E l D m_cls (m_tys ca) y_MT_c cc_MT_c rm_MT_c [.ref (ad 48), .int x1] (m_cw ad ca ky ty rt Ni Np No Nx Nf Na Nh Nq Nj M0 a0) (m_cw ad ca ky ty rt Ni Np No Nx Nf Na Nh Nq Nj M0 a0) (some (.int r)) := by
  refine o_Cn_of (by decide) (Nat.le_of_ble_eq_true rfl) ?_
  intro p e s m below meth c A ls C hD hP hS hl
  have hDD : ∀ (rt : Nat) (Ni : SNI) (Np : SNP) (No : SNO) (Nx : SNX) (Nf : SNF) (Na : SNA) (Nh : SNH) (Nq : SNQ) (Nj : SNJ) (M0 : SMT) (M1 : SMT), va_D A (m_cw ad ca ky ty rt Ni Np No Nx Nf Na Nh Nq Nj M0 M1) := fun _ _ _ _ _ _ _ _ _ _ _ _ => o_D_map hD rfl
  have hl : lv_has ls 2 [(0, .ref (ad 48)), (1, .int x1)] := hl
  unfold m_MT_c at h
  have C0 := C
  obtain ⟨hx, hb, -, -, -, hown, hts, hK, -, -⟩ := C0
  refine lv_iload_n hx hb d_MT_c_0 rfl (lv_at hl 1 rfl) ?_
  refine lv_aload_n hx hb d_MT_c_1 rfl (lv_at hl 0 rfl) ?_
  refine o_get (v := .int (MT_letters a0)) C in_MT hP 48 mw_48 rfl 14 (by decide) k_7_128 rfl rfl d_MT_c_2 ?_
  refine lv_icmp_ge (tgt := 17) hx hb d_MT_c_5 (by decide) (fun c1 => ?_) (fun c1 => ?_)
  · replace h := o_tt c1 h
    refine lv_iconst (v := (-1:Int32)) hx hb d_MT_c_17 (by decide) ?_
    cases h
    exact o_ri (v := (-1:Int32)) C hP hS d_MT_c_18
  · replace h := o_ff c1 h
    refine lv_aload_n hx hb d_MT_c_8 rfl (lv_at hl 0 rfl) ?_
    refine o_get (v := .ref (ad 49)) C in_MT hP 48 mw_48 rfl 0 (by decide) k_7_100 rfl rfl d_MT_c_9 ?_
    refine lv_iload_n hx hb d_MT_c_12 rfl (lv_at hl 1 rfl) ?_
    obtain ⟨g2, h⟩ := o_gd_some h
    refine o_iald (f := (MT_text a0)) C hP 49 46 mw_49 rfl g2 d_MT_c_13 ?_
    refine lv_goto (tgt := 18) hx hb d_MT_c_14 (by decide) ?_
    cases h
    exact o_ri (v := ((MT_text a0) x1.toNatClampNeg)) C hP hS d_MT_c_18
set_option maxHeartbeats 4000000 in
set_option maxRecDepth 100000 in
theorem f_MT_blanks_j52_a {E : (Nat → Prop) → State → Heap → Prop} {p : Program} {l : Launch} {e : Env} {s : State} {m : MethodId} {args : Array Value} {below : List Frame} {meth : Method} {c : Code} {D : va_G} {ad kd sd vd xd : Nat → Nat} {ca : Nat → ClassId} {A : Nat → Prop} {ky ty : Nat → Option Nat} {Q : State → Prop} (hE : o_EK E kd sd vd xd) (hKy : m_KY ky ty sd) (C : o_Cx E p s m args meth c D m_cls (m_tys ca) "SchemaJudgeModel$Text" b_MT_blanks none 1 cc_MT_blanks A) (hDD : ∀ (rt : Nat) (Ni : SNI) (Np : SNP) (No : SNO) (Nx : SNX) (Nf : SNF) (Na : SNA) (Nh : SNH) (Nq : SNQ) (Nj : SNJ) (M0 : SMT) (M1 : SMT), va_D A (m_cw ad ca ky ty rt Ni Np No Nx Nf Na Nh Nq Nj M0 M1)) (n : Nat) (u0_Ni : SNI) (u0_Np : SNP) (u0_No : SNO) (u0_Nx : SNX) (u0_Nf : SNF) (u0_Na : SNA) (u0_Nh : SNH) (u0_Nq : SNQ) (u0_Nj : SNJ) (u0_M1 : SMT) (u0_rt : Nat)  (a0 : SMT) {q : Nat × SMT} (h : m_MT_blanks_j52 n a0 = some q) (h0 : q.1 = 0 → o_At p l e rm_MT_blanks s m args below meth c Q m_cls D A 1 0 [] (m_cw ad ca ky ty u0_rt u0_Ni u0_Np u0_No u0_Nx u0_Nf u0_Na u0_Nh u0_Nq u0_Nj q.2 u0_M1) [(0, .ref (ad 33))]) (h1 : q.1 ≠ 0 → (o_At p l e rm_MT_blanks s m args below meth c Q m_cls D A 1 65 [] (m_cw ad ca ky ty u0_rt u0_Ni u0_Np u0_No u0_Nx u0_Nf u0_Na u0_Nh u0_Nq u0_Nj q.2 u0_M1) [])) : o_At p l e rm_MT_blanks s m args below meth c Q m_cls D A 1 52 [] (m_cw ad ca ky ty u0_rt u0_Ni u0_Np u0_No u0_Nx u0_Nf u0_Na u0_Nh u0_Nq u0_Nj a0 u0_M1) [(0, .ref (ad 33))] := by
  unfold m_MT_blanks_j52 at h
  intro H locs ls hP hS hl
  have C0 := C
  obtain ⟨hx, hb, -, -, -, hown, hts, hK, -, -⟩ := C0
  refine lv_aload_n hx hb d_MT_blanks_52 rfl (lv_at hl 0 rfl) ?_
  refine lv_dup hx hb d_MT_blanks_53 rfl ?_
  refine o_get (v := .int (MT_at a0)) C in_MT hP 33 mw_33 rfl 15 (by decide) k_7_129 rfl rfl d_MT_blanks_54 ?_
  refine lv_iconst (v := (1:Int32)) hx hb d_MT_blanks_57 (by decide) ?_
  refine lv_iadd hx hb d_MT_blanks_58 ?_
  refine o_put (v := .int ((MT_at a0) + (1:Int32))) (ty := .int) (w1 := (m_cw ad ca ky ty u0_rt u0_Ni u0_Np u0_No u0_Nx u0_Nf u0_Na u0_Nh u0_Nq u0_Nj (MT_mk (MT_text a0) (MT_kind a0) (MT_place a0) (MT_many a0) (MT_parent a0) (MT_power a0) (MT_first a0) (MT_next a0) (MT_name a0) (MT_from a0) (MT_characters a0) (MT_digits a0) (MT_minus a0) (MT_values a0) (MT_letters a0) ((MT_at a0) + (1:Int32)) (MT_wrong a0) (MT_used a0) (MT_written a0) (MT_left a0)) u0_M1)) C in_MT t_MT t_MT_ok n_MT hP (hDD _ _ _ _ _ _ _ _ _ _ _ _) hS 33 mw_33 rfl 15 (by decide) k_7_129 rfl rfl (by decide +kernel) rfl rfl (Nat.le_of_ble_eq_true rfl) rfl d_MT_blanks_59 (fun H locs hP hS => ?_)
  refine lv_goto (tgt := 0) hx hb d_MT_blanks_62 (by decide) ?_
  cases h
  exact h0 rfl _ _ _ hP hS (lv_sub hl [0] rfl)
set_option maxHeartbeats 4000000 in
set_option maxRecDepth 100000 in
theorem f_MT_blanks_b0_a {E : (Nat → Prop) → State → Heap → Prop} {p : Program} {l : Launch} {e : Env} {s : State} {m : MethodId} {args : Array Value} {below : List Frame} {meth : Method} {c : Code} {D : va_G} {ad kd sd vd xd : Nat → Nat} {ca : Nat → ClassId} {A : Nat → Prop} {ky ty : Nat → Option Nat} {Q : State → Prop} (hE : o_EK E kd sd vd xd) (hKy : m_KY ky ty sd) (C : o_Cx E p s m args meth c D m_cls (m_tys ca) "SchemaJudgeModel$Text" b_MT_blanks none 1 cc_MT_blanks A) (hDD : ∀ (rt : Nat) (Ni : SNI) (Np : SNP) (No : SNO) (Nx : SNX) (Nf : SNF) (Na : SNA) (Nh : SNH) (Nq : SNQ) (Nj : SNJ) (M0 : SMT) (M1 : SMT), va_D A (m_cw ad ca ky ty rt Ni Np No Nx Nf Na Nh Nq Nj M0 M1)) (n : Nat) (u0_Ni : SNI) (u0_Np : SNP) (u0_No : SNO) (u0_Nx : SNX) (u0_Nf : SNF) (u0_Na : SNA) (u0_Nh : SNH) (u0_Nq : SNQ) (u0_Nj : SNJ) (u0_M1 : SMT) (u0_rt : Nat) (z : SMT) (q : Nat × SMT) (h : m_MT_blanks_b0 n z = some q) (h0 : q.1 = 0 → o_At p l e rm_MT_blanks s m args below meth c Q m_cls D A 1 0 [] (m_cw ad ca ky ty u0_rt u0_Ni u0_Np u0_No u0_Nx u0_Nf u0_Na u0_Nh u0_Nq u0_Nj q.2 u0_M1) [(0, .ref (ad 33))]) (h1 : q.1 ≠ 0 → (o_At p l e rm_MT_blanks s m args below meth c Q m_cls D A 1 65 [] (m_cw ad ca ky ty u0_rt u0_Ni u0_Np u0_No u0_Nx u0_Nf u0_Na u0_Nh u0_Nq u0_Nj q.2 u0_M1) [])) : o_At p l e rm_MT_blanks s m args below meth c Q m_cls D A 1 0 [] (m_cw ad ca ky ty u0_rt u0_Ni u0_Np u0_No u0_Nx u0_Nf u0_Na u0_Nh u0_Nq u0_Nj z u0_M1) [(0, .ref (ad 33))] := by
  unfold m_MT_blanks_b0 at h
  intro H locs ls hP hS hl
  have C0 := C
  obtain ⟨hx, hb, -, -, -, hown, hts, hK, -, -⟩ := C0
  refine lv_aload_n hx hb d_MT_blanks_0 rfl (lv_at hl 0 rfl) ?_
  refine lv_aload_n hx hb d_MT_blanks_1 rfl (lv_at hl 0 rfl) ?_
  refine o_get (v := .int (MT_at z)) C in_MT hP 33 mw_33 rfl 15 (by decide) k_7_129 rfl rfl d_MT_blanks_2 ?_
  obtain ⟨q1, hq1, h⟩ := o_bd_some h
  refine o_V (st1 := [.int q1]) (w1 := (m_cw ad ca ky ty u0_rt u0_Ni u0_Np u0_No u0_Nx u0_Nf u0_Na u0_Nh u0_Nq u0_Nj z u0_M1)) hE.1 C (e_MT_c_a hE hKy l (MT_at z) z u0_Ni u0_Np u0_No u0_Nx u0_Nf u0_Na u0_Nh u0_Nq u0_Nj u0_M1 u0_rt hq1) hP (hDD _ _ _ _ _ _ _ _ _ _ _ _) hS hl.1 rfl mw_33 k_8_192 k_8_193 k_8_194 k_1_13 k_8_195 hv_MT_c rfl rfl ⟨(Nat.le_of_ble_eq_true rfl), (Nat.le_of_ble_eq_true rfl)⟩ rfl (Nat.le_of_ble_eq_true rfl) ⟨Nat.zero_le _, Nat.zero_le _⟩ rfl d_MT_blanks_5 (fun H locs hP hS => ?_)
  refine lv_bipush (v := (32:Int32)) hx hb d_MT_blanks_8 (by decide) ?_
  refine lv_icmp_eq (tgt := 52) hx hb d_MT_blanks_10 (by decide) (fun c1 => ?_) (fun c1 => ?_)
  · replace h := o_tt c1 h
    exact f_MT_blanks_j52_a hE hKy C hDD n u0_Ni u0_Np u0_No u0_Nx u0_Nf u0_Na u0_Nh u0_Nq u0_Nj u0_M1 u0_rt z h h0 h1 _ _ _ hP hS (lv_sub hl [0] rfl)
  · replace h := o_ff c1 h
    refine lv_aload_n hx hb d_MT_blanks_13 rfl (lv_at hl 0 rfl) ?_
    refine lv_aload_n hx hb d_MT_blanks_14 rfl (lv_at hl 0 rfl) ?_
    refine o_get (v := .int (MT_at z)) C in_MT hP 33 mw_33 rfl 15 (by decide) k_7_129 rfl rfl d_MT_blanks_15 ?_
    obtain ⟨q2, hq2, h⟩ := o_bd_some h
    refine o_V (st1 := [.int q2]) (w1 := (m_cw ad ca ky ty u0_rt u0_Ni u0_Np u0_No u0_Nx u0_Nf u0_Na u0_Nh u0_Nq u0_Nj z u0_M1)) hE.1 C (e_MT_c_a hE hKy l (MT_at z) z u0_Ni u0_Np u0_No u0_Nx u0_Nf u0_Na u0_Nh u0_Nq u0_Nj u0_M1 u0_rt hq2) hP (hDD _ _ _ _ _ _ _ _ _ _ _ _) hS hl.1 rfl mw_33 k_8_192 k_8_193 k_8_194 k_1_13 k_8_195 hv_MT_c rfl rfl ⟨(Nat.le_of_ble_eq_true rfl), (Nat.le_of_ble_eq_true rfl)⟩ rfl (Nat.le_of_ble_eq_true rfl) ⟨Nat.zero_le _, Nat.zero_le _⟩ rfl d_MT_blanks_18 (fun H locs hP hS => ?_)
    refine lv_bipush (v := (9:Int32)) hx hb d_MT_blanks_21 (by decide) ?_
    refine lv_icmp_eq (tgt := 52) hx hb d_MT_blanks_23 (by decide) (fun c2 => ?_) (fun c2 => ?_)
    · replace h := o_tt c2 h
      exact f_MT_blanks_j52_a hE hKy C hDD n u0_Ni u0_Np u0_No u0_Nx u0_Nf u0_Na u0_Nh u0_Nq u0_Nj u0_M1 u0_rt z h h0 h1 _ _ _ hP hS (lv_sub hl [0] rfl)
    · replace h := o_ff c2 h
      refine lv_aload_n hx hb d_MT_blanks_26 rfl (lv_at hl 0 rfl) ?_
      refine lv_aload_n hx hb d_MT_blanks_27 rfl (lv_at hl 0 rfl) ?_
      refine o_get (v := .int (MT_at z)) C in_MT hP 33 mw_33 rfl 15 (by decide) k_7_129 rfl rfl d_MT_blanks_28 ?_
      obtain ⟨q3, hq3, h⟩ := o_bd_some h
      refine o_V (st1 := [.int q3]) (w1 := (m_cw ad ca ky ty u0_rt u0_Ni u0_Np u0_No u0_Nx u0_Nf u0_Na u0_Nh u0_Nq u0_Nj z u0_M1)) hE.1 C (e_MT_c_a hE hKy l (MT_at z) z u0_Ni u0_Np u0_No u0_Nx u0_Nf u0_Na u0_Nh u0_Nq u0_Nj u0_M1 u0_rt hq3) hP (hDD _ _ _ _ _ _ _ _ _ _ _ _) hS hl.1 rfl mw_33 k_8_192 k_8_193 k_8_194 k_1_13 k_8_195 hv_MT_c rfl rfl ⟨(Nat.le_of_ble_eq_true rfl), (Nat.le_of_ble_eq_true rfl)⟩ rfl (Nat.le_of_ble_eq_true rfl) ⟨Nat.zero_le _, Nat.zero_le _⟩ rfl d_MT_blanks_31 (fun H locs hP hS => ?_)
      refine lv_bipush (v := (10:Int32)) hx hb d_MT_blanks_34 (by decide) ?_
      refine lv_icmp_eq (tgt := 52) hx hb d_MT_blanks_36 (by decide) (fun c3 => ?_) (fun c3 => ?_)
      · replace h := o_tt c3 h
        exact f_MT_blanks_j52_a hE hKy C hDD n u0_Ni u0_Np u0_No u0_Nx u0_Nf u0_Na u0_Nh u0_Nq u0_Nj u0_M1 u0_rt z h h0 h1 _ _ _ hP hS (lv_sub hl [0] rfl)
      · replace h := o_ff c3 h
        refine lv_aload_n hx hb d_MT_blanks_39 rfl (lv_at hl 0 rfl) ?_
        refine lv_aload_n hx hb d_MT_blanks_40 rfl (lv_at hl 0 rfl) ?_
        refine o_get (v := .int (MT_at z)) C in_MT hP 33 mw_33 rfl 15 (by decide) k_7_129 rfl rfl d_MT_blanks_41 ?_
        obtain ⟨q4, hq4, h⟩ := o_bd_some h
        refine o_V (st1 := [.int q4]) (w1 := (m_cw ad ca ky ty u0_rt u0_Ni u0_Np u0_No u0_Nx u0_Nf u0_Na u0_Nh u0_Nq u0_Nj z u0_M1)) hE.1 C (e_MT_c_a hE hKy l (MT_at z) z u0_Ni u0_Np u0_No u0_Nx u0_Nf u0_Na u0_Nh u0_Nq u0_Nj u0_M1 u0_rt hq4) hP (hDD _ _ _ _ _ _ _ _ _ _ _ _) hS hl.1 rfl mw_33 k_8_192 k_8_193 k_8_194 k_1_13 k_8_195 hv_MT_c rfl rfl ⟨(Nat.le_of_ble_eq_true rfl), (Nat.le_of_ble_eq_true rfl)⟩ rfl (Nat.le_of_ble_eq_true rfl) ⟨Nat.zero_le _, Nat.zero_le _⟩ rfl d_MT_blanks_44 (fun H locs hP hS => ?_)
        refine lv_bipush (v := (13:Int32)) hx hb d_MT_blanks_47 (by decide) ?_
        refine lv_icmp_ne (tgt := 65) hx hb d_MT_blanks_49 (by decide) (fun c4 => ?_) (fun c4 => ?_)
        · replace h := o_ff c4 h
          cases h
          exact h1 (Nat.succ_ne_zero 0) _ _ _ hP hS (lv_sub hl [] rfl)
        · replace h := o_tt c4 h
          exact f_MT_blanks_j52_a hE hKy C hDD n u0_Ni u0_Np u0_No u0_Nx u0_Nf u0_Na u0_Nh u0_Nq u0_Nj u0_M1 u0_rt z h h0 h1 _ _ _ hP hS (lv_sub hl [0] rfl)
set_option maxHeartbeats 4000000 in
set_option maxRecDepth 100000 in
theorem e_MT_blanks_a {E : (Nat → Prop) → State → Heap → Prop} {D : va_G} {ad kd sd vd xd : Nat → Nat} {ca : Nat → ClassId} {ky ty : Nat → Option Nat} (hE : o_EK E kd sd vd xd) (hKy : m_KY ky ty sd) (l : Launch) (n : Nat)  (a0 : SMT) (Ni : SNI) (Np : SNP) (No : SNO) (Nx : SNX) (Nf : SNF) (Na : SNA) (Nh : SNH) (Nq : SNQ) (Nj : SNJ) (M1 : SMT) (rt : Nat) {r : SMT} (h : m_MT_blanks n a0 = some r) : o_Cn E l D m_cls (m_tys ca) y_MT_blanks cc_MT_blanks rm_MT_blanks [.ref (ad 33)] (m_cw ad ca ky ty rt Ni Np No Nx Nf Na Nh Nq Nj a0 M1) (m_cw ad ca ky ty rt Ni Np No Nx Nf Na Nh Nq Nj r M1) none := by
  refine o_Cn_of (by decide) (Nat.le_of_ble_eq_true rfl) ?_
  intro p e s m below meth c A ls C hD hP hS hl
  have hDD : ∀ (rt : Nat) (Ni : SNI) (Np : SNP) (No : SNO) (Nx : SNX) (Nf : SNF) (Na : SNA) (Nh : SNH) (Nq : SNQ) (Nj : SNJ) (M0 : SMT) (M1 : SMT), va_D A (m_cw ad ca ky ty rt Ni Np No Nx Nf Na Nh Nq Nj M0 M1) := fun _ _ _ _ _ _ _ _ _ _ _ _ => o_D_map hD rfl
  have hl : lv_has ls 1 [(0, .ref (ad 33))] := hl
  unfold m_MT_blanks at h
  have C0 := C
  obtain ⟨hx, hb, -, -, -, hown, hts, hK, -, -⟩ := C0
  obtain ⟨q5, hq5, h⟩ := o_bd_some h
  refine o_sim2 (AH := fun zz => o_At p l e rm_MT_blanks s m _ below meth c _ m_cls D A 1 0 [] (m_cw ad ca ky ty rt Ni Np No Nx Nf Na Nh Nq Nj zz M1) [(0, .ref (ad 33))]) (AX := fun qq => o_At p l e rm_MT_blanks s m _ below meth c _ m_cls D A 1 65 [] (m_cw ad ca ky ty rt Ni Np No Nx Nf Na Nh Nq Nj qq.2 M1) []) (fun zz qq h h0 h1 => f_MT_blanks_b0_a hE hKy C hDD n Ni Np No Nx Nf Na Nh Nq Nj M1 rt zz qq h h0 h1) n _ q5 hq5 ?_ _ _ _ hP hS (lv_sub hl [0] rfl)
  intro H locs ls hP hS hl
  cases h
  exact o_rv C hP hS d_MT_blanks_65
set_option maxHeartbeats 4000000 in
set_option maxRecDepth 100000 in
theorem f_MT_blanks_j52_b {E : (Nat → Prop) → State → Heap → Prop} {p : Program} {l : Launch} {e : Env} {s : State} {m : MethodId} {args : Array Value} {below : List Frame} {meth : Method} {c : Code} {D : va_G} {ad kd sd vd xd : Nat → Nat} {ca : Nat → ClassId} {A : Nat → Prop} {ky ty : Nat → Option Nat} {Q : State → Prop} (hE : o_EK E kd sd vd xd) (hKy : m_KY ky ty sd) (C : o_Cx E p s m args meth c D m_cls (m_tys ca) "SchemaJudgeModel$Text" b_MT_blanks none 1 cc_MT_blanks A) (hDD : ∀ (rt : Nat) (Ni : SNI) (Np : SNP) (No : SNO) (Nx : SNX) (Nf : SNF) (Na : SNA) (Nh : SNH) (Nq : SNQ) (Nj : SNJ) (M0 : SMT) (M1 : SMT), va_D A (m_cw ad ca ky ty rt Ni Np No Nx Nf Na Nh Nq Nj M0 M1)) (n : Nat) (u0_Ni : SNI) (u0_Np : SNP) (u0_No : SNO) (u0_Nx : SNX) (u0_Nf : SNF) (u0_Na : SNA) (u0_Nh : SNH) (u0_Nq : SNQ) (u0_Nj : SNJ) (u0_M0 : SMT) (u0_rt : Nat)  (a0 : SMT) {q : Nat × SMT} (h : m_MT_blanks_j52 n a0 = some q) (h0 : q.1 = 0 → o_At p l e rm_MT_blanks s m args below meth c Q m_cls D A 1 0 [] (m_cw ad ca ky ty u0_rt u0_Ni u0_Np u0_No u0_Nx u0_Nf u0_Na u0_Nh u0_Nq u0_Nj u0_M0 q.2) [(0, .ref (ad 48))]) (h1 : q.1 ≠ 0 → (o_At p l e rm_MT_blanks s m args below meth c Q m_cls D A 1 65 [] (m_cw ad ca ky ty u0_rt u0_Ni u0_Np u0_No u0_Nx u0_Nf u0_Na u0_Nh u0_Nq u0_Nj u0_M0 q.2) [])) : o_At p l e rm_MT_blanks s m args below meth c Q m_cls D A 1 52 [] (m_cw ad ca ky ty u0_rt u0_Ni u0_Np u0_No u0_Nx u0_Nf u0_Na u0_Nh u0_Nq u0_Nj u0_M0 a0) [(0, .ref (ad 48))] := by
  unfold m_MT_blanks_j52 at h
  intro H locs ls hP hS hl
  have C0 := C
  obtain ⟨hx, hb, -, -, -, hown, hts, hK, -, -⟩ := C0
  refine lv_aload_n hx hb d_MT_blanks_52 rfl (lv_at hl 0 rfl) ?_
  refine lv_dup hx hb d_MT_blanks_53 rfl ?_
  refine o_get (v := .int (MT_at a0)) C in_MT hP 48 mw_48 rfl 15 (by decide) k_7_129 rfl rfl d_MT_blanks_54 ?_
  refine lv_iconst (v := (1:Int32)) hx hb d_MT_blanks_57 (by decide) ?_
  refine lv_iadd hx hb d_MT_blanks_58 ?_
  refine o_put (v := .int ((MT_at a0) + (1:Int32))) (ty := .int) (w1 := (m_cw ad ca ky ty u0_rt u0_Ni u0_Np u0_No u0_Nx u0_Nf u0_Na u0_Nh u0_Nq u0_Nj u0_M0 (MT_mk (MT_text a0) (MT_kind a0) (MT_place a0) (MT_many a0) (MT_parent a0) (MT_power a0) (MT_first a0) (MT_next a0) (MT_name a0) (MT_from a0) (MT_characters a0) (MT_digits a0) (MT_minus a0) (MT_values a0) (MT_letters a0) ((MT_at a0) + (1:Int32)) (MT_wrong a0) (MT_used a0) (MT_written a0) (MT_left a0)))) C in_MT t_MT t_MT_ok n_MT hP (hDD _ _ _ _ _ _ _ _ _ _ _ _) hS 48 mw_48 rfl 15 (by decide) k_7_129 rfl rfl (by decide +kernel) rfl rfl (Nat.le_of_ble_eq_true rfl) rfl d_MT_blanks_59 (fun H locs hP hS => ?_)
  refine lv_goto (tgt := 0) hx hb d_MT_blanks_62 (by decide) ?_
  cases h
  exact h0 rfl _ _ _ hP hS (lv_sub hl [0] rfl)
set_option maxHeartbeats 4000000 in
set_option maxRecDepth 100000 in
theorem f_MT_blanks_b0_b {E : (Nat → Prop) → State → Heap → Prop} {p : Program} {l : Launch} {e : Env} {s : State} {m : MethodId} {args : Array Value} {below : List Frame} {meth : Method} {c : Code} {D : va_G} {ad kd sd vd xd : Nat → Nat} {ca : Nat → ClassId} {A : Nat → Prop} {ky ty : Nat → Option Nat} {Q : State → Prop} (hE : o_EK E kd sd vd xd) (hKy : m_KY ky ty sd) (C : o_Cx E p s m args meth c D m_cls (m_tys ca) "SchemaJudgeModel$Text" b_MT_blanks none 1 cc_MT_blanks A) (hDD : ∀ (rt : Nat) (Ni : SNI) (Np : SNP) (No : SNO) (Nx : SNX) (Nf : SNF) (Na : SNA) (Nh : SNH) (Nq : SNQ) (Nj : SNJ) (M0 : SMT) (M1 : SMT), va_D A (m_cw ad ca ky ty rt Ni Np No Nx Nf Na Nh Nq Nj M0 M1)) (n : Nat) (u0_Ni : SNI) (u0_Np : SNP) (u0_No : SNO) (u0_Nx : SNX) (u0_Nf : SNF) (u0_Na : SNA) (u0_Nh : SNH) (u0_Nq : SNQ) (u0_Nj : SNJ) (u0_M0 : SMT) (u0_rt : Nat) (z : SMT) (q : Nat × SMT) (h : m_MT_blanks_b0 n z = some q) (h0 : q.1 = 0 → o_At p l e rm_MT_blanks s m args below meth c Q m_cls D A 1 0 [] (m_cw ad ca ky ty u0_rt u0_Ni u0_Np u0_No u0_Nx u0_Nf u0_Na u0_Nh u0_Nq u0_Nj u0_M0 q.2) [(0, .ref (ad 48))]) (h1 : q.1 ≠ 0 → (o_At p l e rm_MT_blanks s m args below meth c Q m_cls D A 1 65 [] (m_cw ad ca ky ty u0_rt u0_Ni u0_Np u0_No u0_Nx u0_Nf u0_Na u0_Nh u0_Nq u0_Nj u0_M0 q.2) [])) : o_At p l e rm_MT_blanks s m args below meth c Q m_cls D A 1 0 [] (m_cw ad ca ky ty u0_rt u0_Ni u0_Np u0_No u0_Nx u0_Nf u0_Na u0_Nh u0_Nq u0_Nj u0_M0 z) [(0, .ref (ad 48))] := by
  unfold m_MT_blanks_b0 at h
  intro H locs ls hP hS hl
  have C0 := C
  obtain ⟨hx, hb, -, -, -, hown, hts, hK, -, -⟩ := C0
  refine lv_aload_n hx hb d_MT_blanks_0 rfl (lv_at hl 0 rfl) ?_
  refine lv_aload_n hx hb d_MT_blanks_1 rfl (lv_at hl 0 rfl) ?_
  refine o_get (v := .int (MT_at z)) C in_MT hP 48 mw_48 rfl 15 (by decide) k_7_129 rfl rfl d_MT_blanks_2 ?_
  obtain ⟨q1, hq1, h⟩ := o_bd_some h
  refine o_V (st1 := [.int q1]) (w1 := (m_cw ad ca ky ty u0_rt u0_Ni u0_Np u0_No u0_Nx u0_Nf u0_Na u0_Nh u0_Nq u0_Nj u0_M0 z)) hE.1 C (e_MT_c_b hE hKy l (MT_at z) z u0_Ni u0_Np u0_No u0_Nx u0_Nf u0_Na u0_Nh u0_Nq u0_Nj u0_M0 u0_rt hq1) hP (hDD _ _ _ _ _ _ _ _ _ _ _ _) hS hl.1 rfl mw_48 k_8_192 k_8_193 k_8_194 k_1_13 k_8_195 hv_MT_c rfl rfl ⟨(Nat.le_of_ble_eq_true rfl), (Nat.le_of_ble_eq_true rfl)⟩ rfl (Nat.le_of_ble_eq_true rfl) ⟨Nat.zero_le _, Nat.zero_le _⟩ rfl d_MT_blanks_5 (fun H locs hP hS => ?_)
  refine lv_bipush (v := (32:Int32)) hx hb d_MT_blanks_8 (by decide) ?_
  refine lv_icmp_eq (tgt := 52) hx hb d_MT_blanks_10 (by decide) (fun c1 => ?_) (fun c1 => ?_)
  · replace h := o_tt c1 h
    exact f_MT_blanks_j52_b hE hKy C hDD n u0_Ni u0_Np u0_No u0_Nx u0_Nf u0_Na u0_Nh u0_Nq u0_Nj u0_M0 u0_rt z h h0 h1 _ _ _ hP hS (lv_sub hl [0] rfl)
  · replace h := o_ff c1 h
    refine lv_aload_n hx hb d_MT_blanks_13 rfl (lv_at hl 0 rfl) ?_
    refine lv_aload_n hx hb d_MT_blanks_14 rfl (lv_at hl 0 rfl) ?_
    refine o_get (v := .int (MT_at z)) C in_MT hP 48 mw_48 rfl 15 (by decide) k_7_129 rfl rfl d_MT_blanks_15 ?_
    obtain ⟨q2, hq2, h⟩ := o_bd_some h
    refine o_V (st1 := [.int q2]) (w1 := (m_cw ad ca ky ty u0_rt u0_Ni u0_Np u0_No u0_Nx u0_Nf u0_Na u0_Nh u0_Nq u0_Nj u0_M0 z)) hE.1 C (e_MT_c_b hE hKy l (MT_at z) z u0_Ni u0_Np u0_No u0_Nx u0_Nf u0_Na u0_Nh u0_Nq u0_Nj u0_M0 u0_rt hq2) hP (hDD _ _ _ _ _ _ _ _ _ _ _ _) hS hl.1 rfl mw_48 k_8_192 k_8_193 k_8_194 k_1_13 k_8_195 hv_MT_c rfl rfl ⟨(Nat.le_of_ble_eq_true rfl), (Nat.le_of_ble_eq_true rfl)⟩ rfl (Nat.le_of_ble_eq_true rfl) ⟨Nat.zero_le _, Nat.zero_le _⟩ rfl d_MT_blanks_18 (fun H locs hP hS => ?_)
    refine lv_bipush (v := (9:Int32)) hx hb d_MT_blanks_21 (by decide) ?_
    refine lv_icmp_eq (tgt := 52) hx hb d_MT_blanks_23 (by decide) (fun c2 => ?_) (fun c2 => ?_)
    · replace h := o_tt c2 h
      exact f_MT_blanks_j52_b hE hKy C hDD n u0_Ni u0_Np u0_No u0_Nx u0_Nf u0_Na u0_Nh u0_Nq u0_Nj u0_M0 u0_rt z h h0 h1 _ _ _ hP hS (lv_sub hl [0] rfl)
    · replace h := o_ff c2 h
      refine lv_aload_n hx hb d_MT_blanks_26 rfl (lv_at hl 0 rfl) ?_
      refine lv_aload_n hx hb d_MT_blanks_27 rfl (lv_at hl 0 rfl) ?_
      refine o_get (v := .int (MT_at z)) C in_MT hP 48 mw_48 rfl 15 (by decide) k_7_129 rfl rfl d_MT_blanks_28 ?_
      obtain ⟨q3, hq3, h⟩ := o_bd_some h
      refine o_V (st1 := [.int q3]) (w1 := (m_cw ad ca ky ty u0_rt u0_Ni u0_Np u0_No u0_Nx u0_Nf u0_Na u0_Nh u0_Nq u0_Nj u0_M0 z)) hE.1 C (e_MT_c_b hE hKy l (MT_at z) z u0_Ni u0_Np u0_No u0_Nx u0_Nf u0_Na u0_Nh u0_Nq u0_Nj u0_M0 u0_rt hq3) hP (hDD _ _ _ _ _ _ _ _ _ _ _ _) hS hl.1 rfl mw_48 k_8_192 k_8_193 k_8_194 k_1_13 k_8_195 hv_MT_c rfl rfl ⟨(Nat.le_of_ble_eq_true rfl), (Nat.le_of_ble_eq_true rfl)⟩ rfl (Nat.le_of_ble_eq_true rfl) ⟨Nat.zero_le _, Nat.zero_le _⟩ rfl d_MT_blanks_31 (fun H locs hP hS => ?_)
      refine lv_bipush (v := (10:Int32)) hx hb d_MT_blanks_34 (by decide) ?_
      refine lv_icmp_eq (tgt := 52) hx hb d_MT_blanks_36 (by decide) (fun c3 => ?_) (fun c3 => ?_)
      · replace h := o_tt c3 h
        exact f_MT_blanks_j52_b hE hKy C hDD n u0_Ni u0_Np u0_No u0_Nx u0_Nf u0_Na u0_Nh u0_Nq u0_Nj u0_M0 u0_rt z h h0 h1 _ _ _ hP hS (lv_sub hl [0] rfl)
      · replace h := o_ff c3 h
        refine lv_aload_n hx hb d_MT_blanks_39 rfl (lv_at hl 0 rfl) ?_
        refine lv_aload_n hx hb d_MT_blanks_40 rfl (lv_at hl 0 rfl) ?_
        refine o_get (v := .int (MT_at z)) C in_MT hP 48 mw_48 rfl 15 (by decide) k_7_129 rfl rfl d_MT_blanks_41 ?_
        obtain ⟨q4, hq4, h⟩ := o_bd_some h
        refine o_V (st1 := [.int q4]) (w1 := (m_cw ad ca ky ty u0_rt u0_Ni u0_Np u0_No u0_Nx u0_Nf u0_Na u0_Nh u0_Nq u0_Nj u0_M0 z)) hE.1 C (e_MT_c_b hE hKy l (MT_at z) z u0_Ni u0_Np u0_No u0_Nx u0_Nf u0_Na u0_Nh u0_Nq u0_Nj u0_M0 u0_rt hq4) hP (hDD _ _ _ _ _ _ _ _ _ _ _ _) hS hl.1 rfl mw_48 k_8_192 k_8_193 k_8_194 k_1_13 k_8_195 hv_MT_c rfl rfl ⟨(Nat.le_of_ble_eq_true rfl), (Nat.le_of_ble_eq_true rfl)⟩ rfl (Nat.le_of_ble_eq_true rfl) ⟨Nat.zero_le _, Nat.zero_le _⟩ rfl d_MT_blanks_44 (fun H locs hP hS => ?_)
        refine lv_bipush (v := (13:Int32)) hx hb d_MT_blanks_47 (by decide) ?_
        refine lv_icmp_ne (tgt := 65) hx hb d_MT_blanks_49 (by decide) (fun c4 => ?_) (fun c4 => ?_)
        · replace h := o_ff c4 h
          cases h
          exact h1 (Nat.succ_ne_zero 0) _ _ _ hP hS (lv_sub hl [] rfl)
        · replace h := o_tt c4 h
          exact f_MT_blanks_j52_b hE hKy C hDD n u0_Ni u0_Np u0_No u0_Nx u0_Nf u0_Na u0_Nh u0_Nq u0_Nj u0_M0 u0_rt z h h0 h1 _ _ _ hP hS (lv_sub hl [0] rfl)
set_option maxHeartbeats 4000000 in
set_option maxRecDepth 100000 in
theorem e_MT_blanks_b {E : (Nat → Prop) → State → Heap → Prop} {D : va_G} {ad kd sd vd xd : Nat → Nat} {ca : Nat → ClassId} {ky ty : Nat → Option Nat} (hE : o_EK E kd sd vd xd) (hKy : m_KY ky ty sd) (l : Launch) (n : Nat)  (a0 : SMT) (Ni : SNI) (Np : SNP) (No : SNO) (Nx : SNX) (Nf : SNF) (Na : SNA) (Nh : SNH) (Nq : SNQ) (Nj : SNJ) (M0 : SMT) (rt : Nat) {r : SMT} (h : m_MT_blanks n a0 = some r) : o_Cn E l D m_cls (m_tys ca) y_MT_blanks cc_MT_blanks rm_MT_blanks [.ref (ad 48)] (m_cw ad ca ky ty rt Ni Np No Nx Nf Na Nh Nq Nj M0 a0) (m_cw ad ca ky ty rt Ni Np No Nx Nf Na Nh Nq Nj M0 r) none := by
  refine o_Cn_of (by decide) (Nat.le_of_ble_eq_true rfl) ?_
  intro p e s m below meth c A ls C hD hP hS hl
  have hDD : ∀ (rt : Nat) (Ni : SNI) (Np : SNP) (No : SNO) (Nx : SNX) (Nf : SNF) (Na : SNA) (Nh : SNH) (Nq : SNQ) (Nj : SNJ) (M0 : SMT) (M1 : SMT), va_D A (m_cw ad ca ky ty rt Ni Np No Nx Nf Na Nh Nq Nj M0 M1) := fun _ _ _ _ _ _ _ _ _ _ _ _ => o_D_map hD rfl
  have hl : lv_has ls 1 [(0, .ref (ad 48))] := hl
  unfold m_MT_blanks at h
  have C0 := C
  obtain ⟨hx, hb, -, -, -, hown, hts, hK, -, -⟩ := C0
  obtain ⟨q5, hq5, h⟩ := o_bd_some h
  refine o_sim2 (AH := fun zz => o_At p l e rm_MT_blanks s m _ below meth c _ m_cls D A 1 0 [] (m_cw ad ca ky ty rt Ni Np No Nx Nf Na Nh Nq Nj M0 zz) [(0, .ref (ad 48))]) (AX := fun qq => o_At p l e rm_MT_blanks s m _ below meth c _ m_cls D A 1 65 [] (m_cw ad ca ky ty rt Ni Np No Nx Nf Na Nh Nq Nj M0 qq.2) []) (fun zz qq h h0 h1 => f_MT_blanks_b0_b hE hKy C hDD n Ni Np No Nx Nf Na Nh Nq Nj M0 rt zz qq h h0 h1) n _ q5 hq5 ?_ _ _ _ hP hS (lv_sub hl [0] rfl)
  intro H locs ls hP hS hl
  cases h
  exact o_rv C hP hS d_MT_blanks_65
set_option maxHeartbeats 4000000 in
set_option maxRecDepth 100000 in
theorem e_MT_bad_a {E : (Nat → Prop) → State → Heap → Prop} {D : va_G} {ad kd sd vd xd : Nat → Nat} {ca : Nat → ClassId} {ky ty : Nat → Option Nat} (hE : o_EK E kd sd vd xd) (hKy : m_KY ky ty sd) (l : Launch) (x1 : Int32) (a0 : SMT) (Ni : SNI) (Np : SNP) (No : SNO) (Nx : SNX) (Nf : SNF) (Na : SNA) (Nh : SNH) (Nq : SNQ) (Nj : SNJ) (M1 : SMT) (rt : Nat) {r : Int32 × SMT} (h : m_MT_bad x1 a0 = some r) : o_Cn E l D m_cls (m_tys ca) y_MT_bad cc_MT_bad rm_MT_bad [.ref (ad 33), .int x1] (m_cw ad ca ky ty rt Ni Np No Nx Nf Na Nh Nq Nj a0 M1) (m_cw ad ca ky ty rt Ni Np No Nx Nf Na Nh Nq Nj r.2 M1) (some (.int r.1)) := by
  refine o_Cn_of (by decide) (Nat.le_of_ble_eq_true rfl) ?_
  intro p e s m below meth c A ls C hD hP hS hl
  have hDD : ∀ (rt : Nat) (Ni : SNI) (Np : SNP) (No : SNO) (Nx : SNX) (Nf : SNF) (Na : SNA) (Nh : SNH) (Nq : SNQ) (Nj : SNJ) (M0 : SMT) (M1 : SMT), va_D A (m_cw ad ca ky ty rt Ni Np No Nx Nf Na Nh Nq Nj M0 M1) := fun _ _ _ _ _ _ _ _ _ _ _ _ => o_D_map hD rfl
  have hl : lv_has ls 2 [(0, .ref (ad 33)), (1, .int x1)] := hl
  unfold m_MT_bad at h
  have C0 := C
  obtain ⟨hx, hb, -, -, -, hown, hts, hK, -, -⟩ := C0
  refine lv_aload_n hx hb d_MT_bad_0 rfl (lv_at hl 0 rfl) ?_
  refine o_get (v := .int (MT_wrong a0)) C in_MT hP 33 mw_33 rfl 16 (by decide) k_7_130 rfl rfl d_MT_bad_1 ?_
  refine lv_if_ge (tgt := 12) hx hb d_MT_bad_4 (by decide) (fun c1 => ?_) (fun c1 => ?_)
  · replace h := o_tt c1 h
    refine lv_iconst (v := (0:Int32)) hx hb d_MT_bad_12 (by decide) ?_
    cases h
    exact o_rz (v := (0:Int32)) C o_nar0 hP hS d_MT_bad_13
  · replace h := o_ff c1 h
    refine lv_aload_n hx hb d_MT_bad_7 rfl (lv_at hl 0 rfl) ?_
    refine lv_iload_n hx hb d_MT_bad_8 rfl (lv_at hl 1 rfl) ?_
    refine o_put (v := .int x1) (ty := .int) (w1 := (m_cw ad ca ky ty rt Ni Np No Nx Nf Na Nh Nq Nj (MT_mk (MT_text a0) (MT_kind a0) (MT_place a0) (MT_many a0) (MT_parent a0) (MT_power a0) (MT_first a0) (MT_next a0) (MT_name a0) (MT_from a0) (MT_characters a0) (MT_digits a0) (MT_minus a0) (MT_values a0) (MT_letters a0) (MT_at a0) x1 (MT_used a0) (MT_written a0) (MT_left a0)) M1)) C in_MT t_MT t_MT_ok n_MT hP (hDD _ _ _ _ _ _ _ _ _ _ _ _) hS 33 mw_33 rfl 16 (by decide) k_7_130 rfl rfl (by decide +kernel) rfl rfl (Nat.le_of_ble_eq_true rfl) rfl d_MT_bad_9 (fun H locs hP hS => ?_)
    refine lv_iconst (v := (0:Int32)) hx hb d_MT_bad_12 (by decide) ?_
    cases h
    exact o_rz (v := (0:Int32)) C o_nar0 hP hS d_MT_bad_13
set_option maxHeartbeats 4000000 in
set_option maxRecDepth 100000 in
theorem e_MT_bad_b {E : (Nat → Prop) → State → Heap → Prop} {D : va_G} {ad kd sd vd xd : Nat → Nat} {ca : Nat → ClassId} {ky ty : Nat → Option Nat} (hE : o_EK E kd sd vd xd) (hKy : m_KY ky ty sd) (l : Launch) (x1 : Int32) (a0 : SMT) (Ni : SNI) (Np : SNP) (No : SNO) (Nx : SNX) (Nf : SNF) (Na : SNA) (Nh : SNH) (Nq : SNQ) (Nj : SNJ) (M0 : SMT) (rt : Nat) {r : Int32 × SMT} (h : m_MT_bad x1 a0 = some r) : o_Cn E l D m_cls (m_tys ca) y_MT_bad cc_MT_bad rm_MT_bad [.ref (ad 48), .int x1] (m_cw ad ca ky ty rt Ni Np No Nx Nf Na Nh Nq Nj M0 a0) (m_cw ad ca ky ty rt Ni Np No Nx Nf Na Nh Nq Nj M0 r.2) (some (.int r.1)) := by
  refine o_Cn_of (by decide) (Nat.le_of_ble_eq_true rfl) ?_
  intro p e s m below meth c A ls C hD hP hS hl
  have hDD : ∀ (rt : Nat) (Ni : SNI) (Np : SNP) (No : SNO) (Nx : SNX) (Nf : SNF) (Na : SNA) (Nh : SNH) (Nq : SNQ) (Nj : SNJ) (M0 : SMT) (M1 : SMT), va_D A (m_cw ad ca ky ty rt Ni Np No Nx Nf Na Nh Nq Nj M0 M1) := fun _ _ _ _ _ _ _ _ _ _ _ _ => o_D_map hD rfl
  have hl : lv_has ls 2 [(0, .ref (ad 48)), (1, .int x1)] := hl
  unfold m_MT_bad at h
  have C0 := C
  obtain ⟨hx, hb, -, -, -, hown, hts, hK, -, -⟩ := C0
  refine lv_aload_n hx hb d_MT_bad_0 rfl (lv_at hl 0 rfl) ?_
  refine o_get (v := .int (MT_wrong a0)) C in_MT hP 48 mw_48 rfl 16 (by decide) k_7_130 rfl rfl d_MT_bad_1 ?_
  refine lv_if_ge (tgt := 12) hx hb d_MT_bad_4 (by decide) (fun c1 => ?_) (fun c1 => ?_)
  · replace h := o_tt c1 h
    refine lv_iconst (v := (0:Int32)) hx hb d_MT_bad_12 (by decide) ?_
    cases h
    exact o_rz (v := (0:Int32)) C o_nar0 hP hS d_MT_bad_13
  · replace h := o_ff c1 h
    refine lv_aload_n hx hb d_MT_bad_7 rfl (lv_at hl 0 rfl) ?_
    refine lv_iload_n hx hb d_MT_bad_8 rfl (lv_at hl 1 rfl) ?_
    refine o_put (v := .int x1) (ty := .int) (w1 := (m_cw ad ca ky ty rt Ni Np No Nx Nf Na Nh Nq Nj M0 (MT_mk (MT_text a0) (MT_kind a0) (MT_place a0) (MT_many a0) (MT_parent a0) (MT_power a0) (MT_first a0) (MT_next a0) (MT_name a0) (MT_from a0) (MT_characters a0) (MT_digits a0) (MT_minus a0) (MT_values a0) (MT_letters a0) (MT_at a0) x1 (MT_used a0) (MT_written a0) (MT_left a0)))) C in_MT t_MT t_MT_ok n_MT hP (hDD _ _ _ _ _ _ _ _ _ _ _ _) hS 48 mw_48 rfl 16 (by decide) k_7_130 rfl rfl (by decide +kernel) rfl rfl (Nat.le_of_ble_eq_true rfl) rfl d_MT_bad_9 (fun H locs hP hS => ?_)
    refine lv_iconst (v := (0:Int32)) hx hb d_MT_bad_12 (by decide) ?_
    cases h
    exact o_rz (v := (0:Int32)) C o_nar0 hP hS d_MT_bad_13
set_option maxHeartbeats 4000000 in
set_option maxRecDepth 100000 in
theorem e_MT_fresh_a {E : (Nat → Prop) → State → Heap → Prop} {D : va_G} {ad kd sd vd xd : Nat → Nat} {ca : Nat → ClassId} {ky ty : Nat → Option Nat} (hE : o_EK E kd sd vd xd) (hKy : m_KY ky ty sd) (l : Launch) (x1 : Int32) (x2 : Int32) (a0 : SMT) (Ni : SNI) (Np : SNP) (No : SNO) (Nx : SNX) (Nf : SNF) (Na : SNA) (Nh : SNH) (Nq : SNQ) (Nj : SNJ) (M1 : SMT) (rt : Nat) {r : Int32 × SMT} (h : m_MT_fresh x1 x2 a0 = some r) : o_Cn E l D m_cls (m_tys ca) y_MT_fresh cc_MT_fresh rm_MT_fresh [.ref (ad 33), .int x1, .int x2] (m_cw ad ca ky ty rt Ni Np No Nx Nf Na Nh Nq Nj a0 M1) (m_cw ad ca ky ty rt Ni Np No Nx Nf Na Nh Nq Nj r.2 M1) (some (.int r.1)) := by
  refine o_Cn_of (by decide) (Nat.le_of_ble_eq_true rfl) ?_
  intro p e s m below meth c A ls C hD hP hS hl
  have hDD : ∀ (rt : Nat) (Ni : SNI) (Np : SNP) (No : SNO) (Nx : SNX) (Nf : SNF) (Na : SNA) (Nh : SNH) (Nq : SNQ) (Nj : SNJ) (M0 : SMT) (M1 : SMT), va_D A (m_cw ad ca ky ty rt Ni Np No Nx Nf Na Nh Nq Nj M0 M1) := fun _ _ _ _ _ _ _ _ _ _ _ _ => o_D_map hD rfl
  have hl : lv_has ls 4 [(0, .ref (ad 33)), (1, .int x1), (2, .int x2)] := hl
  unfold m_MT_fresh at h
  have C0 := C
  obtain ⟨hx, hb, -, -, -, hown, hts, hK, -, -⟩ := C0
  refine lv_aload_n hx hb d_MT_fresh_0 rfl (lv_at hl 0 rfl) ?_
  refine lv_dup hx hb d_MT_fresh_1 rfl ?_
  refine o_get (v := .int (MT_values a0)) C in_MT hP 33 mw_33 rfl 13 (by decide) k_7_126 rfl rfl d_MT_fresh_2 ?_
  refine lv_dup_x1 hx hb d_MT_fresh_5 rfl rfl ?_
  refine lv_iconst (v := (1:Int32)) hx hb d_MT_fresh_6 (by decide) ?_
  refine lv_iadd hx hb d_MT_fresh_7 ?_
  refine o_put (v := .int ((MT_values a0) + (1:Int32))) (ty := .int) (w1 := (m_cw ad ca ky ty rt Ni Np No Nx Nf Na Nh Nq Nj (MT_mk (MT_text a0) (MT_kind a0) (MT_place a0) (MT_many a0) (MT_parent a0) (MT_power a0) (MT_first a0) (MT_next a0) (MT_name a0) (MT_from a0) (MT_characters a0) (MT_digits a0) (MT_minus a0) ((MT_values a0) + (1:Int32)) (MT_letters a0) (MT_at a0) (MT_wrong a0) (MT_used a0) (MT_written a0) (MT_left a0)) M1)) C in_MT t_MT t_MT_ok n_MT hP (hDD _ _ _ _ _ _ _ _ _ _ _ _) hS 33 mw_33 rfl 13 (by decide) k_7_126 rfl rfl (by decide +kernel) rfl rfl (Nat.le_of_ble_eq_true rfl) rfl d_MT_fresh_8 (fun H locs hP hS => ?_)
  refine lv_topi (fun x3_11 ex3_11 => ?_)
  replace h := o_nm_at ex3_11 h
  refine lv_istore_n (lv' := [(3, .int x3_11), (0, .ref (ad 33)), (1, .int x1), (2, .int x2)]) hx hb d_MT_fresh_11 rfl hl (by decide) rfl (fun ls hl => ?_)
  refine lv_aload_n hx hb d_MT_fresh_12 rfl (lv_at hl 1 rfl) ?_
  refine o_get (v := .ref (ad 35)) C in_MT hP 33 mw_33 rfl 1 (by decide) k_7_102 rfl rfl d_MT_fresh_13 ?_
  refine lv_iload_n hx hb d_MT_fresh_16 rfl (lv_at hl 0 rfl) ?_
  refine lv_iload_n hx hb d_MT_fresh_17 rfl (lv_at hl 3 rfl) ?_
  obtain ⟨g1, h⟩ := o_gd_some h
  refine o_iast (f := (MT_kind a0)) (w1 := (m_cw ad ca ky ty rt Ni Np No Nx Nf Na Nh Nq Nj (MT_mk (MT_text a0) (upd (MT_kind a0) x3_11.toNatClampNeg x2) (MT_place a0) (MT_many a0) (MT_parent a0) (MT_power a0) (MT_first a0) (MT_next a0) (MT_name a0) (MT_from a0) (MT_characters a0) (MT_digits a0) (MT_minus a0) ((MT_values a0) + (1:Int32)) (MT_letters a0) (MT_at a0) (MT_wrong a0) (MT_used a0) (MT_written a0) (MT_left a0)) M1)) C hP (hDD _ _ _ _ _ _ _ _ _ _ _ _) hS 35 33 mw_35 rfl g1 rfl d_MT_fresh_18 (fun H locs hP hS => ?_)
  refine lv_aload_n hx hb d_MT_fresh_19 rfl (lv_at hl 1 rfl) ?_
  refine o_get (v := .ref (ad 36)) C in_MT hP 33 mw_33 rfl 2 (by decide) k_7_104 rfl rfl d_MT_fresh_20 ?_
  refine lv_iload_n hx hb d_MT_fresh_23 rfl (lv_at hl 0 rfl) ?_
  refine lv_aload_n hx hb d_MT_fresh_24 rfl (lv_at hl 1 rfl) ?_
  refine o_get (v := .int (MT_at a0)) C in_MT hP 33 mw_33 rfl 15 (by decide) k_7_129 rfl rfl d_MT_fresh_25 ?_
  obtain ⟨g2, h⟩ := o_gd_some h
  refine o_iast (f := (MT_place a0)) (w1 := (m_cw ad ca ky ty rt Ni Np No Nx Nf Na Nh Nq Nj (MT_mk (MT_text a0) (upd (MT_kind a0) x3_11.toNatClampNeg x2) (upd (MT_place a0) x3_11.toNatClampNeg (MT_at a0)) (MT_many a0) (MT_parent a0) (MT_power a0) (MT_first a0) (MT_next a0) (MT_name a0) (MT_from a0) (MT_characters a0) (MT_digits a0) (MT_minus a0) ((MT_values a0) + (1:Int32)) (MT_letters a0) (MT_at a0) (MT_wrong a0) (MT_used a0) (MT_written a0) (MT_left a0)) M1)) C hP (hDD _ _ _ _ _ _ _ _ _ _ _ _) hS 36 34 mw_36 rfl g2 rfl d_MT_fresh_28 (fun H locs hP hS => ?_)
  refine lv_aload_n hx hb d_MT_fresh_29 rfl (lv_at hl 1 rfl) ?_
  refine o_get (v := .ref (ad 38)) C in_MT hP 33 mw_33 rfl 4 (by decide) k_7_108 rfl rfl d_MT_fresh_30 ?_
  refine lv_iload_n hx hb d_MT_fresh_33 rfl (lv_at hl 0 rfl) ?_
  refine lv_iload_n hx hb d_MT_fresh_34 rfl (lv_at hl 2 rfl) ?_
  obtain ⟨g3, h⟩ := o_gd_some h
  refine o_iast (f := (MT_parent a0)) (w1 := (m_cw ad ca ky ty rt Ni Np No Nx Nf Na Nh Nq Nj (MT_mk (MT_text a0) (upd (MT_kind a0) x3_11.toNatClampNeg x2) (upd (MT_place a0) x3_11.toNatClampNeg (MT_at a0)) (MT_many a0) (upd (MT_parent a0) x3_11.toNatClampNeg x1) (MT_power a0) (MT_first a0) (MT_next a0) (MT_name a0) (MT_from a0) (MT_characters a0) (MT_digits a0) (MT_minus a0) ((MT_values a0) + (1:Int32)) (MT_letters a0) (MT_at a0) (MT_wrong a0) (MT_used a0) (MT_written a0) (MT_left a0)) M1)) C hP (hDD _ _ _ _ _ _ _ _ _ _ _ _) hS 38 36 mw_38 rfl g3 rfl d_MT_fresh_35 (fun H locs hP hS => ?_)
  refine lv_aload_n hx hb d_MT_fresh_36 rfl (lv_at hl 1 rfl) ?_
  refine o_get (v := .ref (ad 37)) C in_MT hP 33 mw_33 rfl 3 (by decide) k_7_106 rfl rfl d_MT_fresh_37 ?_
  refine lv_iload_n hx hb d_MT_fresh_40 rfl (lv_at hl 0 rfl) ?_
  refine lv_iconst (v := (0:Int32)) hx hb d_MT_fresh_41 (by decide) ?_
  obtain ⟨g4, h⟩ := o_gd_some h
  refine o_iast (f := (MT_many a0)) (w1 := (m_cw ad ca ky ty rt Ni Np No Nx Nf Na Nh Nq Nj (MT_mk (MT_text a0) (upd (MT_kind a0) x3_11.toNatClampNeg x2) (upd (MT_place a0) x3_11.toNatClampNeg (MT_at a0)) (upd (MT_many a0) x3_11.toNatClampNeg (0:Int32)) (upd (MT_parent a0) x3_11.toNatClampNeg x1) (MT_power a0) (MT_first a0) (MT_next a0) (MT_name a0) (MT_from a0) (MT_characters a0) (MT_digits a0) (MT_minus a0) ((MT_values a0) + (1:Int32)) (MT_letters a0) (MT_at a0) (MT_wrong a0) (MT_used a0) (MT_written a0) (MT_left a0)) M1)) C hP (hDD _ _ _ _ _ _ _ _ _ _ _ _) hS 37 35 mw_37 rfl g4 rfl d_MT_fresh_42 (fun H locs hP hS => ?_)
  refine lv_aload_n hx hb d_MT_fresh_43 rfl (lv_at hl 1 rfl) ?_
  refine o_get (v := .ref (ad 39)) C in_MT hP 33 mw_33 rfl 5 (by decide) k_7_110 rfl rfl d_MT_fresh_44 ?_
  refine lv_iload_n hx hb d_MT_fresh_47 rfl (lv_at hl 0 rfl) ?_
  refine lv_iconst (v := (0:Int32)) hx hb d_MT_fresh_48 (by decide) ?_
  obtain ⟨g5, h⟩ := o_gd_some h
  refine o_iast (f := (MT_power a0)) (w1 := (m_cw ad ca ky ty rt Ni Np No Nx Nf Na Nh Nq Nj (MT_mk (MT_text a0) (upd (MT_kind a0) x3_11.toNatClampNeg x2) (upd (MT_place a0) x3_11.toNatClampNeg (MT_at a0)) (upd (MT_many a0) x3_11.toNatClampNeg (0:Int32)) (upd (MT_parent a0) x3_11.toNatClampNeg x1) (upd (MT_power a0) x3_11.toNatClampNeg (0:Int32)) (MT_first a0) (MT_next a0) (MT_name a0) (MT_from a0) (MT_characters a0) (MT_digits a0) (MT_minus a0) ((MT_values a0) + (1:Int32)) (MT_letters a0) (MT_at a0) (MT_wrong a0) (MT_used a0) (MT_written a0) (MT_left a0)) M1)) C hP (hDD _ _ _ _ _ _ _ _ _ _ _ _) hS 39 37 mw_39 rfl g5 rfl d_MT_fresh_49 (fun H locs hP hS => ?_)
  refine lv_aload_n hx hb d_MT_fresh_50 rfl (lv_at hl 1 rfl) ?_
  refine o_get (v := .ref (ad 40)) C in_MT hP 33 mw_33 rfl 6 (by decide) k_7_112 rfl rfl d_MT_fresh_51 ?_
  refine lv_iload_n hx hb d_MT_fresh_54 rfl (lv_at hl 0 rfl) ?_
  refine lv_iconst (v := (-1:Int32)) hx hb d_MT_fresh_55 (by decide) ?_
  obtain ⟨g6, h⟩ := o_gd_some h
  refine o_iast (f := (MT_first a0)) (w1 := (m_cw ad ca ky ty rt Ni Np No Nx Nf Na Nh Nq Nj (MT_mk (MT_text a0) (upd (MT_kind a0) x3_11.toNatClampNeg x2) (upd (MT_place a0) x3_11.toNatClampNeg (MT_at a0)) (upd (MT_many a0) x3_11.toNatClampNeg (0:Int32)) (upd (MT_parent a0) x3_11.toNatClampNeg x1) (upd (MT_power a0) x3_11.toNatClampNeg (0:Int32)) (upd (MT_first a0) x3_11.toNatClampNeg (-1:Int32)) (MT_next a0) (MT_name a0) (MT_from a0) (MT_characters a0) (MT_digits a0) (MT_minus a0) ((MT_values a0) + (1:Int32)) (MT_letters a0) (MT_at a0) (MT_wrong a0) (MT_used a0) (MT_written a0) (MT_left a0)) M1)) C hP (hDD _ _ _ _ _ _ _ _ _ _ _ _) hS 40 38 mw_40 rfl g6 rfl d_MT_fresh_56 (fun H locs hP hS => ?_)
  refine lv_aload_n hx hb d_MT_fresh_57 rfl (lv_at hl 1 rfl) ?_
  refine o_get (v := .ref (ad 41)) C in_MT hP 33 mw_33 rfl 7 (by decide) k_7_114 rfl rfl d_MT_fresh_58 ?_
  refine lv_iload_n hx hb d_MT_fresh_61 rfl (lv_at hl 0 rfl) ?_
  refine lv_iconst (v := (-1:Int32)) hx hb d_MT_fresh_62 (by decide) ?_
  obtain ⟨g7, h⟩ := o_gd_some h
  refine o_iast (f := (MT_next a0)) (w1 := (m_cw ad ca ky ty rt Ni Np No Nx Nf Na Nh Nq Nj (MT_mk (MT_text a0) (upd (MT_kind a0) x3_11.toNatClampNeg x2) (upd (MT_place a0) x3_11.toNatClampNeg (MT_at a0)) (upd (MT_many a0) x3_11.toNatClampNeg (0:Int32)) (upd (MT_parent a0) x3_11.toNatClampNeg x1) (upd (MT_power a0) x3_11.toNatClampNeg (0:Int32)) (upd (MT_first a0) x3_11.toNatClampNeg (-1:Int32)) (upd (MT_next a0) x3_11.toNatClampNeg (-1:Int32)) (MT_name a0) (MT_from a0) (MT_characters a0) (MT_digits a0) (MT_minus a0) ((MT_values a0) + (1:Int32)) (MT_letters a0) (MT_at a0) (MT_wrong a0) (MT_used a0) (MT_written a0) (MT_left a0)) M1)) C hP (hDD _ _ _ _ _ _ _ _ _ _ _ _) hS 41 39 mw_41 rfl g7 rfl d_MT_fresh_63 (fun H locs hP hS => ?_)
  refine lv_aload_n hx hb d_MT_fresh_64 rfl (lv_at hl 1 rfl) ?_
  refine o_get (v := .ref (ad 42)) C in_MT hP 33 mw_33 rfl 8 (by decide) k_7_116 rfl rfl d_MT_fresh_65 ?_
  refine lv_iload_n hx hb d_MT_fresh_68 rfl (lv_at hl 0 rfl) ?_
  refine lv_iconst (v := (-1:Int32)) hx hb d_MT_fresh_69 (by decide) ?_
  obtain ⟨g8, h⟩ := o_gd_some h
  refine o_iast (f := (MT_name a0)) (w1 := (m_cw ad ca ky ty rt Ni Np No Nx Nf Na Nh Nq Nj (MT_mk (MT_text a0) (upd (MT_kind a0) x3_11.toNatClampNeg x2) (upd (MT_place a0) x3_11.toNatClampNeg (MT_at a0)) (upd (MT_many a0) x3_11.toNatClampNeg (0:Int32)) (upd (MT_parent a0) x3_11.toNatClampNeg x1) (upd (MT_power a0) x3_11.toNatClampNeg (0:Int32)) (upd (MT_first a0) x3_11.toNatClampNeg (-1:Int32)) (upd (MT_next a0) x3_11.toNatClampNeg (-1:Int32)) (upd (MT_name a0) x3_11.toNatClampNeg (-1:Int32)) (MT_from a0) (MT_characters a0) (MT_digits a0) (MT_minus a0) ((MT_values a0) + (1:Int32)) (MT_letters a0) (MT_at a0) (MT_wrong a0) (MT_used a0) (MT_written a0) (MT_left a0)) M1)) C hP (hDD _ _ _ _ _ _ _ _ _ _ _ _) hS 42 40 mw_42 rfl g8 rfl d_MT_fresh_70 (fun H locs hP hS => ?_)
  refine lv_iload_n hx hb d_MT_fresh_71 rfl (lv_at hl 0 rfl) ?_
  cases h
  exact o_ri C hP hS d_MT_fresh_72
set_option maxHeartbeats 4000000 in
set_option maxRecDepth 100000 in
theorem e_MT_fresh_b {E : (Nat → Prop) → State → Heap → Prop} {D : va_G} {ad kd sd vd xd : Nat → Nat} {ca : Nat → ClassId} {ky ty : Nat → Option Nat} (hE : o_EK E kd sd vd xd) (hKy : m_KY ky ty sd) (l : Launch) (x1 : Int32) (x2 : Int32) (a0 : SMT) (Ni : SNI) (Np : SNP) (No : SNO) (Nx : SNX) (Nf : SNF) (Na : SNA) (Nh : SNH) (Nq : SNQ) (Nj : SNJ) (M0 : SMT) (rt : Nat) {r : Int32 × SMT} (h : m_MT_fresh x1 x2 a0 = some r) : o_Cn E l D m_cls (m_tys ca) y_MT_fresh cc_MT_fresh rm_MT_fresh [.ref (ad 48), .int x1, .int x2] (m_cw ad ca ky ty rt Ni Np No Nx Nf Na Nh Nq Nj M0 a0) (m_cw ad ca ky ty rt Ni Np No Nx Nf Na Nh Nq Nj M0 r.2) (some (.int r.1)) := by
  refine o_Cn_of (by decide) (Nat.le_of_ble_eq_true rfl) ?_
  intro p e s m below meth c A ls C hD hP hS hl
  have hDD : ∀ (rt : Nat) (Ni : SNI) (Np : SNP) (No : SNO) (Nx : SNX) (Nf : SNF) (Na : SNA) (Nh : SNH) (Nq : SNQ) (Nj : SNJ) (M0 : SMT) (M1 : SMT), va_D A (m_cw ad ca ky ty rt Ni Np No Nx Nf Na Nh Nq Nj M0 M1) := fun _ _ _ _ _ _ _ _ _ _ _ _ => o_D_map hD rfl
  have hl : lv_has ls 4 [(0, .ref (ad 48)), (1, .int x1), (2, .int x2)] := hl
  unfold m_MT_fresh at h
  have C0 := C
  obtain ⟨hx, hb, -, -, -, hown, hts, hK, -, -⟩ := C0
  refine lv_aload_n hx hb d_MT_fresh_0 rfl (lv_at hl 0 rfl) ?_
  refine lv_dup hx hb d_MT_fresh_1 rfl ?_
  refine o_get (v := .int (MT_values a0)) C in_MT hP 48 mw_48 rfl 13 (by decide) k_7_126 rfl rfl d_MT_fresh_2 ?_
  refine lv_dup_x1 hx hb d_MT_fresh_5 rfl rfl ?_
  refine lv_iconst (v := (1:Int32)) hx hb d_MT_fresh_6 (by decide) ?_
  refine lv_iadd hx hb d_MT_fresh_7 ?_
  refine o_put (v := .int ((MT_values a0) + (1:Int32))) (ty := .int) (w1 := (m_cw ad ca ky ty rt Ni Np No Nx Nf Na Nh Nq Nj M0 (MT_mk (MT_text a0) (MT_kind a0) (MT_place a0) (MT_many a0) (MT_parent a0) (MT_power a0) (MT_first a0) (MT_next a0) (MT_name a0) (MT_from a0) (MT_characters a0) (MT_digits a0) (MT_minus a0) ((MT_values a0) + (1:Int32)) (MT_letters a0) (MT_at a0) (MT_wrong a0) (MT_used a0) (MT_written a0) (MT_left a0)))) C in_MT t_MT t_MT_ok n_MT hP (hDD _ _ _ _ _ _ _ _ _ _ _ _) hS 48 mw_48 rfl 13 (by decide) k_7_126 rfl rfl (by decide +kernel) rfl rfl (Nat.le_of_ble_eq_true rfl) rfl d_MT_fresh_8 (fun H locs hP hS => ?_)
  refine lv_topi (fun x3_11 ex3_11 => ?_)
  replace h := o_nm_at ex3_11 h
  refine lv_istore_n (lv' := [(3, .int x3_11), (0, .ref (ad 48)), (1, .int x1), (2, .int x2)]) hx hb d_MT_fresh_11 rfl hl (by decide) rfl (fun ls hl => ?_)
  refine lv_aload_n hx hb d_MT_fresh_12 rfl (lv_at hl 1 rfl) ?_
  refine o_get (v := .ref (ad 50)) C in_MT hP 48 mw_48 rfl 1 (by decide) k_7_102 rfl rfl d_MT_fresh_13 ?_
  refine lv_iload_n hx hb d_MT_fresh_16 rfl (lv_at hl 0 rfl) ?_
  refine lv_iload_n hx hb d_MT_fresh_17 rfl (lv_at hl 3 rfl) ?_
  obtain ⟨g1, h⟩ := o_gd_some h
  refine o_iast (f := (MT_kind a0)) (w1 := (m_cw ad ca ky ty rt Ni Np No Nx Nf Na Nh Nq Nj M0 (MT_mk (MT_text a0) (upd (MT_kind a0) x3_11.toNatClampNeg x2) (MT_place a0) (MT_many a0) (MT_parent a0) (MT_power a0) (MT_first a0) (MT_next a0) (MT_name a0) (MT_from a0) (MT_characters a0) (MT_digits a0) (MT_minus a0) ((MT_values a0) + (1:Int32)) (MT_letters a0) (MT_at a0) (MT_wrong a0) (MT_used a0) (MT_written a0) (MT_left a0)))) C hP (hDD _ _ _ _ _ _ _ _ _ _ _ _) hS 50 47 mw_50 rfl g1 rfl d_MT_fresh_18 (fun H locs hP hS => ?_)
  refine lv_aload_n hx hb d_MT_fresh_19 rfl (lv_at hl 1 rfl) ?_
  refine o_get (v := .ref (ad 51)) C in_MT hP 48 mw_48 rfl 2 (by decide) k_7_104 rfl rfl d_MT_fresh_20 ?_
  refine lv_iload_n hx hb d_MT_fresh_23 rfl (lv_at hl 0 rfl) ?_
  refine lv_aload_n hx hb d_MT_fresh_24 rfl (lv_at hl 1 rfl) ?_
  refine o_get (v := .int (MT_at a0)) C in_MT hP 48 mw_48 rfl 15 (by decide) k_7_129 rfl rfl d_MT_fresh_25 ?_
  obtain ⟨g2, h⟩ := o_gd_some h
  refine o_iast (f := (MT_place a0)) (w1 := (m_cw ad ca ky ty rt Ni Np No Nx Nf Na Nh Nq Nj M0 (MT_mk (MT_text a0) (upd (MT_kind a0) x3_11.toNatClampNeg x2) (upd (MT_place a0) x3_11.toNatClampNeg (MT_at a0)) (MT_many a0) (MT_parent a0) (MT_power a0) (MT_first a0) (MT_next a0) (MT_name a0) (MT_from a0) (MT_characters a0) (MT_digits a0) (MT_minus a0) ((MT_values a0) + (1:Int32)) (MT_letters a0) (MT_at a0) (MT_wrong a0) (MT_used a0) (MT_written a0) (MT_left a0)))) C hP (hDD _ _ _ _ _ _ _ _ _ _ _ _) hS 51 48 mw_51 rfl g2 rfl d_MT_fresh_28 (fun H locs hP hS => ?_)
  refine lv_aload_n hx hb d_MT_fresh_29 rfl (lv_at hl 1 rfl) ?_
  refine o_get (v := .ref (ad 53)) C in_MT hP 48 mw_48 rfl 4 (by decide) k_7_108 rfl rfl d_MT_fresh_30 ?_
  refine lv_iload_n hx hb d_MT_fresh_33 rfl (lv_at hl 0 rfl) ?_
  refine lv_iload_n hx hb d_MT_fresh_34 rfl (lv_at hl 2 rfl) ?_
  obtain ⟨g3, h⟩ := o_gd_some h
  refine o_iast (f := (MT_parent a0)) (w1 := (m_cw ad ca ky ty rt Ni Np No Nx Nf Na Nh Nq Nj M0 (MT_mk (MT_text a0) (upd (MT_kind a0) x3_11.toNatClampNeg x2) (upd (MT_place a0) x3_11.toNatClampNeg (MT_at a0)) (MT_many a0) (upd (MT_parent a0) x3_11.toNatClampNeg x1) (MT_power a0) (MT_first a0) (MT_next a0) (MT_name a0) (MT_from a0) (MT_characters a0) (MT_digits a0) (MT_minus a0) ((MT_values a0) + (1:Int32)) (MT_letters a0) (MT_at a0) (MT_wrong a0) (MT_used a0) (MT_written a0) (MT_left a0)))) C hP (hDD _ _ _ _ _ _ _ _ _ _ _ _) hS 53 50 mw_53 rfl g3 rfl d_MT_fresh_35 (fun H locs hP hS => ?_)
  refine lv_aload_n hx hb d_MT_fresh_36 rfl (lv_at hl 1 rfl) ?_
  refine o_get (v := .ref (ad 52)) C in_MT hP 48 mw_48 rfl 3 (by decide) k_7_106 rfl rfl d_MT_fresh_37 ?_
  refine lv_iload_n hx hb d_MT_fresh_40 rfl (lv_at hl 0 rfl) ?_
  refine lv_iconst (v := (0:Int32)) hx hb d_MT_fresh_41 (by decide) ?_
  obtain ⟨g4, h⟩ := o_gd_some h
  refine o_iast (f := (MT_many a0)) (w1 := (m_cw ad ca ky ty rt Ni Np No Nx Nf Na Nh Nq Nj M0 (MT_mk (MT_text a0) (upd (MT_kind a0) x3_11.toNatClampNeg x2) (upd (MT_place a0) x3_11.toNatClampNeg (MT_at a0)) (upd (MT_many a0) x3_11.toNatClampNeg (0:Int32)) (upd (MT_parent a0) x3_11.toNatClampNeg x1) (MT_power a0) (MT_first a0) (MT_next a0) (MT_name a0) (MT_from a0) (MT_characters a0) (MT_digits a0) (MT_minus a0) ((MT_values a0) + (1:Int32)) (MT_letters a0) (MT_at a0) (MT_wrong a0) (MT_used a0) (MT_written a0) (MT_left a0)))) C hP (hDD _ _ _ _ _ _ _ _ _ _ _ _) hS 52 49 mw_52 rfl g4 rfl d_MT_fresh_42 (fun H locs hP hS => ?_)
  refine lv_aload_n hx hb d_MT_fresh_43 rfl (lv_at hl 1 rfl) ?_
  refine o_get (v := .ref (ad 54)) C in_MT hP 48 mw_48 rfl 5 (by decide) k_7_110 rfl rfl d_MT_fresh_44 ?_
  refine lv_iload_n hx hb d_MT_fresh_47 rfl (lv_at hl 0 rfl) ?_
  refine lv_iconst (v := (0:Int32)) hx hb d_MT_fresh_48 (by decide) ?_
  obtain ⟨g5, h⟩ := o_gd_some h
  refine o_iast (f := (MT_power a0)) (w1 := (m_cw ad ca ky ty rt Ni Np No Nx Nf Na Nh Nq Nj M0 (MT_mk (MT_text a0) (upd (MT_kind a0) x3_11.toNatClampNeg x2) (upd (MT_place a0) x3_11.toNatClampNeg (MT_at a0)) (upd (MT_many a0) x3_11.toNatClampNeg (0:Int32)) (upd (MT_parent a0) x3_11.toNatClampNeg x1) (upd (MT_power a0) x3_11.toNatClampNeg (0:Int32)) (MT_first a0) (MT_next a0) (MT_name a0) (MT_from a0) (MT_characters a0) (MT_digits a0) (MT_minus a0) ((MT_values a0) + (1:Int32)) (MT_letters a0) (MT_at a0) (MT_wrong a0) (MT_used a0) (MT_written a0) (MT_left a0)))) C hP (hDD _ _ _ _ _ _ _ _ _ _ _ _) hS 54 51 mw_54 rfl g5 rfl d_MT_fresh_49 (fun H locs hP hS => ?_)
  refine lv_aload_n hx hb d_MT_fresh_50 rfl (lv_at hl 1 rfl) ?_
  refine o_get (v := .ref (ad 55)) C in_MT hP 48 mw_48 rfl 6 (by decide) k_7_112 rfl rfl d_MT_fresh_51 ?_
  refine lv_iload_n hx hb d_MT_fresh_54 rfl (lv_at hl 0 rfl) ?_
  refine lv_iconst (v := (-1:Int32)) hx hb d_MT_fresh_55 (by decide) ?_
  obtain ⟨g6, h⟩ := o_gd_some h
  refine o_iast (f := (MT_first a0)) (w1 := (m_cw ad ca ky ty rt Ni Np No Nx Nf Na Nh Nq Nj M0 (MT_mk (MT_text a0) (upd (MT_kind a0) x3_11.toNatClampNeg x2) (upd (MT_place a0) x3_11.toNatClampNeg (MT_at a0)) (upd (MT_many a0) x3_11.toNatClampNeg (0:Int32)) (upd (MT_parent a0) x3_11.toNatClampNeg x1) (upd (MT_power a0) x3_11.toNatClampNeg (0:Int32)) (upd (MT_first a0) x3_11.toNatClampNeg (-1:Int32)) (MT_next a0) (MT_name a0) (MT_from a0) (MT_characters a0) (MT_digits a0) (MT_minus a0) ((MT_values a0) + (1:Int32)) (MT_letters a0) (MT_at a0) (MT_wrong a0) (MT_used a0) (MT_written a0) (MT_left a0)))) C hP (hDD _ _ _ _ _ _ _ _ _ _ _ _) hS 55 52 mw_55 rfl g6 rfl d_MT_fresh_56 (fun H locs hP hS => ?_)
  refine lv_aload_n hx hb d_MT_fresh_57 rfl (lv_at hl 1 rfl) ?_
  refine o_get (v := .ref (ad 56)) C in_MT hP 48 mw_48 rfl 7 (by decide) k_7_114 rfl rfl d_MT_fresh_58 ?_
  refine lv_iload_n hx hb d_MT_fresh_61 rfl (lv_at hl 0 rfl) ?_
  refine lv_iconst (v := (-1:Int32)) hx hb d_MT_fresh_62 (by decide) ?_
  obtain ⟨g7, h⟩ := o_gd_some h
  refine o_iast (f := (MT_next a0)) (w1 := (m_cw ad ca ky ty rt Ni Np No Nx Nf Na Nh Nq Nj M0 (MT_mk (MT_text a0) (upd (MT_kind a0) x3_11.toNatClampNeg x2) (upd (MT_place a0) x3_11.toNatClampNeg (MT_at a0)) (upd (MT_many a0) x3_11.toNatClampNeg (0:Int32)) (upd (MT_parent a0) x3_11.toNatClampNeg x1) (upd (MT_power a0) x3_11.toNatClampNeg (0:Int32)) (upd (MT_first a0) x3_11.toNatClampNeg (-1:Int32)) (upd (MT_next a0) x3_11.toNatClampNeg (-1:Int32)) (MT_name a0) (MT_from a0) (MT_characters a0) (MT_digits a0) (MT_minus a0) ((MT_values a0) + (1:Int32)) (MT_letters a0) (MT_at a0) (MT_wrong a0) (MT_used a0) (MT_written a0) (MT_left a0)))) C hP (hDD _ _ _ _ _ _ _ _ _ _ _ _) hS 56 53 mw_56 rfl g7 rfl d_MT_fresh_63 (fun H locs hP hS => ?_)
  refine lv_aload_n hx hb d_MT_fresh_64 rfl (lv_at hl 1 rfl) ?_
  refine o_get (v := .ref (ad 57)) C in_MT hP 48 mw_48 rfl 8 (by decide) k_7_116 rfl rfl d_MT_fresh_65 ?_
  refine lv_iload_n hx hb d_MT_fresh_68 rfl (lv_at hl 0 rfl) ?_
  refine lv_iconst (v := (-1:Int32)) hx hb d_MT_fresh_69 (by decide) ?_
  obtain ⟨g8, h⟩ := o_gd_some h
  refine o_iast (f := (MT_name a0)) (w1 := (m_cw ad ca ky ty rt Ni Np No Nx Nf Na Nh Nq Nj M0 (MT_mk (MT_text a0) (upd (MT_kind a0) x3_11.toNatClampNeg x2) (upd (MT_place a0) x3_11.toNatClampNeg (MT_at a0)) (upd (MT_many a0) x3_11.toNatClampNeg (0:Int32)) (upd (MT_parent a0) x3_11.toNatClampNeg x1) (upd (MT_power a0) x3_11.toNatClampNeg (0:Int32)) (upd (MT_first a0) x3_11.toNatClampNeg (-1:Int32)) (upd (MT_next a0) x3_11.toNatClampNeg (-1:Int32)) (upd (MT_name a0) x3_11.toNatClampNeg (-1:Int32)) (MT_from a0) (MT_characters a0) (MT_digits a0) (MT_minus a0) ((MT_values a0) + (1:Int32)) (MT_letters a0) (MT_at a0) (MT_wrong a0) (MT_used a0) (MT_written a0) (MT_left a0)))) C hP (hDD _ _ _ _ _ _ _ _ _ _ _ _) hS 57 54 mw_57 rfl g8 rfl d_MT_fresh_70 (fun H locs hP hS => ?_)
  refine lv_iload_n hx hb d_MT_fresh_71 rfl (lv_at hl 0 rfl) ?_
  cases h
  exact o_ri C hP hS d_MT_fresh_72
set_option maxHeartbeats 4000000 in
set_option maxRecDepth 100000 in
theorem e_JS_coder {E : (Nat → Prop) → State → Heap → Prop} {D : va_G} {ad kd sd vd xd : Nat → Nat} {ca : Nat → ClassId} {ky ty : Nat → Option Nat} (hE : o_EK E kd sd vd xd) (hKy : m_KY ky ty sd) (l : Launch) (x0 : Nat) (gx0 : o_sb x0 = true) (Ni : SNI) (Np : SNP) (No : SNO) (Nx : SNX) (Nf : SNF) (Na : SNA) (Nh : SNH) (Nq : SNQ) (Nj : SNJ) (M0 : SMT) (M1 : SMT) (rt : Nat) {r : Int32} (h : m_JS_coder x0 = some r) : o_Cn E l D m_cls (m_tys ca) y_JS_coder cc_JS_coder rm_JS_coder [.ref (sd x0)] (m_cw ad ca ky ty rt Ni Np No Nx Nf Na Nh Nq Nj M0 M1) (m_cw ad ca ky ty rt Ni Np No Nx Nf Na Nh Nq Nj M0 M1) (some (.int r)) := by
  refine o_Cn_of (by decide) (Nat.le_of_ble_eq_true rfl) ?_
  intro p e s m below meth c A ls C hD hP hS hl
  have hDD : ∀ (rt : Nat) (Ni : SNI) (Np : SNP) (No : SNO) (Nx : SNX) (Nf : SNF) (Na : SNA) (Nh : SNH) (Nq : SNQ) (Nj : SNJ) (M0 : SMT) (M1 : SMT), va_D A (m_cw ad ca ky ty rt Ni Np No Nx Nf Na Nh Nq Nj M0 M1) := fun _ _ _ _ _ _ _ _ _ _ _ _ => o_D_map hD rfl
  have hl : lv_has ls 1 [(0, .ref (sd x0))] := hl
  unfold m_JS_coder at h
  have C0 := C
  obtain ⟨hx, hb, -, -, -, hown, hts, hK, -, -⟩ := C0
  refine va_gets (v := .int (1:Int32)) hx hb (hE.2.2.2.2.2.2.2.2.1 _ _ _ C.2.2.2.2.2.2.2.2.2) hS hown (hts _ k_3_69) (fun _ h9 => h9) d_JS_coder_0 ?_
  refine lv_if_eq (tgt := 13) hx hb d_JS_coder_3 (by decide) (fun c1 => ?_) (fun c1 => ?_)
  · replace h := o_tt c1 h
    refine lv_iconst (v := (1:Int32)) hx hb d_JS_coder_13 (by decide) ?_
    obtain ⟨g2, h⟩ := o_gd_some h
    cases h
    exact o_rn (v := (1:Int32)) C (o_nr_narB g2) hP hS d_JS_coder_14
  · replace h := o_ff c1 h
    refine lv_aload_n hx hb d_JS_coder_6 rfl (lv_at hl 0 rfl) ?_
    refine vk_getf (v := .int (0:Int32)) hx hb (o_sc hE C gx0) hS hown (hts _ k_10_102) (fun _ h9 => h9) d_JS_coder_7 ?_
    refine lv_goto (tgt := 14) hx hb d_JS_coder_10 (by decide) ?_
    obtain ⟨g3, h⟩ := o_gd_some h
    cases h
    exact o_rn (v := (0:Int32)) C (o_nr_narB g3) hP hS d_JS_coder_14
set_option maxHeartbeats 4000000 in
set_option maxRecDepth 100000 in
theorem e_JS_length {E : (Nat → Prop) → State → Heap → Prop} {D : va_G} {ad kd sd vd xd : Nat → Nat} {ca : Nat → ClassId} {ky ty : Nat → Option Nat} (hE : o_EK E kd sd vd xd) (hKy : m_KY ky ty sd) (l : Launch) (x0 : Nat) (gx0 : o_sb x0 = true) (Ni : SNI) (Np : SNP) (No : SNO) (Nx : SNX) (Nf : SNF) (Na : SNA) (Nh : SNH) (Nq : SNQ) (Nj : SNJ) (M0 : SMT) (M1 : SMT) (rt : Nat) {r : Int32} (h : m_JS_length x0 = some r) : o_Cn E l D m_cls (m_tys ca) y_JS_length cc_JS_length rm_JS_length [.ref (sd x0)] (m_cw ad ca ky ty rt Ni Np No Nx Nf Na Nh Nq Nj M0 M1) (m_cw ad ca ky ty rt Ni Np No Nx Nf Na Nh Nq Nj M0 M1) (some (.int r)) := by
  refine o_Cn_of (by decide) (Nat.le_of_ble_eq_true rfl) ?_
  intro p e s m below meth c A ls C hD hP hS hl
  have hDD : ∀ (rt : Nat) (Ni : SNI) (Np : SNP) (No : SNO) (Nx : SNX) (Nf : SNF) (Na : SNA) (Nh : SNH) (Nq : SNQ) (Nj : SNJ) (M0 : SMT) (M1 : SMT), va_D A (m_cw ad ca ky ty rt Ni Np No Nx Nf Na Nh Nq Nj M0 M1) := fun _ _ _ _ _ _ _ _ _ _ _ _ => o_D_map hD rfl
  have hl : lv_has ls 1 [(0, .ref (sd x0))] := hl
  unfold m_JS_length at h
  have C0 := C
  obtain ⟨hx, hb, -, -, -, hown, hts, hK, -, -⟩ := C0
  refine lv_aload_n hx hb d_JS_length_0 rfl (lv_at hl 0 rfl) ?_
  refine vk_getf (v := .ref (vd x0)) hx hb (o_sv hE C gx0) hS hown (hts _ k_10_101) (fun _ h9 => h9) d_JS_length_1 ?_
  refine va_tlen (v := (o_sl x0)) hx hb (o_sT hE C gx0) hS rfl d_JS_length_4 ?_
  refine lv_aload_n hx hb d_JS_length_5 rfl (lv_at hl 0 rfl) ?_
  obtain ⟨q1, hq1, h⟩ := o_bd_some h
  refine o_VR (K := "java/lang/String") (st1 := [.int q1, .int (o_sl x0)]) (w1 := (m_cw ad ca ky ty rt Ni Np No Nx Nf Na Nh Nq Nj M0 M1)) hE.1 C (e_JS_coder hE hKy l x0 gx0 Ni Np No Nx Nf Na Nh Nq Nj M0 M1 rt hq1) hP (hDD _ _ _ _ _ _ _ _ _ _ _ _) hS hl.1 (o_rs hE C gx0 hS) k_3_65 k_3_66 k_3_67 k_1_18 k_3_68 hv_JS_coder rfl rfl ⟨(Nat.le_of_ble_eq_true rfl), (Nat.le_of_ble_eq_true rfl)⟩ rfl (Nat.le_of_ble_eq_true rfl) ⟨Nat.zero_le _, Nat.zero_le _⟩ rfl d_JS_length_6 (fun H locs hP hS => ?_)
  refine lv_ishr hx hb d_JS_length_9 ?_
  cases h
  exact o_ri (v := ((o_sl x0) >>> (q1 &&& 31))) C hP hS d_JS_length_10
set_option maxHeartbeats 4000000 in
set_option maxRecDepth 100000 in
theorem e_JS_isLatin1 {E : (Nat → Prop) → State → Heap → Prop} {D : va_G} {ad kd sd vd xd : Nat → Nat} {ca : Nat → ClassId} {ky ty : Nat → Option Nat} (hE : o_EK E kd sd vd xd) (hKy : m_KY ky ty sd) (l : Launch) (x0 : Nat) (gx0 : o_sb x0 = true) (Ni : SNI) (Np : SNP) (No : SNO) (Nx : SNX) (Nf : SNF) (Na : SNA) (Nh : SNH) (Nq : SNQ) (Nj : SNJ) (M0 : SMT) (M1 : SMT) (rt : Nat) {r : Int32} (h : m_JS_isLatin1 x0 = some r) : o_Cn E l D m_cls (m_tys ca) y_JS_isLatin1 cc_JS_isLatin1 rm_JS_isLatin1 [.ref (sd x0)] (m_cw ad ca ky ty rt Ni Np No Nx Nf Na Nh Nq Nj M0 M1) (m_cw ad ca ky ty rt Ni Np No Nx Nf Na Nh Nq Nj M0 M1) (some (.int r)) := by
  refine o_Cn_of (by decide) (Nat.le_of_ble_eq_true rfl) ?_
  intro p e s m below meth c A ls C hD hP hS hl
  have hDD : ∀ (rt : Nat) (Ni : SNI) (Np : SNP) (No : SNO) (Nx : SNX) (Nf : SNF) (Na : SNA) (Nh : SNH) (Nq : SNQ) (Nj : SNJ) (M0 : SMT) (M1 : SMT), va_D A (m_cw ad ca ky ty rt Ni Np No Nx Nf Na Nh Nq Nj M0 M1) := fun _ _ _ _ _ _ _ _ _ _ _ _ => o_D_map hD rfl
  have hl : lv_has ls 1 [(0, .ref (sd x0))] := hl
  unfold m_JS_isLatin1 at h
  have C0 := C
  obtain ⟨hx, hb, -, -, -, hown, hts, hK, -, -⟩ := C0
  refine va_gets (v := .int (1:Int32)) hx hb (hE.2.2.2.2.2.2.2.2.1 _ _ _ C.2.2.2.2.2.2.2.2.2) hS hown (hts _ k_3_69) (fun _ h9 => h9) d_JS_isLatin1_0 ?_
  refine lv_if_eq (tgt := 17) hx hb d_JS_isLatin1_3 (by decide) (fun c1 => ?_) (fun c1 => ?_)
  · replace h := o_tt c1 h
    refine lv_iconst (v := (0:Int32)) hx hb d_JS_isLatin1_17 (by decide) ?_
    cases h
    exact o_rz (v := (0:Int32)) C o_nar0 hP hS d_JS_isLatin1_18
  · replace h := o_ff c1 h
    refine lv_aload_n hx hb d_JS_isLatin1_6 rfl (lv_at hl 0 rfl) ?_
    refine vk_getf (v := .int (0:Int32)) hx hb (o_sc hE C gx0) hS hown (hts _ k_10_102) (fun _ h9 => h9) d_JS_isLatin1_7 ?_
    refine lv_if_ne (tgt := 17) hx hb d_JS_isLatin1_10 (by decide) (fun c2 => ?_) (fun c2 => ?_)
    · replace h := o_ff c2 h
      refine lv_iconst (v := (0:Int32)) hx hb d_JS_isLatin1_17 (by decide) ?_
      cases h
      exact o_rz (v := (0:Int32)) C o_nar0 hP hS d_JS_isLatin1_18
    · replace h := o_tt c2 h
      refine lv_iconst (v := (1:Int32)) hx hb d_JS_isLatin1_13 (by decide) ?_
      refine lv_goto (tgt := 18) hx hb d_JS_isLatin1_14 (by decide) ?_
      cases h
      exact o_rz (v := (1:Int32)) C o_nar1 hP hS d_JS_isLatin1_18
set_option maxHeartbeats 4000000 in
set_option maxRecDepth 100000 in
theorem e_JL_charAt {E : (Nat → Prop) → State → Heap → Prop} {D : va_G} {ad kd sd vd xd : Nat → Nat} {ca : Nat → ClassId} {ky ty : Nat → Option Nat} (hE : o_EK E kd sd vd xd) (hKy : m_KY ky ty sd) (l : Launch) (x0 : Nat) (gx0 : o_sb x0 = true) (x1 : Int32) (Ni : SNI) (Np : SNP) (No : SNO) (Nx : SNX) (Nf : SNF) (Na : SNA) (Nh : SNH) (Nq : SNQ) (Nj : SNJ) (M0 : SMT) (M1 : SMT) (rt : Nat) {r : Int32} (h : m_JL_charAt x0 x1 = some r) : o_Cn E l D m_cls (m_tys ca) y_JL_charAt cc_JL_charAt rm_JL_charAt [.ref (vd x0), .int x1] (m_cw ad ca ky ty rt Ni Np No Nx Nf Na Nh Nq Nj M0 M1) (m_cw ad ca ky ty rt Ni Np No Nx Nf Na Nh Nq Nj M0 M1) (some (.int r)) := by
  refine o_Cn_of (by decide) (Nat.le_of_ble_eq_true rfl) ?_
  intro p e s m below meth c A ls C hD hP hS hl
  have hDD : ∀ (rt : Nat) (Ni : SNI) (Np : SNP) (No : SNO) (Nx : SNX) (Nf : SNF) (Na : SNA) (Nh : SNH) (Nq : SNQ) (Nj : SNJ) (M0 : SMT) (M1 : SMT), va_D A (m_cw ad ca ky ty rt Ni Np No Nx Nf Na Nh Nq Nj M0 M1) := fun _ _ _ _ _ _ _ _ _ _ _ _ => o_D_map hD rfl
  have hl : lv_has ls 2 [(0, .ref (vd x0)), (1, .int x1)] := hl
  unfold m_JL_charAt at h
  have C0 := C
  obtain ⟨hx, hb, -, -, -, hown, hts, hK, -, -⟩ := C0
  refine lv_iload_n hx hb d_JL_charAt_0 rfl (lv_at hl 1 rfl) ?_
  refine lv_aload_n hx hb d_JL_charAt_1 rfl (lv_at hl 0 rfl) ?_
  refine va_tlen (v := (o_sl x0)) hx hb (o_sT hE C gx0) hS rfl d_JL_charAt_2 ?_
  obtain ⟨g1, h⟩ := o_gd_some h
  refine o_S (st1 := []) (w1 := (m_cw ad ca ky ty rt Ni Np No Nx Nf Na Nh Nq Nj M0 M1)) hE.1 C (c_JS_checkIndex hE l _ _ g1) hP (hDD _ _ _ _ _ _ _ _ _ _ _ _) hS hl.1 k_3_82 k_3_83 k_1_18 k_3_84 hs_JS_checkIndex rfl rfl ⟨(Nat.le_of_ble_eq_true rfl), (Nat.le_of_ble_eq_true rfl)⟩ rfl (Nat.le_of_ble_eq_true rfl) ⟨Nat.zero_le _, Nat.zero_le _⟩ rfl d_JL_charAt_3 (fun H locs hP hS => ?_)
  refine lv_aload_n hx hb d_JL_charAt_6 rfl (lv_at hl 0 rfl) ?_
  refine lv_iload_n hx hb d_JL_charAt_7 rfl (lv_at hl 1 rfl) ?_
  obtain ⟨g2, h⟩ := o_gd_some h
  refine va_tb (v := .int (o_sa x0 x1.toNatClampNeg)) hx hb (o_sT hE C gx0) hS (o_in_in g2) rfl d_JL_charAt_8 ?_
  refine lv_sipush (v := (255:Int32)) hx hb d_JL_charAt_9 (by decide) ?_
  refine lv_iand hx hb d_JL_charAt_12 ?_
  refine lv_i2c hx hb d_JL_charAt_13 rfl ?_
  obtain ⟨g3, h⟩ := o_gd_some h
  cases h
  exact o_rn (v := (((o_sa x0 x1.toNatClampNeg) &&& (255:Int32)).toUInt32 % 65536).toInt32) C (o_nr_narC g3) hP hS d_JL_charAt_14
set_option maxHeartbeats 4000000 in
set_option maxRecDepth 100000 in
theorem e_JS_charAt {E : (Nat → Prop) → State → Heap → Prop} {D : va_G} {ad kd sd vd xd : Nat → Nat} {ca : Nat → ClassId} {ky ty : Nat → Option Nat} (hE : o_EK E kd sd vd xd) (hKy : m_KY ky ty sd) (l : Launch) (x0 : Nat) (gx0 : o_sb x0 = true) (x1 : Int32) (Ni : SNI) (Np : SNP) (No : SNO) (Nx : SNX) (Nf : SNF) (Na : SNA) (Nh : SNH) (Nq : SNQ) (Nj : SNJ) (M0 : SMT) (M1 : SMT) (rt : Nat) {r : Int32} (h : m_JS_charAt x0 x1 = some r) : o_Cn E l D m_cls (m_tys ca) y_JS_charAt cc_JS_charAt rm_JS_charAt [.ref (sd x0), .int x1] (m_cw ad ca ky ty rt Ni Np No Nx Nf Na Nh Nq Nj M0 M1) (m_cw ad ca ky ty rt Ni Np No Nx Nf Na Nh Nq Nj M0 M1) (some (.int r)) := by
  refine o_Cn_of (by decide) (Nat.le_of_ble_eq_true rfl) ?_
  intro p e s m below meth c A ls C hD hP hS hl
  have hDD : ∀ (rt : Nat) (Ni : SNI) (Np : SNP) (No : SNO) (Nx : SNX) (Nf : SNF) (Na : SNA) (Nh : SNH) (Nq : SNQ) (Nj : SNJ) (M0 : SMT) (M1 : SMT), va_D A (m_cw ad ca ky ty rt Ni Np No Nx Nf Na Nh Nq Nj M0 M1) := fun _ _ _ _ _ _ _ _ _ _ _ _ => o_D_map hD rfl
  have hl : lv_has ls 2 [(0, .ref (sd x0)), (1, .int x1)] := hl
  unfold m_JS_charAt at h
  have C0 := C
  obtain ⟨hx, hb, -, -, -, hown, hts, hK, -, -⟩ := C0
  refine lv_aload_n hx hb d_JS_charAt_0 rfl (lv_at hl 0 rfl) ?_
  obtain ⟨q1, hq1, h⟩ := o_bd_some h
  refine o_VR (K := "java/lang/String") (st1 := [.int q1]) (w1 := (m_cw ad ca ky ty rt Ni Np No Nx Nf Na Nh Nq Nj M0 M1)) hE.1 C (e_JS_isLatin1 hE hKy l x0 gx0 Ni Np No Nx Nf Na Nh Nq Nj M0 M1 rt hq1) hP (hDD _ _ _ _ _ _ _ _ _ _ _ _) hS hl.1 (o_rs hE C gx0 hS) k_3_75 k_3_76 k_3_77 k_1_18 k_3_78 hv_JS_isLatin1 rfl rfl ⟨(Nat.le_of_ble_eq_true rfl), (Nat.le_of_ble_eq_true rfl)⟩ rfl (Nat.le_of_ble_eq_true rfl) ⟨Nat.zero_le _, Nat.zero_le _⟩ rfl d_JS_charAt_1 (fun H locs hP hS => ?_)
  refine lv_if_eq (tgt := 16) hx hb d_JS_charAt_4 (by decide) (fun c1 => ?_) (fun c1 => ?_)
  · replace h := o_tt c1 h
    refine lv_aload_n hx hb d_JS_charAt_16 rfl (lv_at hl 0 rfl) ?_
    refine vk_getf (v := .ref (vd x0)) hx hb (o_sv hE C gx0) hS hown (hts _ k_10_101) (fun _ h9 => h9) d_JS_charAt_17 ?_
    refine lv_iload_n hx hb d_JS_charAt_20 rfl (lv_at hl 1 rfl) ?_
    cases h
  · replace h := o_ff c1 h
    refine lv_aload_n hx hb d_JS_charAt_7 rfl (lv_at hl 0 rfl) ?_
    refine vk_getf (v := .ref (vd x0)) hx hb (o_sv hE C gx0) hS hown (hts _ k_10_101) (fun _ h9 => h9) d_JS_charAt_8 ?_
    refine lv_iload_n hx hb d_JS_charAt_11 rfl (lv_at hl 1 rfl) ?_
    obtain ⟨q2, hq2, h⟩ := o_bd_some h
    refine o_S (st1 := [.int q2]) (w1 := (m_cw ad ca ky ty rt Ni Np No Nx Nf Na Nh Nq Nj M0 M1)) hE.1 C (e_JL_charAt hE hKy l x0 gx0 x1 Ni Np No Nx Nf Na Nh Nq Nj M0 M1 rt hq2) hP (hDD _ _ _ _ _ _ _ _ _ _ _ _) hS hl.1 k_3_79 k_3_80 k_1_19 k_3_81 hs_JL_charAt rfl rfl ⟨(Nat.le_of_ble_eq_true rfl), (Nat.le_of_ble_eq_true rfl)⟩ rfl (Nat.le_of_ble_eq_true rfl) ⟨Nat.zero_le _, Nat.zero_le _⟩ rfl d_JS_charAt_12 (fun H locs hP hS => ?_)
    obtain ⟨g2, h⟩ := o_gd_some h
    cases h
    exact o_rn C (o_nr_narC g2) hP hS d_JS_charAt_15
set_option maxHeartbeats 4000000 in
set_option maxRecDepth 100000 in
theorem f_MT_word_b10_a {E : (Nat → Prop) → State → Heap → Prop} {p : Program} {l : Launch} {e : Env} {s : State} {m : MethodId} {args : Array Value} {below : List Frame} {meth : Method} {c : Code} {D : va_G} {ad kd sd vd xd : Nat → Nat} {ca : Nat → ClassId} {A : Nat → Prop} {ky ty : Nat → Option Nat} {Q : State → Prop} (hE : o_EK E kd sd vd xd) (hKy : m_KY ky ty sd) (C : o_Cx E p s m args meth c D m_cls (m_tys ca) "SchemaJudgeModel$Text" b_MT_word (some .boolean) 5 cc_MT_word A) (hDD : ∀ (rt : Nat) (Ni : SNI) (Np : SNP) (No : SNO) (Nx : SNX) (Nf : SNF) (Na : SNA) (Nh : SNH) (Nq : SNQ) (Nj : SNJ) (M0 : SMT) (M1 : SMT), va_D A (m_cw ad ca ky ty rt Ni Np No Nx Nf Na Nh Nq Nj M0 M1)) (n : Nat) (u10_x1 : Nat) (gu10_x1 : o_sb u10_x1 = true) (u10_Ni : SNI) (u10_Np : SNP) (u10_No : SNO) (u10_Nx : SNX) (u10_Nf : SNF) (u10_Na : SNA) (u10_Nh : SNH) (u10_Nq : SNQ) (u10_Nj : SNJ) (u10_M1 : SMT) (u10_rt : Nat) (z : Int32 × SMT) (q : Nat × Int32 × SMT) (h : m_MT_word_b10 n u10_x1 z = some q) (h0 : q.1 = 0 → o_At p l e rm_MT_word s m args below meth c Q m_cls D A 5 10 [] (m_cw ad ca ky ty u10_rt u10_Ni u10_Np u10_No u10_Nx u10_Nf u10_Na u10_Nh u10_Nq u10_Nj q.2.2 u10_M1) [(0, .ref (ad 33)), (1, .ref (sd u10_x1)), (4, .int q.2.1)]) (h1 : q.1 ≠ 0 → (if q.1 = 1 then o_At p l e rm_MT_word s m args below meth c Q m_cls D A 5 36 [] (m_cw ad ca ky ty u10_rt u10_Ni u10_Np u10_No u10_Nx u10_Nf u10_Na u10_Nh u10_Nq u10_Nj q.2.2 u10_M1) [(0, .ref (ad 33))] else o_At p l e rm_MT_word s m args below meth c Q m_cls D A 5 61 [] (m_cw ad ca ky ty u10_rt u10_Ni u10_Np u10_No u10_Nx u10_Nf u10_Na u10_Nh u10_Nq u10_Nj q.2.2 u10_M1) [])) : o_At p l e rm_MT_word s m args below meth c Q m_cls D A 5 10 [] (m_cw ad ca ky ty u10_rt u10_Ni u10_Np u10_No u10_Nx u10_Nf u10_Na u10_Nh u10_Nq u10_Nj z.2 u10_M1) [(0, .ref (ad 33)), (1, .ref (sd u10_x1)), (4, .int z.1)] := by
  unfold m_MT_word_b10 at h
  intro H locs ls hP hS hl
  have C0 := C
  obtain ⟨hx, hb, -, -, -, hown, hts, hK, -, -⟩ := C0
  refine lv_iload hx hb d_MT_word_10 (lv_at hl 2 rfl) ?_
  refine lv_aload_n hx hb d_MT_word_12 rfl (lv_at hl 1 rfl) ?_
  obtain ⟨q2, hq2, h⟩ := o_bd_some h
  refine o_VR (K := "java/lang/String") (st1 := [.int q2, .int z.1]) (w1 := (m_cw ad ca ky ty u10_rt u10_Ni u10_Np u10_No u10_Nx u10_Nf u10_Na u10_Nh u10_Nq u10_Nj z.2 u10_M1)) hE.1 C (e_JS_length hE hKy l u10_x1 gu10_x1 u10_Ni u10_Np u10_No u10_Nx u10_Nf u10_Na u10_Nh u10_Nq u10_Nj z.2 u10_M1 u10_rt hq2) hP (hDD _ _ _ _ _ _ _ _ _ _ _ _) hS hl.1 (o_rs hE C gu10_x1 hS) k_8_216 k_3_62 k_3_63 k_1_18 k_3_64 hv_JS_length rfl rfl ⟨(Nat.le_of_ble_eq_true rfl), (Nat.le_of_ble_eq_true rfl)⟩ rfl (Nat.le_of_ble_eq_true rfl) ⟨Nat.zero_le _, Nat.zero_le _⟩ rfl d_MT_word_13 (fun H locs hP hS => ?_)
  refine lv_icmp_ge (tgt := 61) hx hb d_MT_word_16 (by decide) (fun c1 => ?_) (fun c1 => ?_)
  · replace h := o_tt c1 h
    cases h
    exact h1 (Nat.succ_ne_zero 1) _ _ _ hP hS (lv_sub hl [] rfl)
  · replace h := o_ff c1 h
    refine lv_aload_n hx hb d_MT_word_19 rfl (lv_at hl 0 rfl) ?_
    refine lv_aload_n hx hb d_MT_word_20 rfl (lv_at hl 0 rfl) ?_
    refine o_get (v := .int (MT_at z.2)) C in_MT hP 33 mw_33 rfl 15 (by decide) k_7_129 rfl rfl d_MT_word_21 ?_
    obtain ⟨q3, hq3, h⟩ := o_bd_some h
    refine o_V (st1 := [.int q3]) (w1 := (m_cw ad ca ky ty u10_rt u10_Ni u10_Np u10_No u10_Nx u10_Nf u10_Na u10_Nh u10_Nq u10_Nj z.2 u10_M1)) hE.1 C (e_MT_c_a hE hKy l (MT_at z.2) z.2 u10_Ni u10_Np u10_No u10_Nx u10_Nf u10_Na u10_Nh u10_Nq u10_Nj u10_M1 u10_rt hq3) hP (hDD _ _ _ _ _ _ _ _ _ _ _ _) hS hl.1 rfl mw_33 k_8_192 k_8_193 k_8_194 k_1_13 k_8_195 hv_MT_c rfl rfl ⟨(Nat.le_of_ble_eq_true rfl), (Nat.le_of_ble_eq_true rfl)⟩ rfl (Nat.le_of_ble_eq_true rfl) ⟨Nat.zero_le _, Nat.zero_le _⟩ rfl d_MT_word_24 (fun H locs hP hS => ?_)
    refine lv_aload_n hx hb d_MT_word_27 rfl (lv_at hl 1 rfl) ?_
    refine lv_iload hx hb d_MT_word_28 (lv_at hl 2 rfl) ?_
    obtain ⟨q4, hq4, h⟩ := o_bd_some h
    refine o_VR (K := "java/lang/String") (st1 := [.int q4, .int q3]) (w1 := (m_cw ad ca ky ty u10_rt u10_Ni u10_Np u10_No u10_Nx u10_Nf u10_Na u10_Nh u10_Nq u10_Nj z.2 u10_M1)) hE.1 C (e_JS_charAt hE hKy l u10_x1 gu10_x1 z.1 u10_Ni u10_Np u10_No u10_Nx u10_Nf u10_Na u10_Nh u10_Nq u10_Nj z.2 u10_M1 u10_rt hq4) hP (hDD _ _ _ _ _ _ _ _ _ _ _ _) hS hl.1 (o_rs hE C gu10_x1 hS) k_8_217 k_3_72 k_3_73 k_1_18 k_3_74 hv_JS_charAt rfl rfl ⟨(Nat.le_of_ble_eq_true rfl), (Nat.le_of_ble_eq_true rfl)⟩ rfl (Nat.le_of_ble_eq_true rfl) ⟨Nat.zero_le _, Nat.zero_le _⟩ rfl d_MT_word_30 (fun H locs hP hS => ?_)
    refine lv_icmp_eq (tgt := 45) hx hb d_MT_word_33 (by decide) (fun c2 => ?_) (fun c2 => ?_)
    · replace h := o_tt c2 h
      refine lv_aload_n hx hb d_MT_word_45 rfl (lv_at hl 0 rfl) ?_
      refine lv_dup hx hb d_MT_word_46 rfl ?_
      refine o_get (v := .int (MT_at z.2)) C in_MT hP 33 mw_33 rfl 15 (by decide) k_7_129 rfl rfl d_MT_word_47 ?_
      refine lv_iconst (v := (1:Int32)) hx hb d_MT_word_50 (by decide) ?_
      refine lv_iadd hx hb d_MT_word_51 ?_
      refine o_put (v := .int ((MT_at z.2) + (1:Int32))) (ty := .int) (w1 := (m_cw ad ca ky ty u10_rt u10_Ni u10_Np u10_No u10_Nx u10_Nf u10_Na u10_Nh u10_Nq u10_Nj (MT_mk (MT_text z.2) (MT_kind z.2) (MT_place z.2) (MT_many z.2) (MT_parent z.2) (MT_power z.2) (MT_first z.2) (MT_next z.2) (MT_name z.2) (MT_from z.2) (MT_characters z.2) (MT_digits z.2) (MT_minus z.2) (MT_values z.2) (MT_letters z.2) ((MT_at z.2) + (1:Int32)) (MT_wrong z.2) (MT_used z.2) (MT_written z.2) (MT_left z.2)) u10_M1)) C in_MT t_MT t_MT_ok n_MT hP (hDD _ _ _ _ _ _ _ _ _ _ _ _) hS 33 mw_33 rfl 15 (by decide) k_7_129 rfl rfl (by decide +kernel) rfl rfl (Nat.le_of_ble_eq_true rfl) rfl d_MT_word_52 (fun H locs hP hS => ?_)
      obtain ⟨x4_55, ex4_55⟩ : ∃ y : Int32, y = z.1 + (1:Int32) := ⟨_, rfl⟩
      replace h := o_nm_at ex4_55 h
      refine lv_iinc (v := x4_55) (lv' := [(4, .int x4_55), (0, .ref (ad 33)), (1, .ref (sd u10_x1))]) hx hb d_MT_word_55 hl (k := 2) rfl (by rw [ex4_55]; rfl) (by decide) rfl (fun ls hl => ?_)
      refine lv_goto (tgt := 10) hx hb d_MT_word_58 (by decide) ?_
      cases h
      exact h0 rfl _ _ _ hP hS (lv_sub hl [1, 2, 0] rfl)
    · replace h := o_ff c2 h
      cases h
      exact h1 (Nat.succ_ne_zero 0) _ _ _ hP hS (lv_sub hl [0] rfl)
set_option maxHeartbeats 4000000 in
set_option maxRecDepth 100000 in
theorem e_MT_word_a {E : (Nat → Prop) → State → Heap → Prop} {D : va_G} {ad kd sd vd xd : Nat → Nat} {ca : Nat → ClassId} {ky ty : Nat → Option Nat} (hE : o_EK E kd sd vd xd) (hKy : m_KY ky ty sd) (l : Launch) (n : Nat) (x1 : Nat) (gx1 : o_sb x1 = true) (x2 : Int32) (x3 : Int32) (a0 : SMT) (Ni : SNI) (Np : SNP) (No : SNO) (Nx : SNX) (Nf : SNF) (Na : SNA) (Nh : SNH) (Nq : SNQ) (Nj : SNJ) (M1 : SMT) (rt : Nat) {r : Int32 × SMT} (h : m_MT_word n x1 x2 x3 a0 = some r) : o_Cn E l D m_cls (m_tys ca) y_MT_word cc_MT_word rm_MT_word [.ref (ad 33), .ref (sd x1), .int x2, .int x3] (m_cw ad ca ky ty rt Ni Np No Nx Nf Na Nh Nq Nj a0 M1) (m_cw ad ca ky ty rt Ni Np No Nx Nf Na Nh Nq Nj r.2 M1) (some (.int r.1)) := by
  refine o_Cn_of (by decide) (Nat.le_of_ble_eq_true rfl) ?_
  intro p e s m below meth c A ls C hD hP hS hl
  have hDD : ∀ (rt : Nat) (Ni : SNI) (Np : SNP) (No : SNO) (Nx : SNX) (Nf : SNF) (Na : SNA) (Nh : SNH) (Nq : SNQ) (Nj : SNJ) (M0 : SMT) (M1 : SMT), va_D A (m_cw ad ca ky ty rt Ni Np No Nx Nf Na Nh Nq Nj M0 M1) := fun _ _ _ _ _ _ _ _ _ _ _ _ => o_D_map hD rfl
  have hl : lv_has ls 5 [(0, .ref (ad 33)), (1, .ref (sd x1)), (2, .int x2), (3, .int x3)] := hl
  unfold m_MT_word at h
  have C0 := C
  obtain ⟨hx, hb, -, -, -, hown, hts, hK, -, -⟩ := C0
  refine lv_aload_n hx hb d_MT_word_0 rfl (lv_at hl 0 rfl) ?_
  refine lv_iload_n hx hb d_MT_word_1 rfl (lv_at hl 2 rfl) ?_
  refine lv_iload_n hx hb d_MT_word_2 rfl (lv_at hl 3 rfl) ?_
  obtain ⟨q1, hq1, h⟩ := o_bd_some h
  refine o_V (st1 := [.int q1.1]) (w1 := (m_cw ad ca ky ty rt Ni Np No Nx Nf Na Nh Nq Nj q1.2 M1)) hE.1 C (e_MT_fresh_a hE hKy l x2 x3 a0 Ni Np No Nx Nf Na Nh Nq Nj M1 rt hq1) hP (hDD _ _ _ _ _ _ _ _ _ _ _ _) hS hl.1 rfl mw_33 k_8_212 k_8_213 k_8_214 k_1_13 k_8_215 hv_MT_fresh rfl rfl ⟨(Nat.le_of_ble_eq_true rfl), (Nat.le_of_ble_eq_true rfl)⟩ rfl (Nat.le_of_ble_eq_true rfl) ⟨Nat.zero_le _, Nat.zero_le _⟩ rfl d_MT_word_3 (fun H locs hP hS => ?_)
  refine lv_pop hx hb d_MT_word_6 rfl ?_
  refine lv_iconst (v := (0:Int32)) hx hb d_MT_word_7 (by decide) ?_
  refine lv_istore (lv' := [(4, .int (0:Int32)), (0, .ref (ad 33)), (1, .ref (sd x1)), (2, .int x2), (3, .int x3)]) hx hb d_MT_word_8 hl (by decide) rfl (fun ls hl => ?_)
  obtain ⟨q5, hq5, h⟩ := o_bd_some h
  refine o_sim2 (AH := fun zz => o_At p l e rm_MT_word s m _ below meth c _ m_cls D A 5 10 [] (m_cw ad ca ky ty rt Ni Np No Nx Nf Na Nh Nq Nj zz.2 M1) [(0, .ref (ad 33)), (1, .ref (sd x1)), (4, .int zz.1)]) (AX := fun qq => if qq.1 = 1 then o_At p l e rm_MT_word s m _ below meth c _ m_cls D A 5 36 [] (m_cw ad ca ky ty rt Ni Np No Nx Nf Na Nh Nq Nj qq.2.2 M1) [(0, .ref (ad 33))] else o_At p l e rm_MT_word s m _ below meth c _ m_cls D A 5 61 [] (m_cw ad ca ky ty rt Ni Np No Nx Nf Na Nh Nq Nj qq.2.2 M1) []) (fun zz qq h h0 h1 => f_MT_word_b10_a hE hKy C hDD n x1 gx1 Ni Np No Nx Nf Na Nh Nq Nj M1 rt zz qq h h0 h1) n _ q5 hq5 ?_ _ _ _ hP hS (lv_sub hl [1, 2, 0] rfl)
  by_cases c4 : q5.1 = 1
  · replace h := o_tt c4 h
    refine o_ip c4 ?_
    intro H locs ls hP hS hl
    refine lv_aload_n hx hb d_MT_word_36 rfl (lv_at hl 0 rfl) ?_
    refine lv_aload_n hx hb d_MT_word_37 rfl (lv_at hl 0 rfl) ?_
    refine o_get (v := .int (MT_at q5.2.2)) C in_MT hP 33 mw_33 rfl 15 (by decide) k_7_129 rfl rfl d_MT_word_38 ?_
    obtain ⟨q6, hq6, h⟩ := o_bd_some h
    refine o_V (st1 := [.int q6.1]) (w1 := (m_cw ad ca ky ty rt Ni Np No Nx Nf Na Nh Nq Nj q6.2 M1)) hE.1 C (e_MT_bad_a hE hKy l (MT_at q5.2.2) q5.2.2 Ni Np No Nx Nf Na Nh Nq Nj M1 rt hq6) hP (hDD _ _ _ _ _ _ _ _ _ _ _ _) hS hl.1 rfl mw_33 k_8_203 k_8_204 k_8_205 k_1_13 k_8_206 hv_MT_bad rfl rfl ⟨(Nat.le_of_ble_eq_true rfl), (Nat.le_of_ble_eq_true rfl)⟩ rfl (Nat.le_of_ble_eq_true rfl) ⟨Nat.zero_le _, Nat.zero_le _⟩ rfl d_MT_word_41 (fun H locs hP hS => ?_)
    obtain ⟨g3, h⟩ := o_gd_some h
    cases h
    exact o_rz C (o_zb_nar g3) hP hS d_MT_word_44
  replace h := o_ff c4 h
  refine o_in_ c4 ?_
  intro H locs ls hP hS hl
  refine lv_iconst (v := (1:Int32)) hx hb d_MT_word_61 (by decide) ?_
  cases h
  exact o_rz (v := (1:Int32)) C o_nar1 hP hS d_MT_word_62
set_option maxHeartbeats 4000000 in
set_option maxRecDepth 100000 in
theorem f_MT_word_b10_b {E : (Nat → Prop) → State → Heap → Prop} {p : Program} {l : Launch} {e : Env} {s : State} {m : MethodId} {args : Array Value} {below : List Frame} {meth : Method} {c : Code} {D : va_G} {ad kd sd vd xd : Nat → Nat} {ca : Nat → ClassId} {A : Nat → Prop} {ky ty : Nat → Option Nat} {Q : State → Prop} (hE : o_EK E kd sd vd xd) (hKy : m_KY ky ty sd) (C : o_Cx E p s m args meth c D m_cls (m_tys ca) "SchemaJudgeModel$Text" b_MT_word (some .boolean) 5 cc_MT_word A) (hDD : ∀ (rt : Nat) (Ni : SNI) (Np : SNP) (No : SNO) (Nx : SNX) (Nf : SNF) (Na : SNA) (Nh : SNH) (Nq : SNQ) (Nj : SNJ) (M0 : SMT) (M1 : SMT), va_D A (m_cw ad ca ky ty rt Ni Np No Nx Nf Na Nh Nq Nj M0 M1)) (n : Nat) (u10_x1 : Nat) (gu10_x1 : o_sb u10_x1 = true) (u10_Ni : SNI) (u10_Np : SNP) (u10_No : SNO) (u10_Nx : SNX) (u10_Nf : SNF) (u10_Na : SNA) (u10_Nh : SNH) (u10_Nq : SNQ) (u10_Nj : SNJ) (u10_M0 : SMT) (u10_rt : Nat) (z : Int32 × SMT) (q : Nat × Int32 × SMT) (h : m_MT_word_b10 n u10_x1 z = some q) (h0 : q.1 = 0 → o_At p l e rm_MT_word s m args below meth c Q m_cls D A 5 10 [] (m_cw ad ca ky ty u10_rt u10_Ni u10_Np u10_No u10_Nx u10_Nf u10_Na u10_Nh u10_Nq u10_Nj u10_M0 q.2.2) [(0, .ref (ad 48)), (1, .ref (sd u10_x1)), (4, .int q.2.1)]) (h1 : q.1 ≠ 0 → (if q.1 = 1 then o_At p l e rm_MT_word s m args below meth c Q m_cls D A 5 36 [] (m_cw ad ca ky ty u10_rt u10_Ni u10_Np u10_No u10_Nx u10_Nf u10_Na u10_Nh u10_Nq u10_Nj u10_M0 q.2.2) [(0, .ref (ad 48))] else o_At p l e rm_MT_word s m args below meth c Q m_cls D A 5 61 [] (m_cw ad ca ky ty u10_rt u10_Ni u10_Np u10_No u10_Nx u10_Nf u10_Na u10_Nh u10_Nq u10_Nj u10_M0 q.2.2) [])) : o_At p l e rm_MT_word s m args below meth c Q m_cls D A 5 10 [] (m_cw ad ca ky ty u10_rt u10_Ni u10_Np u10_No u10_Nx u10_Nf u10_Na u10_Nh u10_Nq u10_Nj u10_M0 z.2) [(0, .ref (ad 48)), (1, .ref (sd u10_x1)), (4, .int z.1)] := by
  unfold m_MT_word_b10 at h
  intro H locs ls hP hS hl
  have C0 := C
  obtain ⟨hx, hb, -, -, -, hown, hts, hK, -, -⟩ := C0
  refine lv_iload hx hb d_MT_word_10 (lv_at hl 2 rfl) ?_
  refine lv_aload_n hx hb d_MT_word_12 rfl (lv_at hl 1 rfl) ?_
  obtain ⟨q2, hq2, h⟩ := o_bd_some h
  refine o_VR (K := "java/lang/String") (st1 := [.int q2, .int z.1]) (w1 := (m_cw ad ca ky ty u10_rt u10_Ni u10_Np u10_No u10_Nx u10_Nf u10_Na u10_Nh u10_Nq u10_Nj u10_M0 z.2)) hE.1 C (e_JS_length hE hKy l u10_x1 gu10_x1 u10_Ni u10_Np u10_No u10_Nx u10_Nf u10_Na u10_Nh u10_Nq u10_Nj u10_M0 z.2 u10_rt hq2) hP (hDD _ _ _ _ _ _ _ _ _ _ _ _) hS hl.1 (o_rs hE C gu10_x1 hS) k_8_216 k_3_62 k_3_63 k_1_18 k_3_64 hv_JS_length rfl rfl ⟨(Nat.le_of_ble_eq_true rfl), (Nat.le_of_ble_eq_true rfl)⟩ rfl (Nat.le_of_ble_eq_true rfl) ⟨Nat.zero_le _, Nat.zero_le _⟩ rfl d_MT_word_13 (fun H locs hP hS => ?_)
  refine lv_icmp_ge (tgt := 61) hx hb d_MT_word_16 (by decide) (fun c1 => ?_) (fun c1 => ?_)
  · replace h := o_tt c1 h
    cases h
    exact h1 (Nat.succ_ne_zero 1) _ _ _ hP hS (lv_sub hl [] rfl)
  · replace h := o_ff c1 h
    refine lv_aload_n hx hb d_MT_word_19 rfl (lv_at hl 0 rfl) ?_
    refine lv_aload_n hx hb d_MT_word_20 rfl (lv_at hl 0 rfl) ?_
    refine o_get (v := .int (MT_at z.2)) C in_MT hP 48 mw_48 rfl 15 (by decide) k_7_129 rfl rfl d_MT_word_21 ?_
    obtain ⟨q3, hq3, h⟩ := o_bd_some h
    refine o_V (st1 := [.int q3]) (w1 := (m_cw ad ca ky ty u10_rt u10_Ni u10_Np u10_No u10_Nx u10_Nf u10_Na u10_Nh u10_Nq u10_Nj u10_M0 z.2)) hE.1 C (e_MT_c_b hE hKy l (MT_at z.2) z.2 u10_Ni u10_Np u10_No u10_Nx u10_Nf u10_Na u10_Nh u10_Nq u10_Nj u10_M0 u10_rt hq3) hP (hDD _ _ _ _ _ _ _ _ _ _ _ _) hS hl.1 rfl mw_48 k_8_192 k_8_193 k_8_194 k_1_13 k_8_195 hv_MT_c rfl rfl ⟨(Nat.le_of_ble_eq_true rfl), (Nat.le_of_ble_eq_true rfl)⟩ rfl (Nat.le_of_ble_eq_true rfl) ⟨Nat.zero_le _, Nat.zero_le _⟩ rfl d_MT_word_24 (fun H locs hP hS => ?_)
    refine lv_aload_n hx hb d_MT_word_27 rfl (lv_at hl 1 rfl) ?_
    refine lv_iload hx hb d_MT_word_28 (lv_at hl 2 rfl) ?_
    obtain ⟨q4, hq4, h⟩ := o_bd_some h
    refine o_VR (K := "java/lang/String") (st1 := [.int q4, .int q3]) (w1 := (m_cw ad ca ky ty u10_rt u10_Ni u10_Np u10_No u10_Nx u10_Nf u10_Na u10_Nh u10_Nq u10_Nj u10_M0 z.2)) hE.1 C (e_JS_charAt hE hKy l u10_x1 gu10_x1 z.1 u10_Ni u10_Np u10_No u10_Nx u10_Nf u10_Na u10_Nh u10_Nq u10_Nj u10_M0 z.2 u10_rt hq4) hP (hDD _ _ _ _ _ _ _ _ _ _ _ _) hS hl.1 (o_rs hE C gu10_x1 hS) k_8_217 k_3_72 k_3_73 k_1_18 k_3_74 hv_JS_charAt rfl rfl ⟨(Nat.le_of_ble_eq_true rfl), (Nat.le_of_ble_eq_true rfl)⟩ rfl (Nat.le_of_ble_eq_true rfl) ⟨Nat.zero_le _, Nat.zero_le _⟩ rfl d_MT_word_30 (fun H locs hP hS => ?_)
    refine lv_icmp_eq (tgt := 45) hx hb d_MT_word_33 (by decide) (fun c2 => ?_) (fun c2 => ?_)
    · replace h := o_tt c2 h
      refine lv_aload_n hx hb d_MT_word_45 rfl (lv_at hl 0 rfl) ?_
      refine lv_dup hx hb d_MT_word_46 rfl ?_
      refine o_get (v := .int (MT_at z.2)) C in_MT hP 48 mw_48 rfl 15 (by decide) k_7_129 rfl rfl d_MT_word_47 ?_
      refine lv_iconst (v := (1:Int32)) hx hb d_MT_word_50 (by decide) ?_
      refine lv_iadd hx hb d_MT_word_51 ?_
      refine o_put (v := .int ((MT_at z.2) + (1:Int32))) (ty := .int) (w1 := (m_cw ad ca ky ty u10_rt u10_Ni u10_Np u10_No u10_Nx u10_Nf u10_Na u10_Nh u10_Nq u10_Nj u10_M0 (MT_mk (MT_text z.2) (MT_kind z.2) (MT_place z.2) (MT_many z.2) (MT_parent z.2) (MT_power z.2) (MT_first z.2) (MT_next z.2) (MT_name z.2) (MT_from z.2) (MT_characters z.2) (MT_digits z.2) (MT_minus z.2) (MT_values z.2) (MT_letters z.2) ((MT_at z.2) + (1:Int32)) (MT_wrong z.2) (MT_used z.2) (MT_written z.2) (MT_left z.2)))) C in_MT t_MT t_MT_ok n_MT hP (hDD _ _ _ _ _ _ _ _ _ _ _ _) hS 48 mw_48 rfl 15 (by decide) k_7_129 rfl rfl (by decide +kernel) rfl rfl (Nat.le_of_ble_eq_true rfl) rfl d_MT_word_52 (fun H locs hP hS => ?_)
      obtain ⟨x4_55, ex4_55⟩ : ∃ y : Int32, y = z.1 + (1:Int32) := ⟨_, rfl⟩
      replace h := o_nm_at ex4_55 h
      refine lv_iinc (v := x4_55) (lv' := [(4, .int x4_55), (0, .ref (ad 48)), (1, .ref (sd u10_x1))]) hx hb d_MT_word_55 hl (k := 2) rfl (by rw [ex4_55]; rfl) (by decide) rfl (fun ls hl => ?_)
      refine lv_goto (tgt := 10) hx hb d_MT_word_58 (by decide) ?_
      cases h
      exact h0 rfl _ _ _ hP hS (lv_sub hl [1, 2, 0] rfl)
    · replace h := o_ff c2 h
      cases h
      exact h1 (Nat.succ_ne_zero 0) _ _ _ hP hS (lv_sub hl [0] rfl)
set_option maxHeartbeats 4000000 in
set_option maxRecDepth 100000 in
theorem e_MT_word_b {E : (Nat → Prop) → State → Heap → Prop} {D : va_G} {ad kd sd vd xd : Nat → Nat} {ca : Nat → ClassId} {ky ty : Nat → Option Nat} (hE : o_EK E kd sd vd xd) (hKy : m_KY ky ty sd) (l : Launch) (n : Nat) (x1 : Nat) (gx1 : o_sb x1 = true) (x2 : Int32) (x3 : Int32) (a0 : SMT) (Ni : SNI) (Np : SNP) (No : SNO) (Nx : SNX) (Nf : SNF) (Na : SNA) (Nh : SNH) (Nq : SNQ) (Nj : SNJ) (M0 : SMT) (rt : Nat) {r : Int32 × SMT} (h : m_MT_word n x1 x2 x3 a0 = some r) : o_Cn E l D m_cls (m_tys ca) y_MT_word cc_MT_word rm_MT_word [.ref (ad 48), .ref (sd x1), .int x2, .int x3] (m_cw ad ca ky ty rt Ni Np No Nx Nf Na Nh Nq Nj M0 a0) (m_cw ad ca ky ty rt Ni Np No Nx Nf Na Nh Nq Nj M0 r.2) (some (.int r.1)) := by
  refine o_Cn_of (by decide) (Nat.le_of_ble_eq_true rfl) ?_
  intro p e s m below meth c A ls C hD hP hS hl
  have hDD : ∀ (rt : Nat) (Ni : SNI) (Np : SNP) (No : SNO) (Nx : SNX) (Nf : SNF) (Na : SNA) (Nh : SNH) (Nq : SNQ) (Nj : SNJ) (M0 : SMT) (M1 : SMT), va_D A (m_cw ad ca ky ty rt Ni Np No Nx Nf Na Nh Nq Nj M0 M1) := fun _ _ _ _ _ _ _ _ _ _ _ _ => o_D_map hD rfl
  have hl : lv_has ls 5 [(0, .ref (ad 48)), (1, .ref (sd x1)), (2, .int x2), (3, .int x3)] := hl
  unfold m_MT_word at h
  have C0 := C
  obtain ⟨hx, hb, -, -, -, hown, hts, hK, -, -⟩ := C0
  refine lv_aload_n hx hb d_MT_word_0 rfl (lv_at hl 0 rfl) ?_
  refine lv_iload_n hx hb d_MT_word_1 rfl (lv_at hl 2 rfl) ?_
  refine lv_iload_n hx hb d_MT_word_2 rfl (lv_at hl 3 rfl) ?_
  obtain ⟨q1, hq1, h⟩ := o_bd_some h
  refine o_V (st1 := [.int q1.1]) (w1 := (m_cw ad ca ky ty rt Ni Np No Nx Nf Na Nh Nq Nj M0 q1.2)) hE.1 C (e_MT_fresh_b hE hKy l x2 x3 a0 Ni Np No Nx Nf Na Nh Nq Nj M0 rt hq1) hP (hDD _ _ _ _ _ _ _ _ _ _ _ _) hS hl.1 rfl mw_48 k_8_212 k_8_213 k_8_214 k_1_13 k_8_215 hv_MT_fresh rfl rfl ⟨(Nat.le_of_ble_eq_true rfl), (Nat.le_of_ble_eq_true rfl)⟩ rfl (Nat.le_of_ble_eq_true rfl) ⟨Nat.zero_le _, Nat.zero_le _⟩ rfl d_MT_word_3 (fun H locs hP hS => ?_)
  refine lv_pop hx hb d_MT_word_6 rfl ?_
  refine lv_iconst (v := (0:Int32)) hx hb d_MT_word_7 (by decide) ?_
  refine lv_istore (lv' := [(4, .int (0:Int32)), (0, .ref (ad 48)), (1, .ref (sd x1)), (2, .int x2), (3, .int x3)]) hx hb d_MT_word_8 hl (by decide) rfl (fun ls hl => ?_)
  obtain ⟨q5, hq5, h⟩ := o_bd_some h
  refine o_sim2 (AH := fun zz => o_At p l e rm_MT_word s m _ below meth c _ m_cls D A 5 10 [] (m_cw ad ca ky ty rt Ni Np No Nx Nf Na Nh Nq Nj M0 zz.2) [(0, .ref (ad 48)), (1, .ref (sd x1)), (4, .int zz.1)]) (AX := fun qq => if qq.1 = 1 then o_At p l e rm_MT_word s m _ below meth c _ m_cls D A 5 36 [] (m_cw ad ca ky ty rt Ni Np No Nx Nf Na Nh Nq Nj M0 qq.2.2) [(0, .ref (ad 48))] else o_At p l e rm_MT_word s m _ below meth c _ m_cls D A 5 61 [] (m_cw ad ca ky ty rt Ni Np No Nx Nf Na Nh Nq Nj M0 qq.2.2) []) (fun zz qq h h0 h1 => f_MT_word_b10_b hE hKy C hDD n x1 gx1 Ni Np No Nx Nf Na Nh Nq Nj M0 rt zz qq h h0 h1) n _ q5 hq5 ?_ _ _ _ hP hS (lv_sub hl [1, 2, 0] rfl)
  by_cases c4 : q5.1 = 1
  · replace h := o_tt c4 h
    refine o_ip c4 ?_
    intro H locs ls hP hS hl
    refine lv_aload_n hx hb d_MT_word_36 rfl (lv_at hl 0 rfl) ?_
    refine lv_aload_n hx hb d_MT_word_37 rfl (lv_at hl 0 rfl) ?_
    refine o_get (v := .int (MT_at q5.2.2)) C in_MT hP 48 mw_48 rfl 15 (by decide) k_7_129 rfl rfl d_MT_word_38 ?_
    obtain ⟨q6, hq6, h⟩ := o_bd_some h
    refine o_V (st1 := [.int q6.1]) (w1 := (m_cw ad ca ky ty rt Ni Np No Nx Nf Na Nh Nq Nj M0 q6.2)) hE.1 C (e_MT_bad_b hE hKy l (MT_at q5.2.2) q5.2.2 Ni Np No Nx Nf Na Nh Nq Nj M0 rt hq6) hP (hDD _ _ _ _ _ _ _ _ _ _ _ _) hS hl.1 rfl mw_48 k_8_203 k_8_204 k_8_205 k_1_13 k_8_206 hv_MT_bad rfl rfl ⟨(Nat.le_of_ble_eq_true rfl), (Nat.le_of_ble_eq_true rfl)⟩ rfl (Nat.le_of_ble_eq_true rfl) ⟨Nat.zero_le _, Nat.zero_le _⟩ rfl d_MT_word_41 (fun H locs hP hS => ?_)
    obtain ⟨g3, h⟩ := o_gd_some h
    cases h
    exact o_rz C (o_zb_nar g3) hP hS d_MT_word_44
  replace h := o_ff c4 h
  refine o_in_ c4 ?_
  intro H locs ls hP hS hl
  refine lv_iconst (v := (1:Int32)) hx hb d_MT_word_61 (by decide) ?_
  cases h
  exact o_rz (v := (1:Int32)) C o_nar1 hP hS d_MT_word_62
set_option maxHeartbeats 4000000 in
set_option maxRecDepth 100000 in
theorem e_MT_put_a {E : (Nat → Prop) → State → Heap → Prop} {D : va_G} {ad kd sd vd xd : Nat → Nat} {ca : Nat → ClassId} {ky ty : Nat → Option Nat} (hE : o_EK E kd sd vd xd) (hKy : m_KY ky ty sd) (l : Launch) (x1 : Int32) (x2 : Int32) (a0 : SMT) (Ni : SNI) (Np : SNP) (No : SNO) (Nx : SNX) (Nf : SNF) (Na : SNA) (Nh : SNH) (Nq : SNQ) (Nj : SNJ) (M1 : SMT) (rt : Nat) {r : Int32 × SMT} (h : m_MT_put x1 x2 a0 = some r) : o_Cn E l D m_cls (m_tys ca) y_MT_put cc_MT_put rm_MT_put [.ref (ad 33), .int x1, .int x2] (m_cw ad ca ky ty rt Ni Np No Nx Nf Na Nh Nq Nj a0 M1) (m_cw ad ca ky ty rt Ni Np No Nx Nf Na Nh Nq Nj r.2 M1) (some (.int r.1)) := by
  refine o_Cn_of (by decide) (Nat.le_of_ble_eq_true rfl) ?_
  intro p e s m below meth c A ls C hD hP hS hl
  have hDD : ∀ (rt : Nat) (Ni : SNI) (Np : SNP) (No : SNO) (Nx : SNX) (Nf : SNF) (Na : SNA) (Nh : SNH) (Nq : SNQ) (Nj : SNJ) (M0 : SMT) (M1 : SMT), va_D A (m_cw ad ca ky ty rt Ni Np No Nx Nf Na Nh Nq Nj M0 M1) := fun _ _ _ _ _ _ _ _ _ _ _ _ => o_D_map hD rfl
  have hl : lv_has ls 3 [(0, .ref (ad 33)), (1, .int x1), (2, .int x2)] := hl
  unfold m_MT_put at h
  have C0 := C
  obtain ⟨hx, hb, -, -, -, hown, hts, hK, -, -⟩ := C0
  refine lv_aload_n hx hb d_MT_put_0 rfl (lv_at hl 0 rfl) ?_
  refine o_get (v := .int (MT_used a0)) C in_MT hP 33 mw_33 rfl 17 (by decide) k_7_131 rfl rfl d_MT_put_1 ?_
  refine lv_sipush (v := (4000:Int32)) hx hb d_MT_put_4 (by decide) ?_
  refine lv_icmp_ne (tgt := 16) hx hb d_MT_put_7 (by decide) (fun c1 => ?_) (fun c1 => ?_)
  · replace h := o_ff c1 h
    refine lv_aload_n hx hb d_MT_put_16 rfl (lv_at hl 0 rfl) ?_
    refine o_get (v := .ref (ad 44)) C in_MT hP 33 mw_33 rfl 10 (by decide) k_7_120 rfl rfl d_MT_put_17 ?_
    refine lv_aload_n hx hb d_MT_put_20 rfl (lv_at hl 0 rfl) ?_
    refine lv_dup hx hb d_MT_put_21 rfl ?_
    refine o_get (v := .int (MT_used a0)) C in_MT hP 33 mw_33 rfl 17 (by decide) k_7_131 rfl rfl d_MT_put_22 ?_
    refine lv_dup_x1 hx hb d_MT_put_25 rfl rfl ?_
    refine lv_iconst (v := (1:Int32)) hx hb d_MT_put_26 (by decide) ?_
    refine lv_iadd hx hb d_MT_put_27 ?_
    refine o_put (v := .int ((MT_used a0) + (1:Int32))) (ty := .int) (w1 := (m_cw ad ca ky ty rt Ni Np No Nx Nf Na Nh Nq Nj (MT_mk (MT_text a0) (MT_kind a0) (MT_place a0) (MT_many a0) (MT_parent a0) (MT_power a0) (MT_first a0) (MT_next a0) (MT_name a0) (MT_from a0) (MT_characters a0) (MT_digits a0) (MT_minus a0) (MT_values a0) (MT_letters a0) (MT_at a0) (MT_wrong a0) ((MT_used a0) + (1:Int32)) (MT_written a0) (MT_left a0)) M1)) C in_MT t_MT t_MT_ok n_MT hP (hDD _ _ _ _ _ _ _ _ _ _ _ _) hS 33 mw_33 rfl 17 (by decide) k_7_131 rfl rfl (by decide +kernel) rfl rfl (Nat.le_of_ble_eq_true rfl) rfl d_MT_put_28 (fun H locs hP hS => ?_)
    refine lv_iload_n hx hb d_MT_put_31 rfl (lv_at hl 1 rfl) ?_
    obtain ⟨g2, h⟩ := o_gd_some h
    refine o_iast (f := (MT_characters a0)) (w1 := (m_cw ad ca ky ty rt Ni Np No Nx Nf Na Nh Nq Nj (MT_mk (MT_text a0) (MT_kind a0) (MT_place a0) (MT_many a0) (MT_parent a0) (MT_power a0) (MT_first a0) (MT_next a0) (MT_name a0) (MT_from a0) (upd (MT_characters a0) (MT_used a0).toNatClampNeg x1) (MT_digits a0) (MT_minus a0) (MT_values a0) (MT_letters a0) (MT_at a0) (MT_wrong a0) ((MT_used a0) + (1:Int32)) (MT_written a0) (MT_left a0)) M1)) C hP (hDD _ _ _ _ _ _ _ _ _ _ _ _) hS 44 42 mw_44 rfl g2 rfl d_MT_put_32 (fun H locs hP hS => ?_)
    refine lv_iconst (v := (1:Int32)) hx hb d_MT_put_33 (by decide) ?_
    cases h
    exact o_rz (v := (1:Int32)) C o_nar1 hP hS d_MT_put_34
  · replace h := o_tt c1 h
    refine lv_aload_n hx hb d_MT_put_10 rfl (lv_at hl 0 rfl) ?_
    refine lv_iload_n hx hb d_MT_put_11 rfl (lv_at hl 2 rfl) ?_
    obtain ⟨q1, hq1, h⟩ := o_bd_some h
    refine o_V (st1 := [.int q1.1]) (w1 := (m_cw ad ca ky ty rt Ni Np No Nx Nf Na Nh Nq Nj q1.2 M1)) hE.1 C (e_MT_bad_a hE hKy l x2 a0 Ni Np No Nx Nf Na Nh Nq Nj M1 rt hq1) hP (hDD _ _ _ _ _ _ _ _ _ _ _ _) hS hl.1 rfl mw_33 k_8_203 k_8_204 k_8_205 k_1_13 k_8_206 hv_MT_bad rfl rfl ⟨(Nat.le_of_ble_eq_true rfl), (Nat.le_of_ble_eq_true rfl)⟩ rfl (Nat.le_of_ble_eq_true rfl) ⟨Nat.zero_le _, Nat.zero_le _⟩ rfl d_MT_put_12 (fun H locs hP hS => ?_)
    obtain ⟨g3, h⟩ := o_gd_some h
    cases h
    exact o_rz C (o_zb_nar g3) hP hS d_MT_put_15
set_option maxHeartbeats 4000000 in
set_option maxRecDepth 100000 in
theorem e_MT_put_b {E : (Nat → Prop) → State → Heap → Prop} {D : va_G} {ad kd sd vd xd : Nat → Nat} {ca : Nat → ClassId} {ky ty : Nat → Option Nat} (hE : o_EK E kd sd vd xd) (hKy : m_KY ky ty sd) (l : Launch) (x1 : Int32) (x2 : Int32) (a0 : SMT) (Ni : SNI) (Np : SNP) (No : SNO) (Nx : SNX) (Nf : SNF) (Na : SNA) (Nh : SNH) (Nq : SNQ) (Nj : SNJ) (M0 : SMT) (rt : Nat) {r : Int32 × SMT} (h : m_MT_put x1 x2 a0 = some r) : o_Cn E l D m_cls (m_tys ca) y_MT_put cc_MT_put rm_MT_put [.ref (ad 48), .int x1, .int x2] (m_cw ad ca ky ty rt Ni Np No Nx Nf Na Nh Nq Nj M0 a0) (m_cw ad ca ky ty rt Ni Np No Nx Nf Na Nh Nq Nj M0 r.2) (some (.int r.1)) := by
  refine o_Cn_of (by decide) (Nat.le_of_ble_eq_true rfl) ?_
  intro p e s m below meth c A ls C hD hP hS hl
  have hDD : ∀ (rt : Nat) (Ni : SNI) (Np : SNP) (No : SNO) (Nx : SNX) (Nf : SNF) (Na : SNA) (Nh : SNH) (Nq : SNQ) (Nj : SNJ) (M0 : SMT) (M1 : SMT), va_D A (m_cw ad ca ky ty rt Ni Np No Nx Nf Na Nh Nq Nj M0 M1) := fun _ _ _ _ _ _ _ _ _ _ _ _ => o_D_map hD rfl
  have hl : lv_has ls 3 [(0, .ref (ad 48)), (1, .int x1), (2, .int x2)] := hl
  unfold m_MT_put at h
  have C0 := C
  obtain ⟨hx, hb, -, -, -, hown, hts, hK, -, -⟩ := C0
  refine lv_aload_n hx hb d_MT_put_0 rfl (lv_at hl 0 rfl) ?_
  refine o_get (v := .int (MT_used a0)) C in_MT hP 48 mw_48 rfl 17 (by decide) k_7_131 rfl rfl d_MT_put_1 ?_
  refine lv_sipush (v := (4000:Int32)) hx hb d_MT_put_4 (by decide) ?_
  refine lv_icmp_ne (tgt := 16) hx hb d_MT_put_7 (by decide) (fun c1 => ?_) (fun c1 => ?_)
  · replace h := o_ff c1 h
    refine lv_aload_n hx hb d_MT_put_16 rfl (lv_at hl 0 rfl) ?_
    refine o_get (v := .ref (ad 59)) C in_MT hP 48 mw_48 rfl 10 (by decide) k_7_120 rfl rfl d_MT_put_17 ?_
    refine lv_aload_n hx hb d_MT_put_20 rfl (lv_at hl 0 rfl) ?_
    refine lv_dup hx hb d_MT_put_21 rfl ?_
    refine o_get (v := .int (MT_used a0)) C in_MT hP 48 mw_48 rfl 17 (by decide) k_7_131 rfl rfl d_MT_put_22 ?_
    refine lv_dup_x1 hx hb d_MT_put_25 rfl rfl ?_
    refine lv_iconst (v := (1:Int32)) hx hb d_MT_put_26 (by decide) ?_
    refine lv_iadd hx hb d_MT_put_27 ?_
    refine o_put (v := .int ((MT_used a0) + (1:Int32))) (ty := .int) (w1 := (m_cw ad ca ky ty rt Ni Np No Nx Nf Na Nh Nq Nj M0 (MT_mk (MT_text a0) (MT_kind a0) (MT_place a0) (MT_many a0) (MT_parent a0) (MT_power a0) (MT_first a0) (MT_next a0) (MT_name a0) (MT_from a0) (MT_characters a0) (MT_digits a0) (MT_minus a0) (MT_values a0) (MT_letters a0) (MT_at a0) (MT_wrong a0) ((MT_used a0) + (1:Int32)) (MT_written a0) (MT_left a0)))) C in_MT t_MT t_MT_ok n_MT hP (hDD _ _ _ _ _ _ _ _ _ _ _ _) hS 48 mw_48 rfl 17 (by decide) k_7_131 rfl rfl (by decide +kernel) rfl rfl (Nat.le_of_ble_eq_true rfl) rfl d_MT_put_28 (fun H locs hP hS => ?_)
    refine lv_iload_n hx hb d_MT_put_31 rfl (lv_at hl 1 rfl) ?_
    obtain ⟨g2, h⟩ := o_gd_some h
    refine o_iast (f := (MT_characters a0)) (w1 := (m_cw ad ca ky ty rt Ni Np No Nx Nf Na Nh Nq Nj M0 (MT_mk (MT_text a0) (MT_kind a0) (MT_place a0) (MT_many a0) (MT_parent a0) (MT_power a0) (MT_first a0) (MT_next a0) (MT_name a0) (MT_from a0) (upd (MT_characters a0) (MT_used a0).toNatClampNeg x1) (MT_digits a0) (MT_minus a0) (MT_values a0) (MT_letters a0) (MT_at a0) (MT_wrong a0) ((MT_used a0) + (1:Int32)) (MT_written a0) (MT_left a0)))) C hP (hDD _ _ _ _ _ _ _ _ _ _ _ _) hS 59 56 mw_59 rfl g2 rfl d_MT_put_32 (fun H locs hP hS => ?_)
    refine lv_iconst (v := (1:Int32)) hx hb d_MT_put_33 (by decide) ?_
    cases h
    exact o_rz (v := (1:Int32)) C o_nar1 hP hS d_MT_put_34
  · replace h := o_tt c1 h
    refine lv_aload_n hx hb d_MT_put_10 rfl (lv_at hl 0 rfl) ?_
    refine lv_iload_n hx hb d_MT_put_11 rfl (lv_at hl 2 rfl) ?_
    obtain ⟨q1, hq1, h⟩ := o_bd_some h
    refine o_V (st1 := [.int q1.1]) (w1 := (m_cw ad ca ky ty rt Ni Np No Nx Nf Na Nh Nq Nj M0 q1.2)) hE.1 C (e_MT_bad_b hE hKy l x2 a0 Ni Np No Nx Nf Na Nh Nq Nj M0 rt hq1) hP (hDD _ _ _ _ _ _ _ _ _ _ _ _) hS hl.1 rfl mw_48 k_8_203 k_8_204 k_8_205 k_1_13 k_8_206 hv_MT_bad rfl rfl ⟨(Nat.le_of_ble_eq_true rfl), (Nat.le_of_ble_eq_true rfl)⟩ rfl (Nat.le_of_ble_eq_true rfl) ⟨Nat.zero_le _, Nat.zero_le _⟩ rfl d_MT_put_12 (fun H locs hP hS => ?_)
    obtain ⟨g3, h⟩ := o_gd_some h
    cases h
    exact o_rz C (o_zb_nar g3) hP hS d_MT_put_15
set_option maxHeartbeats 4000000 in
set_option maxRecDepth 100000 in
theorem e_MT_hex {E : (Nat → Prop) → State → Heap → Prop} {D : va_G} {ad kd sd vd xd : Nat → Nat} {ca : Nat → ClassId} {ky ty : Nat → Option Nat} (hE : o_EK E kd sd vd xd) (hKy : m_KY ky ty sd) (l : Launch) (x0 : Int32) (Ni : SNI) (Np : SNP) (No : SNO) (Nx : SNX) (Nf : SNF) (Na : SNA) (Nh : SNH) (Nq : SNQ) (Nj : SNJ) (M0 : SMT) (M1 : SMT) (rt : Nat) {r : Int32} (h : m_MT_hex x0 = some r) : o_Cn E l D m_cls (m_tys ca) y_MT_hex cc_MT_hex rm_MT_hex [.int x0] (m_cw ad ca ky ty rt Ni Np No Nx Nf Na Nh Nq Nj M0 M1) (m_cw ad ca ky ty rt Ni Np No Nx Nf Na Nh Nq Nj M0 M1) (some (.int r)) := by
  refine o_Cn_of (by decide) (Nat.le_of_ble_eq_true rfl) ?_
  intro p e s m below meth c A ls C hD hP hS hl
  have hDD : ∀ (rt : Nat) (Ni : SNI) (Np : SNP) (No : SNO) (Nx : SNX) (Nf : SNF) (Na : SNA) (Nh : SNH) (Nq : SNQ) (Nj : SNJ) (M0 : SMT) (M1 : SMT), va_D A (m_cw ad ca ky ty rt Ni Np No Nx Nf Na Nh Nq Nj M0 M1) := fun _ _ _ _ _ _ _ _ _ _ _ _ => o_D_map hD rfl
  have hl : lv_has ls 1 [(0, .int x0)] := hl
  unfold m_MT_hex at h
  have C0 := C
  obtain ⟨hx, hb, -, -, -, hown, hts, hK, -, -⟩ := C0
  refine lv_iload_n hx hb d_MT_hex_0 rfl (lv_at hl 0 rfl) ?_
  refine lv_bipush (v := (48:Int32)) hx hb d_MT_hex_1 (by decide) ?_
  refine lv_bipush (v := (57:Int32)) hx hb d_MT_hex_3 (by decide) ?_
  obtain ⟨q1, hq1, h⟩ := o_bd_some h
  refine o_SN (st1 := [.int q1]) (w1 := (m_cw ad ca ky ty rt Ni Np No Nx Nf Na Nh Nq Nj M0 M1)) hE.1 C (e_MM_in hE hKy l x0 (48:Int32) (57:Int32) Ni Np No Nx Nf Na Nh Nq Nj M0 M1 rt hq1) hP (hDD _ _ _ _ _ _ _ _ _ _ _ _) hS hl.1 (hE.2.1 _ _ _ C.2.2.2.2.2.2.2.2.2 _ nw_21) k_8_201 k_1_12 k_8_202 hs_MM_in rfl rfl ⟨(Nat.le_of_ble_eq_true rfl), (Nat.le_of_ble_eq_true rfl)⟩ rfl (Nat.le_of_ble_eq_true rfl) ⟨Nat.zero_le _, Nat.zero_le _⟩ rfl d_MT_hex_5 (fun H locs hP hS => ?_)
  refine lv_if_eq (tgt := 18) hx hb d_MT_hex_8 (by decide) (fun c1 => ?_) (fun c1 => ?_)
  · replace h := o_tt c1 h
    refine lv_iload_n hx hb d_MT_hex_18 rfl (lv_at hl 0 rfl) ?_
    refine lv_bipush (v := (32:Int32)) hx hb d_MT_hex_19 (by decide) ?_
    refine lv_ior hx hb d_MT_hex_21 ?_
    refine lv_bipush (v := (97:Int32)) hx hb d_MT_hex_22 (by decide) ?_
    refine lv_bipush (v := (102:Int32)) hx hb d_MT_hex_24 (by decide) ?_
    obtain ⟨q2, hq2, h⟩ := o_bd_some h
    refine o_SN (st1 := [.int q2]) (w1 := (m_cw ad ca ky ty rt Ni Np No Nx Nf Na Nh Nq Nj M0 M1)) hE.1 C (e_MM_in hE hKy l (x0 ||| (32:Int32)) (97:Int32) (102:Int32) Ni Np No Nx Nf Na Nh Nq Nj M0 M1 rt hq2) hP (hDD _ _ _ _ _ _ _ _ _ _ _ _) hS hl.1 (hE.2.1 _ _ _ C.2.2.2.2.2.2.2.2.2 _ nw_21) k_8_201 k_1_12 k_8_202 hs_MM_in rfl rfl ⟨(Nat.le_of_ble_eq_true rfl), (Nat.le_of_ble_eq_true rfl)⟩ rfl (Nat.le_of_ble_eq_true rfl) ⟨Nat.zero_le _, Nat.zero_le _⟩ rfl d_MT_hex_26 (fun H locs hP hS => ?_)
    refine lv_if_eq (tgt := 45) hx hb d_MT_hex_29 (by decide) (fun c2 => ?_) (fun c2 => ?_)
    · replace h := o_tt c2 h
      refine lv_iconst (v := (-1:Int32)) hx hb d_MT_hex_45 (by decide) ?_
      cases h
      exact o_ri (v := (-1:Int32)) C hP hS d_MT_hex_46
    · replace h := o_ff c2 h
      refine lv_iload_n hx hb d_MT_hex_32 rfl (lv_at hl 0 rfl) ?_
      refine lv_bipush (v := (32:Int32)) hx hb d_MT_hex_33 (by decide) ?_
      refine lv_ior hx hb d_MT_hex_35 ?_
      refine lv_bipush (v := (97:Int32)) hx hb d_MT_hex_36 (by decide) ?_
      refine lv_isub hx hb d_MT_hex_38 ?_
      refine lv_bipush (v := (10:Int32)) hx hb d_MT_hex_39 (by decide) ?_
      refine lv_iadd hx hb d_MT_hex_41 ?_
      refine lv_goto (tgt := 46) hx hb d_MT_hex_42 (by decide) ?_
      cases h
      exact o_ri (v := (((x0 ||| (32:Int32)) - (97:Int32)) + (10:Int32))) C hP hS d_MT_hex_46
  · replace h := o_ff c1 h
    refine lv_iload_n hx hb d_MT_hex_11 rfl (lv_at hl 0 rfl) ?_
    refine lv_bipush (v := (48:Int32)) hx hb d_MT_hex_12 (by decide) ?_
    refine lv_isub hx hb d_MT_hex_14 ?_
    refine lv_goto (tgt := 46) hx hb d_MT_hex_15 (by decide) ?_
    cases h
    exact o_ri (v := (x0 - (48:Int32))) C hP hS d_MT_hex_46
set_option maxHeartbeats 4000000 in
set_option maxRecDepth 100000 in
theorem f_MT_four_j33_a {E : (Nat → Prop) → State → Heap → Prop} {p : Program} {l : Launch} {e : Env} {s : State} {m : MethodId} {args : Array Value} {below : List Frame} {meth : Method} {c : Code} {D : va_G} {ad kd sd vd xd : Nat → Nat} {ca : Nat → ClassId} {A : Nat → Prop} {ky ty : Nat → Option Nat} {Q : State → Prop} (hE : o_EK E kd sd vd xd) (hKy : m_KY ky ty sd) (C : o_Cx E p s m args meth c D m_cls (m_tys ca) "SchemaJudgeModel$Text" b_MT_four (some .int) 5 cc_MT_four A) (hDD : ∀ (rt : Nat) (Ni : SNI) (Np : SNP) (No : SNO) (Nx : SNX) (Nf : SNF) (Na : SNA) (Nh : SNH) (Nq : SNQ) (Nj : SNJ) (M0 : SMT) (M1 : SMT), va_D A (m_cw ad ca ky ty rt Ni Np No Nx Nf Na Nh Nq Nj M0 M1)) (n : Nat) (u4_x1 : Int32) (u4_a0 : SMT) (u4_Ni : SNI) (u4_Np : SNP) (u4_No : SNO) (u4_Nx : SNX) (u4_Nf : SNF) (u4_Na : SNA) (u4_Nh : SNH) (u4_Nq : SNQ) (u4_Nj : SNJ) (u4_M1 : SMT) (u4_rt : Nat) (x2 : Int32) (x3 : Int32) (y0 : Int32) {q : Nat × Int32 × Int32} (h : m_MT_four_j33 n u4_x1 x2 x3 y0 u4_a0 = some q) (h0 : q.1 = 0 → o_At p l e rm_MT_four s m args below meth c Q m_cls D A 5 4 [] (m_cw ad ca ky ty u4_rt u4_Ni u4_Np u4_No u4_Nx u4_Nf u4_Na u4_Nh u4_Nq u4_Nj u4_a0 u4_M1) [(0, .ref (ad 33)), (1, .int u4_x1), (2, .int q.2.1), (3, .int q.2.2)]) (h1 : q.1 ≠ 0 → (if q.1 = 1 then o_At p l e rm_MT_four s m args below meth c Q m_cls D A 5 40 [] (m_cw ad ca ky ty u4_rt u4_Ni u4_Np u4_No u4_Nx u4_Nf u4_Na u4_Nh u4_Nq u4_Nj u4_a0 u4_M1) [] else o_At p l e rm_MT_four s m args below meth c Q m_cls D A 5 56 [] (m_cw ad ca ky ty u4_rt u4_Ni u4_Np u4_No u4_Nx u4_Nf u4_Na u4_Nh u4_Nq u4_Nj u4_a0 u4_M1) [(2, .int q.2.1)])) : o_At p l e rm_MT_four s m args below meth c Q m_cls D A 5 33 [.int y0] (m_cw ad ca ky ty u4_rt u4_Ni u4_Np u4_No u4_Nx u4_Nf u4_Na u4_Nh u4_Nq u4_Nj u4_a0 u4_M1) [(0, .ref (ad 33)), (1, .int u4_x1), (2, .int x2), (3, .int x3)] := by
  unfold m_MT_four_j33 at h
  intro H locs ls hP hS hl
  have C0 := C
  obtain ⟨hx, hb, -, -, -, hown, hts, hK, -, -⟩ := C0
  refine lv_istore (lv' := [(4, .int y0), (0, .ref (ad 33)), (1, .int u4_x1), (2, .int x2), (3, .int x3)]) hx hb d_MT_four_33 hl (by decide) rfl (fun ls hl => ?_)
  refine lv_iload hx hb d_MT_four_35 (lv_at hl 0 rfl) ?_
  refine lv_if_ge (tgt := 42) hx hb d_MT_four_37 (by decide) (fun c3 => ?_) (fun c3 => ?_)
  · replace h := o_tt c3 h
    refine lv_bipush (v := (16:Int32)) hx hb d_MT_four_42 (by decide) ?_
    refine lv_iload_n hx hb d_MT_four_44 rfl (lv_at hl 3 rfl) ?_
    refine lv_imul hx hb d_MT_four_45 ?_
    refine lv_iload hx hb d_MT_four_46 (lv_at hl 0 rfl) ?_
    refine lv_iadd hx hb d_MT_four_48 ?_
    refine lv_topi (fun x2_49 ex2_49 => ?_)
    replace h := o_nm_at ex2_49 h
    refine lv_istore_n (lv' := [(2, .int x2_49), (4, .int y0), (0, .ref (ad 33)), (1, .int u4_x1), (3, .int x3)]) hx hb d_MT_four_49 rfl hl (by decide) rfl (fun ls hl => ?_)
    obtain ⟨x3_50, ex3_50⟩ : ∃ y : Int32, y = x3 + (1:Int32) := ⟨_, rfl⟩
    replace h := o_nm_at ex3_50 h
    refine lv_iinc (v := x3_50) (lv' := [(3, .int x3_50), (2, .int x2_49), (4, .int y0), (0, .ref (ad 33)), (1, .int u4_x1)]) hx hb d_MT_four_50 hl (k := 4) rfl (by rw [ex3_50]; rfl) (by decide) rfl (fun ls hl => ?_)
    refine lv_goto (tgt := 4) hx hb d_MT_four_53 (by decide) ?_
    cases h
    exact h0 rfl _ _ _ hP hS (lv_sub hl [3, 4, 1, 0] rfl)
  · replace h := o_ff c3 h
    cases h
    exact h1 (Nat.succ_ne_zero 0) _ _ _ hP hS (lv_sub hl [] rfl)
set_option maxHeartbeats 4000000 in
set_option maxRecDepth 100000 in
theorem f_MT_four_b4_a {E : (Nat → Prop) → State → Heap → Prop} {p : Program} {l : Launch} {e : Env} {s : State} {m : MethodId} {args : Array Value} {below : List Frame} {meth : Method} {c : Code} {D : va_G} {ad kd sd vd xd : Nat → Nat} {ca : Nat → ClassId} {A : Nat → Prop} {ky ty : Nat → Option Nat} {Q : State → Prop} (hE : o_EK E kd sd vd xd) (hKy : m_KY ky ty sd) (C : o_Cx E p s m args meth c D m_cls (m_tys ca) "SchemaJudgeModel$Text" b_MT_four (some .int) 5 cc_MT_four A) (hDD : ∀ (rt : Nat) (Ni : SNI) (Np : SNP) (No : SNO) (Nx : SNX) (Nf : SNF) (Na : SNA) (Nh : SNH) (Nq : SNQ) (Nj : SNJ) (M0 : SMT) (M1 : SMT), va_D A (m_cw ad ca ky ty rt Ni Np No Nx Nf Na Nh Nq Nj M0 M1)) (n : Nat) (u4_x1 : Int32) (u4_a0 : SMT) (u4_Ni : SNI) (u4_Np : SNP) (u4_No : SNO) (u4_Nx : SNX) (u4_Nf : SNF) (u4_Na : SNA) (u4_Nh : SNH) (u4_Nq : SNQ) (u4_Nj : SNJ) (u4_M1 : SMT) (u4_rt : Nat) (z : Int32 × Int32) (q : Nat × Int32 × Int32) (h : m_MT_four_b4 n u4_x1 u4_a0 z = some q) (h0 : q.1 = 0 → o_At p l e rm_MT_four s m args below meth c Q m_cls D A 5 4 [] (m_cw ad ca ky ty u4_rt u4_Ni u4_Np u4_No u4_Nx u4_Nf u4_Na u4_Nh u4_Nq u4_Nj u4_a0 u4_M1) [(0, .ref (ad 33)), (1, .int u4_x1), (2, .int q.2.1), (3, .int q.2.2)]) (h1 : q.1 ≠ 0 → (if q.1 = 1 then o_At p l e rm_MT_four s m args below meth c Q m_cls D A 5 40 [] (m_cw ad ca ky ty u4_rt u4_Ni u4_Np u4_No u4_Nx u4_Nf u4_Na u4_Nh u4_Nq u4_Nj u4_a0 u4_M1) [] else o_At p l e rm_MT_four s m args below meth c Q m_cls D A 5 56 [] (m_cw ad ca ky ty u4_rt u4_Ni u4_Np u4_No u4_Nx u4_Nf u4_Na u4_Nh u4_Nq u4_Nj u4_a0 u4_M1) [(2, .int q.2.1)])) : o_At p l e rm_MT_four s m args below meth c Q m_cls D A 5 4 [] (m_cw ad ca ky ty u4_rt u4_Ni u4_Np u4_No u4_Nx u4_Nf u4_Na u4_Nh u4_Nq u4_Nj u4_a0 u4_M1) [(0, .ref (ad 33)), (1, .int u4_x1), (2, .int z.1), (3, .int z.2)] := by
  unfold m_MT_four_b4 at h
  intro H locs ls hP hS hl
  have C0 := C
  obtain ⟨hx, hb, -, -, -, hown, hts, hK, -, -⟩ := C0
  refine lv_iload_n hx hb d_MT_four_4 rfl (lv_at hl 3 rfl) ?_
  refine lv_iconst (v := (4:Int32)) hx hb d_MT_four_5 (by decide) ?_
  refine lv_icmp_ge (tgt := 56) hx hb d_MT_four_6 (by decide) (fun c1 => ?_) (fun c1 => ?_)
  · replace h := o_tt c1 h
    cases h
    exact h1 (Nat.succ_ne_zero 1) _ _ _ hP hS (lv_sub hl [2] rfl)
  · replace h := o_ff c1 h
    refine lv_aload_n hx hb d_MT_four_9 rfl (lv_at hl 0 rfl) ?_
    refine lv_iload_n hx hb d_MT_four_10 rfl (lv_at hl 1 rfl) ?_
    refine lv_iload_n hx hb d_MT_four_11 rfl (lv_at hl 3 rfl) ?_
    refine lv_iadd hx hb d_MT_four_12 ?_
    obtain ⟨q1, hq1, h⟩ := o_bd_some h
    refine o_V (st1 := [.int q1]) (w1 := (m_cw ad ca ky ty u4_rt u4_Ni u4_Np u4_No u4_Nx u4_Nf u4_Na u4_Nh u4_Nq u4_Nj u4_a0 u4_M1)) hE.1 C (e_MT_c_a hE hKy l (u4_x1 + z.2) u4_a0 u4_Ni u4_Np u4_No u4_Nx u4_Nf u4_Na u4_Nh u4_Nq u4_Nj u4_M1 u4_rt hq1) hP (hDD _ _ _ _ _ _ _ _ _ _ _ _) hS hl.1 rfl mw_33 k_8_192 k_8_193 k_8_194 k_1_13 k_8_195 hv_MT_c rfl rfl ⟨(Nat.le_of_ble_eq_true rfl), (Nat.le_of_ble_eq_true rfl)⟩ rfl (Nat.le_of_ble_eq_true rfl) ⟨Nat.zero_le _, Nat.zero_le _⟩ rfl d_MT_four_13 (fun H locs hP hS => ?_)
    refine lv_if_ge (tgt := 23) hx hb d_MT_four_16 (by decide) (fun c2 => ?_) (fun c2 => ?_)
    · replace h := o_tt c2 h
      refine lv_aload_n hx hb d_MT_four_23 rfl (lv_at hl 0 rfl) ?_
      refine lv_iload_n hx hb d_MT_four_24 rfl (lv_at hl 1 rfl) ?_
      refine lv_iload_n hx hb d_MT_four_25 rfl (lv_at hl 3 rfl) ?_
      refine lv_iadd hx hb d_MT_four_26 ?_
      obtain ⟨q2, hq2, h⟩ := o_bd_some h
      refine o_V (st1 := [.int q2]) (w1 := (m_cw ad ca ky ty u4_rt u4_Ni u4_Np u4_No u4_Nx u4_Nf u4_Na u4_Nh u4_Nq u4_Nj u4_a0 u4_M1)) hE.1 C (e_MT_c_a hE hKy l (u4_x1 + z.2) u4_a0 u4_Ni u4_Np u4_No u4_Nx u4_Nf u4_Na u4_Nh u4_Nq u4_Nj u4_M1 u4_rt hq2) hP (hDD _ _ _ _ _ _ _ _ _ _ _ _) hS hl.1 rfl mw_33 k_8_192 k_8_193 k_8_194 k_1_13 k_8_195 hv_MT_c rfl rfl ⟨(Nat.le_of_ble_eq_true rfl), (Nat.le_of_ble_eq_true rfl)⟩ rfl (Nat.le_of_ble_eq_true rfl) ⟨Nat.zero_le _, Nat.zero_le _⟩ rfl d_MT_four_27 (fun H locs hP hS => ?_)
      obtain ⟨q3, hq3, h⟩ := o_bd_some h
      refine o_S (st1 := [.int q3]) (w1 := (m_cw ad ca ky ty u4_rt u4_Ni u4_Np u4_No u4_Nx u4_Nf u4_Na u4_Nh u4_Nq u4_Nj u4_a0 u4_M1)) hE.1 C (e_MT_hex hE hKy l q2 u4_Ni u4_Np u4_No u4_Nx u4_Nf u4_Na u4_Nh u4_Nq u4_Nj u4_a0 u4_M1 u4_rt hq3) hP (hDD _ _ _ _ _ _ _ _ _ _ _ _) hS hl.1 k_8_232 k_8_233 k_1_13 k_8_234 hs_MT_hex rfl rfl ⟨(Nat.le_of_ble_eq_true rfl), (Nat.le_of_ble_eq_true rfl)⟩ rfl (Nat.le_of_ble_eq_true rfl) ⟨Nat.zero_le _, Nat.zero_le _⟩ rfl d_MT_four_30 (fun H locs hP hS => ?_)
      exact f_MT_four_j33_a hE hKy C hDD n u4_x1 u4_a0 u4_Ni u4_Np u4_No u4_Nx u4_Nf u4_Na u4_Nh u4_Nq u4_Nj u4_M1 u4_rt z.1 z.2 q3 h h0 h1 _ _ _ hP hS (lv_sub hl [0, 1, 2, 3] rfl)
    · replace h := o_ff c2 h
      refine lv_iconst (v := (-1:Int32)) hx hb d_MT_four_19 (by decide) ?_
      refine lv_goto (tgt := 33) hx hb d_MT_four_20 (by decide) ?_
      exact f_MT_four_j33_a hE hKy C hDD n u4_x1 u4_a0 u4_Ni u4_Np u4_No u4_Nx u4_Nf u4_Na u4_Nh u4_Nq u4_Nj u4_M1 u4_rt z.1 z.2 (-1:Int32) h h0 h1 _ _ _ hP hS (lv_sub hl [0, 1, 2, 3] rfl)
set_option maxHeartbeats 4000000 in
set_option maxRecDepth 100000 in
theorem e_MT_four_a {E : (Nat → Prop) → State → Heap → Prop} {D : va_G} {ad kd sd vd xd : Nat → Nat} {ca : Nat → ClassId} {ky ty : Nat → Option Nat} (hE : o_EK E kd sd vd xd) (hKy : m_KY ky ty sd) (l : Launch) (n : Nat) (x1 : Int32) (a0 : SMT) (Ni : SNI) (Np : SNP) (No : SNO) (Nx : SNX) (Nf : SNF) (Na : SNA) (Nh : SNH) (Nq : SNQ) (Nj : SNJ) (M1 : SMT) (rt : Nat) {r : Int32} (h : m_MT_four n x1 a0 = some r) : o_Cn E l D m_cls (m_tys ca) y_MT_four cc_MT_four rm_MT_four [.ref (ad 33), .int x1] (m_cw ad ca ky ty rt Ni Np No Nx Nf Na Nh Nq Nj a0 M1) (m_cw ad ca ky ty rt Ni Np No Nx Nf Na Nh Nq Nj a0 M1) (some (.int r)) := by
  refine o_Cn_of (by decide) (Nat.le_of_ble_eq_true rfl) ?_
  intro p e s m below meth c A ls C hD hP hS hl
  have hDD : ∀ (rt : Nat) (Ni : SNI) (Np : SNP) (No : SNO) (Nx : SNX) (Nf : SNF) (Na : SNA) (Nh : SNH) (Nq : SNQ) (Nj : SNJ) (M0 : SMT) (M1 : SMT), va_D A (m_cw ad ca ky ty rt Ni Np No Nx Nf Na Nh Nq Nj M0 M1) := fun _ _ _ _ _ _ _ _ _ _ _ _ => o_D_map hD rfl
  have hl : lv_has ls 5 [(0, .ref (ad 33)), (1, .int x1)] := hl
  unfold m_MT_four at h
  have C0 := C
  obtain ⟨hx, hb, -, -, -, hown, hts, hK, -, -⟩ := C0
  refine lv_iconst (v := (0:Int32)) hx hb d_MT_four_0 (by decide) ?_
  refine lv_istore_n (lv' := [(2, .int (0:Int32)), (0, .ref (ad 33)), (1, .int x1)]) hx hb d_MT_four_1 rfl hl (by decide) rfl (fun ls hl => ?_)
  refine lv_iconst (v := (0:Int32)) hx hb d_MT_four_2 (by decide) ?_
  refine lv_istore_n (lv' := [(3, .int (0:Int32)), (2, .int (0:Int32)), (0, .ref (ad 33)), (1, .int x1)]) hx hb d_MT_four_3 rfl hl (by decide) rfl (fun ls hl => ?_)
  obtain ⟨q4, hq4, h⟩ := o_bd_some h
  refine o_sim2 (AH := fun zz => o_At p l e rm_MT_four s m _ below meth c _ m_cls D A 5 4 [] (m_cw ad ca ky ty rt Ni Np No Nx Nf Na Nh Nq Nj a0 M1) [(0, .ref (ad 33)), (1, .int x1), (2, .int zz.1), (3, .int zz.2)]) (AX := fun qq => if qq.1 = 1 then o_At p l e rm_MT_four s m _ below meth c _ m_cls D A 5 40 [] (m_cw ad ca ky ty rt Ni Np No Nx Nf Na Nh Nq Nj a0 M1) [] else o_At p l e rm_MT_four s m _ below meth c _ m_cls D A 5 56 [] (m_cw ad ca ky ty rt Ni Np No Nx Nf Na Nh Nq Nj a0 M1) [(2, .int qq.2.1)]) (fun zz qq h h0 h1 => f_MT_four_b4_a hE hKy C hDD n x1 a0 Ni Np No Nx Nf Na Nh Nq Nj M1 rt zz qq h h0 h1) n _ q4 hq4 ?_ _ _ _ hP hS (lv_sub hl [2, 3, 1, 0] rfl)
  by_cases c4 : q4.1 = 1
  · replace h := o_tt c4 h
    refine o_ip c4 ?_
    intro H locs ls hP hS hl
    refine lv_iconst (v := (-1:Int32)) hx hb d_MT_four_40 (by decide) ?_
    cases h
    exact o_ri (v := (-1:Int32)) C hP hS d_MT_four_41
  replace h := o_ff c4 h
  refine o_in_ c4 ?_
  intro H locs ls hP hS hl
  refine lv_iload_n hx hb d_MT_four_56 rfl (lv_at hl 0 rfl) ?_
  cases h
  exact o_ri C hP hS d_MT_four_57
set_option maxHeartbeats 4000000 in
set_option maxRecDepth 100000 in
theorem f_MT_four_j33_b {E : (Nat → Prop) → State → Heap → Prop} {p : Program} {l : Launch} {e : Env} {s : State} {m : MethodId} {args : Array Value} {below : List Frame} {meth : Method} {c : Code} {D : va_G} {ad kd sd vd xd : Nat → Nat} {ca : Nat → ClassId} {A : Nat → Prop} {ky ty : Nat → Option Nat} {Q : State → Prop} (hE : o_EK E kd sd vd xd) (hKy : m_KY ky ty sd) (C : o_Cx E p s m args meth c D m_cls (m_tys ca) "SchemaJudgeModel$Text" b_MT_four (some .int) 5 cc_MT_four A) (hDD : ∀ (rt : Nat) (Ni : SNI) (Np : SNP) (No : SNO) (Nx : SNX) (Nf : SNF) (Na : SNA) (Nh : SNH) (Nq : SNQ) (Nj : SNJ) (M0 : SMT) (M1 : SMT), va_D A (m_cw ad ca ky ty rt Ni Np No Nx Nf Na Nh Nq Nj M0 M1)) (n : Nat) (u4_x1 : Int32) (u4_a0 : SMT) (u4_Ni : SNI) (u4_Np : SNP) (u4_No : SNO) (u4_Nx : SNX) (u4_Nf : SNF) (u4_Na : SNA) (u4_Nh : SNH) (u4_Nq : SNQ) (u4_Nj : SNJ) (u4_M0 : SMT) (u4_rt : Nat) (x2 : Int32) (x3 : Int32) (y0 : Int32) {q : Nat × Int32 × Int32} (h : m_MT_four_j33 n u4_x1 x2 x3 y0 u4_a0 = some q) (h0 : q.1 = 0 → o_At p l e rm_MT_four s m args below meth c Q m_cls D A 5 4 [] (m_cw ad ca ky ty u4_rt u4_Ni u4_Np u4_No u4_Nx u4_Nf u4_Na u4_Nh u4_Nq u4_Nj u4_M0 u4_a0) [(0, .ref (ad 48)), (1, .int u4_x1), (2, .int q.2.1), (3, .int q.2.2)]) (h1 : q.1 ≠ 0 → (if q.1 = 1 then o_At p l e rm_MT_four s m args below meth c Q m_cls D A 5 40 [] (m_cw ad ca ky ty u4_rt u4_Ni u4_Np u4_No u4_Nx u4_Nf u4_Na u4_Nh u4_Nq u4_Nj u4_M0 u4_a0) [] else o_At p l e rm_MT_four s m args below meth c Q m_cls D A 5 56 [] (m_cw ad ca ky ty u4_rt u4_Ni u4_Np u4_No u4_Nx u4_Nf u4_Na u4_Nh u4_Nq u4_Nj u4_M0 u4_a0) [(2, .int q.2.1)])) : o_At p l e rm_MT_four s m args below meth c Q m_cls D A 5 33 [.int y0] (m_cw ad ca ky ty u4_rt u4_Ni u4_Np u4_No u4_Nx u4_Nf u4_Na u4_Nh u4_Nq u4_Nj u4_M0 u4_a0) [(0, .ref (ad 48)), (1, .int u4_x1), (2, .int x2), (3, .int x3)] := by
  unfold m_MT_four_j33 at h
  intro H locs ls hP hS hl
  have C0 := C
  obtain ⟨hx, hb, -, -, -, hown, hts, hK, -, -⟩ := C0
  refine lv_istore (lv' := [(4, .int y0), (0, .ref (ad 48)), (1, .int u4_x1), (2, .int x2), (3, .int x3)]) hx hb d_MT_four_33 hl (by decide) rfl (fun ls hl => ?_)
  refine lv_iload hx hb d_MT_four_35 (lv_at hl 0 rfl) ?_
  refine lv_if_ge (tgt := 42) hx hb d_MT_four_37 (by decide) (fun c3 => ?_) (fun c3 => ?_)
  · replace h := o_tt c3 h
    refine lv_bipush (v := (16:Int32)) hx hb d_MT_four_42 (by decide) ?_
    refine lv_iload_n hx hb d_MT_four_44 rfl (lv_at hl 3 rfl) ?_
    refine lv_imul hx hb d_MT_four_45 ?_
    refine lv_iload hx hb d_MT_four_46 (lv_at hl 0 rfl) ?_
    refine lv_iadd hx hb d_MT_four_48 ?_
    refine lv_topi (fun x2_49 ex2_49 => ?_)
    replace h := o_nm_at ex2_49 h
    refine lv_istore_n (lv' := [(2, .int x2_49), (4, .int y0), (0, .ref (ad 48)), (1, .int u4_x1), (3, .int x3)]) hx hb d_MT_four_49 rfl hl (by decide) rfl (fun ls hl => ?_)
    obtain ⟨x3_50, ex3_50⟩ : ∃ y : Int32, y = x3 + (1:Int32) := ⟨_, rfl⟩
    replace h := o_nm_at ex3_50 h
    refine lv_iinc (v := x3_50) (lv' := [(3, .int x3_50), (2, .int x2_49), (4, .int y0), (0, .ref (ad 48)), (1, .int u4_x1)]) hx hb d_MT_four_50 hl (k := 4) rfl (by rw [ex3_50]; rfl) (by decide) rfl (fun ls hl => ?_)
    refine lv_goto (tgt := 4) hx hb d_MT_four_53 (by decide) ?_
    cases h
    exact h0 rfl _ _ _ hP hS (lv_sub hl [3, 4, 1, 0] rfl)
  · replace h := o_ff c3 h
    cases h
    exact h1 (Nat.succ_ne_zero 0) _ _ _ hP hS (lv_sub hl [] rfl)
set_option maxHeartbeats 4000000 in
set_option maxRecDepth 100000 in
theorem f_MT_four_b4_b {E : (Nat → Prop) → State → Heap → Prop} {p : Program} {l : Launch} {e : Env} {s : State} {m : MethodId} {args : Array Value} {below : List Frame} {meth : Method} {c : Code} {D : va_G} {ad kd sd vd xd : Nat → Nat} {ca : Nat → ClassId} {A : Nat → Prop} {ky ty : Nat → Option Nat} {Q : State → Prop} (hE : o_EK E kd sd vd xd) (hKy : m_KY ky ty sd) (C : o_Cx E p s m args meth c D m_cls (m_tys ca) "SchemaJudgeModel$Text" b_MT_four (some .int) 5 cc_MT_four A) (hDD : ∀ (rt : Nat) (Ni : SNI) (Np : SNP) (No : SNO) (Nx : SNX) (Nf : SNF) (Na : SNA) (Nh : SNH) (Nq : SNQ) (Nj : SNJ) (M0 : SMT) (M1 : SMT), va_D A (m_cw ad ca ky ty rt Ni Np No Nx Nf Na Nh Nq Nj M0 M1)) (n : Nat) (u4_x1 : Int32) (u4_a0 : SMT) (u4_Ni : SNI) (u4_Np : SNP) (u4_No : SNO) (u4_Nx : SNX) (u4_Nf : SNF) (u4_Na : SNA) (u4_Nh : SNH) (u4_Nq : SNQ) (u4_Nj : SNJ) (u4_M0 : SMT) (u4_rt : Nat) (z : Int32 × Int32) (q : Nat × Int32 × Int32) (h : m_MT_four_b4 n u4_x1 u4_a0 z = some q) (h0 : q.1 = 0 → o_At p l e rm_MT_four s m args below meth c Q m_cls D A 5 4 [] (m_cw ad ca ky ty u4_rt u4_Ni u4_Np u4_No u4_Nx u4_Nf u4_Na u4_Nh u4_Nq u4_Nj u4_M0 u4_a0) [(0, .ref (ad 48)), (1, .int u4_x1), (2, .int q.2.1), (3, .int q.2.2)]) (h1 : q.1 ≠ 0 → (if q.1 = 1 then o_At p l e rm_MT_four s m args below meth c Q m_cls D A 5 40 [] (m_cw ad ca ky ty u4_rt u4_Ni u4_Np u4_No u4_Nx u4_Nf u4_Na u4_Nh u4_Nq u4_Nj u4_M0 u4_a0) [] else o_At p l e rm_MT_four s m args below meth c Q m_cls D A 5 56 [] (m_cw ad ca ky ty u4_rt u4_Ni u4_Np u4_No u4_Nx u4_Nf u4_Na u4_Nh u4_Nq u4_Nj u4_M0 u4_a0) [(2, .int q.2.1)])) : o_At p l e rm_MT_four s m args below meth c Q m_cls D A 5 4 [] (m_cw ad ca ky ty u4_rt u4_Ni u4_Np u4_No u4_Nx u4_Nf u4_Na u4_Nh u4_Nq u4_Nj u4_M0 u4_a0) [(0, .ref (ad 48)), (1, .int u4_x1), (2, .int z.1), (3, .int z.2)] := by
  unfold m_MT_four_b4 at h
  intro H locs ls hP hS hl
  have C0 := C
  obtain ⟨hx, hb, -, -, -, hown, hts, hK, -, -⟩ := C0
  refine lv_iload_n hx hb d_MT_four_4 rfl (lv_at hl 3 rfl) ?_
  refine lv_iconst (v := (4:Int32)) hx hb d_MT_four_5 (by decide) ?_
  refine lv_icmp_ge (tgt := 56) hx hb d_MT_four_6 (by decide) (fun c1 => ?_) (fun c1 => ?_)
  · replace h := o_tt c1 h
    cases h
    exact h1 (Nat.succ_ne_zero 1) _ _ _ hP hS (lv_sub hl [2] rfl)
  · replace h := o_ff c1 h
    refine lv_aload_n hx hb d_MT_four_9 rfl (lv_at hl 0 rfl) ?_
    refine lv_iload_n hx hb d_MT_four_10 rfl (lv_at hl 1 rfl) ?_
    refine lv_iload_n hx hb d_MT_four_11 rfl (lv_at hl 3 rfl) ?_
    refine lv_iadd hx hb d_MT_four_12 ?_
    obtain ⟨q1, hq1, h⟩ := o_bd_some h
    refine o_V (st1 := [.int q1]) (w1 := (m_cw ad ca ky ty u4_rt u4_Ni u4_Np u4_No u4_Nx u4_Nf u4_Na u4_Nh u4_Nq u4_Nj u4_M0 u4_a0)) hE.1 C (e_MT_c_b hE hKy l (u4_x1 + z.2) u4_a0 u4_Ni u4_Np u4_No u4_Nx u4_Nf u4_Na u4_Nh u4_Nq u4_Nj u4_M0 u4_rt hq1) hP (hDD _ _ _ _ _ _ _ _ _ _ _ _) hS hl.1 rfl mw_48 k_8_192 k_8_193 k_8_194 k_1_13 k_8_195 hv_MT_c rfl rfl ⟨(Nat.le_of_ble_eq_true rfl), (Nat.le_of_ble_eq_true rfl)⟩ rfl (Nat.le_of_ble_eq_true rfl) ⟨Nat.zero_le _, Nat.zero_le _⟩ rfl d_MT_four_13 (fun H locs hP hS => ?_)
    refine lv_if_ge (tgt := 23) hx hb d_MT_four_16 (by decide) (fun c2 => ?_) (fun c2 => ?_)
    · replace h := o_tt c2 h
      refine lv_aload_n hx hb d_MT_four_23 rfl (lv_at hl 0 rfl) ?_
      refine lv_iload_n hx hb d_MT_four_24 rfl (lv_at hl 1 rfl) ?_
      refine lv_iload_n hx hb d_MT_four_25 rfl (lv_at hl 3 rfl) ?_
      refine lv_iadd hx hb d_MT_four_26 ?_
      obtain ⟨q2, hq2, h⟩ := o_bd_some h
      refine o_V (st1 := [.int q2]) (w1 := (m_cw ad ca ky ty u4_rt u4_Ni u4_Np u4_No u4_Nx u4_Nf u4_Na u4_Nh u4_Nq u4_Nj u4_M0 u4_a0)) hE.1 C (e_MT_c_b hE hKy l (u4_x1 + z.2) u4_a0 u4_Ni u4_Np u4_No u4_Nx u4_Nf u4_Na u4_Nh u4_Nq u4_Nj u4_M0 u4_rt hq2) hP (hDD _ _ _ _ _ _ _ _ _ _ _ _) hS hl.1 rfl mw_48 k_8_192 k_8_193 k_8_194 k_1_13 k_8_195 hv_MT_c rfl rfl ⟨(Nat.le_of_ble_eq_true rfl), (Nat.le_of_ble_eq_true rfl)⟩ rfl (Nat.le_of_ble_eq_true rfl) ⟨Nat.zero_le _, Nat.zero_le _⟩ rfl d_MT_four_27 (fun H locs hP hS => ?_)
      obtain ⟨q3, hq3, h⟩ := o_bd_some h
      refine o_S (st1 := [.int q3]) (w1 := (m_cw ad ca ky ty u4_rt u4_Ni u4_Np u4_No u4_Nx u4_Nf u4_Na u4_Nh u4_Nq u4_Nj u4_M0 u4_a0)) hE.1 C (e_MT_hex hE hKy l q2 u4_Ni u4_Np u4_No u4_Nx u4_Nf u4_Na u4_Nh u4_Nq u4_Nj u4_M0 u4_a0 u4_rt hq3) hP (hDD _ _ _ _ _ _ _ _ _ _ _ _) hS hl.1 k_8_232 k_8_233 k_1_13 k_8_234 hs_MT_hex rfl rfl ⟨(Nat.le_of_ble_eq_true rfl), (Nat.le_of_ble_eq_true rfl)⟩ rfl (Nat.le_of_ble_eq_true rfl) ⟨Nat.zero_le _, Nat.zero_le _⟩ rfl d_MT_four_30 (fun H locs hP hS => ?_)
      exact f_MT_four_j33_b hE hKy C hDD n u4_x1 u4_a0 u4_Ni u4_Np u4_No u4_Nx u4_Nf u4_Na u4_Nh u4_Nq u4_Nj u4_M0 u4_rt z.1 z.2 q3 h h0 h1 _ _ _ hP hS (lv_sub hl [0, 1, 2, 3] rfl)
    · replace h := o_ff c2 h
      refine lv_iconst (v := (-1:Int32)) hx hb d_MT_four_19 (by decide) ?_
      refine lv_goto (tgt := 33) hx hb d_MT_four_20 (by decide) ?_
      exact f_MT_four_j33_b hE hKy C hDD n u4_x1 u4_a0 u4_Ni u4_Np u4_No u4_Nx u4_Nf u4_Na u4_Nh u4_Nq u4_Nj u4_M0 u4_rt z.1 z.2 (-1:Int32) h h0 h1 _ _ _ hP hS (lv_sub hl [0, 1, 2, 3] rfl)
set_option maxHeartbeats 4000000 in
set_option maxRecDepth 100000 in
theorem e_MT_four_b {E : (Nat → Prop) → State → Heap → Prop} {D : va_G} {ad kd sd vd xd : Nat → Nat} {ca : Nat → ClassId} {ky ty : Nat → Option Nat} (hE : o_EK E kd sd vd xd) (hKy : m_KY ky ty sd) (l : Launch) (n : Nat) (x1 : Int32) (a0 : SMT) (Ni : SNI) (Np : SNP) (No : SNO) (Nx : SNX) (Nf : SNF) (Na : SNA) (Nh : SNH) (Nq : SNQ) (Nj : SNJ) (M0 : SMT) (rt : Nat) {r : Int32} (h : m_MT_four n x1 a0 = some r) : o_Cn E l D m_cls (m_tys ca) y_MT_four cc_MT_four rm_MT_four [.ref (ad 48), .int x1] (m_cw ad ca ky ty rt Ni Np No Nx Nf Na Nh Nq Nj M0 a0) (m_cw ad ca ky ty rt Ni Np No Nx Nf Na Nh Nq Nj M0 a0) (some (.int r)) := by
  refine o_Cn_of (by decide) (Nat.le_of_ble_eq_true rfl) ?_
  intro p e s m below meth c A ls C hD hP hS hl
  have hDD : ∀ (rt : Nat) (Ni : SNI) (Np : SNP) (No : SNO) (Nx : SNX) (Nf : SNF) (Na : SNA) (Nh : SNH) (Nq : SNQ) (Nj : SNJ) (M0 : SMT) (M1 : SMT), va_D A (m_cw ad ca ky ty rt Ni Np No Nx Nf Na Nh Nq Nj M0 M1) := fun _ _ _ _ _ _ _ _ _ _ _ _ => o_D_map hD rfl
  have hl : lv_has ls 5 [(0, .ref (ad 48)), (1, .int x1)] := hl
  unfold m_MT_four at h
  have C0 := C
  obtain ⟨hx, hb, -, -, -, hown, hts, hK, -, -⟩ := C0
  refine lv_iconst (v := (0:Int32)) hx hb d_MT_four_0 (by decide) ?_
  refine lv_istore_n (lv' := [(2, .int (0:Int32)), (0, .ref (ad 48)), (1, .int x1)]) hx hb d_MT_four_1 rfl hl (by decide) rfl (fun ls hl => ?_)
  refine lv_iconst (v := (0:Int32)) hx hb d_MT_four_2 (by decide) ?_
  refine lv_istore_n (lv' := [(3, .int (0:Int32)), (2, .int (0:Int32)), (0, .ref (ad 48)), (1, .int x1)]) hx hb d_MT_four_3 rfl hl (by decide) rfl (fun ls hl => ?_)
  obtain ⟨q4, hq4, h⟩ := o_bd_some h
  refine o_sim2 (AH := fun zz => o_At p l e rm_MT_four s m _ below meth c _ m_cls D A 5 4 [] (m_cw ad ca ky ty rt Ni Np No Nx Nf Na Nh Nq Nj M0 a0) [(0, .ref (ad 48)), (1, .int x1), (2, .int zz.1), (3, .int zz.2)]) (AX := fun qq => if qq.1 = 1 then o_At p l e rm_MT_four s m _ below meth c _ m_cls D A 5 40 [] (m_cw ad ca ky ty rt Ni Np No Nx Nf Na Nh Nq Nj M0 a0) [] else o_At p l e rm_MT_four s m _ below meth c _ m_cls D A 5 56 [] (m_cw ad ca ky ty rt Ni Np No Nx Nf Na Nh Nq Nj M0 a0) [(2, .int qq.2.1)]) (fun zz qq h h0 h1 => f_MT_four_b4_b hE hKy C hDD n x1 a0 Ni Np No Nx Nf Na Nh Nq Nj M0 rt zz qq h h0 h1) n _ q4 hq4 ?_ _ _ _ hP hS (lv_sub hl [2, 3, 1, 0] rfl)
  by_cases c4 : q4.1 = 1
  · replace h := o_tt c4 h
    refine o_ip c4 ?_
    intro H locs ls hP hS hl
    refine lv_iconst (v := (-1:Int32)) hx hb d_MT_four_40 (by decide) ?_
    cases h
    exact o_ri (v := (-1:Int32)) C hP hS d_MT_four_41
  replace h := o_ff c4 h
  refine o_in_ c4 ?_
  intro H locs ls hP hS hl
  refine lv_iload_n hx hb d_MT_four_56 rfl (lv_at hl 0 rfl) ?_
  cases h
  exact o_ri C hP hS d_MT_four_57
set_option maxHeartbeats 4000000 in
set_option maxRecDepth 100000 in
theorem f_MT_escape_b122_a {E : (Nat → Prop) → State → Heap → Prop} {p : Program} {l : Launch} {e : Env} {s : State} {m : MethodId} {args : Array Value} {below : List Frame} {meth : Method} {c : Code} {D : va_G} {ad kd sd vd xd : Nat → Nat} {ca : Nat → ClassId} {A : Nat → Prop} {ky ty : Nat → Option Nat} {Q : State → Prop} (hE : o_EK E kd sd vd xd) (hKy : m_KY ky ty sd) (C : o_Cx E p s m args meth c D m_cls (m_tys ca) "SchemaJudgeModel$Text" b_MT_escape (some .boolean) 5 cc_MT_escape A) (hDD : ∀ (rt : Nat) (Ni : SNI) (Np : SNP) (No : SNO) (Nx : SNX) (Nf : SNF) (Na : SNA) (Nh : SNH) (Nq : SNQ) (Nj : SNJ) (M0 : SMT) (M1 : SMT), va_D A (m_cw ad ca ky ty rt Ni Np No Nx Nf Na Nh Nq Nj M0 M1)) (n : Nat) (u122_x1 : Int32) (u122_a0 : SMT) (u122_Ni : SNI) (u122_Np : SNP) (u122_No : SNO) (u122_Nx : SNX) (u122_Nf : SNF) (u122_Na : SNA) (u122_Nh : SNH) (u122_Nq : SNQ) (u122_Nj : SNJ) (u122_M1 : SMT) (u122_rt : Nat) (z : Int32) (q : Nat × Int32) (h : m_MT_escape_b122 n u122_x1 u122_a0 z = some q) (h0 : q.1 = 0 → o_At p l e rm_MT_escape s m args below meth c Q m_cls D A 5 122 [] (m_cw ad ca ky ty u122_rt u122_Ni u122_Np u122_No u122_Nx u122_Nf u122_Na u122_Nh u122_Nq u122_Nj u122_a0 u122_M1) [(0, .ref (ad 33)), (1, .int u122_x1), (4, .int q.2)]) (h1 : q.1 ≠ 0 → (if q.1 = 1 then o_At p l e rm_MT_escape s m args below meth c Q m_cls D A 5 159 [] (m_cw ad ca ky ty u122_rt u122_Ni u122_Np u122_No u122_Nx u122_Nf u122_Na u122_Nh u122_Nq u122_Nj u122_a0 u122_M1) [(0, .ref (ad 33)), (4, .int q.2)] else o_At p l e rm_MT_escape s m args below meth c Q m_cls D A 5 177 [] (m_cw ad ca ky ty u122_rt u122_Ni u122_Np u122_No u122_Nx u122_Nf u122_Na u122_Nh u122_Nq u122_Nj u122_a0 u122_M1) [(0, .ref (ad 33)), (1, .int u122_x1)])) : o_At p l e rm_MT_escape s m args below meth c Q m_cls D A 5 122 [] (m_cw ad ca ky ty u122_rt u122_Ni u122_Np u122_No u122_Nx u122_Nf u122_Na u122_Nh u122_Nq u122_Nj u122_a0 u122_M1) [(0, .ref (ad 33)), (1, .int u122_x1), (4, .int z)] := by
  unfold m_MT_escape_b122 at h
  intro H locs ls hP hS hl
  have C0 := C
  obtain ⟨hx, hb, -, -, -, hown, hts, hK, -, -⟩ := C0
  refine lv_iload hx hb d_MT_escape_122 (lv_at hl 2 rfl) ?_
  refine lv_iconst (v := (4:Int32)) hx hb d_MT_escape_124 (by decide) ?_
  refine lv_icmp_ge (tgt := 177) hx hb d_MT_escape_125 (by decide) (fun c4 => ?_) (fun c4 => ?_)
  · replace h := o_tt c4 h
    cases h
    exact h1 (Nat.succ_ne_zero 1) _ _ _ hP hS (lv_sub hl [0, 1] rfl)
  · replace h := o_ff c4 h
    refine lv_aload_n hx hb d_MT_escape_128 rfl (lv_at hl 0 rfl) ?_
    refine lv_aload_n hx hb d_MT_escape_129 rfl (lv_at hl 0 rfl) ?_
    refine o_get (v := .int (MT_at u122_a0)) C in_MT hP 33 mw_33 rfl 15 (by decide) k_7_129 rfl rfl d_MT_escape_130 ?_
    refine lv_iload hx hb d_MT_escape_133 (lv_at hl 2 rfl) ?_
    refine lv_iadd hx hb d_MT_escape_135 ?_
    obtain ⟨q2, hq2, h⟩ := o_bd_some h
    refine o_V (st1 := [.int q2]) (w1 := (m_cw ad ca ky ty u122_rt u122_Ni u122_Np u122_No u122_Nx u122_Nf u122_Na u122_Nh u122_Nq u122_Nj u122_a0 u122_M1)) hE.1 C (e_MT_c_a hE hKy l ((MT_at u122_a0) + z) u122_a0 u122_Ni u122_Np u122_No u122_Nx u122_Nf u122_Na u122_Nh u122_Nq u122_Nj u122_M1 u122_rt hq2) hP (hDD _ _ _ _ _ _ _ _ _ _ _ _) hS hl.1 rfl mw_33 k_8_192 k_8_193 k_8_194 k_1_13 k_8_195 hv_MT_c rfl rfl ⟨(Nat.le_of_ble_eq_true rfl), (Nat.le_of_ble_eq_true rfl)⟩ rfl (Nat.le_of_ble_eq_true rfl) ⟨Nat.zero_le _, Nat.zero_le _⟩ rfl d_MT_escape_136 (fun H locs hP hS => ?_)
    refine lv_if_lt (tgt := 159) hx hb d_MT_escape_139 (by decide) (fun c5 => ?_) (fun c5 => ?_)
    · replace h := o_tt c5 h
      cases h
      exact h1 (Nat.succ_ne_zero 0) _ _ _ hP hS (lv_sub hl [0, 2] rfl)
    · replace h := o_ff c5 h
      refine lv_aload_n hx hb d_MT_escape_142 rfl (lv_at hl 0 rfl) ?_
      refine lv_aload_n hx hb d_MT_escape_143 rfl (lv_at hl 0 rfl) ?_
      refine o_get (v := .int (MT_at u122_a0)) C in_MT hP 33 mw_33 rfl 15 (by decide) k_7_129 rfl rfl d_MT_escape_144 ?_
      refine lv_iload hx hb d_MT_escape_147 (lv_at hl 2 rfl) ?_
      refine lv_iadd hx hb d_MT_escape_149 ?_
      obtain ⟨q3, hq3, h⟩ := o_bd_some h
      refine o_V (st1 := [.int q3]) (w1 := (m_cw ad ca ky ty u122_rt u122_Ni u122_Np u122_No u122_Nx u122_Nf u122_Na u122_Nh u122_Nq u122_Nj u122_a0 u122_M1)) hE.1 C (e_MT_c_a hE hKy l ((MT_at u122_a0) + z) u122_a0 u122_Ni u122_Np u122_No u122_Nx u122_Nf u122_Na u122_Nh u122_Nq u122_Nj u122_M1 u122_rt hq3) hP (hDD _ _ _ _ _ _ _ _ _ _ _ _) hS hl.1 rfl mw_33 k_8_192 k_8_193 k_8_194 k_1_13 k_8_195 hv_MT_c rfl rfl ⟨(Nat.le_of_ble_eq_true rfl), (Nat.le_of_ble_eq_true rfl)⟩ rfl (Nat.le_of_ble_eq_true rfl) ⟨Nat.zero_le _, Nat.zero_le _⟩ rfl d_MT_escape_150 (fun H locs hP hS => ?_)
      obtain ⟨q4, hq4, h⟩ := o_bd_some h
      refine o_S (st1 := [.int q4]) (w1 := (m_cw ad ca ky ty u122_rt u122_Ni u122_Np u122_No u122_Nx u122_Nf u122_Na u122_Nh u122_Nq u122_Nj u122_a0 u122_M1)) hE.1 C (e_MT_hex hE hKy l q3 u122_Ni u122_Np u122_No u122_Nx u122_Nf u122_Na u122_Nh u122_Nq u122_Nj u122_a0 u122_M1 u122_rt hq4) hP (hDD _ _ _ _ _ _ _ _ _ _ _ _) hS hl.1 k_8_232 k_8_233 k_1_13 k_8_234 hs_MT_hex rfl rfl ⟨(Nat.le_of_ble_eq_true rfl), (Nat.le_of_ble_eq_true rfl)⟩ rfl (Nat.le_of_ble_eq_true rfl) ⟨Nat.zero_le _, Nat.zero_le _⟩ rfl d_MT_escape_153 (fun H locs hP hS => ?_)
      refine lv_if_ge (tgt := 171) hx hb d_MT_escape_156 (by decide) (fun c6 => ?_) (fun c6 => ?_)
      · replace h := o_tt c6 h
        obtain ⟨x4_171, ex4_171⟩ : ∃ y : Int32, y = z + (1:Int32) := ⟨_, rfl⟩
        replace h := o_nm_at ex4_171 h
        refine lv_iinc (v := x4_171) (lv' := [(4, .int x4_171), (0, .ref (ad 33)), (1, .int u122_x1)]) hx hb d_MT_escape_171 hl (k := 2) rfl (by rw [ex4_171]; rfl) (by decide) rfl (fun ls hl => ?_)
        refine lv_goto (tgt := 122) hx hb d_MT_escape_174 (by decide) ?_
        cases h
        exact h0 rfl _ _ _ hP hS (lv_sub hl [1, 2, 0] rfl)
      · replace h := o_ff c6 h
        cases h
        exact h1 (Nat.succ_ne_zero 0) _ _ _ hP hS (lv_sub hl [0, 2] rfl)
set_option maxHeartbeats 4000000 in
set_option maxRecDepth 100000 in
theorem f_MT_escape_j159_a {E : (Nat → Prop) → State → Heap → Prop} {p : Program} {l : Launch} {e : Env} {s : State} {m : MethodId} {args : Array Value} {below : List Frame} {meth : Method} {c : Code} {D : va_G} {ad kd sd vd xd : Nat → Nat} {ca : Nat → ClassId} {A : Nat → Prop} {ky ty : Nat → Option Nat} (hE : o_EK E kd sd vd xd) (hKy : m_KY ky ty sd) (C : o_Cx E p s m args meth c D m_cls (m_tys ca) "SchemaJudgeModel$Text" b_MT_escape (some .boolean) 5 cc_MT_escape A) (hDD : ∀ (rt : Nat) (Ni : SNI) (Np : SNP) (No : SNO) (Nx : SNX) (Nf : SNF) (Na : SNA) (Nh : SNH) (Nq : SNQ) (Nj : SNJ) (M0 : SMT) (M1 : SMT), va_D A (m_cw ad ca ky ty rt Ni Np No Nx Nf Na Nh Nq Nj M0 M1)) (n : Nat) (x4 : Int32) (a0 : SMT) (Ni : SNI) (Np : SNP) (No : SNO) (Nx : SNX) (Nf : SNF) (Na : SNA) (Nh : SNH) (Nq : SNQ) (Nj : SNJ) (M1 : SMT) (rt : Nat) {r : Int32 × SMT} (h : m_MT_escape_j159 n x4 a0 = some r) : o_At p l e rm_MT_escape s m args below meth c (MQ below (o_Qx D m_cls (some (.int r.1)) (m_cw ad ca ky ty rt Ni Np No Nx Nf Na Nh Nq Nj r.2 M1) A) args s 0 0 A) m_cls D A 5 159 [] (m_cw ad ca ky ty rt Ni Np No Nx Nf Na Nh Nq Nj a0 M1) [(0, .ref (ad 33)), (4, .int x4)] := by
  unfold m_MT_escape_j159 at h
  intro H locs ls hP hS hl
  have C0 := C
  obtain ⟨hx, hb, -, -, -, hown, hts, hK, -, -⟩ := C0
  refine lv_aload_n hx hb d_MT_escape_159 rfl (lv_at hl 0 rfl) ?_
  refine lv_aload_n hx hb d_MT_escape_160 rfl (lv_at hl 0 rfl) ?_
  refine o_get (v := .int (MT_at a0)) C in_MT hP 33 mw_33 rfl 15 (by decide) k_7_129 rfl rfl d_MT_escape_161 ?_
  refine lv_iload hx hb d_MT_escape_164 (lv_at hl 1 rfl) ?_
  refine lv_iadd hx hb d_MT_escape_166 ?_
  obtain ⟨q6, hq6, h⟩ := o_bd_some h
  refine o_V (st1 := [.int q6.1]) (w1 := (m_cw ad ca ky ty rt Ni Np No Nx Nf Na Nh Nq Nj q6.2 M1)) hE.1 C (e_MT_bad_a hE hKy l ((MT_at a0) + x4) a0 Ni Np No Nx Nf Na Nh Nq Nj M1 rt hq6) hP (hDD _ _ _ _ _ _ _ _ _ _ _ _) hS hl.1 rfl mw_33 k_8_203 k_8_204 k_8_205 k_1_13 k_8_206 hv_MT_bad rfl rfl ⟨(Nat.le_of_ble_eq_true rfl), (Nat.le_of_ble_eq_true rfl)⟩ rfl (Nat.le_of_ble_eq_true rfl) ⟨Nat.zero_le _, Nat.zero_le _⟩ rfl d_MT_escape_167 (fun H locs hP hS => ?_)
  obtain ⟨g7, h⟩ := o_gd_some h
  cases h
  exact o_rz C (o_zb_nar g7) hP hS d_MT_escape_170
set_option maxHeartbeats 4000000 in
set_option maxRecDepth 100000 in
theorem f_MT_escape_j273_a {E : (Nat → Prop) → State → Heap → Prop} {p : Program} {l : Launch} {e : Env} {s : State} {m : MethodId} {args : Array Value} {below : List Frame} {meth : Method} {c : Code} {D : va_G} {ad kd sd vd xd : Nat → Nat} {ca : Nat → ClassId} {A : Nat → Prop} {ky ty : Nat → Option Nat} (hE : o_EK E kd sd vd xd) (hKy : m_KY ky ty sd) (C : o_Cx E p s m args meth c D m_cls (m_tys ca) "SchemaJudgeModel$Text" b_MT_escape (some .boolean) 5 cc_MT_escape A) (hDD : ∀ (rt : Nat) (Ni : SNI) (Np : SNP) (No : SNO) (Nx : SNX) (Nf : SNF) (Na : SNA) (Nh : SNH) (Nq : SNQ) (Nj : SNJ) (M0 : SMT) (M1 : SMT), va_D A (m_cw ad ca ky ty rt Ni Np No Nx Nf Na Nh Nq Nj M0 M1)) (n : Nat) (x1 : Int32) (x3 : Int32) (y0 : Int32) (a0 : SMT) (Ni : SNI) (Np : SNP) (No : SNO) (Nx : SNX) (Nf : SNF) (Na : SNA) (Nh : SNH) (Nq : SNQ) (Nj : SNJ) (M1 : SMT) (rt : Nat) {r : Int32 × SMT} (h : m_MT_escape_j273 n x1 x3 y0 a0 = some r) : o_At p l e rm_MT_escape s m args below meth c (MQ below (o_Qx D m_cls (some (.int r.1)) (m_cw ad ca ky ty rt Ni Np No Nx Nf Na Nh Nq Nj r.2 M1) A) args s 0 0 A) m_cls D A 5 273 [.int y0] (m_cw ad ca ky ty rt Ni Np No Nx Nf Na Nh Nq Nj a0 M1) [(0, .ref (ad 33)), (1, .int x1), (3, .int x3)] := by
  unfold m_MT_escape_j273 at h
  intro H locs ls hP hS hl
  have C0 := C
  obtain ⟨hx, hb, -, -, -, hown, hts, hK, -, -⟩ := C0
  refine lv_istore (lv' := [(4, .int y0), (0, .ref (ad 33)), (1, .int x1), (3, .int x3)]) hx hb d_MT_escape_273 hl (by decide) rfl (fun ls hl => ?_)
  refine lv_iload hx hb d_MT_escape_275 (lv_at hl 0 rfl) ?_
  refine lv_ldc (v := (56320:Int32)) hx hb hown (hts _ k_8_239) d_MT_escape_277 ?_
  refine lv_ldc (v := (57343:Int32)) hx hb hown (hts _ k_9_0) d_MT_escape_279 ?_
  obtain ⟨q11, hq11, h⟩ := o_bd_some h
  refine o_SN (st1 := [.int q11]) (w1 := (m_cw ad ca ky ty rt Ni Np No Nx Nf Na Nh Nq Nj a0 M1)) hE.1 C (e_MM_in hE hKy l y0 (56320:Int32) (57343:Int32) Ni Np No Nx Nf Na Nh Nq Nj a0 M1 rt hq11) hP (hDD _ _ _ _ _ _ _ _ _ _ _ _) hS hl.1 (hE.2.1 _ _ _ C.2.2.2.2.2.2.2.2.2 _ nw_21) k_8_201 k_1_12 k_8_202 hs_MM_in rfl rfl ⟨(Nat.le_of_ble_eq_true rfl), (Nat.le_of_ble_eq_true rfl)⟩ rfl (Nat.le_of_ble_eq_true rfl) ⟨Nat.zero_le _, Nat.zero_le _⟩ rfl d_MT_escape_281 (fun H locs hP hS => ?_)
  refine lv_if_ne (tgt := 293) hx hb d_MT_escape_284 (by decide) (fun c11 => ?_) (fun c11 => ?_)
  · replace h := o_ff c11 h
    refine lv_aload_n hx hb d_MT_escape_293 rfl (lv_at hl 1 rfl) ?_
    refine lv_dup hx hb d_MT_escape_294 rfl ?_
    refine o_get (v := .int (MT_at a0)) C in_MT hP 33 mw_33 rfl 15 (by decide) k_7_129 rfl rfl d_MT_escape_295 ?_
    refine lv_bipush (v := (6:Int32)) hx hb d_MT_escape_298 (by decide) ?_
    refine lv_iadd hx hb d_MT_escape_300 ?_
    refine o_put (v := .int ((MT_at a0) + (6:Int32))) (ty := .int) (w1 := (m_cw ad ca ky ty rt Ni Np No Nx Nf Na Nh Nq Nj (MT_mk (MT_text a0) (MT_kind a0) (MT_place a0) (MT_many a0) (MT_parent a0) (MT_power a0) (MT_first a0) (MT_next a0) (MT_name a0) (MT_from a0) (MT_characters a0) (MT_digits a0) (MT_minus a0) (MT_values a0) (MT_letters a0) ((MT_at a0) + (6:Int32)) (MT_wrong a0) (MT_used a0) (MT_written a0) (MT_left a0)) M1)) C in_MT t_MT t_MT_ok n_MT hP (hDD _ _ _ _ _ _ _ _ _ _ _ _) hS 33 mw_33 rfl 15 (by decide) k_7_129 rfl rfl (by decide +kernel) rfl rfl (Nat.le_of_ble_eq_true rfl) rfl d_MT_escape_301 (fun H locs hP hS => ?_)
    refine lv_aload_n hx hb d_MT_escape_304 rfl (lv_at hl 1 rfl) ?_
    refine lv_ldc (v := (65536:Int32)) hx hb hown (hts _ k_9_3) d_MT_escape_305 ?_
    refine lv_iload_n hx hb d_MT_escape_307 rfl (lv_at hl 3 rfl) ?_
    refine lv_ldc (v := (55296:Int32)) hx hb hown (hts _ k_9_1) d_MT_escape_308 ?_
    refine lv_isub hx hb d_MT_escape_310 ?_
    refine lv_bipush (v := (10:Int32)) hx hb d_MT_escape_311 (by decide) ?_
    refine lv_ishl hx hb d_MT_escape_313 ?_
    refine lv_iadd hx hb d_MT_escape_314 ?_
    refine lv_iload hx hb d_MT_escape_315 (lv_at hl 0 rfl) ?_
    refine lv_iadd hx hb d_MT_escape_317 ?_
    refine lv_ldc (v := (56320:Int32)) hx hb hown (hts _ k_8_239) d_MT_escape_318 ?_
    refine lv_isub hx hb d_MT_escape_320 ?_
    refine lv_iload_n hx hb d_MT_escape_321 rfl (lv_at hl 2 rfl) ?_
    obtain ⟨q12, hq12, h⟩ := o_bd_some h
    refine o_V (st1 := [.int q12.1]) (w1 := (m_cw ad ca ky ty rt Ni Np No Nx Nf Na Nh Nq Nj q12.2 M1)) hE.1 C (e_MT_put_a hE hKy l ((((65536:Int32) + ((x3 - (55296:Int32)) <<< ((10:Int32) &&& 31))) + y0) - (56320:Int32)) x1 (MT_mk (MT_text a0) (MT_kind a0) (MT_place a0) (MT_many a0) (MT_parent a0) (MT_power a0) (MT_first a0) (MT_next a0) (MT_name a0) (MT_from a0) (MT_characters a0) (MT_digits a0) (MT_minus a0) (MT_values a0) (MT_letters a0) ((MT_at a0) + (6:Int32)) (MT_wrong a0) (MT_used a0) (MT_written a0) (MT_left a0)) Ni Np No Nx Nf Na Nh Nq Nj M1 rt hq12) hP (hDD _ _ _ _ _ _ _ _ _ _ _ _) hS hl.1 rfl mw_33 k_8_228 k_8_229 k_8_230 k_1_13 k_8_231 hv_MT_put rfl rfl ⟨(Nat.le_of_ble_eq_true rfl), (Nat.le_of_ble_eq_true rfl)⟩ rfl (Nat.le_of_ble_eq_true rfl) ⟨Nat.zero_le _, Nat.zero_le _⟩ rfl d_MT_escape_322 (fun H locs hP hS => ?_)
    obtain ⟨g12, h⟩ := o_gd_some h
    cases h
    exact o_rz C (o_zb_nar g12) hP hS d_MT_escape_325
  · replace h := o_tt c11 h
    refine lv_aload_n hx hb d_MT_escape_287 rfl (lv_at hl 1 rfl) ?_
    refine lv_iload_n hx hb d_MT_escape_288 rfl (lv_at hl 2 rfl) ?_
    obtain ⟨q13, hq13, h⟩ := o_bd_some h
    refine o_V (st1 := [.int q13.1]) (w1 := (m_cw ad ca ky ty rt Ni Np No Nx Nf Na Nh Nq Nj q13.2 M1)) hE.1 C (e_MT_bad_a hE hKy l x1 a0 Ni Np No Nx Nf Na Nh Nq Nj M1 rt hq13) hP (hDD _ _ _ _ _ _ _ _ _ _ _ _) hS hl.1 rfl mw_33 k_8_203 k_8_204 k_8_205 k_1_13 k_8_206 hv_MT_bad rfl rfl ⟨(Nat.le_of_ble_eq_true rfl), (Nat.le_of_ble_eq_true rfl)⟩ rfl (Nat.le_of_ble_eq_true rfl) ⟨Nat.zero_le _, Nat.zero_le _⟩ rfl d_MT_escape_289 (fun H locs hP hS => ?_)
    obtain ⟨g13, h⟩ := o_gd_some h
    cases h
    exact o_rz C (o_zb_nar g13) hP hS d_MT_escape_292
set_option maxHeartbeats 4000000 in
set_option maxRecDepth 100000 in
theorem f_MT_escape_j86_a {E : (Nat → Prop) → State → Heap → Prop} {p : Program} {l : Launch} {e : Env} {s : State} {m : MethodId} {args : Array Value} {below : List Frame} {meth : Method} {c : Code} {D : va_G} {ad kd sd vd xd : Nat → Nat} {ca : Nat → ClassId} {A : Nat → Prop} {ky ty : Nat → Option Nat} (hE : o_EK E kd sd vd xd) (hKy : m_KY ky ty sd) (C : o_Cx E p s m args meth c D m_cls (m_tys ca) "SchemaJudgeModel$Text" b_MT_escape (some .boolean) 5 cc_MT_escape A) (hDD : ∀ (rt : Nat) (Ni : SNI) (Np : SNP) (No : SNO) (Nx : SNX) (Nf : SNF) (Na : SNA) (Nh : SNH) (Nq : SNQ) (Nj : SNJ) (M0 : SMT) (M1 : SMT), va_D A (m_cw ad ca ky ty rt Ni Np No Nx Nf Na Nh Nq Nj M0 M1)) (n : Nat) (x1 : Int32) (x2 : Int32) (y0 : Int32) (a0 : SMT) (Ni : SNI) (Np : SNP) (No : SNO) (Nx : SNX) (Nf : SNF) (Na : SNA) (Nh : SNH) (Nq : SNQ) (Nj : SNJ) (M1 : SMT) (rt : Nat) {r : Int32 × SMT} (h : m_MT_escape_j86 n x1 x2 y0 a0 = some r) : o_At p l e rm_MT_escape s m args below meth c (MQ below (o_Qx D m_cls (some (.int r.1)) (m_cw ad ca ky ty rt Ni Np No Nx Nf Na Nh Nq Nj r.2 M1) A) args s 0 0 A) m_cls D A 5 86 [.int y0] (m_cw ad ca ky ty rt Ni Np No Nx Nf Na Nh Nq Nj a0 M1) [(0, .ref (ad 33)), (1, .int x1), (2, .int x2)] := by
  unfold m_MT_escape_j86 at h
  intro H locs ls hP hS hl
  have C0 := C
  obtain ⟨hx, hb, -, -, -, hown, hts, hK, -, -⟩ := C0
  refine lv_istore_n (lv' := [(3, .int y0), (0, .ref (ad 33)), (1, .int x1), (2, .int x2)]) hx hb d_MT_escape_86 rfl hl (by decide) rfl (fun ls hl => ?_)
  refine lv_aload_n hx hb d_MT_escape_87 rfl (lv_at hl 1 rfl) ?_
  refine lv_iload_n hx hb d_MT_escape_88 rfl (lv_at hl 2 rfl) ?_
  refine lv_iconst (v := (2:Int32)) hx hb d_MT_escape_89 (by decide) ?_
  refine lv_iadd hx hb d_MT_escape_90 ?_
  refine o_put (v := .int (x1 + (2:Int32))) (ty := .int) (w1 := (m_cw ad ca ky ty rt Ni Np No Nx Nf Na Nh Nq Nj (MT_mk (MT_text a0) (MT_kind a0) (MT_place a0) (MT_many a0) (MT_parent a0) (MT_power a0) (MT_first a0) (MT_next a0) (MT_name a0) (MT_from a0) (MT_characters a0) (MT_digits a0) (MT_minus a0) (MT_values a0) (MT_letters a0) (x1 + (2:Int32)) (MT_wrong a0) (MT_used a0) (MT_written a0) (MT_left a0)) M1)) C in_MT t_MT t_MT_ok n_MT hP (hDD _ _ _ _ _ _ _ _ _ _ _ _) hS 33 mw_33 rfl 15 (by decide) k_7_129 rfl rfl (by decide +kernel) rfl rfl (Nat.le_of_ble_eq_true rfl) rfl d_MT_escape_91 (fun H locs hP hS => ?_)
  refine lv_iload_n hx hb d_MT_escape_94 rfl (lv_at hl 0 rfl) ?_
  refine lv_if_lt (tgt := 105) hx hb d_MT_escape_95 (by decide) (fun c2 => ?_) (fun c2 => ?_)
  · replace h := o_tt c2 h
    refine lv_iload_n hx hb d_MT_escape_105 rfl (lv_at hl 3 rfl) ?_
    refine lv_bipush (v := (117:Int32)) hx hb d_MT_escape_106 (by decide) ?_
    refine lv_icmp_eq (tgt := 119) hx hb d_MT_escape_108 (by decide) (fun c3 => ?_) (fun c3 => ?_)
    · replace h := o_tt c3 h
      refine lv_iconst (v := (0:Int32)) hx hb d_MT_escape_119 (by decide) ?_
      refine lv_istore (lv' := [(4, .int (0:Int32)), (3, .int y0), (0, .ref (ad 33)), (1, .int x1), (2, .int x2)]) hx hb d_MT_escape_120 hl (by decide) rfl (fun ls hl => ?_)
      obtain ⟨q5, hq5, h⟩ := o_bd_some h
      refine o_sim2 (AH := fun zz => o_At p l e rm_MT_escape s m args below meth c _ m_cls D A 5 122 [] (m_cw ad ca ky ty rt Ni Np No Nx Nf Na Nh Nq Nj (MT_mk (MT_text a0) (MT_kind a0) (MT_place a0) (MT_many a0) (MT_parent a0) (MT_power a0) (MT_first a0) (MT_next a0) (MT_name a0) (MT_from a0) (MT_characters a0) (MT_digits a0) (MT_minus a0) (MT_values a0) (MT_letters a0) (x1 + (2:Int32)) (MT_wrong a0) (MT_used a0) (MT_written a0) (MT_left a0)) M1) [(0, .ref (ad 33)), (1, .int x1), (4, .int zz)]) (AX := fun qq => if qq.1 = 1 then o_At p l e rm_MT_escape s m args below meth c _ m_cls D A 5 159 [] (m_cw ad ca ky ty rt Ni Np No Nx Nf Na Nh Nq Nj (MT_mk (MT_text a0) (MT_kind a0) (MT_place a0) (MT_many a0) (MT_parent a0) (MT_power a0) (MT_first a0) (MT_next a0) (MT_name a0) (MT_from a0) (MT_characters a0) (MT_digits a0) (MT_minus a0) (MT_values a0) (MT_letters a0) (x1 + (2:Int32)) (MT_wrong a0) (MT_used a0) (MT_written a0) (MT_left a0)) M1) [(0, .ref (ad 33)), (4, .int qq.2)] else o_At p l e rm_MT_escape s m args below meth c _ m_cls D A 5 177 [] (m_cw ad ca ky ty rt Ni Np No Nx Nf Na Nh Nq Nj (MT_mk (MT_text a0) (MT_kind a0) (MT_place a0) (MT_many a0) (MT_parent a0) (MT_power a0) (MT_first a0) (MT_next a0) (MT_name a0) (MT_from a0) (MT_characters a0) (MT_digits a0) (MT_minus a0) (MT_values a0) (MT_letters a0) (x1 + (2:Int32)) (MT_wrong a0) (MT_used a0) (MT_written a0) (MT_left a0)) M1) [(0, .ref (ad 33)), (1, .int x1)]) (fun zz qq h h0 h1 => f_MT_escape_b122_a hE hKy C hDD n x1 (MT_mk (MT_text a0) (MT_kind a0) (MT_place a0) (MT_many a0) (MT_parent a0) (MT_power a0) (MT_first a0) (MT_next a0) (MT_name a0) (MT_from a0) (MT_characters a0) (MT_digits a0) (MT_minus a0) (MT_values a0) (MT_letters a0) (x1 + (2:Int32)) (MT_wrong a0) (MT_used a0) (MT_written a0) (MT_left a0)) Ni Np No Nx Nf Na Nh Nq Nj M1 rt zz qq h h0 h1) n _ q5 hq5 ?_ _ _ _ hP hS (lv_sub hl [2, 3, 0] rfl)
      by_cases c17 : q5.1 = 1
      · replace h := o_tt c17 h
        refine o_ip c17 ?_
        intro H locs ls hP hS hl
        exact f_MT_escape_j159_a hE hKy C hDD n q5.2 (MT_mk (MT_text a0) (MT_kind a0) (MT_place a0) (MT_many a0) (MT_parent a0) (MT_power a0) (MT_first a0) (MT_next a0) (MT_name a0) (MT_from a0) (MT_characters a0) (MT_digits a0) (MT_minus a0) (MT_values a0) (MT_letters a0) (x1 + (2:Int32)) (MT_wrong a0) (MT_used a0) (MT_written a0) (MT_left a0)) Ni Np No Nx Nf Na Nh Nq Nj M1 rt h _ _ _ hP hS (lv_sub hl [0, 1] rfl)
      replace h := o_ff c17 h
      refine o_in_ c17 ?_
      intro H locs ls hP hS hl
      refine lv_aload_n hx hb d_MT_escape_177 rfl (lv_at hl 0 rfl) ?_
      refine lv_aload_n hx hb d_MT_escape_178 rfl (lv_at hl 0 rfl) ?_
      refine o_get (v := .int (x1 + (2:Int32))) C in_MT hP 33 mw_33 rfl 15 (by decide) k_7_129 rfl rfl d_MT_escape_179 ?_
      obtain ⟨q7, hq7, h⟩ := o_bd_some h
      refine o_V (st1 := [.int q7]) (w1 := (m_cw ad ca ky ty rt Ni Np No Nx Nf Na Nh Nq Nj (MT_mk (MT_text a0) (MT_kind a0) (MT_place a0) (MT_many a0) (MT_parent a0) (MT_power a0) (MT_first a0) (MT_next a0) (MT_name a0) (MT_from a0) (MT_characters a0) (MT_digits a0) (MT_minus a0) (MT_values a0) (MT_letters a0) (x1 + (2:Int32)) (MT_wrong a0) (MT_used a0) (MT_written a0) (MT_left a0)) M1)) hE.1 C (e_MT_four_a hE hKy l n (x1 + (2:Int32)) (MT_mk (MT_text a0) (MT_kind a0) (MT_place a0) (MT_many a0) (MT_parent a0) (MT_power a0) (MT_first a0) (MT_next a0) (MT_name a0) (MT_from a0) (MT_characters a0) (MT_digits a0) (MT_minus a0) (MT_values a0) (MT_letters a0) (x1 + (2:Int32)) (MT_wrong a0) (MT_used a0) (MT_written a0) (MT_left a0)) Ni Np No Nx Nf Na Nh Nq Nj M1 rt hq7) hP (hDD _ _ _ _ _ _ _ _ _ _ _ _) hS hl.1 rfl mw_33 k_8_235 k_8_236 k_8_237 k_1_13 k_8_238 hv_MT_four rfl rfl ⟨(Nat.le_of_ble_eq_true rfl), (Nat.le_of_ble_eq_true rfl)⟩ rfl (Nat.le_of_ble_eq_true rfl) ⟨Nat.zero_le _, Nat.zero_le _⟩ rfl d_MT_escape_182 (fun H locs hP hS => ?_)
      refine lv_istore_n (lv' := [(3, .int q7), (0, .ref (ad 33)), (1, .int x1)]) hx hb d_MT_escape_185 rfl hl (by decide) rfl (fun ls hl => ?_)
      refine lv_aload_n hx hb d_MT_escape_186 rfl (lv_at hl 1 rfl) ?_
      refine lv_dup hx hb d_MT_escape_187 rfl ?_
      refine o_get (v := .int (x1 + (2:Int32))) C in_MT hP 33 mw_33 rfl 15 (by decide) k_7_129 rfl rfl d_MT_escape_188 ?_
      refine lv_iconst (v := (4:Int32)) hx hb d_MT_escape_191 (by decide) ?_
      refine lv_iadd hx hb d_MT_escape_192 ?_
      refine o_put (v := .int ((x1 + (2:Int32)) + (4:Int32))) (ty := .int) (w1 := (m_cw ad ca ky ty rt Ni Np No Nx Nf Na Nh Nq Nj (MT_mk (MT_text a0) (MT_kind a0) (MT_place a0) (MT_many a0) (MT_parent a0) (MT_power a0) (MT_first a0) (MT_next a0) (MT_name a0) (MT_from a0) (MT_characters a0) (MT_digits a0) (MT_minus a0) (MT_values a0) (MT_letters a0) ((x1 + (2:Int32)) + (4:Int32)) (MT_wrong a0) (MT_used a0) (MT_written a0) (MT_left a0)) M1)) C in_MT t_MT t_MT_ok n_MT hP (hDD _ _ _ _ _ _ _ _ _ _ _ _) hS 33 mw_33 rfl 15 (by decide) k_7_129 rfl rfl (by decide +kernel) rfl rfl (Nat.le_of_ble_eq_true rfl) rfl d_MT_escape_193 (fun H locs hP hS => ?_)
      refine lv_iload_n hx hb d_MT_escape_196 rfl (lv_at hl 0 rfl) ?_
      refine lv_ldc (v := (56320:Int32)) hx hb hown (hts _ k_8_239) d_MT_escape_197 ?_
      refine lv_ldc (v := (57343:Int32)) hx hb hown (hts _ k_9_0) d_MT_escape_199 ?_
      obtain ⟨q8, hq8, h⟩ := o_bd_some h
      refine o_SN (st1 := [.int q8]) (w1 := (m_cw ad ca ky ty rt Ni Np No Nx Nf Na Nh Nq Nj (MT_mk (MT_text a0) (MT_kind a0) (MT_place a0) (MT_many a0) (MT_parent a0) (MT_power a0) (MT_first a0) (MT_next a0) (MT_name a0) (MT_from a0) (MT_characters a0) (MT_digits a0) (MT_minus a0) (MT_values a0) (MT_letters a0) ((x1 + (2:Int32)) + (4:Int32)) (MT_wrong a0) (MT_used a0) (MT_written a0) (MT_left a0)) M1)) hE.1 C (e_MM_in hE hKy l q7 (56320:Int32) (57343:Int32) Ni Np No Nx Nf Na Nh Nq Nj (MT_mk (MT_text a0) (MT_kind a0) (MT_place a0) (MT_many a0) (MT_parent a0) (MT_power a0) (MT_first a0) (MT_next a0) (MT_name a0) (MT_from a0) (MT_characters a0) (MT_digits a0) (MT_minus a0) (MT_values a0) (MT_letters a0) ((x1 + (2:Int32)) + (4:Int32)) (MT_wrong a0) (MT_used a0) (MT_written a0) (MT_left a0)) M1 rt hq8) hP (hDD _ _ _ _ _ _ _ _ _ _ _ _) hS hl.1 (hE.2.1 _ _ _ C.2.2.2.2.2.2.2.2.2 _ nw_21) k_8_201 k_1_12 k_8_202 hs_MM_in rfl rfl ⟨(Nat.le_of_ble_eq_true rfl), (Nat.le_of_ble_eq_true rfl)⟩ rfl (Nat.le_of_ble_eq_true rfl) ⟨Nat.zero_le _, Nat.zero_le _⟩ rfl d_MT_escape_201 (fun H locs hP hS => ?_)
      refine lv_if_eq (tgt := 213) hx hb d_MT_escape_204 (by decide) (fun c8 => ?_) (fun c8 => ?_)
      · replace h := o_tt c8 h
        refine lv_iload_n hx hb d_MT_escape_213 rfl (lv_at hl 0 rfl) ?_
        refine lv_ldc (v := (55296:Int32)) hx hb hown (hts _ k_9_1) d_MT_escape_214 ?_
        refine lv_ldc (v := (56319:Int32)) hx hb hown (hts _ k_9_2) d_MT_escape_216 ?_
        obtain ⟨q9, hq9, h⟩ := o_bd_some h
        refine o_SN (st1 := [.int q9]) (w1 := (m_cw ad ca ky ty rt Ni Np No Nx Nf Na Nh Nq Nj (MT_mk (MT_text a0) (MT_kind a0) (MT_place a0) (MT_many a0) (MT_parent a0) (MT_power a0) (MT_first a0) (MT_next a0) (MT_name a0) (MT_from a0) (MT_characters a0) (MT_digits a0) (MT_minus a0) (MT_values a0) (MT_letters a0) ((x1 + (2:Int32)) + (4:Int32)) (MT_wrong a0) (MT_used a0) (MT_written a0) (MT_left a0)) M1)) hE.1 C (e_MM_in hE hKy l q7 (55296:Int32) (56319:Int32) Ni Np No Nx Nf Na Nh Nq Nj (MT_mk (MT_text a0) (MT_kind a0) (MT_place a0) (MT_many a0) (MT_parent a0) (MT_power a0) (MT_first a0) (MT_next a0) (MT_name a0) (MT_from a0) (MT_characters a0) (MT_digits a0) (MT_minus a0) (MT_values a0) (MT_letters a0) ((x1 + (2:Int32)) + (4:Int32)) (MT_wrong a0) (MT_used a0) (MT_written a0) (MT_left a0)) M1 rt hq9) hP (hDD _ _ _ _ _ _ _ _ _ _ _ _) hS hl.1 (hE.2.1 _ _ _ C.2.2.2.2.2.2.2.2.2 _ nw_21) k_8_201 k_1_12 k_8_202 hs_MM_in rfl rfl ⟨(Nat.le_of_ble_eq_true rfl), (Nat.le_of_ble_eq_true rfl)⟩ rfl (Nat.le_of_ble_eq_true rfl) ⟨Nat.zero_le _, Nat.zero_le _⟩ rfl d_MT_escape_218 (fun H locs hP hS => ?_)
        refine lv_if_ne (tgt := 231) hx hb d_MT_escape_221 (by decide) (fun c9 => ?_) (fun c9 => ?_)
        · replace h := o_ff c9 h
          refine lv_aload_n hx hb d_MT_escape_231 rfl (lv_at hl 1 rfl) ?_
          refine lv_aload_n hx hb d_MT_escape_232 rfl (lv_at hl 1 rfl) ?_
          refine o_get (v := .int ((x1 + (2:Int32)) + (4:Int32))) C in_MT hP 33 mw_33 rfl 15 (by decide) k_7_129 rfl rfl d_MT_escape_233 ?_
          obtain ⟨q10, hq10, h⟩ := o_bd_some h
          refine o_V (st1 := [.int q10]) (w1 := (m_cw ad ca ky ty rt Ni Np No Nx Nf Na Nh Nq Nj (MT_mk (MT_text a0) (MT_kind a0) (MT_place a0) (MT_many a0) (MT_parent a0) (MT_power a0) (MT_first a0) (MT_next a0) (MT_name a0) (MT_from a0) (MT_characters a0) (MT_digits a0) (MT_minus a0) (MT_values a0) (MT_letters a0) ((x1 + (2:Int32)) + (4:Int32)) (MT_wrong a0) (MT_used a0) (MT_written a0) (MT_left a0)) M1)) hE.1 C (e_MT_c_a hE hKy l ((x1 + (2:Int32)) + (4:Int32)) (MT_mk (MT_text a0) (MT_kind a0) (MT_place a0) (MT_many a0) (MT_parent a0) (MT_power a0) (MT_first a0) (MT_next a0) (MT_name a0) (MT_from a0) (MT_characters a0) (MT_digits a0) (MT_minus a0) (MT_values a0) (MT_letters a0) ((x1 + (2:Int32)) + (4:Int32)) (MT_wrong a0) (MT_used a0) (MT_written a0) (MT_left a0)) Ni Np No Nx Nf Na Nh Nq Nj M1 rt hq10) hP (hDD _ _ _ _ _ _ _ _ _ _ _ _) hS hl.1 rfl mw_33 k_8_192 k_8_193 k_8_194 k_1_13 k_8_195 hv_MT_c rfl rfl ⟨(Nat.le_of_ble_eq_true rfl), (Nat.le_of_ble_eq_true rfl)⟩ rfl (Nat.le_of_ble_eq_true rfl) ⟨Nat.zero_le _, Nat.zero_le _⟩ rfl d_MT_escape_236 (fun H locs hP hS => ?_)
          refine lv_bipush (v := (92:Int32)) hx hb d_MT_escape_239 (by decide) ?_
          refine lv_icmp_ne (tgt := 272) hx hb d_MT_escape_241 (by decide) (fun c10 => ?_) (fun c10 => ?_)
          · replace h := o_ff c10 h
            refine lv_iconst (v := (-1:Int32)) hx hb d_MT_escape_272 (by decide) ?_
            exact f_MT_escape_j273_a hE hKy C hDD n x1 q7 (-1:Int32) (MT_mk (MT_text a0) (MT_kind a0) (MT_place a0) (MT_many a0) (MT_parent a0) (MT_power a0) (MT_first a0) (MT_next a0) (MT_name a0) (MT_from a0) (MT_characters a0) (MT_digits a0) (MT_minus a0) (MT_values a0) (MT_letters a0) ((x1 + (2:Int32)) + (4:Int32)) (MT_wrong a0) (MT_used a0) (MT_written a0) (MT_left a0)) Ni Np No Nx Nf Na Nh Nq Nj M1 rt h _ _ _ hP hS (lv_sub hl [1, 2, 0] rfl)
          · replace h := o_tt c10 h
            refine lv_aload_n hx hb d_MT_escape_244 rfl (lv_at hl 1 rfl) ?_
            refine lv_aload_n hx hb d_MT_escape_245 rfl (lv_at hl 1 rfl) ?_
            refine o_get (v := .int ((x1 + (2:Int32)) + (4:Int32))) C in_MT hP 33 mw_33 rfl 15 (by decide) k_7_129 rfl rfl d_MT_escape_246 ?_
            refine lv_iconst (v := (1:Int32)) hx hb d_MT_escape_249 (by decide) ?_
            refine lv_iadd hx hb d_MT_escape_250 ?_
            obtain ⟨q14, hq14, h⟩ := o_bd_some h
            refine o_V (st1 := [.int q14]) (w1 := (m_cw ad ca ky ty rt Ni Np No Nx Nf Na Nh Nq Nj (MT_mk (MT_text a0) (MT_kind a0) (MT_place a0) (MT_many a0) (MT_parent a0) (MT_power a0) (MT_first a0) (MT_next a0) (MT_name a0) (MT_from a0) (MT_characters a0) (MT_digits a0) (MT_minus a0) (MT_values a0) (MT_letters a0) ((x1 + (2:Int32)) + (4:Int32)) (MT_wrong a0) (MT_used a0) (MT_written a0) (MT_left a0)) M1)) hE.1 C (e_MT_c_a hE hKy l (((x1 + (2:Int32)) + (4:Int32)) + (1:Int32)) (MT_mk (MT_text a0) (MT_kind a0) (MT_place a0) (MT_many a0) (MT_parent a0) (MT_power a0) (MT_first a0) (MT_next a0) (MT_name a0) (MT_from a0) (MT_characters a0) (MT_digits a0) (MT_minus a0) (MT_values a0) (MT_letters a0) ((x1 + (2:Int32)) + (4:Int32)) (MT_wrong a0) (MT_used a0) (MT_written a0) (MT_left a0)) Ni Np No Nx Nf Na Nh Nq Nj M1 rt hq14) hP (hDD _ _ _ _ _ _ _ _ _ _ _ _) hS hl.1 rfl mw_33 k_8_192 k_8_193 k_8_194 k_1_13 k_8_195 hv_MT_c rfl rfl ⟨(Nat.le_of_ble_eq_true rfl), (Nat.le_of_ble_eq_true rfl)⟩ rfl (Nat.le_of_ble_eq_true rfl) ⟨Nat.zero_le _, Nat.zero_le _⟩ rfl d_MT_escape_251 (fun H locs hP hS => ?_)
            refine lv_bipush (v := (117:Int32)) hx hb d_MT_escape_254 (by decide) ?_
            refine lv_icmp_ne (tgt := 272) hx hb d_MT_escape_256 (by decide) (fun c14 => ?_) (fun c14 => ?_)
            · replace h := o_ff c14 h
              refine lv_iconst (v := (-1:Int32)) hx hb d_MT_escape_272 (by decide) ?_
              exact f_MT_escape_j273_a hE hKy C hDD n x1 q7 (-1:Int32) (MT_mk (MT_text a0) (MT_kind a0) (MT_place a0) (MT_many a0) (MT_parent a0) (MT_power a0) (MT_first a0) (MT_next a0) (MT_name a0) (MT_from a0) (MT_characters a0) (MT_digits a0) (MT_minus a0) (MT_values a0) (MT_letters a0) ((x1 + (2:Int32)) + (4:Int32)) (MT_wrong a0) (MT_used a0) (MT_written a0) (MT_left a0)) Ni Np No Nx Nf Na Nh Nq Nj M1 rt h _ _ _ hP hS (lv_sub hl [1, 2, 0] rfl)
            · replace h := o_tt c14 h
              refine lv_aload_n hx hb d_MT_escape_259 rfl (lv_at hl 1 rfl) ?_
              refine lv_aload_n hx hb d_MT_escape_260 rfl (lv_at hl 1 rfl) ?_
              refine o_get (v := .int ((x1 + (2:Int32)) + (4:Int32))) C in_MT hP 33 mw_33 rfl 15 (by decide) k_7_129 rfl rfl d_MT_escape_261 ?_
              refine lv_iconst (v := (2:Int32)) hx hb d_MT_escape_264 (by decide) ?_
              refine lv_iadd hx hb d_MT_escape_265 ?_
              obtain ⟨q15, hq15, h⟩ := o_bd_some h
              refine o_V (st1 := [.int q15]) (w1 := (m_cw ad ca ky ty rt Ni Np No Nx Nf Na Nh Nq Nj (MT_mk (MT_text a0) (MT_kind a0) (MT_place a0) (MT_many a0) (MT_parent a0) (MT_power a0) (MT_first a0) (MT_next a0) (MT_name a0) (MT_from a0) (MT_characters a0) (MT_digits a0) (MT_minus a0) (MT_values a0) (MT_letters a0) ((x1 + (2:Int32)) + (4:Int32)) (MT_wrong a0) (MT_used a0) (MT_written a0) (MT_left a0)) M1)) hE.1 C (e_MT_four_a hE hKy l n (((x1 + (2:Int32)) + (4:Int32)) + (2:Int32)) (MT_mk (MT_text a0) (MT_kind a0) (MT_place a0) (MT_many a0) (MT_parent a0) (MT_power a0) (MT_first a0) (MT_next a0) (MT_name a0) (MT_from a0) (MT_characters a0) (MT_digits a0) (MT_minus a0) (MT_values a0) (MT_letters a0) ((x1 + (2:Int32)) + (4:Int32)) (MT_wrong a0) (MT_used a0) (MT_written a0) (MT_left a0)) Ni Np No Nx Nf Na Nh Nq Nj M1 rt hq15) hP (hDD _ _ _ _ _ _ _ _ _ _ _ _) hS hl.1 rfl mw_33 k_8_235 k_8_236 k_8_237 k_1_13 k_8_238 hv_MT_four rfl rfl ⟨(Nat.le_of_ble_eq_true rfl), (Nat.le_of_ble_eq_true rfl)⟩ rfl (Nat.le_of_ble_eq_true rfl) ⟨Nat.zero_le _, Nat.zero_le _⟩ rfl d_MT_escape_266 (fun H locs hP hS => ?_)
              refine lv_goto (tgt := 273) hx hb d_MT_escape_269 (by decide) ?_
              exact f_MT_escape_j273_a hE hKy C hDD n x1 q7 q15 (MT_mk (MT_text a0) (MT_kind a0) (MT_place a0) (MT_many a0) (MT_parent a0) (MT_power a0) (MT_first a0) (MT_next a0) (MT_name a0) (MT_from a0) (MT_characters a0) (MT_digits a0) (MT_minus a0) (MT_values a0) (MT_letters a0) ((x1 + (2:Int32)) + (4:Int32)) (MT_wrong a0) (MT_used a0) (MT_written a0) (MT_left a0)) Ni Np No Nx Nf Na Nh Nq Nj M1 rt h _ _ _ hP hS (lv_sub hl [1, 2, 0] rfl)
        · replace h := o_tt c9 h
          refine lv_aload_n hx hb d_MT_escape_224 rfl (lv_at hl 1 rfl) ?_
          refine lv_iload_n hx hb d_MT_escape_225 rfl (lv_at hl 0 rfl) ?_
          refine lv_iload_n hx hb d_MT_escape_226 rfl (lv_at hl 2 rfl) ?_
          obtain ⟨q16, hq16, h⟩ := o_bd_some h
          refine o_V (st1 := [.int q16.1]) (w1 := (m_cw ad ca ky ty rt Ni Np No Nx Nf Na Nh Nq Nj q16.2 M1)) hE.1 C (e_MT_put_a hE hKy l q7 x1 (MT_mk (MT_text a0) (MT_kind a0) (MT_place a0) (MT_many a0) (MT_parent a0) (MT_power a0) (MT_first a0) (MT_next a0) (MT_name a0) (MT_from a0) (MT_characters a0) (MT_digits a0) (MT_minus a0) (MT_values a0) (MT_letters a0) ((x1 + (2:Int32)) + (4:Int32)) (MT_wrong a0) (MT_used a0) (MT_written a0) (MT_left a0)) Ni Np No Nx Nf Na Nh Nq Nj M1 rt hq16) hP (hDD _ _ _ _ _ _ _ _ _ _ _ _) hS hl.1 rfl mw_33 k_8_228 k_8_229 k_8_230 k_1_13 k_8_231 hv_MT_put rfl rfl ⟨(Nat.le_of_ble_eq_true rfl), (Nat.le_of_ble_eq_true rfl)⟩ rfl (Nat.le_of_ble_eq_true rfl) ⟨Nat.zero_le _, Nat.zero_le _⟩ rfl d_MT_escape_227 (fun H locs hP hS => ?_)
          obtain ⟨g15, h⟩ := o_gd_some h
          cases h
          exact o_rz C (o_zb_nar g15) hP hS d_MT_escape_230
      · replace h := o_ff c8 h
        refine lv_aload_n hx hb d_MT_escape_207 rfl (lv_at hl 1 rfl) ?_
        refine lv_iload_n hx hb d_MT_escape_208 rfl (lv_at hl 2 rfl) ?_
        obtain ⟨q17, hq17, h⟩ := o_bd_some h
        refine o_V (st1 := [.int q17.1]) (w1 := (m_cw ad ca ky ty rt Ni Np No Nx Nf Na Nh Nq Nj q17.2 M1)) hE.1 C (e_MT_bad_a hE hKy l x1 (MT_mk (MT_text a0) (MT_kind a0) (MT_place a0) (MT_many a0) (MT_parent a0) (MT_power a0) (MT_first a0) (MT_next a0) (MT_name a0) (MT_from a0) (MT_characters a0) (MT_digits a0) (MT_minus a0) (MT_values a0) (MT_letters a0) ((x1 + (2:Int32)) + (4:Int32)) (MT_wrong a0) (MT_used a0) (MT_written a0) (MT_left a0)) Ni Np No Nx Nf Na Nh Nq Nj M1 rt hq17) hP (hDD _ _ _ _ _ _ _ _ _ _ _ _) hS hl.1 rfl mw_33 k_8_203 k_8_204 k_8_205 k_1_13 k_8_206 hv_MT_bad rfl rfl ⟨(Nat.le_of_ble_eq_true rfl), (Nat.le_of_ble_eq_true rfl)⟩ rfl (Nat.le_of_ble_eq_true rfl) ⟨Nat.zero_le _, Nat.zero_le _⟩ rfl d_MT_escape_209 (fun H locs hP hS => ?_)
        obtain ⟨g16, h⟩ := o_gd_some h
        cases h
        exact o_rz C (o_zb_nar g16) hP hS d_MT_escape_212
    · replace h := o_ff c3 h
      refine lv_aload_n hx hb d_MT_escape_111 rfl (lv_at hl 1 rfl) ?_
      refine lv_iload_n hx hb d_MT_escape_112 rfl (lv_at hl 2 rfl) ?_
      refine lv_iconst (v := (1:Int32)) hx hb d_MT_escape_113 (by decide) ?_
      refine lv_iadd hx hb d_MT_escape_114 ?_
      obtain ⟨q18, hq18, h⟩ := o_bd_some h
      refine o_V (st1 := [.int q18.1]) (w1 := (m_cw ad ca ky ty rt Ni Np No Nx Nf Na Nh Nq Nj q18.2 M1)) hE.1 C (e_MT_bad_a hE hKy l (x1 + (1:Int32)) (MT_mk (MT_text a0) (MT_kind a0) (MT_place a0) (MT_many a0) (MT_parent a0) (MT_power a0) (MT_first a0) (MT_next a0) (MT_name a0) (MT_from a0) (MT_characters a0) (MT_digits a0) (MT_minus a0) (MT_values a0) (MT_letters a0) (x1 + (2:Int32)) (MT_wrong a0) (MT_used a0) (MT_written a0) (MT_left a0)) Ni Np No Nx Nf Na Nh Nq Nj M1 rt hq18) hP (hDD _ _ _ _ _ _ _ _ _ _ _ _) hS hl.1 rfl mw_33 k_8_203 k_8_204 k_8_205 k_1_13 k_8_206 hv_MT_bad rfl rfl ⟨(Nat.le_of_ble_eq_true rfl), (Nat.le_of_ble_eq_true rfl)⟩ rfl (Nat.le_of_ble_eq_true rfl) ⟨Nat.zero_le _, Nat.zero_le _⟩ rfl d_MT_escape_115 (fun H locs hP hS => ?_)
      obtain ⟨g18, h⟩ := o_gd_some h
      cases h
      exact o_rz C (o_zb_nar g18) hP hS d_MT_escape_118
  · replace h := o_ff c2 h
    refine lv_aload_n hx hb d_MT_escape_98 rfl (lv_at hl 1 rfl) ?_
    refine lv_iload_n hx hb d_MT_escape_99 rfl (lv_at hl 0 rfl) ?_
    refine lv_iload_n hx hb d_MT_escape_100 rfl (lv_at hl 2 rfl) ?_
    obtain ⟨q19, hq19, h⟩ := o_bd_some h
    refine o_V (st1 := [.int q19.1]) (w1 := (m_cw ad ca ky ty rt Ni Np No Nx Nf Na Nh Nq Nj q19.2 M1)) hE.1 C (e_MT_put_a hE hKy l y0 x1 (MT_mk (MT_text a0) (MT_kind a0) (MT_place a0) (MT_many a0) (MT_parent a0) (MT_power a0) (MT_first a0) (MT_next a0) (MT_name a0) (MT_from a0) (MT_characters a0) (MT_digits a0) (MT_minus a0) (MT_values a0) (MT_letters a0) (x1 + (2:Int32)) (MT_wrong a0) (MT_used a0) (MT_written a0) (MT_left a0)) Ni Np No Nx Nf Na Nh Nq Nj M1 rt hq19) hP (hDD _ _ _ _ _ _ _ _ _ _ _ _) hS hl.1 rfl mw_33 k_8_228 k_8_229 k_8_230 k_1_13 k_8_231 hv_MT_put rfl rfl ⟨(Nat.le_of_ble_eq_true rfl), (Nat.le_of_ble_eq_true rfl)⟩ rfl (Nat.le_of_ble_eq_true rfl) ⟨Nat.zero_le _, Nat.zero_le _⟩ rfl d_MT_escape_101 (fun H locs hP hS => ?_)
    obtain ⟨g19, h⟩ := o_gd_some h
    cases h
    exact o_rz C (o_zb_nar g19) hP hS d_MT_escape_104
set_option maxHeartbeats 4000000 in
set_option maxRecDepth 100000 in
theorem e_MT_escape_a {E : (Nat → Prop) → State → Heap → Prop} {D : va_G} {ad kd sd vd xd : Nat → Nat} {ca : Nat → ClassId} {ky ty : Nat → Option Nat} (hE : o_EK E kd sd vd xd) (hKy : m_KY ky ty sd) (l : Launch) (n : Nat) (x1 : Int32) (a0 : SMT) (Ni : SNI) (Np : SNP) (No : SNO) (Nx : SNX) (Nf : SNF) (Na : SNA) (Nh : SNH) (Nq : SNQ) (Nj : SNJ) (M1 : SMT) (rt : Nat) {r : Int32 × SMT} (h : m_MT_escape n x1 a0 = some r) : o_Cn E l D m_cls (m_tys ca) y_MT_escape cc_MT_escape rm_MT_escape [.ref (ad 33), .int x1] (m_cw ad ca ky ty rt Ni Np No Nx Nf Na Nh Nq Nj a0 M1) (m_cw ad ca ky ty rt Ni Np No Nx Nf Na Nh Nq Nj r.2 M1) (some (.int r.1)) := by
  refine o_Cn_of (by decide) (Nat.le_of_ble_eq_true rfl) ?_
  intro p e s m below meth c A ls C hD hP hS hl
  have hDD : ∀ (rt : Nat) (Ni : SNI) (Np : SNP) (No : SNO) (Nx : SNX) (Nf : SNF) (Na : SNA) (Nh : SNH) (Nq : SNQ) (Nj : SNJ) (M0 : SMT) (M1 : SMT), va_D A (m_cw ad ca ky ty rt Ni Np No Nx Nf Na Nh Nq Nj M0 M1) := fun _ _ _ _ _ _ _ _ _ _ _ _ => o_D_map hD rfl
  have hl : lv_has ls 5 [(0, .ref (ad 33)), (1, .int x1)] := hl
  unfold m_MT_escape at h
  have C0 := C
  obtain ⟨hx, hb, -, -, -, hown, hts, hK, -, -⟩ := C0
  refine lv_aload_n hx hb d_MT_escape_0 rfl (lv_at hl 0 rfl) ?_
  refine lv_iload_n hx hb d_MT_escape_1 rfl (lv_at hl 1 rfl) ?_
  refine lv_iconst (v := (1:Int32)) hx hb d_MT_escape_2 (by decide) ?_
  refine lv_iadd hx hb d_MT_escape_3 ?_
  obtain ⟨q1, hq1, h⟩ := o_bd_some h
  refine o_V (st1 := [.int q1]) (w1 := (m_cw ad ca ky ty rt Ni Np No Nx Nf Na Nh Nq Nj a0 M1)) hE.1 C (e_MT_c_a hE hKy l (x1 + (1:Int32)) a0 Ni Np No Nx Nf Na Nh Nq Nj M1 rt hq1) hP (hDD _ _ _ _ _ _ _ _ _ _ _ _) hS hl.1 rfl mw_33 k_8_192 k_8_193 k_8_194 k_1_13 k_8_195 hv_MT_c rfl rfl ⟨(Nat.le_of_ble_eq_true rfl), (Nat.le_of_ble_eq_true rfl)⟩ rfl (Nat.le_of_ble_eq_true rfl) ⟨Nat.zero_le _, Nat.zero_le _⟩ rfl d_MT_escape_4 (fun H locs hP hS => ?_)
  refine lv_istore_n (lv' := [(2, .int q1), (0, .ref (ad 33)), (1, .int x1)]) hx hb d_MT_escape_7 rfl hl (by decide) rfl (fun ls hl => ?_)
  refine lv_iload_n hx hb d_MT_escape_8 rfl (lv_at hl 0 rfl) ?_
  refine lv_bipush (v := (34:Int32)) hx hb d_MT_escape_9 (by decide) ?_
  refine lv_icmp_eq (tgt := 26) hx hb d_MT_escape_11 (by decide) (fun c1 => ?_) (fun c1 => ?_)
  · replace h := o_tt c1 h
    refine lv_iload_n hx hb d_MT_escape_26 rfl (lv_at hl 0 rfl) ?_
    refine lv_goto (tgt := 86) hx hb d_MT_escape_27 (by decide) ?_
    exact f_MT_escape_j86_a hE hKy C hDD n x1 q1 q1 a0 Ni Np No Nx Nf Na Nh Nq Nj M1 rt h _ _ _ hP hS (lv_sub hl [1, 2, 0] rfl)
  · replace h := o_ff c1 h
    refine lv_iload_n hx hb d_MT_escape_14 rfl (lv_at hl 0 rfl) ?_
    refine lv_bipush (v := (92:Int32)) hx hb d_MT_escape_15 (by decide) ?_
    refine lv_icmp_eq (tgt := 26) hx hb d_MT_escape_17 (by decide) (fun c20 => ?_) (fun c20 => ?_)
    · replace h := o_tt c20 h
      refine lv_iload_n hx hb d_MT_escape_26 rfl (lv_at hl 0 rfl) ?_
      refine lv_goto (tgt := 86) hx hb d_MT_escape_27 (by decide) ?_
      exact f_MT_escape_j86_a hE hKy C hDD n x1 q1 q1 a0 Ni Np No Nx Nf Na Nh Nq Nj M1 rt h _ _ _ hP hS (lv_sub hl [1, 2, 0] rfl)
    · replace h := o_ff c20 h
      refine lv_iload_n hx hb d_MT_escape_20 rfl (lv_at hl 0 rfl) ?_
      refine lv_bipush (v := (47:Int32)) hx hb d_MT_escape_21 (by decide) ?_
      refine lv_icmp_ne (tgt := 30) hx hb d_MT_escape_23 (by decide) (fun c21 => ?_) (fun c21 => ?_)
      · replace h := o_ff c21 h
        refine lv_iload_n hx hb d_MT_escape_30 rfl (lv_at hl 0 rfl) ?_
        refine lv_bipush (v := (98:Int32)) hx hb d_MT_escape_31 (by decide) ?_
        refine lv_icmp_ne (tgt := 41) hx hb d_MT_escape_33 (by decide) (fun c22 => ?_) (fun c22 => ?_)
        · replace h := o_ff c22 h
          refine lv_iload_n hx hb d_MT_escape_41 rfl (lv_at hl 0 rfl) ?_
          refine lv_bipush (v := (102:Int32)) hx hb d_MT_escape_42 (by decide) ?_
          refine lv_icmp_ne (tgt := 52) hx hb d_MT_escape_44 (by decide) (fun c23 => ?_) (fun c23 => ?_)
          · replace h := o_ff c23 h
            refine lv_iload_n hx hb d_MT_escape_52 rfl (lv_at hl 0 rfl) ?_
            refine lv_bipush (v := (110:Int32)) hx hb d_MT_escape_53 (by decide) ?_
            refine lv_icmp_ne (tgt := 63) hx hb d_MT_escape_55 (by decide) (fun c24 => ?_) (fun c24 => ?_)
            · replace h := o_ff c24 h
              refine lv_iload_n hx hb d_MT_escape_63 rfl (lv_at hl 0 rfl) ?_
              refine lv_bipush (v := (114:Int32)) hx hb d_MT_escape_64 (by decide) ?_
              refine lv_icmp_ne (tgt := 74) hx hb d_MT_escape_66 (by decide) (fun c25 => ?_) (fun c25 => ?_)
              · replace h := o_ff c25 h
                refine lv_iload_n hx hb d_MT_escape_74 rfl (lv_at hl 0 rfl) ?_
                refine lv_bipush (v := (116:Int32)) hx hb d_MT_escape_75 (by decide) ?_
                refine lv_icmp_ne (tgt := 85) hx hb d_MT_escape_77 (by decide) (fun c26 => ?_) (fun c26 => ?_)
                · replace h := o_ff c26 h
                  refine lv_iconst (v := (-1:Int32)) hx hb d_MT_escape_85 (by decide) ?_
                  exact f_MT_escape_j86_a hE hKy C hDD n x1 q1 (-1:Int32) a0 Ni Np No Nx Nf Na Nh Nq Nj M1 rt h _ _ _ hP hS (lv_sub hl [1, 2, 0] rfl)
                · replace h := o_tt c26 h
                  refine lv_bipush (v := (9:Int32)) hx hb d_MT_escape_80 (by decide) ?_
                  refine lv_goto (tgt := 86) hx hb d_MT_escape_82 (by decide) ?_
                  exact f_MT_escape_j86_a hE hKy C hDD n x1 q1 (9:Int32) a0 Ni Np No Nx Nf Na Nh Nq Nj M1 rt h _ _ _ hP hS (lv_sub hl [1, 2, 0] rfl)
              · replace h := o_tt c25 h
                refine lv_bipush (v := (13:Int32)) hx hb d_MT_escape_69 (by decide) ?_
                refine lv_goto (tgt := 86) hx hb d_MT_escape_71 (by decide) ?_
                exact f_MT_escape_j86_a hE hKy C hDD n x1 q1 (13:Int32) a0 Ni Np No Nx Nf Na Nh Nq Nj M1 rt h _ _ _ hP hS (lv_sub hl [1, 2, 0] rfl)
            · replace h := o_tt c24 h
              refine lv_bipush (v := (10:Int32)) hx hb d_MT_escape_58 (by decide) ?_
              refine lv_goto (tgt := 86) hx hb d_MT_escape_60 (by decide) ?_
              exact f_MT_escape_j86_a hE hKy C hDD n x1 q1 (10:Int32) a0 Ni Np No Nx Nf Na Nh Nq Nj M1 rt h _ _ _ hP hS (lv_sub hl [1, 2, 0] rfl)
          · replace h := o_tt c23 h
            refine lv_bipush (v := (12:Int32)) hx hb d_MT_escape_47 (by decide) ?_
            refine lv_goto (tgt := 86) hx hb d_MT_escape_49 (by decide) ?_
            exact f_MT_escape_j86_a hE hKy C hDD n x1 q1 (12:Int32) a0 Ni Np No Nx Nf Na Nh Nq Nj M1 rt h _ _ _ hP hS (lv_sub hl [1, 2, 0] rfl)
        · replace h := o_tt c22 h
          refine lv_bipush (v := (8:Int32)) hx hb d_MT_escape_36 (by decide) ?_
          refine lv_goto (tgt := 86) hx hb d_MT_escape_38 (by decide) ?_
          exact f_MT_escape_j86_a hE hKy C hDD n x1 q1 (8:Int32) a0 Ni Np No Nx Nf Na Nh Nq Nj M1 rt h _ _ _ hP hS (lv_sub hl [1, 2, 0] rfl)
      · replace h := o_tt c21 h
        refine lv_iload_n hx hb d_MT_escape_26 rfl (lv_at hl 0 rfl) ?_
        refine lv_goto (tgt := 86) hx hb d_MT_escape_27 (by decide) ?_
        exact f_MT_escape_j86_a hE hKy C hDD n x1 q1 q1 a0 Ni Np No Nx Nf Na Nh Nq Nj M1 rt h _ _ _ hP hS (lv_sub hl [1, 2, 0] rfl)
set_option maxHeartbeats 4000000 in
set_option maxRecDepth 100000 in
theorem f_MT_escape_b122_b {E : (Nat → Prop) → State → Heap → Prop} {p : Program} {l : Launch} {e : Env} {s : State} {m : MethodId} {args : Array Value} {below : List Frame} {meth : Method} {c : Code} {D : va_G} {ad kd sd vd xd : Nat → Nat} {ca : Nat → ClassId} {A : Nat → Prop} {ky ty : Nat → Option Nat} {Q : State → Prop} (hE : o_EK E kd sd vd xd) (hKy : m_KY ky ty sd) (C : o_Cx E p s m args meth c D m_cls (m_tys ca) "SchemaJudgeModel$Text" b_MT_escape (some .boolean) 5 cc_MT_escape A) (hDD : ∀ (rt : Nat) (Ni : SNI) (Np : SNP) (No : SNO) (Nx : SNX) (Nf : SNF) (Na : SNA) (Nh : SNH) (Nq : SNQ) (Nj : SNJ) (M0 : SMT) (M1 : SMT), va_D A (m_cw ad ca ky ty rt Ni Np No Nx Nf Na Nh Nq Nj M0 M1)) (n : Nat) (u122_x1 : Int32) (u122_a0 : SMT) (u122_Ni : SNI) (u122_Np : SNP) (u122_No : SNO) (u122_Nx : SNX) (u122_Nf : SNF) (u122_Na : SNA) (u122_Nh : SNH) (u122_Nq : SNQ) (u122_Nj : SNJ) (u122_M0 : SMT) (u122_rt : Nat) (z : Int32) (q : Nat × Int32) (h : m_MT_escape_b122 n u122_x1 u122_a0 z = some q) (h0 : q.1 = 0 → o_At p l e rm_MT_escape s m args below meth c Q m_cls D A 5 122 [] (m_cw ad ca ky ty u122_rt u122_Ni u122_Np u122_No u122_Nx u122_Nf u122_Na u122_Nh u122_Nq u122_Nj u122_M0 u122_a0) [(0, .ref (ad 48)), (1, .int u122_x1), (4, .int q.2)]) (h1 : q.1 ≠ 0 → (if q.1 = 1 then o_At p l e rm_MT_escape s m args below meth c Q m_cls D A 5 159 [] (m_cw ad ca ky ty u122_rt u122_Ni u122_Np u122_No u122_Nx u122_Nf u122_Na u122_Nh u122_Nq u122_Nj u122_M0 u122_a0) [(0, .ref (ad 48)), (4, .int q.2)] else o_At p l e rm_MT_escape s m args below meth c Q m_cls D A 5 177 [] (m_cw ad ca ky ty u122_rt u122_Ni u122_Np u122_No u122_Nx u122_Nf u122_Na u122_Nh u122_Nq u122_Nj u122_M0 u122_a0) [(0, .ref (ad 48)), (1, .int u122_x1)])) : o_At p l e rm_MT_escape s m args below meth c Q m_cls D A 5 122 [] (m_cw ad ca ky ty u122_rt u122_Ni u122_Np u122_No u122_Nx u122_Nf u122_Na u122_Nh u122_Nq u122_Nj u122_M0 u122_a0) [(0, .ref (ad 48)), (1, .int u122_x1), (4, .int z)] := by
  unfold m_MT_escape_b122 at h
  intro H locs ls hP hS hl
  have C0 := C
  obtain ⟨hx, hb, -, -, -, hown, hts, hK, -, -⟩ := C0
  refine lv_iload hx hb d_MT_escape_122 (lv_at hl 2 rfl) ?_
  refine lv_iconst (v := (4:Int32)) hx hb d_MT_escape_124 (by decide) ?_
  refine lv_icmp_ge (tgt := 177) hx hb d_MT_escape_125 (by decide) (fun c4 => ?_) (fun c4 => ?_)
  · replace h := o_tt c4 h
    cases h
    exact h1 (Nat.succ_ne_zero 1) _ _ _ hP hS (lv_sub hl [0, 1] rfl)
  · replace h := o_ff c4 h
    refine lv_aload_n hx hb d_MT_escape_128 rfl (lv_at hl 0 rfl) ?_
    refine lv_aload_n hx hb d_MT_escape_129 rfl (lv_at hl 0 rfl) ?_
    refine o_get (v := .int (MT_at u122_a0)) C in_MT hP 48 mw_48 rfl 15 (by decide) k_7_129 rfl rfl d_MT_escape_130 ?_
    refine lv_iload hx hb d_MT_escape_133 (lv_at hl 2 rfl) ?_
    refine lv_iadd hx hb d_MT_escape_135 ?_
    obtain ⟨q2, hq2, h⟩ := o_bd_some h
    refine o_V (st1 := [.int q2]) (w1 := (m_cw ad ca ky ty u122_rt u122_Ni u122_Np u122_No u122_Nx u122_Nf u122_Na u122_Nh u122_Nq u122_Nj u122_M0 u122_a0)) hE.1 C (e_MT_c_b hE hKy l ((MT_at u122_a0) + z) u122_a0 u122_Ni u122_Np u122_No u122_Nx u122_Nf u122_Na u122_Nh u122_Nq u122_Nj u122_M0 u122_rt hq2) hP (hDD _ _ _ _ _ _ _ _ _ _ _ _) hS hl.1 rfl mw_48 k_8_192 k_8_193 k_8_194 k_1_13 k_8_195 hv_MT_c rfl rfl ⟨(Nat.le_of_ble_eq_true rfl), (Nat.le_of_ble_eq_true rfl)⟩ rfl (Nat.le_of_ble_eq_true rfl) ⟨Nat.zero_le _, Nat.zero_le _⟩ rfl d_MT_escape_136 (fun H locs hP hS => ?_)
    refine lv_if_lt (tgt := 159) hx hb d_MT_escape_139 (by decide) (fun c5 => ?_) (fun c5 => ?_)
    · replace h := o_tt c5 h
      cases h
      exact h1 (Nat.succ_ne_zero 0) _ _ _ hP hS (lv_sub hl [0, 2] rfl)
    · replace h := o_ff c5 h
      refine lv_aload_n hx hb d_MT_escape_142 rfl (lv_at hl 0 rfl) ?_
      refine lv_aload_n hx hb d_MT_escape_143 rfl (lv_at hl 0 rfl) ?_
      refine o_get (v := .int (MT_at u122_a0)) C in_MT hP 48 mw_48 rfl 15 (by decide) k_7_129 rfl rfl d_MT_escape_144 ?_
      refine lv_iload hx hb d_MT_escape_147 (lv_at hl 2 rfl) ?_
      refine lv_iadd hx hb d_MT_escape_149 ?_
      obtain ⟨q3, hq3, h⟩ := o_bd_some h
      refine o_V (st1 := [.int q3]) (w1 := (m_cw ad ca ky ty u122_rt u122_Ni u122_Np u122_No u122_Nx u122_Nf u122_Na u122_Nh u122_Nq u122_Nj u122_M0 u122_a0)) hE.1 C (e_MT_c_b hE hKy l ((MT_at u122_a0) + z) u122_a0 u122_Ni u122_Np u122_No u122_Nx u122_Nf u122_Na u122_Nh u122_Nq u122_Nj u122_M0 u122_rt hq3) hP (hDD _ _ _ _ _ _ _ _ _ _ _ _) hS hl.1 rfl mw_48 k_8_192 k_8_193 k_8_194 k_1_13 k_8_195 hv_MT_c rfl rfl ⟨(Nat.le_of_ble_eq_true rfl), (Nat.le_of_ble_eq_true rfl)⟩ rfl (Nat.le_of_ble_eq_true rfl) ⟨Nat.zero_le _, Nat.zero_le _⟩ rfl d_MT_escape_150 (fun H locs hP hS => ?_)
      obtain ⟨q4, hq4, h⟩ := o_bd_some h
      refine o_S (st1 := [.int q4]) (w1 := (m_cw ad ca ky ty u122_rt u122_Ni u122_Np u122_No u122_Nx u122_Nf u122_Na u122_Nh u122_Nq u122_Nj u122_M0 u122_a0)) hE.1 C (e_MT_hex hE hKy l q3 u122_Ni u122_Np u122_No u122_Nx u122_Nf u122_Na u122_Nh u122_Nq u122_Nj u122_M0 u122_a0 u122_rt hq4) hP (hDD _ _ _ _ _ _ _ _ _ _ _ _) hS hl.1 k_8_232 k_8_233 k_1_13 k_8_234 hs_MT_hex rfl rfl ⟨(Nat.le_of_ble_eq_true rfl), (Nat.le_of_ble_eq_true rfl)⟩ rfl (Nat.le_of_ble_eq_true rfl) ⟨Nat.zero_le _, Nat.zero_le _⟩ rfl d_MT_escape_153 (fun H locs hP hS => ?_)
      refine lv_if_ge (tgt := 171) hx hb d_MT_escape_156 (by decide) (fun c6 => ?_) (fun c6 => ?_)
      · replace h := o_tt c6 h
        obtain ⟨x4_171, ex4_171⟩ : ∃ y : Int32, y = z + (1:Int32) := ⟨_, rfl⟩
        replace h := o_nm_at ex4_171 h
        refine lv_iinc (v := x4_171) (lv' := [(4, .int x4_171), (0, .ref (ad 48)), (1, .int u122_x1)]) hx hb d_MT_escape_171 hl (k := 2) rfl (by rw [ex4_171]; rfl) (by decide) rfl (fun ls hl => ?_)
        refine lv_goto (tgt := 122) hx hb d_MT_escape_174 (by decide) ?_
        cases h
        exact h0 rfl _ _ _ hP hS (lv_sub hl [1, 2, 0] rfl)
      · replace h := o_ff c6 h
        cases h
        exact h1 (Nat.succ_ne_zero 0) _ _ _ hP hS (lv_sub hl [0, 2] rfl)
set_option maxHeartbeats 4000000 in
set_option maxRecDepth 100000 in
theorem f_MT_escape_j159_b {E : (Nat → Prop) → State → Heap → Prop} {p : Program} {l : Launch} {e : Env} {s : State} {m : MethodId} {args : Array Value} {below : List Frame} {meth : Method} {c : Code} {D : va_G} {ad kd sd vd xd : Nat → Nat} {ca : Nat → ClassId} {A : Nat → Prop} {ky ty : Nat → Option Nat} (hE : o_EK E kd sd vd xd) (hKy : m_KY ky ty sd) (C : o_Cx E p s m args meth c D m_cls (m_tys ca) "SchemaJudgeModel$Text" b_MT_escape (some .boolean) 5 cc_MT_escape A) (hDD : ∀ (rt : Nat) (Ni : SNI) (Np : SNP) (No : SNO) (Nx : SNX) (Nf : SNF) (Na : SNA) (Nh : SNH) (Nq : SNQ) (Nj : SNJ) (M0 : SMT) (M1 : SMT), va_D A (m_cw ad ca ky ty rt Ni Np No Nx Nf Na Nh Nq Nj M0 M1)) (n : Nat) (x4 : Int32) (a0 : SMT) (Ni : SNI) (Np : SNP) (No : SNO) (Nx : SNX) (Nf : SNF) (Na : SNA) (Nh : SNH) (Nq : SNQ) (Nj : SNJ) (M0 : SMT) (rt : Nat) {r : Int32 × SMT} (h : m_MT_escape_j159 n x4 a0 = some r) : o_At p l e rm_MT_escape s m args below meth c (MQ below (o_Qx D m_cls (some (.int r.1)) (m_cw ad ca ky ty rt Ni Np No Nx Nf Na Nh Nq Nj M0 r.2) A) args s 0 0 A) m_cls D A 5 159 [] (m_cw ad ca ky ty rt Ni Np No Nx Nf Na Nh Nq Nj M0 a0) [(0, .ref (ad 48)), (4, .int x4)] := by
  unfold m_MT_escape_j159 at h
  intro H locs ls hP hS hl
  have C0 := C
  obtain ⟨hx, hb, -, -, -, hown, hts, hK, -, -⟩ := C0
  refine lv_aload_n hx hb d_MT_escape_159 rfl (lv_at hl 0 rfl) ?_
  refine lv_aload_n hx hb d_MT_escape_160 rfl (lv_at hl 0 rfl) ?_
  refine o_get (v := .int (MT_at a0)) C in_MT hP 48 mw_48 rfl 15 (by decide) k_7_129 rfl rfl d_MT_escape_161 ?_
  refine lv_iload hx hb d_MT_escape_164 (lv_at hl 1 rfl) ?_
  refine lv_iadd hx hb d_MT_escape_166 ?_
  obtain ⟨q6, hq6, h⟩ := o_bd_some h
  refine o_V (st1 := [.int q6.1]) (w1 := (m_cw ad ca ky ty rt Ni Np No Nx Nf Na Nh Nq Nj M0 q6.2)) hE.1 C (e_MT_bad_b hE hKy l ((MT_at a0) + x4) a0 Ni Np No Nx Nf Na Nh Nq Nj M0 rt hq6) hP (hDD _ _ _ _ _ _ _ _ _ _ _ _) hS hl.1 rfl mw_48 k_8_203 k_8_204 k_8_205 k_1_13 k_8_206 hv_MT_bad rfl rfl ⟨(Nat.le_of_ble_eq_true rfl), (Nat.le_of_ble_eq_true rfl)⟩ rfl (Nat.le_of_ble_eq_true rfl) ⟨Nat.zero_le _, Nat.zero_le _⟩ rfl d_MT_escape_167 (fun H locs hP hS => ?_)
  obtain ⟨g7, h⟩ := o_gd_some h
  cases h
  exact o_rz C (o_zb_nar g7) hP hS d_MT_escape_170
set_option maxHeartbeats 4000000 in
set_option maxRecDepth 100000 in
theorem f_MT_escape_j273_b {E : (Nat → Prop) → State → Heap → Prop} {p : Program} {l : Launch} {e : Env} {s : State} {m : MethodId} {args : Array Value} {below : List Frame} {meth : Method} {c : Code} {D : va_G} {ad kd sd vd xd : Nat → Nat} {ca : Nat → ClassId} {A : Nat → Prop} {ky ty : Nat → Option Nat} (hE : o_EK E kd sd vd xd) (hKy : m_KY ky ty sd) (C : o_Cx E p s m args meth c D m_cls (m_tys ca) "SchemaJudgeModel$Text" b_MT_escape (some .boolean) 5 cc_MT_escape A) (hDD : ∀ (rt : Nat) (Ni : SNI) (Np : SNP) (No : SNO) (Nx : SNX) (Nf : SNF) (Na : SNA) (Nh : SNH) (Nq : SNQ) (Nj : SNJ) (M0 : SMT) (M1 : SMT), va_D A (m_cw ad ca ky ty rt Ni Np No Nx Nf Na Nh Nq Nj M0 M1)) (n : Nat) (x1 : Int32) (x3 : Int32) (y0 : Int32) (a0 : SMT) (Ni : SNI) (Np : SNP) (No : SNO) (Nx : SNX) (Nf : SNF) (Na : SNA) (Nh : SNH) (Nq : SNQ) (Nj : SNJ) (M0 : SMT) (rt : Nat) {r : Int32 × SMT} (h : m_MT_escape_j273 n x1 x3 y0 a0 = some r) : o_At p l e rm_MT_escape s m args below meth c (MQ below (o_Qx D m_cls (some (.int r.1)) (m_cw ad ca ky ty rt Ni Np No Nx Nf Na Nh Nq Nj M0 r.2) A) args s 0 0 A) m_cls D A 5 273 [.int y0] (m_cw ad ca ky ty rt Ni Np No Nx Nf Na Nh Nq Nj M0 a0) [(0, .ref (ad 48)), (1, .int x1), (3, .int x3)] := by
  unfold m_MT_escape_j273 at h
  intro H locs ls hP hS hl
  have C0 := C
  obtain ⟨hx, hb, -, -, -, hown, hts, hK, -, -⟩ := C0
  refine lv_istore (lv' := [(4, .int y0), (0, .ref (ad 48)), (1, .int x1), (3, .int x3)]) hx hb d_MT_escape_273 hl (by decide) rfl (fun ls hl => ?_)
  refine lv_iload hx hb d_MT_escape_275 (lv_at hl 0 rfl) ?_
  refine lv_ldc (v := (56320:Int32)) hx hb hown (hts _ k_8_239) d_MT_escape_277 ?_
  refine lv_ldc (v := (57343:Int32)) hx hb hown (hts _ k_9_0) d_MT_escape_279 ?_
  obtain ⟨q11, hq11, h⟩ := o_bd_some h
  refine o_SN (st1 := [.int q11]) (w1 := (m_cw ad ca ky ty rt Ni Np No Nx Nf Na Nh Nq Nj M0 a0)) hE.1 C (e_MM_in hE hKy l y0 (56320:Int32) (57343:Int32) Ni Np No Nx Nf Na Nh Nq Nj M0 a0 rt hq11) hP (hDD _ _ _ _ _ _ _ _ _ _ _ _) hS hl.1 (hE.2.1 _ _ _ C.2.2.2.2.2.2.2.2.2 _ nw_21) k_8_201 k_1_12 k_8_202 hs_MM_in rfl rfl ⟨(Nat.le_of_ble_eq_true rfl), (Nat.le_of_ble_eq_true rfl)⟩ rfl (Nat.le_of_ble_eq_true rfl) ⟨Nat.zero_le _, Nat.zero_le _⟩ rfl d_MT_escape_281 (fun H locs hP hS => ?_)
  refine lv_if_ne (tgt := 293) hx hb d_MT_escape_284 (by decide) (fun c11 => ?_) (fun c11 => ?_)
  · replace h := o_ff c11 h
    refine lv_aload_n hx hb d_MT_escape_293 rfl (lv_at hl 1 rfl) ?_
    refine lv_dup hx hb d_MT_escape_294 rfl ?_
    refine o_get (v := .int (MT_at a0)) C in_MT hP 48 mw_48 rfl 15 (by decide) k_7_129 rfl rfl d_MT_escape_295 ?_
    refine lv_bipush (v := (6:Int32)) hx hb d_MT_escape_298 (by decide) ?_
    refine lv_iadd hx hb d_MT_escape_300 ?_
    refine o_put (v := .int ((MT_at a0) + (6:Int32))) (ty := .int) (w1 := (m_cw ad ca ky ty rt Ni Np No Nx Nf Na Nh Nq Nj M0 (MT_mk (MT_text a0) (MT_kind a0) (MT_place a0) (MT_many a0) (MT_parent a0) (MT_power a0) (MT_first a0) (MT_next a0) (MT_name a0) (MT_from a0) (MT_characters a0) (MT_digits a0) (MT_minus a0) (MT_values a0) (MT_letters a0) ((MT_at a0) + (6:Int32)) (MT_wrong a0) (MT_used a0) (MT_written a0) (MT_left a0)))) C in_MT t_MT t_MT_ok n_MT hP (hDD _ _ _ _ _ _ _ _ _ _ _ _) hS 48 mw_48 rfl 15 (by decide) k_7_129 rfl rfl (by decide +kernel) rfl rfl (Nat.le_of_ble_eq_true rfl) rfl d_MT_escape_301 (fun H locs hP hS => ?_)
    refine lv_aload_n hx hb d_MT_escape_304 rfl (lv_at hl 1 rfl) ?_
    refine lv_ldc (v := (65536:Int32)) hx hb hown (hts _ k_9_3) d_MT_escape_305 ?_
    refine lv_iload_n hx hb d_MT_escape_307 rfl (lv_at hl 3 rfl) ?_
    refine lv_ldc (v := (55296:Int32)) hx hb hown (hts _ k_9_1) d_MT_escape_308 ?_
    refine lv_isub hx hb d_MT_escape_310 ?_
    refine lv_bipush (v := (10:Int32)) hx hb d_MT_escape_311 (by decide) ?_
    refine lv_ishl hx hb d_MT_escape_313 ?_
    refine lv_iadd hx hb d_MT_escape_314 ?_
    refine lv_iload hx hb d_MT_escape_315 (lv_at hl 0 rfl) ?_
    refine lv_iadd hx hb d_MT_escape_317 ?_
    refine lv_ldc (v := (56320:Int32)) hx hb hown (hts _ k_8_239) d_MT_escape_318 ?_
    refine lv_isub hx hb d_MT_escape_320 ?_
    refine lv_iload_n hx hb d_MT_escape_321 rfl (lv_at hl 2 rfl) ?_
    obtain ⟨q12, hq12, h⟩ := o_bd_some h
    refine o_V (st1 := [.int q12.1]) (w1 := (m_cw ad ca ky ty rt Ni Np No Nx Nf Na Nh Nq Nj M0 q12.2)) hE.1 C (e_MT_put_b hE hKy l ((((65536:Int32) + ((x3 - (55296:Int32)) <<< ((10:Int32) &&& 31))) + y0) - (56320:Int32)) x1 (MT_mk (MT_text a0) (MT_kind a0) (MT_place a0) (MT_many a0) (MT_parent a0) (MT_power a0) (MT_first a0) (MT_next a0) (MT_name a0) (MT_from a0) (MT_characters a0) (MT_digits a0) (MT_minus a0) (MT_values a0) (MT_letters a0) ((MT_at a0) + (6:Int32)) (MT_wrong a0) (MT_used a0) (MT_written a0) (MT_left a0)) Ni Np No Nx Nf Na Nh Nq Nj M0 rt hq12) hP (hDD _ _ _ _ _ _ _ _ _ _ _ _) hS hl.1 rfl mw_48 k_8_228 k_8_229 k_8_230 k_1_13 k_8_231 hv_MT_put rfl rfl ⟨(Nat.le_of_ble_eq_true rfl), (Nat.le_of_ble_eq_true rfl)⟩ rfl (Nat.le_of_ble_eq_true rfl) ⟨Nat.zero_le _, Nat.zero_le _⟩ rfl d_MT_escape_322 (fun H locs hP hS => ?_)
    obtain ⟨g12, h⟩ := o_gd_some h
    cases h
    exact o_rz C (o_zb_nar g12) hP hS d_MT_escape_325
  · replace h := o_tt c11 h
    refine lv_aload_n hx hb d_MT_escape_287 rfl (lv_at hl 1 rfl) ?_
    refine lv_iload_n hx hb d_MT_escape_288 rfl (lv_at hl 2 rfl) ?_
    obtain ⟨q13, hq13, h⟩ := o_bd_some h
    refine o_V (st1 := [.int q13.1]) (w1 := (m_cw ad ca ky ty rt Ni Np No Nx Nf Na Nh Nq Nj M0 q13.2)) hE.1 C (e_MT_bad_b hE hKy l x1 a0 Ni Np No Nx Nf Na Nh Nq Nj M0 rt hq13) hP (hDD _ _ _ _ _ _ _ _ _ _ _ _) hS hl.1 rfl mw_48 k_8_203 k_8_204 k_8_205 k_1_13 k_8_206 hv_MT_bad rfl rfl ⟨(Nat.le_of_ble_eq_true rfl), (Nat.le_of_ble_eq_true rfl)⟩ rfl (Nat.le_of_ble_eq_true rfl) ⟨Nat.zero_le _, Nat.zero_le _⟩ rfl d_MT_escape_289 (fun H locs hP hS => ?_)
    obtain ⟨g13, h⟩ := o_gd_some h
    cases h
    exact o_rz C (o_zb_nar g13) hP hS d_MT_escape_292
set_option maxHeartbeats 4000000 in
set_option maxRecDepth 100000 in
theorem f_MT_escape_j86_b {E : (Nat → Prop) → State → Heap → Prop} {p : Program} {l : Launch} {e : Env} {s : State} {m : MethodId} {args : Array Value} {below : List Frame} {meth : Method} {c : Code} {D : va_G} {ad kd sd vd xd : Nat → Nat} {ca : Nat → ClassId} {A : Nat → Prop} {ky ty : Nat → Option Nat} (hE : o_EK E kd sd vd xd) (hKy : m_KY ky ty sd) (C : o_Cx E p s m args meth c D m_cls (m_tys ca) "SchemaJudgeModel$Text" b_MT_escape (some .boolean) 5 cc_MT_escape A) (hDD : ∀ (rt : Nat) (Ni : SNI) (Np : SNP) (No : SNO) (Nx : SNX) (Nf : SNF) (Na : SNA) (Nh : SNH) (Nq : SNQ) (Nj : SNJ) (M0 : SMT) (M1 : SMT), va_D A (m_cw ad ca ky ty rt Ni Np No Nx Nf Na Nh Nq Nj M0 M1)) (n : Nat) (x1 : Int32) (x2 : Int32) (y0 : Int32) (a0 : SMT) (Ni : SNI) (Np : SNP) (No : SNO) (Nx : SNX) (Nf : SNF) (Na : SNA) (Nh : SNH) (Nq : SNQ) (Nj : SNJ) (M0 : SMT) (rt : Nat) {r : Int32 × SMT} (h : m_MT_escape_j86 n x1 x2 y0 a0 = some r) : o_At p l e rm_MT_escape s m args below meth c (MQ below (o_Qx D m_cls (some (.int r.1)) (m_cw ad ca ky ty rt Ni Np No Nx Nf Na Nh Nq Nj M0 r.2) A) args s 0 0 A) m_cls D A 5 86 [.int y0] (m_cw ad ca ky ty rt Ni Np No Nx Nf Na Nh Nq Nj M0 a0) [(0, .ref (ad 48)), (1, .int x1), (2, .int x2)] := by
  unfold m_MT_escape_j86 at h
  intro H locs ls hP hS hl
  have C0 := C
  obtain ⟨hx, hb, -, -, -, hown, hts, hK, -, -⟩ := C0
  refine lv_istore_n (lv' := [(3, .int y0), (0, .ref (ad 48)), (1, .int x1), (2, .int x2)]) hx hb d_MT_escape_86 rfl hl (by decide) rfl (fun ls hl => ?_)
  refine lv_aload_n hx hb d_MT_escape_87 rfl (lv_at hl 1 rfl) ?_
  refine lv_iload_n hx hb d_MT_escape_88 rfl (lv_at hl 2 rfl) ?_
  refine lv_iconst (v := (2:Int32)) hx hb d_MT_escape_89 (by decide) ?_
  refine lv_iadd hx hb d_MT_escape_90 ?_
  refine o_put (v := .int (x1 + (2:Int32))) (ty := .int) (w1 := (m_cw ad ca ky ty rt Ni Np No Nx Nf Na Nh Nq Nj M0 (MT_mk (MT_text a0) (MT_kind a0) (MT_place a0) (MT_many a0) (MT_parent a0) (MT_power a0) (MT_first a0) (MT_next a0) (MT_name a0) (MT_from a0) (MT_characters a0) (MT_digits a0) (MT_minus a0) (MT_values a0) (MT_letters a0) (x1 + (2:Int32)) (MT_wrong a0) (MT_used a0) (MT_written a0) (MT_left a0)))) C in_MT t_MT t_MT_ok n_MT hP (hDD _ _ _ _ _ _ _ _ _ _ _ _) hS 48 mw_48 rfl 15 (by decide) k_7_129 rfl rfl (by decide +kernel) rfl rfl (Nat.le_of_ble_eq_true rfl) rfl d_MT_escape_91 (fun H locs hP hS => ?_)
  refine lv_iload_n hx hb d_MT_escape_94 rfl (lv_at hl 0 rfl) ?_
  refine lv_if_lt (tgt := 105) hx hb d_MT_escape_95 (by decide) (fun c2 => ?_) (fun c2 => ?_)
  · replace h := o_tt c2 h
    refine lv_iload_n hx hb d_MT_escape_105 rfl (lv_at hl 3 rfl) ?_
    refine lv_bipush (v := (117:Int32)) hx hb d_MT_escape_106 (by decide) ?_
    refine lv_icmp_eq (tgt := 119) hx hb d_MT_escape_108 (by decide) (fun c3 => ?_) (fun c3 => ?_)
    · replace h := o_tt c3 h
      refine lv_iconst (v := (0:Int32)) hx hb d_MT_escape_119 (by decide) ?_
      refine lv_istore (lv' := [(4, .int (0:Int32)), (3, .int y0), (0, .ref (ad 48)), (1, .int x1), (2, .int x2)]) hx hb d_MT_escape_120 hl (by decide) rfl (fun ls hl => ?_)
      obtain ⟨q5, hq5, h⟩ := o_bd_some h
      refine o_sim2 (AH := fun zz => o_At p l e rm_MT_escape s m args below meth c _ m_cls D A 5 122 [] (m_cw ad ca ky ty rt Ni Np No Nx Nf Na Nh Nq Nj M0 (MT_mk (MT_text a0) (MT_kind a0) (MT_place a0) (MT_many a0) (MT_parent a0) (MT_power a0) (MT_first a0) (MT_next a0) (MT_name a0) (MT_from a0) (MT_characters a0) (MT_digits a0) (MT_minus a0) (MT_values a0) (MT_letters a0) (x1 + (2:Int32)) (MT_wrong a0) (MT_used a0) (MT_written a0) (MT_left a0))) [(0, .ref (ad 48)), (1, .int x1), (4, .int zz)]) (AX := fun qq => if qq.1 = 1 then o_At p l e rm_MT_escape s m args below meth c _ m_cls D A 5 159 [] (m_cw ad ca ky ty rt Ni Np No Nx Nf Na Nh Nq Nj M0 (MT_mk (MT_text a0) (MT_kind a0) (MT_place a0) (MT_many a0) (MT_parent a0) (MT_power a0) (MT_first a0) (MT_next a0) (MT_name a0) (MT_from a0) (MT_characters a0) (MT_digits a0) (MT_minus a0) (MT_values a0) (MT_letters a0) (x1 + (2:Int32)) (MT_wrong a0) (MT_used a0) (MT_written a0) (MT_left a0))) [(0, .ref (ad 48)), (4, .int qq.2)] else o_At p l e rm_MT_escape s m args below meth c _ m_cls D A 5 177 [] (m_cw ad ca ky ty rt Ni Np No Nx Nf Na Nh Nq Nj M0 (MT_mk (MT_text a0) (MT_kind a0) (MT_place a0) (MT_many a0) (MT_parent a0) (MT_power a0) (MT_first a0) (MT_next a0) (MT_name a0) (MT_from a0) (MT_characters a0) (MT_digits a0) (MT_minus a0) (MT_values a0) (MT_letters a0) (x1 + (2:Int32)) (MT_wrong a0) (MT_used a0) (MT_written a0) (MT_left a0))) [(0, .ref (ad 48)), (1, .int x1)]) (fun zz qq h h0 h1 => f_MT_escape_b122_b hE hKy C hDD n x1 (MT_mk (MT_text a0) (MT_kind a0) (MT_place a0) (MT_many a0) (MT_parent a0) (MT_power a0) (MT_first a0) (MT_next a0) (MT_name a0) (MT_from a0) (MT_characters a0) (MT_digits a0) (MT_minus a0) (MT_values a0) (MT_letters a0) (x1 + (2:Int32)) (MT_wrong a0) (MT_used a0) (MT_written a0) (MT_left a0)) Ni Np No Nx Nf Na Nh Nq Nj M0 rt zz qq h h0 h1) n _ q5 hq5 ?_ _ _ _ hP hS (lv_sub hl [2, 3, 0] rfl)
      by_cases c17 : q5.1 = 1
      · replace h := o_tt c17 h
        refine o_ip c17 ?_
        intro H locs ls hP hS hl
        exact f_MT_escape_j159_b hE hKy C hDD n q5.2 (MT_mk (MT_text a0) (MT_kind a0) (MT_place a0) (MT_many a0) (MT_parent a0) (MT_power a0) (MT_first a0) (MT_next a0) (MT_name a0) (MT_from a0) (MT_characters a0) (MT_digits a0) (MT_minus a0) (MT_values a0) (MT_letters a0) (x1 + (2:Int32)) (MT_wrong a0) (MT_used a0) (MT_written a0) (MT_left a0)) Ni Np No Nx Nf Na Nh Nq Nj M0 rt h _ _ _ hP hS (lv_sub hl [0, 1] rfl)
      replace h := o_ff c17 h
      refine o_in_ c17 ?_
      intro H locs ls hP hS hl
      refine lv_aload_n hx hb d_MT_escape_177 rfl (lv_at hl 0 rfl) ?_
      refine lv_aload_n hx hb d_MT_escape_178 rfl (lv_at hl 0 rfl) ?_
      refine o_get (v := .int (x1 + (2:Int32))) C in_MT hP 48 mw_48 rfl 15 (by decide) k_7_129 rfl rfl d_MT_escape_179 ?_
      obtain ⟨q7, hq7, h⟩ := o_bd_some h
      refine o_V (st1 := [.int q7]) (w1 := (m_cw ad ca ky ty rt Ni Np No Nx Nf Na Nh Nq Nj M0 (MT_mk (MT_text a0) (MT_kind a0) (MT_place a0) (MT_many a0) (MT_parent a0) (MT_power a0) (MT_first a0) (MT_next a0) (MT_name a0) (MT_from a0) (MT_characters a0) (MT_digits a0) (MT_minus a0) (MT_values a0) (MT_letters a0) (x1 + (2:Int32)) (MT_wrong a0) (MT_used a0) (MT_written a0) (MT_left a0)))) hE.1 C (e_MT_four_b hE hKy l n (x1 + (2:Int32)) (MT_mk (MT_text a0) (MT_kind a0) (MT_place a0) (MT_many a0) (MT_parent a0) (MT_power a0) (MT_first a0) (MT_next a0) (MT_name a0) (MT_from a0) (MT_characters a0) (MT_digits a0) (MT_minus a0) (MT_values a0) (MT_letters a0) (x1 + (2:Int32)) (MT_wrong a0) (MT_used a0) (MT_written a0) (MT_left a0)) Ni Np No Nx Nf Na Nh Nq Nj M0 rt hq7) hP (hDD _ _ _ _ _ _ _ _ _ _ _ _) hS hl.1 rfl mw_48 k_8_235 k_8_236 k_8_237 k_1_13 k_8_238 hv_MT_four rfl rfl ⟨(Nat.le_of_ble_eq_true rfl), (Nat.le_of_ble_eq_true rfl)⟩ rfl (Nat.le_of_ble_eq_true rfl) ⟨Nat.zero_le _, Nat.zero_le _⟩ rfl d_MT_escape_182 (fun H locs hP hS => ?_)
      refine lv_istore_n (lv' := [(3, .int q7), (0, .ref (ad 48)), (1, .int x1)]) hx hb d_MT_escape_185 rfl hl (by decide) rfl (fun ls hl => ?_)
      refine lv_aload_n hx hb d_MT_escape_186 rfl (lv_at hl 1 rfl) ?_
      refine lv_dup hx hb d_MT_escape_187 rfl ?_
      refine o_get (v := .int (x1 + (2:Int32))) C in_MT hP 48 mw_48 rfl 15 (by decide) k_7_129 rfl rfl d_MT_escape_188 ?_
      refine lv_iconst (v := (4:Int32)) hx hb d_MT_escape_191 (by decide) ?_
      refine lv_iadd hx hb d_MT_escape_192 ?_
      refine o_put (v := .int ((x1 + (2:Int32)) + (4:Int32))) (ty := .int) (w1 := (m_cw ad ca ky ty rt Ni Np No Nx Nf Na Nh Nq Nj M0 (MT_mk (MT_text a0) (MT_kind a0) (MT_place a0) (MT_many a0) (MT_parent a0) (MT_power a0) (MT_first a0) (MT_next a0) (MT_name a0) (MT_from a0) (MT_characters a0) (MT_digits a0) (MT_minus a0) (MT_values a0) (MT_letters a0) ((x1 + (2:Int32)) + (4:Int32)) (MT_wrong a0) (MT_used a0) (MT_written a0) (MT_left a0)))) C in_MT t_MT t_MT_ok n_MT hP (hDD _ _ _ _ _ _ _ _ _ _ _ _) hS 48 mw_48 rfl 15 (by decide) k_7_129 rfl rfl (by decide +kernel) rfl rfl (Nat.le_of_ble_eq_true rfl) rfl d_MT_escape_193 (fun H locs hP hS => ?_)
      refine lv_iload_n hx hb d_MT_escape_196 rfl (lv_at hl 0 rfl) ?_
      refine lv_ldc (v := (56320:Int32)) hx hb hown (hts _ k_8_239) d_MT_escape_197 ?_
      refine lv_ldc (v := (57343:Int32)) hx hb hown (hts _ k_9_0) d_MT_escape_199 ?_
      obtain ⟨q8, hq8, h⟩ := o_bd_some h
      refine o_SN (st1 := [.int q8]) (w1 := (m_cw ad ca ky ty rt Ni Np No Nx Nf Na Nh Nq Nj M0 (MT_mk (MT_text a0) (MT_kind a0) (MT_place a0) (MT_many a0) (MT_parent a0) (MT_power a0) (MT_first a0) (MT_next a0) (MT_name a0) (MT_from a0) (MT_characters a0) (MT_digits a0) (MT_minus a0) (MT_values a0) (MT_letters a0) ((x1 + (2:Int32)) + (4:Int32)) (MT_wrong a0) (MT_used a0) (MT_written a0) (MT_left a0)))) hE.1 C (e_MM_in hE hKy l q7 (56320:Int32) (57343:Int32) Ni Np No Nx Nf Na Nh Nq Nj M0 (MT_mk (MT_text a0) (MT_kind a0) (MT_place a0) (MT_many a0) (MT_parent a0) (MT_power a0) (MT_first a0) (MT_next a0) (MT_name a0) (MT_from a0) (MT_characters a0) (MT_digits a0) (MT_minus a0) (MT_values a0) (MT_letters a0) ((x1 + (2:Int32)) + (4:Int32)) (MT_wrong a0) (MT_used a0) (MT_written a0) (MT_left a0)) rt hq8) hP (hDD _ _ _ _ _ _ _ _ _ _ _ _) hS hl.1 (hE.2.1 _ _ _ C.2.2.2.2.2.2.2.2.2 _ nw_21) k_8_201 k_1_12 k_8_202 hs_MM_in rfl rfl ⟨(Nat.le_of_ble_eq_true rfl), (Nat.le_of_ble_eq_true rfl)⟩ rfl (Nat.le_of_ble_eq_true rfl) ⟨Nat.zero_le _, Nat.zero_le _⟩ rfl d_MT_escape_201 (fun H locs hP hS => ?_)
      refine lv_if_eq (tgt := 213) hx hb d_MT_escape_204 (by decide) (fun c8 => ?_) (fun c8 => ?_)
      · replace h := o_tt c8 h
        refine lv_iload_n hx hb d_MT_escape_213 rfl (lv_at hl 0 rfl) ?_
        refine lv_ldc (v := (55296:Int32)) hx hb hown (hts _ k_9_1) d_MT_escape_214 ?_
        refine lv_ldc (v := (56319:Int32)) hx hb hown (hts _ k_9_2) d_MT_escape_216 ?_
        obtain ⟨q9, hq9, h⟩ := o_bd_some h
        refine o_SN (st1 := [.int q9]) (w1 := (m_cw ad ca ky ty rt Ni Np No Nx Nf Na Nh Nq Nj M0 (MT_mk (MT_text a0) (MT_kind a0) (MT_place a0) (MT_many a0) (MT_parent a0) (MT_power a0) (MT_first a0) (MT_next a0) (MT_name a0) (MT_from a0) (MT_characters a0) (MT_digits a0) (MT_minus a0) (MT_values a0) (MT_letters a0) ((x1 + (2:Int32)) + (4:Int32)) (MT_wrong a0) (MT_used a0) (MT_written a0) (MT_left a0)))) hE.1 C (e_MM_in hE hKy l q7 (55296:Int32) (56319:Int32) Ni Np No Nx Nf Na Nh Nq Nj M0 (MT_mk (MT_text a0) (MT_kind a0) (MT_place a0) (MT_many a0) (MT_parent a0) (MT_power a0) (MT_first a0) (MT_next a0) (MT_name a0) (MT_from a0) (MT_characters a0) (MT_digits a0) (MT_minus a0) (MT_values a0) (MT_letters a0) ((x1 + (2:Int32)) + (4:Int32)) (MT_wrong a0) (MT_used a0) (MT_written a0) (MT_left a0)) rt hq9) hP (hDD _ _ _ _ _ _ _ _ _ _ _ _) hS hl.1 (hE.2.1 _ _ _ C.2.2.2.2.2.2.2.2.2 _ nw_21) k_8_201 k_1_12 k_8_202 hs_MM_in rfl rfl ⟨(Nat.le_of_ble_eq_true rfl), (Nat.le_of_ble_eq_true rfl)⟩ rfl (Nat.le_of_ble_eq_true rfl) ⟨Nat.zero_le _, Nat.zero_le _⟩ rfl d_MT_escape_218 (fun H locs hP hS => ?_)
        refine lv_if_ne (tgt := 231) hx hb d_MT_escape_221 (by decide) (fun c9 => ?_) (fun c9 => ?_)
        · replace h := o_ff c9 h
          refine lv_aload_n hx hb d_MT_escape_231 rfl (lv_at hl 1 rfl) ?_
          refine lv_aload_n hx hb d_MT_escape_232 rfl (lv_at hl 1 rfl) ?_
          refine o_get (v := .int ((x1 + (2:Int32)) + (4:Int32))) C in_MT hP 48 mw_48 rfl 15 (by decide) k_7_129 rfl rfl d_MT_escape_233 ?_
          obtain ⟨q10, hq10, h⟩ := o_bd_some h
          refine o_V (st1 := [.int q10]) (w1 := (m_cw ad ca ky ty rt Ni Np No Nx Nf Na Nh Nq Nj M0 (MT_mk (MT_text a0) (MT_kind a0) (MT_place a0) (MT_many a0) (MT_parent a0) (MT_power a0) (MT_first a0) (MT_next a0) (MT_name a0) (MT_from a0) (MT_characters a0) (MT_digits a0) (MT_minus a0) (MT_values a0) (MT_letters a0) ((x1 + (2:Int32)) + (4:Int32)) (MT_wrong a0) (MT_used a0) (MT_written a0) (MT_left a0)))) hE.1 C (e_MT_c_b hE hKy l ((x1 + (2:Int32)) + (4:Int32)) (MT_mk (MT_text a0) (MT_kind a0) (MT_place a0) (MT_many a0) (MT_parent a0) (MT_power a0) (MT_first a0) (MT_next a0) (MT_name a0) (MT_from a0) (MT_characters a0) (MT_digits a0) (MT_minus a0) (MT_values a0) (MT_letters a0) ((x1 + (2:Int32)) + (4:Int32)) (MT_wrong a0) (MT_used a0) (MT_written a0) (MT_left a0)) Ni Np No Nx Nf Na Nh Nq Nj M0 rt hq10) hP (hDD _ _ _ _ _ _ _ _ _ _ _ _) hS hl.1 rfl mw_48 k_8_192 k_8_193 k_8_194 k_1_13 k_8_195 hv_MT_c rfl rfl ⟨(Nat.le_of_ble_eq_true rfl), (Nat.le_of_ble_eq_true rfl)⟩ rfl (Nat.le_of_ble_eq_true rfl) ⟨Nat.zero_le _, Nat.zero_le _⟩ rfl d_MT_escape_236 (fun H locs hP hS => ?_)
          refine lv_bipush (v := (92:Int32)) hx hb d_MT_escape_239 (by decide) ?_
          refine lv_icmp_ne (tgt := 272) hx hb d_MT_escape_241 (by decide) (fun c10 => ?_) (fun c10 => ?_)
          · replace h := o_ff c10 h
            refine lv_iconst (v := (-1:Int32)) hx hb d_MT_escape_272 (by decide) ?_
            exact f_MT_escape_j273_b hE hKy C hDD n x1 q7 (-1:Int32) (MT_mk (MT_text a0) (MT_kind a0) (MT_place a0) (MT_many a0) (MT_parent a0) (MT_power a0) (MT_first a0) (MT_next a0) (MT_name a0) (MT_from a0) (MT_characters a0) (MT_digits a0) (MT_minus a0) (MT_values a0) (MT_letters a0) ((x1 + (2:Int32)) + (4:Int32)) (MT_wrong a0) (MT_used a0) (MT_written a0) (MT_left a0)) Ni Np No Nx Nf Na Nh Nq Nj M0 rt h _ _ _ hP hS (lv_sub hl [1, 2, 0] rfl)
          · replace h := o_tt c10 h
            refine lv_aload_n hx hb d_MT_escape_244 rfl (lv_at hl 1 rfl) ?_
            refine lv_aload_n hx hb d_MT_escape_245 rfl (lv_at hl 1 rfl) ?_
            refine o_get (v := .int ((x1 + (2:Int32)) + (4:Int32))) C in_MT hP 48 mw_48 rfl 15 (by decide) k_7_129 rfl rfl d_MT_escape_246 ?_
            refine lv_iconst (v := (1:Int32)) hx hb d_MT_escape_249 (by decide) ?_
            refine lv_iadd hx hb d_MT_escape_250 ?_
            obtain ⟨q14, hq14, h⟩ := o_bd_some h
            refine o_V (st1 := [.int q14]) (w1 := (m_cw ad ca ky ty rt Ni Np No Nx Nf Na Nh Nq Nj M0 (MT_mk (MT_text a0) (MT_kind a0) (MT_place a0) (MT_many a0) (MT_parent a0) (MT_power a0) (MT_first a0) (MT_next a0) (MT_name a0) (MT_from a0) (MT_characters a0) (MT_digits a0) (MT_minus a0) (MT_values a0) (MT_letters a0) ((x1 + (2:Int32)) + (4:Int32)) (MT_wrong a0) (MT_used a0) (MT_written a0) (MT_left a0)))) hE.1 C (e_MT_c_b hE hKy l (((x1 + (2:Int32)) + (4:Int32)) + (1:Int32)) (MT_mk (MT_text a0) (MT_kind a0) (MT_place a0) (MT_many a0) (MT_parent a0) (MT_power a0) (MT_first a0) (MT_next a0) (MT_name a0) (MT_from a0) (MT_characters a0) (MT_digits a0) (MT_minus a0) (MT_values a0) (MT_letters a0) ((x1 + (2:Int32)) + (4:Int32)) (MT_wrong a0) (MT_used a0) (MT_written a0) (MT_left a0)) Ni Np No Nx Nf Na Nh Nq Nj M0 rt hq14) hP (hDD _ _ _ _ _ _ _ _ _ _ _ _) hS hl.1 rfl mw_48 k_8_192 k_8_193 k_8_194 k_1_13 k_8_195 hv_MT_c rfl rfl ⟨(Nat.le_of_ble_eq_true rfl), (Nat.le_of_ble_eq_true rfl)⟩ rfl (Nat.le_of_ble_eq_true rfl) ⟨Nat.zero_le _, Nat.zero_le _⟩ rfl d_MT_escape_251 (fun H locs hP hS => ?_)
            refine lv_bipush (v := (117:Int32)) hx hb d_MT_escape_254 (by decide) ?_
            refine lv_icmp_ne (tgt := 272) hx hb d_MT_escape_256 (by decide) (fun c14 => ?_) (fun c14 => ?_)
            · replace h := o_ff c14 h
              refine lv_iconst (v := (-1:Int32)) hx hb d_MT_escape_272 (by decide) ?_
              exact f_MT_escape_j273_b hE hKy C hDD n x1 q7 (-1:Int32) (MT_mk (MT_text a0) (MT_kind a0) (MT_place a0) (MT_many a0) (MT_parent a0) (MT_power a0) (MT_first a0) (MT_next a0) (MT_name a0) (MT_from a0) (MT_characters a0) (MT_digits a0) (MT_minus a0) (MT_values a0) (MT_letters a0) ((x1 + (2:Int32)) + (4:Int32)) (MT_wrong a0) (MT_used a0) (MT_written a0) (MT_left a0)) Ni Np No Nx Nf Na Nh Nq Nj M0 rt h _ _ _ hP hS (lv_sub hl [1, 2, 0] rfl)
            · replace h := o_tt c14 h
              refine lv_aload_n hx hb d_MT_escape_259 rfl (lv_at hl 1 rfl) ?_
              refine lv_aload_n hx hb d_MT_escape_260 rfl (lv_at hl 1 rfl) ?_
              refine o_get (v := .int ((x1 + (2:Int32)) + (4:Int32))) C in_MT hP 48 mw_48 rfl 15 (by decide) k_7_129 rfl rfl d_MT_escape_261 ?_
              refine lv_iconst (v := (2:Int32)) hx hb d_MT_escape_264 (by decide) ?_
              refine lv_iadd hx hb d_MT_escape_265 ?_
              obtain ⟨q15, hq15, h⟩ := o_bd_some h
              refine o_V (st1 := [.int q15]) (w1 := (m_cw ad ca ky ty rt Ni Np No Nx Nf Na Nh Nq Nj M0 (MT_mk (MT_text a0) (MT_kind a0) (MT_place a0) (MT_many a0) (MT_parent a0) (MT_power a0) (MT_first a0) (MT_next a0) (MT_name a0) (MT_from a0) (MT_characters a0) (MT_digits a0) (MT_minus a0) (MT_values a0) (MT_letters a0) ((x1 + (2:Int32)) + (4:Int32)) (MT_wrong a0) (MT_used a0) (MT_written a0) (MT_left a0)))) hE.1 C (e_MT_four_b hE hKy l n (((x1 + (2:Int32)) + (4:Int32)) + (2:Int32)) (MT_mk (MT_text a0) (MT_kind a0) (MT_place a0) (MT_many a0) (MT_parent a0) (MT_power a0) (MT_first a0) (MT_next a0) (MT_name a0) (MT_from a0) (MT_characters a0) (MT_digits a0) (MT_minus a0) (MT_values a0) (MT_letters a0) ((x1 + (2:Int32)) + (4:Int32)) (MT_wrong a0) (MT_used a0) (MT_written a0) (MT_left a0)) Ni Np No Nx Nf Na Nh Nq Nj M0 rt hq15) hP (hDD _ _ _ _ _ _ _ _ _ _ _ _) hS hl.1 rfl mw_48 k_8_235 k_8_236 k_8_237 k_1_13 k_8_238 hv_MT_four rfl rfl ⟨(Nat.le_of_ble_eq_true rfl), (Nat.le_of_ble_eq_true rfl)⟩ rfl (Nat.le_of_ble_eq_true rfl) ⟨Nat.zero_le _, Nat.zero_le _⟩ rfl d_MT_escape_266 (fun H locs hP hS => ?_)
              refine lv_goto (tgt := 273) hx hb d_MT_escape_269 (by decide) ?_
              exact f_MT_escape_j273_b hE hKy C hDD n x1 q7 q15 (MT_mk (MT_text a0) (MT_kind a0) (MT_place a0) (MT_many a0) (MT_parent a0) (MT_power a0) (MT_first a0) (MT_next a0) (MT_name a0) (MT_from a0) (MT_characters a0) (MT_digits a0) (MT_minus a0) (MT_values a0) (MT_letters a0) ((x1 + (2:Int32)) + (4:Int32)) (MT_wrong a0) (MT_used a0) (MT_written a0) (MT_left a0)) Ni Np No Nx Nf Na Nh Nq Nj M0 rt h _ _ _ hP hS (lv_sub hl [1, 2, 0] rfl)
        · replace h := o_tt c9 h
          refine lv_aload_n hx hb d_MT_escape_224 rfl (lv_at hl 1 rfl) ?_
          refine lv_iload_n hx hb d_MT_escape_225 rfl (lv_at hl 0 rfl) ?_
          refine lv_iload_n hx hb d_MT_escape_226 rfl (lv_at hl 2 rfl) ?_
          obtain ⟨q16, hq16, h⟩ := o_bd_some h
          refine o_V (st1 := [.int q16.1]) (w1 := (m_cw ad ca ky ty rt Ni Np No Nx Nf Na Nh Nq Nj M0 q16.2)) hE.1 C (e_MT_put_b hE hKy l q7 x1 (MT_mk (MT_text a0) (MT_kind a0) (MT_place a0) (MT_many a0) (MT_parent a0) (MT_power a0) (MT_first a0) (MT_next a0) (MT_name a0) (MT_from a0) (MT_characters a0) (MT_digits a0) (MT_minus a0) (MT_values a0) (MT_letters a0) ((x1 + (2:Int32)) + (4:Int32)) (MT_wrong a0) (MT_used a0) (MT_written a0) (MT_left a0)) Ni Np No Nx Nf Na Nh Nq Nj M0 rt hq16) hP (hDD _ _ _ _ _ _ _ _ _ _ _ _) hS hl.1 rfl mw_48 k_8_228 k_8_229 k_8_230 k_1_13 k_8_231 hv_MT_put rfl rfl ⟨(Nat.le_of_ble_eq_true rfl), (Nat.le_of_ble_eq_true rfl)⟩ rfl (Nat.le_of_ble_eq_true rfl) ⟨Nat.zero_le _, Nat.zero_le _⟩ rfl d_MT_escape_227 (fun H locs hP hS => ?_)
          obtain ⟨g15, h⟩ := o_gd_some h
          cases h
          exact o_rz C (o_zb_nar g15) hP hS d_MT_escape_230
      · replace h := o_ff c8 h
        refine lv_aload_n hx hb d_MT_escape_207 rfl (lv_at hl 1 rfl) ?_
        refine lv_iload_n hx hb d_MT_escape_208 rfl (lv_at hl 2 rfl) ?_
        obtain ⟨q17, hq17, h⟩ := o_bd_some h
        refine o_V (st1 := [.int q17.1]) (w1 := (m_cw ad ca ky ty rt Ni Np No Nx Nf Na Nh Nq Nj M0 q17.2)) hE.1 C (e_MT_bad_b hE hKy l x1 (MT_mk (MT_text a0) (MT_kind a0) (MT_place a0) (MT_many a0) (MT_parent a0) (MT_power a0) (MT_first a0) (MT_next a0) (MT_name a0) (MT_from a0) (MT_characters a0) (MT_digits a0) (MT_minus a0) (MT_values a0) (MT_letters a0) ((x1 + (2:Int32)) + (4:Int32)) (MT_wrong a0) (MT_used a0) (MT_written a0) (MT_left a0)) Ni Np No Nx Nf Na Nh Nq Nj M0 rt hq17) hP (hDD _ _ _ _ _ _ _ _ _ _ _ _) hS hl.1 rfl mw_48 k_8_203 k_8_204 k_8_205 k_1_13 k_8_206 hv_MT_bad rfl rfl ⟨(Nat.le_of_ble_eq_true rfl), (Nat.le_of_ble_eq_true rfl)⟩ rfl (Nat.le_of_ble_eq_true rfl) ⟨Nat.zero_le _, Nat.zero_le _⟩ rfl d_MT_escape_209 (fun H locs hP hS => ?_)
        obtain ⟨g16, h⟩ := o_gd_some h
        cases h
        exact o_rz C (o_zb_nar g16) hP hS d_MT_escape_212
    · replace h := o_ff c3 h
      refine lv_aload_n hx hb d_MT_escape_111 rfl (lv_at hl 1 rfl) ?_
      refine lv_iload_n hx hb d_MT_escape_112 rfl (lv_at hl 2 rfl) ?_
      refine lv_iconst (v := (1:Int32)) hx hb d_MT_escape_113 (by decide) ?_
      refine lv_iadd hx hb d_MT_escape_114 ?_
      obtain ⟨q18, hq18, h⟩ := o_bd_some h
      refine o_V (st1 := [.int q18.1]) (w1 := (m_cw ad ca ky ty rt Ni Np No Nx Nf Na Nh Nq Nj M0 q18.2)) hE.1 C (e_MT_bad_b hE hKy l (x1 + (1:Int32)) (MT_mk (MT_text a0) (MT_kind a0) (MT_place a0) (MT_many a0) (MT_parent a0) (MT_power a0) (MT_first a0) (MT_next a0) (MT_name a0) (MT_from a0) (MT_characters a0) (MT_digits a0) (MT_minus a0) (MT_values a0) (MT_letters a0) (x1 + (2:Int32)) (MT_wrong a0) (MT_used a0) (MT_written a0) (MT_left a0)) Ni Np No Nx Nf Na Nh Nq Nj M0 rt hq18) hP (hDD _ _ _ _ _ _ _ _ _ _ _ _) hS hl.1 rfl mw_48 k_8_203 k_8_204 k_8_205 k_1_13 k_8_206 hv_MT_bad rfl rfl ⟨(Nat.le_of_ble_eq_true rfl), (Nat.le_of_ble_eq_true rfl)⟩ rfl (Nat.le_of_ble_eq_true rfl) ⟨Nat.zero_le _, Nat.zero_le _⟩ rfl d_MT_escape_115 (fun H locs hP hS => ?_)
      obtain ⟨g18, h⟩ := o_gd_some h
      cases h
      exact o_rz C (o_zb_nar g18) hP hS d_MT_escape_118
  · replace h := o_ff c2 h
    refine lv_aload_n hx hb d_MT_escape_98 rfl (lv_at hl 1 rfl) ?_
    refine lv_iload_n hx hb d_MT_escape_99 rfl (lv_at hl 0 rfl) ?_
    refine lv_iload_n hx hb d_MT_escape_100 rfl (lv_at hl 2 rfl) ?_
    obtain ⟨q19, hq19, h⟩ := o_bd_some h
    refine o_V (st1 := [.int q19.1]) (w1 := (m_cw ad ca ky ty rt Ni Np No Nx Nf Na Nh Nq Nj M0 q19.2)) hE.1 C (e_MT_put_b hE hKy l y0 x1 (MT_mk (MT_text a0) (MT_kind a0) (MT_place a0) (MT_many a0) (MT_parent a0) (MT_power a0) (MT_first a0) (MT_next a0) (MT_name a0) (MT_from a0) (MT_characters a0) (MT_digits a0) (MT_minus a0) (MT_values a0) (MT_letters a0) (x1 + (2:Int32)) (MT_wrong a0) (MT_used a0) (MT_written a0) (MT_left a0)) Ni Np No Nx Nf Na Nh Nq Nj M0 rt hq19) hP (hDD _ _ _ _ _ _ _ _ _ _ _ _) hS hl.1 rfl mw_48 k_8_228 k_8_229 k_8_230 k_1_13 k_8_231 hv_MT_put rfl rfl ⟨(Nat.le_of_ble_eq_true rfl), (Nat.le_of_ble_eq_true rfl)⟩ rfl (Nat.le_of_ble_eq_true rfl) ⟨Nat.zero_le _, Nat.zero_le _⟩ rfl d_MT_escape_101 (fun H locs hP hS => ?_)
    obtain ⟨g19, h⟩ := o_gd_some h
    cases h
    exact o_rz C (o_zb_nar g19) hP hS d_MT_escape_104
set_option maxHeartbeats 4000000 in
set_option maxRecDepth 100000 in
theorem e_MT_escape_b {E : (Nat → Prop) → State → Heap → Prop} {D : va_G} {ad kd sd vd xd : Nat → Nat} {ca : Nat → ClassId} {ky ty : Nat → Option Nat} (hE : o_EK E kd sd vd xd) (hKy : m_KY ky ty sd) (l : Launch) (n : Nat) (x1 : Int32) (a0 : SMT) (Ni : SNI) (Np : SNP) (No : SNO) (Nx : SNX) (Nf : SNF) (Na : SNA) (Nh : SNH) (Nq : SNQ) (Nj : SNJ) (M0 : SMT) (rt : Nat) {r : Int32 × SMT} (h : m_MT_escape n x1 a0 = some r) : o_Cn E l D m_cls (m_tys ca) y_MT_escape cc_MT_escape rm_MT_escape [.ref (ad 48), .int x1] (m_cw ad ca ky ty rt Ni Np No Nx Nf Na Nh Nq Nj M0 a0) (m_cw ad ca ky ty rt Ni Np No Nx Nf Na Nh Nq Nj M0 r.2) (some (.int r.1)) := by
  refine o_Cn_of (by decide) (Nat.le_of_ble_eq_true rfl) ?_
  intro p e s m below meth c A ls C hD hP hS hl
  have hDD : ∀ (rt : Nat) (Ni : SNI) (Np : SNP) (No : SNO) (Nx : SNX) (Nf : SNF) (Na : SNA) (Nh : SNH) (Nq : SNQ) (Nj : SNJ) (M0 : SMT) (M1 : SMT), va_D A (m_cw ad ca ky ty rt Ni Np No Nx Nf Na Nh Nq Nj M0 M1) := fun _ _ _ _ _ _ _ _ _ _ _ _ => o_D_map hD rfl
  have hl : lv_has ls 5 [(0, .ref (ad 48)), (1, .int x1)] := hl
  unfold m_MT_escape at h
  have C0 := C
  obtain ⟨hx, hb, -, -, -, hown, hts, hK, -, -⟩ := C0
  refine lv_aload_n hx hb d_MT_escape_0 rfl (lv_at hl 0 rfl) ?_
  refine lv_iload_n hx hb d_MT_escape_1 rfl (lv_at hl 1 rfl) ?_
  refine lv_iconst (v := (1:Int32)) hx hb d_MT_escape_2 (by decide) ?_
  refine lv_iadd hx hb d_MT_escape_3 ?_
  obtain ⟨q1, hq1, h⟩ := o_bd_some h
  refine o_V (st1 := [.int q1]) (w1 := (m_cw ad ca ky ty rt Ni Np No Nx Nf Na Nh Nq Nj M0 a0)) hE.1 C (e_MT_c_b hE hKy l (x1 + (1:Int32)) a0 Ni Np No Nx Nf Na Nh Nq Nj M0 rt hq1) hP (hDD _ _ _ _ _ _ _ _ _ _ _ _) hS hl.1 rfl mw_48 k_8_192 k_8_193 k_8_194 k_1_13 k_8_195 hv_MT_c rfl rfl ⟨(Nat.le_of_ble_eq_true rfl), (Nat.le_of_ble_eq_true rfl)⟩ rfl (Nat.le_of_ble_eq_true rfl) ⟨Nat.zero_le _, Nat.zero_le _⟩ rfl d_MT_escape_4 (fun H locs hP hS => ?_)
  refine lv_istore_n (lv' := [(2, .int q1), (0, .ref (ad 48)), (1, .int x1)]) hx hb d_MT_escape_7 rfl hl (by decide) rfl (fun ls hl => ?_)
  refine lv_iload_n hx hb d_MT_escape_8 rfl (lv_at hl 0 rfl) ?_
  refine lv_bipush (v := (34:Int32)) hx hb d_MT_escape_9 (by decide) ?_
  refine lv_icmp_eq (tgt := 26) hx hb d_MT_escape_11 (by decide) (fun c1 => ?_) (fun c1 => ?_)
  · replace h := o_tt c1 h
    refine lv_iload_n hx hb d_MT_escape_26 rfl (lv_at hl 0 rfl) ?_
    refine lv_goto (tgt := 86) hx hb d_MT_escape_27 (by decide) ?_
    exact f_MT_escape_j86_b hE hKy C hDD n x1 q1 q1 a0 Ni Np No Nx Nf Na Nh Nq Nj M0 rt h _ _ _ hP hS (lv_sub hl [1, 2, 0] rfl)
  · replace h := o_ff c1 h
    refine lv_iload_n hx hb d_MT_escape_14 rfl (lv_at hl 0 rfl) ?_
    refine lv_bipush (v := (92:Int32)) hx hb d_MT_escape_15 (by decide) ?_
    refine lv_icmp_eq (tgt := 26) hx hb d_MT_escape_17 (by decide) (fun c20 => ?_) (fun c20 => ?_)
    · replace h := o_tt c20 h
      refine lv_iload_n hx hb d_MT_escape_26 rfl (lv_at hl 0 rfl) ?_
      refine lv_goto (tgt := 86) hx hb d_MT_escape_27 (by decide) ?_
      exact f_MT_escape_j86_b hE hKy C hDD n x1 q1 q1 a0 Ni Np No Nx Nf Na Nh Nq Nj M0 rt h _ _ _ hP hS (lv_sub hl [1, 2, 0] rfl)
    · replace h := o_ff c20 h
      refine lv_iload_n hx hb d_MT_escape_20 rfl (lv_at hl 0 rfl) ?_
      refine lv_bipush (v := (47:Int32)) hx hb d_MT_escape_21 (by decide) ?_
      refine lv_icmp_ne (tgt := 30) hx hb d_MT_escape_23 (by decide) (fun c21 => ?_) (fun c21 => ?_)
      · replace h := o_ff c21 h
        refine lv_iload_n hx hb d_MT_escape_30 rfl (lv_at hl 0 rfl) ?_
        refine lv_bipush (v := (98:Int32)) hx hb d_MT_escape_31 (by decide) ?_
        refine lv_icmp_ne (tgt := 41) hx hb d_MT_escape_33 (by decide) (fun c22 => ?_) (fun c22 => ?_)
        · replace h := o_ff c22 h
          refine lv_iload_n hx hb d_MT_escape_41 rfl (lv_at hl 0 rfl) ?_
          refine lv_bipush (v := (102:Int32)) hx hb d_MT_escape_42 (by decide) ?_
          refine lv_icmp_ne (tgt := 52) hx hb d_MT_escape_44 (by decide) (fun c23 => ?_) (fun c23 => ?_)
          · replace h := o_ff c23 h
            refine lv_iload_n hx hb d_MT_escape_52 rfl (lv_at hl 0 rfl) ?_
            refine lv_bipush (v := (110:Int32)) hx hb d_MT_escape_53 (by decide) ?_
            refine lv_icmp_ne (tgt := 63) hx hb d_MT_escape_55 (by decide) (fun c24 => ?_) (fun c24 => ?_)
            · replace h := o_ff c24 h
              refine lv_iload_n hx hb d_MT_escape_63 rfl (lv_at hl 0 rfl) ?_
              refine lv_bipush (v := (114:Int32)) hx hb d_MT_escape_64 (by decide) ?_
              refine lv_icmp_ne (tgt := 74) hx hb d_MT_escape_66 (by decide) (fun c25 => ?_) (fun c25 => ?_)
              · replace h := o_ff c25 h
                refine lv_iload_n hx hb d_MT_escape_74 rfl (lv_at hl 0 rfl) ?_
                refine lv_bipush (v := (116:Int32)) hx hb d_MT_escape_75 (by decide) ?_
                refine lv_icmp_ne (tgt := 85) hx hb d_MT_escape_77 (by decide) (fun c26 => ?_) (fun c26 => ?_)
                · replace h := o_ff c26 h
                  refine lv_iconst (v := (-1:Int32)) hx hb d_MT_escape_85 (by decide) ?_
                  exact f_MT_escape_j86_b hE hKy C hDD n x1 q1 (-1:Int32) a0 Ni Np No Nx Nf Na Nh Nq Nj M0 rt h _ _ _ hP hS (lv_sub hl [1, 2, 0] rfl)
                · replace h := o_tt c26 h
                  refine lv_bipush (v := (9:Int32)) hx hb d_MT_escape_80 (by decide) ?_
                  refine lv_goto (tgt := 86) hx hb d_MT_escape_82 (by decide) ?_
                  exact f_MT_escape_j86_b hE hKy C hDD n x1 q1 (9:Int32) a0 Ni Np No Nx Nf Na Nh Nq Nj M0 rt h _ _ _ hP hS (lv_sub hl [1, 2, 0] rfl)
              · replace h := o_tt c25 h
                refine lv_bipush (v := (13:Int32)) hx hb d_MT_escape_69 (by decide) ?_
                refine lv_goto (tgt := 86) hx hb d_MT_escape_71 (by decide) ?_
                exact f_MT_escape_j86_b hE hKy C hDD n x1 q1 (13:Int32) a0 Ni Np No Nx Nf Na Nh Nq Nj M0 rt h _ _ _ hP hS (lv_sub hl [1, 2, 0] rfl)
            · replace h := o_tt c24 h
              refine lv_bipush (v := (10:Int32)) hx hb d_MT_escape_58 (by decide) ?_
              refine lv_goto (tgt := 86) hx hb d_MT_escape_60 (by decide) ?_
              exact f_MT_escape_j86_b hE hKy C hDD n x1 q1 (10:Int32) a0 Ni Np No Nx Nf Na Nh Nq Nj M0 rt h _ _ _ hP hS (lv_sub hl [1, 2, 0] rfl)
          · replace h := o_tt c23 h
            refine lv_bipush (v := (12:Int32)) hx hb d_MT_escape_47 (by decide) ?_
            refine lv_goto (tgt := 86) hx hb d_MT_escape_49 (by decide) ?_
            exact f_MT_escape_j86_b hE hKy C hDD n x1 q1 (12:Int32) a0 Ni Np No Nx Nf Na Nh Nq Nj M0 rt h _ _ _ hP hS (lv_sub hl [1, 2, 0] rfl)
        · replace h := o_tt c22 h
          refine lv_bipush (v := (8:Int32)) hx hb d_MT_escape_36 (by decide) ?_
          refine lv_goto (tgt := 86) hx hb d_MT_escape_38 (by decide) ?_
          exact f_MT_escape_j86_b hE hKy C hDD n x1 q1 (8:Int32) a0 Ni Np No Nx Nf Na Nh Nq Nj M0 rt h _ _ _ hP hS (lv_sub hl [1, 2, 0] rfl)
      · replace h := o_tt c21 h
        refine lv_iload_n hx hb d_MT_escape_26 rfl (lv_at hl 0 rfl) ?_
        refine lv_goto (tgt := 86) hx hb d_MT_escape_27 (by decide) ?_
        exact f_MT_escape_j86_b hE hKy C hDD n x1 q1 q1 a0 Ni Np No Nx Nf Na Nh Nq Nj M0 rt h _ _ _ hP hS (lv_sub hl [1, 2, 0] rfl)
