set_option maxHeartbeats 4000000 in
set_option maxRecDepth 100000 in
theorem f_MM_visit_b75 {E : (Nat → Prop) → State → Heap → Prop} {p : Program} {l : Launch} {e : Env} {s : State} {m : MethodId} {args : Array Value} {below : List Frame} {meth : Method} {c : Code} {D : va_G} {ad kd sd vd xd : Nat → Nat} {ca : Nat → ClassId} {A : Nat → Prop} {ky ty : Nat → Option Nat} {Q : State → Prop} (hE : o_EK E kd sd vd xd) (hKy : m_KY ky ty sd) (C : o_Cx E p s m args meth c D m_cls (m_tys ca) "SchemaJudgeModel" b_MM_visit none 4 cc_MM_visit A) (hDD : ∀ (rt : Nat) (Ni : SNI) (Np : SNP) (No : SNO) (Nx : SNX) (Nf : SNF) (Na : SNA) (Nh : SNH) (Nq : SNQ) (Nj : SNJ) (M0 : SMT) (M1 : SMT), va_D A (m_cw ad ca ky ty rt Ni Np No Nx Nf Na Nh Nq Nj M0 M1)) (d : Nat) (rec : Int32 → SMT → SNP → SNO → SNF → SNA → Nat → Option (SNP × SNO × SNF × SNA × Nat)) (hrec : ∀ (x1 : Int32) (M0 : SMT) (Np : SNP) (No : SNO) (Nf : SNF) (Na : SNA) (rt : Nat) (Ni : SNI) (Nx : SNX) (Nh : SNH) (Nq : SNQ) (Nj : SNJ) (M1 : SMT) (r : SNP × SNO × SNF × SNA × Nat), rec x1 M0 Np No Nf Na rt = some r → o_Cn E l D m_cls (m_tys ca) y_MM_visit cc_MM_visit (rm_MM_visit d) [.ref (ad 0), .int x1] (m_cw ad ca ky ty rt Ni Np No Nx Nf Na Nh Nq Nj M0 M1) (m_cw ad ca ky ty r.2.2.2.2 Ni r.1 r.2.1 Nx r.2.2.1 r.2.2.2.1 Nh Nq Nj M0 M1) none) (n : Nat) (u75_x1 : Int32) (u75_x2 : Int32) (u75_M0 : SMT) (u75_Np : SNP) (u75_No : SNO) (u75_Nf : SNF) (u75_rt : Nat) (u75_Ni : SNI) (u75_Nx : SNX) (u75_Nh : SNH) (u75_Nq : SNQ) (u75_Nj : SNJ) (u75_M1 : SMT) (z : Int32 × SNA) (q : Nat × Int32 × SNA) (h : m_MM_visit_b75 n rec u75_x1 u75_x2 u75_M0 u75_Np u75_No u75_Nf u75_rt z = some q) (h0 : q.1 = 0 → o_At p l e (rm_MM_visit (d + 1)) s m args below meth c Q m_cls D A 4 75 [] (m_cw ad ca ky ty u75_rt u75_Ni u75_Np u75_No u75_Nx u75_Nf q.2.2 u75_Nh u75_Nq u75_Nj u75_M0 u75_M1) [(0, .ref (ad 0)), (1, .int u75_x1), (2, .int u75_x2), (3, .int q.2.1)]) (h1 : q.1 ≠ 0 → (o_At p l e (rm_MM_visit (d + 1)) s m args below meth c Q m_cls D A 4 122 [] (m_cw ad ca ky ty u75_rt u75_Ni u75_Np u75_No u75_Nx u75_Nf q.2.2 u75_Nh u75_Nq u75_Nj u75_M0 u75_M1) [(0, .ref (ad 0)), (1, .int u75_x1), (2, .int u75_x2)])) : o_At p l e (rm_MM_visit (d + 1)) s m args below meth c Q m_cls D A 4 75 [] (m_cw ad ca ky ty u75_rt u75_Ni u75_Np u75_No u75_Nx u75_Nf z.2 u75_Nh u75_Nq u75_Nj u75_M0 u75_M1) [(0, .ref (ad 0)), (1, .int u75_x1), (2, .int u75_x2), (3, .int z.1)] := by
  unfold m_MM_visit_b75 at h
  intro H locs ls hP hS hl
  have C0 := C
  obtain ⟨hx, hb, -, -, -, hown, hts, hK, -, -⟩ := C0
  refine lv_iload_n hx hb d_MM_visit_75 rfl (lv_at hl 3 rfl) ?_
  refine lv_aload_n hx hb d_MM_visit_76 rfl (lv_at hl 0 rfl) ?_
  refine o_get (v := .ref (ad 19)) C in_MM hP 0 mw_0 rfl 33 (by decide) k_8_23 rfl rfl d_MM_visit_77 ?_
  refine va_alen (v := (44:Int32)) hx hb hK hP 19 18 mw_19 rfl rfl d_MM_visit_80 ?_
  refine lv_icmp_ge (tgt := 122) hx hb d_MM_visit_81 (by decide) (fun c8 => ?_) (fun c8 => ?_)
  · replace h := o_tt c8 h
    cases h
    exact h1 (Nat.succ_ne_zero 0) _ _ _ hP hS (lv_sub hl [0, 1, 2] rfl)
  · replace h := o_ff c8 h
    refine lv_aload_n hx hb d_MM_visit_84 rfl (lv_at hl 0 rfl) ?_
    refine o_get (v := .ref (ad 33)) C in_MM hP 0 mw_0 rfl 4 (by decide) k_7_234 rfl rfl d_MM_visit_85 ?_
    refine lv_aload_n hx hb d_MM_visit_88 rfl (lv_at hl 0 rfl) ?_
    refine o_get (v := .ref (ad 33)) C in_MM hP 0 mw_0 rfl 4 (by decide) k_7_234 rfl rfl d_MM_visit_89 ?_
    refine o_get (v := .ref (ad 42)) C in_MT hP 33 mw_33 rfl 8 (by decide) k_7_117 rfl rfl d_MM_visit_92 ?_
    refine lv_iload_n hx hb d_MM_visit_95 rfl (lv_at hl 2 rfl) ?_
    obtain ⟨g9, h⟩ := o_gd_some h
    refine o_iald (f := (MT_name u75_M0)) C hP 42 40 mw_42 rfl g9 d_MM_visit_96 ?_
    refine lv_aload_n hx hb d_MM_visit_97 rfl (lv_at hl 0 rfl) ?_
    refine o_get (v := .ref (ad 19)) C in_MM hP 0 mw_0 rfl 33 (by decide) k_8_23 rfl rfl d_MM_visit_98 ?_
    refine lv_iload_n hx hb d_MM_visit_101 rfl (lv_at hl 3 rfl) ?_
    obtain ⟨g10, h⟩ := o_gd_some h
    refine o_aldS C hP 19 18 mw_19 rfl g10 (hKy.1 _ g10) d_MM_visit_102 ?_
    obtain ⟨q2, hq2, h⟩ := o_bd_some h
    refine o_V (st1 := [.int q2]) (w1 := (m_cw ad ca ky ty u75_rt u75_Ni u75_Np u75_No u75_Nx u75_Nf z.2 u75_Nh u75_Nq u75_Nj u75_M0 u75_M1)) hE.1 C (e_MT_is_a hE hKy l n ((MT_name u75_M0) u75_x2.toNatClampNeg) (mk_keys z.1.toNatClampNeg) (mk_keys_sb g10) u75_M0 u75_Ni u75_Np u75_No u75_Nx u75_Nf z.2 u75_Nh u75_Nq u75_Nj u75_M1 u75_rt hq2) hP (hDD _ _ _ _ _ _ _ _ _ _ _ _) hS hl.1 rfl mw_33 k_9_46 k_9_47 k_9_48 k_1_13 k_9_49 hv_MT_is rfl rfl ⟨(by dsimp only [rm_MM_visit, rm_MT_is]; omega), (by dsimp only [rm_MM_visit, rm_MT_is]; omega)⟩ rfl (Nat.le_of_ble_eq_true rfl) ⟨Nat.zero_le _, Nat.zero_le _⟩ rfl d_MM_visit_103 (fun H locs hP hS => ?_)
    refine lv_if_eq (tgt := 116) hx hb d_MM_visit_106 (by decide) (fun c11 => ?_) (fun c11 => ?_)
    · replace h := o_tt c11 h
      obtain ⟨x3_116, ex3_116⟩ : ∃ y : Int32, y = z.1 + (1:Int32) := ⟨_, rfl⟩
      replace h := o_nm_at ex3_116 h
      refine lv_iinc (v := x3_116) (lv' := [(3, .int x3_116), (0, .ref (ad 0)), (1, .int u75_x1), (2, .int u75_x2)]) hx hb d_MM_visit_116 hl (k := 3) rfl (by rw [ex3_116]; rfl) (by decide) rfl (fun ls hl => ?_)
      refine lv_goto (tgt := 75) hx hb d_MM_visit_119 (by decide) ?_
      cases h
      exact h0 rfl _ _ _ hP hS (lv_sub hl [1, 2, 3, 0] rfl)
    · replace h := o_ff c11 h
      refine lv_aload_n hx hb d_MM_visit_109 rfl (lv_at hl 0 rfl) ?_
      refine o_get (v := .ref (ad 21)) C in_MM hP 0 mw_0 rfl 40 (by decide) k_8_30 rfl rfl d_MM_visit_110 ?_
      refine lv_iload_n hx hb d_MM_visit_113 rfl (lv_at hl 2 rfl) ?_
      refine lv_iload_n hx hb d_MM_visit_114 rfl (lv_at hl 3 rfl) ?_
      obtain ⟨g12, h⟩ := o_gd_some h
      refine o_iast (f := (NA_key z.2)) (w1 := (m_cw ad ca ky ty u75_rt u75_Ni u75_Np u75_No u75_Nx u75_Nf (NA_mk (NA_anchors z.2) (upd (NA_key z.2) u75_x2.toNatClampNeg z.1) (NA_target z.2) (NA_anchorValue z.2) (NA_anchorSchema z.2) (NA_isSchema z.2)) u75_Nh u75_Nq u75_Nj u75_M0 u75_M1)) C hP (hDD _ _ _ _ _ _ _ _ _ _ _ _) hS 21 20 mw_21 rfl g12 rfl d_MM_visit_115 (fun H locs hP hS => ?_)
      obtain ⟨x3_116, ex3_116⟩ : ∃ y : Int32, y = z.1 + (1:Int32) := ⟨_, rfl⟩
      replace h := o_nm_at ex3_116 h
      refine lv_iinc (v := x3_116) (lv' := [(3, .int x3_116), (0, .ref (ad 0)), (1, .int u75_x1), (2, .int u75_x2)]) hx hb d_MM_visit_116 hl (k := 3) rfl (by rw [ex3_116]; rfl) (by decide) rfl (fun ls hl => ?_)
      refine lv_goto (tgt := 75) hx hb d_MM_visit_119 (by decide) ?_
      cases h
      exact h0 rfl _ _ _ hP hS (lv_sub hl [1, 2, 3, 0] rfl)
set_option maxHeartbeats 4000000 in
set_option maxRecDepth 100000 in
theorem f_MM_visit_j143 {E : (Nat → Prop) → State → Heap → Prop} {p : Program} {l : Launch} {e : Env} {s : State} {m : MethodId} {args : Array Value} {below : List Frame} {meth : Method} {c : Code} {D : va_G} {ad kd sd vd xd : Nat → Nat} {ca : Nat → ClassId} {A : Nat → Prop} {ky ty : Nat → Option Nat} {Q : State → Prop} (hE : o_EK E kd sd vd xd) (hKy : m_KY ky ty sd) (C : o_Cx E p s m args meth c D m_cls (m_tys ca) "SchemaJudgeModel" b_MM_visit none 4 cc_MM_visit A) (hDD : ∀ (rt : Nat) (Ni : SNI) (Np : SNP) (No : SNO) (Nx : SNX) (Nf : SNF) (Na : SNA) (Nh : SNH) (Nq : SNQ) (Nj : SNJ) (M0 : SMT) (M1 : SMT), va_D A (m_cw ad ca ky ty rt Ni Np No Nx Nf Na Nh Nq Nj M0 M1)) (d : Nat) (rec : Int32 → SMT → SNP → SNO → SNF → SNA → Nat → Option (SNP × SNO × SNF × SNA × Nat)) (hrec : ∀ (x1 : Int32) (M0 : SMT) (Np : SNP) (No : SNO) (Nf : SNF) (Na : SNA) (rt : Nat) (Ni : SNI) (Nx : SNX) (Nh : SNH) (Nq : SNQ) (Nj : SNJ) (M1 : SMT) (r : SNP × SNO × SNF × SNA × Nat), rec x1 M0 Np No Nf Na rt = some r → o_Cn E l D m_cls (m_tys ca) y_MM_visit cc_MM_visit (rm_MM_visit d) [.ref (ad 0), .int x1] (m_cw ad ca ky ty rt Ni Np No Nx Nf Na Nh Nq Nj M0 M1) (m_cw ad ca ky ty r.2.2.2.2 Ni r.1 r.2.1 Nx r.2.2.1 r.2.2.2.1 Nh Nq Nj M0 M1) none) (n : Nat) (u55_x1 : Int32) (u55_M0 : SMT) (u55_Ni : SNI) (u55_Nx : SNX) (u55_Nh : SNH) (u55_Nq : SNQ) (u55_Nj : SNJ) (u55_M1 : SMT) (x2 : Int32) (Np : SNP) (No : SNO) (Nf : SNF) (Na : SNA) (rt : Nat) {q : Nat × Int32 × SNP × SNO × SNF × SNA × Nat} (h : m_MM_visit_j143 n rec u55_x1 x2 u55_M0 Np No Nf Na rt = some q) (h0 : q.1 = 0 → o_At p l e (rm_MM_visit (d + 1)) s m args below meth c Q m_cls D A 4 55 [] (m_cw ad ca ky ty q.2.2.2.2.2.2 u55_Ni q.2.2.1 q.2.2.2.1 u55_Nx q.2.2.2.2.1 q.2.2.2.2.2.1 u55_Nh u55_Nq u55_Nj u55_M0 u55_M1) [(0, .ref (ad 0)), (1, .int u55_x1), (2, .int q.2.1)]) (h1 : q.1 ≠ 0 → (o_At p l e (rm_MM_visit (d + 1)) s m args below meth c Q m_cls D A 4 156 [] (m_cw ad ca ky ty q.2.2.2.2.2.2 u55_Ni q.2.2.1 q.2.2.2.1 u55_Nx q.2.2.2.2.1 q.2.2.2.2.2.1 u55_Nh u55_Nq u55_Nj u55_M0 u55_M1) [])) : o_At p l e (rm_MM_visit (d + 1)) s m args below meth c Q m_cls D A 4 143 [] (m_cw ad ca ky ty rt u55_Ni Np No u55_Nx Nf Na u55_Nh u55_Nq u55_Nj u55_M0 u55_M1) [(0, .ref (ad 0)), (1, .int u55_x1), (2, .int x2)] := by
  unfold m_MM_visit_j143 at h
  intro H locs ls hP hS hl
  have C0 := C
  obtain ⟨hx, hb, -, -, -, hown, hts, hK, -, -⟩ := C0
  refine lv_aload_n hx hb d_MM_visit_143 rfl (lv_at hl 0 rfl) ?_
  refine o_get (v := .ref (ad 33)) C in_MM hP 0 mw_0 rfl 4 (by decide) k_7_234 rfl rfl d_MM_visit_144 ?_
  refine o_get (v := .ref (ad 41)) C in_MT hP 33 mw_33 rfl 7 (by decide) k_7_115 rfl rfl d_MM_visit_147 ?_
  refine lv_iload_n hx hb d_MM_visit_150 rfl (lv_at hl 2 rfl) ?_
  obtain ⟨g15, h⟩ := o_gd_some h
  refine o_iald (f := (MT_next u55_M0)) C hP 41 39 mw_41 rfl g15 d_MM_visit_151 ?_
  refine lv_topi (fun x2_152 ex2_152 => ?_)
  replace h := o_nm_at ex2_152 h
  refine lv_istore_n (lv' := [(2, .int x2_152), (0, .ref (ad 0)), (1, .int u55_x1)]) hx hb d_MM_visit_152 rfl hl (by decide) rfl (fun ls hl => ?_)
  refine lv_goto (tgt := 55) hx hb d_MM_visit_153 (by decide) ?_
  cases h
  exact h0 rfl _ _ _ hP hS (lv_sub hl [1, 2, 0] rfl)
set_option maxHeartbeats 4000000 in
set_option maxRecDepth 100000 in
theorem f_MM_visit_b55 {E : (Nat → Prop) → State → Heap → Prop} {p : Program} {l : Launch} {e : Env} {s : State} {m : MethodId} {args : Array Value} {below : List Frame} {meth : Method} {c : Code} {D : va_G} {ad kd sd vd xd : Nat → Nat} {ca : Nat → ClassId} {A : Nat → Prop} {ky ty : Nat → Option Nat} {Q : State → Prop} (hE : o_EK E kd sd vd xd) (hKy : m_KY ky ty sd) (C : o_Cx E p s m args meth c D m_cls (m_tys ca) "SchemaJudgeModel" b_MM_visit none 4 cc_MM_visit A) (hDD : ∀ (rt : Nat) (Ni : SNI) (Np : SNP) (No : SNO) (Nx : SNX) (Nf : SNF) (Na : SNA) (Nh : SNH) (Nq : SNQ) (Nj : SNJ) (M0 : SMT) (M1 : SMT), va_D A (m_cw ad ca ky ty rt Ni Np No Nx Nf Na Nh Nq Nj M0 M1)) (d : Nat) (rec : Int32 → SMT → SNP → SNO → SNF → SNA → Nat → Option (SNP × SNO × SNF × SNA × Nat)) (hrec : ∀ (x1 : Int32) (M0 : SMT) (Np : SNP) (No : SNO) (Nf : SNF) (Na : SNA) (rt : Nat) (Ni : SNI) (Nx : SNX) (Nh : SNH) (Nq : SNQ) (Nj : SNJ) (M1 : SMT) (r : SNP × SNO × SNF × SNA × Nat), rec x1 M0 Np No Nf Na rt = some r → o_Cn E l D m_cls (m_tys ca) y_MM_visit cc_MM_visit (rm_MM_visit d) [.ref (ad 0), .int x1] (m_cw ad ca ky ty rt Ni Np No Nx Nf Na Nh Nq Nj M0 M1) (m_cw ad ca ky ty r.2.2.2.2 Ni r.1 r.2.1 Nx r.2.2.1 r.2.2.2.1 Nh Nq Nj M0 M1) none) (n : Nat) (u55_x1 : Int32) (u55_M0 : SMT) (u55_Ni : SNI) (u55_Nx : SNX) (u55_Nh : SNH) (u55_Nq : SNQ) (u55_Nj : SNJ) (u55_M1 : SMT) (z : Int32 × SNP × SNO × SNF × SNA × Nat) (q : Nat × Int32 × SNP × SNO × SNF × SNA × Nat) (h : m_MM_visit_b55 n rec u55_x1 u55_M0 z = some q) (h0 : q.1 = 0 → o_At p l e (rm_MM_visit (d + 1)) s m args below meth c Q m_cls D A 4 55 [] (m_cw ad ca ky ty q.2.2.2.2.2.2 u55_Ni q.2.2.1 q.2.2.2.1 u55_Nx q.2.2.2.2.1 q.2.2.2.2.2.1 u55_Nh u55_Nq u55_Nj u55_M0 u55_M1) [(0, .ref (ad 0)), (1, .int u55_x1), (2, .int q.2.1)]) (h1 : q.1 ≠ 0 → (o_At p l e (rm_MM_visit (d + 1)) s m args below meth c Q m_cls D A 4 156 [] (m_cw ad ca ky ty q.2.2.2.2.2.2 u55_Ni q.2.2.1 q.2.2.2.1 u55_Nx q.2.2.2.2.1 q.2.2.2.2.2.1 u55_Nh u55_Nq u55_Nj u55_M0 u55_M1) [])) : o_At p l e (rm_MM_visit (d + 1)) s m args below meth c Q m_cls D A 4 55 [] (m_cw ad ca ky ty z.2.2.2.2.2 u55_Ni z.2.1 z.2.2.1 u55_Nx z.2.2.2.1 z.2.2.2.2.1 u55_Nh u55_Nq u55_Nj u55_M0 u55_M1) [(0, .ref (ad 0)), (1, .int u55_x1), (2, .int z.1)] := by
  unfold m_MM_visit_b55 at h
  intro H locs ls hP hS hl
  have C0 := C
  obtain ⟨hx, hb, -, -, -, hown, hts, hK, -, -⟩ := C0
  refine lv_iload_n hx hb d_MM_visit_55 rfl (lv_at hl 2 rfl) ?_
  refine lv_if_lt (tgt := 156) hx hb d_MM_visit_56 (by decide) (fun c5 => ?_) (fun c5 => ?_)
  · replace h := o_tt c5 h
    cases h
    exact h1 (Nat.succ_ne_zero 0) _ _ _ hP hS (lv_sub hl [] rfl)
  · replace h := o_ff c5 h
    refine lv_aload_n hx hb d_MM_visit_59 rfl (lv_at hl 0 rfl) ?_
    refine o_get (v := .ref (ad 33)) C in_MM hP 0 mw_0 rfl 4 (by decide) k_7_234 rfl rfl d_MM_visit_60 ?_
    refine o_get (v := .ref (ad 35)) C in_MT hP 33 mw_33 rfl 1 (by decide) k_7_103 rfl rfl d_MM_visit_63 ?_
    refine lv_iload_n hx hb d_MM_visit_66 rfl (lv_at hl 1 rfl) ?_
    obtain ⟨g6, h⟩ := o_gd_some h
    refine o_iald (f := (MT_kind u55_M0)) C hP 35 33 mw_35 rfl g6 d_MM_visit_67 ?_
    refine lv_bipush (v := (6:Int32)) hx hb d_MM_visit_68 (by decide) ?_
    refine lv_icmp_ne (tgt := 156) hx hb d_MM_visit_70 (by decide) (fun c7 => ?_) (fun c7 => ?_)
    · replace h := o_ff c7 h
      cases h
      exact h1 (Nat.succ_ne_zero 0) _ _ _ hP hS (lv_sub hl [] rfl)
    · replace h := o_tt c7 h
      refine lv_iconst (v := (0:Int32)) hx hb d_MM_visit_73 (by decide) ?_
      refine lv_istore_n (lv' := [(3, .int (0:Int32)), (0, .ref (ad 0)), (1, .int u55_x1), (2, .int z.1)]) hx hb d_MM_visit_74 rfl hl (by decide) rfl (fun ls hl => ?_)
      obtain ⟨q3, hq3, h⟩ := o_bd_some h
      refine o_sim2 (AH := fun zz => o_At p l e (rm_MM_visit (d + 1)) s m args below meth c _ m_cls D A 4 75 [] (m_cw ad ca ky ty z.2.2.2.2.2 u55_Ni z.2.1 z.2.2.1 u55_Nx z.2.2.2.1 zz.2 u55_Nh u55_Nq u55_Nj u55_M0 u55_M1) [(0, .ref (ad 0)), (1, .int u55_x1), (2, .int z.1), (3, .int zz.1)]) (AX := fun qq => o_At p l e (rm_MM_visit (d + 1)) s m args below meth c _ m_cls D A 4 122 [] (m_cw ad ca ky ty z.2.2.2.2.2 u55_Ni z.2.1 z.2.2.1 u55_Nx z.2.2.2.1 qq.2.2 u55_Nh u55_Nq u55_Nj u55_M0 u55_M1) [(0, .ref (ad 0)), (1, .int u55_x1), (2, .int z.1)]) (fun zz qq h h0 h1 => f_MM_visit_b75 hE hKy C hDD d rec hrec n u55_x1 z.1 u55_M0 z.2.1 z.2.2.1 z.2.2.2.1 z.2.2.2.2.2 u55_Ni u55_Nx u55_Nh u55_Nq u55_Nj u55_M1 zz qq h h0 h1) n _ q3 hq3 ?_ _ _ _ hP hS (lv_sub hl [1, 2, 3, 0] rfl)
      intro H locs ls hP hS hl
      refine lv_aload_n hx hb d_MM_visit_122 rfl (lv_at hl 0 rfl) ?_
      refine o_get (v := .ref (ad 21)) C in_MM hP 0 mw_0 rfl 40 (by decide) k_8_30 rfl rfl d_MM_visit_123 ?_
      refine lv_iload_n hx hb d_MM_visit_126 rfl (lv_at hl 2 rfl) ?_
      obtain ⟨g13, h⟩ := o_gd_some h
      refine o_iald (f := (NA_key q3.2.2)) C hP 21 20 mw_21 rfl g13 d_MM_visit_127 ?_
      refine lv_if_lt (tgt := 143) hx hb d_MM_visit_128 (by decide) (fun c14 => ?_) (fun c14 => ?_)
      · replace h := o_tt c14 h
        exact f_MM_visit_j143 hE hKy C hDD d rec hrec n u55_x1 u55_M0 u55_Ni u55_Nx u55_Nh u55_Nq u55_Nj u55_M1 z.1 z.2.1 z.2.2.1 z.2.2.2.1 q3.2.2 z.2.2.2.2.2 h h0 h1 _ _ _ hP hS (lv_sub hl [0, 1, 2] rfl)
      · replace h := o_ff c14 h
        refine lv_aload_n hx hb d_MM_visit_131 rfl (lv_at hl 0 rfl) ?_
        refine lv_aload_n hx hb d_MM_visit_132 rfl (lv_at hl 0 rfl) ?_
        refine o_get (v := .ref (ad 21)) C in_MM hP 0 mw_0 rfl 40 (by decide) k_8_30 rfl rfl d_MM_visit_133 ?_
        refine lv_iload_n hx hb d_MM_visit_136 rfl (lv_at hl 2 rfl) ?_
        obtain ⟨g16, h⟩ := o_gd_some h
        refine o_iald (f := (NA_key q3.2.2)) C hP 21 20 mw_21 rfl g16 d_MM_visit_137 ?_
        refine lv_iload_n hx hb d_MM_visit_138 rfl (lv_at hl 2 rfl) ?_
        refine lv_iload_n hx hb d_MM_visit_139 rfl (lv_at hl 1 rfl) ?_
        obtain ⟨q4, hq4, h⟩ := o_bd_some h
        refine o_V (st1 := []) (w1 := (m_cw ad ca ky ty q4.2.2.2.2 u55_Ni q4.1 q4.2.1 u55_Nx q4.2.2.1 q4.2.2.2.1 u55_Nh u55_Nq u55_Nj u55_M0 u55_M1)) hE.1 C (e_MM_keyword hE hKy l n d rec hrec ((NA_key q3.2.2) z.1.toNatClampNeg) z.1 u55_x1 u55_M0 z.2.1 z.2.2.1 z.2.2.2.1 q3.2.2 z.2.2.2.2.2 u55_Ni u55_Nx u55_Nh u55_Nq u55_Nj u55_M1 hq4) hP (hDD _ _ _ _ _ _ _ _ _ _ _ _) hS hl.1 rfl mw_0 k_9_50 k_9_52 k_s_84 k_1_12 k_9_53 hv_MM_keyword rfl rfl ⟨(by dsimp only [rm_MM_visit, rm_MM_keyword]; omega), (by dsimp only [rm_MM_visit, rm_MM_keyword]; omega)⟩ rfl (Nat.le_of_ble_eq_true rfl) ⟨Nat.zero_le _, Nat.zero_le _⟩ rfl d_MM_visit_140 (fun H locs hP hS => ?_)
        exact f_MM_visit_j143 hE hKy C hDD d rec hrec n u55_x1 u55_M0 u55_Ni u55_Nx u55_Nh u55_Nq u55_Nj u55_M1 z.1 q4.1 q4.2.1 q4.2.2.1 q4.2.2.2.1 q4.2.2.2.2 h h0 h1 _ _ _ hP hS (lv_sub hl [0, 1, 2] rfl)
set_option maxHeartbeats 4000000 in
set_option maxRecDepth 100000 in
theorem f_MM_visit_j38 {E : (Nat → Prop) → State → Heap → Prop} {p : Program} {l : Launch} {e : Env} {s : State} {m : MethodId} {args : Array Value} {below : List Frame} {meth : Method} {c : Code} {D : va_G} {ad kd sd vd xd : Nat → Nat} {ca : Nat → ClassId} {A : Nat → Prop} {ky ty : Nat → Option Nat} (hE : o_EK E kd sd vd xd) (hKy : m_KY ky ty sd) (C : o_Cx E p s m args meth c D m_cls (m_tys ca) "SchemaJudgeModel" b_MM_visit none 4 cc_MM_visit A) (hDD : ∀ (rt : Nat) (Ni : SNI) (Np : SNP) (No : SNO) (Nx : SNX) (Nf : SNF) (Na : SNA) (Nh : SNH) (Nq : SNQ) (Nj : SNJ) (M0 : SMT) (M1 : SMT), va_D A (m_cw ad ca ky ty rt Ni Np No Nx Nf Na Nh Nq Nj M0 M1)) (d : Nat) (rec : Int32 → SMT → SNP → SNO → SNF → SNA → Nat → Option (SNP × SNO × SNF × SNA × Nat)) (hrec : ∀ (x1 : Int32) (M0 : SMT) (Np : SNP) (No : SNO) (Nf : SNF) (Na : SNA) (rt : Nat) (Ni : SNI) (Nx : SNX) (Nh : SNH) (Nq : SNQ) (Nj : SNJ) (M1 : SMT) (r : SNP × SNO × SNF × SNA × Nat), rec x1 M0 Np No Nf Na rt = some r → o_Cn E l D m_cls (m_tys ca) y_MM_visit cc_MM_visit (rm_MM_visit d) [.ref (ad 0), .int x1] (m_cw ad ca ky ty rt Ni Np No Nx Nf Na Nh Nq Nj M0 M1) (m_cw ad ca ky ty r.2.2.2.2 Ni r.1 r.2.1 Nx r.2.2.1 r.2.2.2.1 Nh Nq Nj M0 M1) none) (n : Nat) (x1 : Int32) (M0 : SMT) (Np : SNP) (No : SNO) (Nf : SNF) (Na : SNA) (rt : Nat) (Ni : SNI) (Nx : SNX) (Nh : SNH) (Nq : SNQ) (Nj : SNJ) (M1 : SMT) {r : SNP × SNO × SNF × SNA × Nat} (h : m_MM_visit_j38 n rec x1 M0 Np No Nf Na rt = some r) : o_At p l e (rm_MM_visit (d + 1)) s m args below meth c (MQ below (o_Qx D m_cls none (m_cw ad ca ky ty r.2.2.2.2 Ni r.1 r.2.1 Nx r.2.2.1 r.2.2.2.1 Nh Nq Nj M0 M1) A) args s 0 0 A) m_cls D A 4 38 [] (m_cw ad ca ky ty rt Ni Np No Nx Nf Na Nh Nq Nj M0 M1) [(0, .ref (ad 0)), (1, .int x1)] := by
  unfold m_MM_visit_j38 at h
  intro H locs ls hP hS hl
  have C0 := C
  obtain ⟨hx, hb, -, -, -, hown, hts, hK, -, -⟩ := C0
  refine lv_aload_n hx hb d_MM_visit_38 rfl (lv_at hl 0 rfl) ?_
  refine o_get (v := .ref (ad 27)) C in_MM hP 0 mw_0 rfl 46 (by decide) k_8_36 rfl rfl d_MM_visit_39 ?_
  refine lv_iload_n hx hb d_MM_visit_42 rfl (lv_at hl 1 rfl) ?_
  refine lv_iconst (v := (1:Int32)) hx hb d_MM_visit_43 (by decide) ?_
  obtain ⟨g3, h⟩ := o_gd_some h
  refine o_zast (f := (NA_isSchema Na)) (w1 := (m_cw ad ca ky ty rt Ni Np No Nx Nf (NA_mk (NA_anchors Na) (NA_key Na) (NA_target Na) (NA_anchorValue Na) (NA_anchorSchema Na) (upd (NA_isSchema Na) x1.toNatClampNeg (vp_nar .boolean (1:Int32)))) Nh Nq Nj M0 M1)) C hP (hDD _ _ _ _ _ _ _ _ _ _ _ _) hS 27 26 mw_27 rfl g3 rfl d_MM_visit_44 (fun H locs hP hS => ?_)
  refine lv_aload_n hx hb d_MM_visit_45 rfl (lv_at hl 0 rfl) ?_
  refine o_get (v := .ref (ad 33)) C in_MM hP 0 mw_0 rfl 4 (by decide) k_7_234 rfl rfl d_MM_visit_46 ?_
  refine o_get (v := .ref (ad 40)) C in_MT hP 33 mw_33 rfl 6 (by decide) k_7_113 rfl rfl d_MM_visit_49 ?_
  refine lv_iload_n hx hb d_MM_visit_52 rfl (lv_at hl 1 rfl) ?_
  obtain ⟨g4, h⟩ := o_gd_some h
  refine o_iald (f := (MT_first M0)) C hP 40 38 mw_40 rfl g4 d_MM_visit_53 ?_
  refine lv_topi (fun x2_54 ex2_54 => ?_)
  replace h := o_nm_at ex2_54 h
  refine lv_istore_n (lv' := [(2, .int x2_54), (0, .ref (ad 0)), (1, .int x1)]) hx hb d_MM_visit_54 rfl hl (by decide) rfl (fun ls hl => ?_)
  obtain ⟨q5, hq5, h⟩ := o_bd_some h
  refine o_sim2 (AH := fun zz => o_At p l e (rm_MM_visit (d + 1)) s m args below meth c _ m_cls D A 4 55 [] (m_cw ad ca ky ty zz.2.2.2.2.2 Ni zz.2.1 zz.2.2.1 Nx zz.2.2.2.1 zz.2.2.2.2.1 Nh Nq Nj M0 M1) [(0, .ref (ad 0)), (1, .int x1), (2, .int zz.1)]) (AX := fun qq => o_At p l e (rm_MM_visit (d + 1)) s m args below meth c _ m_cls D A 4 156 [] (m_cw ad ca ky ty qq.2.2.2.2.2.2 Ni qq.2.2.1 qq.2.2.2.1 Nx qq.2.2.2.2.1 qq.2.2.2.2.2.1 Nh Nq Nj M0 M1) []) (fun zz qq h h0 h1 => f_MM_visit_b55 hE hKy C hDD d rec hrec n x1 M0 Ni Nx Nh Nq Nj M1 zz qq h h0 h1) n _ q5 hq5 ?_ _ _ _ hP hS (lv_sub hl [1, 2, 0] rfl)
  intro H locs ls hP hS hl
  cases h
  exact o_rv C hP hS d_MM_visit_156
set_option maxHeartbeats 4000000 in
set_option maxRecDepth 100000 in
theorem e_MM_visit_F {E : (Nat → Prop) → State → Heap → Prop} {D : va_G} {ad kd sd vd xd : Nat → Nat} {ca : Nat → ClassId} {ky ty : Nat → Option Nat} (hE : o_EK E kd sd vd xd) (hKy : m_KY ky ty sd) (l : Launch) (n : Nat) (d : Nat) (rec : Int32 → SMT → SNP → SNO → SNF → SNA → Nat → Option (SNP × SNO × SNF × SNA × Nat)) (hrec : ∀ (x1 : Int32) (M0 : SMT) (Np : SNP) (No : SNO) (Nf : SNF) (Na : SNA) (rt : Nat) (Ni : SNI) (Nx : SNX) (Nh : SNH) (Nq : SNQ) (Nj : SNJ) (M1 : SMT) (r : SNP × SNO × SNF × SNA × Nat), rec x1 M0 Np No Nf Na rt = some r → o_Cn E l D m_cls (m_tys ca) y_MM_visit cc_MM_visit (rm_MM_visit d) [.ref (ad 0), .int x1] (m_cw ad ca ky ty rt Ni Np No Nx Nf Na Nh Nq Nj M0 M1) (m_cw ad ca ky ty r.2.2.2.2 Ni r.1 r.2.1 Nx r.2.2.1 r.2.2.2.1 Nh Nq Nj M0 M1) none) (x1 : Int32) (M0 : SMT) (Np : SNP) (No : SNO) (Nf : SNF) (Na : SNA) (rt : Nat) (Ni : SNI) (Nx : SNX) (Nh : SNH) (Nq : SNQ) (Nj : SNJ) (M1 : SMT) {r : SNP × SNO × SNF × SNA × Nat} (h : m_MM_visit_F n rec x1 M0 Np No Nf Na rt = some r) : o_Cn E l D m_cls (m_tys ca) y_MM_visit cc_MM_visit (rm_MM_visit (d + 1)) [.ref (ad 0), .int x1] (m_cw ad ca ky ty rt Ni Np No Nx Nf Na Nh Nq Nj M0 M1) (m_cw ad ca ky ty r.2.2.2.2 Ni r.1 r.2.1 Nx r.2.2.1 r.2.2.2.1 Nh Nq Nj M0 M1) none := by
  refine o_Cn_of (by decide) (Nat.le_of_ble_eq_true rfl) ?_
  intro p e s m below meth c A ls C hD hP hS hl
  have hDD : ∀ (rt : Nat) (Ni : SNI) (Np : SNP) (No : SNO) (Nx : SNX) (Nf : SNF) (Na : SNA) (Nh : SNH) (Nq : SNQ) (Nj : SNJ) (M0 : SMT) (M1 : SMT), va_D A (m_cw ad ca ky ty rt Ni Np No Nx Nf Na Nh Nq Nj M0 M1) := fun _ _ _ _ _ _ _ _ _ _ _ _ => o_D_map hD rfl
  have hl : lv_has ls 4 [(0, .ref (ad 0)), (1, .int x1)] := hl
  unfold m_MM_visit_F at h
  have C0 := C
  obtain ⟨hx, hb, -, -, -, hown, hts, hK, -, -⟩ := C0
  refine lv_aload_n hx hb d_MM_visit_0 rfl (lv_at hl 0 rfl) ?_
  refine o_get (v := .ref (ad 33)) C in_MM hP 0 mw_0 rfl 4 (by decide) k_7_234 rfl rfl d_MM_visit_1 ?_
  refine o_get (v := .ref (ad 35)) C in_MT hP 33 mw_33 rfl 1 (by decide) k_7_103 rfl rfl d_MM_visit_4 ?_
  refine lv_iload_n hx hb d_MM_visit_7 rfl (lv_at hl 1 rfl) ?_
  obtain ⟨g1, h⟩ := o_gd_some h
  refine o_iald (f := (MT_kind M0)) C hP 35 33 mw_35 rfl g1 d_MM_visit_8 ?_
  refine lv_iconst (v := (1:Int32)) hx hb d_MM_visit_9 (by decide) ?_
  refine lv_iconst (v := (2:Int32)) hx hb d_MM_visit_10 (by decide) ?_
  obtain ⟨q1, hq1, h⟩ := o_bd_some h
  refine o_S (st1 := [.int q1]) (w1 := (m_cw ad ca ky ty rt Ni Np No Nx Nf Na Nh Nq Nj M0 M1)) hE.1 C (e_MM_in hE hKy l ((MT_kind M0) x1.toNatClampNeg) (1:Int32) (2:Int32) Ni Np No Nx Nf Na Nh Nq Nj M0 M1 rt hq1) hP (hDD _ _ _ _ _ _ _ _ _ _ _ _) hS hl.1 k_9_41 k_8_201 k_1_12 k_8_202 hs_MM_in rfl rfl ⟨(by dsimp only [rm_MM_visit, rm_MM_in]; omega), (by dsimp only [rm_MM_visit, rm_MM_in]; omega)⟩ rfl (Nat.le_of_ble_eq_true rfl) ⟨Nat.zero_le _, Nat.zero_le _⟩ rfl d_MM_visit_11 (fun H locs hP hS => ?_)
  refine lv_if_ne (tgt := 38) hx hb d_MM_visit_14 (by decide) (fun c2 => ?_) (fun c2 => ?_)
  · replace h := o_ff c2 h
    exact f_MM_visit_j38 hE hKy C hDD d rec hrec n x1 M0 Np No Nf Na rt Ni Nx Nh Nq Nj M1 h _ _ _ hP hS (lv_sub hl [0, 1] rfl)
  · replace h := o_tt c2 h
    refine lv_aload_n hx hb d_MM_visit_17 rfl (lv_at hl 0 rfl) ?_
    refine o_get (v := .ref (ad 33)) C in_MM hP 0 mw_0 rfl 4 (by decide) k_7_234 rfl rfl d_MM_visit_18 ?_
    refine o_get (v := .ref (ad 35)) C in_MT hP 33 mw_33 rfl 1 (by decide) k_7_103 rfl rfl d_MM_visit_21 ?_
    refine lv_iload_n hx hb d_MM_visit_24 rfl (lv_at hl 1 rfl) ?_
    obtain ⟨g17, h⟩ := o_gd_some h
    refine o_iald (f := (MT_kind M0)) C hP 35 33 mw_35 rfl g17 d_MM_visit_25 ?_
    refine lv_bipush (v := (6:Int32)) hx hb d_MM_visit_26 (by decide) ?_
    refine lv_icmp_eq (tgt := 38) hx hb d_MM_visit_28 (by decide) (fun c18 => ?_) (fun c18 => ?_)
    · replace h := o_tt c18 h
      exact f_MM_visit_j38 hE hKy C hDD d rec hrec n x1 M0 Np No Nf Na rt Ni Nx Nh Nq Nj M1 h _ _ _ hP hS (lv_sub hl [0, 1] rfl)
    · replace h := o_ff c18 h
      refine lv_aload_n hx hb d_MM_visit_31 rfl (lv_at hl 0 rfl) ?_
      refine lv_iconst (v := (1:Int32)) hx hb d_MM_visit_32 (by decide) ?_
      refine lv_iload_n hx hb d_MM_visit_33 rfl (lv_at hl 1 rfl) ?_
      obtain ⟨q6, hq6, h⟩ := o_bd_some h
      refine o_V (st1 := []) (w1 := (m_cw ad ca ky ty rt Ni Np No Nx q6 Na Nh Nq Nj M0 M1)) hE.1 C (e_MM_fault hE hKy l (1:Int32) x1 Nf Ni Np No Nx Na Nh Nq Nj M0 M1 rt hq6) hP (hDD _ _ _ _ _ _ _ _ _ _ _ _) hS hl.1 rfl mw_0 k_9_42 k_9_44 k_s_83 k_1_12 k_9_45 hv_MM_fault rfl rfl ⟨(by dsimp only [rm_MM_visit, rm_MM_fault]; omega), (by dsimp only [rm_MM_visit, rm_MM_fault]; omega)⟩ rfl (Nat.le_of_ble_eq_true rfl) ⟨Nat.zero_le _, Nat.zero_le _⟩ rfl d_MM_visit_34 (fun H locs hP hS => ?_)
      cases h
      exact o_rv C hP hS d_MM_visit_37
set_option maxHeartbeats 4000000 in
set_option maxRecDepth 100000 in
theorem e_MM_visit {E : (Nat → Prop) → State → Heap → Prop} {D : va_G} {ad kd sd vd xd : Nat → Nat} {ca : Nat → ClassId} {ky ty : Nat → Option Nat} (hE : o_EK E kd sd vd xd) (hKy : m_KY ky ty sd) (l : Launch) (n : Nat) (d : Nat) (x1 : Int32) (M0 : SMT) (Np : SNP) (No : SNO) (Nf : SNF) (Na : SNA) (rt : Nat) (Ni : SNI) (Nx : SNX) (Nh : SNH) (Nq : SNQ) (Nj : SNJ) (M1 : SMT) {r : SNP × SNO × SNF × SNA × Nat} (h : m_MM_visit n d x1 M0 Np No Nf Na rt = some r) : o_Cn E l D m_cls (m_tys ca) y_MM_visit cc_MM_visit (rm_MM_visit d) [.ref (ad 0), .int x1] (m_cw ad ca ky ty rt Ni Np No Nx Nf Na Nh Nq Nj M0 M1) (m_cw ad ca ky ty r.2.2.2.2 Ni r.1 r.2.1 Nx r.2.2.1 r.2.2.2.1 Nh Nq Nj M0 M1) none := by
  induction d generalizing x1 M0 Np No Nf Na rt Ni Nx Nh Nq Nj M1 r with
  | zero => cases h
  | succ d ih =>
    exact e_MM_visit_F hE hKy l n d (m_MM_visit n d) (fun x1 M0 Np No Nf Na rt Ni Nx Nh Nq Nj M1 r h => ih x1 M0 Np No Nf Na rt Ni Nx Nh Nq Nj M1 h) _ _ _ _ _ _ _ _ _ _ _ _ _ h
set_option maxHeartbeats 4000000 in
set_option maxRecDepth 100000 in
theorem f_MM_decode_j159 {E : (Nat → Prop) → State → Heap → Prop} {p : Program} {l : Launch} {e : Env} {s : State} {m : MethodId} {args : Array Value} {below : List Frame} {meth : Method} {c : Code} {D : va_G} {ad kd sd vd xd : Nat → Nat} {ca : Nat → ClassId} {A : Nat → Prop} {ky ty : Nat → Option Nat} {Q : State → Prop} (hE : o_EK E kd sd vd xd) (hKy : m_KY ky ty sd) (C : o_Cx E p s m args meth c D m_cls (m_tys ca) "SchemaJudgeModel" b_MM_decode (some .boolean) 9 cc_MM_decode A) (hDD : ∀ (rt : Nat) (Ni : SNI) (Np : SNP) (No : SNO) (Nx : SNX) (Nf : SNF) (Na : SNA) (Nh : SNH) (Nq : SNQ) (Nj : SNJ) (M0 : SMT) (M1 : SMT), va_D A (m_cw ad ca ky ty rt Ni Np No Nx Nf Na Nh Nq Nj M0 M1)) (n : Nat) (u5_x2 : Int32) (u5_M0 : SMT) (u5_Ni : SNI) (u5_Np : SNP) (u5_No : SNO) (u5_Nx : SNX) (u5_Nf : SNF) (u5_Na : SNA) (u5_Nq : SNQ) (u5_Nj : SNJ) (u5_M1 : SMT) (u5_rt : Nat) (x3 : Int32) (x4 : Int32) (x5 : Int32) (Nh : SNH) {q : Nat × Int32 × Int32 × SNH} (h : m_MM_decode_j159 n u5_x2 x3 x4 x5 u5_M0 Nh = some q) (h0 : q.1 = 0 → o_At p l e rm_MM_decode s m args below meth c Q m_cls D A 9 5 [] (m_cw ad ca ky ty u5_rt u5_Ni u5_Np u5_No u5_Nx u5_Nf u5_Na q.2.2.2 u5_Nq u5_Nj u5_M0 u5_M1) [(0, .ref (ad 0)), (2, .int u5_x2), (3, .int q.2.1), (4, .int q.2.2.1)]) (h1 : q.1 ≠ 0 → (o_At p l e rm_MM_decode s m args below meth c Q m_cls D A 9 380 [] (m_cw ad ca ky ty u5_rt u5_Ni u5_Np u5_No u5_Nx u5_Nf u5_Na q.2.2.2 u5_Nq u5_Nj u5_M0 u5_M1) [(0, .ref (ad 0)), (3, .int q.2.1)])) : o_At p l e rm_MM_decode s m args below meth c Q m_cls D A 9 159 [] (m_cw ad ca ky ty u5_rt u5_Ni u5_Np u5_No u5_Nx u5_Nf u5_Na Nh u5_Nq u5_Nj u5_M0 u5_M1) [(0, .ref (ad 0)), (2, .int u5_x2), (3, .int x3), (4, .int x4), (5, .int x5)] := by
  unfold m_MM_decode_j159 at h
  intro H locs ls hP hS hl
  have C0 := C
  obtain ⟨hx, hb, -, -, -, hown, hts, hK, -, -⟩ := C0
  refine lv_iload hx hb d_MM_decode_159 (lv_at hl 4 rfl) ?_
  refine lv_sipush (v := (128:Int32)) hx hb d_MM_decode_161 (by decide) ?_
  refine lv_icmp_ge (tgt := 181) hx hb d_MM_decode_164 (by decide) (fun c4 => ?_) (fun c4 => ?_)
  · replace h := o_tt c4 h
    refine lv_iload hx hb d_MM_decode_181 (lv_at hl 4 rfl) ?_
    refine lv_sipush (v := (2048:Int32)) hx hb d_MM_decode_183 (by decide) ?_
    refine lv_icmp_ge (tgt := 228) hx hb d_MM_decode_186 (by decide) (fun c5 => ?_) (fun c5 => ?_)
    · replace h := o_tt c5 h
      refine lv_iload hx hb d_MM_decode_228 (lv_at hl 4 rfl) ?_
      refine lv_ldcw (v := (65536:Int32)) hx hb hown (hts _ k_9_187) d_MM_decode_230 ?_
      refine lv_icmp_ge (tgt := 296) hx hb d_MM_decode_233 (by decide) (fun c6 => ?_) (fun c6 => ?_)
      · replace h := o_tt c6 h
        refine lv_aload_n hx hb d_MM_decode_296 rfl (lv_at hl 0 rfl) ?_
        refine o_get (v := .ref (ad 29)) C in_MM hP 0 mw_0 rfl 49 (by decide) k_8_39 rfl rfl d_MM_decode_297 ?_
        refine lv_iload_n hx hb d_MM_decode_300 rfl (lv_at hl 2 rfl) ?_
        obtain ⟨x3_301, ex3_301⟩ : ∃ y : Int32, y = x3 + (1:Int32) := ⟨_, rfl⟩
        replace h := o_nm_at ex3_301 h
        refine lv_iinc (v := x3_301) (lv' := [(3, .int x3_301), (0, .ref (ad 0)), (2, .int u5_x2), (4, .int x4), (5, .int x5)]) hx hb d_MM_decode_301 hl (k := 2) rfl (by rw [ex3_301]; rfl) (by decide) rfl (fun ls hl => ?_)
        refine lv_sipush (v := (240:Int32)) hx hb d_MM_decode_304 (by decide) ?_
        refine lv_iload hx hb d_MM_decode_307 (lv_at hl 4 rfl) ?_
        refine lv_bipush (v := (18:Int32)) hx hb d_MM_decode_309 (by decide) ?_
        refine lv_ishr hx hb d_MM_decode_311 ?_
        refine lv_ior hx hb d_MM_decode_312 ?_
        obtain ⟨g7, h⟩ := o_gd_some h
        refine o_iast (f := (NH_octetRow Nh)) (w1 := (m_cw ad ca ky ty u5_rt u5_Ni u5_Np u5_No u5_Nx u5_Nf u5_Na (NH_mk (NH_path Nh) (NH_route Nh) (NH_seen1 Nh) (NH_pathSize Nh) (upd (NH_octetRow Nh) x3.toNatClampNeg ((240:Int32) ||| (x5 >>> ((18:Int32) &&& 31)))) (NH_partRow Nh)) u5_Nq u5_Nj u5_M0 u5_M1)) C hP (hDD _ _ _ _ _ _ _ _ _ _ _ _) hS 29 28 mw_29 rfl g7 rfl d_MM_decode_313 (fun H locs hP hS => ?_)
        refine lv_aload_n hx hb d_MM_decode_314 rfl (lv_at hl 1 rfl) ?_
        refine o_get (v := .ref (ad 29)) C in_MM hP 0 mw_0 rfl 49 (by decide) k_8_39 rfl rfl d_MM_decode_315 ?_
        refine lv_iload_n hx hb d_MM_decode_318 rfl (lv_at hl 0 rfl) ?_
        obtain ⟨x3_319, ex3_319⟩ : ∃ y : Int32, y = x3_301 + (1:Int32) := ⟨_, rfl⟩
        replace h := o_nm_at ex3_319 h
        refine lv_iinc (v := x3_319) (lv' := [(3, .int x3_319), (0, .ref (ad 0)), (2, .int u5_x2), (4, .int x4), (5, .int x5)]) hx hb d_MM_decode_319 hl (k := 0) rfl (by rw [ex3_319]; rfl) (by decide) rfl (fun ls hl => ?_)
        refine lv_sipush (v := (128:Int32)) hx hb d_MM_decode_322 (by decide) ?_
        refine lv_iload hx hb d_MM_decode_325 (lv_at hl 4 rfl) ?_
        refine lv_bipush (v := (12:Int32)) hx hb d_MM_decode_327 (by decide) ?_
        refine lv_ishr hx hb d_MM_decode_329 ?_
        refine lv_bipush (v := (63:Int32)) hx hb d_MM_decode_330 (by decide) ?_
        refine lv_iand hx hb d_MM_decode_332 ?_
        refine lv_ior hx hb d_MM_decode_333 ?_
        obtain ⟨g8, h⟩ := o_gd_some h
        refine o_iast (f := (upd (NH_octetRow Nh) x3.toNatClampNeg ((240:Int32) ||| (x5 >>> ((18:Int32) &&& 31))))) (w1 := (m_cw ad ca ky ty u5_rt u5_Ni u5_Np u5_No u5_Nx u5_Nf u5_Na (NH_mk (NH_path Nh) (NH_route Nh) (NH_seen1 Nh) (NH_pathSize Nh) (upd (upd (NH_octetRow Nh) x3.toNatClampNeg ((240:Int32) ||| (x5 >>> ((18:Int32) &&& 31)))) x3_301.toNatClampNeg ((128:Int32) ||| ((x5 >>> ((12:Int32) &&& 31)) &&& (63:Int32)))) (NH_partRow Nh)) u5_Nq u5_Nj u5_M0 u5_M1)) C hP (hDD _ _ _ _ _ _ _ _ _ _ _ _) hS 29 28 mw_29 rfl g8 rfl d_MM_decode_334 (fun H locs hP hS => ?_)
        refine lv_aload_n hx hb d_MM_decode_335 rfl (lv_at hl 1 rfl) ?_
        refine o_get (v := .ref (ad 29)) C in_MM hP 0 mw_0 rfl 49 (by decide) k_8_39 rfl rfl d_MM_decode_336 ?_
        refine lv_iload_n hx hb d_MM_decode_339 rfl (lv_at hl 0 rfl) ?_
        obtain ⟨x3_340, ex3_340⟩ : ∃ y : Int32, y = x3_319 + (1:Int32) := ⟨_, rfl⟩
        replace h := o_nm_at ex3_340 h
        refine lv_iinc (v := x3_340) (lv' := [(3, .int x3_340), (0, .ref (ad 0)), (2, .int u5_x2), (4, .int x4), (5, .int x5)]) hx hb d_MM_decode_340 hl (k := 0) rfl (by rw [ex3_340]; rfl) (by decide) rfl (fun ls hl => ?_)
        refine lv_sipush (v := (128:Int32)) hx hb d_MM_decode_343 (by decide) ?_
        refine lv_iload hx hb d_MM_decode_346 (lv_at hl 4 rfl) ?_
        refine lv_bipush (v := (6:Int32)) hx hb d_MM_decode_348 (by decide) ?_
        refine lv_ishr hx hb d_MM_decode_350 ?_
        refine lv_bipush (v := (63:Int32)) hx hb d_MM_decode_351 (by decide) ?_
        refine lv_iand hx hb d_MM_decode_353 ?_
        refine lv_ior hx hb d_MM_decode_354 ?_
        obtain ⟨g9, h⟩ := o_gd_some h
        refine o_iast (f := (upd (upd (NH_octetRow Nh) x3.toNatClampNeg ((240:Int32) ||| (x5 >>> ((18:Int32) &&& 31)))) x3_301.toNatClampNeg ((128:Int32) ||| ((x5 >>> ((12:Int32) &&& 31)) &&& (63:Int32))))) (w1 := (m_cw ad ca ky ty u5_rt u5_Ni u5_Np u5_No u5_Nx u5_Nf u5_Na (NH_mk (NH_path Nh) (NH_route Nh) (NH_seen1 Nh) (NH_pathSize Nh) (upd (upd (upd (NH_octetRow Nh) x3.toNatClampNeg ((240:Int32) ||| (x5 >>> ((18:Int32) &&& 31)))) x3_301.toNatClampNeg ((128:Int32) ||| ((x5 >>> ((12:Int32) &&& 31)) &&& (63:Int32)))) x3_319.toNatClampNeg ((128:Int32) ||| ((x5 >>> ((6:Int32) &&& 31)) &&& (63:Int32)))) (NH_partRow Nh)) u5_Nq u5_Nj u5_M0 u5_M1)) C hP (hDD _ _ _ _ _ _ _ _ _ _ _ _) hS 29 28 mw_29 rfl g9 rfl d_MM_decode_355 (fun H locs hP hS => ?_)
        refine lv_aload_n hx hb d_MM_decode_356 rfl (lv_at hl 1 rfl) ?_
        refine o_get (v := .ref (ad 29)) C in_MM hP 0 mw_0 rfl 49 (by decide) k_8_39 rfl rfl d_MM_decode_357 ?_
        refine lv_iload_n hx hb d_MM_decode_360 rfl (lv_at hl 0 rfl) ?_
        obtain ⟨x3_361, ex3_361⟩ : ∃ y : Int32, y = x3_340 + (1:Int32) := ⟨_, rfl⟩
        replace h := o_nm_at ex3_361 h
        refine lv_iinc (v := x3_361) (lv' := [(3, .int x3_361), (0, .ref (ad 0)), (2, .int u5_x2), (4, .int x4), (5, .int x5)]) hx hb d_MM_decode_361 hl (k := 0) rfl (by rw [ex3_361]; rfl) (by decide) rfl (fun ls hl => ?_)
        refine lv_sipush (v := (128:Int32)) hx hb d_MM_decode_364 (by decide) ?_
        refine lv_iload hx hb d_MM_decode_367 (lv_at hl 4 rfl) ?_
        refine lv_bipush (v := (63:Int32)) hx hb d_MM_decode_369 (by decide) ?_
        refine lv_iand hx hb d_MM_decode_371 ?_
        refine lv_ior hx hb d_MM_decode_372 ?_
        obtain ⟨g10, h⟩ := o_gd_some h
        refine o_iast (f := (upd (upd (upd (NH_octetRow Nh) x3.toNatClampNeg ((240:Int32) ||| (x5 >>> ((18:Int32) &&& 31)))) x3_301.toNatClampNeg ((128:Int32) ||| ((x5 >>> ((12:Int32) &&& 31)) &&& (63:Int32)))) x3_319.toNatClampNeg ((128:Int32) ||| ((x5 >>> ((6:Int32) &&& 31)) &&& (63:Int32))))) (w1 := (m_cw ad ca ky ty u5_rt u5_Ni u5_Np u5_No u5_Nx u5_Nf u5_Na (NH_mk (NH_path Nh) (NH_route Nh) (NH_seen1 Nh) (NH_pathSize Nh) (upd (upd (upd (upd (NH_octetRow Nh) x3.toNatClampNeg ((240:Int32) ||| (x5 >>> ((18:Int32) &&& 31)))) x3_301.toNatClampNeg ((128:Int32) ||| ((x5 >>> ((12:Int32) &&& 31)) &&& (63:Int32)))) x3_319.toNatClampNeg ((128:Int32) ||| ((x5 >>> ((6:Int32) &&& 31)) &&& (63:Int32)))) x3_340.toNatClampNeg ((128:Int32) ||| (x5 &&& (63:Int32)))) (NH_partRow Nh)) u5_Nq u5_Nj u5_M0 u5_M1)) C hP (hDD _ _ _ _ _ _ _ _ _ _ _ _) hS 29 28 mw_29 rfl g10 rfl d_MM_decode_373 (fun H locs hP hS => ?_)
        obtain ⟨x4_374, ex4_374⟩ : ∃ y : Int32, y = x4 + (1:Int32) := ⟨_, rfl⟩
        replace h := o_nm_at ex4_374 h
        refine lv_iinc (v := x4_374) (lv' := [(4, .int x4_374), (3, .int x3_361), (0, .ref (ad 0)), (2, .int u5_x2), (5, .int x5)]) hx hb d_MM_decode_374 hl (k := 3) rfl (by rw [ex4_374]; rfl) (by decide) rfl (fun ls hl => ?_)
        refine lv_goto (tgt := 5) hx hb d_MM_decode_377 (by decide) ?_
        cases h
        exact h0 rfl _ _ _ hP hS (lv_sub hl [2, 3, 1, 0] rfl)
      · replace h := o_ff c6 h
        refine lv_aload_n hx hb d_MM_decode_236 rfl (lv_at hl 0 rfl) ?_
        refine o_get (v := .ref (ad 29)) C in_MM hP 0 mw_0 rfl 49 (by decide) k_8_39 rfl rfl d_MM_decode_237 ?_
        refine lv_iload_n hx hb d_MM_decode_240 rfl (lv_at hl 2 rfl) ?_
        obtain ⟨x3_241, ex3_241⟩ : ∃ y : Int32, y = x3 + (1:Int32) := ⟨_, rfl⟩
        replace h := o_nm_at ex3_241 h
        refine lv_iinc (v := x3_241) (lv' := [(3, .int x3_241), (0, .ref (ad 0)), (2, .int u5_x2), (4, .int x4), (5, .int x5)]) hx hb d_MM_decode_241 hl (k := 2) rfl (by rw [ex3_241]; rfl) (by decide) rfl (fun ls hl => ?_)
        refine lv_sipush (v := (224:Int32)) hx hb d_MM_decode_244 (by decide) ?_
        refine lv_iload hx hb d_MM_decode_247 (lv_at hl 4 rfl) ?_
        refine lv_bipush (v := (12:Int32)) hx hb d_MM_decode_249 (by decide) ?_
        refine lv_ishr hx hb d_MM_decode_251 ?_
        refine lv_ior hx hb d_MM_decode_252 ?_
        obtain ⟨g11, h⟩ := o_gd_some h
        refine o_iast (f := (NH_octetRow Nh)) (w1 := (m_cw ad ca ky ty u5_rt u5_Ni u5_Np u5_No u5_Nx u5_Nf u5_Na (NH_mk (NH_path Nh) (NH_route Nh) (NH_seen1 Nh) (NH_pathSize Nh) (upd (NH_octetRow Nh) x3.toNatClampNeg ((224:Int32) ||| (x5 >>> ((12:Int32) &&& 31)))) (NH_partRow Nh)) u5_Nq u5_Nj u5_M0 u5_M1)) C hP (hDD _ _ _ _ _ _ _ _ _ _ _ _) hS 29 28 mw_29 rfl g11 rfl d_MM_decode_253 (fun H locs hP hS => ?_)
        refine lv_aload_n hx hb d_MM_decode_254 rfl (lv_at hl 1 rfl) ?_
        refine o_get (v := .ref (ad 29)) C in_MM hP 0 mw_0 rfl 49 (by decide) k_8_39 rfl rfl d_MM_decode_255 ?_
        refine lv_iload_n hx hb d_MM_decode_258 rfl (lv_at hl 0 rfl) ?_
        obtain ⟨x3_259, ex3_259⟩ : ∃ y : Int32, y = x3_241 + (1:Int32) := ⟨_, rfl⟩
        replace h := o_nm_at ex3_259 h
        refine lv_iinc (v := x3_259) (lv' := [(3, .int x3_259), (0, .ref (ad 0)), (2, .int u5_x2), (4, .int x4), (5, .int x5)]) hx hb d_MM_decode_259 hl (k := 0) rfl (by rw [ex3_259]; rfl) (by decide) rfl (fun ls hl => ?_)
        refine lv_sipush (v := (128:Int32)) hx hb d_MM_decode_262 (by decide) ?_
        refine lv_iload hx hb d_MM_decode_265 (lv_at hl 4 rfl) ?_
        refine lv_bipush (v := (6:Int32)) hx hb d_MM_decode_267 (by decide) ?_
        refine lv_ishr hx hb d_MM_decode_269 ?_
        refine lv_bipush (v := (63:Int32)) hx hb d_MM_decode_270 (by decide) ?_
        refine lv_iand hx hb d_MM_decode_272 ?_
        refine lv_ior hx hb d_MM_decode_273 ?_
        obtain ⟨g12, h⟩ := o_gd_some h
        refine o_iast (f := (upd (NH_octetRow Nh) x3.toNatClampNeg ((224:Int32) ||| (x5 >>> ((12:Int32) &&& 31))))) (w1 := (m_cw ad ca ky ty u5_rt u5_Ni u5_Np u5_No u5_Nx u5_Nf u5_Na (NH_mk (NH_path Nh) (NH_route Nh) (NH_seen1 Nh) (NH_pathSize Nh) (upd (upd (NH_octetRow Nh) x3.toNatClampNeg ((224:Int32) ||| (x5 >>> ((12:Int32) &&& 31)))) x3_241.toNatClampNeg ((128:Int32) ||| ((x5 >>> ((6:Int32) &&& 31)) &&& (63:Int32)))) (NH_partRow Nh)) u5_Nq u5_Nj u5_M0 u5_M1)) C hP (hDD _ _ _ _ _ _ _ _ _ _ _ _) hS 29 28 mw_29 rfl g12 rfl d_MM_decode_274 (fun H locs hP hS => ?_)
        refine lv_aload_n hx hb d_MM_decode_275 rfl (lv_at hl 1 rfl) ?_
        refine o_get (v := .ref (ad 29)) C in_MM hP 0 mw_0 rfl 49 (by decide) k_8_39 rfl rfl d_MM_decode_276 ?_
        refine lv_iload_n hx hb d_MM_decode_279 rfl (lv_at hl 0 rfl) ?_
        obtain ⟨x3_280, ex3_280⟩ : ∃ y : Int32, y = x3_259 + (1:Int32) := ⟨_, rfl⟩
        replace h := o_nm_at ex3_280 h
        refine lv_iinc (v := x3_280) (lv' := [(3, .int x3_280), (0, .ref (ad 0)), (2, .int u5_x2), (4, .int x4), (5, .int x5)]) hx hb d_MM_decode_280 hl (k := 0) rfl (by rw [ex3_280]; rfl) (by decide) rfl (fun ls hl => ?_)
        refine lv_sipush (v := (128:Int32)) hx hb d_MM_decode_283 (by decide) ?_
        refine lv_iload hx hb d_MM_decode_286 (lv_at hl 4 rfl) ?_
        refine lv_bipush (v := (63:Int32)) hx hb d_MM_decode_288 (by decide) ?_
        refine lv_iand hx hb d_MM_decode_290 ?_
        refine lv_ior hx hb d_MM_decode_291 ?_
        obtain ⟨g13, h⟩ := o_gd_some h
        refine o_iast (f := (upd (upd (NH_octetRow Nh) x3.toNatClampNeg ((224:Int32) ||| (x5 >>> ((12:Int32) &&& 31)))) x3_241.toNatClampNeg ((128:Int32) ||| ((x5 >>> ((6:Int32) &&& 31)) &&& (63:Int32))))) (w1 := (m_cw ad ca ky ty u5_rt u5_Ni u5_Np u5_No u5_Nx u5_Nf u5_Na (NH_mk (NH_path Nh) (NH_route Nh) (NH_seen1 Nh) (NH_pathSize Nh) (upd (upd (upd (NH_octetRow Nh) x3.toNatClampNeg ((224:Int32) ||| (x5 >>> ((12:Int32) &&& 31)))) x3_241.toNatClampNeg ((128:Int32) ||| ((x5 >>> ((6:Int32) &&& 31)) &&& (63:Int32)))) x3_259.toNatClampNeg ((128:Int32) ||| (x5 &&& (63:Int32)))) (NH_partRow Nh)) u5_Nq u5_Nj u5_M0 u5_M1)) C hP (hDD _ _ _ _ _ _ _ _ _ _ _ _) hS 29 28 mw_29 rfl g13 rfl d_MM_decode_292 (fun H locs hP hS => ?_)
        refine lv_goto (tgt := 374) hx hb d_MM_decode_293 (by decide) ?_
        obtain ⟨x4_374, ex4_374⟩ : ∃ y : Int32, y = x4 + (1:Int32) := ⟨_, rfl⟩
        replace h := o_nm_at ex4_374 h
        refine lv_iinc (v := x4_374) (lv' := [(4, .int x4_374), (3, .int x3_280), (0, .ref (ad 0)), (2, .int u5_x2), (5, .int x5)]) hx hb d_MM_decode_374 hl (k := 3) rfl (by rw [ex4_374]; rfl) (by decide) rfl (fun ls hl => ?_)
        refine lv_goto (tgt := 5) hx hb d_MM_decode_377 (by decide) ?_
        cases h
        exact h0 rfl _ _ _ hP hS (lv_sub hl [2, 3, 1, 0] rfl)
    · replace h := o_ff c5 h
      refine lv_aload_n hx hb d_MM_decode_189 rfl (lv_at hl 0 rfl) ?_
      refine o_get (v := .ref (ad 29)) C in_MM hP 0 mw_0 rfl 49 (by decide) k_8_39 rfl rfl d_MM_decode_190 ?_
      refine lv_iload_n hx hb d_MM_decode_193 rfl (lv_at hl 2 rfl) ?_
      obtain ⟨x3_194, ex3_194⟩ : ∃ y : Int32, y = x3 + (1:Int32) := ⟨_, rfl⟩
      replace h := o_nm_at ex3_194 h
      refine lv_iinc (v := x3_194) (lv' := [(3, .int x3_194), (0, .ref (ad 0)), (2, .int u5_x2), (4, .int x4), (5, .int x5)]) hx hb d_MM_decode_194 hl (k := 2) rfl (by rw [ex3_194]; rfl) (by decide) rfl (fun ls hl => ?_)
      refine lv_sipush (v := (192:Int32)) hx hb d_MM_decode_197 (by decide) ?_
      refine lv_iload hx hb d_MM_decode_200 (lv_at hl 4 rfl) ?_
      refine lv_bipush (v := (6:Int32)) hx hb d_MM_decode_202 (by decide) ?_
      refine lv_ishr hx hb d_MM_decode_204 ?_
      refine lv_ior hx hb d_MM_decode_205 ?_
      obtain ⟨g14, h⟩ := o_gd_some h
      refine o_iast (f := (NH_octetRow Nh)) (w1 := (m_cw ad ca ky ty u5_rt u5_Ni u5_Np u5_No u5_Nx u5_Nf u5_Na (NH_mk (NH_path Nh) (NH_route Nh) (NH_seen1 Nh) (NH_pathSize Nh) (upd (NH_octetRow Nh) x3.toNatClampNeg ((192:Int32) ||| (x5 >>> ((6:Int32) &&& 31)))) (NH_partRow Nh)) u5_Nq u5_Nj u5_M0 u5_M1)) C hP (hDD _ _ _ _ _ _ _ _ _ _ _ _) hS 29 28 mw_29 rfl g14 rfl d_MM_decode_206 (fun H locs hP hS => ?_)
      refine lv_aload_n hx hb d_MM_decode_207 rfl (lv_at hl 1 rfl) ?_
      refine o_get (v := .ref (ad 29)) C in_MM hP 0 mw_0 rfl 49 (by decide) k_8_39 rfl rfl d_MM_decode_208 ?_
      refine lv_iload_n hx hb d_MM_decode_211 rfl (lv_at hl 0 rfl) ?_
      obtain ⟨x3_212, ex3_212⟩ : ∃ y : Int32, y = x3_194 + (1:Int32) := ⟨_, rfl⟩
      replace h := o_nm_at ex3_212 h
      refine lv_iinc (v := x3_212) (lv' := [(3, .int x3_212), (0, .ref (ad 0)), (2, .int u5_x2), (4, .int x4), (5, .int x5)]) hx hb d_MM_decode_212 hl (k := 0) rfl (by rw [ex3_212]; rfl) (by decide) rfl (fun ls hl => ?_)
      refine lv_sipush (v := (128:Int32)) hx hb d_MM_decode_215 (by decide) ?_
      refine lv_iload hx hb d_MM_decode_218 (lv_at hl 4 rfl) ?_
      refine lv_bipush (v := (63:Int32)) hx hb d_MM_decode_220 (by decide) ?_
      refine lv_iand hx hb d_MM_decode_222 ?_
      refine lv_ior hx hb d_MM_decode_223 ?_
      obtain ⟨g15, h⟩ := o_gd_some h
      refine o_iast (f := (upd (NH_octetRow Nh) x3.toNatClampNeg ((192:Int32) ||| (x5 >>> ((6:Int32) &&& 31))))) (w1 := (m_cw ad ca ky ty u5_rt u5_Ni u5_Np u5_No u5_Nx u5_Nf u5_Na (NH_mk (NH_path Nh) (NH_route Nh) (NH_seen1 Nh) (NH_pathSize Nh) (upd (upd (NH_octetRow Nh) x3.toNatClampNeg ((192:Int32) ||| (x5 >>> ((6:Int32) &&& 31)))) x3_194.toNatClampNeg ((128:Int32) ||| (x5 &&& (63:Int32)))) (NH_partRow Nh)) u5_Nq u5_Nj u5_M0 u5_M1)) C hP (hDD _ _ _ _ _ _ _ _ _ _ _ _) hS 29 28 mw_29 rfl g15 rfl d_MM_decode_224 (fun H locs hP hS => ?_)
      refine lv_goto (tgt := 374) hx hb d_MM_decode_225 (by decide) ?_
      obtain ⟨x4_374, ex4_374⟩ : ∃ y : Int32, y = x4 + (1:Int32) := ⟨_, rfl⟩
      replace h := o_nm_at ex4_374 h
      refine lv_iinc (v := x4_374) (lv' := [(4, .int x4_374), (3, .int x3_212), (0, .ref (ad 0)), (2, .int u5_x2), (5, .int x5)]) hx hb d_MM_decode_374 hl (k := 3) rfl (by rw [ex4_374]; rfl) (by decide) rfl (fun ls hl => ?_)
      refine lv_goto (tgt := 5) hx hb d_MM_decode_377 (by decide) ?_
      cases h
      exact h0 rfl _ _ _ hP hS (lv_sub hl [2, 3, 1, 0] rfl)
  · replace h := o_ff c4 h
    refine lv_aload_n hx hb d_MM_decode_167 rfl (lv_at hl 0 rfl) ?_
    refine o_get (v := .ref (ad 29)) C in_MM hP 0 mw_0 rfl 49 (by decide) k_8_39 rfl rfl d_MM_decode_168 ?_
    refine lv_iload_n hx hb d_MM_decode_171 rfl (lv_at hl 2 rfl) ?_
    obtain ⟨x3_172, ex3_172⟩ : ∃ y : Int32, y = x3 + (1:Int32) := ⟨_, rfl⟩
    replace h := o_nm_at ex3_172 h
    refine lv_iinc (v := x3_172) (lv' := [(3, .int x3_172), (0, .ref (ad 0)), (2, .int u5_x2), (4, .int x4), (5, .int x5)]) hx hb d_MM_decode_172 hl (k := 2) rfl (by rw [ex3_172]; rfl) (by decide) rfl (fun ls hl => ?_)
    refine lv_iload hx hb d_MM_decode_175 (lv_at hl 4 rfl) ?_
    obtain ⟨g16, h⟩ := o_gd_some h
    refine o_iast (f := (NH_octetRow Nh)) (w1 := (m_cw ad ca ky ty u5_rt u5_Ni u5_Np u5_No u5_Nx u5_Nf u5_Na (NH_mk (NH_path Nh) (NH_route Nh) (NH_seen1 Nh) (NH_pathSize Nh) (upd (NH_octetRow Nh) x3.toNatClampNeg x5) (NH_partRow Nh)) u5_Nq u5_Nj u5_M0 u5_M1)) C hP (hDD _ _ _ _ _ _ _ _ _ _ _ _) hS 29 28 mw_29 rfl g16 rfl d_MM_decode_177 (fun H locs hP hS => ?_)
    refine lv_goto (tgt := 374) hx hb d_MM_decode_178 (by decide) ?_
    obtain ⟨x4_374, ex4_374⟩ : ∃ y : Int32, y = x4 + (1:Int32) := ⟨_, rfl⟩
    replace h := o_nm_at ex4_374 h
    refine lv_iinc (v := x4_374) (lv' := [(4, .int x4_374), (3, .int x3_172), (0, .ref (ad 0)), (2, .int u5_x2), (5, .int x5)]) hx hb d_MM_decode_374 hl (k := 3) rfl (by rw [ex4_374]; rfl) (by decide) rfl (fun ls hl => ?_)
    refine lv_goto (tgt := 5) hx hb d_MM_decode_377 (by decide) ?_
    cases h
    exact h0 rfl _ _ _ hP hS (lv_sub hl [2, 3, 1, 0] rfl)
set_option maxHeartbeats 4000000 in
set_option maxRecDepth 100000 in
theorem f_MM_decode_b5 {E : (Nat → Prop) → State → Heap → Prop} {p : Program} {l : Launch} {e : Env} {s : State} {m : MethodId} {args : Array Value} {below : List Frame} {meth : Method} {c : Code} {D : va_G} {ad kd sd vd xd : Nat → Nat} {ca : Nat → ClassId} {A : Nat → Prop} {ky ty : Nat → Option Nat} {Q : State → Prop} (hE : o_EK E kd sd vd xd) (hKy : m_KY ky ty sd) (C : o_Cx E p s m args meth c D m_cls (m_tys ca) "SchemaJudgeModel" b_MM_decode (some .boolean) 9 cc_MM_decode A) (hDD : ∀ (rt : Nat) (Ni : SNI) (Np : SNP) (No : SNO) (Nx : SNX) (Nf : SNF) (Na : SNA) (Nh : SNH) (Nq : SNQ) (Nj : SNJ) (M0 : SMT) (M1 : SMT), va_D A (m_cw ad ca ky ty rt Ni Np No Nx Nf Na Nh Nq Nj M0 M1)) (n : Nat) (u5_x2 : Int32) (u5_M0 : SMT) (u5_Ni : SNI) (u5_Np : SNP) (u5_No : SNO) (u5_Nx : SNX) (u5_Nf : SNF) (u5_Na : SNA) (u5_Nq : SNQ) (u5_Nj : SNJ) (u5_M1 : SMT) (u5_rt : Nat) (z : Int32 × Int32 × SNH) (q : Nat × Int32 × Int32 × SNH) (h : m_MM_decode_b5 n u5_x2 u5_M0 z = some q) (h0 : q.1 = 0 → o_At p l e rm_MM_decode s m args below meth c Q m_cls D A 9 5 [] (m_cw ad ca ky ty u5_rt u5_Ni u5_Np u5_No u5_Nx u5_Nf u5_Na q.2.2.2 u5_Nq u5_Nj u5_M0 u5_M1) [(0, .ref (ad 0)), (2, .int u5_x2), (3, .int q.2.1), (4, .int q.2.2.1)]) (h1 : q.1 ≠ 0 → (o_At p l e rm_MM_decode s m args below meth c Q m_cls D A 9 380 [] (m_cw ad ca ky ty u5_rt u5_Ni u5_Np u5_No u5_Nx u5_Nf u5_Na q.2.2.2 u5_Nq u5_Nj u5_M0 u5_M1) [(0, .ref (ad 0)), (3, .int q.2.1)])) : o_At p l e rm_MM_decode s m args below meth c Q m_cls D A 9 5 [] (m_cw ad ca ky ty u5_rt u5_Ni u5_Np u5_No u5_Nx u5_Nf u5_Na z.2.2 u5_Nq u5_Nj u5_M0 u5_M1) [(0, .ref (ad 0)), (2, .int u5_x2), (3, .int z.1), (4, .int z.2.1)] := by
  unfold m_MM_decode_b5 at h
  intro H locs ls hP hS hl
  have C0 := C
  obtain ⟨hx, hb, -, -, -, hown, hts, hK, -, -⟩ := C0
  refine lv_iload hx hb d_MM_decode_5 (lv_at hl 3 rfl) ?_
  refine lv_iload_n hx hb d_MM_decode_7 rfl (lv_at hl 1 rfl) ?_
  refine lv_icmp_ge (tgt := 380) hx hb d_MM_decode_8 (by decide) (fun c1 => ?_) (fun c1 => ?_)
  · replace h := o_tt c1 h
    cases h
    exact h1 (Nat.succ_ne_zero 0) _ _ _ hP hS (lv_sub hl [0, 2] rfl)
  · replace h := o_ff c1 h
    refine lv_aload_n hx hb d_MM_decode_11 rfl (lv_at hl 0 rfl) ?_
    refine o_get (v := .ref (ad 33)) C in_MM hP 0 mw_0 rfl 4 (by decide) k_7_234 rfl rfl d_MM_decode_12 ?_
    refine o_get (v := .ref (ad 44)) C in_MT hP 33 mw_33 rfl 10 (by decide) k_7_121 rfl rfl d_MM_decode_15 ?_
    refine lv_iload hx hb d_MM_decode_18 (lv_at hl 3 rfl) ?_
    obtain ⟨g2, h⟩ := o_gd_some h
    refine o_iald (f := (MT_characters u5_M0)) C hP 44 42 mw_44 rfl g2 d_MM_decode_20 ?_
    refine lv_topi (fun x5_21 ex5_21 => ?_)
    replace h := o_nm_at ex5_21 h
    refine lv_istore (lv' := [(5, .int x5_21), (0, .ref (ad 0)), (2, .int u5_x2), (3, .int z.1), (4, .int z.2.1)]) hx hb d_MM_decode_21 hl (by decide) rfl (fun ls hl => ?_)
    refine lv_iload hx hb d_MM_decode_23 (lv_at hl 0 rfl) ?_
    refine lv_bipush (v := (37:Int32)) hx hb d_MM_decode_25 (by decide) ?_
    refine lv_icmp_ne (tgt := 159) hx hb d_MM_decode_27 (by decide) (fun c3 => ?_) (fun c3 => ?_)
    · replace h := o_ff c3 h
      exact f_MM_decode_j159 hE hKy C hDD n u5_x2 u5_M0 u5_Ni u5_Np u5_No u5_Nx u5_Nf u5_Na u5_Nq u5_Nj u5_M1 u5_rt z.1 z.2.1 x5_21 z.2.2 h h0 h1 _ _ _ hP hS (lv_sub hl [1, 2, 3, 4, 0] rfl)
    · replace h := o_tt c3 h
      refine lv_iload hx hb d_MM_decode_30 (lv_at hl 4 rfl) ?_
      refine lv_iconst (v := (2:Int32)) hx hb d_MM_decode_32 (by decide) ?_
      refine lv_iadd hx hb d_MM_decode_33 ?_
      refine lv_iload_n hx hb d_MM_decode_34 rfl (lv_at hl 2 rfl) ?_
      refine lv_icmp_ge (tgt := 159) hx hb d_MM_decode_35 (by decide) (fun c17 => ?_) (fun c17 => ?_)
      · replace h := o_tt c17 h
        exact f_MM_decode_j159 hE hKy C hDD n u5_x2 u5_M0 u5_Ni u5_Np u5_No u5_Nx u5_Nf u5_Na u5_Nq u5_Nj u5_M1 u5_rt z.1 z.2.1 x5_21 z.2.2 h h0 h1 _ _ _ hP hS (lv_sub hl [1, 2, 3, 4, 0] rfl)
      · replace h := o_ff c17 h
        refine lv_aload_n hx hb d_MM_decode_38 rfl (lv_at hl 1 rfl) ?_
        refine o_get (v := .ref (ad 33)) C in_MM hP 0 mw_0 rfl 4 (by decide) k_7_234 rfl rfl d_MM_decode_39 ?_
        refine o_get (v := .ref (ad 44)) C in_MT hP 33 mw_33 rfl 10 (by decide) k_7_121 rfl rfl d_MM_decode_42 ?_
        refine lv_iload hx hb d_MM_decode_45 (lv_at hl 4 rfl) ?_
        refine lv_iconst (v := (1:Int32)) hx hb d_MM_decode_47 (by decide) ?_
        refine lv_iadd hx hb d_MM_decode_48 ?_
        obtain ⟨g18, h⟩ := o_gd_some h
        refine o_iald (f := (MT_characters u5_M0)) C hP 44 42 mw_44 rfl g18 d_MM_decode_49 ?_
        obtain ⟨q1, hq1, h⟩ := o_bd_some h
        refine o_S (st1 := [.int q1]) (w1 := (m_cw ad ca ky ty u5_rt u5_Ni u5_Np u5_No u5_Nx u5_Nf u5_Na z.2.2 u5_Nq u5_Nj u5_M0 u5_M1)) hE.1 C (e_MT_hex hE hKy l ((MT_characters u5_M0) (z.2.1 + (1:Int32)).toNatClampNeg) u5_Ni u5_Np u5_No u5_Nx u5_Nf u5_Na z.2.2 u5_Nq u5_Nj u5_M0 u5_M1 u5_rt hq1) hP (hDD _ _ _ _ _ _ _ _ _ _ _ _) hS hl.1 k_9_112 k_8_233 k_1_13 k_8_234 hs_MT_hex rfl rfl ⟨(Nat.le_of_ble_eq_true rfl), (Nat.le_of_ble_eq_true rfl)⟩ rfl (Nat.le_of_ble_eq_true rfl) ⟨Nat.zero_le _, Nat.zero_le _⟩ rfl d_MM_decode_50 (fun H locs hP hS => ?_)
        refine lv_if_lt (tgt := 159) hx hb d_MM_decode_53 (by decide) (fun c19 => ?_) (fun c19 => ?_)
        · replace h := o_tt c19 h
          exact f_MM_decode_j159 hE hKy C hDD n u5_x2 u5_M0 u5_Ni u5_Np u5_No u5_Nx u5_Nf u5_Na u5_Nq u5_Nj u5_M1 u5_rt z.1 z.2.1 x5_21 z.2.2 h h0 h1 _ _ _ hP hS (lv_sub hl [1, 2, 3, 4, 0] rfl)
        · replace h := o_ff c19 h
          refine lv_aload_n hx hb d_MM_decode_56 rfl (lv_at hl 1 rfl) ?_
          refine o_get (v := .ref (ad 33)) C in_MM hP 0 mw_0 rfl 4 (by decide) k_7_234 rfl rfl d_MM_decode_57 ?_
          refine o_get (v := .ref (ad 44)) C in_MT hP 33 mw_33 rfl 10 (by decide) k_7_121 rfl rfl d_MM_decode_60 ?_
          refine lv_iload hx hb d_MM_decode_63 (lv_at hl 4 rfl) ?_
          refine lv_iconst (v := (2:Int32)) hx hb d_MM_decode_65 (by decide) ?_
          refine lv_iadd hx hb d_MM_decode_66 ?_
          obtain ⟨g20, h⟩ := o_gd_some h
          refine o_iald (f := (MT_characters u5_M0)) C hP 44 42 mw_44 rfl g20 d_MM_decode_67 ?_
          obtain ⟨q2, hq2, h⟩ := o_bd_some h
          refine o_S (st1 := [.int q2]) (w1 := (m_cw ad ca ky ty u5_rt u5_Ni u5_Np u5_No u5_Nx u5_Nf u5_Na z.2.2 u5_Nq u5_Nj u5_M0 u5_M1)) hE.1 C (e_MT_hex hE hKy l ((MT_characters u5_M0) (z.2.1 + (2:Int32)).toNatClampNeg) u5_Ni u5_Np u5_No u5_Nx u5_Nf u5_Na z.2.2 u5_Nq u5_Nj u5_M0 u5_M1 u5_rt hq2) hP (hDD _ _ _ _ _ _ _ _ _ _ _ _) hS hl.1 k_9_112 k_8_233 k_1_13 k_8_234 hs_MT_hex rfl rfl ⟨(Nat.le_of_ble_eq_true rfl), (Nat.le_of_ble_eq_true rfl)⟩ rfl (Nat.le_of_ble_eq_true rfl) ⟨Nat.zero_le _, Nat.zero_le _⟩ rfl d_MM_decode_68 (fun H locs hP hS => ?_)
          refine lv_if_lt (tgt := 159) hx hb d_MM_decode_71 (by decide) (fun c21 => ?_) (fun c21 => ?_)
          · replace h := o_tt c21 h
            exact f_MM_decode_j159 hE hKy C hDD n u5_x2 u5_M0 u5_Ni u5_Np u5_No u5_Nx u5_Nf u5_Na u5_Nq u5_Nj u5_M1 u5_rt z.1 z.2.1 x5_21 z.2.2 h h0 h1 _ _ _ hP hS (lv_sub hl [1, 2, 3, 4, 0] rfl)
          · replace h := o_ff c21 h
            refine lv_aload_n hx hb d_MM_decode_74 rfl (lv_at hl 1 rfl) ?_
            refine o_get (v := .ref (ad 33)) C in_MM hP 0 mw_0 rfl 4 (by decide) k_7_234 rfl rfl d_MM_decode_75 ?_
            refine o_get (v := .ref (ad 44)) C in_MT hP 33 mw_33 rfl 10 (by decide) k_7_121 rfl rfl d_MM_decode_78 ?_
            refine lv_iload hx hb d_MM_decode_81 (lv_at hl 4 rfl) ?_
            refine lv_iconst (v := (1:Int32)) hx hb d_MM_decode_83 (by decide) ?_
            refine lv_iadd hx hb d_MM_decode_84 ?_
            obtain ⟨g22, h⟩ := o_gd_some h
            refine o_iald (f := (MT_characters u5_M0)) C hP 44 42 mw_44 rfl g22 d_MM_decode_85 ?_
            refine lv_sipush (v := (128:Int32)) hx hb d_MM_decode_86 (by decide) ?_
            refine lv_icmp_ge (tgt := 159) hx hb d_MM_decode_89 (by decide) (fun c23 => ?_) (fun c23 => ?_)
            · replace h := o_tt c23 h
              exact f_MM_decode_j159 hE hKy C hDD n u5_x2 u5_M0 u5_Ni u5_Np u5_No u5_Nx u5_Nf u5_Na u5_Nq u5_Nj u5_M1 u5_rt z.1 z.2.1 x5_21 z.2.2 h h0 h1 _ _ _ hP hS (lv_sub hl [1, 2, 3, 4, 0] rfl)
            · replace h := o_ff c23 h
              refine lv_aload_n hx hb d_MM_decode_92 rfl (lv_at hl 1 rfl) ?_
              refine o_get (v := .ref (ad 33)) C in_MM hP 0 mw_0 rfl 4 (by decide) k_7_234 rfl rfl d_MM_decode_93 ?_
              refine o_get (v := .ref (ad 44)) C in_MT hP 33 mw_33 rfl 10 (by decide) k_7_121 rfl rfl d_MM_decode_96 ?_
              refine lv_iload hx hb d_MM_decode_99 (lv_at hl 4 rfl) ?_
              refine lv_iconst (v := (2:Int32)) hx hb d_MM_decode_101 (by decide) ?_
              refine lv_iadd hx hb d_MM_decode_102 ?_
              obtain ⟨g24, h⟩ := o_gd_some h
              refine o_iald (f := (MT_characters u5_M0)) C hP 44 42 mw_44 rfl g24 d_MM_decode_103 ?_
              refine lv_sipush (v := (128:Int32)) hx hb d_MM_decode_104 (by decide) ?_
              refine lv_icmp_ge (tgt := 159) hx hb d_MM_decode_107 (by decide) (fun c25 => ?_) (fun c25 => ?_)
              · replace h := o_tt c25 h
                exact f_MM_decode_j159 hE hKy C hDD n u5_x2 u5_M0 u5_Ni u5_Np u5_No u5_Nx u5_Nf u5_Na u5_Nq u5_Nj u5_M1 u5_rt z.1 z.2.1 x5_21 z.2.2 h h0 h1 _ _ _ hP hS (lv_sub hl [1, 2, 3, 4, 0] rfl)
              · replace h := o_ff c25 h
                refine lv_aload_n hx hb d_MM_decode_110 rfl (lv_at hl 1 rfl) ?_
                refine o_get (v := .ref (ad 29)) C in_MM hP 0 mw_0 rfl 49 (by decide) k_8_39 rfl rfl d_MM_decode_111 ?_
                refine lv_iload_n hx hb d_MM_decode_114 rfl (lv_at hl 3 rfl) ?_
                obtain ⟨x3_115, ex3_115⟩ : ∃ y : Int32, y = z.1 + (1:Int32) := ⟨_, rfl⟩
                replace h := o_nm_at ex3_115 h
                refine lv_iinc (v := x3_115) (lv' := [(3, .int x3_115), (5, .int x5_21), (0, .ref (ad 0)), (2, .int u5_x2), (4, .int z.2.1)]) hx hb d_MM_decode_115 hl (k := 3) rfl (by rw [ex3_115]; rfl) (by decide) rfl (fun ls hl => ?_)
                refine lv_bipush (v := (16:Int32)) hx hb d_MM_decode_118 (by decide) ?_
                refine lv_aload_n hx hb d_MM_decode_120 rfl (lv_at hl 2 rfl) ?_
                refine o_get (v := .ref (ad 33)) C in_MM hP 0 mw_0 rfl 4 (by decide) k_7_234 rfl rfl d_MM_decode_121 ?_
                refine o_get (v := .ref (ad 44)) C in_MT hP 33 mw_33 rfl 10 (by decide) k_7_121 rfl rfl d_MM_decode_124 ?_
                refine lv_iload hx hb d_MM_decode_127 (lv_at hl 4 rfl) ?_
                refine lv_iconst (v := (1:Int32)) hx hb d_MM_decode_129 (by decide) ?_
                refine lv_iadd hx hb d_MM_decode_130 ?_
                obtain ⟨g26, h⟩ := o_gd_some h
                refine o_iald (f := (MT_characters u5_M0)) C hP 44 42 mw_44 rfl g26 d_MM_decode_131 ?_
                obtain ⟨q3, hq3, h⟩ := o_bd_some h
                refine o_S (st1 := [.int q3, .int (16:Int32), .int z.1, .ref (ad 29)]) (w1 := (m_cw ad ca ky ty u5_rt u5_Ni u5_Np u5_No u5_Nx u5_Nf u5_Na z.2.2 u5_Nq u5_Nj u5_M0 u5_M1)) hE.1 C (e_MT_hex hE hKy l ((MT_characters u5_M0) (z.2.1 + (1:Int32)).toNatClampNeg) u5_Ni u5_Np u5_No u5_Nx u5_Nf u5_Na z.2.2 u5_Nq u5_Nj u5_M0 u5_M1 u5_rt hq3) hP (hDD _ _ _ _ _ _ _ _ _ _ _ _) hS hl.1 k_9_112 k_8_233 k_1_13 k_8_234 hs_MT_hex rfl rfl ⟨(Nat.le_of_ble_eq_true rfl), (Nat.le_of_ble_eq_true rfl)⟩ rfl (Nat.le_of_ble_eq_true rfl) ⟨Nat.zero_le _, Nat.zero_le _⟩ rfl d_MM_decode_132 (fun H locs hP hS => ?_)
                refine lv_imul hx hb d_MM_decode_135 ?_
                refine lv_aload_n hx hb d_MM_decode_136 rfl (lv_at hl 2 rfl) ?_
                refine o_get (v := .ref (ad 33)) C in_MM hP 0 mw_0 rfl 4 (by decide) k_7_234 rfl rfl d_MM_decode_137 ?_
                refine o_get (v := .ref (ad 44)) C in_MT hP 33 mw_33 rfl 10 (by decide) k_7_121 rfl rfl d_MM_decode_140 ?_
                refine lv_iload hx hb d_MM_decode_143 (lv_at hl 4 rfl) ?_
                refine lv_iconst (v := (2:Int32)) hx hb d_MM_decode_145 (by decide) ?_
                refine lv_iadd hx hb d_MM_decode_146 ?_
                obtain ⟨g27, h⟩ := o_gd_some h
                refine o_iald (f := (MT_characters u5_M0)) C hP 44 42 mw_44 rfl g27 d_MM_decode_147 ?_
                obtain ⟨q4, hq4, h⟩ := o_bd_some h
                refine o_S (st1 := [.int q4, .int ((16:Int32) * q3), .int z.1, .ref (ad 29)]) (w1 := (m_cw ad ca ky ty u5_rt u5_Ni u5_Np u5_No u5_Nx u5_Nf u5_Na z.2.2 u5_Nq u5_Nj u5_M0 u5_M1)) hE.1 C (e_MT_hex hE hKy l ((MT_characters u5_M0) (z.2.1 + (2:Int32)).toNatClampNeg) u5_Ni u5_Np u5_No u5_Nx u5_Nf u5_Na z.2.2 u5_Nq u5_Nj u5_M0 u5_M1 u5_rt hq4) hP (hDD _ _ _ _ _ _ _ _ _ _ _ _) hS hl.1 k_9_112 k_8_233 k_1_13 k_8_234 hs_MT_hex rfl rfl ⟨(Nat.le_of_ble_eq_true rfl), (Nat.le_of_ble_eq_true rfl)⟩ rfl (Nat.le_of_ble_eq_true rfl) ⟨Nat.zero_le _, Nat.zero_le _⟩ rfl d_MM_decode_148 (fun H locs hP hS => ?_)
                refine lv_iadd hx hb d_MM_decode_151 ?_
                obtain ⟨g28, h⟩ := o_gd_some h
                refine o_iast (f := (NH_octetRow z.2.2)) (w1 := (m_cw ad ca ky ty u5_rt u5_Ni u5_Np u5_No u5_Nx u5_Nf u5_Na (NH_mk (NH_path z.2.2) (NH_route z.2.2) (NH_seen1 z.2.2) (NH_pathSize z.2.2) (upd (NH_octetRow z.2.2) z.1.toNatClampNeg (((16:Int32) * q3) + q4)) (NH_partRow z.2.2)) u5_Nq u5_Nj u5_M0 u5_M1)) C hP (hDD _ _ _ _ _ _ _ _ _ _ _ _) hS 29 28 mw_29 rfl g28 rfl d_MM_decode_152 (fun H locs hP hS => ?_)
                obtain ⟨x4_153, ex4_153⟩ : ∃ y : Int32, y = z.2.1 + (2:Int32) := ⟨_, rfl⟩
                replace h := o_nm_at ex4_153 h
                refine lv_iinc (v := x4_153) (lv' := [(4, .int x4_153), (3, .int x3_115), (5, .int x5_21), (0, .ref (ad 0)), (2, .int u5_x2)]) hx hb d_MM_decode_153 hl (k := 4) rfl (by rw [ex4_153]; rfl) (by decide) rfl (fun ls hl => ?_)
                refine lv_goto (tgt := 374) hx hb d_MM_decode_156 (by decide) ?_
                obtain ⟨x4_374, ex4_374⟩ : ∃ y : Int32, y = x4_153 + (1:Int32) := ⟨_, rfl⟩
                replace h := o_nm_at ex4_374 h
                refine lv_iinc (v := x4_374) (lv' := [(4, .int x4_374), (3, .int x3_115), (5, .int x5_21), (0, .ref (ad 0)), (2, .int u5_x2)]) hx hb d_MM_decode_374 hl (k := 0) rfl (by rw [ex4_374]; rfl) (by decide) rfl (fun ls hl => ?_)
                refine lv_goto (tgt := 5) hx hb d_MM_decode_377 (by decide) ?_
                cases h
                exact h0 rfl _ _ _ hP hS (lv_sub hl [3, 4, 1, 0] rfl)
set_option maxHeartbeats 4000000 in
set_option maxRecDepth 100000 in
theorem f_MM_decode_b542 {E : (Nat → Prop) → State → Heap → Prop} {p : Program} {l : Launch} {e : Env} {s : State} {m : MethodId} {args : Array Value} {below : List Frame} {meth : Method} {c : Code} {D : va_G} {ad kd sd vd xd : Nat → Nat} {ca : Nat → ClassId} {A : Nat → Prop} {ky ty : Nat → Option Nat} {Q : State → Prop} (hE : o_EK E kd sd vd xd) (hKy : m_KY ky ty sd) (C : o_Cx E p s m args meth c D m_cls (m_tys ca) "SchemaJudgeModel" b_MM_decode (some .boolean) 9 cc_MM_decode A) (hDD : ∀ (rt : Nat) (Ni : SNI) (Np : SNP) (No : SNO) (Nx : SNX) (Nf : SNF) (Na : SNA) (Nh : SNH) (Nq : SNQ) (Nj : SNJ) (M0 : SMT) (M1 : SMT), va_D A (m_cw ad ca ky ty rt Ni Np No Nx Nf Na Nh Nq Nj M0 M1)) (n : Nat) (u542_x3 : Int32) (u542_x4 : Int32) (u542_x6 : Int32) (u542_M0 : SMT) (u542_Nh : SNH) (u542_Ni : SNI) (u542_Np : SNP) (u542_No : SNO) (u542_Nx : SNX) (u542_Nf : SNF) (u542_Na : SNA) (u542_Nq : SNQ) (u542_Nj : SNJ) (u542_M1 : SMT) (u542_rt : Nat) (z : Int32 × Int32) (q : Nat × Int32 × Int32) (h : m_MM_decode_b542 n u542_x3 u542_x4 u542_x6 u542_M0 u542_Nh z = some q) (h0 : q.1 = 0 → o_At p l e rm_MM_decode s m args below meth c Q m_cls D A 9 542 [] (m_cw ad ca ky ty u542_rt u542_Ni u542_Np u542_No u542_Nx u542_Nf u542_Na u542_Nh u542_Nq u542_Nj u542_M0 u542_M1) [(0, .ref (ad 0)), (3, .int u542_x3), (4, .int u542_x4), (6, .int u542_x6), (7, .int q.2.1), (8, .int q.2.2)]) (h1 : q.1 ≠ 0 → (if q.1 = 1 then o_At p l e rm_MM_decode s m args below meth c Q m_cls D A 9 569 [] (m_cw ad ca ky ty u542_rt u542_Ni u542_Np u542_No u542_Nx u542_Nf u542_Na u542_Nh u542_Nq u542_Nj u542_M0 u542_M1) [] else o_At p l e rm_MM_decode s m args below meth c Q m_cls D A 9 598 [] (m_cw ad ca ky ty u542_rt u542_Ni u542_Np u542_No u542_Nx u542_Nf u542_Na u542_Nh u542_Nq u542_Nj u542_M0 u542_M1) [(0, .ref (ad 0)), (3, .int u542_x3), (4, .int u542_x4), (6, .int u542_x6), (7, .int q.2.1)])) : o_At p l e rm_MM_decode s m args below meth c Q m_cls D A 9 542 [] (m_cw ad ca ky ty u542_rt u542_Ni u542_Np u542_No u542_Nx u542_Nf u542_Na u542_Nh u542_Nq u542_Nj u542_M0 u542_M1) [(0, .ref (ad 0)), (3, .int u542_x3), (4, .int u542_x4), (6, .int u542_x6), (7, .int z.1), (8, .int z.2)] := by
  unfold m_MM_decode_b542 at h
  intro H locs ls hP hS hl
  have C0 := C
  obtain ⟨hx, hb, -, -, -, hown, hts, hK, -, -⟩ := C0
  refine lv_iload hx hb d_MM_decode_542 (lv_at hl 5 rfl) ?_
  refine lv_iload hx hb d_MM_decode_544 (lv_at hl 3 rfl) ?_
  refine lv_icmp_gt (tgt := 598) hx hb d_MM_decode_546 (by decide) (fun c40 => ?_) (fun c40 => ?_)
  · replace h := o_tt c40 h
    cases h
    exact h1 (Nat.succ_ne_zero 1) _ _ _ hP hS (lv_sub hl [0, 1, 2, 3, 4] rfl)
  · replace h := o_ff c40 h
    refine lv_aload_n hx hb d_MM_decode_549 rfl (lv_at hl 0 rfl) ?_
    refine o_get (v := .ref (ad 29)) C in_MM hP 0 mw_0 rfl 49 (by decide) k_8_39 rfl rfl d_MM_decode_550 ?_
    refine lv_iload hx hb d_MM_decode_553 (lv_at hl 2 rfl) ?_
    refine lv_iload hx hb d_MM_decode_555 (lv_at hl 5 rfl) ?_
    refine lv_iadd hx hb d_MM_decode_557 ?_
    obtain ⟨g41, h⟩ := o_gd_some h
    refine o_iald (f := (NH_octetRow u542_Nh)) C hP 29 28 mw_29 rfl g41 d_MM_decode_558 ?_
    refine lv_sipush (v := (192:Int32)) hx hb d_MM_decode_559 (by decide) ?_
    refine lv_iand hx hb d_MM_decode_562 ?_
    refine lv_sipush (v := (128:Int32)) hx hb d_MM_decode_563 (by decide) ?_
    refine lv_icmp_eq (tgt := 571) hx hb d_MM_decode_566 (by decide) (fun c42 => ?_) (fun c42 => ?_)
    · replace h := o_tt c42 h
      refine lv_iload hx hb d_MM_decode_571 (lv_at hl 4 rfl) ?_
      refine lv_bipush (v := (6:Int32)) hx hb d_MM_decode_573 (by decide) ?_
      refine lv_ishl hx hb d_MM_decode_575 ?_
      refine lv_aload_n hx hb d_MM_decode_576 rfl (lv_at hl 0 rfl) ?_
      refine o_get (v := .ref (ad 29)) C in_MM hP 0 mw_0 rfl 49 (by decide) k_8_39 rfl rfl d_MM_decode_577 ?_
      refine lv_iload hx hb d_MM_decode_580 (lv_at hl 2 rfl) ?_
      refine lv_iload hx hb d_MM_decode_582 (lv_at hl 5 rfl) ?_
      refine lv_iadd hx hb d_MM_decode_584 ?_
      obtain ⟨g43, h⟩ := o_gd_some h
      refine o_iald (f := (NH_octetRow u542_Nh)) C hP 29 28 mw_29 rfl g43 d_MM_decode_585 ?_
      refine lv_bipush (v := (63:Int32)) hx hb d_MM_decode_586 (by decide) ?_
      refine lv_iand hx hb d_MM_decode_588 ?_
      refine lv_ior hx hb d_MM_decode_589 ?_
      refine lv_topi (fun x7_590 ex7_590 => ?_)
      replace h := o_nm_at ex7_590 h
      refine lv_istore (lv' := [(7, .int x7_590), (0, .ref (ad 0)), (3, .int u542_x3), (4, .int u542_x4), (6, .int u542_x6), (8, .int z.2)]) hx hb d_MM_decode_590 hl (by decide) rfl (fun ls hl => ?_)
      obtain ⟨x8_592, ex8_592⟩ : ∃ y : Int32, y = z.2 + (1:Int32) := ⟨_, rfl⟩
      replace h := o_nm_at ex8_592 h
      refine lv_iinc (v := x8_592) (lv' := [(8, .int x8_592), (7, .int x7_590), (0, .ref (ad 0)), (3, .int u542_x3), (4, .int u542_x4), (6, .int u542_x6)]) hx hb d_MM_decode_592 hl (k := 5) rfl (by rw [ex8_592]; rfl) (by decide) rfl (fun ls hl => ?_)
      refine lv_goto (tgt := 542) hx hb d_MM_decode_595 (by decide) ?_
      cases h
      exact h0 rfl _ _ _ hP hS (lv_sub hl [2, 3, 4, 5, 1, 0] rfl)
    · replace h := o_ff c42 h
      cases h
      exact h1 (Nat.succ_ne_zero 0) _ _ _ hP hS (lv_sub hl [] rfl)
set_option maxHeartbeats 4000000 in
set_option maxRecDepth 100000 in
theorem f_MM_decode_j648 {E : (Nat → Prop) → State → Heap → Prop} {p : Program} {l : Launch} {e : Env} {s : State} {m : MethodId} {args : Array Value} {below : List Frame} {meth : Method} {c : Code} {D : va_G} {ad kd sd vd xd : Nat → Nat} {ca : Nat → ClassId} {A : Nat → Prop} {ky ty : Nat → Option Nat} {Q : State → Prop} (hE : o_EK E kd sd vd xd) (hKy : m_KY ky ty sd) (C : o_Cx E p s m args meth c D m_cls (m_tys ca) "SchemaJudgeModel" b_MM_decode (some .boolean) 9 cc_MM_decode A) (hDD : ∀ (rt : Nat) (Ni : SNI) (Np : SNP) (No : SNO) (Nx : SNX) (Nf : SNF) (Na : SNA) (Nh : SNH) (Nq : SNQ) (Nj : SNJ) (M0 : SMT) (M1 : SMT), va_D A (m_cw ad ca ky ty rt Ni Np No Nx Nf Na Nh Nq Nj M0 M1)) (n : Nat) (u388_x3 : Int32) (u388_M0 : SMT) (u388_Ni : SNI) (u388_Np : SNP) (u388_No : SNO) (u388_Nx : SNX) (u388_Nf : SNF) (u388_Na : SNA) (u388_Nq : SNQ) (u388_Nj : SNJ) (u388_M1 : SMT) (u388_rt : Nat) (x4 : Int32) (x6 : Int32) (x7 : Int32) (Nh : SNH) {q : Nat × Int32 × SNH} (h : m_MM_decode_j648 n u388_x3 x4 x6 x7 u388_M0 Nh = some q) (h0 : q.1 = 0 → o_At p l e rm_MM_decode s m args below meth c Q m_cls D A 9 388 [] (m_cw ad ca ky ty u388_rt u388_Ni u388_Np u388_No u388_Nx u388_Nf u388_Na q.2.2 u388_Nq u388_Nj u388_M0 u388_M1) [(0, .ref (ad 0)), (3, .int u388_x3), (4, .int q.2.1)]) (h1 : q.1 ≠ 0 → (if q.1 = 1 then o_At p l e rm_MM_decode s m args below meth c Q m_cls D A 9 492 [] (m_cw ad ca ky ty u388_rt u388_Ni u388_Np u388_No u388_Nx u388_Nf u388_Na q.2.2 u388_Nq u388_Nj u388_M0 u388_M1) [] else if q.1 = 2 then o_At p l e rm_MM_decode s m args below meth c Q m_cls D A 9 569 [] (m_cw ad ca ky ty u388_rt u388_Ni u388_Np u388_No u388_Nx u388_Nf u388_Na q.2.2 u388_Nq u388_Nj u388_M0 u388_M1) [] else if q.1 = 3 then o_At p l e rm_MM_decode s m args below meth c Q m_cls D A 9 646 [] (m_cw ad ca ky ty u388_rt u388_Ni u388_Np u388_No u388_Nx u388_Nf u388_Na q.2.2 u388_Nq u388_Nj u388_M0 u388_M1) [] else o_At p l e rm_MM_decode s m args below meth c Q m_cls D A 9 679 [] (m_cw ad ca ky ty u388_rt u388_Ni u388_Np u388_No u388_Nx u388_Nf u388_Na q.2.2 u388_Nq u388_Nj u388_M0 u388_M1) [])) : o_At p l e rm_MM_decode s m args below meth c Q m_cls D A 9 648 [] (m_cw ad ca ky ty u388_rt u388_Ni u388_Np u388_No u388_Nx u388_Nf u388_Na Nh u388_Nq u388_Nj u388_M0 u388_M1) [(0, .ref (ad 0)), (3, .int u388_x3), (4, .int x4), (6, .int x6), (7, .int x7)] := by
  unfold m_MM_decode_j648 at h
  intro H locs ls hP hS hl
  have C0 := C
  obtain ⟨hx, hb, -, -, -, hown, hts, hK, -, -⟩ := C0
  refine lv_aload_n hx hb d_MM_decode_648 rfl (lv_at hl 0 rfl) ?_
  refine o_get (v := .ref (ad 25)) C in_MM hP 0 mw_0 rfl 44 (by decide) k_8_34 rfl rfl d_MM_decode_649 ?_
  refine lv_aload_n hx hb d_MM_decode_652 rfl (lv_at hl 0 rfl) ?_
  refine lv_dup hx hb d_MM_decode_653 rfl ?_
  refine o_get (v := .int (NH_pathSize Nh)) C in_MM hP 0 mw_0 rfl 48 (by decide) k_8_38 rfl rfl d_MM_decode_654 ?_
  refine lv_dup_x1 hx hb d_MM_decode_657 rfl rfl ?_
  refine lv_iconst (v := (1:Int32)) hx hb d_MM_decode_658 (by decide) ?_
  refine lv_iadd hx hb d_MM_decode_659 ?_
  refine o_put (v := .int ((NH_pathSize Nh) + (1:Int32))) (ty := .int) (w1 := (m_cw ad ca ky ty u388_rt u388_Ni u388_Np u388_No u388_Nx u388_Nf u388_Na (NH_mk (NH_path Nh) (NH_route Nh) (NH_seen1 Nh) ((NH_pathSize Nh) + (1:Int32)) (NH_octetRow Nh) (NH_partRow Nh)) u388_Nq u388_Nj u388_M0 u388_M1)) C in_MM t_MM t_MM_ok n_MM hP (hDD _ _ _ _ _ _ _ _ _ _ _ _) hS 0 mw_0 rfl 48 (by decide) k_8_38 rfl rfl (by decide +kernel) rfl rfl (Nat.le_of_ble_eq_true rfl) rfl d_MM_decode_660 (fun H locs hP hS => ?_)
  refine lv_iload hx hb d_MM_decode_663 (lv_at hl 4 rfl) ?_
  obtain ⟨g46, h⟩ := o_gd_some h
  refine o_iast (f := (NH_path Nh)) (w1 := (m_cw ad ca ky ty u388_rt u388_Ni u388_Np u388_No u388_Nx u388_Nf u388_Na (NH_mk (upd (NH_path Nh) (NH_pathSize Nh).toNatClampNeg x7) (NH_route Nh) (NH_seen1 Nh) ((NH_pathSize Nh) + (1:Int32)) (NH_octetRow Nh) (NH_partRow Nh)) u388_Nq u388_Nj u388_M0 u388_M1)) C hP (hDD _ _ _ _ _ _ _ _ _ _ _ _) hS 25 24 mw_25 rfl g46 rfl d_MM_decode_665 (fun H locs hP hS => ?_)
  refine lv_iload hx hb d_MM_decode_666 (lv_at hl 2 rfl) ?_
  refine lv_iload hx hb d_MM_decode_668 (lv_at hl 3 rfl) ?_
  refine lv_iadd hx hb d_MM_decode_670 ?_
  refine lv_topi (fun x4_671 ex4_671 => ?_)
  replace h := o_nm_at ex4_671 h
  refine lv_istore (lv' := [(4, .int x4_671), (0, .ref (ad 0)), (3, .int u388_x3), (6, .int x6), (7, .int x7)]) hx hb d_MM_decode_671 hl (by decide) rfl (fun ls hl => ?_)
  obtain ⟨x4_673, ex4_673⟩ : ∃ y : Int32, y = x4_671 + (1:Int32) := ⟨_, rfl⟩
  replace h := o_nm_at ex4_673 h
  refine lv_iinc (v := x4_673) (lv' := [(4, .int x4_673), (0, .ref (ad 0)), (3, .int u388_x3), (6, .int x6), (7, .int x7)]) hx hb d_MM_decode_673 hl (k := 0) rfl (by rw [ex4_673]; rfl) (by decide) rfl (fun ls hl => ?_)
  refine lv_goto (tgt := 388) hx hb d_MM_decode_676 (by decide) ?_
  cases h
  exact h0 rfl _ _ _ hP hS (lv_sub hl [1, 2, 0] rfl)
set_option maxHeartbeats 4000000 in
set_option maxRecDepth 100000 in
theorem f_MM_decode_j626 {E : (Nat → Prop) → State → Heap → Prop} {p : Program} {l : Launch} {e : Env} {s : State} {m : MethodId} {args : Array Value} {below : List Frame} {meth : Method} {c : Code} {D : va_G} {ad kd sd vd xd : Nat → Nat} {ca : Nat → ClassId} {A : Nat → Prop} {ky ty : Nat → Option Nat} {Q : State → Prop} (hE : o_EK E kd sd vd xd) (hKy : m_KY ky ty sd) (C : o_Cx E p s m args meth c D m_cls (m_tys ca) "SchemaJudgeModel" b_MM_decode (some .boolean) 9 cc_MM_decode A) (hDD : ∀ (rt : Nat) (Ni : SNI) (Np : SNP) (No : SNO) (Nx : SNX) (Nf : SNF) (Na : SNA) (Nh : SNH) (Nq : SNQ) (Nj : SNJ) (M0 : SMT) (M1 : SMT), va_D A (m_cw ad ca ky ty rt Ni Np No Nx Nf Na Nh Nq Nj M0 M1)) (n : Nat) (u388_x3 : Int32) (u388_M0 : SMT) (u388_Ni : SNI) (u388_Np : SNP) (u388_No : SNO) (u388_Nx : SNX) (u388_Nf : SNF) (u388_Na : SNA) (u388_Nq : SNQ) (u388_Nj : SNJ) (u388_M1 : SMT) (u388_rt : Nat) (x4 : Int32) (x6 : Int32) (x7 : Int32) (Nh : SNH) {q : Nat × Int32 × SNH} (h : m_MM_decode_j626 n u388_x3 x4 x6 x7 u388_M0 Nh = some q) (h0 : q.1 = 0 → o_At p l e rm_MM_decode s m args below meth c Q m_cls D A 9 388 [] (m_cw ad ca ky ty u388_rt u388_Ni u388_Np u388_No u388_Nx u388_Nf u388_Na q.2.2 u388_Nq u388_Nj u388_M0 u388_M1) [(0, .ref (ad 0)), (3, .int u388_x3), (4, .int q.2.1)]) (h1 : q.1 ≠ 0 → (if q.1 = 1 then o_At p l e rm_MM_decode s m args below meth c Q m_cls D A 9 492 [] (m_cw ad ca ky ty u388_rt u388_Ni u388_Np u388_No u388_Nx u388_Nf u388_Na q.2.2 u388_Nq u388_Nj u388_M0 u388_M1) [] else if q.1 = 2 then o_At p l e rm_MM_decode s m args below meth c Q m_cls D A 9 569 [] (m_cw ad ca ky ty u388_rt u388_Ni u388_Np u388_No u388_Nx u388_Nf u388_Na q.2.2 u388_Nq u388_Nj u388_M0 u388_M1) [] else if q.1 = 3 then o_At p l e rm_MM_decode s m args below meth c Q m_cls D A 9 646 [] (m_cw ad ca ky ty u388_rt u388_Ni u388_Np u388_No u388_Nx u388_Nf u388_Na q.2.2 u388_Nq u388_Nj u388_M0 u388_M1) [] else o_At p l e rm_MM_decode s m args below meth c Q m_cls D A 9 679 [] (m_cw ad ca ky ty u388_rt u388_Ni u388_Np u388_No u388_Nx u388_Nf u388_Na q.2.2 u388_Nq u388_Nj u388_M0 u388_M1) [])) : o_At p l e rm_MM_decode s m args below meth c Q m_cls D A 9 626 [] (m_cw ad ca ky ty u388_rt u388_Ni u388_Np u388_No u388_Nx u388_Nf u388_Na Nh u388_Nq u388_Nj u388_M0 u388_M1) [(0, .ref (ad 0)), (3, .int u388_x3), (4, .int x4), (6, .int x6), (7, .int x7)] := by
  unfold m_MM_decode_j626 at h
  intro H locs ls hP hS hl
  have C0 := C
  obtain ⟨hx, hb, -, -, -, hown, hts, hK, -, -⟩ := C0
  refine lv_iload hx hb d_MM_decode_626 (lv_at hl 3 rfl) ?_
  refine lv_iconst (v := (3:Int32)) hx hb d_MM_decode_628 (by decide) ?_
  refine lv_icmp_ne (tgt := 648) hx hb d_MM_decode_629 (by decide) (fun c45 => ?_) (fun c45 => ?_)
  · replace h := o_ff c45 h
    exact f_MM_decode_j648 hE hKy C hDD n u388_x3 u388_M0 u388_Ni u388_Np u388_No u388_Nx u388_Nf u388_Na u388_Nq u388_Nj u388_M1 u388_rt x4 x6 x7 Nh h h0 h1 _ _ _ hP hS (lv_sub hl [0, 1, 2, 3, 4] rfl)
  · replace h := o_tt c45 h
    refine lv_iload hx hb d_MM_decode_632 (lv_at hl 4 rfl) ?_
    refine lv_ldcw (v := (65536:Int32)) hx hb hown (hts _ k_9_187) d_MM_decode_634 ?_
    refine lv_ldcw (v := (1114111:Int32)) hx hb hown (hts _ k_9_107) d_MM_decode_637 ?_
    obtain ⟨q7, hq7, h⟩ := o_bd_some h
    refine o_S (st1 := [.int q7]) (w1 := (m_cw ad ca ky ty u388_rt u388_Ni u388_Np u388_No u388_Nx u388_Nf u388_Na Nh u388_Nq u388_Nj u388_M0 u388_M1)) hE.1 C (e_MM_in hE hKy l x7 (65536:Int32) (1114111:Int32) u388_Ni u388_Np u388_No u388_Nx u388_Nf u388_Na Nh u388_Nq u388_Nj u388_M0 u388_M1 u388_rt hq7) hP (hDD _ _ _ _ _ _ _ _ _ _ _ _) hS hl.1 k_9_41 k_8_201 k_1_12 k_8_202 hs_MM_in rfl rfl ⟨(Nat.le_of_ble_eq_true rfl), (Nat.le_of_ble_eq_true rfl)⟩ rfl (Nat.le_of_ble_eq_true rfl) ⟨Nat.zero_le _, Nat.zero_le _⟩ rfl d_MM_decode_640 (fun H locs hP hS => ?_)
    refine lv_if_ne (tgt := 648) hx hb d_MM_decode_643 (by decide) (fun c47 => ?_) (fun c47 => ?_)
    · replace h := o_ff c47 h
      exact f_MM_decode_j648 hE hKy C hDD n u388_x3 u388_M0 u388_Ni u388_Np u388_No u388_Nx u388_Nf u388_Na u388_Nq u388_Nj u388_M1 u388_rt x4 x6 x7 Nh h h0 h1 _ _ _ hP hS (lv_sub hl [0, 1, 2, 3, 4] rfl)
    · replace h := o_tt c47 h
      cases h
      exact h1 (Nat.succ_ne_zero 2) _ _ _ hP hS (lv_sub hl [] rfl)
set_option maxHeartbeats 4000000 in
set_option maxRecDepth 100000 in
theorem f_MM_decode_j476 {E : (Nat → Prop) → State → Heap → Prop} {p : Program} {l : Launch} {e : Env} {s : State} {m : MethodId} {args : Array Value} {below : List Frame} {meth : Method} {c : Code} {D : va_G} {ad kd sd vd xd : Nat → Nat} {ca : Nat → ClassId} {A : Nat → Prop} {ky ty : Nat → Option Nat} {Q : State → Prop} (hE : o_EK E kd sd vd xd) (hKy : m_KY ky ty sd) (C : o_Cx E p s m args meth c D m_cls (m_tys ca) "SchemaJudgeModel" b_MM_decode (some .boolean) 9 cc_MM_decode A) (hDD : ∀ (rt : Nat) (Ni : SNI) (Np : SNP) (No : SNO) (Nx : SNX) (Nf : SNF) (Na : SNA) (Nh : SNH) (Nq : SNQ) (Nj : SNJ) (M0 : SMT) (M1 : SMT), va_D A (m_cw ad ca ky ty rt Ni Np No Nx Nf Na Nh Nq Nj M0 M1)) (n : Nat) (u388_x3 : Int32) (u388_M0 : SMT) (u388_Ni : SNI) (u388_Np : SNP) (u388_No : SNO) (u388_Nx : SNX) (u388_Nf : SNF) (u388_Na : SNA) (u388_Nq : SNQ) (u388_Nj : SNJ) (u388_M1 : SMT) (u388_rt : Nat) (x4 : Int32) (x5 : Int32) (y0 : Int32) (Nh : SNH) {q : Nat × Int32 × SNH} (h : m_MM_decode_j476 n u388_x3 x4 x5 y0 u388_M0 Nh = some q) (h0 : q.1 = 0 → o_At p l e rm_MM_decode s m args below meth c Q m_cls D A 9 388 [] (m_cw ad ca ky ty u388_rt u388_Ni u388_Np u388_No u388_Nx u388_Nf u388_Na q.2.2 u388_Nq u388_Nj u388_M0 u388_M1) [(0, .ref (ad 0)), (3, .int u388_x3), (4, .int q.2.1)]) (h1 : q.1 ≠ 0 → (if q.1 = 1 then o_At p l e rm_MM_decode s m args below meth c Q m_cls D A 9 492 [] (m_cw ad ca ky ty u388_rt u388_Ni u388_Np u388_No u388_Nx u388_Nf u388_Na q.2.2 u388_Nq u388_Nj u388_M0 u388_M1) [] else if q.1 = 2 then o_At p l e rm_MM_decode s m args below meth c Q m_cls D A 9 569 [] (m_cw ad ca ky ty u388_rt u388_Ni u388_Np u388_No u388_Nx u388_Nf u388_Na q.2.2 u388_Nq u388_Nj u388_M0 u388_M1) [] else if q.1 = 3 then o_At p l e rm_MM_decode s m args below meth c Q m_cls D A 9 646 [] (m_cw ad ca ky ty u388_rt u388_Ni u388_Np u388_No u388_Nx u388_Nf u388_Na q.2.2 u388_Nq u388_Nj u388_M0 u388_M1) [] else o_At p l e rm_MM_decode s m args below meth c Q m_cls D A 9 679 [] (m_cw ad ca ky ty u388_rt u388_Ni u388_Np u388_No u388_Nx u388_Nf u388_Na q.2.2 u388_Nq u388_Nj u388_M0 u388_M1) [])) : o_At p l e rm_MM_decode s m args below meth c Q m_cls D A 9 476 [.int y0] (m_cw ad ca ky ty u388_rt u388_Ni u388_Np u388_No u388_Nx u388_Nf u388_Na Nh u388_Nq u388_Nj u388_M0 u388_M1) [(0, .ref (ad 0)), (3, .int u388_x3), (4, .int x4), (5, .int x5)] := by
  unfold m_MM_decode_j476 at h
  intro H locs ls hP hS hl
  have C0 := C
  obtain ⟨hx, hb, -, -, -, hown, hts, hK, -, -⟩ := C0
  refine lv_istore (lv' := [(6, .int y0), (0, .ref (ad 0)), (3, .int u388_x3), (4, .int x4), (5, .int x5)]) hx hb d_MM_decode_476 hl (by decide) rfl (fun ls hl => ?_)
  refine lv_iload hx hb d_MM_decode_478 (lv_at hl 0 rfl) ?_
  refine lv_if_lt (tgt := 492) hx hb d_MM_decode_480 (by decide) (fun c35 => ?_) (fun c35 => ?_)
  · replace h := o_tt c35 h
    cases h
    exact h1 (Nat.succ_ne_zero 0) _ _ _ hP hS (lv_sub hl [] rfl)
  · replace h := o_ff c35 h
    refine lv_iload hx hb d_MM_decode_483 (lv_at hl 3 rfl) ?_
    refine lv_iload hx hb d_MM_decode_485 (lv_at hl 0 rfl) ?_
    refine lv_iadd hx hb d_MM_decode_487 ?_
    refine lv_iload_n hx hb d_MM_decode_488 rfl (lv_at hl 2 rfl) ?_
    refine lv_icmp_lt (tgt := 494) hx hb d_MM_decode_489 (by decide) (fun c36 => ?_) (fun c36 => ?_)
    · replace h := o_tt c36 h
      refine lv_iload hx hb d_MM_decode_494 (lv_at hl 0 rfl) ?_
      refine lv_if_ne (tgt := 504) hx hb d_MM_decode_496 (by decide) (fun c37 => ?_) (fun c37 => ?_)
      · replace h := o_ff c37 h
        refine lv_iload hx hb d_MM_decode_504 (lv_at hl 0 rfl) ?_
        refine lv_iconst (v := (1:Int32)) hx hb d_MM_decode_506 (by decide) ?_
        refine lv_icmp_ne (tgt := 518) hx hb d_MM_decode_507 (by decide) (fun c38 => ?_) (fun c38 => ?_)
        · replace h := o_ff c38 h
          refine lv_iload hx hb d_MM_decode_518 (lv_at hl 0 rfl) ?_
          refine lv_iconst (v := (2:Int32)) hx hb d_MM_decode_520 (by decide) ?_
          refine lv_icmp_ne (tgt := 532) hx hb d_MM_decode_521 (by decide) (fun c39 => ?_) (fun c39 => ?_)
          · replace h := o_ff c39 h
            refine lv_iload hx hb d_MM_decode_532 (lv_at hl 4 rfl) ?_
            refine lv_bipush (v := (7:Int32)) hx hb d_MM_decode_534 (by decide) ?_
            refine lv_iand hx hb d_MM_decode_536 ?_
            refine lv_topi (fun x7_537 ex7_537 => ?_)
            replace h := o_nm_at ex7_537 h
            refine lv_istore (lv' := [(7, .int x7_537), (6, .int y0), (0, .ref (ad 0)), (3, .int u388_x3), (4, .int x4), (5, .int x5)]) hx hb d_MM_decode_537 hl (by decide) rfl (fun ls hl => ?_)
            refine lv_iconst (v := (1:Int32)) hx hb d_MM_decode_539 (by decide) ?_
            refine lv_istore (lv' := [(8, .int (1:Int32)), (7, .int x7_537), (6, .int y0), (0, .ref (ad 0)), (3, .int u388_x3), (4, .int x4), (5, .int x5)]) hx hb d_MM_decode_540 hl (by decide) rfl (fun ls hl => ?_)
            obtain ⟨q6, hq6, h⟩ := o_bd_some h
            refine o_sim2 (AH := fun zz => o_At p l e rm_MM_decode s m args below meth c _ m_cls D A 9 542 [] (m_cw ad ca ky ty u388_rt u388_Ni u388_Np u388_No u388_Nx u388_Nf u388_Na Nh u388_Nq u388_Nj u388_M0 u388_M1) [(0, .ref (ad 0)), (3, .int u388_x3), (4, .int x4), (6, .int y0), (7, .int zz.1), (8, .int zz.2)]) (AX := fun qq => if qq.1 = 1 then o_At p l e rm_MM_decode s m args below meth c _ m_cls D A 9 569 [] (m_cw ad ca ky ty u388_rt u388_Ni u388_Np u388_No u388_Nx u388_Nf u388_Na Nh u388_Nq u388_Nj u388_M0 u388_M1) [] else o_At p l e rm_MM_decode s m args below meth c _ m_cls D A 9 598 [] (m_cw ad ca ky ty u388_rt u388_Ni u388_Np u388_No u388_Nx u388_Nf u388_Na Nh u388_Nq u388_Nj u388_M0 u388_M1) [(0, .ref (ad 0)), (3, .int u388_x3), (4, .int x4), (6, .int y0), (7, .int qq.2.1)]) (fun zz qq h h0 h1 => f_MM_decode_b542 hE hKy C hDD n u388_x3 x4 y0 u388_M0 Nh u388_Ni u388_Np u388_No u388_Nx u388_Nf u388_Na u388_Nq u388_Nj u388_M1 u388_rt zz qq h h0 h1) n _ q6 hq6 ?_ _ _ _ hP hS (lv_sub hl [3, 4, 5, 2, 1, 0] rfl)
            by_cases c50 : q6.1 = 1
            · replace h := o_tt c50 h
              refine o_ip c50 ?_
              intro H locs ls hP hS hl
              cases h
              exact h1 (Nat.succ_ne_zero 1) _ _ _ hP hS (lv_sub hl [] rfl)
            replace h := o_ff c50 h
            refine o_in_ c50 ?_
            intro H locs ls hP hS hl
            refine lv_iload hx hb d_MM_decode_598 (lv_at hl 3 rfl) ?_
            refine lv_iconst (v := (2:Int32)) hx hb d_MM_decode_600 (by decide) ?_
            refine lv_icmp_ne (tgt := 626) hx hb d_MM_decode_601 (by decide) (fun c44 => ?_) (fun c44 => ?_)
            · replace h := o_ff c44 h
              exact f_MM_decode_j626 hE hKy C hDD n u388_x3 u388_M0 u388_Ni u388_Np u388_No u388_Nx u388_Nf u388_Na u388_Nq u388_Nj u388_M1 u388_rt x4 y0 q6.2.1 Nh h h0 h1 _ _ _ hP hS (lv_sub hl [0, 1, 2, 3, 4] rfl)
            · replace h := o_tt c44 h
              refine lv_iload hx hb d_MM_decode_604 (lv_at hl 4 rfl) ?_
              refine lv_sipush (v := (2048:Int32)) hx hb d_MM_decode_606 (by decide) ?_
              refine lv_icmp_lt (tgt := 646) hx hb d_MM_decode_609 (by decide) (fun c48 => ?_) (fun c48 => ?_)
              · replace h := o_tt c48 h
                cases h
                exact h1 (Nat.succ_ne_zero 2) _ _ _ hP hS (lv_sub hl [] rfl)
              · replace h := o_ff c48 h
                refine lv_iload hx hb d_MM_decode_612 (lv_at hl 4 rfl) ?_
                refine lv_ldcw (v := (55296:Int32)) hx hb hown (hts _ k_9_188) d_MM_decode_614 ?_
                refine lv_ldcw (v := (57343:Int32)) hx hb hown (hts _ k_9_189) d_MM_decode_617 ?_
                obtain ⟨q8, hq8, h⟩ := o_bd_some h
                refine o_S (st1 := [.int q8]) (w1 := (m_cw ad ca ky ty u388_rt u388_Ni u388_Np u388_No u388_Nx u388_Nf u388_Na Nh u388_Nq u388_Nj u388_M0 u388_M1)) hE.1 C (e_MM_in hE hKy l q6.2.1 (55296:Int32) (57343:Int32) u388_Ni u388_Np u388_No u388_Nx u388_Nf u388_Na Nh u388_Nq u388_Nj u388_M0 u388_M1 u388_rt hq8) hP (hDD _ _ _ _ _ _ _ _ _ _ _ _) hS hl.1 k_9_41 k_8_201 k_1_12 k_8_202 hs_MM_in rfl rfl ⟨(Nat.le_of_ble_eq_true rfl), (Nat.le_of_ble_eq_true rfl)⟩ rfl (Nat.le_of_ble_eq_true rfl) ⟨Nat.zero_le _, Nat.zero_le _⟩ rfl d_MM_decode_620 (fun H locs hP hS => ?_)
                refine lv_if_ne (tgt := 646) hx hb d_MM_decode_623 (by decide) (fun c49 => ?_) (fun c49 => ?_)
                · replace h := o_ff c49 h
                  cases h
                  exact h1 (Nat.succ_ne_zero 2) _ _ _ hP hS (lv_sub hl [] rfl)
                · replace h := o_tt c49 h
                  exact f_MM_decode_j626 hE hKy C hDD n u388_x3 u388_M0 u388_Ni u388_Np u388_No u388_Nx u388_Nf u388_Na u388_Nq u388_Nj u388_M1 u388_rt x4 y0 q6.2.1 Nh h h0 h1 _ _ _ hP hS (lv_sub hl [0, 1, 2, 3, 4] rfl)
          · replace h := o_tt c39 h
            refine lv_iload hx hb d_MM_decode_524 (lv_at hl 4 rfl) ?_
            refine lv_bipush (v := (15:Int32)) hx hb d_MM_decode_526 (by decide) ?_
            refine lv_iand hx hb d_MM_decode_528 ?_
            refine lv_goto (tgt := 537) hx hb d_MM_decode_529 (by decide) ?_
            refine lv_topi (fun x7_537 ex7_537 => ?_)
            replace h := o_nm_at ex7_537 h
            refine lv_istore (lv' := [(7, .int x7_537), (6, .int y0), (0, .ref (ad 0)), (3, .int u388_x3), (4, .int x4), (5, .int x5)]) hx hb d_MM_decode_537 hl (by decide) rfl (fun ls hl => ?_)
            refine lv_iconst (v := (1:Int32)) hx hb d_MM_decode_539 (by decide) ?_
            refine lv_istore (lv' := [(8, .int (1:Int32)), (7, .int x7_537), (6, .int y0), (0, .ref (ad 0)), (3, .int u388_x3), (4, .int x4), (5, .int x5)]) hx hb d_MM_decode_540 hl (by decide) rfl (fun ls hl => ?_)
            obtain ⟨q9, hq9, h⟩ := o_bd_some h
            refine o_sim2 (AH := fun zz => o_At p l e rm_MM_decode s m args below meth c _ m_cls D A 9 542 [] (m_cw ad ca ky ty u388_rt u388_Ni u388_Np u388_No u388_Nx u388_Nf u388_Na Nh u388_Nq u388_Nj u388_M0 u388_M1) [(0, .ref (ad 0)), (3, .int u388_x3), (4, .int x4), (6, .int y0), (7, .int zz.1), (8, .int zz.2)]) (AX := fun qq => if qq.1 = 1 then o_At p l e rm_MM_decode s m args below meth c _ m_cls D A 9 569 [] (m_cw ad ca ky ty u388_rt u388_Ni u388_Np u388_No u388_Nx u388_Nf u388_Na Nh u388_Nq u388_Nj u388_M0 u388_M1) [] else o_At p l e rm_MM_decode s m args below meth c _ m_cls D A 9 598 [] (m_cw ad ca ky ty u388_rt u388_Ni u388_Np u388_No u388_Nx u388_Nf u388_Na Nh u388_Nq u388_Nj u388_M0 u388_M1) [(0, .ref (ad 0)), (3, .int u388_x3), (4, .int x4), (6, .int y0), (7, .int qq.2.1)]) (fun zz qq h h0 h1 => f_MM_decode_b542 hE hKy C hDD n u388_x3 x4 y0 u388_M0 Nh u388_Ni u388_Np u388_No u388_Nx u388_Nf u388_Na u388_Nq u388_Nj u388_M1 u388_rt zz qq h h0 h1) n _ q9 hq9 ?_ _ _ _ hP hS (lv_sub hl [3, 4, 5, 2, 1, 0] rfl)
            by_cases c54 : q9.1 = 1
            · replace h := o_tt c54 h
              refine o_ip c54 ?_
              intro H locs ls hP hS hl
              cases h
              exact h1 (Nat.succ_ne_zero 1) _ _ _ hP hS (lv_sub hl [] rfl)
            replace h := o_ff c54 h
            refine o_in_ c54 ?_
            intro H locs ls hP hS hl
            refine lv_iload hx hb d_MM_decode_598 (lv_at hl 3 rfl) ?_
            refine lv_iconst (v := (2:Int32)) hx hb d_MM_decode_600 (by decide) ?_
            refine lv_icmp_ne (tgt := 626) hx hb d_MM_decode_601 (by decide) (fun c51 => ?_) (fun c51 => ?_)
            · replace h := o_ff c51 h
              exact f_MM_decode_j626 hE hKy C hDD n u388_x3 u388_M0 u388_Ni u388_Np u388_No u388_Nx u388_Nf u388_Na u388_Nq u388_Nj u388_M1 u388_rt x4 y0 q9.2.1 Nh h h0 h1 _ _ _ hP hS (lv_sub hl [0, 1, 2, 3, 4] rfl)
            · replace h := o_tt c51 h
              refine lv_iload hx hb d_MM_decode_604 (lv_at hl 4 rfl) ?_
              refine lv_sipush (v := (2048:Int32)) hx hb d_MM_decode_606 (by decide) ?_
              refine lv_icmp_lt (tgt := 646) hx hb d_MM_decode_609 (by decide) (fun c52 => ?_) (fun c52 => ?_)
              · replace h := o_tt c52 h
                cases h
                exact h1 (Nat.succ_ne_zero 2) _ _ _ hP hS (lv_sub hl [] rfl)
              · replace h := o_ff c52 h
                refine lv_iload hx hb d_MM_decode_612 (lv_at hl 4 rfl) ?_
                refine lv_ldcw (v := (55296:Int32)) hx hb hown (hts _ k_9_188) d_MM_decode_614 ?_
                refine lv_ldcw (v := (57343:Int32)) hx hb hown (hts _ k_9_189) d_MM_decode_617 ?_
                obtain ⟨q10, hq10, h⟩ := o_bd_some h
                refine o_S (st1 := [.int q10]) (w1 := (m_cw ad ca ky ty u388_rt u388_Ni u388_Np u388_No u388_Nx u388_Nf u388_Na Nh u388_Nq u388_Nj u388_M0 u388_M1)) hE.1 C (e_MM_in hE hKy l q9.2.1 (55296:Int32) (57343:Int32) u388_Ni u388_Np u388_No u388_Nx u388_Nf u388_Na Nh u388_Nq u388_Nj u388_M0 u388_M1 u388_rt hq10) hP (hDD _ _ _ _ _ _ _ _ _ _ _ _) hS hl.1 k_9_41 k_8_201 k_1_12 k_8_202 hs_MM_in rfl rfl ⟨(Nat.le_of_ble_eq_true rfl), (Nat.le_of_ble_eq_true rfl)⟩ rfl (Nat.le_of_ble_eq_true rfl) ⟨Nat.zero_le _, Nat.zero_le _⟩ rfl d_MM_decode_620 (fun H locs hP hS => ?_)
                refine lv_if_ne (tgt := 646) hx hb d_MM_decode_623 (by decide) (fun c53 => ?_) (fun c53 => ?_)
                · replace h := o_ff c53 h
                  cases h
                  exact h1 (Nat.succ_ne_zero 2) _ _ _ hP hS (lv_sub hl [] rfl)
                · replace h := o_tt c53 h
                  exact f_MM_decode_j626 hE hKy C hDD n u388_x3 u388_M0 u388_Ni u388_Np u388_No u388_Nx u388_Nf u388_Na u388_Nq u388_Nj u388_M1 u388_rt x4 y0 q9.2.1 Nh h h0 h1 _ _ _ hP hS (lv_sub hl [0, 1, 2, 3, 4] rfl)
        · replace h := o_tt c38 h
          refine lv_iload hx hb d_MM_decode_510 (lv_at hl 4 rfl) ?_
          refine lv_bipush (v := (31:Int32)) hx hb d_MM_decode_512 (by decide) ?_
          refine lv_iand hx hb d_MM_decode_514 ?_
          refine lv_goto (tgt := 537) hx hb d_MM_decode_515 (by decide) ?_
          refine lv_topi (fun x7_537 ex7_537 => ?_)
          replace h := o_nm_at ex7_537 h
          refine lv_istore (lv' := [(7, .int x7_537), (6, .int y0), (0, .ref (ad 0)), (3, .int u388_x3), (4, .int x4), (5, .int x5)]) hx hb d_MM_decode_537 hl (by decide) rfl (fun ls hl => ?_)
          refine lv_iconst (v := (1:Int32)) hx hb d_MM_decode_539 (by decide) ?_
          refine lv_istore (lv' := [(8, .int (1:Int32)), (7, .int x7_537), (6, .int y0), (0, .ref (ad 0)), (3, .int u388_x3), (4, .int x4), (5, .int x5)]) hx hb d_MM_decode_540 hl (by decide) rfl (fun ls hl => ?_)
          obtain ⟨q11, hq11, h⟩ := o_bd_some h
          refine o_sim2 (AH := fun zz => o_At p l e rm_MM_decode s m args below meth c _ m_cls D A 9 542 [] (m_cw ad ca ky ty u388_rt u388_Ni u388_Np u388_No u388_Nx u388_Nf u388_Na Nh u388_Nq u388_Nj u388_M0 u388_M1) [(0, .ref (ad 0)), (3, .int u388_x3), (4, .int x4), (6, .int y0), (7, .int zz.1), (8, .int zz.2)]) (AX := fun qq => if qq.1 = 1 then o_At p l e rm_MM_decode s m args below meth c _ m_cls D A 9 569 [] (m_cw ad ca ky ty u388_rt u388_Ni u388_Np u388_No u388_Nx u388_Nf u388_Na Nh u388_Nq u388_Nj u388_M0 u388_M1) [] else o_At p l e rm_MM_decode s m args below meth c _ m_cls D A 9 598 [] (m_cw ad ca ky ty u388_rt u388_Ni u388_Np u388_No u388_Nx u388_Nf u388_Na Nh u388_Nq u388_Nj u388_M0 u388_M1) [(0, .ref (ad 0)), (3, .int u388_x3), (4, .int x4), (6, .int y0), (7, .int qq.2.1)]) (fun zz qq h h0 h1 => f_MM_decode_b542 hE hKy C hDD n u388_x3 x4 y0 u388_M0 Nh u388_Ni u388_Np u388_No u388_Nx u388_Nf u388_Na u388_Nq u388_Nj u388_M1 u388_rt zz qq h h0 h1) n _ q11 hq11 ?_ _ _ _ hP hS (lv_sub hl [3, 4, 5, 2, 1, 0] rfl)
          by_cases c58 : q11.1 = 1
          · replace h := o_tt c58 h
            refine o_ip c58 ?_
            intro H locs ls hP hS hl
            cases h
            exact h1 (Nat.succ_ne_zero 1) _ _ _ hP hS (lv_sub hl [] rfl)
          replace h := o_ff c58 h
          refine o_in_ c58 ?_
          intro H locs ls hP hS hl
          refine lv_iload hx hb d_MM_decode_598 (lv_at hl 3 rfl) ?_
          refine lv_iconst (v := (2:Int32)) hx hb d_MM_decode_600 (by decide) ?_
          refine lv_icmp_ne (tgt := 626) hx hb d_MM_decode_601 (by decide) (fun c55 => ?_) (fun c55 => ?_)
          · replace h := o_ff c55 h
            exact f_MM_decode_j626 hE hKy C hDD n u388_x3 u388_M0 u388_Ni u388_Np u388_No u388_Nx u388_Nf u388_Na u388_Nq u388_Nj u388_M1 u388_rt x4 y0 q11.2.1 Nh h h0 h1 _ _ _ hP hS (lv_sub hl [0, 1, 2, 3, 4] rfl)
          · replace h := o_tt c55 h
            refine lv_iload hx hb d_MM_decode_604 (lv_at hl 4 rfl) ?_
            refine lv_sipush (v := (2048:Int32)) hx hb d_MM_decode_606 (by decide) ?_
            refine lv_icmp_lt (tgt := 646) hx hb d_MM_decode_609 (by decide) (fun c56 => ?_) (fun c56 => ?_)
            · replace h := o_tt c56 h
              cases h
              exact h1 (Nat.succ_ne_zero 2) _ _ _ hP hS (lv_sub hl [] rfl)
            · replace h := o_ff c56 h
              refine lv_iload hx hb d_MM_decode_612 (lv_at hl 4 rfl) ?_
              refine lv_ldcw (v := (55296:Int32)) hx hb hown (hts _ k_9_188) d_MM_decode_614 ?_
              refine lv_ldcw (v := (57343:Int32)) hx hb hown (hts _ k_9_189) d_MM_decode_617 ?_
              obtain ⟨q12, hq12, h⟩ := o_bd_some h
              refine o_S (st1 := [.int q12]) (w1 := (m_cw ad ca ky ty u388_rt u388_Ni u388_Np u388_No u388_Nx u388_Nf u388_Na Nh u388_Nq u388_Nj u388_M0 u388_M1)) hE.1 C (e_MM_in hE hKy l q11.2.1 (55296:Int32) (57343:Int32) u388_Ni u388_Np u388_No u388_Nx u388_Nf u388_Na Nh u388_Nq u388_Nj u388_M0 u388_M1 u388_rt hq12) hP (hDD _ _ _ _ _ _ _ _ _ _ _ _) hS hl.1 k_9_41 k_8_201 k_1_12 k_8_202 hs_MM_in rfl rfl ⟨(Nat.le_of_ble_eq_true rfl), (Nat.le_of_ble_eq_true rfl)⟩ rfl (Nat.le_of_ble_eq_true rfl) ⟨Nat.zero_le _, Nat.zero_le _⟩ rfl d_MM_decode_620 (fun H locs hP hS => ?_)
              refine lv_if_ne (tgt := 646) hx hb d_MM_decode_623 (by decide) (fun c57 => ?_) (fun c57 => ?_)
              · replace h := o_ff c57 h
                cases h
                exact h1 (Nat.succ_ne_zero 2) _ _ _ hP hS (lv_sub hl [] rfl)
              · replace h := o_tt c57 h
                exact f_MM_decode_j626 hE hKy C hDD n u388_x3 u388_M0 u388_Ni u388_Np u388_No u388_Nx u388_Nf u388_Na u388_Nq u388_Nj u388_M1 u388_rt x4 y0 q11.2.1 Nh h h0 h1 _ _ _ hP hS (lv_sub hl [0, 1, 2, 3, 4] rfl)
      · replace h := o_tt c37 h
        refine lv_iload hx hb d_MM_decode_499 (lv_at hl 4 rfl) ?_
        refine lv_goto (tgt := 537) hx hb d_MM_decode_501 (by decide) ?_
        refine lv_istore (lv' := [(7, .int x5), (6, .int y0), (0, .ref (ad 0)), (3, .int u388_x3), (4, .int x4), (5, .int x5)]) hx hb d_MM_decode_537 hl (by decide) rfl (fun ls hl => ?_)
        refine lv_iconst (v := (1:Int32)) hx hb d_MM_decode_539 (by decide) ?_
        refine lv_istore (lv' := [(8, .int (1:Int32)), (7, .int x5), (6, .int y0), (0, .ref (ad 0)), (3, .int u388_x3), (4, .int x4), (5, .int x5)]) hx hb d_MM_decode_540 hl (by decide) rfl (fun ls hl => ?_)
        obtain ⟨q13, hq13, h⟩ := o_bd_some h
        refine o_sim2 (AH := fun zz => o_At p l e rm_MM_decode s m args below meth c _ m_cls D A 9 542 [] (m_cw ad ca ky ty u388_rt u388_Ni u388_Np u388_No u388_Nx u388_Nf u388_Na Nh u388_Nq u388_Nj u388_M0 u388_M1) [(0, .ref (ad 0)), (3, .int u388_x3), (4, .int x4), (6, .int y0), (7, .int zz.1), (8, .int zz.2)]) (AX := fun qq => if qq.1 = 1 then o_At p l e rm_MM_decode s m args below meth c _ m_cls D A 9 569 [] (m_cw ad ca ky ty u388_rt u388_Ni u388_Np u388_No u388_Nx u388_Nf u388_Na Nh u388_Nq u388_Nj u388_M0 u388_M1) [] else o_At p l e rm_MM_decode s m args below meth c _ m_cls D A 9 598 [] (m_cw ad ca ky ty u388_rt u388_Ni u388_Np u388_No u388_Nx u388_Nf u388_Na Nh u388_Nq u388_Nj u388_M0 u388_M1) [(0, .ref (ad 0)), (3, .int u388_x3), (4, .int x4), (6, .int y0), (7, .int qq.2.1)]) (fun zz qq h h0 h1 => f_MM_decode_b542 hE hKy C hDD n u388_x3 x4 y0 u388_M0 Nh u388_Ni u388_Np u388_No u388_Nx u388_Nf u388_Na u388_Nq u388_Nj u388_M1 u388_rt zz qq h h0 h1) n _ q13 hq13 ?_ _ _ _ hP hS (lv_sub hl [3, 4, 5, 2, 1, 0] rfl)
        by_cases c62 : q13.1 = 1
        · replace h := o_tt c62 h
          refine o_ip c62 ?_
          intro H locs ls hP hS hl
          cases h
          exact h1 (Nat.succ_ne_zero 1) _ _ _ hP hS (lv_sub hl [] rfl)
        replace h := o_ff c62 h
        refine o_in_ c62 ?_
        intro H locs ls hP hS hl
        refine lv_iload hx hb d_MM_decode_598 (lv_at hl 3 rfl) ?_
        refine lv_iconst (v := (2:Int32)) hx hb d_MM_decode_600 (by decide) ?_
        refine lv_icmp_ne (tgt := 626) hx hb d_MM_decode_601 (by decide) (fun c59 => ?_) (fun c59 => ?_)
        · replace h := o_ff c59 h
          exact f_MM_decode_j626 hE hKy C hDD n u388_x3 u388_M0 u388_Ni u388_Np u388_No u388_Nx u388_Nf u388_Na u388_Nq u388_Nj u388_M1 u388_rt x4 y0 q13.2.1 Nh h h0 h1 _ _ _ hP hS (lv_sub hl [0, 1, 2, 3, 4] rfl)
        · replace h := o_tt c59 h
          refine lv_iload hx hb d_MM_decode_604 (lv_at hl 4 rfl) ?_
          refine lv_sipush (v := (2048:Int32)) hx hb d_MM_decode_606 (by decide) ?_
          refine lv_icmp_lt (tgt := 646) hx hb d_MM_decode_609 (by decide) (fun c60 => ?_) (fun c60 => ?_)
          · replace h := o_tt c60 h
            cases h
            exact h1 (Nat.succ_ne_zero 2) _ _ _ hP hS (lv_sub hl [] rfl)
          · replace h := o_ff c60 h
            refine lv_iload hx hb d_MM_decode_612 (lv_at hl 4 rfl) ?_
            refine lv_ldcw (v := (55296:Int32)) hx hb hown (hts _ k_9_188) d_MM_decode_614 ?_
            refine lv_ldcw (v := (57343:Int32)) hx hb hown (hts _ k_9_189) d_MM_decode_617 ?_
            obtain ⟨q14, hq14, h⟩ := o_bd_some h
            refine o_S (st1 := [.int q14]) (w1 := (m_cw ad ca ky ty u388_rt u388_Ni u388_Np u388_No u388_Nx u388_Nf u388_Na Nh u388_Nq u388_Nj u388_M0 u388_M1)) hE.1 C (e_MM_in hE hKy l q13.2.1 (55296:Int32) (57343:Int32) u388_Ni u388_Np u388_No u388_Nx u388_Nf u388_Na Nh u388_Nq u388_Nj u388_M0 u388_M1 u388_rt hq14) hP (hDD _ _ _ _ _ _ _ _ _ _ _ _) hS hl.1 k_9_41 k_8_201 k_1_12 k_8_202 hs_MM_in rfl rfl ⟨(Nat.le_of_ble_eq_true rfl), (Nat.le_of_ble_eq_true rfl)⟩ rfl (Nat.le_of_ble_eq_true rfl) ⟨Nat.zero_le _, Nat.zero_le _⟩ rfl d_MM_decode_620 (fun H locs hP hS => ?_)
            refine lv_if_ne (tgt := 646) hx hb d_MM_decode_623 (by decide) (fun c61 => ?_) (fun c61 => ?_)
            · replace h := o_ff c61 h
              cases h
              exact h1 (Nat.succ_ne_zero 2) _ _ _ hP hS (lv_sub hl [] rfl)
            · replace h := o_tt c61 h
              exact f_MM_decode_j626 hE hKy C hDD n u388_x3 u388_M0 u388_Ni u388_Np u388_No u388_Nx u388_Nf u388_Na u388_Nq u388_Nj u388_M1 u388_rt x4 y0 q13.2.1 Nh h h0 h1 _ _ _ hP hS (lv_sub hl [0, 1, 2, 3, 4] rfl)
    · replace h := o_ff c36 h
      cases h
      exact h1 (Nat.succ_ne_zero 0) _ _ _ hP hS (lv_sub hl [] rfl)
set_option maxHeartbeats 4000000 in
set_option maxRecDepth 100000 in
theorem f_MM_decode_j455 {E : (Nat → Prop) → State → Heap → Prop} {p : Program} {l : Launch} {e : Env} {s : State} {m : MethodId} {args : Array Value} {below : List Frame} {meth : Method} {c : Code} {D : va_G} {ad kd sd vd xd : Nat → Nat} {ca : Nat → ClassId} {A : Nat → Prop} {ky ty : Nat → Option Nat} {Q : State → Prop} (hE : o_EK E kd sd vd xd) (hKy : m_KY ky ty sd) (C : o_Cx E p s m args meth c D m_cls (m_tys ca) "SchemaJudgeModel" b_MM_decode (some .boolean) 9 cc_MM_decode A) (hDD : ∀ (rt : Nat) (Ni : SNI) (Np : SNP) (No : SNO) (Nx : SNX) (Nf : SNF) (Na : SNA) (Nh : SNH) (Nq : SNQ) (Nj : SNJ) (M0 : SMT) (M1 : SMT), va_D A (m_cw ad ca ky ty rt Ni Np No Nx Nf Na Nh Nq Nj M0 M1)) (n : Nat) (u388_x3 : Int32) (u388_M0 : SMT) (u388_Ni : SNI) (u388_Np : SNP) (u388_No : SNO) (u388_Nx : SNX) (u388_Nf : SNF) (u388_Na : SNA) (u388_Nq : SNQ) (u388_Nj : SNJ) (u388_M1 : SMT) (u388_rt : Nat) (x4 : Int32) (x5 : Int32) (Nh : SNH) {q : Nat × Int32 × SNH} (h : m_MM_decode_j455 n u388_x3 x4 x5 u388_M0 Nh = some q) (h0 : q.1 = 0 → o_At p l e rm_MM_decode s m args below meth c Q m_cls D A 9 388 [] (m_cw ad ca ky ty u388_rt u388_Ni u388_Np u388_No u388_Nx u388_Nf u388_Na q.2.2 u388_Nq u388_Nj u388_M0 u388_M1) [(0, .ref (ad 0)), (3, .int u388_x3), (4, .int q.2.1)]) (h1 : q.1 ≠ 0 → (if q.1 = 1 then o_At p l e rm_MM_decode s m args below meth c Q m_cls D A 9 492 [] (m_cw ad ca ky ty u388_rt u388_Ni u388_Np u388_No u388_Nx u388_Nf u388_Na q.2.2 u388_Nq u388_Nj u388_M0 u388_M1) [] else if q.1 = 2 then o_At p l e rm_MM_decode s m args below meth c Q m_cls D A 9 569 [] (m_cw ad ca ky ty u388_rt u388_Ni u388_Np u388_No u388_Nx u388_Nf u388_Na q.2.2 u388_Nq u388_Nj u388_M0 u388_M1) [] else if q.1 = 3 then o_At p l e rm_MM_decode s m args below meth c Q m_cls D A 9 646 [] (m_cw ad ca ky ty u388_rt u388_Ni u388_Np u388_No u388_Nx u388_Nf u388_Na q.2.2 u388_Nq u388_Nj u388_M0 u388_M1) [] else o_At p l e rm_MM_decode s m args below meth c Q m_cls D A 9 679 [] (m_cw ad ca ky ty u388_rt u388_Ni u388_Np u388_No u388_Nx u388_Nf u388_Na q.2.2 u388_Nq u388_Nj u388_M0 u388_M1) [])) : o_At p l e rm_MM_decode s m args below meth c Q m_cls D A 9 455 [] (m_cw ad ca ky ty u388_rt u388_Ni u388_Np u388_No u388_Nx u388_Nf u388_Na Nh u388_Nq u388_Nj u388_M0 u388_M1) [(0, .ref (ad 0)), (3, .int u388_x3), (4, .int x4), (5, .int x5)] := by
  unfold m_MM_decode_j455 at h
  intro H locs ls hP hS hl
  have C0 := C
  obtain ⟨hx, hb, -, -, -, hown, hts, hK, -, -⟩ := C0
  refine lv_iload hx hb d_MM_decode_455 (lv_at hl 3 rfl) ?_
  refine lv_sipush (v := (240:Int32)) hx hb d_MM_decode_457 (by decide) ?_
  refine lv_icmp_lt (tgt := 475) hx hb d_MM_decode_460 (by decide) (fun c34 => ?_) (fun c34 => ?_)
  · replace h := o_tt c34 h
    refine lv_iconst (v := (-1:Int32)) hx hb d_MM_decode_475 (by decide) ?_
    exact f_MM_decode_j476 hE hKy C hDD n u388_x3 u388_M0 u388_Ni u388_Np u388_No u388_Nx u388_Nf u388_Na u388_Nq u388_Nj u388_M1 u388_rt x4 x5 (-1:Int32) Nh h h0 h1 _ _ _ hP hS (lv_sub hl [0, 1, 2, 3] rfl)
  · replace h := o_ff c34 h
    refine lv_iload hx hb d_MM_decode_463 (lv_at hl 3 rfl) ?_
    refine lv_sipush (v := (245:Int32)) hx hb d_MM_decode_465 (by decide) ?_
    refine lv_icmp_ge (tgt := 475) hx hb d_MM_decode_468 (by decide) (fun c63 => ?_) (fun c63 => ?_)
    · replace h := o_tt c63 h
      refine lv_iconst (v := (-1:Int32)) hx hb d_MM_decode_475 (by decide) ?_
      exact f_MM_decode_j476 hE hKy C hDD n u388_x3 u388_M0 u388_Ni u388_Np u388_No u388_Nx u388_Nf u388_Na u388_Nq u388_Nj u388_M1 u388_rt x4 x5 (-1:Int32) Nh h h0 h1 _ _ _ hP hS (lv_sub hl [0, 1, 2, 3] rfl)
    · replace h := o_ff c63 h
      refine lv_iconst (v := (3:Int32)) hx hb d_MM_decode_471 (by decide) ?_
      refine lv_goto (tgt := 476) hx hb d_MM_decode_472 (by decide) ?_
      exact f_MM_decode_j476 hE hKy C hDD n u388_x3 u388_M0 u388_Ni u388_Np u388_No u388_Nx u388_Nf u388_Na u388_Nq u388_Nj u388_M1 u388_rt x4 x5 (3:Int32) Nh h h0 h1 _ _ _ hP hS (lv_sub hl [0, 1, 2, 3] rfl)
set_option maxHeartbeats 4000000 in
set_option maxRecDepth 100000 in
theorem f_MM_decode_j435 {E : (Nat → Prop) → State → Heap → Prop} {p : Program} {l : Launch} {e : Env} {s : State} {m : MethodId} {args : Array Value} {below : List Frame} {meth : Method} {c : Code} {D : va_G} {ad kd sd vd xd : Nat → Nat} {ca : Nat → ClassId} {A : Nat → Prop} {ky ty : Nat → Option Nat} {Q : State → Prop} (hE : o_EK E kd sd vd xd) (hKy : m_KY ky ty sd) (C : o_Cx E p s m args meth c D m_cls (m_tys ca) "SchemaJudgeModel" b_MM_decode (some .boolean) 9 cc_MM_decode A) (hDD : ∀ (rt : Nat) (Ni : SNI) (Np : SNP) (No : SNO) (Nx : SNX) (Nf : SNF) (Na : SNA) (Nh : SNH) (Nq : SNQ) (Nj : SNJ) (M0 : SMT) (M1 : SMT), va_D A (m_cw ad ca ky ty rt Ni Np No Nx Nf Na Nh Nq Nj M0 M1)) (n : Nat) (u388_x3 : Int32) (u388_M0 : SMT) (u388_Ni : SNI) (u388_Np : SNP) (u388_No : SNO) (u388_Nx : SNX) (u388_Nf : SNF) (u388_Na : SNA) (u388_Nq : SNQ) (u388_Nj : SNJ) (u388_M1 : SMT) (u388_rt : Nat) (x4 : Int32) (x5 : Int32) (Nh : SNH) {q : Nat × Int32 × SNH} (h : m_MM_decode_j435 n u388_x3 x4 x5 u388_M0 Nh = some q) (h0 : q.1 = 0 → o_At p l e rm_MM_decode s m args below meth c Q m_cls D A 9 388 [] (m_cw ad ca ky ty u388_rt u388_Ni u388_Np u388_No u388_Nx u388_Nf u388_Na q.2.2 u388_Nq u388_Nj u388_M0 u388_M1) [(0, .ref (ad 0)), (3, .int u388_x3), (4, .int q.2.1)]) (h1 : q.1 ≠ 0 → (if q.1 = 1 then o_At p l e rm_MM_decode s m args below meth c Q m_cls D A 9 492 [] (m_cw ad ca ky ty u388_rt u388_Ni u388_Np u388_No u388_Nx u388_Nf u388_Na q.2.2 u388_Nq u388_Nj u388_M0 u388_M1) [] else if q.1 = 2 then o_At p l e rm_MM_decode s m args below meth c Q m_cls D A 9 569 [] (m_cw ad ca ky ty u388_rt u388_Ni u388_Np u388_No u388_Nx u388_Nf u388_Na q.2.2 u388_Nq u388_Nj u388_M0 u388_M1) [] else if q.1 = 3 then o_At p l e rm_MM_decode s m args below meth c Q m_cls D A 9 646 [] (m_cw ad ca ky ty u388_rt u388_Ni u388_Np u388_No u388_Nx u388_Nf u388_Na q.2.2 u388_Nq u388_Nj u388_M0 u388_M1) [] else o_At p l e rm_MM_decode s m args below meth c Q m_cls D A 9 679 [] (m_cw ad ca ky ty u388_rt u388_Ni u388_Np u388_No u388_Nx u388_Nf u388_Na q.2.2 u388_Nq u388_Nj u388_M0 u388_M1) [])) : o_At p l e rm_MM_decode s m args below meth c Q m_cls D A 9 435 [] (m_cw ad ca ky ty u388_rt u388_Ni u388_Np u388_No u388_Nx u388_Nf u388_Na Nh u388_Nq u388_Nj u388_M0 u388_M1) [(0, .ref (ad 0)), (3, .int u388_x3), (4, .int x4), (5, .int x5)] := by
  unfold m_MM_decode_j435 at h
  intro H locs ls hP hS hl
  have C0 := C
  obtain ⟨hx, hb, -, -, -, hown, hts, hK, -, -⟩ := C0
  refine lv_iload hx hb d_MM_decode_435 (lv_at hl 3 rfl) ?_
  refine lv_sipush (v := (224:Int32)) hx hb d_MM_decode_437 (by decide) ?_
  refine lv_icmp_lt (tgt := 455) hx hb d_MM_decode_440 (by decide) (fun c33 => ?_) (fun c33 => ?_)
  · replace h := o_tt c33 h
    exact f_MM_decode_j455 hE hKy C hDD n u388_x3 u388_M0 u388_Ni u388_Np u388_No u388_Nx u388_Nf u388_Na u388_Nq u388_Nj u388_M1 u388_rt x4 x5 Nh h h0 h1 _ _ _ hP hS (lv_sub hl [0, 1, 2, 3] rfl)
  · replace h := o_ff c33 h
    refine lv_iload hx hb d_MM_decode_443 (lv_at hl 3 rfl) ?_
    refine lv_sipush (v := (240:Int32)) hx hb d_MM_decode_445 (by decide) ?_
    refine lv_icmp_ge (tgt := 455) hx hb d_MM_decode_448 (by decide) (fun c64 => ?_) (fun c64 => ?_)
    · replace h := o_tt c64 h
      exact f_MM_decode_j455 hE hKy C hDD n u388_x3 u388_M0 u388_Ni u388_Np u388_No u388_Nx u388_Nf u388_Na u388_Nq u388_Nj u388_M1 u388_rt x4 x5 Nh h h0 h1 _ _ _ hP hS (lv_sub hl [0, 1, 2, 3] rfl)
    · replace h := o_ff c64 h
      refine lv_iconst (v := (2:Int32)) hx hb d_MM_decode_451 (by decide) ?_
      refine lv_goto (tgt := 476) hx hb d_MM_decode_452 (by decide) ?_
      exact f_MM_decode_j476 hE hKy C hDD n u388_x3 u388_M0 u388_Ni u388_Np u388_No u388_Nx u388_Nf u388_Na u388_Nq u388_Nj u388_M1 u388_rt x4 x5 (2:Int32) Nh h h0 h1 _ _ _ hP hS (lv_sub hl [0, 1, 2, 3] rfl)
set_option maxHeartbeats 4000000 in
set_option maxRecDepth 100000 in
theorem f_MM_decode_b388 {E : (Nat → Prop) → State → Heap → Prop} {p : Program} {l : Launch} {e : Env} {s : State} {m : MethodId} {args : Array Value} {below : List Frame} {meth : Method} {c : Code} {D : va_G} {ad kd sd vd xd : Nat → Nat} {ca : Nat → ClassId} {A : Nat → Prop} {ky ty : Nat → Option Nat} {Q : State → Prop} (hE : o_EK E kd sd vd xd) (hKy : m_KY ky ty sd) (C : o_Cx E p s m args meth c D m_cls (m_tys ca) "SchemaJudgeModel" b_MM_decode (some .boolean) 9 cc_MM_decode A) (hDD : ∀ (rt : Nat) (Ni : SNI) (Np : SNP) (No : SNO) (Nx : SNX) (Nf : SNF) (Na : SNA) (Nh : SNH) (Nq : SNQ) (Nj : SNJ) (M0 : SMT) (M1 : SMT), va_D A (m_cw ad ca ky ty rt Ni Np No Nx Nf Na Nh Nq Nj M0 M1)) (n : Nat) (u388_x3 : Int32) (u388_M0 : SMT) (u388_Ni : SNI) (u388_Np : SNP) (u388_No : SNO) (u388_Nx : SNX) (u388_Nf : SNF) (u388_Na : SNA) (u388_Nq : SNQ) (u388_Nj : SNJ) (u388_M1 : SMT) (u388_rt : Nat) (z : Int32 × SNH) (q : Nat × Int32 × SNH) (h : m_MM_decode_b388 n u388_x3 u388_M0 z = some q) (h0 : q.1 = 0 → o_At p l e rm_MM_decode s m args below meth c Q m_cls D A 9 388 [] (m_cw ad ca ky ty u388_rt u388_Ni u388_Np u388_No u388_Nx u388_Nf u388_Na q.2.2 u388_Nq u388_Nj u388_M0 u388_M1) [(0, .ref (ad 0)), (3, .int u388_x3), (4, .int q.2.1)]) (h1 : q.1 ≠ 0 → (if q.1 = 1 then o_At p l e rm_MM_decode s m args below meth c Q m_cls D A 9 492 [] (m_cw ad ca ky ty u388_rt u388_Ni u388_Np u388_No u388_Nx u388_Nf u388_Na q.2.2 u388_Nq u388_Nj u388_M0 u388_M1) [] else if q.1 = 2 then o_At p l e rm_MM_decode s m args below meth c Q m_cls D A 9 569 [] (m_cw ad ca ky ty u388_rt u388_Ni u388_Np u388_No u388_Nx u388_Nf u388_Na q.2.2 u388_Nq u388_Nj u388_M0 u388_M1) [] else if q.1 = 3 then o_At p l e rm_MM_decode s m args below meth c Q m_cls D A 9 646 [] (m_cw ad ca ky ty u388_rt u388_Ni u388_Np u388_No u388_Nx u388_Nf u388_Na q.2.2 u388_Nq u388_Nj u388_M0 u388_M1) [] else o_At p l e rm_MM_decode s m args below meth c Q m_cls D A 9 679 [] (m_cw ad ca ky ty u388_rt u388_Ni u388_Np u388_No u388_Nx u388_Nf u388_Na q.2.2 u388_Nq u388_Nj u388_M0 u388_M1) [])) : o_At p l e rm_MM_decode s m args below meth c Q m_cls D A 9 388 [] (m_cw ad ca ky ty u388_rt u388_Ni u388_Np u388_No u388_Nx u388_Nf u388_Na z.2 u388_Nq u388_Nj u388_M0 u388_M1) [(0, .ref (ad 0)), (3, .int u388_x3), (4, .int z.1)] := by
  unfold m_MM_decode_b388 at h
  intro H locs ls hP hS hl
  have C0 := C
  obtain ⟨hx, hb, -, -, -, hown, hts, hK, -, -⟩ := C0
  refine lv_iload hx hb d_MM_decode_388 (lv_at hl 2 rfl) ?_
  refine lv_iload_n hx hb d_MM_decode_390 rfl (lv_at hl 1 rfl) ?_
  refine lv_icmp_ge (tgt := 679) hx hb d_MM_decode_391 (by decide) (fun c29 => ?_) (fun c29 => ?_)
  · replace h := o_tt c29 h
    cases h
    exact h1 (Nat.succ_ne_zero 3) _ _ _ hP hS (lv_sub hl [] rfl)
  · replace h := o_ff c29 h
    refine lv_aload_n hx hb d_MM_decode_394 rfl (lv_at hl 0 rfl) ?_
    refine o_get (v := .ref (ad 29)) C in_MM hP 0 mw_0 rfl 49 (by decide) k_8_39 rfl rfl d_MM_decode_395 ?_
    refine lv_iload hx hb d_MM_decode_398 (lv_at hl 2 rfl) ?_
    obtain ⟨g30, h⟩ := o_gd_some h
    refine o_iald (f := (NH_octetRow z.2)) C hP 29 28 mw_29 rfl g30 d_MM_decode_400 ?_
    refine lv_topi (fun x5_401 ex5_401 => ?_)
    replace h := o_nm_at ex5_401 h
    refine lv_istore (lv' := [(5, .int x5_401), (0, .ref (ad 0)), (3, .int u388_x3), (4, .int z.1)]) hx hb d_MM_decode_401 hl (by decide) rfl (fun ls hl => ?_)
    refine lv_iload hx hb d_MM_decode_403 (lv_at hl 0 rfl) ?_
    refine lv_sipush (v := (128:Int32)) hx hb d_MM_decode_405 (by decide) ?_
    refine lv_icmp_ge (tgt := 415) hx hb d_MM_decode_408 (by decide) (fun c31 => ?_) (fun c31 => ?_)
    · replace h := o_tt c31 h
      refine lv_iload hx hb d_MM_decode_415 (lv_at hl 0 rfl) ?_
      refine lv_sipush (v := (194:Int32)) hx hb d_MM_decode_417 (by decide) ?_
      refine lv_icmp_lt (tgt := 435) hx hb d_MM_decode_420 (by decide) (fun c32 => ?_) (fun c32 => ?_)
      · replace h := o_tt c32 h
        exact f_MM_decode_j435 hE hKy C hDD n u388_x3 u388_M0 u388_Ni u388_Np u388_No u388_Nx u388_Nf u388_Na u388_Nq u388_Nj u388_M1 u388_rt z.1 x5_401 z.2 h h0 h1 _ _ _ hP hS (lv_sub hl [1, 2, 3, 0] rfl)
      · replace h := o_ff c32 h
        refine lv_iload hx hb d_MM_decode_423 (lv_at hl 0 rfl) ?_
        refine lv_sipush (v := (224:Int32)) hx hb d_MM_decode_425 (by decide) ?_
        refine lv_icmp_ge (tgt := 435) hx hb d_MM_decode_428 (by decide) (fun c65 => ?_) (fun c65 => ?_)
        · replace h := o_tt c65 h
          exact f_MM_decode_j435 hE hKy C hDD n u388_x3 u388_M0 u388_Ni u388_Np u388_No u388_Nx u388_Nf u388_Na u388_Nq u388_Nj u388_M1 u388_rt z.1 x5_401 z.2 h h0 h1 _ _ _ hP hS (lv_sub hl [1, 2, 3, 0] rfl)
        · replace h := o_ff c65 h
          refine lv_iconst (v := (1:Int32)) hx hb d_MM_decode_431 (by decide) ?_
          refine lv_goto (tgt := 476) hx hb d_MM_decode_432 (by decide) ?_
          exact f_MM_decode_j476 hE hKy C hDD n u388_x3 u388_M0 u388_Ni u388_Np u388_No u388_Nx u388_Nf u388_Na u388_Nq u388_Nj u388_M1 u388_rt z.1 x5_401 (1:Int32) z.2 h h0 h1 _ _ _ hP hS (lv_sub hl [1, 2, 3, 0] rfl)
    · replace h := o_ff c31 h
      refine lv_iconst (v := (0:Int32)) hx hb d_MM_decode_411 (by decide) ?_
      refine lv_goto (tgt := 476) hx hb d_MM_decode_412 (by decide) ?_
      exact f_MM_decode_j476 hE hKy C hDD n u388_x3 u388_M0 u388_Ni u388_Np u388_No u388_Nx u388_Nf u388_Na u388_Nq u388_Nj u388_M1 u388_rt z.1 x5_401 (0:Int32) z.2 h h0 h1 _ _ _ hP hS (lv_sub hl [1, 2, 3, 0] rfl)
set_option maxHeartbeats 4000000 in
set_option maxRecDepth 100000 in
theorem e_MM_decode {E : (Nat → Prop) → State → Heap → Prop} {D : va_G} {ad kd sd vd xd : Nat → Nat} {ca : Nat → ClassId} {ky ty : Nat → Option Nat} (hE : o_EK E kd sd vd xd) (hKy : m_KY ky ty sd) (l : Launch) (n : Nat) (x1 : Int32) (x2 : Int32) (M0 : SMT) (Nh : SNH) (Ni : SNI) (Np : SNP) (No : SNO) (Nx : SNX) (Nf : SNF) (Na : SNA) (Nq : SNQ) (Nj : SNJ) (M1 : SMT) (rt : Nat) {r : Int32 × SNH} (h : m_MM_decode n x1 x2 M0 Nh = some r) : o_Cn E l D m_cls (m_tys ca) y_MM_decode cc_MM_decode rm_MM_decode [.ref (ad 0), .int x1, .int x2] (m_cw ad ca ky ty rt Ni Np No Nx Nf Na Nh Nq Nj M0 M1) (m_cw ad ca ky ty rt Ni Np No Nx Nf Na r.2 Nq Nj M0 M1) (some (.int r.1)) := by
  refine o_Cn_of (by decide) (Nat.le_of_ble_eq_true rfl) ?_
  intro p e s m below meth c A ls C hD hP hS hl
  have hDD : ∀ (rt : Nat) (Ni : SNI) (Np : SNP) (No : SNO) (Nx : SNX) (Nf : SNF) (Na : SNA) (Nh : SNH) (Nq : SNQ) (Nj : SNJ) (M0 : SMT) (M1 : SMT), va_D A (m_cw ad ca ky ty rt Ni Np No Nx Nf Na Nh Nq Nj M0 M1) := fun _ _ _ _ _ _ _ _ _ _ _ _ => o_D_map hD rfl
  have hl : lv_has ls 9 [(0, .ref (ad 0)), (1, .int x1), (2, .int x2)] := hl
  unfold m_MM_decode at h
  have C0 := C
  obtain ⟨hx, hb, -, -, -, hown, hts, hK, -, -⟩ := C0
  refine lv_iconst (v := (0:Int32)) hx hb d_MM_decode_0 (by decide) ?_
  refine lv_istore_n (lv' := [(3, .int (0:Int32)), (0, .ref (ad 0)), (1, .int x1), (2, .int x2)]) hx hb d_MM_decode_1 rfl hl (by decide) rfl (fun ls hl => ?_)
  refine lv_iload_n hx hb d_MM_decode_2 rfl (lv_at hl 2 rfl) ?_
  refine lv_istore (lv' := [(4, .int x1), (3, .int (0:Int32)), (0, .ref (ad 0)), (1, .int x1), (2, .int x2)]) hx hb d_MM_decode_3 hl (by decide) rfl (fun ls hl => ?_)
  obtain ⟨q5, hq5, h⟩ := o_bd_some h
  refine o_sim2 (AH := fun zz => o_At p l e rm_MM_decode s m _ below meth c _ m_cls D A 9 5 [] (m_cw ad ca ky ty rt Ni Np No Nx Nf Na zz.2.2 Nq Nj M0 M1) [(0, .ref (ad 0)), (2, .int x2), (3, .int zz.1), (4, .int zz.2.1)]) (AX := fun qq => o_At p l e rm_MM_decode s m _ below meth c _ m_cls D A 9 380 [] (m_cw ad ca ky ty rt Ni Np No Nx Nf Na qq.2.2.2 Nq Nj M0 M1) [(0, .ref (ad 0)), (3, .int qq.2.1)]) (fun zz qq h h0 h1 => f_MM_decode_b5 hE hKy C hDD n x2 M0 Ni Np No Nx Nf Na Nq Nj M1 rt zz qq h h0 h1) n _ q5 hq5 ?_ _ _ _ hP hS (lv_sub hl [2, 4, 1, 0] rfl)
  intro H locs ls hP hS hl
  refine lv_aload_n hx hb d_MM_decode_380 rfl (lv_at hl 0 rfl) ?_
  refine lv_iconst (v := (0:Int32)) hx hb d_MM_decode_381 (by decide) ?_
  refine o_put (v := .int (0:Int32)) (ty := .int) (w1 := (m_cw ad ca ky ty rt Ni Np No Nx Nf Na (NH_mk (NH_path q5.2.2.2) (NH_route q5.2.2.2) (NH_seen1 q5.2.2.2) (0:Int32) (NH_octetRow q5.2.2.2) (NH_partRow q5.2.2.2)) Nq Nj M0 M1)) C in_MM t_MM t_MM_ok n_MM hP (hDD _ _ _ _ _ _ _ _ _ _ _ _) hS 0 mw_0 rfl 48 (by decide) k_8_38 rfl rfl (by decide +kernel) rfl rfl (Nat.le_of_ble_eq_true rfl) rfl d_MM_decode_382 (fun H locs hP hS => ?_)
  refine lv_iconst (v := (0:Int32)) hx hb d_MM_decode_385 (by decide) ?_
  refine lv_istore (lv' := [(4, .int (0:Int32)), (0, .ref (ad 0)), (3, .int q5.2.1)]) hx hb d_MM_decode_386 hl (by decide) rfl (fun ls hl => ?_)
  obtain ⟨q15, hq15, h⟩ := o_bd_some h
  refine o_sim2 (AH := fun zz => o_At p l e rm_MM_decode s m _ below meth c _ m_cls D A 9 388 [] (m_cw ad ca ky ty rt Ni Np No Nx Nf Na zz.2 Nq Nj M0 M1) [(0, .ref (ad 0)), (3, .int q5.2.1), (4, .int zz.1)]) (AX := fun qq => if qq.1 = 1 then o_At p l e rm_MM_decode s m _ below meth c _ m_cls D A 9 492 [] (m_cw ad ca ky ty rt Ni Np No Nx Nf Na qq.2.2 Nq Nj M0 M1) [] else if qq.1 = 2 then o_At p l e rm_MM_decode s m _ below meth c _ m_cls D A 9 569 [] (m_cw ad ca ky ty rt Ni Np No Nx Nf Na qq.2.2 Nq Nj M0 M1) [] else if qq.1 = 3 then o_At p l e rm_MM_decode s m _ below meth c _ m_cls D A 9 646 [] (m_cw ad ca ky ty rt Ni Np No Nx Nf Na qq.2.2 Nq Nj M0 M1) [] else o_At p l e rm_MM_decode s m _ below meth c _ m_cls D A 9 679 [] (m_cw ad ca ky ty rt Ni Np No Nx Nf Na qq.2.2 Nq Nj M0 M1) []) (fun zz qq h h0 h1 => f_MM_decode_b388 hE hKy C hDD n q5.2.1 M0 Ni Np No Nx Nf Na Nq Nj M1 rt zz qq h h0 h1) n _ q15 hq15 ?_ _ _ _ hP hS (lv_sub hl [1, 2, 0] rfl)
  by_cases c66 : q15.1 = 1
  · replace h := o_tt c66 h
    refine o_ip c66 ?_
    intro H locs ls hP hS hl
    refine lv_iconst (v := (0:Int32)) hx hb d_MM_decode_492 (by decide) ?_
    cases h
    exact o_rz (v := (0:Int32)) C o_nar0 hP hS d_MM_decode_493
  replace h := o_ff c66 h
  refine o_in_ c66 ?_
  by_cases c67 : q15.1 = 2
  · replace h := o_tt c67 h
    refine o_ip c67 ?_
    intro H locs ls hP hS hl
    refine lv_iconst (v := (0:Int32)) hx hb d_MM_decode_569 (by decide) ?_
    cases h
    exact o_rz (v := (0:Int32)) C o_nar0 hP hS d_MM_decode_570
  replace h := o_ff c67 h
  refine o_in_ c67 ?_
  by_cases c68 : q15.1 = 3
  · replace h := o_tt c68 h
    refine o_ip c68 ?_
    intro H locs ls hP hS hl
    refine lv_iconst (v := (0:Int32)) hx hb d_MM_decode_646 (by decide) ?_
    cases h
    exact o_rz (v := (0:Int32)) C o_nar0 hP hS d_MM_decode_647
  replace h := o_ff c68 h
  refine o_in_ c68 ?_
  intro H locs ls hP hS hl
  refine lv_iconst (v := (1:Int32)) hx hb d_MM_decode_679 (by decide) ?_
  cases h
  exact o_rz (v := (1:Int32)) C o_nar1 hP hS d_MM_decode_680
set_option maxHeartbeats 4000000 in
set_option maxRecDepth 100000 in
theorem f_MM_part_j90 {E : (Nat → Prop) → State → Heap → Prop} {p : Program} {l : Launch} {e : Env} {s : State} {m : MethodId} {args : Array Value} {below : List Frame} {meth : Method} {c : Code} {D : va_G} {ad kd sd vd xd : Nat → Nat} {ca : Nat → ClassId} {A : Nat → Prop} {ky ty : Nat → Option Nat} {Q : State → Prop} (hE : o_EK E kd sd vd xd) (hKy : m_KY ky ty sd) (C : o_Cx E p s m args meth c D m_cls (m_tys ca) "SchemaJudgeModel" b_MM_part (some .int) 9 cc_MM_part A) (hDD : ∀ (rt : Nat) (Ni : SNI) (Np : SNP) (No : SNO) (Nx : SNX) (Nf : SNF) (Na : SNA) (Nh : SNH) (Nq : SNQ) (Nj : SNJ) (M0 : SMT) (M1 : SMT), va_D A (m_cw ad ca ky ty rt Ni Np No Nx Nf Na Nh Nq Nj M0 M1)) (n : Nat) (u6_x1 : Int32) (u6_x3 : Int32) (u6_M0 : SMT) (u6_Ni : SNI) (u6_Np : SNP) (u6_No : SNO) (u6_Nx : SNX) (u6_Nf : SNF) (u6_Na : SNA) (u6_Nq : SNQ) (u6_Nj : SNJ) (u6_M1 : SMT) (u6_rt : Nat) (x4 : Int32) (x5 : Int32) (x6 : Int32) (Nh : SNH) {q : Nat × Int32 × Int32 × SNH} (h : m_MM_part_j90 n u6_x1 u6_x3 x4 x5 x6 u6_M0 Nh = some q) (h0 : q.1 = 0 → o_At p l e rm_MM_part s m args below meth c Q m_cls D A 9 6 [] (m_cw ad ca ky ty u6_rt u6_Ni u6_Np u6_No u6_Nx u6_Nf u6_Na q.2.2.2 u6_Nq u6_Nj u6_M0 u6_M1) [(0, .ref (ad 0)), (1, .int u6_x1), (3, .int u6_x3), (4, .int q.2.1), (5, .int q.2.2.1)]) (h1 : q.1 ≠ 0 → (if q.1 = 1 then o_At p l e rm_MM_part s m args below meth c Q m_cls D A 9 64 [] (m_cw ad ca ky ty u6_rt u6_Ni u6_Np u6_No u6_Nx u6_Nf u6_Na q.2.2.2 u6_Nq u6_Nj u6_M0 u6_M1) [] else o_At p l e rm_MM_part s m args below meth c Q m_cls D A 9 108 [] (m_cw ad ca ky ty u6_rt u6_Ni u6_Np u6_No u6_Nx u6_Nf u6_Na q.2.2.2 u6_Nq u6_Nj u6_M0 u6_M1) [(0, .ref (ad 0)), (1, .int u6_x1), (4, .int q.2.1)])) : o_At p l e rm_MM_part s m args below meth c Q m_cls D A 9 90 [] (m_cw ad ca ky ty u6_rt u6_Ni u6_Np u6_No u6_Nx u6_Nf u6_Na Nh u6_Nq u6_Nj u6_M0 u6_M1) [(0, .ref (ad 0)), (1, .int u6_x1), (3, .int u6_x3), (4, .int x4), (5, .int x5), (6, .int x6)] := by
  unfold m_MM_part_j90 at h
  intro H locs ls hP hS hl
  have C0 := C
  obtain ⟨hx, hb, -, -, -, hown, hts, hK, -, -⟩ := C0
  refine lv_aload_n hx hb d_MM_part_90 rfl (lv_at hl 0 rfl) ?_
  refine o_get (v := .ref (ad 30)) C in_MM hP 0 mw_0 rfl 50 (by decide) k_8_40 rfl rfl d_MM_part_91 ?_
  refine lv_iload hx hb d_MM_part_94 (lv_at hl 3 rfl) ?_
  obtain ⟨x4_96, ex4_96⟩ : ∃ y : Int32, y = x4 + (1:Int32) := ⟨_, rfl⟩
  replace h := o_nm_at ex4_96 h
  refine lv_iinc (v := x4_96) (lv' := [(4, .int x4_96), (0, .ref (ad 0)), (1, .int u6_x1), (3, .int u6_x3), (5, .int x5), (6, .int x6)]) hx hb d_MM_part_96 hl (k := 3) rfl (by rw [ex4_96]; rfl) (by decide) rfl (fun ls hl => ?_)
  refine lv_iload hx hb d_MM_part_99 (lv_at hl 5 rfl) ?_
  obtain ⟨g4, h⟩ := o_gd_some h
  refine o_iast (f := (NH_partRow Nh)) (w1 := (m_cw ad ca ky ty u6_rt u6_Ni u6_Np u6_No u6_Nx u6_Nf u6_Na (NH_mk (NH_path Nh) (NH_route Nh) (NH_seen1 Nh) (NH_pathSize Nh) (NH_octetRow Nh) (upd (NH_partRow Nh) x4.toNatClampNeg x6)) u6_Nq u6_Nj u6_M0 u6_M1)) C hP (hDD _ _ _ _ _ _ _ _ _ _ _ _) hS 30 29 mw_30 rfl g4 rfl d_MM_part_101 (fun H locs hP hS => ?_)
  obtain ⟨x5_102, ex5_102⟩ : ∃ y : Int32, y = x5 + (1:Int32) := ⟨_, rfl⟩
  replace h := o_nm_at ex5_102 h
  refine lv_iinc (v := x5_102) (lv' := [(5, .int x5_102), (4, .int x4_96), (0, .ref (ad 0)), (1, .int u6_x1), (3, .int u6_x3), (6, .int x6)]) hx hb d_MM_part_102 hl (k := 4) rfl (by rw [ex5_102]; rfl) (by decide) rfl (fun ls hl => ?_)
  refine lv_goto (tgt := 6) hx hb d_MM_part_105 (by decide) ?_
  cases h
  exact h0 rfl _ _ _ hP hS (lv_sub hl [2, 3, 4, 1, 0] rfl)
set_option maxHeartbeats 4000000 in
set_option maxRecDepth 100000 in
theorem f_MM_part_j66 {E : (Nat → Prop) → State → Heap → Prop} {p : Program} {l : Launch} {e : Env} {s : State} {m : MethodId} {args : Array Value} {below : List Frame} {meth : Method} {c : Code} {D : va_G} {ad kd sd vd xd : Nat → Nat} {ca : Nat → ClassId} {A : Nat → Prop} {ky ty : Nat → Option Nat} {Q : State → Prop} (hE : o_EK E kd sd vd xd) (hKy : m_KY ky ty sd) (C : o_Cx E p s m args meth c D m_cls (m_tys ca) "SchemaJudgeModel" b_MM_part (some .int) 9 cc_MM_part A) (hDD : ∀ (rt : Nat) (Ni : SNI) (Np : SNP) (No : SNO) (Nx : SNX) (Nf : SNF) (Na : SNA) (Nh : SNH) (Nq : SNQ) (Nj : SNJ) (M0 : SMT) (M1 : SMT), va_D A (m_cw ad ca ky ty rt Ni Np No Nx Nf Na Nh Nq Nj M0 M1)) (n : Nat) (u6_x1 : Int32) (u6_x3 : Int32) (u6_M0 : SMT) (u6_Ni : SNI) (u6_Np : SNP) (u6_No : SNO) (u6_Nx : SNX) (u6_Nf : SNF) (u6_Na : SNA) (u6_Nq : SNQ) (u6_Nj : SNJ) (u6_M1 : SMT) (u6_rt : Nat) (x4 : Int32) (x5 : Int32) (Nh : SNH) {q : Nat × Int32 × Int32 × SNH} (h : m_MM_part_j66 n u6_x1 u6_x3 x4 x5 u6_M0 Nh = some q) (h0 : q.1 = 0 → o_At p l e rm_MM_part s m args below meth c Q m_cls D A 9 6 [] (m_cw ad ca ky ty u6_rt u6_Ni u6_Np u6_No u6_Nx u6_Nf u6_Na q.2.2.2 u6_Nq u6_Nj u6_M0 u6_M1) [(0, .ref (ad 0)), (1, .int u6_x1), (3, .int u6_x3), (4, .int q.2.1), (5, .int q.2.2.1)]) (h1 : q.1 ≠ 0 → (if q.1 = 1 then o_At p l e rm_MM_part s m args below meth c Q m_cls D A 9 64 [] (m_cw ad ca ky ty u6_rt u6_Ni u6_Np u6_No u6_Nx u6_Nf u6_Na q.2.2.2 u6_Nq u6_Nj u6_M0 u6_M1) [] else o_At p l e rm_MM_part s m args below meth c Q m_cls D A 9 108 [] (m_cw ad ca ky ty u6_rt u6_Ni u6_Np u6_No u6_Nx u6_Nf u6_Na q.2.2.2 u6_Nq u6_Nj u6_M0 u6_M1) [(0, .ref (ad 0)), (1, .int u6_x1), (4, .int q.2.1)])) : o_At p l e rm_MM_part s m args below meth c Q m_cls D A 9 66 [] (m_cw ad ca ky ty u6_rt u6_Ni u6_Np u6_No u6_Nx u6_Nf u6_Na Nh u6_Nq u6_Nj u6_M0 u6_M1) [(0, .ref (ad 0)), (1, .int u6_x1), (3, .int u6_x3), (4, .int x4), (5, .int x5)] := by
  unfold m_MM_part_j66 at h
  intro H locs ls hP hS hl
  have C0 := C
  obtain ⟨hx, hb, -, -, -, hown, hts, hK, -, -⟩ := C0
  refine lv_aload_n hx hb d_MM_part_66 rfl (lv_at hl 0 rfl) ?_
  refine o_get (v := .ref (ad 25)) C in_MM hP 0 mw_0 rfl 44 (by decide) k_8_34 rfl rfl d_MM_part_67 ?_
  obtain ⟨x5_70, ex5_70⟩ : ∃ y : Int32, y = x5 + (1:Int32) := ⟨_, rfl⟩
  replace h := o_nm_at ex5_70 h
  refine lv_iinc (v := x5_70) (lv' := [(5, .int x5_70), (0, .ref (ad 0)), (1, .int u6_x1), (3, .int u6_x3), (4, .int x4)]) hx hb d_MM_part_70 hl (k := 4) rfl (by rw [ex5_70]; rfl) (by decide) rfl (fun ls hl => ?_)
  refine lv_iload hx hb d_MM_part_73 (lv_at hl 0 rfl) ?_
  obtain ⟨g8, h⟩ := o_gd_some h
  refine o_iald (f := (NH_path Nh)) C hP 25 24 mw_25 rfl g8 d_MM_part_75 ?_
  refine lv_bipush (v := (48:Int32)) hx hb d_MM_part_76 (by decide) ?_
  refine lv_icmp_ne (tgt := 86) hx hb d_MM_part_78 (by decide) (fun c9 => ?_) (fun c9 => ?_)
  · replace h := o_ff c9 h
    refine lv_bipush (v := (47:Int32)) hx hb d_MM_part_86 (by decide) ?_
    refine lv_istore (lv' := [(6, .int (47:Int32)), (5, .int x5_70), (0, .ref (ad 0)), (1, .int u6_x1), (3, .int u6_x3), (4, .int x4)]) hx hb d_MM_part_88 hl (by decide) rfl (fun ls hl => ?_)
    exact f_MM_part_j90 hE hKy C hDD n u6_x1 u6_x3 u6_M0 u6_Ni u6_Np u6_No u6_Nx u6_Nf u6_Na u6_Nq u6_Nj u6_M1 u6_rt x4 x5_70 (47:Int32) Nh h h0 h1 _ _ _ hP hS (lv_sub hl [2, 3, 4, 5, 1, 0] rfl)
  · replace h := o_tt c9 h
    refine lv_bipush (v := (126:Int32)) hx hb d_MM_part_81 (by decide) ?_
    refine lv_goto (tgt := 88) hx hb d_MM_part_83 (by decide) ?_
    refine lv_istore (lv' := [(6, .int (126:Int32)), (5, .int x5_70), (0, .ref (ad 0)), (1, .int u6_x1), (3, .int u6_x3), (4, .int x4)]) hx hb d_MM_part_88 hl (by decide) rfl (fun ls hl => ?_)
    exact f_MM_part_j90 hE hKy C hDD n u6_x1 u6_x3 u6_M0 u6_Ni u6_Np u6_No u6_Nx u6_Nf u6_Na u6_Nq u6_Nj u6_M1 u6_rt x4 x5_70 (126:Int32) Nh h h0 h1 _ _ _ hP hS (lv_sub hl [2, 3, 4, 5, 1, 0] rfl)
set_option maxHeartbeats 4000000 in
set_option maxRecDepth 100000 in
theorem f_MM_part_b6 {E : (Nat → Prop) → State → Heap → Prop} {p : Program} {l : Launch} {e : Env} {s : State} {m : MethodId} {args : Array Value} {below : List Frame} {meth : Method} {c : Code} {D : va_G} {ad kd sd vd xd : Nat → Nat} {ca : Nat → ClassId} {A : Nat → Prop} {ky ty : Nat → Option Nat} {Q : State → Prop} (hE : o_EK E kd sd vd xd) (hKy : m_KY ky ty sd) (C : o_Cx E p s m args meth c D m_cls (m_tys ca) "SchemaJudgeModel" b_MM_part (some .int) 9 cc_MM_part A) (hDD : ∀ (rt : Nat) (Ni : SNI) (Np : SNP) (No : SNO) (Nx : SNX) (Nf : SNF) (Na : SNA) (Nh : SNH) (Nq : SNQ) (Nj : SNJ) (M0 : SMT) (M1 : SMT), va_D A (m_cw ad ca ky ty rt Ni Np No Nx Nf Na Nh Nq Nj M0 M1)) (n : Nat) (u6_x1 : Int32) (u6_x3 : Int32) (u6_M0 : SMT) (u6_Ni : SNI) (u6_Np : SNP) (u6_No : SNO) (u6_Nx : SNX) (u6_Nf : SNF) (u6_Na : SNA) (u6_Nq : SNQ) (u6_Nj : SNJ) (u6_M1 : SMT) (u6_rt : Nat) (z : Int32 × Int32 × SNH) (q : Nat × Int32 × Int32 × SNH) (h : m_MM_part_b6 n u6_x1 u6_x3 u6_M0 z = some q) (h0 : q.1 = 0 → o_At p l e rm_MM_part s m args below meth c Q m_cls D A 9 6 [] (m_cw ad ca ky ty u6_rt u6_Ni u6_Np u6_No u6_Nx u6_Nf u6_Na q.2.2.2 u6_Nq u6_Nj u6_M0 u6_M1) [(0, .ref (ad 0)), (1, .int u6_x1), (3, .int u6_x3), (4, .int q.2.1), (5, .int q.2.2.1)]) (h1 : q.1 ≠ 0 → (if q.1 = 1 then o_At p l e rm_MM_part s m args below meth c Q m_cls D A 9 64 [] (m_cw ad ca ky ty u6_rt u6_Ni u6_Np u6_No u6_Nx u6_Nf u6_Na q.2.2.2 u6_Nq u6_Nj u6_M0 u6_M1) [] else o_At p l e rm_MM_part s m args below meth c Q m_cls D A 9 108 [] (m_cw ad ca ky ty u6_rt u6_Ni u6_Np u6_No u6_Nx u6_Nf u6_Na q.2.2.2 u6_Nq u6_Nj u6_M0 u6_M1) [(0, .ref (ad 0)), (1, .int u6_x1), (4, .int q.2.1)])) : o_At p l e rm_MM_part s m args below meth c Q m_cls D A 9 6 [] (m_cw ad ca ky ty u6_rt u6_Ni u6_Np u6_No u6_Nx u6_Nf u6_Na z.2.2 u6_Nq u6_Nj u6_M0 u6_M1) [(0, .ref (ad 0)), (1, .int u6_x1), (3, .int u6_x3), (4, .int z.1), (5, .int z.2.1)] := by
  unfold m_MM_part_b6 at h
  intro H locs ls hP hS hl
  have C0 := C
  obtain ⟨hx, hb, -, -, -, hown, hts, hK, -, -⟩ := C0
  refine lv_iload hx hb d_MM_part_6 (lv_at hl 4 rfl) ?_
  refine lv_iload_n hx hb d_MM_part_8 rfl (lv_at hl 2 rfl) ?_
  refine lv_icmp_ge (tgt := 108) hx hb d_MM_part_9 (by decide) (fun c1 => ?_) (fun c1 => ?_)
  · replace h := o_tt c1 h
    cases h
    exact h1 (Nat.succ_ne_zero 1) _ _ _ hP hS (lv_sub hl [0, 1, 3] rfl)
  · replace h := o_ff c1 h
    refine lv_aload_n hx hb d_MM_part_12 rfl (lv_at hl 0 rfl) ?_
    refine o_get (v := .ref (ad 25)) C in_MM hP 0 mw_0 rfl 44 (by decide) k_8_34 rfl rfl d_MM_part_13 ?_
    refine lv_iload hx hb d_MM_part_16 (lv_at hl 4 rfl) ?_
    obtain ⟨g2, h⟩ := o_gd_some h
    refine o_iald (f := (NH_path z.2.2)) C hP 25 24 mw_25 rfl g2 d_MM_part_18 ?_
    refine lv_topi (fun x6_19 ex6_19 => ?_)
    replace h := o_nm_at ex6_19 h
    refine lv_istore (lv' := [(6, .int x6_19), (0, .ref (ad 0)), (1, .int u6_x1), (3, .int u6_x3), (4, .int z.1), (5, .int z.2.1)]) hx hb d_MM_part_19 hl (by decide) rfl (fun ls hl => ?_)
    refine lv_iload hx hb d_MM_part_21 (lv_at hl 0 rfl) ?_
    refine lv_bipush (v := (126:Int32)) hx hb d_MM_part_23 (by decide) ?_
    refine lv_icmp_ne (tgt := 90) hx hb d_MM_part_25 (by decide) (fun c3 => ?_) (fun c3 => ?_)
    · replace h := o_ff c3 h
      exact f_MM_part_j90 hE hKy C hDD n u6_x1 u6_x3 u6_M0 u6_Ni u6_Np u6_No u6_Nx u6_Nf u6_Na u6_Nq u6_Nj u6_M1 u6_rt z.1 z.2.1 x6_19 z.2.2 h h0 h1 _ _ _ hP hS (lv_sub hl [1, 2, 3, 4, 5, 0] rfl)
    · replace h := o_tt c3 h
      refine lv_iload hx hb d_MM_part_28 (lv_at hl 5 rfl) ?_
      refine lv_iconst (v := (1:Int32)) hx hb d_MM_part_30 (by decide) ?_
      refine lv_iadd hx hb d_MM_part_31 ?_
      refine lv_iload_n hx hb d_MM_part_32 rfl (lv_at hl 3 rfl) ?_
      refine lv_icmp_eq (tgt := 64) hx hb d_MM_part_33 (by decide) (fun c5 => ?_) (fun c5 => ?_)
      · replace h := o_tt c5 h
        cases h
        exact h1 (Nat.succ_ne_zero 0) _ _ _ hP hS (lv_sub hl [] rfl)
      · replace h := o_ff c5 h
        refine lv_aload_n hx hb d_MM_part_36 rfl (lv_at hl 1 rfl) ?_
        refine o_get (v := .ref (ad 25)) C in_MM hP 0 mw_0 rfl 44 (by decide) k_8_34 rfl rfl d_MM_part_37 ?_
        refine lv_iload hx hb d_MM_part_40 (lv_at hl 5 rfl) ?_
        refine lv_iconst (v := (1:Int32)) hx hb d_MM_part_42 (by decide) ?_
        refine lv_iadd hx hb d_MM_part_43 ?_
        obtain ⟨g6, h⟩ := o_gd_some h
        refine o_iald (f := (NH_path z.2.2)) C hP 25 24 mw_25 rfl g6 d_MM_part_44 ?_
        refine lv_bipush (v := (48:Int32)) hx hb d_MM_part_45 (by decide) ?_
        refine lv_icmp_eq (tgt := 66) hx hb d_MM_part_47 (by decide) (fun c7 => ?_) (fun c7 => ?_)
        · replace h := o_tt c7 h
          exact f_MM_part_j66 hE hKy C hDD n u6_x1 u6_x3 u6_M0 u6_Ni u6_Np u6_No u6_Nx u6_Nf u6_Na u6_Nq u6_Nj u6_M1 u6_rt z.1 z.2.1 z.2.2 h h0 h1 _ _ _ hP hS (lv_sub hl [1, 2, 3, 4, 5] rfl)
        · replace h := o_ff c7 h
          refine lv_aload_n hx hb d_MM_part_50 rfl (lv_at hl 1 rfl) ?_
          refine o_get (v := .ref (ad 25)) C in_MM hP 0 mw_0 rfl 44 (by decide) k_8_34 rfl rfl d_MM_part_51 ?_
          refine lv_iload hx hb d_MM_part_54 (lv_at hl 5 rfl) ?_
          refine lv_iconst (v := (1:Int32)) hx hb d_MM_part_56 (by decide) ?_
          refine lv_iadd hx hb d_MM_part_57 ?_
          obtain ⟨g10, h⟩ := o_gd_some h
          refine o_iald (f := (NH_path z.2.2)) C hP 25 24 mw_25 rfl g10 d_MM_part_58 ?_
          refine lv_bipush (v := (49:Int32)) hx hb d_MM_part_59 (by decide) ?_
          refine lv_icmp_eq (tgt := 66) hx hb d_MM_part_61 (by decide) (fun c11 => ?_) (fun c11 => ?_)
          · replace h := o_tt c11 h
            exact f_MM_part_j66 hE hKy C hDD n u6_x1 u6_x3 u6_M0 u6_Ni u6_Np u6_No u6_Nx u6_Nf u6_Na u6_Nq u6_Nj u6_M1 u6_rt z.1 z.2.1 z.2.2 h h0 h1 _ _ _ hP hS (lv_sub hl [1, 2, 3, 4, 5] rfl)
          · replace h := o_ff c11 h
            cases h
            exact h1 (Nat.succ_ne_zero 0) _ _ _ hP hS (lv_sub hl [] rfl)
set_option maxHeartbeats 4000000 in
set_option maxRecDepth 100000 in
theorem f_MM_part_b305 {E : (Nat → Prop) → State → Heap → Prop} {p : Program} {l : Launch} {e : Env} {s : State} {m : MethodId} {args : Array Value} {below : List Frame} {meth : Method} {c : Code} {D : va_G} {ad kd sd vd xd : Nat → Nat} {ca : Nat → ClassId} {A : Nat → Prop} {ky ty : Nat → Option Nat} {Q : State → Prop} (hE : o_EK E kd sd vd xd) (hKy : m_KY ky ty sd) (C : o_Cx E p s m args meth c D m_cls (m_tys ca) "SchemaJudgeModel" b_MM_part (some .int) 9 cc_MM_part A) (hDD : ∀ (rt : Nat) (Ni : SNI) (Np : SNP) (No : SNO) (Nx : SNX) (Nf : SNF) (Na : SNA) (Nh : SNH) (Nq : SNQ) (Nj : SNJ) (M0 : SMT) (M1 : SMT), va_D A (m_cw ad ca ky ty rt Ni Np No Nx Nf Na Nh Nq Nj M0 M1)) (n : Nat) (u305_x1 : Int32) (u305_x4 : Int32) (u305_M0 : SMT) (u305_Nh : SNH) (u305_Ni : SNI) (u305_Np : SNP) (u305_No : SNO) (u305_Nx : SNX) (u305_Nf : SNF) (u305_Na : SNA) (u305_Nq : SNQ) (u305_Nj : SNJ) (u305_M1 : SMT) (u305_rt : Nat) (z : Int32 × Int32) (q : Nat × Int32 × Int32) (h : m_MM_part_b305 n u305_x1 u305_x4 u305_M0 u305_Nh z = some q) (h0 : q.1 = 0 → o_At p l e rm_MM_part s m args below meth c Q m_cls D A 9 305 [] (m_cw ad ca ky ty u305_rt u305_Ni u305_Np u305_No u305_Nx u305_Nf u305_Na u305_Nh u305_Nq u305_Nj u305_M0 u305_M1) [(0, .ref (ad 0)), (1, .int u305_x1), (4, .int u305_x4), (5, .int q.2.1), (6, .int q.2.2)]) (h1 : q.1 ≠ 0 → (if q.1 = 1 then o_At p l e rm_MM_part s m args below meth c Q m_cls D A 9 329 [] (m_cw ad ca ky ty u305_rt u305_Ni u305_Np u305_No u305_Nx u305_Nf u305_Na u305_Nh u305_Nq u305_Nj u305_M0 u305_M1) [] else o_At p l e rm_MM_part s m args below meth c Q m_cls D A 9 355 [] (m_cw ad ca ky ty u305_rt u305_Ni u305_Np u305_No u305_Nx u305_Nf u305_Na u305_Nh u305_Nq u305_Nj u305_M0 u305_M1) [(0, .ref (ad 0)), (1, .int u305_x1), (5, .int q.2.1)])) : o_At p l e rm_MM_part s m args below meth c Q m_cls D A 9 305 [] (m_cw ad ca ky ty u305_rt u305_Ni u305_Np u305_No u305_Nx u305_Nf u305_Na u305_Nh u305_Nq u305_Nj u305_M0 u305_M1) [(0, .ref (ad 0)), (1, .int u305_x1), (4, .int u305_x4), (5, .int z.1), (6, .int z.2)] := by
  unfold m_MM_part_b305 at h
  intro H locs ls hP hS hl
  have C0 := C
  obtain ⟨hx, hb, -, -, -, hown, hts, hK, -, -⟩ := C0
  refine lv_iload hx hb d_MM_part_305 (lv_at hl 4 rfl) ?_
  refine lv_iload hx hb d_MM_part_307 (lv_at hl 2 rfl) ?_
  refine lv_icmp_ge (tgt := 355) hx hb d_MM_part_309 (by decide) (fun c19 => ?_) (fun c19 => ?_)
  · replace h := o_tt c19 h
    cases h
    exact h1 (Nat.succ_ne_zero 1) _ _ _ hP hS (lv_sub hl [0, 1, 3] rfl)
  · replace h := o_ff c19 h
    refine lv_aload_n hx hb d_MM_part_312 rfl (lv_at hl 0 rfl) ?_
    refine o_get (v := .ref (ad 30)) C in_MM hP 0 mw_0 rfl 50 (by decide) k_8_40 rfl rfl d_MM_part_313 ?_
    refine lv_iload hx hb d_MM_part_316 (lv_at hl 4 rfl) ?_
    obtain ⟨g20, h⟩ := o_gd_some h
    refine o_iald (f := (NH_partRow u305_Nh)) C hP 30 29 mw_30 rfl g20 d_MM_part_318 ?_
    refine lv_bipush (v := (48:Int32)) hx hb d_MM_part_319 (by decide) ?_
    refine lv_bipush (v := (57:Int32)) hx hb d_MM_part_321 (by decide) ?_
    obtain ⟨q2, hq2, h⟩ := o_bd_some h
    refine o_S (st1 := [.int q2]) (w1 := (m_cw ad ca ky ty u305_rt u305_Ni u305_Np u305_No u305_Nx u305_Nf u305_Na u305_Nh u305_Nq u305_Nj u305_M0 u305_M1)) hE.1 C (e_MM_in hE hKy l ((NH_partRow u305_Nh) z.2.toNatClampNeg) (48:Int32) (57:Int32) u305_Ni u305_Np u305_No u305_Nx u305_Nf u305_Na u305_Nh u305_Nq u305_Nj u305_M0 u305_M1 u305_rt hq2) hP (hDD _ _ _ _ _ _ _ _ _ _ _ _) hS hl.1 k_9_41 k_8_201 k_1_12 k_8_202 hs_MM_in rfl rfl ⟨(Nat.le_of_ble_eq_true rfl), (Nat.le_of_ble_eq_true rfl)⟩ rfl (Nat.le_of_ble_eq_true rfl) ⟨Nat.zero_le _, Nat.zero_le _⟩ rfl d_MM_part_323 (fun H locs hP hS => ?_)
    refine lv_if_ne (tgt := 331) hx hb d_MM_part_326 (by decide) (fun c21 => ?_) (fun c21 => ?_)
    · replace h := o_ff c21 h
      refine lv_bipush (v := (10:Int32)) hx hb d_MM_part_331 (by decide) ?_
      refine lv_iload hx hb d_MM_part_333 (lv_at hl 3 rfl) ?_
      refine lv_imul hx hb d_MM_part_335 ?_
      refine lv_aload_n hx hb d_MM_part_336 rfl (lv_at hl 0 rfl) ?_
      refine o_get (v := .ref (ad 30)) C in_MM hP 0 mw_0 rfl 50 (by decide) k_8_40 rfl rfl d_MM_part_337 ?_
      refine lv_iload hx hb d_MM_part_340 (lv_at hl 4 rfl) ?_
      obtain ⟨g22, h⟩ := o_gd_some h
      refine o_iald (f := (NH_partRow u305_Nh)) C hP 30 29 mw_30 rfl g22 d_MM_part_342 ?_
      refine lv_iadd hx hb d_MM_part_343 ?_
      refine lv_bipush (v := (48:Int32)) hx hb d_MM_part_344 (by decide) ?_
      refine lv_isub hx hb d_MM_part_346 ?_
      refine lv_topi (fun x5_347 ex5_347 => ?_)
      replace h := o_nm_at ex5_347 h
      refine lv_istore (lv' := [(5, .int x5_347), (0, .ref (ad 0)), (1, .int u305_x1), (4, .int u305_x4), (6, .int z.2)]) hx hb d_MM_part_347 hl (by decide) rfl (fun ls hl => ?_)
      obtain ⟨x6_349, ex6_349⟩ : ∃ y : Int32, y = z.2 + (1:Int32) := ⟨_, rfl⟩
      replace h := o_nm_at ex6_349 h
      refine lv_iinc (v := x6_349) (lv' := [(6, .int x6_349), (5, .int x5_347), (0, .ref (ad 0)), (1, .int u305_x1), (4, .int u305_x4)]) hx hb d_MM_part_349 hl (k := 4) rfl (by rw [ex6_349]; rfl) (by decide) rfl (fun ls hl => ?_)
      refine lv_goto (tgt := 305) hx hb d_MM_part_352 (by decide) ?_
      cases h
      exact h0 rfl _ _ _ hP hS (lv_sub hl [2, 3, 4, 1, 0] rfl)
    · replace h := o_tt c21 h
      cases h
      exact h1 (Nat.succ_ne_zero 0) _ _ _ hP hS (lv_sub hl [] rfl)
set_option maxHeartbeats 4000000 in
set_option maxRecDepth 100000 in
theorem f_MM_part_b366 {E : (Nat → Prop) → State → Heap → Prop} {p : Program} {l : Launch} {e : Env} {s : State} {m : MethodId} {args : Array Value} {below : List Frame} {meth : Method} {c : Code} {D : va_G} {ad kd sd vd xd : Nat → Nat} {ca : Nat → ClassId} {A : Nat → Prop} {ky ty : Nat → Option Nat} {Q : State → Prop} (hE : o_EK E kd sd vd xd) (hKy : m_KY ky ty sd) (C : o_Cx E p s m args meth c D m_cls (m_tys ca) "SchemaJudgeModel" b_MM_part (some .int) 9 cc_MM_part A) (hDD : ∀ (rt : Nat) (Ni : SNI) (Np : SNP) (No : SNO) (Nx : SNX) (Nf : SNF) (Na : SNA) (Nh : SNH) (Nq : SNQ) (Nj : SNJ) (M0 : SMT) (M1 : SMT), va_D A (m_cw ad ca ky ty rt Ni Np No Nx Nf Na Nh Nq Nj M0 M1)) (n : Nat) (u366_M0 : SMT) (u366_Nh : SNH) (u366_Ni : SNI) (u366_Np : SNP) (u366_No : SNO) (u366_Nx : SNX) (u366_Nf : SNF) (u366_Na : SNA) (u366_Nq : SNQ) (u366_Nj : SNJ) (u366_M1 : SMT) (u366_rt : Nat) (z : Int32 × Int32) (q : Nat × Int32 × Int32) (h : m_MM_part_b366 n u366_M0 u366_Nh z = some q) (h0 : q.1 = 0 → o_At p l e rm_MM_part s m args below meth c Q m_cls D A 9 366 [] (m_cw ad ca ky ty u366_rt u366_Ni u366_Np u366_No u366_Nx u366_Nf u366_Na u366_Nh u366_Nq u366_Nj u366_M0 u366_M1) [(0, .ref (ad 0)), (5, .int q.2.1), (6, .int q.2.2)]) (h1 : q.1 ≠ 0 → (o_At p l e rm_MM_part s m args below meth c Q m_cls D A 9 394 [] (m_cw ad ca ky ty u366_rt u366_Ni u366_Np u366_No u366_Nx u366_Nf u366_Na u366_Nh u366_Nq u366_Nj u366_M0 u366_M1) [(6, .int q.2.2)])) : o_At p l e rm_MM_part s m args below meth c Q m_cls D A 9 366 [] (m_cw ad ca ky ty u366_rt u366_Ni u366_Np u366_No u366_Nx u366_Nf u366_Na u366_Nh u366_Nq u366_Nj u366_M0 u366_M1) [(0, .ref (ad 0)), (5, .int z.1), (6, .int z.2)] := by
  unfold m_MM_part_b366 at h
  intro H locs ls hP hS hl
  have C0 := C
  obtain ⟨hx, hb, -, -, -, hown, hts, hK, -, -⟩ := C0
  refine lv_iload hx hb d_MM_part_366 (lv_at hl 2 rfl) ?_
  refine lv_if_lt (tgt := 394) hx hb d_MM_part_368 (by decide) (fun c24 => ?_) (fun c24 => ?_)
  · replace h := o_tt c24 h
    cases h
    exact h1 (Nat.succ_ne_zero 0) _ _ _ hP hS (lv_sub hl [2] rfl)
  · replace h := o_ff c24 h
    refine lv_iload hx hb d_MM_part_371 (lv_at hl 1 rfl) ?_
    refine lv_if_le (tgt := 394) hx hb d_MM_part_373 (by decide) (fun c25 => ?_) (fun c25 => ?_)
    · replace h := o_tt c25 h
      cases h
      exact h1 (Nat.succ_ne_zero 0) _ _ _ hP hS (lv_sub hl [2] rfl)
    · replace h := o_ff c25 h
      refine lv_aload_n hx hb d_MM_part_376 rfl (lv_at hl 0 rfl) ?_
      refine o_get (v := .ref (ad 33)) C in_MM hP 0 mw_0 rfl 4 (by decide) k_7_234 rfl rfl d_MM_part_377 ?_
      refine o_get (v := .ref (ad 41)) C in_MT hP 33 mw_33 rfl 7 (by decide) k_7_115 rfl rfl d_MM_part_380 ?_
      refine lv_iload hx hb d_MM_part_383 (lv_at hl 2 rfl) ?_
      obtain ⟨g26, h⟩ := o_gd_some h
      refine o_iald (f := (MT_next u366_M0)) C hP 41 39 mw_41 rfl g26 d_MM_part_385 ?_
      refine lv_topi (fun x6_386 ex6_386 => ?_)
      replace h := o_nm_at ex6_386 h
      refine lv_istore (lv' := [(6, .int x6_386), (0, .ref (ad 0)), (5, .int z.1)]) hx hb d_MM_part_386 hl (by decide) rfl (fun ls hl => ?_)
      obtain ⟨x5_388, ex5_388⟩ : ∃ y : Int32, y = z.1 + (-1:Int32) := ⟨_, rfl⟩
      replace h := o_nm_at ex5_388 h
      refine lv_iinc (v := x5_388) (lv' := [(5, .int x5_388), (6, .int x6_386), (0, .ref (ad 0))]) hx hb d_MM_part_388 hl (k := 2) rfl (by rw [ex5_388]; rfl) (by decide) rfl (fun ls hl => ?_)
      refine lv_goto (tgt := 366) hx hb d_MM_part_391 (by decide) ?_
      cases h
      exact h0 rfl _ _ _ hP hS (lv_sub hl [2, 0, 1] rfl)
set_option maxHeartbeats 4000000 in
set_option maxRecDepth 100000 in
theorem f_MM_part_j291 {E : (Nat → Prop) → State → Heap → Prop} {p : Program} {l : Launch} {e : Env} {s : State} {m : MethodId} {args : Array Value} {below : List Frame} {meth : Method} {c : Code} {D : va_G} {ad kd sd vd xd : Nat → Nat} {ca : Nat → ClassId} {A : Nat → Prop} {ky ty : Nat → Option Nat} (hE : o_EK E kd sd vd xd) (hKy : m_KY ky ty sd) (C : o_Cx E p s m args meth c D m_cls (m_tys ca) "SchemaJudgeModel" b_MM_part (some .int) 9 cc_MM_part A) (hDD : ∀ (rt : Nat) (Ni : SNI) (Np : SNP) (No : SNO) (Nx : SNX) (Nf : SNF) (Na : SNA) (Nh : SNH) (Nq : SNQ) (Nj : SNJ) (M0 : SMT) (M1 : SMT), va_D A (m_cw ad ca ky ty rt Ni Np No Nx Nf Na Nh Nq Nj M0 M1)) (n : Nat) (x1 : Int32) (x4 : Int32) (M0 : SMT) (Nh : SNH) (Ni : SNI) (Np : SNP) (No : SNO) (Nx : SNX) (Nf : SNF) (Na : SNA) (Nq : SNQ) (Nj : SNJ) (M1 : SMT) (rt : Nat) {r : Int32 × SNH} (h : m_MM_part_j291 n x1 x4 M0 Nh = some r) : o_At p l e rm_MM_part s m args below meth c (MQ below (o_Qx D m_cls (some (.int r.1)) (m_cw ad ca ky ty rt Ni Np No Nx Nf Na r.2 Nq Nj M0 M1) A) args s 0 0 A) m_cls D A 9 291 [] (m_cw ad ca ky ty rt Ni Np No Nx Nf Na Nh Nq Nj M0 M1) [(0, .ref (ad 0)), (1, .int x1), (4, .int x4)] := by
  unfold m_MM_part_j291 at h
  intro H locs ls hP hS hl
  have C0 := C
  obtain ⟨hx, hb, -, -, -, hown, hts, hK, -, -⟩ := C0
  refine lv_iload hx hb d_MM_part_291 (lv_at hl 2 rfl) ?_
  refine lv_iconst (v := (3:Int32)) hx hb d_MM_part_293 (by decide) ?_
  refine lv_icmp_le (tgt := 299) hx hb d_MM_part_294 (by decide) (fun c18 => ?_) (fun c18 => ?_)
  · replace h := o_tt c18 h
    refine lv_iconst (v := (0:Int32)) hx hb d_MM_part_299 (by decide) ?_
    refine lv_istore (lv' := [(5, .int (0:Int32)), (0, .ref (ad 0)), (1, .int x1), (4, .int x4)]) hx hb d_MM_part_300 hl (by decide) rfl (fun ls hl => ?_)
    refine lv_iconst (v := (0:Int32)) hx hb d_MM_part_302 (by decide) ?_
    refine lv_istore (lv' := [(6, .int (0:Int32)), (5, .int (0:Int32)), (0, .ref (ad 0)), (1, .int x1), (4, .int x4)]) hx hb d_MM_part_303 hl (by decide) rfl (fun ls hl => ?_)
    obtain ⟨q3, hq3, h⟩ := o_bd_some h
    refine o_sim2 (AH := fun zz => o_At p l e rm_MM_part s m args below meth c _ m_cls D A 9 305 [] (m_cw ad ca ky ty rt Ni Np No Nx Nf Na Nh Nq Nj M0 M1) [(0, .ref (ad 0)), (1, .int x1), (4, .int x4), (5, .int zz.1), (6, .int zz.2)]) (AX := fun qq => if qq.1 = 1 then o_At p l e rm_MM_part s m args below meth c _ m_cls D A 9 329 [] (m_cw ad ca ky ty rt Ni Np No Nx Nf Na Nh Nq Nj M0 M1) [] else o_At p l e rm_MM_part s m args below meth c _ m_cls D A 9 355 [] (m_cw ad ca ky ty rt Ni Np No Nx Nf Na Nh Nq Nj M0 M1) [(0, .ref (ad 0)), (1, .int x1), (5, .int qq.2.1)]) (fun zz qq h h0 h1 => f_MM_part_b305 hE hKy C hDD n x1 x4 M0 Nh Ni Np No Nx Nf Na Nq Nj M1 rt zz qq h h0 h1) n _ q3 hq3 ?_ _ _ _ hP hS (lv_sub hl [2, 3, 4, 1, 0] rfl)
    by_cases c27 : q3.1 = 1
    · replace h := o_tt c27 h
      refine o_ip c27 ?_
      intro H locs ls hP hS hl
      refine lv_iconst (v := (-1:Int32)) hx hb d_MM_part_329 (by decide) ?_
      cases h
      exact o_ri (v := (-1:Int32)) C hP hS d_MM_part_330
    replace h := o_ff c27 h
    refine o_in_ c27 ?_
    intro H locs ls hP hS hl
    refine lv_aload_n hx hb d_MM_part_355 rfl (lv_at hl 0 rfl) ?_
    refine o_get (v := .ref (ad 33)) C in_MM hP 0 mw_0 rfl 4 (by decide) k_7_234 rfl rfl d_MM_part_356 ?_
    refine o_get (v := .ref (ad 40)) C in_MT hP 33 mw_33 rfl 6 (by decide) k_7_113 rfl rfl d_MM_part_359 ?_
    refine lv_iload_n hx hb d_MM_part_362 rfl (lv_at hl 1 rfl) ?_
    obtain ⟨g23, h⟩ := o_gd_some h
    refine o_iald (f := (MT_first M0)) C hP 40 38 mw_40 rfl g23 d_MM_part_363 ?_
    refine lv_topi (fun x6_364 ex6_364 => ?_)
    replace h := o_nm_at ex6_364 h
    refine lv_istore (lv' := [(6, .int x6_364), (0, .ref (ad 0)), (1, .int x1), (5, .int q3.2.1)]) hx hb d_MM_part_364 hl (by decide) rfl (fun ls hl => ?_)
    obtain ⟨q4, hq4, h⟩ := o_bd_some h
    refine o_sim2 (AH := fun zz => o_At p l e rm_MM_part s m args below meth c _ m_cls D A 9 366 [] (m_cw ad ca ky ty rt Ni Np No Nx Nf Na Nh Nq Nj M0 M1) [(0, .ref (ad 0)), (5, .int zz.1), (6, .int zz.2)]) (AX := fun qq => o_At p l e rm_MM_part s m args below meth c _ m_cls D A 9 394 [] (m_cw ad ca ky ty rt Ni Np No Nx Nf Na Nh Nq Nj M0 M1) [(6, .int qq.2.2)]) (fun zz qq h h0 h1 => f_MM_part_b366 hE hKy C hDD n M0 Nh Ni Np No Nx Nf Na Nq Nj M1 rt zz qq h h0 h1) n _ q4 hq4 ?_ _ _ _ hP hS (lv_sub hl [1, 3, 0] rfl)
    intro H locs ls hP hS hl
    refine lv_iload hx hb d_MM_part_394 (lv_at hl 0 rfl) ?_
    cases h
    exact o_ri C hP hS d_MM_part_396
  · replace h := o_ff c18 h
    refine lv_iconst (v := (-1:Int32)) hx hb d_MM_part_297 (by decide) ?_
    cases h
    exact o_ri (v := (-1:Int32)) C hP hS d_MM_part_298
set_option maxHeartbeats 4000000 in
set_option maxRecDepth 100000 in
theorem f_MM_part_b175 {E : (Nat → Prop) → State → Heap → Prop} {p : Program} {l : Launch} {e : Env} {s : State} {m : MethodId} {args : Array Value} {below : List Frame} {meth : Method} {c : Code} {D : va_G} {ad kd sd vd xd : Nat → Nat} {ca : Nat → ClassId} {A : Nat → Prop} {ky ty : Nat → Option Nat} {Q : State → Prop} (hE : o_EK E kd sd vd xd) (hKy : m_KY ky ty sd) (C : o_Cx E p s m args meth c D m_cls (m_tys ca) "SchemaJudgeModel" b_MM_part (some .int) 9 cc_MM_part A) (hDD : ∀ (rt : Nat) (Ni : SNI) (Np : SNP) (No : SNO) (Nx : SNX) (Nf : SNF) (Na : SNA) (Nh : SNH) (Nq : SNQ) (Nj : SNJ) (M0 : SMT) (M1 : SMT), va_D A (m_cw ad ca ky ty rt Ni Np No Nx Nf Na Nh Nq Nj M0 M1)) (n : Nat) (u175_x4 : Int32) (u175_x5 : Int32) (u175_x6 : Int32) (u175_M0 : SMT) (u175_Nh : SNH) (u175_Ni : SNI) (u175_Np : SNP) (u175_No : SNO) (u175_Nx : SNX) (u175_Nf : SNF) (u175_Na : SNA) (u175_Nq : SNQ) (u175_Nj : SNJ) (u175_M1 : SMT) (u175_rt : Nat) (z : Int32 × Int32) (q : Nat × Int32 × Int32) (h : m_MM_part_b175 n u175_x4 u175_x5 u175_x6 u175_M0 u175_Nh z = some q) (h0 : q.1 = 0 → o_At p l e rm_MM_part s m args below meth c Q m_cls D A 9 175 [] (m_cw ad ca ky ty u175_rt u175_Ni u175_Np u175_No u175_Nx u175_Nf u175_Na u175_Nh u175_Nq u175_Nj u175_M0 u175_M1) [(0, .ref (ad 0)), (4, .int u175_x4), (5, .int u175_x5), (6, .int u175_x6), (7, .int q.2.1), (8, .int q.2.2)]) (h1 : q.1 ≠ 0 → (o_At p l e rm_MM_part s m args below meth c Q m_cls D A 9 231 [] (m_cw ad ca ky ty u175_rt u175_Ni u175_Np u175_No u175_Nx u175_Nf u175_Na u175_Nh u175_Nq u175_Nj u175_M0 u175_M1) [(0, .ref (ad 0)), (4, .int u175_x4), (5, .int u175_x5), (7, .int q.2.1)])) : o_At p l e rm_MM_part s m args below meth c Q m_cls D A 9 175 [] (m_cw ad ca ky ty u175_rt u175_Ni u175_Np u175_No u175_Nx u175_Nf u175_Na u175_Nh u175_Nq u175_Nj u175_M0 u175_M1) [(0, .ref (ad 0)), (4, .int u175_x4), (5, .int u175_x5), (6, .int u175_x6), (7, .int z.1), (8, .int z.2)] := by
  unfold m_MM_part_b175 at h
  intro H locs ls hP hS hl
  have C0 := C
  obtain ⟨hx, hb, -, -, -, hown, hts, hK, -, -⟩ := C0
  refine lv_iload hx hb d_MM_part_175 (lv_at hl 4 rfl) ?_
  refine lv_if_eq (tgt := 231) hx hb d_MM_part_177 (by decide) (fun c35 => ?_) (fun c35 => ?_)
  · replace h := o_tt c35 h
    cases h
    exact h1 (Nat.succ_ne_zero 0) _ _ _ hP hS (lv_sub hl [0, 1, 2, 4] rfl)
  · replace h := o_ff c35 h
    refine lv_iload hx hb d_MM_part_180 (lv_at hl 5 rfl) ?_
    refine lv_iload hx hb d_MM_part_182 (lv_at hl 1 rfl) ?_
    refine lv_icmp_ge (tgt := 231) hx hb d_MM_part_184 (by decide) (fun c36 => ?_) (fun c36 => ?_)
    · replace h := o_tt c36 h
      cases h
      exact h1 (Nat.succ_ne_zero 0) _ _ _ hP hS (lv_sub hl [0, 1, 2, 4] rfl)
    · replace h := o_ff c36 h
      refine lv_aload_n hx hb d_MM_part_187 rfl (lv_at hl 0 rfl) ?_
      refine o_get (v := .ref (ad 33)) C in_MM hP 0 mw_0 rfl 4 (by decide) k_7_234 rfl rfl d_MM_part_188 ?_
      refine o_get (v := .ref (ad 44)) C in_MT hP 33 mw_33 rfl 10 (by decide) k_7_121 rfl rfl d_MM_part_191 ?_
      refine lv_aload_n hx hb d_MM_part_194 rfl (lv_at hl 0 rfl) ?_
      refine o_get (v := .ref (ad 33)) C in_MM hP 0 mw_0 rfl 4 (by decide) k_7_234 rfl rfl d_MM_part_195 ?_
      refine o_get (v := .ref (ad 43)) C in_MT hP 33 mw_33 rfl 9 (by decide) k_7_119 rfl rfl d_MM_part_198 ?_
      refine lv_iload hx hb d_MM_part_201 (lv_at hl 3 rfl) ?_
      obtain ⟨g37, h⟩ := o_gd_some h
      refine o_iald (f := (MT_from u175_M0)) C hP 43 41 mw_43 rfl g37 d_MM_part_203 ?_
      refine lv_iload hx hb d_MM_part_204 (lv_at hl 5 rfl) ?_
      refine lv_iadd hx hb d_MM_part_206 ?_
      obtain ⟨g38, h⟩ := o_gd_some h
      refine o_iald (f := (MT_characters u175_M0)) C hP 44 42 mw_44 rfl g38 d_MM_part_207 ?_
      refine lv_aload_n hx hb d_MM_part_208 rfl (lv_at hl 0 rfl) ?_
      refine o_get (v := .ref (ad 30)) C in_MM hP 0 mw_0 rfl 50 (by decide) k_8_40 rfl rfl d_MM_part_209 ?_
      refine lv_iload hx hb d_MM_part_212 (lv_at hl 5 rfl) ?_
      obtain ⟨g39, h⟩ := o_gd_some h
      refine o_iald (f := (NH_partRow u175_Nh)) C hP 30 29 mw_30 rfl g39 d_MM_part_214 ?_
      refine lv_icmp_ne (tgt := 222) hx hb d_MM_part_215 (by decide) (fun c40 => ?_) (fun c40 => ?_)
      · replace h := o_ff c40 h
        refine lv_iconst (v := (0:Int32)) hx hb d_MM_part_222 (by decide) ?_
        refine lv_istore (lv' := [(7, .int (0:Int32)), (0, .ref (ad 0)), (4, .int u175_x4), (5, .int u175_x5), (6, .int u175_x6), (8, .int z.2)]) hx hb d_MM_part_223 hl (by decide) rfl (fun ls hl => ?_)
        obtain ⟨x8_225, ex8_225⟩ : ∃ y : Int32, y = z.2 + (1:Int32) := ⟨_, rfl⟩
        replace h := o_nm_at ex8_225 h
        refine lv_iinc (v := x8_225) (lv' := [(8, .int x8_225), (7, .int (0:Int32)), (0, .ref (ad 0)), (4, .int u175_x4), (5, .int u175_x5), (6, .int u175_x6)]) hx hb d_MM_part_225 hl (k := 5) rfl (by rw [ex8_225]; rfl) (by decide) rfl (fun ls hl => ?_)
        refine lv_goto (tgt := 175) hx hb d_MM_part_228 (by decide) ?_
        cases h
        exact h0 rfl _ _ _ hP hS (lv_sub hl [2, 3, 4, 5, 1, 0] rfl)
      · replace h := o_tt c40 h
        refine lv_iconst (v := (1:Int32)) hx hb d_MM_part_218 (by decide) ?_
        refine lv_goto (tgt := 223) hx hb d_MM_part_219 (by decide) ?_
        refine lv_istore (lv' := [(7, .int (1:Int32)), (0, .ref (ad 0)), (4, .int u175_x4), (5, .int u175_x5), (6, .int u175_x6), (8, .int z.2)]) hx hb d_MM_part_223 hl (by decide) rfl (fun ls hl => ?_)
        obtain ⟨x8_225, ex8_225⟩ : ∃ y : Int32, y = z.2 + (1:Int32) := ⟨_, rfl⟩
        replace h := o_nm_at ex8_225 h
        refine lv_iinc (v := x8_225) (lv' := [(8, .int x8_225), (7, .int (1:Int32)), (0, .ref (ad 0)), (4, .int u175_x4), (5, .int u175_x5), (6, .int u175_x6)]) hx hb d_MM_part_225 hl (k := 5) rfl (by rw [ex8_225]; rfl) (by decide) rfl (fun ls hl => ?_)
        refine lv_goto (tgt := 175) hx hb d_MM_part_228 (by decide) ?_
        cases h
        exact h0 rfl _ _ _ hP hS (lv_sub hl [2, 3, 4, 5, 1, 0] rfl)
set_option maxHeartbeats 4000000 in
set_option maxRecDepth 100000 in
theorem f_MM_part_j231 {E : (Nat → Prop) → State → Heap → Prop} {p : Program} {l : Launch} {e : Env} {s : State} {m : MethodId} {args : Array Value} {below : List Frame} {meth : Method} {c : Code} {D : va_G} {ad kd sd vd xd : Nat → Nat} {ca : Nat → ClassId} {A : Nat → Prop} {ky ty : Nat → Option Nat} {Q : State → Prop} (hE : o_EK E kd sd vd xd) (hKy : m_KY ky ty sd) (C : o_Cx E p s m args meth c D m_cls (m_tys ca) "SchemaJudgeModel" b_MM_part (some .int) 9 cc_MM_part A) (hDD : ∀ (rt : Nat) (Ni : SNI) (Np : SNP) (No : SNO) (Nx : SNX) (Nf : SNF) (Na : SNA) (Nh : SNH) (Nq : SNQ) (Nj : SNJ) (M0 : SMT) (M1 : SMT), va_D A (m_cw ad ca ky ty rt Ni Np No Nx Nf Na Nh Nq Nj M0 M1)) (n : Nat) (u133_x4 : Int32) (u133_M0 : SMT) (u133_Nh : SNH) (u133_Ni : SNI) (u133_Np : SNP) (u133_No : SNO) (u133_Nx : SNX) (u133_Nf : SNF) (u133_Na : SNA) (u133_Nq : SNQ) (u133_Nj : SNJ) (u133_M1 : SMT) (u133_rt : Nat) (x5 : Int32) (x7 : Int32) {q : Nat × Int32} (h : m_MM_part_j231 n u133_x4 x5 x7 u133_M0 u133_Nh = some q) (h0 : q.1 = 0 → o_At p l e rm_MM_part s m args below meth c Q m_cls D A 9 133 [] (m_cw ad ca ky ty u133_rt u133_Ni u133_Np u133_No u133_Nx u133_Nf u133_Na u133_Nh u133_Nq u133_Nj u133_M0 u133_M1) [(0, .ref (ad 0)), (4, .int u133_x4), (5, .int q.2)]) (h1 : q.1 ≠ 0 → (if q.1 = 1 then o_At p l e rm_MM_part s m args below meth c Q m_cls D A 9 236 [] (m_cw ad ca ky ty u133_rt u133_Ni u133_Np u133_No u133_Nx u133_Nf u133_Na u133_Nh u133_Nq u133_Nj u133_M0 u133_M1) [(5, .int q.2)] else o_At p l e rm_MM_part s m args below meth c Q m_cls D A 9 254 [] (m_cw ad ca ky ty u133_rt u133_Ni u133_Np u133_No u133_Nx u133_Nf u133_Na u133_Nh u133_Nq u133_Nj u133_M0 u133_M1) [])) : o_At p l e rm_MM_part s m args below meth c Q m_cls D A 9 231 [] (m_cw ad ca ky ty u133_rt u133_Ni u133_Np u133_No u133_Nx u133_Nf u133_Na u133_Nh u133_Nq u133_Nj u133_M0 u133_M1) [(0, .ref (ad 0)), (4, .int u133_x4), (5, .int x5), (7, .int x7)] := by
  unfold m_MM_part_j231 at h
  intro H locs ls hP hS hl
  have C0 := C
  obtain ⟨hx, hb, -, -, -, hown, hts, hK, -, -⟩ := C0
  refine lv_iload hx hb d_MM_part_231 (lv_at hl 3 rfl) ?_
  refine lv_if_eq (tgt := 239) hx hb d_MM_part_233 (by decide) (fun c41 => ?_) (fun c41 => ?_)
  · replace h := o_tt c41 h
    refine lv_aload_n hx hb d_MM_part_239 rfl (lv_at hl 0 rfl) ?_
    refine o_get (v := .ref (ad 33)) C in_MM hP 0 mw_0 rfl 4 (by decide) k_7_234 rfl rfl d_MM_part_240 ?_
    refine o_get (v := .ref (ad 41)) C in_MT hP 33 mw_33 rfl 7 (by decide) k_7_115 rfl rfl d_MM_part_243 ?_
    refine lv_iload hx hb d_MM_part_246 (lv_at hl 2 rfl) ?_
    obtain ⟨g42, h⟩ := o_gd_some h
    refine o_iald (f := (MT_next u133_M0)) C hP 41 39 mw_41 rfl g42 d_MM_part_248 ?_
    refine lv_topi (fun x5_249 ex5_249 => ?_)
    replace h := o_nm_at ex5_249 h
    refine lv_istore (lv' := [(5, .int x5_249), (0, .ref (ad 0)), (4, .int u133_x4), (7, .int x7)]) hx hb d_MM_part_249 hl (by decide) rfl (fun ls hl => ?_)
    refine lv_goto (tgt := 133) hx hb d_MM_part_251 (by decide) ?_
    cases h
    exact h0 rfl _ _ _ hP hS (lv_sub hl [1, 2, 0] rfl)
  · replace h := o_ff c41 h
    cases h
    exact h1 (Nat.succ_ne_zero 0) _ _ _ hP hS (lv_sub hl [2] rfl)
set_option maxHeartbeats 4000000 in
set_option maxRecDepth 100000 in
theorem f_MM_part_b133 {E : (Nat → Prop) → State → Heap → Prop} {p : Program} {l : Launch} {e : Env} {s : State} {m : MethodId} {args : Array Value} {below : List Frame} {meth : Method} {c : Code} {D : va_G} {ad kd sd vd xd : Nat → Nat} {ca : Nat → ClassId} {A : Nat → Prop} {ky ty : Nat → Option Nat} {Q : State → Prop} (hE : o_EK E kd sd vd xd) (hKy : m_KY ky ty sd) (C : o_Cx E p s m args meth c D m_cls (m_tys ca) "SchemaJudgeModel" b_MM_part (some .int) 9 cc_MM_part A) (hDD : ∀ (rt : Nat) (Ni : SNI) (Np : SNP) (No : SNO) (Nx : SNX) (Nf : SNF) (Na : SNA) (Nh : SNH) (Nq : SNQ) (Nj : SNJ) (M0 : SMT) (M1 : SMT), va_D A (m_cw ad ca ky ty rt Ni Np No Nx Nf Na Nh Nq Nj M0 M1)) (n : Nat) (u133_x4 : Int32) (u133_M0 : SMT) (u133_Nh : SNH) (u133_Ni : SNI) (u133_Np : SNP) (u133_No : SNO) (u133_Nx : SNX) (u133_Nf : SNF) (u133_Na : SNA) (u133_Nq : SNQ) (u133_Nj : SNJ) (u133_M1 : SMT) (u133_rt : Nat) (z : Int32) (q : Nat × Int32) (h : m_MM_part_b133 n u133_x4 u133_M0 u133_Nh z = some q) (h0 : q.1 = 0 → o_At p l e rm_MM_part s m args below meth c Q m_cls D A 9 133 [] (m_cw ad ca ky ty u133_rt u133_Ni u133_Np u133_No u133_Nx u133_Nf u133_Na u133_Nh u133_Nq u133_Nj u133_M0 u133_M1) [(0, .ref (ad 0)), (4, .int u133_x4), (5, .int q.2)]) (h1 : q.1 ≠ 0 → (if q.1 = 1 then o_At p l e rm_MM_part s m args below meth c Q m_cls D A 9 236 [] (m_cw ad ca ky ty u133_rt u133_Ni u133_Np u133_No u133_Nx u133_Nf u133_Na u133_Nh u133_Nq u133_Nj u133_M0 u133_M1) [(5, .int q.2)] else o_At p l e rm_MM_part s m args below meth c Q m_cls D A 9 254 [] (m_cw ad ca ky ty u133_rt u133_Ni u133_Np u133_No u133_Nx u133_Nf u133_Na u133_Nh u133_Nq u133_Nj u133_M0 u133_M1) [])) : o_At p l e rm_MM_part s m args below meth c Q m_cls D A 9 133 [] (m_cw ad ca ky ty u133_rt u133_Ni u133_Np u133_No u133_Nx u133_Nf u133_Na u133_Nh u133_Nq u133_Nj u133_M0 u133_M1) [(0, .ref (ad 0)), (4, .int u133_x4), (5, .int z)] := by
  unfold m_MM_part_b133 at h
  intro H locs ls hP hS hl
  have C0 := C
  obtain ⟨hx, hb, -, -, -, hown, hts, hK, -, -⟩ := C0
  refine lv_iload hx hb d_MM_part_133 (lv_at hl 2 rfl) ?_
  refine lv_if_lt (tgt := 254) hx hb d_MM_part_135 (by decide) (fun c31 => ?_) (fun c31 => ?_)
  · replace h := o_tt c31 h
    cases h
    exact h1 (Nat.succ_ne_zero 1) _ _ _ hP hS (lv_sub hl [] rfl)
  · replace h := o_ff c31 h
    refine lv_aload_n hx hb d_MM_part_138 rfl (lv_at hl 0 rfl) ?_
    refine o_get (v := .ref (ad 33)) C in_MM hP 0 mw_0 rfl 4 (by decide) k_7_234 rfl rfl d_MM_part_139 ?_
    refine o_get (v := .ref (ad 42)) C in_MT hP 33 mw_33 rfl 8 (by decide) k_7_117 rfl rfl d_MM_part_142 ?_
    refine lv_iload hx hb d_MM_part_145 (lv_at hl 2 rfl) ?_
    obtain ⟨g32, h⟩ := o_gd_some h
    refine o_iald (f := (MT_name u133_M0)) C hP 42 40 mw_42 rfl g32 d_MM_part_147 ?_
    refine lv_topi (fun x6_148 ex6_148 => ?_)
    replace h := o_nm_at ex6_148 h
    refine lv_istore (lv' := [(6, .int x6_148), (0, .ref (ad 0)), (4, .int u133_x4), (5, .int z)]) hx hb d_MM_part_148 hl (by decide) rfl (fun ls hl => ?_)
    refine lv_aload_n hx hb d_MM_part_150 rfl (lv_at hl 1 rfl) ?_
    refine o_get (v := .ref (ad 33)) C in_MM hP 0 mw_0 rfl 4 (by decide) k_7_234 rfl rfl d_MM_part_151 ?_
    refine o_get (v := .ref (ad 37)) C in_MT hP 33 mw_33 rfl 3 (by decide) k_7_107 rfl rfl d_MM_part_154 ?_
    refine lv_iload hx hb d_MM_part_157 (lv_at hl 0 rfl) ?_
    obtain ⟨g33, h⟩ := o_gd_some h
    refine o_iald (f := (MT_many u133_M0)) C hP 37 35 mw_37 rfl g33 d_MM_part_159 ?_
    refine lv_iload hx hb d_MM_part_160 (lv_at hl 2 rfl) ?_
    refine lv_icmp_ne (tgt := 169) hx hb d_MM_part_162 (by decide) (fun c34 => ?_) (fun c34 => ?_)
    · replace h := o_ff c34 h
      refine lv_iconst (v := (0:Int32)) hx hb d_MM_part_169 (by decide) ?_
      refine lv_istore (lv' := [(7, .int (0:Int32)), (6, .int x6_148), (0, .ref (ad 0)), (4, .int u133_x4), (5, .int z)]) hx hb d_MM_part_170 hl (by decide) rfl (fun ls hl => ?_)
      refine lv_iconst (v := (0:Int32)) hx hb d_MM_part_172 (by decide) ?_
      refine lv_istore (lv' := [(8, .int (0:Int32)), (7, .int (0:Int32)), (6, .int x6_148), (0, .ref (ad 0)), (4, .int u133_x4), (5, .int z)]) hx hb d_MM_part_173 hl (by decide) rfl (fun ls hl => ?_)
      obtain ⟨q5, hq5, h⟩ := o_bd_some h
      refine o_sim2 (AH := fun zz => o_At p l e rm_MM_part s m args below meth c _ m_cls D A 9 175 [] (m_cw ad ca ky ty u133_rt u133_Ni u133_Np u133_No u133_Nx u133_Nf u133_Na u133_Nh u133_Nq u133_Nj u133_M0 u133_M1) [(0, .ref (ad 0)), (4, .int u133_x4), (5, .int z), (6, .int x6_148), (7, .int zz.1), (8, .int zz.2)]) (AX := fun qq => o_At p l e rm_MM_part s m args below meth c _ m_cls D A 9 231 [] (m_cw ad ca ky ty u133_rt u133_Ni u133_Np u133_No u133_Nx u133_Nf u133_Na u133_Nh u133_Nq u133_Nj u133_M0 u133_M1) [(0, .ref (ad 0)), (4, .int u133_x4), (5, .int z), (7, .int qq.2.1)]) (fun zz qq h h0 h1 => f_MM_part_b175 hE hKy C hDD n u133_x4 z x6_148 u133_M0 u133_Nh u133_Ni u133_Np u133_No u133_Nx u133_Nf u133_Na u133_Nq u133_Nj u133_M1 u133_rt zz qq h h0 h1) n _ q5 hq5 ?_ _ _ _ hP hS (lv_sub hl [3, 4, 5, 2, 1, 0] rfl)
      intro H locs ls hP hS hl
      exact f_MM_part_j231 hE hKy C hDD n u133_x4 u133_M0 u133_Nh u133_Ni u133_Np u133_No u133_Nx u133_Nf u133_Na u133_Nq u133_Nj u133_M1 u133_rt z q5.2.1 h h0 h1 _ _ _ hP hS (lv_sub hl [0, 1, 2, 3] rfl)
    · replace h := o_tt c34 h
      refine lv_iconst (v := (1:Int32)) hx hb d_MM_part_165 (by decide) ?_
      refine lv_goto (tgt := 170) hx hb d_MM_part_166 (by decide) ?_
      refine lv_istore (lv' := [(7, .int (1:Int32)), (6, .int x6_148), (0, .ref (ad 0)), (4, .int u133_x4), (5, .int z)]) hx hb d_MM_part_170 hl (by decide) rfl (fun ls hl => ?_)
      refine lv_iconst (v := (0:Int32)) hx hb d_MM_part_172 (by decide) ?_
      refine lv_istore (lv' := [(8, .int (0:Int32)), (7, .int (1:Int32)), (6, .int x6_148), (0, .ref (ad 0)), (4, .int u133_x4), (5, .int z)]) hx hb d_MM_part_173 hl (by decide) rfl (fun ls hl => ?_)
      obtain ⟨q6, hq6, h⟩ := o_bd_some h
      refine o_sim2 (AH := fun zz => o_At p l e rm_MM_part s m args below meth c _ m_cls D A 9 175 [] (m_cw ad ca ky ty u133_rt u133_Ni u133_Np u133_No u133_Nx u133_Nf u133_Na u133_Nh u133_Nq u133_Nj u133_M0 u133_M1) [(0, .ref (ad 0)), (4, .int u133_x4), (5, .int z), (6, .int x6_148), (7, .int zz.1), (8, .int zz.2)]) (AX := fun qq => o_At p l e rm_MM_part s m args below meth c _ m_cls D A 9 231 [] (m_cw ad ca ky ty u133_rt u133_Ni u133_Np u133_No u133_Nx u133_Nf u133_Na u133_Nh u133_Nq u133_Nj u133_M0 u133_M1) [(0, .ref (ad 0)), (4, .int u133_x4), (5, .int z), (7, .int qq.2.1)]) (fun zz qq h h0 h1 => f_MM_part_b175 hE hKy C hDD n u133_x4 z x6_148 u133_M0 u133_Nh u133_Ni u133_Np u133_No u133_Nx u133_Nf u133_Na u133_Nq u133_Nj u133_M1 u133_rt zz qq h h0 h1) n _ q6 hq6 ?_ _ _ _ hP hS (lv_sub hl [3, 4, 5, 2, 1, 0] rfl)
      intro H locs ls hP hS hl
      exact f_MM_part_j231 hE hKy C hDD n u133_x4 u133_M0 u133_Nh u133_Ni u133_Np u133_No u133_Nx u133_Nf u133_Na u133_Nq u133_Nj u133_M1 u133_rt z q6.2.1 h h0 h1 _ _ _ hP hS (lv_sub hl [0, 1, 2, 3] rfl)
set_option maxHeartbeats 4000000 in
set_option maxRecDepth 100000 in
theorem e_MM_part {E : (Nat → Prop) → State → Heap → Prop} {D : va_G} {ad kd sd vd xd : Nat → Nat} {ca : Nat → ClassId} {ky ty : Nat → Option Nat} (hE : o_EK E kd sd vd xd) (hKy : m_KY ky ty sd) (l : Launch) (n : Nat) (x1 : Int32) (x2 : Int32) (x3 : Int32) (M0 : SMT) (Nh : SNH) (Ni : SNI) (Np : SNP) (No : SNO) (Nx : SNX) (Nf : SNF) (Na : SNA) (Nq : SNQ) (Nj : SNJ) (M1 : SMT) (rt : Nat) {r : Int32 × SNH} (h : m_MM_part n x1 x2 x3 M0 Nh = some r) : o_Cn E l D m_cls (m_tys ca) y_MM_part cc_MM_part rm_MM_part [.ref (ad 0), .int x1, .int x2, .int x3] (m_cw ad ca ky ty rt Ni Np No Nx Nf Na Nh Nq Nj M0 M1) (m_cw ad ca ky ty rt Ni Np No Nx Nf Na r.2 Nq Nj M0 M1) (some (.int r.1)) := by
  refine o_Cn_of (by decide) (Nat.le_of_ble_eq_true rfl) ?_
  intro p e s m below meth c A ls C hD hP hS hl
  have hDD : ∀ (rt : Nat) (Ni : SNI) (Np : SNP) (No : SNO) (Nx : SNX) (Nf : SNF) (Na : SNA) (Nh : SNH) (Nq : SNQ) (Nj : SNJ) (M0 : SMT) (M1 : SMT), va_D A (m_cw ad ca ky ty rt Ni Np No Nx Nf Na Nh Nq Nj M0 M1) := fun _ _ _ _ _ _ _ _ _ _ _ _ => o_D_map hD rfl
  have hl : lv_has ls 9 [(0, .ref (ad 0)), (1, .int x1), (2, .int x2), (3, .int x3)] := hl
  unfold m_MM_part at h
  have C0 := C
  obtain ⟨hx, hb, -, -, -, hown, hts, hK, -, -⟩ := C0
  refine lv_iconst (v := (0:Int32)) hx hb d_MM_part_0 (by decide) ?_
  refine lv_istore (lv' := [(4, .int (0:Int32)), (0, .ref (ad 0)), (1, .int x1), (2, .int x2), (3, .int x3)]) hx hb d_MM_part_1 hl (by decide) rfl (fun ls hl => ?_)
  refine lv_iload_n hx hb d_MM_part_3 rfl (lv_at hl 3 rfl) ?_
  refine lv_istore (lv' := [(5, .int x2), (4, .int (0:Int32)), (0, .ref (ad 0)), (1, .int x1), (2, .int x2), (3, .int x3)]) hx hb d_MM_part_4 hl (by decide) rfl (fun ls hl => ?_)
  obtain ⟨q1, hq1, h⟩ := o_bd_some h
  refine o_sim2 (AH := fun zz => o_At p l e rm_MM_part s m _ below meth c _ m_cls D A 9 6 [] (m_cw ad ca ky ty rt Ni Np No Nx Nf Na zz.2.2 Nq Nj M0 M1) [(0, .ref (ad 0)), (1, .int x1), (3, .int x3), (4, .int zz.1), (5, .int zz.2.1)]) (AX := fun qq => if qq.1 = 1 then o_At p l e rm_MM_part s m _ below meth c _ m_cls D A 9 64 [] (m_cw ad ca ky ty rt Ni Np No Nx Nf Na qq.2.2.2 Nq Nj M0 M1) [] else o_At p l e rm_MM_part s m _ below meth c _ m_cls D A 9 108 [] (m_cw ad ca ky ty rt Ni Np No Nx Nf Na qq.2.2.2 Nq Nj M0 M1) [(0, .ref (ad 0)), (1, .int x1), (4, .int qq.2.1)]) (fun zz qq h h0 h1 => f_MM_part_b6 hE hKy C hDD n x1 x3 M0 Ni Np No Nx Nf Na Nq Nj M1 rt zz qq h h0 h1) n _ q1 hq1 ?_ _ _ _ hP hS (lv_sub hl [2, 3, 5, 1, 0] rfl)
  by_cases c44 : q1.1 = 1
  · replace h := o_tt c44 h
    refine o_ip c44 ?_
    intro H locs ls hP hS hl
    refine lv_iconst (v := (-1:Int32)) hx hb d_MM_part_64 (by decide) ?_
    cases h
    exact o_ri (v := (-1:Int32)) C hP hS d_MM_part_65
  replace h := o_ff c44 h
  refine o_in_ c44 ?_
  intro H locs ls hP hS hl
  refine lv_aload_n hx hb d_MM_part_108 rfl (lv_at hl 0 rfl) ?_
  refine o_get (v := .ref (ad 33)) C in_MM hP 0 mw_0 rfl 4 (by decide) k_7_234 rfl rfl d_MM_part_109 ?_
  refine o_get (v := .ref (ad 35)) C in_MT hP 33 mw_33 rfl 1 (by decide) k_7_103 rfl rfl d_MM_part_112 ?_
  refine lv_iload_n hx hb d_MM_part_115 rfl (lv_at hl 1 rfl) ?_
  obtain ⟨g12, h⟩ := o_gd_some h
  refine o_iald (f := (MT_kind M0)) C hP 35 33 mw_35 rfl g12 d_MM_part_116 ?_
  refine lv_bipush (v := (6:Int32)) hx hb d_MM_part_117 (by decide) ?_
  refine lv_icmp_ne (tgt := 256) hx hb d_MM_part_119 (by decide) (fun c13 => ?_) (fun c13 => ?_)
  · replace h := o_ff c13 h
    refine lv_aload_n hx hb d_MM_part_256 rfl (lv_at hl 0 rfl) ?_
    refine o_get (v := .ref (ad 33)) C in_MM hP 0 mw_0 rfl 4 (by decide) k_7_234 rfl rfl d_MM_part_257 ?_
    refine o_get (v := .ref (ad 35)) C in_MT hP 33 mw_33 rfl 1 (by decide) k_7_103 rfl rfl d_MM_part_260 ?_
    refine lv_iload_n hx hb d_MM_part_263 rfl (lv_at hl 1 rfl) ?_
    obtain ⟨g14, h⟩ := o_gd_some h
    refine o_iald (f := (MT_kind M0)) C hP 35 33 mw_35 rfl g14 d_MM_part_264 ?_
    refine lv_iconst (v := (5:Int32)) hx hb d_MM_part_265 (by decide) ?_
    refine lv_icmp_ne (tgt := 297) hx hb d_MM_part_266 (by decide) (fun c15 => ?_) (fun c15 => ?_)
    · replace h := o_ff c15 h
      refine lv_iconst (v := (-1:Int32)) hx hb d_MM_part_297 (by decide) ?_
      cases h
      exact o_ri (v := (-1:Int32)) C hP hS d_MM_part_298
    · replace h := o_tt c15 h
      refine lv_iload hx hb d_MM_part_269 (lv_at hl 2 rfl) ?_
      refine lv_if_eq (tgt := 297) hx hb d_MM_part_271 (by decide) (fun c16 => ?_) (fun c16 => ?_)
      · replace h := o_tt c16 h
        refine lv_iconst (v := (-1:Int32)) hx hb d_MM_part_297 (by decide) ?_
        cases h
        exact o_ri (v := (-1:Int32)) C hP hS d_MM_part_298
      · replace h := o_ff c16 h
        refine lv_iload hx hb d_MM_part_274 (lv_at hl 2 rfl) ?_
        refine lv_iconst (v := (1:Int32)) hx hb d_MM_part_276 (by decide) ?_
        refine lv_icmp_le (tgt := 291) hx hb d_MM_part_277 (by decide) (fun c17 => ?_) (fun c17 => ?_)
        · replace h := o_tt c17 h
          exact f_MM_part_j291 hE hKy C hDD n x1 q1.2.1 M0 q1.2.2.2 Ni Np No Nx Nf Na Nq Nj M1 rt h _ _ _ hP hS (lv_sub hl [0, 1, 2] rfl)
        · replace h := o_ff c17 h
          refine lv_aload_n hx hb d_MM_part_280 rfl (lv_at hl 0 rfl) ?_
          refine o_get (v := .ref (ad 30)) C in_MM hP 0 mw_0 rfl 50 (by decide) k_8_40 rfl rfl d_MM_part_281 ?_
          refine lv_iconst (v := (0:Int32)) hx hb d_MM_part_284 (by decide) ?_
          obtain ⟨g28, h⟩ := o_gd_some h
          refine o_iald (f := (NH_partRow q1.2.2.2)) C hP 30 29 mw_30 rfl g28 d_MM_part_285 ?_
          refine lv_bipush (v := (48:Int32)) hx hb d_MM_part_286 (by decide) ?_
          refine lv_icmp_eq (tgt := 297) hx hb d_MM_part_288 (by decide) (fun c29 => ?_) (fun c29 => ?_)
          · replace h := o_tt c29 h
            refine lv_iconst (v := (-1:Int32)) hx hb d_MM_part_297 (by decide) ?_
            cases h
            exact o_ri (v := (-1:Int32)) C hP hS d_MM_part_298
          · replace h := o_ff c29 h
            exact f_MM_part_j291 hE hKy C hDD n x1 q1.2.1 M0 q1.2.2.2 Ni Np No Nx Nf Na Nq Nj M1 rt h _ _ _ hP hS (lv_sub hl [0, 1, 2] rfl)
  · replace h := o_tt c13 h
    refine lv_aload_n hx hb d_MM_part_122 rfl (lv_at hl 0 rfl) ?_
    refine o_get (v := .ref (ad 33)) C in_MM hP 0 mw_0 rfl 4 (by decide) k_7_234 rfl rfl d_MM_part_123 ?_
    refine o_get (v := .ref (ad 40)) C in_MT hP 33 mw_33 rfl 6 (by decide) k_7_113 rfl rfl d_MM_part_126 ?_
    refine lv_iload_n hx hb d_MM_part_129 rfl (lv_at hl 1 rfl) ?_
    obtain ⟨g30, h⟩ := o_gd_some h
    refine o_iald (f := (MT_first M0)) C hP 40 38 mw_40 rfl g30 d_MM_part_130 ?_
    refine lv_topi (fun x5_131 ex5_131 => ?_)
    replace h := o_nm_at ex5_131 h
    refine lv_istore (lv' := [(5, .int x5_131), (0, .ref (ad 0)), (1, .int x1), (4, .int q1.2.1)]) hx hb d_MM_part_131 hl (by decide) rfl (fun ls hl => ?_)
    obtain ⟨q7, hq7, h⟩ := o_bd_some h
    refine o_sim2 (AH := fun zz => o_At p l e rm_MM_part s m _ below meth c _ m_cls D A 9 133 [] (m_cw ad ca ky ty rt Ni Np No Nx Nf Na q1.2.2.2 Nq Nj M0 M1) [(0, .ref (ad 0)), (4, .int q1.2.1), (5, .int zz)]) (AX := fun qq => if qq.1 = 1 then o_At p l e rm_MM_part s m _ below meth c _ m_cls D A 9 236 [] (m_cw ad ca ky ty rt Ni Np No Nx Nf Na q1.2.2.2 Nq Nj M0 M1) [(5, .int qq.2)] else o_At p l e rm_MM_part s m _ below meth c _ m_cls D A 9 254 [] (m_cw ad ca ky ty rt Ni Np No Nx Nf Na q1.2.2.2 Nq Nj M0 M1) []) (fun zz qq h h0 h1 => f_MM_part_b133 hE hKy C hDD n q1.2.1 M0 q1.2.2.2 Ni Np No Nx Nf Na Nq Nj M1 rt zz qq h h0 h1) n _ q7 hq7 ?_ _ _ _ hP hS (lv_sub hl [1, 3, 0] rfl)
    by_cases c43 : q7.1 = 1
    · replace h := o_tt c43 h
      refine o_ip c43 ?_
      intro H locs ls hP hS hl
      refine lv_iload hx hb d_MM_part_236 (lv_at hl 0 rfl) ?_
      cases h
      exact o_ri C hP hS d_MM_part_238
    replace h := o_ff c43 h
    refine o_in_ c43 ?_
    intro H locs ls hP hS hl
    refine lv_iconst (v := (-1:Int32)) hx hb d_MM_part_254 (by decide) ?_
    cases h
    exact o_ri (v := (-1:Int32)) C hP hS d_MM_part_255
