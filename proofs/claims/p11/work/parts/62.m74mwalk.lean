set_option maxHeartbeats 4000000 in
set_option maxRecDepth 100000 in
theorem f_MM_leads_b221 {E : (Nat → Prop) → State → Heap → Prop} {p : Program} {l : Launch} {e : Env} {s : State} {m : MethodId} {args : Array Value} {below : List Frame} {meth : Method} {c : Code} {D : va_G} {ad kd sd vd xd : Nat → Nat} {ca : Nat → ClassId} {A : Nat → Prop} {ky ty : Nat → Option Nat} {Q : State → Prop} (hE : o_EK E kd sd vd xd) (hKy : m_KY ky ty sd) (C : o_Cx E p s m args meth c D m_cls (m_tys ca) "SchemaJudgeModel" b_MM_leads (some .int) 7 cc_MM_leads A) (hDD : ∀ (rt : Nat) (Ni : SNI) (Np : SNP) (No : SNO) (Nx : SNX) (Nf : SNF) (Na : SNA) (Nh : SNH) (Nq : SNQ) (Nj : SNJ) (M0 : SMT) (M1 : SMT), va_D A (m_cw ad ca ky ty rt Ni Np No Nx Nf Na Nh Nq Nj M0 M1)) (n : Nat) (u221_x4 : Int32) (u221_x5 : Int32) (u221_M0 : SMT) (u221_Na : SNA) (u221_Nh : SNH) (u221_Ni : SNI) (u221_Np : SNP) (u221_No : SNO) (u221_Nx : SNX) (u221_Nf : SNF) (u221_Nq : SNQ) (u221_Nj : SNJ) (u221_M1 : SMT) (u221_rt : Nat) (z : Int32) (q : Nat × Int32) (h : m_MM_leads_b221 n u221_x4 u221_x5 u221_M0 u221_Na u221_Nh z = some q) (h0 : q.1 = 0 → o_At p l e rm_MM_leads s m args below meth c Q m_cls D A 7 221 [] (m_cw ad ca ky ty u221_rt u221_Ni u221_Np u221_No u221_Nx u221_Nf u221_Na u221_Nh u221_Nq u221_Nj u221_M0 u221_M1) [(0, .ref (ad 0)), (4, .int u221_x4), (5, .int u221_x5), (6, .int q.2)]) (h1 : q.1 ≠ 0 → (o_At p l e rm_MM_leads s m args below meth c Q m_cls D A 7 248 [] (m_cw ad ca ky ty u221_rt u221_Ni u221_Np u221_No u221_Nx u221_Nf u221_Na u221_Nh u221_Nq u221_Nj u221_M0 u221_M1) [(0, .ref (ad 0)), (4, .int u221_x4), (5, .int u221_x5), (6, .int q.2)])) : o_At p l e rm_MM_leads s m args below meth c Q m_cls D A 7 221 [] (m_cw ad ca ky ty u221_rt u221_Ni u221_Np u221_No u221_Nx u221_Nf u221_Na u221_Nh u221_Nq u221_Nj u221_M0 u221_M1) [(0, .ref (ad 0)), (4, .int u221_x4), (5, .int u221_x5), (6, .int z)] := by
  unfold m_MM_leads_b221 at h
  intro H locs ls hP hS hl
  have C0 := C
  obtain ⟨hx, hb, -, -, -, hown, hts, hK, -, -⟩ := C0
  refine lv_iload hx hb d_MM_leads_221 (lv_at hl 3 rfl) ?_
  refine lv_aload_n hx hb d_MM_leads_223 rfl (lv_at hl 0 rfl) ?_
  refine o_get (v := .int (NH_pathSize u221_Nh)) C in_MM hP 0 mw_0 rfl 48 (by decide) k_8_38 rfl rfl d_MM_leads_224 ?_
  refine lv_icmp_ge (tgt := 248) hx hb d_MM_leads_227 (by decide) (fun c10 => ?_) (fun c10 => ?_)
  · replace h := o_tt c10 h
    cases h
    exact h1 (Nat.succ_ne_zero 0) _ _ _ hP hS (lv_sub hl [0, 1, 2, 3] rfl)
  · replace h := o_ff c10 h
    refine lv_aload_n hx hb d_MM_leads_230 rfl (lv_at hl 0 rfl) ?_
    refine o_get (v := .ref (ad 25)) C in_MM hP 0 mw_0 rfl 44 (by decide) k_8_34 rfl rfl d_MM_leads_231 ?_
    refine lv_iload hx hb d_MM_leads_234 (lv_at hl 3 rfl) ?_
    obtain ⟨g11, h⟩ := o_gd_some h
    refine o_iald (f := (NH_path u221_Nh)) C hP 25 24 mw_25 rfl g11 d_MM_leads_236 ?_
    refine lv_bipush (v := (47:Int32)) hx hb d_MM_leads_237 (by decide) ?_
    refine lv_icmp_eq (tgt := 248) hx hb d_MM_leads_239 (by decide) (fun c12 => ?_) (fun c12 => ?_)
    · replace h := o_tt c12 h
      cases h
      exact h1 (Nat.succ_ne_zero 0) _ _ _ hP hS (lv_sub hl [0, 1, 2, 3] rfl)
    · replace h := o_ff c12 h
      obtain ⟨x6_242, ex6_242⟩ : ∃ y : Int32, y = z + (1:Int32) := ⟨_, rfl⟩
      replace h := o_nm_at ex6_242 h
      refine lv_iinc (v := x6_242) (lv' := [(6, .int x6_242), (0, .ref (ad 0)), (4, .int u221_x4), (5, .int u221_x5)]) hx hb d_MM_leads_242 hl (k := 3) rfl (by rw [ex6_242]; rfl) (by decide) rfl (fun ls hl => ?_)
      refine lv_goto (tgt := 221) hx hb d_MM_leads_245 (by decide) ?_
      cases h
      exact h0 rfl _ _ _ hP hS (lv_sub hl [1, 2, 3, 0] rfl)
set_option maxHeartbeats 4000000 in
set_option maxRecDepth 100000 in
theorem f_MM_leads_j248 {E : (Nat → Prop) → State → Heap → Prop} {p : Program} {l : Launch} {e : Env} {s : State} {m : MethodId} {args : Array Value} {below : List Frame} {meth : Method} {c : Code} {D : va_G} {ad kd sd vd xd : Nat → Nat} {ca : Nat → ClassId} {A : Nat → Prop} {ky ty : Nat → Option Nat} {Q : State → Prop} (hE : o_EK E kd sd vd xd) (hKy : m_KY ky ty sd) (C : o_Cx E p s m args meth c D m_cls (m_tys ca) "SchemaJudgeModel" b_MM_leads (some .int) 7 cc_MM_leads A) (hDD : ∀ (rt : Nat) (Ni : SNI) (Np : SNP) (No : SNO) (Nx : SNX) (Nf : SNF) (Na : SNA) (Nh : SNH) (Nq : SNQ) (Nj : SNJ) (M0 : SMT) (M1 : SMT), va_D A (m_cw ad ca ky ty rt Ni Np No Nx Nf Na Nh Nq Nj M0 M1)) (n : Nat) (u217_M0 : SMT) (u217_Na : SNA) (u217_Ni : SNI) (u217_Np : SNP) (u217_No : SNO) (u217_Nx : SNX) (u217_Nf : SNF) (u217_Nq : SNQ) (u217_Nj : SNJ) (u217_M1 : SMT) (u217_rt : Nat) (x4 : Int32) (x5 : Int32) (x6 : Int32) (Nh : SNH) {q : Nat × Int32 × Int32 × SNH} (h : m_MM_leads_j248 n x4 x5 x6 u217_M0 u217_Na Nh = some q) (h0 : q.1 = 0 → o_At p l e rm_MM_leads s m args below meth c Q m_cls D A 7 217 [] (m_cw ad ca ky ty u217_rt u217_Ni u217_Np u217_No u217_Nx u217_Nf u217_Na q.2.2.2 u217_Nq u217_Nj u217_M0 u217_M1) [(0, .ref (ad 0)), (4, .int q.2.1), (5, .int q.2.2.1)]) (h1 : q.1 ≠ 0 → (if q.1 = 1 then o_At p l e rm_MM_leads s m args below meth c Q m_cls D A 7 265 [] (m_cw ad ca ky ty u217_rt u217_Ni u217_Np u217_No u217_Nx u217_Nf u217_Na q.2.2.2 u217_Nq u217_Nj u217_M0 u217_M1) [] else o_At p l e rm_MM_leads s m args below meth c Q m_cls D A 7 276 [] (m_cw ad ca ky ty u217_rt u217_Ni u217_Np u217_No u217_Nx u217_Nf u217_Na q.2.2.2 u217_Nq u217_Nj u217_M0 u217_M1) [(0, .ref (ad 0)), (4, .int q.2.1)])) : o_At p l e rm_MM_leads s m args below meth c Q m_cls D A 7 248 [] (m_cw ad ca ky ty u217_rt u217_Ni u217_Np u217_No u217_Nx u217_Nf u217_Na Nh u217_Nq u217_Nj u217_M0 u217_M1) [(0, .ref (ad 0)), (4, .int x4), (5, .int x5), (6, .int x6)] := by
  unfold m_MM_leads_j248 at h
  intro H locs ls hP hS hl
  have C0 := C
  obtain ⟨hx, hb, -, -, -, hown, hts, hK, -, -⟩ := C0
  refine lv_aload_n hx hb d_MM_leads_248 rfl (lv_at hl 0 rfl) ?_
  refine lv_iload hx hb d_MM_leads_249 (lv_at hl 1 rfl) ?_
  refine lv_iload hx hb d_MM_leads_251 (lv_at hl 2 rfl) ?_
  refine lv_iload hx hb d_MM_leads_253 (lv_at hl 3 rfl) ?_
  obtain ⟨q3, hq3, h⟩ := o_bd_some h
  refine o_V (st1 := [.int q3.1]) (w1 := (m_cw ad ca ky ty u217_rt u217_Ni u217_Np u217_No u217_Nx u217_Nf u217_Na q3.2 u217_Nq u217_Nj u217_M0 u217_M1)) hE.1 C (e_MM_part hE hKy l n x4 x5 x6 u217_M0 Nh u217_Ni u217_Np u217_No u217_Nx u217_Nf u217_Na u217_Nq u217_Nj u217_M1 u217_rt hq3) hP (hDD _ _ _ _ _ _ _ _ _ _ _ _) hS hl.1 rfl mw_0 k_9_190 k_9_192 k_s_113 k_1_12 k_9_193 hv_MM_part rfl rfl ⟨(Nat.le_of_ble_eq_true rfl), (Nat.le_of_ble_eq_true rfl)⟩ rfl (Nat.le_of_ble_eq_true rfl) ⟨Nat.zero_le _, Nat.zero_le _⟩ rfl d_MM_leads_255 (fun H locs hP hS => ?_)
  refine lv_istore (lv' := [(4, .int q3.1), (0, .ref (ad 0)), (5, .int x5), (6, .int x6)]) hx hb d_MM_leads_258 hl (by decide) rfl (fun ls hl => ?_)
  refine lv_iload hx hb d_MM_leads_260 (lv_at hl 0 rfl) ?_
  refine lv_if_ge (tgt := 267) hx hb d_MM_leads_262 (by decide) (fun c13 => ?_) (fun c13 => ?_)
  · replace h := o_tt c13 h
    refine lv_iload hx hb d_MM_leads_267 (lv_at hl 3 rfl) ?_
    refine lv_aload_n hx hb d_MM_leads_269 rfl (lv_at hl 1 rfl) ?_
    refine o_get (v := .int (NH_pathSize q3.2)) C in_MM hP 0 mw_0 rfl 48 (by decide) k_8_38 rfl rfl d_MM_leads_270 ?_
    refine lv_icmp_ne (tgt := 293) hx hb d_MM_leads_273 (by decide) (fun c14 => ?_) (fun c14 => ?_)
    · replace h := o_ff c14 h
      refine lv_iload hx hb d_MM_leads_293 (lv_at hl 3 rfl) ?_
      refine lv_iconst (v := (1:Int32)) hx hb d_MM_leads_295 (by decide) ?_
      refine lv_iadd hx hb d_MM_leads_296 ?_
      refine lv_topi (fun x5_297 ex5_297 => ?_)
      replace h := o_nm_at ex5_297 h
      refine lv_istore (lv' := [(5, .int x5_297), (4, .int q3.1), (0, .ref (ad 0)), (6, .int x6)]) hx hb d_MM_leads_297 hl (by decide) rfl (fun ls hl => ?_)
      refine lv_goto (tgt := 217) hx hb d_MM_leads_299 (by decide) ?_
      cases h
      exact h0 rfl _ _ _ hP hS (lv_sub hl [2, 1, 0] rfl)
    · replace h := o_tt c14 h
      cases h
      exact h1 (Nat.succ_ne_zero 1) _ _ _ hP hS (lv_sub hl [1, 0] rfl)
  · replace h := o_ff c13 h
    cases h
    exact h1 (Nat.succ_ne_zero 0) _ _ _ hP hS (lv_sub hl [] rfl)
set_option maxHeartbeats 4000000 in
set_option maxRecDepth 100000 in
theorem f_MM_leads_b217 {E : (Nat → Prop) → State → Heap → Prop} {p : Program} {l : Launch} {e : Env} {s : State} {m : MethodId} {args : Array Value} {below : List Frame} {meth : Method} {c : Code} {D : va_G} {ad kd sd vd xd : Nat → Nat} {ca : Nat → ClassId} {A : Nat → Prop} {ky ty : Nat → Option Nat} {Q : State → Prop} (hE : o_EK E kd sd vd xd) (hKy : m_KY ky ty sd) (C : o_Cx E p s m args meth c D m_cls (m_tys ca) "SchemaJudgeModel" b_MM_leads (some .int) 7 cc_MM_leads A) (hDD : ∀ (rt : Nat) (Ni : SNI) (Np : SNP) (No : SNO) (Nx : SNX) (Nf : SNF) (Na : SNA) (Nh : SNH) (Nq : SNQ) (Nj : SNJ) (M0 : SMT) (M1 : SMT), va_D A (m_cw ad ca ky ty rt Ni Np No Nx Nf Na Nh Nq Nj M0 M1)) (n : Nat) (u217_M0 : SMT) (u217_Na : SNA) (u217_Ni : SNI) (u217_Np : SNP) (u217_No : SNO) (u217_Nx : SNX) (u217_Nf : SNF) (u217_Nq : SNQ) (u217_Nj : SNJ) (u217_M1 : SMT) (u217_rt : Nat) (z : Int32 × Int32 × SNH) (q : Nat × Int32 × Int32 × SNH) (h : m_MM_leads_b217 n u217_M0 u217_Na z = some q) (h0 : q.1 = 0 → o_At p l e rm_MM_leads s m args below meth c Q m_cls D A 7 217 [] (m_cw ad ca ky ty u217_rt u217_Ni u217_Np u217_No u217_Nx u217_Nf u217_Na q.2.2.2 u217_Nq u217_Nj u217_M0 u217_M1) [(0, .ref (ad 0)), (4, .int q.2.1), (5, .int q.2.2.1)]) (h1 : q.1 ≠ 0 → (if q.1 = 1 then o_At p l e rm_MM_leads s m args below meth c Q m_cls D A 7 265 [] (m_cw ad ca ky ty u217_rt u217_Ni u217_Np u217_No u217_Nx u217_Nf u217_Na q.2.2.2 u217_Nq u217_Nj u217_M0 u217_M1) [] else o_At p l e rm_MM_leads s m args below meth c Q m_cls D A 7 276 [] (m_cw ad ca ky ty u217_rt u217_Ni u217_Np u217_No u217_Nx u217_Nf u217_Na q.2.2.2 u217_Nq u217_Nj u217_M0 u217_M1) [(0, .ref (ad 0)), (4, .int q.2.1)])) : o_At p l e rm_MM_leads s m args below meth c Q m_cls D A 7 217 [] (m_cw ad ca ky ty u217_rt u217_Ni u217_Np u217_No u217_Nx u217_Nf u217_Na z.2.2 u217_Nq u217_Nj u217_M0 u217_M1) [(0, .ref (ad 0)), (4, .int z.1), (5, .int z.2.1)] := by
  unfold m_MM_leads_b217 at h
  intro H locs ls hP hS hl
  have C0 := C
  obtain ⟨hx, hb, -, -, -, hown, hts, hK, -, -⟩ := C0
  refine lv_iload hx hb d_MM_leads_217 (lv_at hl 2 rfl) ?_
  refine lv_istore (lv' := [(6, .int z.2.1), (0, .ref (ad 0)), (4, .int z.1), (5, .int z.2.1)]) hx hb d_MM_leads_219 hl (by decide) rfl (fun ls hl => ?_)
  obtain ⟨q2, hq2, h⟩ := o_bd_some h
  refine o_sim2 (AH := fun zz => o_At p l e rm_MM_leads s m args below meth c _ m_cls D A 7 221 [] (m_cw ad ca ky ty u217_rt u217_Ni u217_Np u217_No u217_Nx u217_Nf u217_Na z.2.2 u217_Nq u217_Nj u217_M0 u217_M1) [(0, .ref (ad 0)), (4, .int z.1), (5, .int z.2.1), (6, .int zz)]) (AX := fun qq => o_At p l e rm_MM_leads s m args below meth c _ m_cls D A 7 248 [] (m_cw ad ca ky ty u217_rt u217_Ni u217_Np u217_No u217_Nx u217_Nf u217_Na z.2.2 u217_Nq u217_Nj u217_M0 u217_M1) [(0, .ref (ad 0)), (4, .int z.1), (5, .int z.2.1), (6, .int qq.2)]) (fun zz qq h h0 h1 => f_MM_leads_b221 hE hKy C hDD n z.1 z.2.1 u217_M0 u217_Na z.2.2 u217_Ni u217_Np u217_No u217_Nx u217_Nf u217_Nq u217_Nj u217_M1 u217_rt zz qq h h0 h1) n _ q2 hq2 ?_ _ _ _ hP hS (lv_sub hl [1, 2, 3, 0] rfl)
  intro H locs ls hP hS hl
  exact f_MM_leads_j248 hE hKy C hDD n u217_M0 u217_Na u217_Ni u217_Np u217_No u217_Nx u217_Nf u217_Nq u217_Nj u217_M1 u217_rt z.1 z.2.1 q2.2 z.2.2 h h0 h1 _ _ _ hP hS (lv_sub hl [0, 1, 2, 3] rfl)
set_option maxHeartbeats 4000000 in
set_option maxRecDepth 100000 in
theorem f_MM_leads_b106 {E : (Nat → Prop) → State → Heap → Prop} {p : Program} {l : Launch} {e : Env} {s : State} {m : MethodId} {args : Array Value} {below : List Frame} {meth : Method} {c : Code} {D : va_G} {ad kd sd vd xd : Nat → Nat} {ca : Nat → ClassId} {A : Nat → Prop} {ky ty : Nat → Option Nat} {Q : State → Prop} (hE : o_EK E kd sd vd xd) (hKy : m_KY ky ty sd) (C : o_Cx E p s m args meth c D m_cls (m_tys ca) "SchemaJudgeModel" b_MM_leads (some .int) 7 cc_MM_leads A) (hDD : ∀ (rt : Nat) (Ni : SNI) (Np : SNP) (No : SNO) (Nx : SNX) (Nf : SNF) (Na : SNA) (Nh : SNH) (Nq : SNQ) (Nj : SNJ) (M0 : SMT) (M1 : SMT), va_D A (m_cw ad ca ky ty rt Ni Np No Nx Nf Na Nh Nq Nj M0 M1)) (n : Nat) (u106_x2 : Int32) (u106_x3 : Int32) (u106_x4 : Int32) (u106_M0 : SMT) (u106_Na : SNA) (u106_Nh : SNH) (u106_Ni : SNI) (u106_Np : SNP) (u106_No : SNO) (u106_Nx : SNX) (u106_Nf : SNF) (u106_Nq : SNQ) (u106_Nj : SNJ) (u106_M1 : SMT) (u106_rt : Nat) (z : Int32 × Int32) (q : Nat × Int32 × Int32) (h : m_MM_leads_b106 n u106_x2 u106_x3 u106_x4 u106_M0 u106_Na u106_Nh z = some q) (h0 : q.1 = 0 → o_At p l e rm_MM_leads s m args below meth c Q m_cls D A 7 106 [] (m_cw ad ca ky ty u106_rt u106_Ni u106_Np u106_No u106_Nx u106_Nf u106_Na u106_Nh u106_Nq u106_Nj u106_M0 u106_M1) [(0, .ref (ad 0)), (2, .int u106_x2), (3, .int u106_x3), (4, .int u106_x4), (5, .int q.2.1), (6, .int q.2.2)]) (h1 : q.1 ≠ 0 → (o_At p l e rm_MM_leads s m args below meth c Q m_cls D A 7 175 [] (m_cw ad ca ky ty u106_rt u106_Ni u106_Np u106_No u106_Nx u106_Nf u106_Na u106_Nh u106_Nq u106_Nj u106_M0 u106_M1) [(0, .ref (ad 0)), (2, .int u106_x2), (3, .int u106_x3), (4, .int u106_x4), (5, .int q.2.1)])) : o_At p l e rm_MM_leads s m args below meth c Q m_cls D A 7 106 [] (m_cw ad ca ky ty u106_rt u106_Ni u106_Np u106_No u106_Nx u106_Nf u106_Na u106_Nh u106_Nq u106_Nj u106_M0 u106_M1) [(0, .ref (ad 0)), (2, .int u106_x2), (3, .int u106_x3), (4, .int u106_x4), (5, .int z.1), (6, .int z.2)] := by
  unfold m_MM_leads_b106 at h
  intro H locs ls hP hS hl
  have C0 := C
  obtain ⟨hx, hb, -, -, -, hown, hts, hK, -, -⟩ := C0
  refine lv_iload hx hb d_MM_leads_106 (lv_at hl 4 rfl) ?_
  refine lv_if_eq (tgt := 175) hx hb d_MM_leads_108 (by decide) (fun c22 => ?_) (fun c22 => ?_)
  · replace h := o_tt c22 h
    cases h
    exact h1 (Nat.succ_ne_zero 0) _ _ _ hP hS (lv_sub hl [0, 1, 2, 3, 4] rfl)
  · replace h := o_ff c22 h
    refine lv_iload hx hb d_MM_leads_111 (lv_at hl 5 rfl) ?_
    refine lv_iload_n hx hb d_MM_leads_113 rfl (lv_at hl 1 rfl) ?_
    refine lv_iconst (v := (1:Int32)) hx hb d_MM_leads_114 (by decide) ?_
    refine lv_isub hx hb d_MM_leads_115 ?_
    refine lv_icmp_ge (tgt := 175) hx hb d_MM_leads_116 (by decide) (fun c23 => ?_) (fun c23 => ?_)
    · replace h := o_tt c23 h
      cases h
      exact h1 (Nat.succ_ne_zero 0) _ _ _ hP hS (lv_sub hl [0, 1, 2, 3, 4] rfl)
    · replace h := o_ff c23 h
      refine lv_aload_n hx hb d_MM_leads_119 rfl (lv_at hl 0 rfl) ?_
      refine o_get (v := .ref (ad 33)) C in_MM hP 0 mw_0 rfl 4 (by decide) k_7_234 rfl rfl d_MM_leads_120 ?_
      refine o_get (v := .ref (ad 44)) C in_MT hP 33 mw_33 rfl 10 (by decide) k_7_121 rfl rfl d_MM_leads_123 ?_
      refine lv_aload_n hx hb d_MM_leads_126 rfl (lv_at hl 0 rfl) ?_
      refine o_get (v := .ref (ad 33)) C in_MM hP 0 mw_0 rfl 4 (by decide) k_7_234 rfl rfl d_MM_leads_127 ?_
      refine o_get (v := .ref (ad 43)) C in_MT hP 33 mw_33 rfl 9 (by decide) k_7_119 rfl rfl d_MM_leads_130 ?_
      refine lv_aload_n hx hb d_MM_leads_133 rfl (lv_at hl 0 rfl) ?_
      refine o_get (v := .ref (ad 23)) C in_MM hP 0 mw_0 rfl 42 (by decide) k_8_32 rfl rfl d_MM_leads_134 ?_
      refine lv_iload hx hb d_MM_leads_137 (lv_at hl 3 rfl) ?_
      obtain ⟨g24, h⟩ := o_gd_some h
      refine o_iald (f := (NA_anchorValue u106_Na)) C hP 23 22 mw_23 rfl g24 d_MM_leads_139 ?_
      obtain ⟨g25, h⟩ := o_gd_some h
      refine o_iald (f := (MT_from u106_M0)) C hP 43 41 mw_43 rfl g25 d_MM_leads_140 ?_
      refine lv_iload hx hb d_MM_leads_141 (lv_at hl 5 rfl) ?_
      refine lv_iadd hx hb d_MM_leads_143 ?_
      obtain ⟨g26, h⟩ := o_gd_some h
      refine o_iald (f := (MT_characters u106_M0)) C hP 44 42 mw_44 rfl g26 d_MM_leads_144 ?_
      refine lv_aload_n hx hb d_MM_leads_145 rfl (lv_at hl 0 rfl) ?_
      refine o_get (v := .ref (ad 33)) C in_MM hP 0 mw_0 rfl 4 (by decide) k_7_234 rfl rfl d_MM_leads_146 ?_
      refine o_get (v := .ref (ad 44)) C in_MT hP 33 mw_33 rfl 10 (by decide) k_7_121 rfl rfl d_MM_leads_149 ?_
      refine lv_iload_n hx hb d_MM_leads_152 rfl (lv_at hl 2 rfl) ?_
      refine lv_iconst (v := (1:Int32)) hx hb d_MM_leads_153 (by decide) ?_
      refine lv_iadd hx hb d_MM_leads_154 ?_
      refine lv_iload hx hb d_MM_leads_155 (lv_at hl 5 rfl) ?_
      refine lv_iadd hx hb d_MM_leads_157 ?_
      obtain ⟨g27, h⟩ := o_gd_some h
      refine o_iald (f := (MT_characters u106_M0)) C hP 44 42 mw_44 rfl g27 d_MM_leads_158 ?_
      refine lv_icmp_ne (tgt := 166) hx hb d_MM_leads_159 (by decide) (fun c28 => ?_) (fun c28 => ?_)
      · replace h := o_ff c28 h
        refine lv_iconst (v := (0:Int32)) hx hb d_MM_leads_166 (by decide) ?_
        refine lv_istore (lv' := [(5, .int (0:Int32)), (0, .ref (ad 0)), (2, .int u106_x2), (3, .int u106_x3), (4, .int u106_x4), (6, .int z.2)]) hx hb d_MM_leads_167 hl (by decide) rfl (fun ls hl => ?_)
        obtain ⟨x6_169, ex6_169⟩ : ∃ y : Int32, y = z.2 + (1:Int32) := ⟨_, rfl⟩
        replace h := o_nm_at ex6_169 h
        refine lv_iinc (v := x6_169) (lv' := [(6, .int x6_169), (5, .int (0:Int32)), (0, .ref (ad 0)), (2, .int u106_x2), (3, .int u106_x3), (4, .int u106_x4)]) hx hb d_MM_leads_169 hl (k := 5) rfl (by rw [ex6_169]; rfl) (by decide) rfl (fun ls hl => ?_)
        refine lv_goto (tgt := 106) hx hb d_MM_leads_172 (by decide) ?_
        cases h
        exact h0 rfl _ _ _ hP hS (lv_sub hl [2, 3, 4, 5, 1, 0] rfl)
      · replace h := o_tt c28 h
        refine lv_iconst (v := (1:Int32)) hx hb d_MM_leads_162 (by decide) ?_
        refine lv_goto (tgt := 167) hx hb d_MM_leads_163 (by decide) ?_
        refine lv_istore (lv' := [(5, .int (1:Int32)), (0, .ref (ad 0)), (2, .int u106_x2), (3, .int u106_x3), (4, .int u106_x4), (6, .int z.2)]) hx hb d_MM_leads_167 hl (by decide) rfl (fun ls hl => ?_)
        obtain ⟨x6_169, ex6_169⟩ : ∃ y : Int32, y = z.2 + (1:Int32) := ⟨_, rfl⟩
        replace h := o_nm_at ex6_169 h
        refine lv_iinc (v := x6_169) (lv' := [(6, .int x6_169), (5, .int (1:Int32)), (0, .ref (ad 0)), (2, .int u106_x2), (3, .int u106_x3), (4, .int u106_x4)]) hx hb d_MM_leads_169 hl (k := 5) rfl (by rw [ex6_169]; rfl) (by decide) rfl (fun ls hl => ?_)
        refine lv_goto (tgt := 106) hx hb d_MM_leads_172 (by decide) ?_
        cases h
        exact h0 rfl _ _ _ hP hS (lv_sub hl [2, 3, 4, 5, 1, 0] rfl)
set_option maxHeartbeats 4000000 in
set_option maxRecDepth 100000 in
theorem f_MM_leads_j175 {E : (Nat → Prop) → State → Heap → Prop} {p : Program} {l : Launch} {e : Env} {s : State} {m : MethodId} {args : Array Value} {below : List Frame} {meth : Method} {c : Code} {D : va_G} {ad kd sd vd xd : Nat → Nat} {ca : Nat → ClassId} {A : Nat → Prop} {ky ty : Nat → Option Nat} {Q : State → Prop} (hE : o_EK E kd sd vd xd) (hKy : m_KY ky ty sd) (C : o_Cx E p s m args meth c D m_cls (m_tys ca) "SchemaJudgeModel" b_MM_leads (some .int) 7 cc_MM_leads A) (hDD : ∀ (rt : Nat) (Ni : SNI) (Np : SNP) (No : SNO) (Nx : SNX) (Nf : SNF) (Na : SNA) (Nh : SNH) (Nq : SNQ) (Nj : SNJ) (M0 : SMT) (M1 : SMT), va_D A (m_cw ad ca ky ty rt Ni Np No Nx Nf Na Nh Nq Nj M0 M1)) (n : Nat) (u66_x2 : Int32) (u66_x3 : Int32) (u66_M0 : SMT) (u66_Na : SNA) (u66_Nh : SNH) (u66_Ni : SNI) (u66_Np : SNP) (u66_No : SNO) (u66_Nx : SNX) (u66_Nf : SNF) (u66_Nq : SNQ) (u66_Nj : SNJ) (u66_M1 : SMT) (u66_rt : Nat) (x4 : Int32) (x5 : Int32) {q : Nat × Int32} (h : m_MM_leads_j175 n u66_x2 u66_x3 x4 x5 u66_M0 u66_Na u66_Nh = some q) (h0 : q.1 = 0 → o_At p l e rm_MM_leads s m args below meth c Q m_cls D A 7 66 [] (m_cw ad ca ky ty u66_rt u66_Ni u66_Np u66_No u66_Nx u66_Nf u66_Na u66_Nh u66_Nq u66_Nj u66_M0 u66_M1) [(0, .ref (ad 0)), (2, .int u66_x2), (3, .int u66_x3), (4, .int q.2)]) (h1 : q.1 ≠ 0 → (if q.1 = 1 then o_At p l e rm_MM_leads s m args below meth c Q m_cls D A 7 180 [] (m_cw ad ca ky ty u66_rt u66_Ni u66_Np u66_No u66_Nx u66_Nf u66_Na u66_Nh u66_Nq u66_Nj u66_M0 u66_M1) [(0, .ref (ad 0)), (4, .int q.2)] else o_At p l e rm_MM_leads s m args below meth c Q m_cls D A 7 194 [] (m_cw ad ca ky ty u66_rt u66_Ni u66_Np u66_No u66_Nx u66_Nf u66_Na u66_Nh u66_Nq u66_Nj u66_M0 u66_M1) [])) : o_At p l e rm_MM_leads s m args below meth c Q m_cls D A 7 175 [] (m_cw ad ca ky ty u66_rt u66_Ni u66_Np u66_No u66_Nx u66_Nf u66_Na u66_Nh u66_Nq u66_Nj u66_M0 u66_M1) [(0, .ref (ad 0)), (2, .int u66_x2), (3, .int u66_x3), (4, .int x4), (5, .int x5)] := by
  unfold m_MM_leads_j175 at h
  intro H locs ls hP hS hl
  have C0 := C
  obtain ⟨hx, hb, -, -, -, hown, hts, hK, -, -⟩ := C0
  refine lv_iload hx hb d_MM_leads_175 (lv_at hl 4 rfl) ?_
  refine lv_if_eq (tgt := 188) hx hb d_MM_leads_177 (by decide) (fun c29 => ?_) (fun c29 => ?_)
  · replace h := o_tt c29 h
    obtain ⟨x4_188, ex4_188⟩ : ∃ y : Int32, y = x4 + (1:Int32) := ⟨_, rfl⟩
    replace h := o_nm_at ex4_188 h
    refine lv_iinc (v := x4_188) (lv' := [(4, .int x4_188), (0, .ref (ad 0)), (2, .int u66_x2), (3, .int u66_x3), (5, .int x5)]) hx hb d_MM_leads_188 hl (k := 3) rfl (by rw [ex4_188]; rfl) (by decide) rfl (fun ls hl => ?_)
    refine lv_goto (tgt := 66) hx hb d_MM_leads_191 (by decide) ?_
    cases h
    exact h0 rfl _ _ _ hP hS (lv_sub hl [1, 2, 3, 0] rfl)
  · replace h := o_ff c29 h
    cases h
    exact h1 (Nat.succ_ne_zero 0) _ _ _ hP hS (lv_sub hl [0, 3] rfl)
set_option maxHeartbeats 4000000 in
set_option maxRecDepth 100000 in
theorem f_MM_leads_b66 {E : (Nat → Prop) → State → Heap → Prop} {p : Program} {l : Launch} {e : Env} {s : State} {m : MethodId} {args : Array Value} {below : List Frame} {meth : Method} {c : Code} {D : va_G} {ad kd sd vd xd : Nat → Nat} {ca : Nat → ClassId} {A : Nat → Prop} {ky ty : Nat → Option Nat} {Q : State → Prop} (hE : o_EK E kd sd vd xd) (hKy : m_KY ky ty sd) (C : o_Cx E p s m args meth c D m_cls (m_tys ca) "SchemaJudgeModel" b_MM_leads (some .int) 7 cc_MM_leads A) (hDD : ∀ (rt : Nat) (Ni : SNI) (Np : SNP) (No : SNO) (Nx : SNX) (Nf : SNF) (Na : SNA) (Nh : SNH) (Nq : SNQ) (Nj : SNJ) (M0 : SMT) (M1 : SMT), va_D A (m_cw ad ca ky ty rt Ni Np No Nx Nf Na Nh Nq Nj M0 M1)) (n : Nat) (u66_x2 : Int32) (u66_x3 : Int32) (u66_M0 : SMT) (u66_Na : SNA) (u66_Nh : SNH) (u66_Ni : SNI) (u66_Np : SNP) (u66_No : SNO) (u66_Nx : SNX) (u66_Nf : SNF) (u66_Nq : SNQ) (u66_Nj : SNJ) (u66_M1 : SMT) (u66_rt : Nat) (z : Int32) (q : Nat × Int32) (h : m_MM_leads_b66 n u66_x2 u66_x3 u66_M0 u66_Na u66_Nh z = some q) (h0 : q.1 = 0 → o_At p l e rm_MM_leads s m args below meth c Q m_cls D A 7 66 [] (m_cw ad ca ky ty u66_rt u66_Ni u66_Np u66_No u66_Nx u66_Nf u66_Na u66_Nh u66_Nq u66_Nj u66_M0 u66_M1) [(0, .ref (ad 0)), (2, .int u66_x2), (3, .int u66_x3), (4, .int q.2)]) (h1 : q.1 ≠ 0 → (if q.1 = 1 then o_At p l e rm_MM_leads s m args below meth c Q m_cls D A 7 180 [] (m_cw ad ca ky ty u66_rt u66_Ni u66_Np u66_No u66_Nx u66_Nf u66_Na u66_Nh u66_Nq u66_Nj u66_M0 u66_M1) [(0, .ref (ad 0)), (4, .int q.2)] else o_At p l e rm_MM_leads s m args below meth c Q m_cls D A 7 194 [] (m_cw ad ca ky ty u66_rt u66_Ni u66_Np u66_No u66_Nx u66_Nf u66_Na u66_Nh u66_Nq u66_Nj u66_M0 u66_M1) [])) : o_At p l e rm_MM_leads s m args below meth c Q m_cls D A 7 66 [] (m_cw ad ca ky ty u66_rt u66_Ni u66_Np u66_No u66_Nx u66_Nf u66_Na u66_Nh u66_Nq u66_Nj u66_M0 u66_M1) [(0, .ref (ad 0)), (2, .int u66_x2), (3, .int u66_x3), (4, .int z)] := by
  unfold m_MM_leads_b66 at h
  intro H locs ls hP hS hl
  have C0 := C
  obtain ⟨hx, hb, -, -, -, hown, hts, hK, -, -⟩ := C0
  refine lv_iload hx hb d_MM_leads_66 (lv_at hl 3 rfl) ?_
  refine lv_aload_n hx hb d_MM_leads_68 rfl (lv_at hl 0 rfl) ?_
  refine o_get (v := .int (NA_anchors u66_Na)) C in_MM hP 0 mw_0 rfl 39 (by decide) k_8_29 rfl rfl d_MM_leads_69 ?_
  refine lv_icmp_ge (tgt := 194) hx hb d_MM_leads_72 (by decide) (fun c18 => ?_) (fun c18 => ?_)
  · replace h := o_tt c18 h
    cases h
    exact h1 (Nat.succ_ne_zero 1) _ _ _ hP hS (lv_sub hl [] rfl)
  · replace h := o_ff c18 h
    refine lv_aload_n hx hb d_MM_leads_75 rfl (lv_at hl 0 rfl) ?_
    refine o_get (v := .ref (ad 33)) C in_MM hP 0 mw_0 rfl 4 (by decide) k_7_234 rfl rfl d_MM_leads_76 ?_
    refine o_get (v := .ref (ad 37)) C in_MT hP 33 mw_33 rfl 3 (by decide) k_7_107 rfl rfl d_MM_leads_79 ?_
    refine lv_aload_n hx hb d_MM_leads_82 rfl (lv_at hl 0 rfl) ?_
    refine o_get (v := .ref (ad 23)) C in_MM hP 0 mw_0 rfl 42 (by decide) k_8_32 rfl rfl d_MM_leads_83 ?_
    refine lv_iload hx hb d_MM_leads_86 (lv_at hl 3 rfl) ?_
    obtain ⟨g19, h⟩ := o_gd_some h
    refine o_iald (f := (NA_anchorValue u66_Na)) C hP 23 22 mw_23 rfl g19 d_MM_leads_88 ?_
    obtain ⟨g20, h⟩ := o_gd_some h
    refine o_iald (f := (MT_many u66_M0)) C hP 37 35 mw_37 rfl g20 d_MM_leads_89 ?_
    refine lv_iload_n hx hb d_MM_leads_90 rfl (lv_at hl 1 rfl) ?_
    refine lv_iconst (v := (1:Int32)) hx hb d_MM_leads_91 (by decide) ?_
    refine lv_isub hx hb d_MM_leads_92 ?_
    refine lv_icmp_ne (tgt := 100) hx hb d_MM_leads_93 (by decide) (fun c21 => ?_) (fun c21 => ?_)
    · replace h := o_ff c21 h
      refine lv_iconst (v := (0:Int32)) hx hb d_MM_leads_100 (by decide) ?_
      refine lv_istore (lv' := [(5, .int (0:Int32)), (0, .ref (ad 0)), (2, .int u66_x2), (3, .int u66_x3), (4, .int z)]) hx hb d_MM_leads_101 hl (by decide) rfl (fun ls hl => ?_)
      refine lv_iconst (v := (0:Int32)) hx hb d_MM_leads_103 (by decide) ?_
      refine lv_istore (lv' := [(6, .int (0:Int32)), (5, .int (0:Int32)), (0, .ref (ad 0)), (2, .int u66_x2), (3, .int u66_x3), (4, .int z)]) hx hb d_MM_leads_104 hl (by decide) rfl (fun ls hl => ?_)
      obtain ⟨q5, hq5, h⟩ := o_bd_some h
      refine o_sim2 (AH := fun zz => o_At p l e rm_MM_leads s m args below meth c _ m_cls D A 7 106 [] (m_cw ad ca ky ty u66_rt u66_Ni u66_Np u66_No u66_Nx u66_Nf u66_Na u66_Nh u66_Nq u66_Nj u66_M0 u66_M1) [(0, .ref (ad 0)), (2, .int u66_x2), (3, .int u66_x3), (4, .int z), (5, .int zz.1), (6, .int zz.2)]) (AX := fun qq => o_At p l e rm_MM_leads s m args below meth c _ m_cls D A 7 175 [] (m_cw ad ca ky ty u66_rt u66_Ni u66_Np u66_No u66_Nx u66_Nf u66_Na u66_Nh u66_Nq u66_Nj u66_M0 u66_M1) [(0, .ref (ad 0)), (2, .int u66_x2), (3, .int u66_x3), (4, .int z), (5, .int qq.2.1)]) (fun zz qq h h0 h1 => f_MM_leads_b106 hE hKy C hDD n u66_x2 u66_x3 z u66_M0 u66_Na u66_Nh u66_Ni u66_Np u66_No u66_Nx u66_Nf u66_Nq u66_Nj u66_M1 u66_rt zz qq h h0 h1) n _ q5 hq5 ?_ _ _ _ hP hS (lv_sub hl [2, 3, 4, 5, 1, 0] rfl)
      intro H locs ls hP hS hl
      exact f_MM_leads_j175 hE hKy C hDD n u66_x2 u66_x3 u66_M0 u66_Na u66_Nh u66_Ni u66_Np u66_No u66_Nx u66_Nf u66_Nq u66_Nj u66_M1 u66_rt z q5.2.1 h h0 h1 _ _ _ hP hS (lv_sub hl [0, 1, 2, 3, 4] rfl)
    · replace h := o_tt c21 h
      refine lv_iconst (v := (1:Int32)) hx hb d_MM_leads_96 (by decide) ?_
      refine lv_goto (tgt := 101) hx hb d_MM_leads_97 (by decide) ?_
      refine lv_istore (lv' := [(5, .int (1:Int32)), (0, .ref (ad 0)), (2, .int u66_x2), (3, .int u66_x3), (4, .int z)]) hx hb d_MM_leads_101 hl (by decide) rfl (fun ls hl => ?_)
      refine lv_iconst (v := (0:Int32)) hx hb d_MM_leads_103 (by decide) ?_
      refine lv_istore (lv' := [(6, .int (0:Int32)), (5, .int (1:Int32)), (0, .ref (ad 0)), (2, .int u66_x2), (3, .int u66_x3), (4, .int z)]) hx hb d_MM_leads_104 hl (by decide) rfl (fun ls hl => ?_)
      obtain ⟨q6, hq6, h⟩ := o_bd_some h
      refine o_sim2 (AH := fun zz => o_At p l e rm_MM_leads s m args below meth c _ m_cls D A 7 106 [] (m_cw ad ca ky ty u66_rt u66_Ni u66_Np u66_No u66_Nx u66_Nf u66_Na u66_Nh u66_Nq u66_Nj u66_M0 u66_M1) [(0, .ref (ad 0)), (2, .int u66_x2), (3, .int u66_x3), (4, .int z), (5, .int zz.1), (6, .int zz.2)]) (AX := fun qq => o_At p l e rm_MM_leads s m args below meth c _ m_cls D A 7 175 [] (m_cw ad ca ky ty u66_rt u66_Ni u66_Np u66_No u66_Nx u66_Nf u66_Na u66_Nh u66_Nq u66_Nj u66_M0 u66_M1) [(0, .ref (ad 0)), (2, .int u66_x2), (3, .int u66_x3), (4, .int z), (5, .int qq.2.1)]) (fun zz qq h h0 h1 => f_MM_leads_b106 hE hKy C hDD n u66_x2 u66_x3 z u66_M0 u66_Na u66_Nh u66_Ni u66_Np u66_No u66_Nx u66_Nf u66_Nq u66_Nj u66_M1 u66_rt zz qq h h0 h1) n _ q6 hq6 ?_ _ _ _ hP hS (lv_sub hl [2, 3, 4, 5, 1, 0] rfl)
      intro H locs ls hP hS hl
      exact f_MM_leads_j175 hE hKy C hDD n u66_x2 u66_x3 u66_M0 u66_Na u66_Nh u66_Ni u66_Np u66_No u66_Nx u66_Nf u66_Nq u66_Nj u66_M1 u66_rt z q6.2.1 h h0 h1 _ _ _ hP hS (lv_sub hl [0, 1, 2, 3, 4] rfl)
set_option maxHeartbeats 4000000 in
set_option maxRecDepth 100000 in
theorem e_MM_leads {E : (Nat → Prop) → State → Heap → Prop} {D : va_G} {ad kd sd vd xd : Nat → Nat} {ca : Nat → ClassId} {ky ty : Nat → Option Nat} (hE : o_EK E kd sd vd xd) (hKy : m_KY ky ty sd) (l : Launch) (n : Nat) (x1 : Int32) (M0 : SMT) (Na : SNA) (Nh : SNH) (Ni : SNI) (Np : SNP) (No : SNO) (Nx : SNX) (Nf : SNF) (Nq : SNQ) (Nj : SNJ) (M1 : SMT) (rt : Nat) {r : Int32 × SNH} (h : m_MM_leads n x1 M0 Na Nh = some r) : o_Cn E l D m_cls (m_tys ca) y_MM_leads cc_MM_leads rm_MM_leads [.ref (ad 0), .int x1] (m_cw ad ca ky ty rt Ni Np No Nx Nf Na Nh Nq Nj M0 M1) (m_cw ad ca ky ty rt Ni Np No Nx Nf Na r.2 Nq Nj M0 M1) (some (.int r.1)) := by
  refine o_Cn_of (by decide) (Nat.le_of_ble_eq_true rfl) ?_
  intro p e s m below meth c A ls C hD hP hS hl
  have hDD : ∀ (rt : Nat) (Ni : SNI) (Np : SNP) (No : SNO) (Nx : SNX) (Nf : SNF) (Na : SNA) (Nh : SNH) (Nq : SNQ) (Nj : SNJ) (M0 : SMT) (M1 : SMT), va_D A (m_cw ad ca ky ty rt Ni Np No Nx Nf Na Nh Nq Nj M0 M1) := fun _ _ _ _ _ _ _ _ _ _ _ _ => o_D_map hD rfl
  have hl : lv_has ls 7 [(0, .ref (ad 0)), (1, .int x1)] := hl
  unfold m_MM_leads at h
  have C0 := C
  obtain ⟨hx, hb, -, -, -, hown, hts, hK, -, -⟩ := C0
  refine lv_aload_n hx hb d_MM_leads_0 rfl (lv_at hl 0 rfl) ?_
  refine o_get (v := .ref (ad 33)) C in_MM hP 0 mw_0 rfl 4 (by decide) k_7_234 rfl rfl d_MM_leads_1 ?_
  refine o_get (v := .ref (ad 37)) C in_MT hP 33 mw_33 rfl 3 (by decide) k_7_107 rfl rfl d_MM_leads_4 ?_
  refine lv_iload_n hx hb d_MM_leads_7 rfl (lv_at hl 1 rfl) ?_
  obtain ⟨g1, h⟩ := o_gd_some h
  refine o_iald (f := (MT_many M0)) C hP 37 35 mw_37 rfl g1 d_MM_leads_8 ?_
  refine lv_topi (fun x2_9 ex2_9 => ?_)
  replace h := o_nm_at ex2_9 h
  refine lv_istore_n (lv' := [(2, .int x2_9), (0, .ref (ad 0)), (1, .int x1)]) hx hb d_MM_leads_9 rfl hl (by decide) rfl (fun ls hl => ?_)
  refine lv_aload_n hx hb d_MM_leads_10 rfl (lv_at hl 1 rfl) ?_
  refine o_get (v := .ref (ad 33)) C in_MM hP 0 mw_0 rfl 4 (by decide) k_7_234 rfl rfl d_MM_leads_11 ?_
  refine o_get (v := .ref (ad 43)) C in_MT hP 33 mw_33 rfl 9 (by decide) k_7_119 rfl rfl d_MM_leads_14 ?_
  refine lv_iload_n hx hb d_MM_leads_17 rfl (lv_at hl 2 rfl) ?_
  obtain ⟨g2, h⟩ := o_gd_some h
  refine o_iald (f := (MT_from M0)) C hP 43 41 mw_43 rfl g2 d_MM_leads_18 ?_
  refine lv_topi (fun x3_19 ex3_19 => ?_)
  replace h := o_nm_at ex3_19 h
  refine lv_istore_n (lv' := [(3, .int x3_19), (2, .int x2_9), (0, .ref (ad 0)), (1, .int x1)]) hx hb d_MM_leads_19 rfl hl (by decide) rfl (fun ls hl => ?_)
  refine lv_iload_n hx hb d_MM_leads_20 rfl (lv_at hl 1 rfl) ?_
  refine lv_if_eq (tgt := 38) hx hb d_MM_leads_21 (by decide) (fun c3 => ?_) (fun c3 => ?_)
  · replace h := o_tt c3 h
    refine lv_iconst (v := (-1:Int32)) hx hb d_MM_leads_38 (by decide) ?_
    cases h
    exact o_ri (v := (-1:Int32)) C hP hS d_MM_leads_39
  · replace h := o_ff c3 h
    refine lv_aload_n hx hb d_MM_leads_24 rfl (lv_at hl 2 rfl) ?_
    refine o_get (v := .ref (ad 33)) C in_MM hP 0 mw_0 rfl 4 (by decide) k_7_234 rfl rfl d_MM_leads_25 ?_
    refine o_get (v := .ref (ad 44)) C in_MT hP 33 mw_33 rfl 10 (by decide) k_7_121 rfl rfl d_MM_leads_28 ?_
    refine lv_iload_n hx hb d_MM_leads_31 rfl (lv_at hl 0 rfl) ?_
    obtain ⟨g4, h⟩ := o_gd_some h
    refine o_iald (f := (MT_characters M0)) C hP 44 42 mw_44 rfl g4 d_MM_leads_32 ?_
    refine lv_bipush (v := (35:Int32)) hx hb d_MM_leads_33 (by decide) ?_
    refine lv_icmp_eq (tgt := 40) hx hb d_MM_leads_35 (by decide) (fun c5 => ?_) (fun c5 => ?_)
    · replace h := o_tt c5 h
      refine lv_iload_n hx hb d_MM_leads_40 rfl (lv_at hl 1 rfl) ?_
      refine lv_iconst (v := (1:Int32)) hx hb d_MM_leads_41 (by decide) ?_
      refine lv_icmp_ne (tgt := 47) hx hb d_MM_leads_42 (by decide) (fun c6 => ?_) (fun c6 => ?_)
      · replace h := o_ff c6 h
        refine lv_aload_n hx hb d_MM_leads_47 rfl (lv_at hl 2 rfl) ?_
        refine o_get (v := .ref (ad 33)) C in_MM hP 0 mw_0 rfl 4 (by decide) k_7_234 rfl rfl d_MM_leads_48 ?_
        refine o_get (v := .ref (ad 44)) C in_MT hP 33 mw_33 rfl 10 (by decide) k_7_121 rfl rfl d_MM_leads_51 ?_
        refine lv_iload_n hx hb d_MM_leads_54 rfl (lv_at hl 0 rfl) ?_
        refine lv_iconst (v := (1:Int32)) hx hb d_MM_leads_55 (by decide) ?_
        refine lv_iadd hx hb d_MM_leads_56 ?_
        obtain ⟨g7, h⟩ := o_gd_some h
        refine o_iald (f := (MT_characters M0)) C hP 44 42 mw_44 rfl g7 d_MM_leads_57 ?_
        refine lv_bipush (v := (47:Int32)) hx hb d_MM_leads_58 (by decide) ?_
        refine lv_icmp_eq (tgt := 196) hx hb d_MM_leads_60 (by decide) (fun c8 => ?_) (fun c8 => ?_)
        · replace h := o_tt c8 h
          refine lv_aload_n hx hb d_MM_leads_196 rfl (lv_at hl 2 rfl) ?_
          refine lv_iload_n hx hb d_MM_leads_197 rfl (lv_at hl 0 rfl) ?_
          refine lv_iconst (v := (2:Int32)) hx hb d_MM_leads_198 (by decide) ?_
          refine lv_iadd hx hb d_MM_leads_199 ?_
          refine lv_iload_n hx hb d_MM_leads_200 rfl (lv_at hl 0 rfl) ?_
          refine lv_iload_n hx hb d_MM_leads_201 rfl (lv_at hl 1 rfl) ?_
          refine lv_iadd hx hb d_MM_leads_202 ?_
          obtain ⟨q1, hq1, h⟩ := o_bd_some h
          refine o_V (st1 := [.int q1.1]) (w1 := (m_cw ad ca ky ty rt Ni Np No Nx Nf Na q1.2 Nq Nj M0 M1)) hE.1 C (e_MM_decode hE hKy l n (x3_19 + (2:Int32)) (x3_19 + x2_9) M0 Nh Ni Np No Nx Nf Na Nq Nj M1 rt hq1) hP (hDD _ _ _ _ _ _ _ _ _ _ _ _) hS hl.1 rfl mw_0 k_9_183 k_9_185 k_s_112 k_1_12 k_9_186 hv_MM_decode rfl rfl ⟨(Nat.le_of_ble_eq_true rfl), (Nat.le_of_ble_eq_true rfl)⟩ rfl (Nat.le_of_ble_eq_true rfl) ⟨Nat.zero_le _, Nat.zero_le _⟩ rfl d_MM_leads_203 (fun H locs hP hS => ?_)
          refine lv_if_ne (tgt := 211) hx hb d_MM_leads_206 (by decide) (fun c9 => ?_) (fun c9 => ?_)
          · replace h := o_ff c9 h
            refine lv_iconst (v := (0:Int32)) hx hb d_MM_leads_211 (by decide) ?_
            refine lv_istore (lv' := [(4, .int (0:Int32)), (3, .int x3_19), (2, .int x2_9), (0, .ref (ad 0)), (1, .int x1)]) hx hb d_MM_leads_212 hl (by decide) rfl (fun ls hl => ?_)
            refine lv_iconst (v := (0:Int32)) hx hb d_MM_leads_214 (by decide) ?_
            refine lv_istore (lv' := [(5, .int (0:Int32)), (4, .int (0:Int32)), (3, .int x3_19), (2, .int x2_9), (0, .ref (ad 0)), (1, .int x1)]) hx hb d_MM_leads_215 hl (by decide) rfl (fun ls hl => ?_)
            obtain ⟨q4, hq4, h⟩ := o_bd_some h
            refine o_sim2 (AH := fun zz => o_At p l e rm_MM_leads s m _ below meth c _ m_cls D A 7 217 [] (m_cw ad ca ky ty rt Ni Np No Nx Nf Na zz.2.2 Nq Nj M0 M1) [(0, .ref (ad 0)), (4, .int zz.1), (5, .int zz.2.1)]) (AX := fun qq => if qq.1 = 1 then o_At p l e rm_MM_leads s m _ below meth c _ m_cls D A 7 265 [] (m_cw ad ca ky ty rt Ni Np No Nx Nf Na qq.2.2.2 Nq Nj M0 M1) [] else o_At p l e rm_MM_leads s m _ below meth c _ m_cls D A 7 276 [] (m_cw ad ca ky ty rt Ni Np No Nx Nf Na qq.2.2.2 Nq Nj M0 M1) [(0, .ref (ad 0)), (4, .int qq.2.1)]) (fun zz qq h h0 h1 => f_MM_leads_b217 hE hKy C hDD n M0 Na Ni Np No Nx Nf Nq Nj M1 rt zz qq h h0 h1) n _ q4 hq4 ?_ _ _ _ hP hS (lv_sub hl [4, 1, 0] rfl)
            by_cases c17 : q4.1 = 1
            · replace h := o_tt c17 h
              refine o_ip c17 ?_
              intro H locs ls hP hS hl
              refine lv_iconst (v := (-1:Int32)) hx hb d_MM_leads_265 (by decide) ?_
              cases h
              exact o_ri (v := (-1:Int32)) C hP hS d_MM_leads_266
            replace h := o_ff c17 h
            refine o_in_ c17 ?_
            intro H locs ls hP hS hl
            refine lv_aload_n hx hb d_MM_leads_276 rfl (lv_at hl 0 rfl) ?_
            refine o_get (v := .ref (ad 27)) C in_MM hP 0 mw_0 rfl 46 (by decide) k_8_36 rfl rfl d_MM_leads_277 ?_
            refine lv_iload hx hb d_MM_leads_280 (lv_at hl 1 rfl) ?_
            obtain ⟨g15, h⟩ := o_gd_some h
            refine o_zald (f := (NA_isSchema Na)) C hP 27 26 mw_27 rfl g15 d_MM_leads_282 ?_
            refine lv_if_eq (tgt := 291) hx hb d_MM_leads_283 (by decide) (fun c16 => ?_) (fun c16 => ?_)
            · replace h := o_tt c16 h
              refine lv_iconst (v := (-1:Int32)) hx hb d_MM_leads_291 (by decide) ?_
              cases h
              exact o_ri (v := (-1:Int32)) C hP hS d_MM_leads_292
            · replace h := o_ff c16 h
              refine lv_iload hx hb d_MM_leads_286 (lv_at hl 1 rfl) ?_
              refine lv_goto (tgt := 292) hx hb d_MM_leads_288 (by decide) ?_
              cases h
              exact o_ri C hP hS d_MM_leads_292
          · replace h := o_tt c9 h
            refine lv_iconst (v := (-1:Int32)) hx hb d_MM_leads_209 (by decide) ?_
            cases h
            exact o_ri (v := (-1:Int32)) C hP hS d_MM_leads_210
        · replace h := o_ff c8 h
          refine lv_iconst (v := (0:Int32)) hx hb d_MM_leads_63 (by decide) ?_
          refine lv_istore (lv' := [(4, .int (0:Int32)), (3, .int x3_19), (2, .int x2_9), (0, .ref (ad 0)), (1, .int x1)]) hx hb d_MM_leads_64 hl (by decide) rfl (fun ls hl => ?_)
          obtain ⟨q7, hq7, h⟩ := o_bd_some h
          refine o_sim2 (AH := fun zz => o_At p l e rm_MM_leads s m _ below meth c _ m_cls D A 7 66 [] (m_cw ad ca ky ty rt Ni Np No Nx Nf Na Nh Nq Nj M0 M1) [(0, .ref (ad 0)), (2, .int x2_9), (3, .int x3_19), (4, .int zz)]) (AX := fun qq => if qq.1 = 1 then o_At p l e rm_MM_leads s m _ below meth c _ m_cls D A 7 180 [] (m_cw ad ca ky ty rt Ni Np No Nx Nf Na Nh Nq Nj M0 M1) [(0, .ref (ad 0)), (4, .int qq.2)] else o_At p l e rm_MM_leads s m _ below meth c _ m_cls D A 7 194 [] (m_cw ad ca ky ty rt Ni Np No Nx Nf Na Nh Nq Nj M0 M1) []) (fun zz qq h h0 h1 => f_MM_leads_b66 hE hKy C hDD n x2_9 x3_19 M0 Na Nh Ni Np No Nx Nf Nq Nj M1 rt zz qq h h0 h1) n _ q7 hq7 ?_ _ _ _ hP hS (lv_sub hl [3, 2, 1, 0] rfl)
          by_cases c31 : q7.1 = 1
          · replace h := o_tt c31 h
            refine o_ip c31 ?_
            intro H locs ls hP hS hl
            refine lv_aload_n hx hb d_MM_leads_180 rfl (lv_at hl 0 rfl) ?_
            refine o_get (v := .ref (ad 24)) C in_MM hP 0 mw_0 rfl 43 (by decide) k_8_33 rfl rfl d_MM_leads_181 ?_
            refine lv_iload hx hb d_MM_leads_184 (lv_at hl 1 rfl) ?_
            obtain ⟨g30, h⟩ := o_gd_some h
            refine o_iald (f := (NA_anchorSchema Na)) C hP 24 23 mw_24 rfl g30 d_MM_leads_186 ?_
            cases h
            exact o_ri (v := ((NA_anchorSchema Na) q7.2.toNatClampNeg)) C hP hS d_MM_leads_187
          replace h := o_ff c31 h
          refine o_in_ c31 ?_
          intro H locs ls hP hS hl
          refine lv_iconst (v := (-1:Int32)) hx hb d_MM_leads_194 (by decide) ?_
          cases h
          exact o_ri (v := (-1:Int32)) C hP hS d_MM_leads_195
      · replace h := o_tt c6 h
        refine lv_iconst (v := (0:Int32)) hx hb d_MM_leads_45 (by decide) ?_
        cases h
        exact o_ri (v := (0:Int32)) C hP hS d_MM_leads_46
    · replace h := o_ff c5 h
      refine lv_iconst (v := (-1:Int32)) hx hb d_MM_leads_38 (by decide) ?_
      cases h
      exact o_ri (v := (-1:Int32)) C hP hS d_MM_leads_39
set_option maxHeartbeats 4000000 in
set_option maxRecDepth 100000 in
theorem e_MM_go {E : (Nat → Prop) → State → Heap → Prop} {D : va_G} {ad kd sd vd xd : Nat → Nat} {ca : Nat → ClassId} {ky ty : Nat → Option Nat} (hE : o_EK E kd sd vd xd) (hKy : m_KY ky ty sd) (l : Launch) (x1 : Int32) (x2 : Int32) (Nh : SNH) (Ni : SNI) (Np : SNP) (No : SNO) (Nx : SNX) (Nf : SNF) (Na : SNA) (Nq : SNQ) (Nj : SNJ) (M0 : SMT) (M1 : SMT) (rt : Nat) {r : Int32 × SNH} (h : m_MM_go x1 x2 Nh = some r) : o_Cn E l D m_cls (m_tys ca) y_MM_go cc_MM_go rm_MM_go [.ref (ad 0), .int x1, .int x2] (m_cw ad ca ky ty rt Ni Np No Nx Nf Na Nh Nq Nj M0 M1) (m_cw ad ca ky ty rt Ni Np No Nx Nf Na r.2 Nq Nj M0 M1) (some (.int r.1)) := by
  refine o_Cn_of (by decide) (Nat.le_of_ble_eq_true rfl) ?_
  intro p e s m below meth c A ls C hD hP hS hl
  have hDD : ∀ (rt : Nat) (Ni : SNI) (Np : SNP) (No : SNO) (Nx : SNX) (Nf : SNF) (Na : SNA) (Nh : SNH) (Nq : SNQ) (Nj : SNJ) (M0 : SMT) (M1 : SMT), va_D A (m_cw ad ca ky ty rt Ni Np No Nx Nf Na Nh Nq Nj M0 M1) := fun _ _ _ _ _ _ _ _ _ _ _ _ => o_D_map hD rfl
  have hl : lv_has ls 3 [(0, .ref (ad 0)), (1, .int x1), (2, .int x2)] := hl
  unfold m_MM_go at h
  have C0 := C
  obtain ⟨hx, hb, -, -, -, hown, hts, hK, -, -⟩ := C0
  refine lv_aload_n hx hb d_MM_go_0 rfl (lv_at hl 0 rfl) ?_
  refine o_get (v := .ref (ad 28)) C in_MM hP 0 mw_0 rfl 47 (by decide) k_8_37 rfl rfl d_MM_go_1 ?_
  refine lv_iload_n hx hb d_MM_go_4 rfl (lv_at hl 2 rfl) ?_
  obtain ⟨g1, h⟩ := o_gd_some h
  refine o_zald (f := (NH_seen1 Nh)) C hP 28 27 mw_28 rfl g1 d_MM_go_5 ?_
  refine lv_if_ne (tgt := 18) hx hb d_MM_go_6 (by decide) (fun c2 => ?_) (fun c2 => ?_)
  · replace h := o_ff c2 h
    refine lv_iload_n hx hb d_MM_go_18 rfl (lv_at hl 1 rfl) ?_
    cases h
    exact o_ri C hP hS d_MM_go_19
  · replace h := o_tt c2 h
    refine lv_iload_n hx hb d_MM_go_9 rfl (lv_at hl 1 rfl) ?_
    refine lv_aload_n hx hb d_MM_go_10 rfl (lv_at hl 0 rfl) ?_
    refine o_get (v := .ref (ad 26)) C in_MM hP 0 mw_0 rfl 45 (by decide) k_8_35 rfl rfl d_MM_go_11 ?_
    refine va_alen (v := (2000:Int32)) hx hb hK hP 26 25 mw_26 rfl rfl d_MM_go_14 ?_
    refine lv_icmp_ne (tgt := 20) hx hb d_MM_go_15 (by decide) (fun c3 => ?_) (fun c3 => ?_)
    · replace h := o_ff c3 h
      refine lv_aload_n hx hb d_MM_go_20 rfl (lv_at hl 0 rfl) ?_
      refine o_get (v := .ref (ad 26)) C in_MM hP 0 mw_0 rfl 45 (by decide) k_8_35 rfl rfl d_MM_go_21 ?_
      refine lv_iload_n hx hb d_MM_go_24 rfl (lv_at hl 1 rfl) ?_
      refine lv_iload_n hx hb d_MM_go_25 rfl (lv_at hl 2 rfl) ?_
      obtain ⟨g4, h⟩ := o_gd_some h
      refine o_iast (f := (NH_route Nh)) (w1 := (m_cw ad ca ky ty rt Ni Np No Nx Nf Na (NH_mk (NH_path Nh) (upd (NH_route Nh) x1.toNatClampNeg x2) (NH_seen1 Nh) (NH_pathSize Nh) (NH_octetRow Nh) (NH_partRow Nh)) Nq Nj M0 M1)) C hP (hDD _ _ _ _ _ _ _ _ _ _ _ _) hS 26 25 mw_26 rfl g4 rfl d_MM_go_26 (fun H locs hP hS => ?_)
      refine lv_iload_n hx hb d_MM_go_27 rfl (lv_at hl 1 rfl) ?_
      refine lv_iconst (v := (1:Int32)) hx hb d_MM_go_28 (by decide) ?_
      refine lv_iadd hx hb d_MM_go_29 ?_
      cases h
      exact o_ri (v := (x1 + (1:Int32))) C hP hS d_MM_go_30
    · replace h := o_tt c3 h
      refine lv_iload_n hx hb d_MM_go_18 rfl (lv_at hl 1 rfl) ?_
      cases h
      exact o_ri C hP hS d_MM_go_19
set_option maxHeartbeats 4000000 in
set_option maxRecDepth 100000 in
theorem f_MM_comesBack_b2 {E : (Nat → Prop) → State → Heap → Prop} {p : Program} {l : Launch} {e : Env} {s : State} {m : MethodId} {args : Array Value} {below : List Frame} {meth : Method} {c : Code} {D : va_G} {ad kd sd vd xd : Nat → Nat} {ca : Nat → ClassId} {A : Nat → Prop} {ky ty : Nat → Option Nat} {Q : State → Prop} (hE : o_EK E kd sd vd xd) (hKy : m_KY ky ty sd) (C : o_Cx E p s m args meth c D m_cls (m_tys ca) "SchemaJudgeModel" b_MM_comesBack (some .boolean) 8 cc_MM_comesBack A) (hDD : ∀ (rt : Nat) (Ni : SNI) (Np : SNP) (No : SNO) (Nx : SNX) (Nf : SNF) (Na : SNA) (Nh : SNH) (Nq : SNQ) (Nj : SNJ) (M0 : SMT) (M1 : SMT), va_D A (m_cw ad ca ky ty rt Ni Np No Nx Nf Na Nh Nq Nj M0 M1)) (n : Nat) (u2_x1 : Int32) (u2_M0 : SMT) (u2_Na : SNA) (u2_Ni : SNI) (u2_Np : SNP) (u2_No : SNO) (u2_Nx : SNX) (u2_Nf : SNF) (u2_Nq : SNQ) (u2_Nj : SNJ) (u2_M1 : SMT) (u2_rt : Nat) (z : Int32 × SNH) (q : Nat × Int32 × SNH) (h : m_MM_comesBack_b2 n u2_x1 u2_M0 u2_Na z = some q) (h0 : q.1 = 0 → o_At p l e rm_MM_comesBack s m args below meth c Q m_cls D A 8 2 [] (m_cw ad ca ky ty u2_rt u2_Ni u2_Np u2_No u2_Nx u2_Nf u2_Na q.2.2 u2_Nq u2_Nj u2_M0 u2_M1) [(0, .ref (ad 0)), (1, .int u2_x1), (2, .int q.2.1)]) (h1 : q.1 ≠ 0 → (o_At p l e rm_MM_comesBack s m args below meth c Q m_cls D A 8 26 [] (m_cw ad ca ky ty u2_rt u2_Ni u2_Np u2_No u2_Nx u2_Nf u2_Na q.2.2 u2_Nq u2_Nj u2_M0 u2_M1) [(0, .ref (ad 0)), (1, .int u2_x1)])) : o_At p l e rm_MM_comesBack s m args below meth c Q m_cls D A 8 2 [] (m_cw ad ca ky ty u2_rt u2_Ni u2_Np u2_No u2_Nx u2_Nf u2_Na z.2 u2_Nq u2_Nj u2_M0 u2_M1) [(0, .ref (ad 0)), (1, .int u2_x1), (2, .int z.1)] := by
  unfold m_MM_comesBack_b2 at h
  intro H locs ls hP hS hl
  have C0 := C
  obtain ⟨hx, hb, -, -, -, hown, hts, hK, -, -⟩ := C0
  refine lv_iload_n hx hb d_MM_comesBack_2 rfl (lv_at hl 2 rfl) ?_
  refine lv_aload_n hx hb d_MM_comesBack_3 rfl (lv_at hl 0 rfl) ?_
  refine o_get (v := .ref (ad 33)) C in_MM hP 0 mw_0 rfl 4 (by decide) k_7_234 rfl rfl d_MM_comesBack_4 ?_
  refine o_get (v := .int (MT_values u2_M0)) C in_MT hP 33 mw_33 rfl 13 (by decide) k_7_127 rfl rfl d_MM_comesBack_7 ?_
  refine lv_icmp_ge (tgt := 26) hx hb d_MM_comesBack_10 (by decide) (fun c1 => ?_) (fun c1 => ?_)
  · replace h := o_tt c1 h
    cases h
    exact h1 (Nat.succ_ne_zero 0) _ _ _ hP hS (lv_sub hl [0, 1] rfl)
  · replace h := o_ff c1 h
    refine lv_aload_n hx hb d_MM_comesBack_13 rfl (lv_at hl 0 rfl) ?_
    refine o_get (v := .ref (ad 28)) C in_MM hP 0 mw_0 rfl 47 (by decide) k_8_37 rfl rfl d_MM_comesBack_14 ?_
    refine lv_iload_n hx hb d_MM_comesBack_17 rfl (lv_at hl 2 rfl) ?_
    refine lv_iconst (v := (0:Int32)) hx hb d_MM_comesBack_18 (by decide) ?_
    obtain ⟨g2, h⟩ := o_gd_some h
    refine o_zast (f := (NH_seen1 z.2)) (w1 := (m_cw ad ca ky ty u2_rt u2_Ni u2_Np u2_No u2_Nx u2_Nf u2_Na (NH_mk (NH_path z.2) (NH_route z.2) (upd (NH_seen1 z.2) z.1.toNatClampNeg (vp_nar .boolean (0:Int32))) (NH_pathSize z.2) (NH_octetRow z.2) (NH_partRow z.2)) u2_Nq u2_Nj u2_M0 u2_M1)) C hP (hDD _ _ _ _ _ _ _ _ _ _ _ _) hS 28 27 mw_28 rfl g2 rfl d_MM_comesBack_19 (fun H locs hP hS => ?_)
    obtain ⟨x2_20, ex2_20⟩ : ∃ y : Int32, y = z.1 + (1:Int32) := ⟨_, rfl⟩
    replace h := o_nm_at ex2_20 h
    refine lv_iinc (v := x2_20) (lv' := [(2, .int x2_20), (0, .ref (ad 0)), (1, .int u2_x1)]) hx hb d_MM_comesBack_20 hl (k := 2) rfl (by rw [ex2_20]; rfl) (by decide) rfl (fun ls hl => ?_)
    refine lv_goto (tgt := 2) hx hb d_MM_comesBack_23 (by decide) ?_
    cases h
    exact h0 rfl _ _ _ hP hS (lv_sub hl [1, 2, 0] rfl)
set_option maxHeartbeats 4000000 in
set_option maxRecDepth 100000 in
theorem f_MM_comesBack_j248 {E : (Nat → Prop) → State → Heap → Prop} {p : Program} {l : Launch} {e : Env} {s : State} {m : MethodId} {args : Array Value} {below : List Frame} {meth : Method} {c : Code} {D : va_G} {ad kd sd vd xd : Nat → Nat} {ca : Nat → ClassId} {A : Nat → Prop} {ky ty : Nat → Option Nat} {Q : State → Prop} (hE : o_EK E kd sd vd xd) (hKy : m_KY ky ty sd) (C : o_Cx E p s m args meth c D m_cls (m_tys ca) "SchemaJudgeModel" b_MM_comesBack (some .boolean) 8 cc_MM_comesBack A) (hDD : ∀ (rt : Nat) (Ni : SNI) (Np : SNP) (No : SNO) (Nx : SNX) (Nf : SNF) (Na : SNA) (Nh : SNH) (Nq : SNQ) (Nj : SNJ) (M0 : SMT) (M1 : SMT), va_D A (m_cw ad ca ky ty rt Ni Np No Nx Nf Na Nh Nq Nj M0 M1)) (n : Nat) (u128_x1 : Int32) (u128_x3 : Int32) (u128_M0 : SMT) (u128_Na : SNA) (u128_Ni : SNI) (u128_Np : SNP) (u128_No : SNO) (u128_Nx : SNX) (u128_Nf : SNF) (u128_Nq : SNQ) (u128_Nj : SNJ) (u128_M1 : SMT) (u128_rt : Nat) (x2 : Int32) (x5 : Int32) (Nh : SNH) {q : Nat × Int32 × Int32 × SNH} (h : m_MM_comesBack_j248 n u128_x1 x2 u128_x3 x5 u128_M0 u128_Na Nh = some q) (h0 : q.1 = 0 → o_At p l e rm_MM_comesBack s m args below meth c Q m_cls D A 8 128 [] (m_cw ad ca ky ty u128_rt u128_Ni u128_Np u128_No u128_Nx u128_Nf u128_Na q.2.2.2 u128_Nq u128_Nj u128_M0 u128_M1) [(0, .ref (ad 0)), (1, .int u128_x1), (2, .int q.2.1), (3, .int u128_x3), (5, .int q.2.2.1)]) (h1 : q.1 ≠ 0 → (o_At p l e rm_MM_comesBack s m args below meth c Q m_cls D A 8 263 [] (m_cw ad ca ky ty u128_rt u128_Ni u128_Np u128_No u128_Nx u128_Nf u128_Na q.2.2.2 u128_Nq u128_Nj u128_M0 u128_M1) [(0, .ref (ad 0)), (1, .int u128_x1), (2, .int q.2.1), (3, .int u128_x3)])) : o_At p l e rm_MM_comesBack s m args below meth c Q m_cls D A 8 248 [] (m_cw ad ca ky ty u128_rt u128_Ni u128_Np u128_No u128_Nx u128_Nf u128_Na Nh u128_Nq u128_Nj u128_M0 u128_M1) [(0, .ref (ad 0)), (1, .int u128_x1), (2, .int x2), (3, .int u128_x3), (5, .int x5)] := by
  unfold m_MM_comesBack_j248 at h
  intro H locs ls hP hS hl
  have C0 := C
  obtain ⟨hx, hb, -, -, -, hown, hts, hK, -, -⟩ := C0
  refine lv_aload_n hx hb d_MM_comesBack_248 rfl (lv_at hl 0 rfl) ?_
  refine o_get (v := .ref (ad 33)) C in_MM hP 0 mw_0 rfl 4 (by decide) k_7_234 rfl rfl d_MM_comesBack_249 ?_
  refine o_get (v := .ref (ad 41)) C in_MT hP 33 mw_33 rfl 7 (by decide) k_7_115 rfl rfl d_MM_comesBack_252 ?_
  refine lv_iload hx hb d_MM_comesBack_255 (lv_at hl 4 rfl) ?_
  obtain ⟨g18, h⟩ := o_gd_some h
  refine o_iald (f := (MT_next u128_M0)) C hP 41 39 mw_41 rfl g18 d_MM_comesBack_257 ?_
  refine lv_topi (fun x5_258 ex5_258 => ?_)
  replace h := o_nm_at ex5_258 h
  refine lv_istore (lv' := [(5, .int x5_258), (0, .ref (ad 0)), (1, .int u128_x1), (2, .int x2), (3, .int u128_x3)]) hx hb d_MM_comesBack_258 hl (by decide) rfl (fun ls hl => ?_)
  refine lv_goto (tgt := 128) hx hb d_MM_comesBack_260 (by decide) ?_
  cases h
  exact h0 rfl _ _ _ hP hS (lv_sub hl [1, 2, 3, 4, 0] rfl)
set_option maxHeartbeats 4000000 in
set_option maxRecDepth 100000 in
theorem f_MM_comesBack_b220 {E : (Nat → Prop) → State → Heap → Prop} {p : Program} {l : Launch} {e : Env} {s : State} {m : MethodId} {args : Array Value} {below : List Frame} {meth : Method} {c : Code} {D : va_G} {ad kd sd vd xd : Nat → Nat} {ca : Nat → ClassId} {A : Nat → Prop} {ky ty : Nat → Option Nat} {Q : State → Prop} (hE : o_EK E kd sd vd xd) (hKy : m_KY ky ty sd) (C : o_Cx E p s m args meth c D m_cls (m_tys ca) "SchemaJudgeModel" b_MM_comesBack (some .boolean) 8 cc_MM_comesBack A) (hDD : ∀ (rt : Nat) (Ni : SNI) (Np : SNP) (No : SNO) (Nx : SNX) (Nf : SNF) (Na : SNA) (Nh : SNH) (Nq : SNQ) (Nj : SNJ) (M0 : SMT) (M1 : SMT), va_D A (m_cw ad ca ky ty rt Ni Np No Nx Nf Na Nh Nq Nj M0 M1)) (n : Nat) (u220_x1 : Int32) (u220_x3 : Int32) (u220_x5 : Int32) (u220_M0 : SMT) (u220_Na : SNA) (u220_Ni : SNI) (u220_Np : SNP) (u220_No : SNO) (u220_Nx : SNX) (u220_Nf : SNF) (u220_Nq : SNQ) (u220_Nj : SNJ) (u220_M1 : SMT) (u220_rt : Nat) (z : Int32 × Int32 × SNH) (q : Nat × Int32 × Int32 × SNH) (h : m_MM_comesBack_b220 n u220_x1 u220_x3 u220_x5 u220_M0 u220_Na z = some q) (h0 : q.1 = 0 → o_At p l e rm_MM_comesBack s m args below meth c Q m_cls D A 8 220 [] (m_cw ad ca ky ty u220_rt u220_Ni u220_Np u220_No u220_Nx u220_Nf u220_Na q.2.2.2 u220_Nq u220_Nj u220_M0 u220_M1) [(0, .ref (ad 0)), (1, .int u220_x1), (2, .int q.2.1), (3, .int u220_x3), (5, .int u220_x5), (7, .int q.2.2.1)]) (h1 : q.1 ≠ 0 → (o_At p l e rm_MM_comesBack s m args below meth c Q m_cls D A 8 248 [] (m_cw ad ca ky ty u220_rt u220_Ni u220_Np u220_No u220_Nx u220_Nf u220_Na q.2.2.2 u220_Nq u220_Nj u220_M0 u220_M1) [(0, .ref (ad 0)), (1, .int u220_x1), (2, .int q.2.1), (3, .int u220_x3), (5, .int u220_x5)])) : o_At p l e rm_MM_comesBack s m args below meth c Q m_cls D A 8 220 [] (m_cw ad ca ky ty u220_rt u220_Ni u220_Np u220_No u220_Nx u220_Nf u220_Na z.2.2 u220_Nq u220_Nj u220_M0 u220_M1) [(0, .ref (ad 0)), (1, .int u220_x1), (2, .int z.1), (3, .int u220_x3), (5, .int u220_x5), (7, .int z.2.1)] := by
  unfold m_MM_comesBack_b220 at h
  intro H locs ls hP hS hl
  have C0 := C
  obtain ⟨hx, hb, -, -, -, hown, hts, hK, -, -⟩ := C0
  refine lv_iload hx hb d_MM_comesBack_220 (lv_at hl 5 rfl) ?_
  refine lv_if_lt (tgt := 248) hx hb d_MM_comesBack_222 (by decide) (fun c20 => ?_) (fun c20 => ?_)
  · replace h := o_tt c20 h
    cases h
    exact h1 (Nat.succ_ne_zero 0) _ _ _ hP hS (lv_sub hl [0, 1, 2, 3, 4] rfl)
  · replace h := o_ff c20 h
    refine lv_aload_n hx hb d_MM_comesBack_225 rfl (lv_at hl 0 rfl) ?_
    refine lv_iload_n hx hb d_MM_comesBack_226 rfl (lv_at hl 2 rfl) ?_
    refine lv_iload hx hb d_MM_comesBack_227 (lv_at hl 5 rfl) ?_
    obtain ⟨q2, hq2, h⟩ := o_bd_some h
    refine o_V (st1 := [.int q2.1]) (w1 := (m_cw ad ca ky ty u220_rt u220_Ni u220_Np u220_No u220_Nx u220_Nf u220_Na q2.2 u220_Nq u220_Nj u220_M0 u220_M1)) hE.1 C (e_MM_go hE hKy l z.1 z.2.1 z.2.2 u220_Ni u220_Np u220_No u220_Nx u220_Nf u220_Na u220_Nq u220_Nj u220_M0 u220_M1 u220_rt hq2) hP (hDD _ _ _ _ _ _ _ _ _ _ _ _) hS hl.1 rfl mw_0 k_9_198 k_9_200 k_s_115 k_1_12 k_9_201 hv_MM_go rfl rfl ⟨(Nat.le_of_ble_eq_true rfl), (Nat.le_of_ble_eq_true rfl)⟩ rfl (Nat.le_of_ble_eq_true rfl) ⟨Nat.zero_le _, Nat.zero_le _⟩ rfl d_MM_comesBack_229 (fun H locs hP hS => ?_)
    refine lv_istore_n (lv' := [(2, .int q2.1), (0, .ref (ad 0)), (1, .int u220_x1), (3, .int u220_x3), (5, .int u220_x5), (7, .int z.2.1)]) hx hb d_MM_comesBack_232 rfl hl (by decide) rfl (fun ls hl => ?_)
    refine lv_aload_n hx hb d_MM_comesBack_233 rfl (lv_at hl 1 rfl) ?_
    refine o_get (v := .ref (ad 33)) C in_MM hP 0 mw_0 rfl 4 (by decide) k_7_234 rfl rfl d_MM_comesBack_234 ?_
    refine o_get (v := .ref (ad 41)) C in_MT hP 33 mw_33 rfl 7 (by decide) k_7_115 rfl rfl d_MM_comesBack_237 ?_
    refine lv_iload hx hb d_MM_comesBack_240 (lv_at hl 5 rfl) ?_
    obtain ⟨g21, h⟩ := o_gd_some h
    refine o_iald (f := (MT_next u220_M0)) C hP 41 39 mw_41 rfl g21 d_MM_comesBack_242 ?_
    refine lv_topi (fun x7_243 ex7_243 => ?_)
    replace h := o_nm_at ex7_243 h
    refine lv_istore (lv' := [(7, .int x7_243), (2, .int q2.1), (0, .ref (ad 0)), (1, .int u220_x1), (3, .int u220_x3), (5, .int u220_x5)]) hx hb d_MM_comesBack_243 hl (by decide) rfl (fun ls hl => ?_)
    refine lv_goto (tgt := 220) hx hb d_MM_comesBack_245 (by decide) ?_
    cases h
    exact h0 rfl _ _ _ hP hS (lv_sub hl [2, 3, 1, 4, 5, 0] rfl)
set_option maxHeartbeats 4000000 in
set_option maxRecDepth 100000 in
theorem f_MM_comesBack_j208 {E : (Nat → Prop) → State → Heap → Prop} {p : Program} {l : Launch} {e : Env} {s : State} {m : MethodId} {args : Array Value} {below : List Frame} {meth : Method} {c : Code} {D : va_G} {ad kd sd vd xd : Nat → Nat} {ca : Nat → ClassId} {A : Nat → Prop} {ky ty : Nat → Option Nat} {Q : State → Prop} (hE : o_EK E kd sd vd xd) (hKy : m_KY ky ty sd) (C : o_Cx E p s m args meth c D m_cls (m_tys ca) "SchemaJudgeModel" b_MM_comesBack (some .boolean) 8 cc_MM_comesBack A) (hDD : ∀ (rt : Nat) (Ni : SNI) (Np : SNP) (No : SNO) (Nx : SNX) (Nf : SNF) (Na : SNA) (Nh : SNH) (Nq : SNQ) (Nj : SNJ) (M0 : SMT) (M1 : SMT), va_D A (m_cw ad ca ky ty rt Ni Np No Nx Nf Na Nh Nq Nj M0 M1)) (n : Nat) (u128_x1 : Int32) (u128_x3 : Int32) (u128_M0 : SMT) (u128_Na : SNA) (u128_Ni : SNI) (u128_Np : SNP) (u128_No : SNO) (u128_Nx : SNX) (u128_Nf : SNF) (u128_Nq : SNQ) (u128_Nj : SNJ) (u128_M1 : SMT) (u128_rt : Nat) (x2 : Int32) (x5 : Int32) (Nh : SNH) {q : Nat × Int32 × Int32 × SNH} (h : m_MM_comesBack_j208 n u128_x1 x2 u128_x3 x5 u128_M0 u128_Na Nh = some q) (h0 : q.1 = 0 → o_At p l e rm_MM_comesBack s m args below meth c Q m_cls D A 8 128 [] (m_cw ad ca ky ty u128_rt u128_Ni u128_Np u128_No u128_Nx u128_Nf u128_Na q.2.2.2 u128_Nq u128_Nj u128_M0 u128_M1) [(0, .ref (ad 0)), (1, .int u128_x1), (2, .int q.2.1), (3, .int u128_x3), (5, .int q.2.2.1)]) (h1 : q.1 ≠ 0 → (o_At p l e rm_MM_comesBack s m args below meth c Q m_cls D A 8 263 [] (m_cw ad ca ky ty u128_rt u128_Ni u128_Np u128_No u128_Nx u128_Nf u128_Na q.2.2.2 u128_Nq u128_Nj u128_M0 u128_M1) [(0, .ref (ad 0)), (1, .int u128_x1), (2, .int q.2.1), (3, .int u128_x3)])) : o_At p l e rm_MM_comesBack s m args below meth c Q m_cls D A 8 208 [] (m_cw ad ca ky ty u128_rt u128_Ni u128_Np u128_No u128_Nx u128_Nf u128_Na Nh u128_Nq u128_Nj u128_M0 u128_M1) [(0, .ref (ad 0)), (1, .int u128_x1), (2, .int x2), (3, .int u128_x3), (5, .int x5)] := by
  unfold m_MM_comesBack_j208 at h
  intro H locs ls hP hS hl
  have C0 := C
  obtain ⟨hx, hb, -, -, -, hown, hts, hK, -, -⟩ := C0
  refine lv_aload_n hx hb d_MM_comesBack_208 rfl (lv_at hl 0 rfl) ?_
  refine o_get (v := .ref (ad 33)) C in_MM hP 0 mw_0 rfl 4 (by decide) k_7_234 rfl rfl d_MM_comesBack_209 ?_
  refine o_get (v := .ref (ad 40)) C in_MT hP 33 mw_33 rfl 6 (by decide) k_7_113 rfl rfl d_MM_comesBack_212 ?_
  refine lv_iload hx hb d_MM_comesBack_215 (lv_at hl 4 rfl) ?_
  obtain ⟨g19, h⟩ := o_gd_some h
  refine o_iald (f := (MT_first u128_M0)) C hP 40 38 mw_40 rfl g19 d_MM_comesBack_217 ?_
  refine lv_topi (fun x7_218 ex7_218 => ?_)
  replace h := o_nm_at ex7_218 h
  refine lv_istore (lv' := [(7, .int x7_218), (0, .ref (ad 0)), (1, .int u128_x1), (2, .int x2), (3, .int u128_x3), (5, .int x5)]) hx hb d_MM_comesBack_218 hl (by decide) rfl (fun ls hl => ?_)
  obtain ⟨q3, hq3, h⟩ := o_bd_some h
  refine o_sim2 (AH := fun zz => o_At p l e rm_MM_comesBack s m args below meth c _ m_cls D A 8 220 [] (m_cw ad ca ky ty u128_rt u128_Ni u128_Np u128_No u128_Nx u128_Nf u128_Na zz.2.2 u128_Nq u128_Nj u128_M0 u128_M1) [(0, .ref (ad 0)), (1, .int u128_x1), (2, .int zz.1), (3, .int u128_x3), (5, .int x5), (7, .int zz.2.1)]) (AX := fun qq => o_At p l e rm_MM_comesBack s m args below meth c _ m_cls D A 8 248 [] (m_cw ad ca ky ty u128_rt u128_Ni u128_Np u128_No u128_Nx u128_Nf u128_Na qq.2.2.2 u128_Nq u128_Nj u128_M0 u128_M1) [(0, .ref (ad 0)), (1, .int u128_x1), (2, .int qq.2.1), (3, .int u128_x3), (5, .int x5)]) (fun zz qq h h0 h1 => f_MM_comesBack_b220 hE hKy C hDD n u128_x1 u128_x3 x5 u128_M0 u128_Na u128_Ni u128_Np u128_No u128_Nx u128_Nf u128_Nq u128_Nj u128_M1 u128_rt zz qq h h0 h1) n _ q3 hq3 ?_ _ _ _ hP hS (lv_sub hl [1, 2, 3, 4, 5, 0] rfl)
  intro H locs ls hP hS hl
  exact f_MM_comesBack_j248 hE hKy C hDD n u128_x1 u128_x3 u128_M0 u128_Na u128_Ni u128_Np u128_No u128_Nx u128_Nf u128_Nq u128_Nj u128_M1 u128_rt q3.2.1 x5 q3.2.2.2 h h0 h1 _ _ _ hP hS (lv_sub hl [0, 1, 2, 3, 4] rfl)
set_option maxHeartbeats 4000000 in
set_option maxRecDepth 100000 in
theorem f_MM_comesBack_j201 {E : (Nat → Prop) → State → Heap → Prop} {p : Program} {l : Launch} {e : Env} {s : State} {m : MethodId} {args : Array Value} {below : List Frame} {meth : Method} {c : Code} {D : va_G} {ad kd sd vd xd : Nat → Nat} {ca : Nat → ClassId} {A : Nat → Prop} {ky ty : Nat → Option Nat} {Q : State → Prop} (hE : o_EK E kd sd vd xd) (hKy : m_KY ky ty sd) (C : o_Cx E p s m args meth c D m_cls (m_tys ca) "SchemaJudgeModel" b_MM_comesBack (some .boolean) 8 cc_MM_comesBack A) (hDD : ∀ (rt : Nat) (Ni : SNI) (Np : SNP) (No : SNO) (Nx : SNX) (Nf : SNF) (Na : SNA) (Nh : SNH) (Nq : SNQ) (Nj : SNJ) (M0 : SMT) (M1 : SMT), va_D A (m_cw ad ca ky ty rt Ni Np No Nx Nf Na Nh Nq Nj M0 M1)) (n : Nat) (u128_x1 : Int32) (u128_x3 : Int32) (u128_M0 : SMT) (u128_Na : SNA) (u128_Ni : SNI) (u128_Np : SNP) (u128_No : SNO) (u128_Nx : SNX) (u128_Nf : SNF) (u128_Nq : SNQ) (u128_Nj : SNJ) (u128_M1 : SMT) (u128_rt : Nat) (x2 : Int32) (x5 : Int32) (x6 : Int32) (Nh : SNH) {q : Nat × Int32 × Int32 × SNH} (h : m_MM_comesBack_j201 n u128_x1 x2 u128_x3 x5 x6 u128_M0 u128_Na Nh = some q) (h0 : q.1 = 0 → o_At p l e rm_MM_comesBack s m args below meth c Q m_cls D A 8 128 [] (m_cw ad ca ky ty u128_rt u128_Ni u128_Np u128_No u128_Nx u128_Nf u128_Na q.2.2.2 u128_Nq u128_Nj u128_M0 u128_M1) [(0, .ref (ad 0)), (1, .int u128_x1), (2, .int q.2.1), (3, .int u128_x3), (5, .int q.2.2.1)]) (h1 : q.1 ≠ 0 → (o_At p l e rm_MM_comesBack s m args below meth c Q m_cls D A 8 263 [] (m_cw ad ca ky ty u128_rt u128_Ni u128_Np u128_No u128_Nx u128_Nf u128_Na q.2.2.2 u128_Nq u128_Nj u128_M0 u128_M1) [(0, .ref (ad 0)), (1, .int u128_x1), (2, .int q.2.1), (3, .int u128_x3)])) : o_At p l e rm_MM_comesBack s m args below meth c Q m_cls D A 8 201 [] (m_cw ad ca ky ty u128_rt u128_Ni u128_Np u128_No u128_Nx u128_Nf u128_Na Nh u128_Nq u128_Nj u128_M0 u128_M1) [(0, .ref (ad 0)), (1, .int u128_x1), (2, .int x2), (3, .int u128_x3), (5, .int x5), (6, .int x6)] := by
  unfold m_MM_comesBack_j201 at h
  intro H locs ls hP hS hl
  have C0 := C
  obtain ⟨hx, hb, -, -, -, hown, hts, hK, -, -⟩ := C0
  refine lv_iload hx hb d_MM_comesBack_201 (lv_at hl 5 rfl) ?_
  refine lv_bipush (v := (17:Int32)) hx hb d_MM_comesBack_203 (by decide) ?_
  refine lv_icmp_ne (tgt := 248) hx hb d_MM_comesBack_205 (by decide) (fun c17 => ?_) (fun c17 => ?_)
  · replace h := o_ff c17 h
    exact f_MM_comesBack_j248 hE hKy C hDD n u128_x1 u128_x3 u128_M0 u128_Na u128_Ni u128_Np u128_No u128_Nx u128_Nf u128_Nq u128_Nj u128_M1 u128_rt x2 x5 Nh h h0 h1 _ _ _ hP hS (lv_sub hl [0, 1, 2, 3, 4] rfl)
  · replace h := o_tt c17 h
    exact f_MM_comesBack_j208 hE hKy C hDD n u128_x1 u128_x3 u128_M0 u128_Na u128_Ni u128_Np u128_No u128_Nx u128_Nf u128_Nq u128_Nj u128_M1 u128_rt x2 x5 Nh h h0 h1 _ _ _ hP hS (lv_sub hl [0, 1, 2, 3, 4] rfl)
set_option maxHeartbeats 4000000 in
set_option maxRecDepth 100000 in
theorem f_MM_comesBack_j187 {E : (Nat → Prop) → State → Heap → Prop} {p : Program} {l : Launch} {e : Env} {s : State} {m : MethodId} {args : Array Value} {below : List Frame} {meth : Method} {c : Code} {D : va_G} {ad kd sd vd xd : Nat → Nat} {ca : Nat → ClassId} {A : Nat → Prop} {ky ty : Nat → Option Nat} {Q : State → Prop} (hE : o_EK E kd sd vd xd) (hKy : m_KY ky ty sd) (C : o_Cx E p s m args meth c D m_cls (m_tys ca) "SchemaJudgeModel" b_MM_comesBack (some .boolean) 8 cc_MM_comesBack A) (hDD : ∀ (rt : Nat) (Ni : SNI) (Np : SNP) (No : SNO) (Nx : SNX) (Nf : SNF) (Na : SNA) (Nh : SNH) (Nq : SNQ) (Nj : SNJ) (M0 : SMT) (M1 : SMT), va_D A (m_cw ad ca ky ty rt Ni Np No Nx Nf Na Nh Nq Nj M0 M1)) (n : Nat) (u128_x1 : Int32) (u128_x3 : Int32) (u128_M0 : SMT) (u128_Na : SNA) (u128_Ni : SNI) (u128_Np : SNP) (u128_No : SNO) (u128_Nx : SNX) (u128_Nf : SNF) (u128_Nq : SNQ) (u128_Nj : SNJ) (u128_M1 : SMT) (u128_rt : Nat) (x2 : Int32) (x5 : Int32) (x6 : Int32) (Nh : SNH) {q : Nat × Int32 × Int32 × SNH} (h : m_MM_comesBack_j187 n u128_x1 x2 u128_x3 x5 x6 u128_M0 u128_Na Nh = some q) (h0 : q.1 = 0 → o_At p l e rm_MM_comesBack s m args below meth c Q m_cls D A 8 128 [] (m_cw ad ca ky ty u128_rt u128_Ni u128_Np u128_No u128_Nx u128_Nf u128_Na q.2.2.2 u128_Nq u128_Nj u128_M0 u128_M1) [(0, .ref (ad 0)), (1, .int u128_x1), (2, .int q.2.1), (3, .int u128_x3), (5, .int q.2.2.1)]) (h1 : q.1 ≠ 0 → (o_At p l e rm_MM_comesBack s m args below meth c Q m_cls D A 8 263 [] (m_cw ad ca ky ty u128_rt u128_Ni u128_Np u128_No u128_Nx u128_Nf u128_Na q.2.2.2 u128_Nq u128_Nj u128_M0 u128_M1) [(0, .ref (ad 0)), (1, .int u128_x1), (2, .int q.2.1), (3, .int u128_x3)])) : o_At p l e rm_MM_comesBack s m args below meth c Q m_cls D A 8 187 [] (m_cw ad ca ky ty u128_rt u128_Ni u128_Np u128_No u128_Nx u128_Nf u128_Na Nh u128_Nq u128_Nj u128_M0 u128_M1) [(0, .ref (ad 0)), (1, .int u128_x1), (2, .int x2), (3, .int u128_x3), (5, .int x5), (6, .int x6)] := by
  unfold m_MM_comesBack_j187 at h
  intro H locs ls hP hS hl
  have C0 := C
  obtain ⟨hx, hb, -, -, -, hown, hts, hK, -, -⟩ := C0
  refine lv_iload hx hb d_MM_comesBack_187 (lv_at hl 5 rfl) ?_
  refine lv_bipush (v := (10:Int32)) hx hb d_MM_comesBack_189 (by decide) ?_
  refine lv_icmp_lt (tgt := 201) hx hb d_MM_comesBack_191 (by decide) (fun c16 => ?_) (fun c16 => ?_)
  · replace h := o_tt c16 h
    exact f_MM_comesBack_j201 hE hKy C hDD n u128_x1 u128_x3 u128_M0 u128_Na u128_Ni u128_Np u128_No u128_Nx u128_Nf u128_Nq u128_Nj u128_M1 u128_rt x2 x5 x6 Nh h h0 h1 _ _ _ hP hS (lv_sub hl [0, 1, 2, 3, 4, 5] rfl)
  · replace h := o_ff c16 h
    refine lv_iload hx hb d_MM_comesBack_194 (lv_at hl 5 rfl) ?_
    refine lv_bipush (v := (12:Int32)) hx hb d_MM_comesBack_196 (by decide) ?_
    refine lv_icmp_le (tgt := 208) hx hb d_MM_comesBack_198 (by decide) (fun c22 => ?_) (fun c22 => ?_)
    · replace h := o_tt c22 h
      exact f_MM_comesBack_j208 hE hKy C hDD n u128_x1 u128_x3 u128_M0 u128_Na u128_Ni u128_Np u128_No u128_Nx u128_Nf u128_Nq u128_Nj u128_M1 u128_rt x2 x5 Nh h h0 h1 _ _ _ hP hS (lv_sub hl [0, 1, 2, 3, 4] rfl)
    · replace h := o_ff c22 h
      exact f_MM_comesBack_j201 hE hKy C hDD n u128_x1 u128_x3 u128_M0 u128_Na u128_Ni u128_Np u128_No u128_Nx u128_Nf u128_Nq u128_Nj u128_M1 u128_rt x2 x5 x6 Nh h h0 h1 _ _ _ hP hS (lv_sub hl [0, 1, 2, 3, 4, 5] rfl)
set_option maxHeartbeats 4000000 in
set_option maxRecDepth 100000 in
theorem f_MM_comesBack_b128 {E : (Nat → Prop) → State → Heap → Prop} {p : Program} {l : Launch} {e : Env} {s : State} {m : MethodId} {args : Array Value} {below : List Frame} {meth : Method} {c : Code} {D : va_G} {ad kd sd vd xd : Nat → Nat} {ca : Nat → ClassId} {A : Nat → Prop} {ky ty : Nat → Option Nat} {Q : State → Prop} (hE : o_EK E kd sd vd xd) (hKy : m_KY ky ty sd) (C : o_Cx E p s m args meth c D m_cls (m_tys ca) "SchemaJudgeModel" b_MM_comesBack (some .boolean) 8 cc_MM_comesBack A) (hDD : ∀ (rt : Nat) (Ni : SNI) (Np : SNP) (No : SNO) (Nx : SNX) (Nf : SNF) (Na : SNA) (Nh : SNH) (Nq : SNQ) (Nj : SNJ) (M0 : SMT) (M1 : SMT), va_D A (m_cw ad ca ky ty rt Ni Np No Nx Nf Na Nh Nq Nj M0 M1)) (n : Nat) (u128_x1 : Int32) (u128_x3 : Int32) (u128_M0 : SMT) (u128_Na : SNA) (u128_Ni : SNI) (u128_Np : SNP) (u128_No : SNO) (u128_Nx : SNX) (u128_Nf : SNF) (u128_Nq : SNQ) (u128_Nj : SNJ) (u128_M1 : SMT) (u128_rt : Nat) (z : Int32 × Int32 × SNH) (q : Nat × Int32 × Int32 × SNH) (h : m_MM_comesBack_b128 n u128_x1 u128_x3 u128_M0 u128_Na z = some q) (h0 : q.1 = 0 → o_At p l e rm_MM_comesBack s m args below meth c Q m_cls D A 8 128 [] (m_cw ad ca ky ty u128_rt u128_Ni u128_Np u128_No u128_Nx u128_Nf u128_Na q.2.2.2 u128_Nq u128_Nj u128_M0 u128_M1) [(0, .ref (ad 0)), (1, .int u128_x1), (2, .int q.2.1), (3, .int u128_x3), (5, .int q.2.2.1)]) (h1 : q.1 ≠ 0 → (o_At p l e rm_MM_comesBack s m args below meth c Q m_cls D A 8 263 [] (m_cw ad ca ky ty u128_rt u128_Ni u128_Np u128_No u128_Nx u128_Nf u128_Na q.2.2.2 u128_Nq u128_Nj u128_M0 u128_M1) [(0, .ref (ad 0)), (1, .int u128_x1), (2, .int q.2.1), (3, .int u128_x3)])) : o_At p l e rm_MM_comesBack s m args below meth c Q m_cls D A 8 128 [] (m_cw ad ca ky ty u128_rt u128_Ni u128_Np u128_No u128_Nx u128_Nf u128_Na z.2.2 u128_Nq u128_Nj u128_M0 u128_M1) [(0, .ref (ad 0)), (1, .int u128_x1), (2, .int z.1), (3, .int u128_x3), (5, .int z.2.1)] := by
  unfold m_MM_comesBack_b128 at h
  intro H locs ls hP hS hl
  have C0 := C
  obtain ⟨hx, hb, -, -, -, hown, hts, hK, -, -⟩ := C0
  refine lv_iload hx hb d_MM_comesBack_128 (lv_at hl 4 rfl) ?_
  refine lv_if_lt (tgt := 263) hx hb d_MM_comesBack_130 (by decide) (fun c12 => ?_) (fun c12 => ?_)
  · replace h := o_tt c12 h
    cases h
    exact h1 (Nat.succ_ne_zero 0) _ _ _ hP hS (lv_sub hl [0, 1, 2, 3] rfl)
  · replace h := o_ff c12 h
    refine lv_aload_n hx hb d_MM_comesBack_133 rfl (lv_at hl 0 rfl) ?_
    refine o_get (v := .ref (ad 21)) C in_MM hP 0 mw_0 rfl 40 (by decide) k_8_30 rfl rfl d_MM_comesBack_134 ?_
    refine lv_iload hx hb d_MM_comesBack_137 (lv_at hl 4 rfl) ?_
    obtain ⟨g13, h⟩ := o_gd_some h
    refine o_iald (f := (NA_key u128_Na)) C hP 21 20 mw_21 rfl g13 d_MM_comesBack_139 ?_
    refine lv_topi (fun x6_140 ex6_140 => ?_)
    replace h := o_nm_at ex6_140 h
    refine lv_istore (lv' := [(6, .int x6_140), (0, .ref (ad 0)), (1, .int u128_x1), (2, .int z.1), (3, .int u128_x3), (5, .int z.2.1)]) hx hb d_MM_comesBack_140 hl (by decide) rfl (fun ls hl => ?_)
    refine lv_iload hx hb d_MM_comesBack_142 (lv_at hl 0 rfl) ?_
    refine lv_bipush (v := (32:Int32)) hx hb d_MM_comesBack_144 (by decide) ?_
    refine lv_icmp_ne (tgt := 165) hx hb d_MM_comesBack_146 (by decide) (fun c14 => ?_) (fun c14 => ?_)
    · replace h := o_ff c14 h
      refine lv_iload hx hb d_MM_comesBack_165 (lv_at hl 0 rfl) ?_
      refine lv_if_lt (tgt := 187) hx hb d_MM_comesBack_167 (by decide) (fun c15 => ?_) (fun c15 => ?_)
      · replace h := o_tt c15 h
        exact f_MM_comesBack_j187 hE hKy C hDD n u128_x1 u128_x3 u128_M0 u128_Na u128_Ni u128_Np u128_No u128_Nx u128_Nf u128_Nq u128_Nj u128_M1 u128_rt z.1 z.2.1 x6_140 z.2.2 h h0 h1 _ _ _ hP hS (lv_sub hl [1, 2, 3, 4, 5, 0] rfl)
      · replace h := o_ff c15 h
        refine lv_iload hx hb d_MM_comesBack_170 (lv_at hl 0 rfl) ?_
        refine lv_iconst (v := (3:Int32)) hx hb d_MM_comesBack_172 (by decide) ?_
        refine lv_icmp_gt (tgt := 187) hx hb d_MM_comesBack_173 (by decide) (fun c23 => ?_) (fun c23 => ?_)
        · replace h := o_tt c23 h
          exact f_MM_comesBack_j187 hE hKy C hDD n u128_x1 u128_x3 u128_M0 u128_Na u128_Ni u128_Np u128_No u128_Nx u128_Nf u128_Nq u128_Nj u128_M1 u128_rt z.1 z.2.1 x6_140 z.2.2 h h0 h1 _ _ _ hP hS (lv_sub hl [1, 2, 3, 4, 5, 0] rfl)
        · replace h := o_ff c23 h
          refine lv_aload_n hx hb d_MM_comesBack_176 rfl (lv_at hl 1 rfl) ?_
          refine lv_iload_n hx hb d_MM_comesBack_177 rfl (lv_at hl 3 rfl) ?_
          refine lv_iload hx hb d_MM_comesBack_178 (lv_at hl 5 rfl) ?_
          obtain ⟨q4, hq4, h⟩ := o_bd_some h
          refine o_V (st1 := [.int q4.1]) (w1 := (m_cw ad ca ky ty u128_rt u128_Ni u128_Np u128_No u128_Nx u128_Nf u128_Na q4.2 u128_Nq u128_Nj u128_M0 u128_M1)) hE.1 C (e_MM_go hE hKy l z.1 z.2.1 z.2.2 u128_Ni u128_Np u128_No u128_Nx u128_Nf u128_Na u128_Nq u128_Nj u128_M0 u128_M1 u128_rt hq4) hP (hDD _ _ _ _ _ _ _ _ _ _ _ _) hS hl.1 rfl mw_0 k_9_198 k_9_200 k_s_115 k_1_12 k_9_201 hv_MM_go rfl rfl ⟨(Nat.le_of_ble_eq_true rfl), (Nat.le_of_ble_eq_true rfl)⟩ rfl (Nat.le_of_ble_eq_true rfl) ⟨Nat.zero_le _, Nat.zero_le _⟩ rfl d_MM_comesBack_180 (fun H locs hP hS => ?_)
          refine lv_istore_n (lv' := [(2, .int q4.1), (6, .int x6_140), (0, .ref (ad 0)), (1, .int u128_x1), (3, .int u128_x3), (5, .int z.2.1)]) hx hb d_MM_comesBack_183 rfl hl (by decide) rfl (fun ls hl => ?_)
          refine lv_goto (tgt := 248) hx hb d_MM_comesBack_184 (by decide) ?_
          exact f_MM_comesBack_j248 hE hKy C hDD n u128_x1 u128_x3 u128_M0 u128_Na u128_Ni u128_Np u128_No u128_Nx u128_Nf u128_Nq u128_Nj u128_M1 u128_rt q4.1 z.2.1 q4.2 h h0 h1 _ _ _ hP hS (lv_sub hl [2, 3, 0, 4, 5] rfl)
    · replace h := o_tt c14 h
      refine lv_aload_n hx hb d_MM_comesBack_149 rfl (lv_at hl 1 rfl) ?_
      refine lv_iload_n hx hb d_MM_comesBack_150 rfl (lv_at hl 3 rfl) ?_
      refine lv_aload_n hx hb d_MM_comesBack_151 rfl (lv_at hl 1 rfl) ?_
      refine o_get (v := .ref (ad 22)) C in_MM hP 0 mw_0 rfl 41 (by decide) k_8_31 rfl rfl d_MM_comesBack_152 ?_
      refine lv_iload hx hb d_MM_comesBack_155 (lv_at hl 5 rfl) ?_
      obtain ⟨g24, h⟩ := o_gd_some h
      refine o_iald (f := (NA_target u128_Na)) C hP 22 21 mw_22 rfl g24 d_MM_comesBack_157 ?_
      obtain ⟨q5, hq5, h⟩ := o_bd_some h
      refine o_V (st1 := [.int q5.1]) (w1 := (m_cw ad ca ky ty u128_rt u128_Ni u128_Np u128_No u128_Nx u128_Nf u128_Na q5.2 u128_Nq u128_Nj u128_M0 u128_M1)) hE.1 C (e_MM_go hE hKy l z.1 ((NA_target u128_Na) z.2.1.toNatClampNeg) z.2.2 u128_Ni u128_Np u128_No u128_Nx u128_Nf u128_Na u128_Nq u128_Nj u128_M0 u128_M1 u128_rt hq5) hP (hDD _ _ _ _ _ _ _ _ _ _ _ _) hS hl.1 rfl mw_0 k_9_198 k_9_200 k_s_115 k_1_12 k_9_201 hv_MM_go rfl rfl ⟨(Nat.le_of_ble_eq_true rfl), (Nat.le_of_ble_eq_true rfl)⟩ rfl (Nat.le_of_ble_eq_true rfl) ⟨Nat.zero_le _, Nat.zero_le _⟩ rfl d_MM_comesBack_158 (fun H locs hP hS => ?_)
      refine lv_istore_n (lv' := [(2, .int q5.1), (6, .int x6_140), (0, .ref (ad 0)), (1, .int u128_x1), (3, .int u128_x3), (5, .int z.2.1)]) hx hb d_MM_comesBack_161 rfl hl (by decide) rfl (fun ls hl => ?_)
      refine lv_goto (tgt := 248) hx hb d_MM_comesBack_162 (by decide) ?_
      exact f_MM_comesBack_j248 hE hKy C hDD n u128_x1 u128_x3 u128_M0 u128_Na u128_Ni u128_Np u128_No u128_Nx u128_Nf u128_Nq u128_Nj u128_M1 u128_rt q5.1 z.2.1 q5.2 h h0 h1 _ _ _ hP hS (lv_sub hl [2, 3, 0, 4, 5] rfl)
set_option maxHeartbeats 4000000 in
set_option maxRecDepth 100000 in
theorem f_MM_comesBack_j96 {E : (Nat → Prop) → State → Heap → Prop} {p : Program} {l : Launch} {e : Env} {s : State} {m : MethodId} {args : Array Value} {below : List Frame} {meth : Method} {c : Code} {D : va_G} {ad kd sd vd xd : Nat → Nat} {ca : Nat → ClassId} {A : Nat → Prop} {ky ty : Nat → Option Nat} {Q : State → Prop} (hE : o_EK E kd sd vd xd) (hKy : m_KY ky ty sd) (C : o_Cx E p s m args meth c D m_cls (m_tys ca) "SchemaJudgeModel" b_MM_comesBack (some .boolean) 8 cc_MM_comesBack A) (hDD : ∀ (rt : Nat) (Ni : SNI) (Np : SNP) (No : SNO) (Nx : SNX) (Nf : SNF) (Na : SNA) (Nh : SNH) (Nq : SNQ) (Nj : SNJ) (M0 : SMT) (M1 : SMT), va_D A (m_cw ad ca ky ty rt Ni Np No Nx Nf Na Nh Nq Nj M0 M1)) (n : Nat) (u40_x1 : Int32) (u40_M0 : SMT) (u40_Na : SNA) (u40_Ni : SNI) (u40_Np : SNP) (u40_No : SNO) (u40_Nx : SNX) (u40_Nf : SNF) (u40_Nq : SNQ) (u40_Nj : SNJ) (u40_M1 : SMT) (u40_rt : Nat) (x2 : Int32) (x4 : Int32) (Nh : SNH) {q : Nat × Int32 × Int32 × SNH} (h : m_MM_comesBack_j96 n u40_x1 x2 x4 u40_M0 u40_Na Nh = some q) (h0 : q.1 = 0 → o_At p l e rm_MM_comesBack s m args below meth c Q m_cls D A 8 40 [] (m_cw ad ca ky ty u40_rt u40_Ni u40_Np u40_No u40_Nx u40_Nf u40_Na q.2.2.2 u40_Nq u40_Nj u40_M0 u40_M1) [(0, .ref (ad 0)), (1, .int u40_x1), (2, .int q.2.1), (3, .int q.2.2.1)]) (h1 : q.1 ≠ 0 → (if q.1 = 1 then o_At p l e rm_MM_comesBack s m args below meth c Q m_cls D A 8 65 [] (m_cw ad ca ky ty u40_rt u40_Ni u40_Np u40_No u40_Nx u40_Nf u40_Na q.2.2.2 u40_Nq u40_Nj u40_M0 u40_M1) [] else o_At p l e rm_MM_comesBack s m args below meth c Q m_cls D A 8 266 [] (m_cw ad ca ky ty u40_rt u40_Ni u40_Np u40_No u40_Nx u40_Nf u40_Na q.2.2.2 u40_Nq u40_Nj u40_M0 u40_M1) [])) : o_At p l e rm_MM_comesBack s m args below meth c Q m_cls D A 8 96 [] (m_cw ad ca ky ty u40_rt u40_Ni u40_Np u40_No u40_Nx u40_Nf u40_Na Nh u40_Nq u40_Nj u40_M0 u40_M1) [(0, .ref (ad 0)), (1, .int u40_x1), (2, .int x2), (4, .int x4)] := by
  unfold m_MM_comesBack_j96 at h
  intro H locs ls hP hS hl
  have C0 := C
  obtain ⟨hx, hb, -, -, -, hown, hts, hK, -, -⟩ := C0
  refine lv_iconst (v := (0:Int32)) hx hb d_MM_comesBack_96 (by decide) ?_
  refine lv_istore_n (lv' := [(3, .int (0:Int32)), (0, .ref (ad 0)), (1, .int u40_x1), (2, .int x2), (4, .int x4)]) hx hb d_MM_comesBack_97 rfl hl (by decide) rfl (fun ls hl => ?_)
  refine lv_aload_n hx hb d_MM_comesBack_98 rfl (lv_at hl 1 rfl) ?_
  refine o_get (v := .ref (ad 33)) C in_MM hP 0 mw_0 rfl 4 (by decide) k_7_234 rfl rfl d_MM_comesBack_99 ?_
  refine o_get (v := .ref (ad 35)) C in_MT hP 33 mw_33 rfl 1 (by decide) k_7_103 rfl rfl d_MM_comesBack_102 ?_
  refine lv_iload hx hb d_MM_comesBack_105 (lv_at hl 4 rfl) ?_
  obtain ⟨g9, h⟩ := o_gd_some h
  refine o_iald (f := (MT_kind u40_M0)) C hP 35 33 mw_35 rfl g9 d_MM_comesBack_107 ?_
  refine lv_bipush (v := (6:Int32)) hx hb d_MM_comesBack_108 (by decide) ?_
  refine lv_icmp_eq (tgt := 116) hx hb d_MM_comesBack_110 (by decide) (fun c10 => ?_) (fun c10 => ?_)
  · replace h := o_tt c10 h
    refine lv_aload_n hx hb d_MM_comesBack_116 rfl (lv_at hl 1 rfl) ?_
    refine o_get (v := .ref (ad 33)) C in_MM hP 0 mw_0 rfl 4 (by decide) k_7_234 rfl rfl d_MM_comesBack_117 ?_
    refine o_get (v := .ref (ad 40)) C in_MT hP 33 mw_33 rfl 6 (by decide) k_7_113 rfl rfl d_MM_comesBack_120 ?_
    refine lv_iload hx hb d_MM_comesBack_123 (lv_at hl 4 rfl) ?_
    obtain ⟨g11, h⟩ := o_gd_some h
    refine o_iald (f := (MT_first u40_M0)) C hP 40 38 mw_40 rfl g11 d_MM_comesBack_125 ?_
    refine lv_topi (fun x5_126 ex5_126 => ?_)
    replace h := o_nm_at ex5_126 h
    refine lv_istore (lv' := [(5, .int x5_126), (3, .int (0:Int32)), (0, .ref (ad 0)), (1, .int u40_x1), (2, .int x2), (4, .int x4)]) hx hb d_MM_comesBack_126 hl (by decide) rfl (fun ls hl => ?_)
    obtain ⟨q6, hq6, h⟩ := o_bd_some h
    refine o_sim2 (AH := fun zz => o_At p l e rm_MM_comesBack s m args below meth c _ m_cls D A 8 128 [] (m_cw ad ca ky ty u40_rt u40_Ni u40_Np u40_No u40_Nx u40_Nf u40_Na zz.2.2 u40_Nq u40_Nj u40_M0 u40_M1) [(0, .ref (ad 0)), (1, .int u40_x1), (2, .int zz.1), (3, .int (0:Int32)), (5, .int zz.2.1)]) (AX := fun qq => o_At p l e rm_MM_comesBack s m args below meth c _ m_cls D A 8 263 [] (m_cw ad ca ky ty u40_rt u40_Ni u40_Np u40_No u40_Nx u40_Nf u40_Na qq.2.2.2 u40_Nq u40_Nj u40_M0 u40_M1) [(0, .ref (ad 0)), (1, .int u40_x1), (2, .int qq.2.1), (3, .int (0:Int32))]) (fun zz qq h h0 h1 => f_MM_comesBack_b128 hE hKy C hDD n u40_x1 (0:Int32) u40_M0 u40_Na u40_Ni u40_Np u40_No u40_Nx u40_Nf u40_Nq u40_Nj u40_M1 u40_rt zz qq h h0 h1) n _ q6 hq6 ?_ _ _ _ hP hS (lv_sub hl [2, 3, 4, 1, 0] rfl)
    intro H locs ls hP hS hl
    refine lv_goto (tgt := 40) hx hb d_MM_comesBack_263 (by decide) ?_
    cases h
    exact h0 rfl _ _ _ hP hS (lv_sub hl [0, 1, 2, 3] rfl)
  · replace h := o_ff c10 h
    refine lv_goto (tgt := 40) hx hb d_MM_comesBack_113 (by decide) ?_
    cases h
    exact h0 rfl _ _ _ hP hS (lv_sub hl [1, 2, 3, 0] rfl)
set_option maxHeartbeats 4000000 in
set_option maxRecDepth 100000 in
theorem f_MM_comesBack_j84 {E : (Nat → Prop) → State → Heap → Prop} {p : Program} {l : Launch} {e : Env} {s : State} {m : MethodId} {args : Array Value} {below : List Frame} {meth : Method} {c : Code} {D : va_G} {ad kd sd vd xd : Nat → Nat} {ca : Nat → ClassId} {A : Nat → Prop} {ky ty : Nat → Option Nat} {Q : State → Prop} (hE : o_EK E kd sd vd xd) (hKy : m_KY ky ty sd) (C : o_Cx E p s m args meth c D m_cls (m_tys ca) "SchemaJudgeModel" b_MM_comesBack (some .boolean) 8 cc_MM_comesBack A) (hDD : ∀ (rt : Nat) (Ni : SNI) (Np : SNP) (No : SNO) (Nx : SNX) (Nf : SNF) (Na : SNA) (Nh : SNH) (Nq : SNQ) (Nj : SNJ) (M0 : SMT) (M1 : SMT), va_D A (m_cw ad ca ky ty rt Ni Np No Nx Nf Na Nh Nq Nj M0 M1)) (n : Nat) (u40_x1 : Int32) (u40_M0 : SMT) (u40_Na : SNA) (u40_Ni : SNI) (u40_Np : SNP) (u40_No : SNO) (u40_Nx : SNX) (u40_Nf : SNF) (u40_Nq : SNQ) (u40_Nj : SNJ) (u40_M1 : SMT) (u40_rt : Nat) (x2 : Int32) (x3 : Int32) (x4 : Int32) (Nh : SNH) {q : Nat × Int32 × Int32 × SNH} (h : m_MM_comesBack_j84 n u40_x1 x2 x3 x4 u40_M0 u40_Na Nh = some q) (h0 : q.1 = 0 → o_At p l e rm_MM_comesBack s m args below meth c Q m_cls D A 8 40 [] (m_cw ad ca ky ty u40_rt u40_Ni u40_Np u40_No u40_Nx u40_Nf u40_Na q.2.2.2 u40_Nq u40_Nj u40_M0 u40_M1) [(0, .ref (ad 0)), (1, .int u40_x1), (2, .int q.2.1), (3, .int q.2.2.1)]) (h1 : q.1 ≠ 0 → (if q.1 = 1 then o_At p l e rm_MM_comesBack s m args below meth c Q m_cls D A 8 65 [] (m_cw ad ca ky ty u40_rt u40_Ni u40_Np u40_No u40_Nx u40_Nf u40_Na q.2.2.2 u40_Nq u40_Nj u40_M0 u40_M1) [] else o_At p l e rm_MM_comesBack s m args below meth c Q m_cls D A 8 266 [] (m_cw ad ca ky ty u40_rt u40_Ni u40_Np u40_No u40_Nx u40_Nf u40_Na q.2.2.2 u40_Nq u40_Nj u40_M0 u40_M1) [])) : o_At p l e rm_MM_comesBack s m args below meth c Q m_cls D A 8 84 [] (m_cw ad ca ky ty u40_rt u40_Ni u40_Np u40_No u40_Nx u40_Nf u40_Na Nh u40_Nq u40_Nj u40_M0 u40_M1) [(0, .ref (ad 0)), (1, .int u40_x1), (2, .int x2), (3, .int x3), (4, .int x4)] := by
  unfold m_MM_comesBack_j84 at h
  intro H locs ls hP hS hl
  have C0 := C
  obtain ⟨hx, hb, -, -, -, hown, hts, hK, -, -⟩ := C0
  refine lv_iload_n hx hb d_MM_comesBack_84 rfl (lv_at hl 3 rfl) ?_
  refine lv_if_ne (tgt := 96) hx hb d_MM_comesBack_85 (by decide) (fun c8 => ?_) (fun c8 => ?_)
  · replace h := o_ff c8 h
    exact f_MM_comesBack_j96 hE hKy C hDD n u40_x1 u40_M0 u40_Na u40_Ni u40_Np u40_No u40_Nx u40_Nf u40_Nq u40_Nj u40_M1 u40_rt x2 x4 Nh h h0 h1 _ _ _ hP hS (lv_sub hl [0, 1, 2, 4] rfl)
  · replace h := o_tt c8 h
    refine lv_aload_n hx hb d_MM_comesBack_88 rfl (lv_at hl 0 rfl) ?_
    refine o_get (v := .ref (ad 28)) C in_MM hP 0 mw_0 rfl 47 (by decide) k_8_37 rfl rfl d_MM_comesBack_89 ?_
    refine lv_iload hx hb d_MM_comesBack_92 (lv_at hl 4 rfl) ?_
    refine lv_iconst (v := (1:Int32)) hx hb d_MM_comesBack_94 (by decide) ?_
    obtain ⟨g25, h⟩ := o_gd_some h
    refine o_zast (f := (NH_seen1 Nh)) (w1 := (m_cw ad ca ky ty u40_rt u40_Ni u40_Np u40_No u40_Nx u40_Nf u40_Na (NH_mk (NH_path Nh) (NH_route Nh) (upd (NH_seen1 Nh) x4.toNatClampNeg (vp_nar .boolean (1:Int32))) (NH_pathSize Nh) (NH_octetRow Nh) (NH_partRow Nh)) u40_Nq u40_Nj u40_M0 u40_M1)) C hP (hDD _ _ _ _ _ _ _ _ _ _ _ _) hS 28 27 mw_28 rfl g25 rfl d_MM_comesBack_95 (fun H locs hP hS => ?_)
    exact f_MM_comesBack_j96 hE hKy C hDD n u40_x1 u40_M0 u40_Na u40_Ni u40_Np u40_No u40_Nx u40_Nf u40_Nq u40_Nj u40_M1 u40_rt x2 x4 (NH_mk (NH_path Nh) (NH_route Nh) (upd (NH_seen1 Nh) x4.toNatClampNeg (vp_nar .boolean (1:Int32))) (NH_pathSize Nh) (NH_octetRow Nh) (NH_partRow Nh)) h h0 h1 _ _ _ hP hS (lv_sub hl [0, 1, 2, 4] rfl)
set_option maxHeartbeats 4000000 in
set_option maxRecDepth 100000 in
theorem f_MM_comesBack_j67 {E : (Nat → Prop) → State → Heap → Prop} {p : Program} {l : Launch} {e : Env} {s : State} {m : MethodId} {args : Array Value} {below : List Frame} {meth : Method} {c : Code} {D : va_G} {ad kd sd vd xd : Nat → Nat} {ca : Nat → ClassId} {A : Nat → Prop} {ky ty : Nat → Option Nat} {Q : State → Prop} (hE : o_EK E kd sd vd xd) (hKy : m_KY ky ty sd) (C : o_Cx E p s m args meth c D m_cls (m_tys ca) "SchemaJudgeModel" b_MM_comesBack (some .boolean) 8 cc_MM_comesBack A) (hDD : ∀ (rt : Nat) (Ni : SNI) (Np : SNP) (No : SNO) (Nx : SNX) (Nf : SNF) (Na : SNA) (Nh : SNH) (Nq : SNQ) (Nj : SNJ) (M0 : SMT) (M1 : SMT), va_D A (m_cw ad ca ky ty rt Ni Np No Nx Nf Na Nh Nq Nj M0 M1)) (n : Nat) (u40_x1 : Int32) (u40_M0 : SMT) (u40_Na : SNA) (u40_Ni : SNI) (u40_Np : SNP) (u40_No : SNO) (u40_Nx : SNX) (u40_Nf : SNF) (u40_Nq : SNQ) (u40_Nj : SNJ) (u40_M1 : SMT) (u40_rt : Nat) (x2 : Int32) (x3 : Int32) (x4 : Int32) (Nh : SNH) {q : Nat × Int32 × Int32 × SNH} (h : m_MM_comesBack_j67 n u40_x1 x2 x3 x4 u40_M0 u40_Na Nh = some q) (h0 : q.1 = 0 → o_At p l e rm_MM_comesBack s m args below meth c Q m_cls D A 8 40 [] (m_cw ad ca ky ty u40_rt u40_Ni u40_Np u40_No u40_Nx u40_Nf u40_Na q.2.2.2 u40_Nq u40_Nj u40_M0 u40_M1) [(0, .ref (ad 0)), (1, .int u40_x1), (2, .int q.2.1), (3, .int q.2.2.1)]) (h1 : q.1 ≠ 0 → (if q.1 = 1 then o_At p l e rm_MM_comesBack s m args below meth c Q m_cls D A 8 65 [] (m_cw ad ca ky ty u40_rt u40_Ni u40_Np u40_No u40_Nx u40_Nf u40_Na q.2.2.2 u40_Nq u40_Nj u40_M0 u40_M1) [] else o_At p l e rm_MM_comesBack s m args below meth c Q m_cls D A 8 266 [] (m_cw ad ca ky ty u40_rt u40_Ni u40_Np u40_No u40_Nx u40_Nf u40_Na q.2.2.2 u40_Nq u40_Nj u40_M0 u40_M1) [])) : o_At p l e rm_MM_comesBack s m args below meth c Q m_cls D A 8 67 [] (m_cw ad ca ky ty u40_rt u40_Ni u40_Np u40_No u40_Nx u40_Nf u40_Na Nh u40_Nq u40_Nj u40_M0 u40_M1) [(0, .ref (ad 0)), (1, .int u40_x1), (2, .int x2), (3, .int x3), (4, .int x4)] := by
  unfold m_MM_comesBack_j67 at h
  intro H locs ls hP hS hl
  have C0 := C
  obtain ⟨hx, hb, -, -, -, hown, hts, hK, -, -⟩ := C0
  refine lv_iload_n hx hb d_MM_comesBack_67 rfl (lv_at hl 3 rfl) ?_
  refine lv_if_ne (tgt := 84) hx hb d_MM_comesBack_68 (by decide) (fun c7 => ?_) (fun c7 => ?_)
  · replace h := o_ff c7 h
    exact f_MM_comesBack_j84 hE hKy C hDD n u40_x1 u40_M0 u40_Na u40_Ni u40_Np u40_No u40_Nx u40_Nf u40_Nq u40_Nj u40_M1 u40_rt x2 x3 x4 Nh h h0 h1 _ _ _ hP hS (lv_sub hl [0, 1, 2, 3, 4] rfl)
  · replace h := o_tt c7 h
    refine lv_aload_n hx hb d_MM_comesBack_71 rfl (lv_at hl 0 rfl) ?_
    refine o_get (v := .ref (ad 28)) C in_MM hP 0 mw_0 rfl 47 (by decide) k_8_37 rfl rfl d_MM_comesBack_72 ?_
    refine lv_iload hx hb d_MM_comesBack_75 (lv_at hl 4 rfl) ?_
    obtain ⟨g26, h⟩ := o_gd_some h
    refine o_zald (f := (NH_seen1 Nh)) C hP 28 27 mw_28 rfl g26 d_MM_comesBack_77 ?_
    refine lv_if_eq (tgt := 84) hx hb d_MM_comesBack_78 (by decide) (fun c27 => ?_) (fun c27 => ?_)
    · replace h := o_tt c27 h
      exact f_MM_comesBack_j84 hE hKy C hDD n u40_x1 u40_M0 u40_Na u40_Ni u40_Np u40_No u40_Nx u40_Nf u40_Nq u40_Nj u40_M1 u40_rt x2 x3 x4 Nh h h0 h1 _ _ _ hP hS (lv_sub hl [0, 1, 2, 3, 4] rfl)
    · replace h := o_ff c27 h
      refine lv_goto (tgt := 40) hx hb d_MM_comesBack_81 (by decide) ?_
      cases h
      exact h0 rfl _ _ _ hP hS (lv_sub hl [0, 1, 2, 3] rfl)
set_option maxHeartbeats 4000000 in
set_option maxRecDepth 100000 in
theorem f_MM_comesBack_b40 {E : (Nat → Prop) → State → Heap → Prop} {p : Program} {l : Launch} {e : Env} {s : State} {m : MethodId} {args : Array Value} {below : List Frame} {meth : Method} {c : Code} {D : va_G} {ad kd sd vd xd : Nat → Nat} {ca : Nat → ClassId} {A : Nat → Prop} {ky ty : Nat → Option Nat} {Q : State → Prop} (hE : o_EK E kd sd vd xd) (hKy : m_KY ky ty sd) (C : o_Cx E p s m args meth c D m_cls (m_tys ca) "SchemaJudgeModel" b_MM_comesBack (some .boolean) 8 cc_MM_comesBack A) (hDD : ∀ (rt : Nat) (Ni : SNI) (Np : SNP) (No : SNO) (Nx : SNX) (Nf : SNF) (Na : SNA) (Nh : SNH) (Nq : SNQ) (Nj : SNJ) (M0 : SMT) (M1 : SMT), va_D A (m_cw ad ca ky ty rt Ni Np No Nx Nf Na Nh Nq Nj M0 M1)) (n : Nat) (u40_x1 : Int32) (u40_M0 : SMT) (u40_Na : SNA) (u40_Ni : SNI) (u40_Np : SNP) (u40_No : SNO) (u40_Nx : SNX) (u40_Nf : SNF) (u40_Nq : SNQ) (u40_Nj : SNJ) (u40_M1 : SMT) (u40_rt : Nat) (z : Int32 × Int32 × SNH) (q : Nat × Int32 × Int32 × SNH) (h : m_MM_comesBack_b40 n u40_x1 u40_M0 u40_Na z = some q) (h0 : q.1 = 0 → o_At p l e rm_MM_comesBack s m args below meth c Q m_cls D A 8 40 [] (m_cw ad ca ky ty u40_rt u40_Ni u40_Np u40_No u40_Nx u40_Nf u40_Na q.2.2.2 u40_Nq u40_Nj u40_M0 u40_M1) [(0, .ref (ad 0)), (1, .int u40_x1), (2, .int q.2.1), (3, .int q.2.2.1)]) (h1 : q.1 ≠ 0 → (if q.1 = 1 then o_At p l e rm_MM_comesBack s m args below meth c Q m_cls D A 8 65 [] (m_cw ad ca ky ty u40_rt u40_Ni u40_Np u40_No u40_Nx u40_Nf u40_Na q.2.2.2 u40_Nq u40_Nj u40_M0 u40_M1) [] else o_At p l e rm_MM_comesBack s m args below meth c Q m_cls D A 8 266 [] (m_cw ad ca ky ty u40_rt u40_Ni u40_Np u40_No u40_Nx u40_Nf u40_Na q.2.2.2 u40_Nq u40_Nj u40_M0 u40_M1) [])) : o_At p l e rm_MM_comesBack s m args below meth c Q m_cls D A 8 40 [] (m_cw ad ca ky ty u40_rt u40_Ni u40_Np u40_No u40_Nx u40_Nf u40_Na z.2.2 u40_Nq u40_Nj u40_M0 u40_M1) [(0, .ref (ad 0)), (1, .int u40_x1), (2, .int z.1), (3, .int z.2.1)] := by
  unfold m_MM_comesBack_b40 at h
  intro H locs ls hP hS hl
  have C0 := C
  obtain ⟨hx, hb, -, -, -, hown, hts, hK, -, -⟩ := C0
  refine lv_iload_n hx hb d_MM_comesBack_40 rfl (lv_at hl 2 rfl) ?_
  refine lv_if_le (tgt := 266) hx hb d_MM_comesBack_41 (by decide) (fun c4 => ?_) (fun c4 => ?_)
  · replace h := o_tt c4 h
    cases h
    exact h1 (Nat.succ_ne_zero 1) _ _ _ hP hS (lv_sub hl [] rfl)
  · replace h := o_ff c4 h
    refine lv_aload_n hx hb d_MM_comesBack_44 rfl (lv_at hl 0 rfl) ?_
    refine o_get (v := .ref (ad 26)) C in_MM hP 0 mw_0 rfl 45 (by decide) k_8_35 rfl rfl d_MM_comesBack_45 ?_
    obtain ⟨x2_48, ex2_48⟩ : ∃ y : Int32, y = z.1 + (-1:Int32) := ⟨_, rfl⟩
    replace h := o_nm_at ex2_48 h
    refine lv_iinc (v := x2_48) (lv' := [(2, .int x2_48), (0, .ref (ad 0)), (1, .int u40_x1), (3, .int z.2.1)]) hx hb d_MM_comesBack_48 hl (k := 2) rfl (by rw [ex2_48]; rfl) (by decide) rfl (fun ls hl => ?_)
    refine lv_iload_n hx hb d_MM_comesBack_51 rfl (lv_at hl 0 rfl) ?_
    obtain ⟨g5, h⟩ := o_gd_some h
    refine o_iald (f := (NH_route z.2.2)) C hP 26 25 mw_26 rfl g5 d_MM_comesBack_52 ?_
    refine lv_topi (fun x4_53 ex4_53 => ?_)
    replace h := o_nm_at ex4_53 h
    refine lv_istore (lv' := [(4, .int x4_53), (2, .int x2_48), (0, .ref (ad 0)), (1, .int u40_x1), (3, .int z.2.1)]) hx hb d_MM_comesBack_53 hl (by decide) rfl (fun ls hl => ?_)
    refine lv_iload_n hx hb d_MM_comesBack_55 rfl (lv_at hl 4 rfl) ?_
    refine lv_if_ne (tgt := 67) hx hb d_MM_comesBack_56 (by decide) (fun c6 => ?_) (fun c6 => ?_)
    · replace h := o_ff c6 h
      exact f_MM_comesBack_j67 hE hKy C hDD n u40_x1 u40_M0 u40_Na u40_Ni u40_Np u40_No u40_Nx u40_Nf u40_Nq u40_Nj u40_M1 u40_rt x2_48 z.2.1 x4_53 z.2.2 h h0 h1 _ _ _ hP hS (lv_sub hl [2, 3, 1, 4, 0] rfl)
    · replace h := o_tt c6 h
      refine lv_iload hx hb d_MM_comesBack_59 (lv_at hl 0 rfl) ?_
      refine lv_iload_n hx hb d_MM_comesBack_61 rfl (lv_at hl 3 rfl) ?_
      refine lv_icmp_ne (tgt := 67) hx hb d_MM_comesBack_62 (by decide) (fun c28 => ?_) (fun c28 => ?_)
      · replace h := o_ff c28 h
        exact f_MM_comesBack_j67 hE hKy C hDD n u40_x1 u40_M0 u40_Na u40_Ni u40_Np u40_No u40_Nx u40_Nf u40_Nq u40_Nj u40_M1 u40_rt x2_48 z.2.1 x4_53 z.2.2 h h0 h1 _ _ _ hP hS (lv_sub hl [2, 3, 1, 4, 0] rfl)
      · replace h := o_tt c28 h
        cases h
        exact h1 (Nat.succ_ne_zero 0) _ _ _ hP hS (lv_sub hl [] rfl)
set_option maxHeartbeats 4000000 in
set_option maxRecDepth 100000 in
theorem e_MM_comesBack {E : (Nat → Prop) → State → Heap → Prop} {D : va_G} {ad kd sd vd xd : Nat → Nat} {ca : Nat → ClassId} {ky ty : Nat → Option Nat} (hE : o_EK E kd sd vd xd) (hKy : m_KY ky ty sd) (l : Launch) (n : Nat) (x1 : Int32) (M0 : SMT) (Na : SNA) (Nh : SNH) (Ni : SNI) (Np : SNP) (No : SNO) (Nx : SNX) (Nf : SNF) (Nq : SNQ) (Nj : SNJ) (M1 : SMT) (rt : Nat) {r : Int32 × SNH} (h : m_MM_comesBack n x1 M0 Na Nh = some r) : o_Cn E l D m_cls (m_tys ca) y_MM_comesBack cc_MM_comesBack rm_MM_comesBack [.ref (ad 0), .int x1] (m_cw ad ca ky ty rt Ni Np No Nx Nf Na Nh Nq Nj M0 M1) (m_cw ad ca ky ty rt Ni Np No Nx Nf Na r.2 Nq Nj M0 M1) (some (.int r.1)) := by
  refine o_Cn_of (by decide) (Nat.le_of_ble_eq_true rfl) ?_
  intro p e s m below meth c A ls C hD hP hS hl
  have hDD : ∀ (rt : Nat) (Ni : SNI) (Np : SNP) (No : SNO) (Nx : SNX) (Nf : SNF) (Na : SNA) (Nh : SNH) (Nq : SNQ) (Nj : SNJ) (M0 : SMT) (M1 : SMT), va_D A (m_cw ad ca ky ty rt Ni Np No Nx Nf Na Nh Nq Nj M0 M1) := fun _ _ _ _ _ _ _ _ _ _ _ _ => o_D_map hD rfl
  have hl : lv_has ls 8 [(0, .ref (ad 0)), (1, .int x1)] := hl
  unfold m_MM_comesBack at h
  have C0 := C
  obtain ⟨hx, hb, -, -, -, hown, hts, hK, -, -⟩ := C0
  refine lv_iconst (v := (0:Int32)) hx hb d_MM_comesBack_0 (by decide) ?_
  refine lv_istore_n (lv' := [(2, .int (0:Int32)), (0, .ref (ad 0)), (1, .int x1)]) hx hb d_MM_comesBack_1 rfl hl (by decide) rfl (fun ls hl => ?_)
  obtain ⟨q1, hq1, h⟩ := o_bd_some h
  refine o_sim2 (AH := fun zz => o_At p l e rm_MM_comesBack s m _ below meth c _ m_cls D A 8 2 [] (m_cw ad ca ky ty rt Ni Np No Nx Nf Na zz.2 Nq Nj M0 M1) [(0, .ref (ad 0)), (1, .int x1), (2, .int zz.1)]) (AX := fun qq => o_At p l e rm_MM_comesBack s m _ below meth c _ m_cls D A 8 26 [] (m_cw ad ca ky ty rt Ni Np No Nx Nf Na qq.2.2 Nq Nj M0 M1) [(0, .ref (ad 0)), (1, .int x1)]) (fun zz qq h h0 h1 => f_MM_comesBack_b2 hE hKy C hDD n x1 M0 Na Ni Np No Nx Nf Nq Nj M1 rt zz qq h h0 h1) n _ q1 hq1 ?_ _ _ _ hP hS (lv_sub hl [1, 2, 0] rfl)
  intro H locs ls hP hS hl
  refine lv_iconst (v := (0:Int32)) hx hb d_MM_comesBack_26 (by decide) ?_
  refine lv_istore_n (lv' := [(2, .int (0:Int32)), (0, .ref (ad 0)), (1, .int x1)]) hx hb d_MM_comesBack_27 rfl hl (by decide) rfl (fun ls hl => ?_)
  refine lv_aload_n hx hb d_MM_comesBack_28 rfl (lv_at hl 1 rfl) ?_
  refine o_get (v := .ref (ad 26)) C in_MM hP 0 mw_0 rfl 45 (by decide) k_8_35 rfl rfl d_MM_comesBack_29 ?_
  refine lv_iload_n hx hb d_MM_comesBack_32 rfl (lv_at hl 0 rfl) ?_
  obtain ⟨x2_33, ex2_33⟩ : ∃ y : Int32, y = (0:Int32) + (1:Int32) := ⟨_, rfl⟩
  replace h := o_nm_at ex2_33 h
  refine lv_iinc (v := x2_33) (lv' := [(2, .int x2_33), (0, .ref (ad 0)), (1, .int x1)]) hx hb d_MM_comesBack_33 hl (k := 0) rfl (by rw [ex2_33]; rfl) (by decide) rfl (fun ls hl => ?_)
  refine lv_iload_n hx hb d_MM_comesBack_36 rfl (lv_at hl 2 rfl) ?_
  obtain ⟨g3, h⟩ := o_gd_some h
  refine o_iast (f := (NH_route q1.2.2)) (w1 := (m_cw ad ca ky ty rt Ni Np No Nx Nf Na (NH_mk (NH_path q1.2.2) (upd (NH_route q1.2.2) (0:Int32).toNatClampNeg x1) (NH_seen1 q1.2.2) (NH_pathSize q1.2.2) (NH_octetRow q1.2.2) (NH_partRow q1.2.2)) Nq Nj M0 M1)) C hP (hDD _ _ _ _ _ _ _ _ _ _ _ _) hS 26 25 mw_26 rfl g3 rfl d_MM_comesBack_37 (fun H locs hP hS => ?_)
  refine lv_iconst (v := (1:Int32)) hx hb d_MM_comesBack_38 (by decide) ?_
  refine lv_istore_n (lv' := [(3, .int (1:Int32)), (2, .int x2_33), (0, .ref (ad 0)), (1, .int x1)]) hx hb d_MM_comesBack_39 rfl hl (by decide) rfl (fun ls hl => ?_)
  obtain ⟨q7, hq7, h⟩ := o_bd_some h
  refine o_sim2 (AH := fun zz => o_At p l e rm_MM_comesBack s m _ below meth c _ m_cls D A 8 40 [] (m_cw ad ca ky ty rt Ni Np No Nx Nf Na zz.2.2 Nq Nj M0 M1) [(0, .ref (ad 0)), (1, .int x1), (2, .int zz.1), (3, .int zz.2.1)]) (AX := fun qq => if qq.1 = 1 then o_At p l e rm_MM_comesBack s m _ below meth c _ m_cls D A 8 65 [] (m_cw ad ca ky ty rt Ni Np No Nx Nf Na qq.2.2.2 Nq Nj M0 M1) [] else o_At p l e rm_MM_comesBack s m _ below meth c _ m_cls D A 8 266 [] (m_cw ad ca ky ty rt Ni Np No Nx Nf Na qq.2.2.2 Nq Nj M0 M1) []) (fun zz qq h h0 h1 => f_MM_comesBack_b40 hE hKy C hDD n x1 M0 Na Ni Np No Nx Nf Nq Nj M1 rt zz qq h h0 h1) n _ q7 hq7 ?_ _ _ _ hP hS (lv_sub hl [2, 3, 1, 0] rfl)
  by_cases c29 : q7.1 = 1
  · replace h := o_tt c29 h
    refine o_ip c29 ?_
    intro H locs ls hP hS hl
    refine lv_iconst (v := (1:Int32)) hx hb d_MM_comesBack_65 (by decide) ?_
    cases h
    exact o_rz (v := (1:Int32)) C o_nar1 hP hS d_MM_comesBack_66
  replace h := o_ff c29 h
  refine o_in_ c29 ?_
  intro H locs ls hP hS hl
  refine lv_iconst (v := (0:Int32)) hx hb d_MM_comesBack_266 (by decide) ?_
  cases h
  exact o_rz (v := (0:Int32)) C o_nar0 hP hS d_MM_comesBack_267
set_option maxHeartbeats 4000000 in
set_option maxRecDepth 100000 in
theorem f_MM_check_b42 {E : (Nat → Prop) → State → Heap → Prop} {p : Program} {l : Launch} {e : Env} {s : State} {m : MethodId} {args : Array Value} {below : List Frame} {meth : Method} {c : Code} {D : va_G} {ad kd sd vd xd : Nat → Nat} {ca : Nat → ClassId} {A : Nat → Prop} {ky ty : Nat → Option Nat} {Q : State → Prop} (hE : o_EK E kd sd vd xd) (hKy : m_KY ky ty sd) (C : o_Cx E p s m args meth c D m_cls (m_tys ca) "SchemaJudgeModel" b_MM_check (some .int) 2 cc_MM_check A) (hDD : ∀ (rt : Nat) (Ni : SNI) (Np : SNP) (No : SNO) (Nx : SNX) (Nf : SNF) (Na : SNA) (Nh : SNH) (Nq : SNQ) (Nj : SNJ) (M0 : SMT) (M1 : SMT), va_D A (m_cw ad ca ky ty rt Ni Np No Nx Nf Na Nh Nq Nj M0 M1)) (n : Nat) (u42_M0 : SMT) (u42_Ni : SNI) (u42_Np : SNP) (u42_No : SNO) (u42_Nf : SNF) (u42_Nh : SNH) (u42_rt : Nat) (u42_Nx : SNX) (u42_Nq : SNQ) (u42_Nj : SNJ) (u42_M1 : SMT) (z : Int32 × SNA) (q : Nat × Int32 × SNA) (h : m_MM_check_b42 n u42_M0 u42_Ni u42_Np u42_No u42_Nf u42_Nh u42_rt z = some q) (h0 : q.1 = 0 → o_At p l e rm_MM_check s m args below meth c Q m_cls D A 2 42 [] (m_cw ad ca ky ty u42_rt u42_Ni u42_Np u42_No u42_Nx u42_Nf q.2.2 u42_Nh u42_Nq u42_Nj u42_M0 u42_M1) [(0, .ref (ad 0)), (1, .int q.2.1)]) (h1 : q.1 ≠ 0 → (o_At p l e rm_MM_check s m args below meth c Q m_cls D A 2 76 [] (m_cw ad ca ky ty u42_rt u42_Ni u42_Np u42_No u42_Nx u42_Nf q.2.2 u42_Nh u42_Nq u42_Nj u42_M0 u42_M1) [(0, .ref (ad 0))])) : o_At p l e rm_MM_check s m args below meth c Q m_cls D A 2 42 [] (m_cw ad ca ky ty u42_rt u42_Ni u42_Np u42_No u42_Nx u42_Nf z.2 u42_Nh u42_Nq u42_Nj u42_M0 u42_M1) [(0, .ref (ad 0)), (1, .int z.1)] := by
  unfold m_MM_check_b42 at h
  intro H locs ls hP hS hl
  have C0 := C
  obtain ⟨hx, hb, -, -, -, hown, hts, hK, -, -⟩ := C0
  refine lv_iload_n hx hb d_MM_check_42 rfl (lv_at hl 1 rfl) ?_
  refine lv_sipush (v := (1000:Int32)) hx hb d_MM_check_43 (by decide) ?_
  refine lv_icmp_ge (tgt := 76) hx hb d_MM_check_46 (by decide) (fun c3 => ?_) (fun c3 => ?_)
  · replace h := o_tt c3 h
    cases h
    exact h1 (Nat.succ_ne_zero 0) _ _ _ hP hS (lv_sub hl [0] rfl)
  · replace h := o_ff c3 h
    refine lv_aload_n hx hb d_MM_check_49 rfl (lv_at hl 0 rfl) ?_
    refine o_get (v := .ref (ad 27)) C in_MM hP 0 mw_0 rfl 46 (by decide) k_8_36 rfl rfl d_MM_check_50 ?_
    refine lv_iload_n hx hb d_MM_check_53 rfl (lv_at hl 1 rfl) ?_
    refine lv_iconst (v := (0:Int32)) hx hb d_MM_check_54 (by decide) ?_
    obtain ⟨g4, h⟩ := o_gd_some h
    refine o_zast (f := (NA_isSchema z.2)) (w1 := (m_cw ad ca ky ty u42_rt u42_Ni u42_Np u42_No u42_Nx u42_Nf (NA_mk (NA_anchors z.2) (NA_key z.2) (NA_target z.2) (NA_anchorValue z.2) (NA_anchorSchema z.2) (upd (NA_isSchema z.2) z.1.toNatClampNeg (vp_nar .boolean (0:Int32)))) u42_Nh u42_Nq u42_Nj u42_M0 u42_M1)) C hP (hDD _ _ _ _ _ _ _ _ _ _ _ _) hS 27 26 mw_27 rfl g4 rfl d_MM_check_55 (fun H locs hP hS => ?_)
    refine lv_aload_n hx hb d_MM_check_56 rfl (lv_at hl 0 rfl) ?_
    refine o_get (v := .ref (ad 21)) C in_MM hP 0 mw_0 rfl 40 (by decide) k_8_30 rfl rfl d_MM_check_57 ?_
    refine lv_iload_n hx hb d_MM_check_60 rfl (lv_at hl 1 rfl) ?_
    refine lv_iconst (v := (-1:Int32)) hx hb d_MM_check_61 (by decide) ?_
    obtain ⟨g5, h⟩ := o_gd_some h
    refine o_iast (f := (NA_key z.2)) (w1 := (m_cw ad ca ky ty u42_rt u42_Ni u42_Np u42_No u42_Nx u42_Nf (NA_mk (NA_anchors z.2) (upd (NA_key z.2) z.1.toNatClampNeg (-1:Int32)) (NA_target z.2) (NA_anchorValue z.2) (NA_anchorSchema z.2) (upd (NA_isSchema z.2) z.1.toNatClampNeg (vp_nar .boolean (0:Int32)))) u42_Nh u42_Nq u42_Nj u42_M0 u42_M1)) C hP (hDD _ _ _ _ _ _ _ _ _ _ _ _) hS 21 20 mw_21 rfl g5 rfl d_MM_check_62 (fun H locs hP hS => ?_)
    refine lv_aload_n hx hb d_MM_check_63 rfl (lv_at hl 0 rfl) ?_
    refine o_get (v := .ref (ad 22)) C in_MM hP 0 mw_0 rfl 41 (by decide) k_8_31 rfl rfl d_MM_check_64 ?_
    refine lv_iload_n hx hb d_MM_check_67 rfl (lv_at hl 1 rfl) ?_
    refine lv_iconst (v := (-1:Int32)) hx hb d_MM_check_68 (by decide) ?_
    obtain ⟨g6, h⟩ := o_gd_some h
    refine o_iast (f := (NA_target z.2)) (w1 := (m_cw ad ca ky ty u42_rt u42_Ni u42_Np u42_No u42_Nx u42_Nf (NA_mk (NA_anchors z.2) (upd (NA_key z.2) z.1.toNatClampNeg (-1:Int32)) (upd (NA_target z.2) z.1.toNatClampNeg (-1:Int32)) (NA_anchorValue z.2) (NA_anchorSchema z.2) (upd (NA_isSchema z.2) z.1.toNatClampNeg (vp_nar .boolean (0:Int32)))) u42_Nh u42_Nq u42_Nj u42_M0 u42_M1)) C hP (hDD _ _ _ _ _ _ _ _ _ _ _ _) hS 22 21 mw_22 rfl g6 rfl d_MM_check_69 (fun H locs hP hS => ?_)
    obtain ⟨x1_70, ex1_70⟩ : ∃ y : Int32, y = z.1 + (1:Int32) := ⟨_, rfl⟩
    replace h := o_nm_at ex1_70 h
    refine lv_iinc (v := x1_70) (lv' := [(1, .int x1_70), (0, .ref (ad 0))]) hx hb d_MM_check_70 hl (k := 1) rfl (by rw [ex1_70]; rfl) (by decide) rfl (fun ls hl => ?_)
    refine lv_goto (tgt := 42) hx hb d_MM_check_73 (by decide) ?_
    cases h
    exact h0 rfl _ _ _ hP hS (lv_sub hl [1, 0] rfl)
set_option maxHeartbeats 4000000 in
set_option maxRecDepth 100000 in
theorem f_MM_check_j231 {E : (Nat → Prop) → State → Heap → Prop} {p : Program} {l : Launch} {e : Env} {s : State} {m : MethodId} {args : Array Value} {below : List Frame} {meth : Method} {c : Code} {D : va_G} {ad kd sd vd xd : Nat → Nat} {ca : Nat → ClassId} {A : Nat → Prop} {ky ty : Nat → Option Nat} (hE : o_EK E kd sd vd xd) (hKy : m_KY ky ty sd) (C : o_Cx E p s m args meth c D m_cls (m_tys ca) "SchemaJudgeModel" b_MM_check (some .int) 2 cc_MM_check A) (hDD : ∀ (rt : Nat) (Ni : SNI) (Np : SNP) (No : SNO) (Nx : SNX) (Nf : SNF) (Na : SNA) (Nh : SNH) (Nq : SNQ) (Nj : SNJ) (M0 : SMT) (M1 : SMT), va_D A (m_cw ad ca ky ty rt Ni Np No Nx Nf Na Nh Nq Nj M0 M1)) (n : Nat) (y1 : Int32) (M0 : SMT) (Ni : SNI) (Np : SNP) (No : SNO) (Nf : SNF) (Na : SNA) (Nh : SNH) (rt : Nat) (Nx : SNX) (Nq : SNQ) (Nj : SNJ) (M1 : SMT) {r : Int32 × SNI × SNP × SNO × SNF × SNA × SNH × Nat} (h : m_MM_check_j231 n y1 M0 Ni Np No Nf Na Nh rt = some r) : o_At p l e rm_MM_check s m args below meth c (MQ below (o_Qx D m_cls (some (.int r.1)) (m_cw ad ca ky ty r.2.2.2.2.2.2.2 r.2.1 r.2.2.1 r.2.2.2.1 Nx r.2.2.2.2.1 r.2.2.2.2.2.1 r.2.2.2.2.2.2.1 Nq Nj M0 M1) A) args s 0 0 A) m_cls D A 2 231 [.int y1, .ref (ad 0)] (m_cw ad ca ky ty rt Ni Np No Nx Nf Na Nh Nq Nj M0 M1) [(0, .ref (ad 0))] := by
  unfold m_MM_check_j231 at h
  intro H locs ls hP hS hl
  have C0 := C
  obtain ⟨hx, hb, -, -, -, hown, hts, hK, -, -⟩ := C0
  obtain ⟨g10, h⟩ := o_gd_some h
  refine o_put (v := .int y1) (ty := .boolean) (w1 := (m_cw ad ca ky ty rt Ni Np No Nx (NF_mk y1 (NF_faultKind Nf) (NF_faultValue Nf) (NF_latestFault Nf)) Na Nh Nq Nj M0 M1)) C in_MM t_MM t_MM_ok n_MM hP (hDD _ _ _ _ _ _ _ _ _ _ _ _) hS 0 mw_0 rfl 35 (by decide) k_8_25 rfl rfl (by decide +kernel) (o_zb_nar g10) (o_zb_fit g10) (Nat.le_of_ble_eq_true rfl) rfl d_MM_check_231 (fun H locs hP hS => ?_)
  refine lv_aload_n hx hb d_MM_check_234 rfl (lv_at hl 0 rfl) ?_
  refine lv_aload_n hx hb d_MM_check_235 rfl (lv_at hl 0 rfl) ?_
  refine o_get (v := .int (NF_faultKind Nf)) C in_MM hP 0 mw_0 rfl 36 (by decide) k_8_26 rfl rfl d_MM_check_236 ?_
  refine lv_if_eq (tgt := 249) hx hb d_MM_check_239 (by decide) (fun c11 => ?_) (fun c11 => ?_)
  · replace h := o_tt c11 h
    refine lv_iconst (v := (-1:Int32)) hx hb d_MM_check_249 (by decide) ?_
    refine o_put (v := .int (-1:Int32)) (ty := .int) (w1 := (m_cw ad ca ky ty rt Ni Np No Nx (NF_mk y1 (NF_faultKind Nf) (NF_faultValue Nf) (-1:Int32)) Na Nh Nq Nj M0 M1)) C in_MM t_MM t_MM_ok n_MM hP (hDD _ _ _ _ _ _ _ _ _ _ _ _) hS 0 mw_0 rfl 38 (by decide) k_8_28 rfl rfl (by decide +kernel) rfl rfl (Nat.le_of_ble_eq_true rfl) rfl d_MM_check_250 (fun H locs hP hS => ?_)
    refine lv_aload_n hx hb d_MM_check_253 rfl (lv_at hl 0 rfl) ?_
    refine o_get (v := .int (NF_faultKind Nf)) C in_MM hP 0 mw_0 rfl 36 (by decide) k_8_26 rfl rfl d_MM_check_254 ?_
    cases h
    exact o_ri (v := (NF_faultKind Nf)) C hP hS d_MM_check_257
  · replace h := o_ff c11 h
    refine lv_aload_n hx hb d_MM_check_242 rfl (lv_at hl 0 rfl) ?_
    refine o_get (v := .int (NF_faultValue Nf)) C in_MM hP 0 mw_0 rfl 37 (by decide) k_8_27 rfl rfl d_MM_check_243 ?_
    refine lv_goto (tgt := 250) hx hb d_MM_check_246 (by decide) ?_
    refine o_put (v := .int (NF_faultValue Nf)) (ty := .int) (w1 := (m_cw ad ca ky ty rt Ni Np No Nx (NF_mk y1 (NF_faultKind Nf) (NF_faultValue Nf) (NF_faultValue Nf)) Na Nh Nq Nj M0 M1)) C in_MM t_MM t_MM_ok n_MM hP (hDD _ _ _ _ _ _ _ _ _ _ _ _) hS 0 mw_0 rfl 38 (by decide) k_8_28 rfl rfl (by decide +kernel) rfl rfl (Nat.le_of_ble_eq_true rfl) rfl d_MM_check_250 (fun H locs hP hS => ?_)
    refine lv_aload_n hx hb d_MM_check_253 rfl (lv_at hl 0 rfl) ?_
    refine o_get (v := .int (NF_faultKind Nf)) C in_MM hP 0 mw_0 rfl 36 (by decide) k_8_26 rfl rfl d_MM_check_254 ?_
    cases h
    exact o_ri (v := (NF_faultKind Nf)) C hP hS d_MM_check_257
set_option maxHeartbeats 4000000 in
set_option maxRecDepth 100000 in
theorem f_MM_check_j218 {E : (Nat → Prop) → State → Heap → Prop} {p : Program} {l : Launch} {e : Env} {s : State} {m : MethodId} {args : Array Value} {below : List Frame} {meth : Method} {c : Code} {D : va_G} {ad kd sd vd xd : Nat → Nat} {ca : Nat → ClassId} {A : Nat → Prop} {ky ty : Nat → Option Nat} (hE : o_EK E kd sd vd xd) (hKy : m_KY ky ty sd) (C : o_Cx E p s m args meth c D m_cls (m_tys ca) "SchemaJudgeModel" b_MM_check (some .int) 2 cc_MM_check A) (hDD : ∀ (rt : Nat) (Ni : SNI) (Np : SNP) (No : SNO) (Nx : SNX) (Nf : SNF) (Na : SNA) (Nh : SNH) (Nq : SNQ) (Nj : SNJ) (M0 : SMT) (M1 : SMT), va_D A (m_cw ad ca ky ty rt Ni Np No Nx Nf Na Nh Nq Nj M0 M1)) (n : Nat)  (M0 : SMT) (Ni : SNI) (Np : SNP) (No : SNO) (Nf : SNF) (Na : SNA) (Nh : SNH) (rt : Nat) (Nx : SNX) (Nq : SNQ) (Nj : SNJ) (M1 : SMT) {r : Int32 × SNI × SNP × SNO × SNF × SNA × SNH × Nat} (h : m_MM_check_j218 n M0 Ni Np No Nf Na Nh rt = some r) : o_At p l e rm_MM_check s m args below meth c (MQ below (o_Qx D m_cls (some (.int r.1)) (m_cw ad ca ky ty r.2.2.2.2.2.2.2 r.2.1 r.2.2.1 r.2.2.2.1 Nx r.2.2.2.2.1 r.2.2.2.2.2.1 r.2.2.2.2.2.2.1 Nq Nj M0 M1) A) args s 0 0 A) m_cls D A 2 218 [] (m_cw ad ca ky ty rt Ni Np No Nx Nf Na Nh Nq Nj M0 M1) [(0, .ref (ad 0))] := by
  unfold m_MM_check_j218 at h
  intro H locs ls hP hS hl
  have C0 := C
  obtain ⟨hx, hb, -, -, -, hown, hts, hK, -, -⟩ := C0
  refine lv_aload_n hx hb d_MM_check_218 rfl (lv_at hl 0 rfl) ?_
  refine lv_aload_n hx hb d_MM_check_219 rfl (lv_at hl 0 rfl) ?_
  refine o_get (v := .int (NF_faultKind Nf)) C in_MM hP 0 mw_0 rfl 36 (by decide) k_8_26 rfl rfl d_MM_check_220 ?_
  refine lv_if_ne (tgt := 230) hx hb d_MM_check_223 (by decide) (fun c9 => ?_) (fun c9 => ?_)
  · replace h := o_ff c9 h
    refine lv_iconst (v := (0:Int32)) hx hb d_MM_check_230 (by decide) ?_
    exact f_MM_check_j231 hE hKy C hDD n (0:Int32) M0 Ni Np No Nf Na Nh rt Nx Nq Nj M1 h _ _ _ hP hS (lv_sub hl [0] rfl)
  · replace h := o_tt c9 h
    refine lv_iconst (v := (1:Int32)) hx hb d_MM_check_226 (by decide) ?_
    refine lv_goto (tgt := 231) hx hb d_MM_check_227 (by decide) ?_
    exact f_MM_check_j231 hE hKy C hDD n (1:Int32) M0 Ni Np No Nf Na Nh rt Nx Nq Nj M1 h _ _ _ hP hS (lv_sub hl [0] rfl)
set_option maxHeartbeats 4000000 in
set_option maxRecDepth 100000 in
theorem f_MM_check_b170 {E : (Nat → Prop) → State → Heap → Prop} {p : Program} {l : Launch} {e : Env} {s : State} {m : MethodId} {args : Array Value} {below : List Frame} {meth : Method} {c : Code} {D : va_G} {ad kd sd vd xd : Nat → Nat} {ca : Nat → ClassId} {A : Nat → Prop} {ky ty : Nat → Option Nat} {Q : State → Prop} (hE : o_EK E kd sd vd xd) (hKy : m_KY ky ty sd) (C : o_Cx E p s m args meth c D m_cls (m_tys ca) "SchemaJudgeModel" b_MM_check (some .int) 2 cc_MM_check A) (hDD : ∀ (rt : Nat) (Ni : SNI) (Np : SNP) (No : SNO) (Nx : SNX) (Nf : SNF) (Na : SNA) (Nh : SNH) (Nq : SNQ) (Nj : SNJ) (M0 : SMT) (M1 : SMT), va_D A (m_cw ad ca ky ty rt Ni Np No Nx Nf Na Nh Nq Nj M0 M1)) (n : Nat) (u170_M0 : SMT) (u170_Ni : SNI) (u170_Np : SNP) (u170_No : SNO) (u170_Na : SNA) (u170_rt : Nat) (u170_Nx : SNX) (u170_Nq : SNQ) (u170_Nj : SNJ) (u170_M1 : SMT) (z : Int32 × SNF × SNH) (q : Nat × Int32 × SNF × SNH) (h : m_MM_check_b170 n u170_M0 u170_Ni u170_Np u170_No u170_Na u170_rt z = some q) (h0 : q.1 = 0 → o_At p l e rm_MM_check s m args below meth c Q m_cls D A 2 170 [] (m_cw ad ca ky ty u170_rt u170_Ni u170_Np u170_No u170_Nx q.2.2.1 u170_Na q.2.2.2 u170_Nq u170_Nj u170_M0 u170_M1) [(0, .ref (ad 0)), (1, .int q.2.1)]) (h1 : q.1 ≠ 0 → (o_At p l e rm_MM_check s m args below meth c Q m_cls D A 2 218 [] (m_cw ad ca ky ty u170_rt u170_Ni u170_Np u170_No u170_Nx q.2.2.1 u170_Na q.2.2.2 u170_Nq u170_Nj u170_M0 u170_M1) [(0, .ref (ad 0))])) : o_At p l e rm_MM_check s m args below meth c Q m_cls D A 2 170 [] (m_cw ad ca ky ty u170_rt u170_Ni u170_Np u170_No u170_Nx z.2.1 u170_Na z.2.2 u170_Nq u170_Nj u170_M0 u170_M1) [(0, .ref (ad 0)), (1, .int z.1)] := by
  unfold m_MM_check_b170 at h
  intro H locs ls hP hS hl
  have C0 := C
  obtain ⟨hx, hb, -, -, -, hown, hts, hK, -, -⟩ := C0
  refine lv_iload_n hx hb d_MM_check_170 rfl (lv_at hl 1 rfl) ?_
  refine lv_aload_n hx hb d_MM_check_171 rfl (lv_at hl 0 rfl) ?_
  refine o_get (v := .ref (ad 33)) C in_MM hP 0 mw_0 rfl 4 (by decide) k_7_234 rfl rfl d_MM_check_172 ?_
  refine o_get (v := .int (MT_values u170_M0)) C in_MT hP 33 mw_33 rfl 13 (by decide) k_7_127 rfl rfl d_MM_check_175 ?_
  refine lv_icmp_ge (tgt := 218) hx hb d_MM_check_178 (by decide) (fun c12 => ?_) (fun c12 => ?_)
  · replace h := o_tt c12 h
    cases h
    exact h1 (Nat.succ_ne_zero 0) _ _ _ hP hS (lv_sub hl [0] rfl)
  · replace h := o_ff c12 h
    refine lv_aload_n hx hb d_MM_check_181 rfl (lv_at hl 0 rfl) ?_
    refine o_get (v := .int (NF_faultKind z.2.1)) C in_MM hP 0 mw_0 rfl 36 (by decide) k_8_26 rfl rfl d_MM_check_182 ?_
    refine lv_if_ne (tgt := 218) hx hb d_MM_check_185 (by decide) (fun c13 => ?_) (fun c13 => ?_)
    · replace h := o_ff c13 h
      cases h
      exact h1 (Nat.succ_ne_zero 0) _ _ _ hP hS (lv_sub hl [0] rfl)
    · replace h := o_tt c13 h
      refine lv_aload_n hx hb d_MM_check_188 rfl (lv_at hl 0 rfl) ?_
      refine o_get (v := .ref (ad 27)) C in_MM hP 0 mw_0 rfl 46 (by decide) k_8_36 rfl rfl d_MM_check_189 ?_
      refine lv_iload_n hx hb d_MM_check_192 rfl (lv_at hl 1 rfl) ?_
      obtain ⟨g14, h⟩ := o_gd_some h
      refine o_zald (f := (NA_isSchema u170_Na)) C hP 27 26 mw_27 rfl g14 d_MM_check_193 ?_
      refine lv_if_eq (tgt := 212) hx hb d_MM_check_194 (by decide) (fun c15 => ?_) (fun c15 => ?_)
      · replace h := o_tt c15 h
        obtain ⟨x1_212, ex1_212⟩ : ∃ y : Int32, y = z.1 + (1:Int32) := ⟨_, rfl⟩
        replace h := o_nm_at ex1_212 h
        refine lv_iinc (v := x1_212) (lv' := [(1, .int x1_212), (0, .ref (ad 0))]) hx hb d_MM_check_212 hl (k := 1) rfl (by rw [ex1_212]; rfl) (by decide) rfl (fun ls hl => ?_)
        refine lv_goto (tgt := 170) hx hb d_MM_check_215 (by decide) ?_
        cases h
        exact h0 rfl _ _ _ hP hS (lv_sub hl [1, 0] rfl)
      · replace h := o_ff c15 h
        refine lv_aload_n hx hb d_MM_check_197 rfl (lv_at hl 0 rfl) ?_
        refine lv_iload_n hx hb d_MM_check_198 rfl (lv_at hl 1 rfl) ?_
        obtain ⟨q4, hq4, h⟩ := o_bd_some h
        refine o_V (st1 := [.int q4.1]) (w1 := (m_cw ad ca ky ty u170_rt u170_Ni u170_Np u170_No u170_Nx z.2.1 u170_Na q4.2 u170_Nq u170_Nj u170_M0 u170_M1)) hE.1 C (e_MM_comesBack hE hKy l n z.1 u170_M0 u170_Na z.2.2 u170_Ni u170_Np u170_No u170_Nx z.2.1 u170_Nq u170_Nj u170_M1 u170_rt hq4) hP (hDD _ _ _ _ _ _ _ _ _ _ _ _) hS hl.1 rfl mw_0 k_9_194 k_9_196 k_s_114 k_1_12 k_9_197 hv_MM_comesBack rfl rfl ⟨(Nat.le_of_ble_eq_true rfl), (Nat.le_of_ble_eq_true rfl)⟩ rfl (Nat.le_of_ble_eq_true rfl) ⟨Nat.zero_le _, Nat.zero_le _⟩ rfl d_MM_check_199 (fun H locs hP hS => ?_)
        refine lv_if_eq (tgt := 212) hx hb d_MM_check_202 (by decide) (fun c16 => ?_) (fun c16 => ?_)
        · replace h := o_tt c16 h
          obtain ⟨x1_212, ex1_212⟩ : ∃ y : Int32, y = z.1 + (1:Int32) := ⟨_, rfl⟩
          replace h := o_nm_at ex1_212 h
          refine lv_iinc (v := x1_212) (lv' := [(1, .int x1_212), (0, .ref (ad 0))]) hx hb d_MM_check_212 hl (k := 1) rfl (by rw [ex1_212]; rfl) (by decide) rfl (fun ls hl => ?_)
          refine lv_goto (tgt := 170) hx hb d_MM_check_215 (by decide) ?_
          cases h
          exact h0 rfl _ _ _ hP hS (lv_sub hl [1, 0] rfl)
        · replace h := o_ff c16 h
          refine lv_aload_n hx hb d_MM_check_205 rfl (lv_at hl 0 rfl) ?_
          refine lv_bipush (v := (6:Int32)) hx hb d_MM_check_206 (by decide) ?_
          refine lv_iload_n hx hb d_MM_check_208 rfl (lv_at hl 1 rfl) ?_
          obtain ⟨q5, hq5, h⟩ := o_bd_some h
          refine o_V (st1 := []) (w1 := (m_cw ad ca ky ty u170_rt u170_Ni u170_Np u170_No u170_Nx q5 u170_Na q4.2 u170_Nq u170_Nj u170_M0 u170_M1)) hE.1 C (e_MM_fault hE hKy l (6:Int32) z.1 z.2.1 u170_Ni u170_Np u170_No u170_Nx u170_Na q4.2 u170_Nq u170_Nj u170_M0 u170_M1 u170_rt hq5) hP (hDD _ _ _ _ _ _ _ _ _ _ _ _) hS hl.1 rfl mw_0 k_9_42 k_9_44 k_s_83 k_1_12 k_9_45 hv_MM_fault rfl rfl ⟨(Nat.le_of_ble_eq_true rfl), (Nat.le_of_ble_eq_true rfl)⟩ rfl (Nat.le_of_ble_eq_true rfl) ⟨Nat.zero_le _, Nat.zero_le _⟩ rfl d_MM_check_209 (fun H locs hP hS => ?_)
          obtain ⟨x1_212, ex1_212⟩ : ∃ y : Int32, y = z.1 + (1:Int32) := ⟨_, rfl⟩
          replace h := o_nm_at ex1_212 h
          refine lv_iinc (v := x1_212) (lv' := [(1, .int x1_212), (0, .ref (ad 0))]) hx hb d_MM_check_212 hl (k := 1) rfl (by rw [ex1_212]; rfl) (by decide) rfl (fun ls hl => ?_)
          refine lv_goto (tgt := 170) hx hb d_MM_check_215 (by decide) ?_
          cases h
          exact h0 rfl _ _ _ hP hS (lv_sub hl [1, 0] rfl)
set_option maxHeartbeats 4000000 in
set_option maxRecDepth 100000 in
theorem f_MM_check_j161 {E : (Nat → Prop) → State → Heap → Prop} {p : Program} {l : Launch} {e : Env} {s : State} {m : MethodId} {args : Array Value} {below : List Frame} {meth : Method} {c : Code} {D : va_G} {ad kd sd vd xd : Nat → Nat} {ca : Nat → ClassId} {A : Nat → Prop} {ky ty : Nat → Option Nat} (hE : o_EK E kd sd vd xd) (hKy : m_KY ky ty sd) (C : o_Cx E p s m args meth c D m_cls (m_tys ca) "SchemaJudgeModel" b_MM_check (some .int) 2 cc_MM_check A) (hDD : ∀ (rt : Nat) (Ni : SNI) (Np : SNP) (No : SNO) (Nx : SNX) (Nf : SNF) (Na : SNA) (Nh : SNH) (Nq : SNQ) (Nj : SNJ) (M0 : SMT) (M1 : SMT), va_D A (m_cw ad ca ky ty rt Ni Np No Nx Nf Na Nh Nq Nj M0 M1)) (n : Nat)  (M0 : SMT) (Ni : SNI) (Np : SNP) (No : SNO) (Nf : SNF) (Na : SNA) (Nh : SNH) (rt : Nat) (Nx : SNX) (Nq : SNQ) (Nj : SNJ) (M1 : SMT) {r : Int32 × SNI × SNP × SNO × SNF × SNA × SNH × Nat} (h : m_MM_check_j161 n M0 Ni Np No Nf Na Nh rt = some r) : o_At p l e rm_MM_check s m args below meth c (MQ below (o_Qx D m_cls (some (.int r.1)) (m_cw ad ca ky ty r.2.2.2.2.2.2.2 r.2.1 r.2.2.1 r.2.2.2.1 Nx r.2.2.2.2.1 r.2.2.2.2.2.1 r.2.2.2.2.2.2.1 Nq Nj M0 M1) A) args s 0 0 A) m_cls D A 2 161 [] (m_cw ad ca ky ty rt Ni Np No Nx Nf Na Nh Nq Nj M0 M1) [(0, .ref (ad 0))] := by
  unfold m_MM_check_j161 at h
  intro H locs ls hP hS hl
  have C0 := C
  obtain ⟨hx, hb, -, -, -, hown, hts, hK, -, -⟩ := C0
  refine lv_aload_n hx hb d_MM_check_161 rfl (lv_at hl 0 rfl) ?_
  refine o_get (v := .int (NF_faultKind Nf)) C in_MM hP 0 mw_0 rfl 36 (by decide) k_8_26 rfl rfl d_MM_check_162 ?_
  refine lv_if_ne (tgt := 218) hx hb d_MM_check_165 (by decide) (fun c8 => ?_) (fun c8 => ?_)
  · replace h := o_ff c8 h
    exact f_MM_check_j218 hE hKy C hDD n M0 Ni Np No Nf Na Nh rt Nx Nq Nj M1 h _ _ _ hP hS (lv_sub hl [0] rfl)
  · replace h := o_tt c8 h
    refine lv_iconst (v := (0:Int32)) hx hb d_MM_check_168 (by decide) ?_
    refine lv_istore_n (lv' := [(1, .int (0:Int32)), (0, .ref (ad 0))]) hx hb d_MM_check_169 rfl hl (by decide) rfl (fun ls hl => ?_)
    obtain ⟨q6, hq6, h⟩ := o_bd_some h
    refine o_sim2 (AH := fun zz => o_At p l e rm_MM_check s m args below meth c _ m_cls D A 2 170 [] (m_cw ad ca ky ty rt Ni Np No Nx zz.2.1 Na zz.2.2 Nq Nj M0 M1) [(0, .ref (ad 0)), (1, .int zz.1)]) (AX := fun qq => o_At p l e rm_MM_check s m args below meth c _ m_cls D A 2 218 [] (m_cw ad ca ky ty rt Ni Np No Nx qq.2.2.1 Na qq.2.2.2 Nq Nj M0 M1) [(0, .ref (ad 0))]) (fun zz qq h h0 h1 => f_MM_check_b170 hE hKy C hDD n M0 Ni Np No Na rt Nx Nq Nj M1 zz qq h h0 h1) n _ q6 hq6 ?_ _ _ _ hP hS (lv_sub hl [1, 0] rfl)
    intro H locs ls hP hS hl
    exact f_MM_check_j218 hE hKy C hDD n M0 Ni Np No q6.2.2.1 Na q6.2.2.2 rt Nx Nq Nj M1 h _ _ _ hP hS (lv_sub hl [0] rfl)
set_option maxHeartbeats 4000000 in
set_option maxRecDepth 100000 in
theorem f_MM_check_b90 {E : (Nat → Prop) → State → Heap → Prop} {p : Program} {l : Launch} {e : Env} {s : State} {m : MethodId} {args : Array Value} {below : List Frame} {meth : Method} {c : Code} {D : va_G} {ad kd sd vd xd : Nat → Nat} {ca : Nat → ClassId} {A : Nat → Prop} {ky ty : Nat → Option Nat} {Q : State → Prop} (hE : o_EK E kd sd vd xd) (hKy : m_KY ky ty sd) (C : o_Cx E p s m args meth c D m_cls (m_tys ca) "SchemaJudgeModel" b_MM_check (some .int) 2 cc_MM_check A) (hDD : ∀ (rt : Nat) (Ni : SNI) (Np : SNP) (No : SNO) (Nx : SNX) (Nf : SNF) (Na : SNA) (Nh : SNH) (Nq : SNQ) (Nj : SNJ) (M0 : SMT) (M1 : SMT), va_D A (m_cw ad ca ky ty rt Ni Np No Nx Nf Na Nh Nq Nj M0 M1)) (n : Nat) (u90_M0 : SMT) (u90_Ni : SNI) (u90_Np : SNP) (u90_No : SNO) (u90_rt : Nat) (u90_Nx : SNX) (u90_Nq : SNQ) (u90_Nj : SNJ) (u90_M1 : SMT) (z : Int32 × SNF × SNA × SNH) (q : Nat × Int32 × SNF × SNA × SNH) (h : m_MM_check_b90 n u90_M0 u90_Ni u90_Np u90_No u90_rt z = some q) (h0 : q.1 = 0 → o_At p l e rm_MM_check s m args below meth c Q m_cls D A 2 90 [] (m_cw ad ca ky ty u90_rt u90_Ni u90_Np u90_No u90_Nx q.2.2.1 q.2.2.2.1 q.2.2.2.2 u90_Nq u90_Nj u90_M0 u90_M1) [(0, .ref (ad 0)), (1, .int q.2.1)]) (h1 : q.1 ≠ 0 → (o_At p l e rm_MM_check s m args below meth c Q m_cls D A 2 161 [] (m_cw ad ca ky ty u90_rt u90_Ni u90_Np u90_No u90_Nx q.2.2.1 q.2.2.2.1 q.2.2.2.2 u90_Nq u90_Nj u90_M0 u90_M1) [(0, .ref (ad 0))])) : o_At p l e rm_MM_check s m args below meth c Q m_cls D A 2 90 [] (m_cw ad ca ky ty u90_rt u90_Ni u90_Np u90_No u90_Nx z.2.1 z.2.2.1 z.2.2.2 u90_Nq u90_Nj u90_M0 u90_M1) [(0, .ref (ad 0)), (1, .int z.1)] := by
  unfold m_MM_check_b90 at h
  intro H locs ls hP hS hl
  have C0 := C
  obtain ⟨hx, hb, -, -, -, hown, hts, hK, -, -⟩ := C0
  refine lv_iload_n hx hb d_MM_check_90 rfl (lv_at hl 1 rfl) ?_
  refine lv_aload_n hx hb d_MM_check_91 rfl (lv_at hl 0 rfl) ?_
  refine o_get (v := .ref (ad 33)) C in_MM hP 0 mw_0 rfl 4 (by decide) k_7_234 rfl rfl d_MM_check_92 ?_
  refine o_get (v := .int (MT_values u90_M0)) C in_MT hP 33 mw_33 rfl 13 (by decide) k_7_127 rfl rfl d_MM_check_95 ?_
  refine lv_icmp_ge (tgt := 161) hx hb d_MM_check_98 (by decide) (fun c17 => ?_) (fun c17 => ?_)
  · replace h := o_tt c17 h
    cases h
    exact h1 (Nat.succ_ne_zero 0) _ _ _ hP hS (lv_sub hl [0] rfl)
  · replace h := o_ff c17 h
    refine lv_aload_n hx hb d_MM_check_101 rfl (lv_at hl 0 rfl) ?_
    refine o_get (v := .ref (ad 21)) C in_MM hP 0 mw_0 rfl 40 (by decide) k_8_30 rfl rfl d_MM_check_102 ?_
    refine lv_iload_n hx hb d_MM_check_105 rfl (lv_at hl 1 rfl) ?_
    obtain ⟨g18, h⟩ := o_gd_some h
    refine o_iald (f := (NA_key z.2.2.1)) C hP 21 20 mw_21 rfl g18 d_MM_check_106 ?_
    refine lv_bipush (v := (32:Int32)) hx hb d_MM_check_107 (by decide) ?_
    refine lv_icmp_ne (tgt := 155) hx hb d_MM_check_109 (by decide) (fun c19 => ?_) (fun c19 => ?_)
    · replace h := o_ff c19 h
      obtain ⟨x1_155, ex1_155⟩ : ∃ y : Int32, y = z.1 + (1:Int32) := ⟨_, rfl⟩
      replace h := o_nm_at ex1_155 h
      refine lv_iinc (v := x1_155) (lv' := [(1, .int x1_155), (0, .ref (ad 0))]) hx hb d_MM_check_155 hl (k := 1) rfl (by rw [ex1_155]; rfl) (by decide) rfl (fun ls hl => ?_)
      refine lv_goto (tgt := 90) hx hb d_MM_check_158 (by decide) ?_
      cases h
      exact h0 rfl _ _ _ hP hS (lv_sub hl [1, 0] rfl)
    · replace h := o_tt c19 h
      refine lv_aload_n hx hb d_MM_check_112 rfl (lv_at hl 0 rfl) ?_
      refine o_get (v := .ref (ad 27)) C in_MM hP 0 mw_0 rfl 46 (by decide) k_8_36 rfl rfl d_MM_check_113 ?_
      refine lv_aload_n hx hb d_MM_check_116 rfl (lv_at hl 0 rfl) ?_
      refine o_get (v := .ref (ad 33)) C in_MM hP 0 mw_0 rfl 4 (by decide) k_7_234 rfl rfl d_MM_check_117 ?_
      refine o_get (v := .ref (ad 38)) C in_MT hP 33 mw_33 rfl 4 (by decide) k_7_109 rfl rfl d_MM_check_120 ?_
      refine lv_iload_n hx hb d_MM_check_123 rfl (lv_at hl 1 rfl) ?_
      obtain ⟨g20, h⟩ := o_gd_some h
      refine o_iald (f := (MT_parent u90_M0)) C hP 38 36 mw_38 rfl g20 d_MM_check_124 ?_
      obtain ⟨g21, h⟩ := o_gd_some h
      refine o_zald (f := (NA_isSchema z.2.2.1)) C hP 27 26 mw_27 rfl g21 d_MM_check_125 ?_
      refine lv_if_eq (tgt := 155) hx hb d_MM_check_126 (by decide) (fun c22 => ?_) (fun c22 => ?_)
      · replace h := o_tt c22 h
        obtain ⟨x1_155, ex1_155⟩ : ∃ y : Int32, y = z.1 + (1:Int32) := ⟨_, rfl⟩
        replace h := o_nm_at ex1_155 h
        refine lv_iinc (v := x1_155) (lv' := [(1, .int x1_155), (0, .ref (ad 0))]) hx hb d_MM_check_155 hl (k := 1) rfl (by rw [ex1_155]; rfl) (by decide) rfl (fun ls hl => ?_)
        refine lv_goto (tgt := 90) hx hb d_MM_check_158 (by decide) ?_
        cases h
        exact h0 rfl _ _ _ hP hS (lv_sub hl [1, 0] rfl)
      · replace h := o_ff c22 h
        refine lv_aload_n hx hb d_MM_check_129 rfl (lv_at hl 0 rfl) ?_
        refine o_get (v := .ref (ad 22)) C in_MM hP 0 mw_0 rfl 41 (by decide) k_8_31 rfl rfl d_MM_check_130 ?_
        refine lv_iload_n hx hb d_MM_check_133 rfl (lv_at hl 1 rfl) ?_
        refine lv_aload_n hx hb d_MM_check_134 rfl (lv_at hl 0 rfl) ?_
        refine lv_iload_n hx hb d_MM_check_135 rfl (lv_at hl 1 rfl) ?_
        obtain ⟨q7, hq7, h⟩ := o_bd_some h
        refine o_V (st1 := [.int q7.1, .int z.1, .ref (ad 22)]) (w1 := (m_cw ad ca ky ty u90_rt u90_Ni u90_Np u90_No u90_Nx z.2.1 z.2.2.1 q7.2 u90_Nq u90_Nj u90_M0 u90_M1)) hE.1 C (e_MM_leads hE hKy l n z.1 u90_M0 z.2.2.1 z.2.2.2 u90_Ni u90_Np u90_No u90_Nx z.2.1 u90_Nq u90_Nj u90_M1 u90_rt hq7) hP (hDD _ _ _ _ _ _ _ _ _ _ _ _) hS hl.1 rfl mw_0 k_9_179 k_9_181 k_s_111 k_1_12 k_9_182 hv_MM_leads rfl rfl ⟨(Nat.le_of_ble_eq_true rfl), (Nat.le_of_ble_eq_true rfl)⟩ rfl (Nat.le_of_ble_eq_true rfl) ⟨Nat.zero_le _, Nat.zero_le _⟩ rfl d_MM_check_136 (fun H locs hP hS => ?_)
        obtain ⟨g23, h⟩ := o_gd_some h
        refine o_iast (f := (NA_target z.2.2.1)) (w1 := (m_cw ad ca ky ty u90_rt u90_Ni u90_Np u90_No u90_Nx z.2.1 (NA_mk (NA_anchors z.2.2.1) (NA_key z.2.2.1) (upd (NA_target z.2.2.1) z.1.toNatClampNeg q7.1) (NA_anchorValue z.2.2.1) (NA_anchorSchema z.2.2.1) (NA_isSchema z.2.2.1)) q7.2 u90_Nq u90_Nj u90_M0 u90_M1)) C hP (hDD _ _ _ _ _ _ _ _ _ _ _ _) hS 22 21 mw_22 rfl g23 rfl d_MM_check_139 (fun H locs hP hS => ?_)
        refine lv_aload_n hx hb d_MM_check_140 rfl (lv_at hl 0 rfl) ?_
        refine o_get (v := .ref (ad 22)) C in_MM hP 0 mw_0 rfl 41 (by decide) k_8_31 rfl rfl d_MM_check_141 ?_
        refine lv_iload_n hx hb d_MM_check_144 rfl (lv_at hl 1 rfl) ?_
        obtain ⟨g24, h⟩ := o_gd_some h
        refine o_iald (f := (upd (NA_target z.2.2.1) z.1.toNatClampNeg q7.1)) C hP 22 21 mw_22 rfl g24 d_MM_check_145 ?_
        refine lv_if_ge (tgt := 155) hx hb d_MM_check_146 (by decide) (fun c25 => ?_) (fun c25 => ?_)
        · replace h := o_tt c25 h
          obtain ⟨x1_155, ex1_155⟩ : ∃ y : Int32, y = z.1 + (1:Int32) := ⟨_, rfl⟩
          replace h := o_nm_at ex1_155 h
          refine lv_iinc (v := x1_155) (lv' := [(1, .int x1_155), (0, .ref (ad 0))]) hx hb d_MM_check_155 hl (k := 1) rfl (by rw [ex1_155]; rfl) (by decide) rfl (fun ls hl => ?_)
          refine lv_goto (tgt := 90) hx hb d_MM_check_158 (by decide) ?_
          cases h
          exact h0 rfl _ _ _ hP hS (lv_sub hl [1, 0] rfl)
        · replace h := o_ff c25 h
          refine lv_aload_n hx hb d_MM_check_149 rfl (lv_at hl 0 rfl) ?_
          refine lv_iconst (v := (5:Int32)) hx hb d_MM_check_150 (by decide) ?_
          refine lv_iload_n hx hb d_MM_check_151 rfl (lv_at hl 1 rfl) ?_
          obtain ⟨q8, hq8, h⟩ := o_bd_some h
          refine o_V (st1 := []) (w1 := (m_cw ad ca ky ty u90_rt u90_Ni u90_Np u90_No u90_Nx q8 (NA_mk (NA_anchors z.2.2.1) (NA_key z.2.2.1) (upd (NA_target z.2.2.1) z.1.toNatClampNeg q7.1) (NA_anchorValue z.2.2.1) (NA_anchorSchema z.2.2.1) (NA_isSchema z.2.2.1)) q7.2 u90_Nq u90_Nj u90_M0 u90_M1)) hE.1 C (e_MM_fault hE hKy l (5:Int32) z.1 z.2.1 u90_Ni u90_Np u90_No u90_Nx (NA_mk (NA_anchors z.2.2.1) (NA_key z.2.2.1) (upd (NA_target z.2.2.1) z.1.toNatClampNeg q7.1) (NA_anchorValue z.2.2.1) (NA_anchorSchema z.2.2.1) (NA_isSchema z.2.2.1)) q7.2 u90_Nq u90_Nj u90_M0 u90_M1 u90_rt hq8) hP (hDD _ _ _ _ _ _ _ _ _ _ _ _) hS hl.1 rfl mw_0 k_9_42 k_9_44 k_s_83 k_1_12 k_9_45 hv_MM_fault rfl rfl ⟨(Nat.le_of_ble_eq_true rfl), (Nat.le_of_ble_eq_true rfl)⟩ rfl (Nat.le_of_ble_eq_true rfl) ⟨Nat.zero_le _, Nat.zero_le _⟩ rfl d_MM_check_152 (fun H locs hP hS => ?_)
          obtain ⟨x1_155, ex1_155⟩ : ∃ y : Int32, y = z.1 + (1:Int32) := ⟨_, rfl⟩
          replace h := o_nm_at ex1_155 h
          refine lv_iinc (v := x1_155) (lv' := [(1, .int x1_155), (0, .ref (ad 0))]) hx hb d_MM_check_155 hl (k := 1) rfl (by rw [ex1_155]; rfl) (by decide) rfl (fun ls hl => ?_)
          refine lv_goto (tgt := 90) hx hb d_MM_check_158 (by decide) ?_
          cases h
          exact h0 rfl _ _ _ hP hS (lv_sub hl [1, 0] rfl)
set_option maxHeartbeats 4000000 in
set_option maxRecDepth 100000 in
theorem f_MM_check_j21 {E : (Nat → Prop) → State → Heap → Prop} {p : Program} {l : Launch} {e : Env} {s : State} {m : MethodId} {args : Array Value} {below : List Frame} {meth : Method} {c : Code} {D : va_G} {ad kd sd vd xd : Nat → Nat} {ca : Nat → ClassId} {A : Nat → Prop} {ky ty : Nat → Option Nat} (hE : o_EK E kd sd vd xd) (hKy : m_KY ky ty sd) (C : o_Cx E p s m args meth c D m_cls (m_tys ca) "SchemaJudgeModel" b_MM_check (some .int) 2 cc_MM_check A) (hDD : ∀ (rt : Nat) (Ni : SNI) (Np : SNP) (No : SNO) (Nx : SNX) (Nf : SNF) (Na : SNA) (Nh : SNH) (Nq : SNQ) (Nj : SNJ) (M0 : SMT) (M1 : SMT), va_D A (m_cw ad ca ky ty rt Ni Np No Nx Nf Na Nh Nq Nj M0 M1)) (n : Nat) (y1 : Int32) (M0 : SMT) (Ni : SNI) (Np : SNP) (No : SNO) (Nf : SNF) (Na : SNA) (Nh : SNH) (rt : Nat) (Nx : SNX) (Nq : SNQ) (Nj : SNJ) (M1 : SMT) {r : Int32 × SNI × SNP × SNO × SNF × SNA × SNH × Nat} (h : m_MM_check_j21 n y1 M0 Ni Np No Nf Na Nh rt = some r) : o_At p l e rm_MM_check s m args below meth c (MQ below (o_Qx D m_cls (some (.int r.1)) (m_cw ad ca ky ty r.2.2.2.2.2.2.2 r.2.1 r.2.2.1 r.2.2.2.1 Nx r.2.2.2.2.1 r.2.2.2.2.2.1 r.2.2.2.2.2.2.1 Nq Nj M0 M1) A) args s 0 0 A) m_cls D A 2 21 [.int y1, .ref (ad 0)] (m_cw ad ca ky ty rt Ni Np No Nx Nf Na Nh Nq Nj M0 M1) [(0, .ref (ad 0))] := by
  unfold m_MM_check_j21 at h
  intro H locs ls hP hS hl
  have C0 := C
  obtain ⟨hx, hb, -, -, -, hown, hts, hK, -, -⟩ := C0
  refine lv_iconst (v := (1:Int32)) hx hb d_MM_check_21 (by decide) ?_
  obtain ⟨q1, hq1, h⟩ := o_bd_some h
  refine o_V (st1 := [.int q1.1]) (w1 := (m_cw ad ca ky ty rt q1.2 Np No Nx Nf Na Nh Nq Nj M0 M1)) hE.1 C (e_MM_fails hE hKy l y1 (1:Int32) Ni Np No Nx Nf Na Nh Nq Nj M0 M1 rt hq1) hP (hDD _ _ _ _ _ _ _ _ _ _ _ _) hS hl.1 rfl mw_0 k_8_176 k_8_178 k_s_81 k_1_12 k_8_179 hv_MM_fails rfl rfl ⟨(Nat.le_of_ble_eq_true rfl), (Nat.le_of_ble_eq_true rfl)⟩ rfl (Nat.le_of_ble_eq_true rfl) ⟨Nat.zero_le _, Nat.zero_le _⟩ rfl d_MM_check_22 (fun H locs hP hS => ?_)
  refine lv_if_eq (tgt := 30) hx hb d_MM_check_25 (by decide) (fun c2 => ?_) (fun c2 => ?_)
  · replace h := o_tt c2 h
    refine lv_aload_n hx hb d_MM_check_30 rfl (lv_at hl 0 rfl) ?_
    refine lv_iconst (v := (0:Int32)) hx hb d_MM_check_31 (by decide) ?_
    refine o_put (v := .int (0:Int32)) (ty := .int) (w1 := (m_cw ad ca ky ty rt q1.2 Np No Nx (NF_mk (NF_checked Nf) (0:Int32) (NF_faultValue Nf) (NF_latestFault Nf)) Na Nh Nq Nj M0 M1)) C in_MM t_MM t_MM_ok n_MM hP (hDD _ _ _ _ _ _ _ _ _ _ _ _) hS 0 mw_0 rfl 36 (by decide) k_8_26 rfl rfl (by decide +kernel) rfl rfl (Nat.le_of_ble_eq_true rfl) rfl d_MM_check_32 (fun H locs hP hS => ?_)
    refine lv_aload_n hx hb d_MM_check_35 rfl (lv_at hl 0 rfl) ?_
    refine lv_iconst (v := (0:Int32)) hx hb d_MM_check_36 (by decide) ?_
    refine o_put (v := .int (0:Int32)) (ty := .int) (w1 := (m_cw ad ca ky ty rt q1.2 Np No Nx (NF_mk (NF_checked Nf) (0:Int32) (NF_faultValue Nf) (NF_latestFault Nf)) (NA_mk (0:Int32) (NA_key Na) (NA_target Na) (NA_anchorValue Na) (NA_anchorSchema Na) (NA_isSchema Na)) Nh Nq Nj M0 M1)) C in_MM t_MM t_MM_ok n_MM hP (hDD _ _ _ _ _ _ _ _ _ _ _ _) hS 0 mw_0 rfl 39 (by decide) k_8_29 rfl rfl (by decide +kernel) rfl rfl (Nat.le_of_ble_eq_true rfl) rfl d_MM_check_37 (fun H locs hP hS => ?_)
    refine lv_iconst (v := (0:Int32)) hx hb d_MM_check_40 (by decide) ?_
    refine lv_istore_n (lv' := [(1, .int (0:Int32)), (0, .ref (ad 0))]) hx hb d_MM_check_41 rfl hl (by decide) rfl (fun ls hl => ?_)
    obtain ⟨q2, hq2, h⟩ := o_bd_some h
    refine o_sim2 (AH := fun zz => o_At p l e rm_MM_check s m args below meth c _ m_cls D A 2 42 [] (m_cw ad ca ky ty rt q1.2 Np No Nx (NF_mk (NF_checked Nf) (0:Int32) (NF_faultValue Nf) (NF_latestFault Nf)) zz.2 Nh Nq Nj M0 M1) [(0, .ref (ad 0)), (1, .int zz.1)]) (AX := fun qq => o_At p l e rm_MM_check s m args below meth c _ m_cls D A 2 76 [] (m_cw ad ca ky ty rt q1.2 Np No Nx (NF_mk (NF_checked Nf) (0:Int32) (NF_faultValue Nf) (NF_latestFault Nf)) qq.2.2 Nh Nq Nj M0 M1) [(0, .ref (ad 0))]) (fun zz qq h h0 h1 => f_MM_check_b42 hE hKy C hDD n M0 q1.2 Np No (NF_mk (NF_checked Nf) (0:Int32) (NF_faultValue Nf) (NF_latestFault Nf)) Nh rt Nx Nq Nj M1 zz qq h h0 h1) n _ q2 hq2 ?_ _ _ _ hP hS (lv_sub hl [1, 0] rfl)
    intro H locs ls hP hS hl
    refine lv_aload_n hx hb d_MM_check_76 rfl (lv_at hl 0 rfl) ?_
    refine lv_iconst (v := (0:Int32)) hx hb d_MM_check_77 (by decide) ?_
    obtain ⟨q3, hq3, h⟩ := o_bd_some h
    refine o_V (st1 := []) (w1 := (m_cw ad ca ky ty q3.2.2.2.2 q1.2 q3.1 q3.2.1 Nx q3.2.2.1 q3.2.2.2.1 Nh Nq Nj M0 M1)) hE.1 C (e_MM_visit hE hKy l n 503 (0:Int32) M0 Np No (NF_mk (NF_checked Nf) (0:Int32) (NF_faultValue Nf) (NF_latestFault Nf)) q2.2.2 rt q1.2 Nx Nh Nq Nj M1 hq3) hP (hDD _ _ _ _ _ _ _ _ _ _ _ _) hS hl.1 rfl mw_0 k_9_37 k_9_39 k_s_82 k_1_12 k_9_40 hv_MM_visit rfl rfl ⟨(Nat.le_of_ble_eq_true rfl), (Nat.le_of_ble_eq_true rfl)⟩ rfl (Nat.le_of_ble_eq_true rfl) ⟨Nat.zero_le _, Nat.zero_le _⟩ rfl d_MM_check_78 (fun H locs hP hS => ?_)
    refine lv_aload_n hx hb d_MM_check_81 rfl (lv_at hl 0 rfl) ?_
    refine o_get (v := .int (NF_faultKind q3.2.2.1)) C in_MM hP 0 mw_0 rfl 36 (by decide) k_8_26 rfl rfl d_MM_check_82 ?_
    refine lv_if_ne (tgt := 161) hx hb d_MM_check_85 (by decide) (fun c7 => ?_) (fun c7 => ?_)
    · replace h := o_ff c7 h
      exact f_MM_check_j161 hE hKy C hDD n M0 q1.2 q3.1 q3.2.1 q3.2.2.1 q3.2.2.2.1 Nh q3.2.2.2.2 Nx Nq Nj M1 h _ _ _ hP hS (lv_sub hl [0] rfl)
    · replace h := o_tt c7 h
      refine lv_iconst (v := (0:Int32)) hx hb d_MM_check_88 (by decide) ?_
      refine lv_istore_n (lv' := [(1, .int (0:Int32)), (0, .ref (ad 0))]) hx hb d_MM_check_89 rfl hl (by decide) rfl (fun ls hl => ?_)
      obtain ⟨q9, hq9, h⟩ := o_bd_some h
      refine o_sim2 (AH := fun zz => o_At p l e rm_MM_check s m args below meth c _ m_cls D A 2 90 [] (m_cw ad ca ky ty q3.2.2.2.2 q1.2 q3.1 q3.2.1 Nx zz.2.1 zz.2.2.1 zz.2.2.2 Nq Nj M0 M1) [(0, .ref (ad 0)), (1, .int zz.1)]) (AX := fun qq => o_At p l e rm_MM_check s m args below meth c _ m_cls D A 2 161 [] (m_cw ad ca ky ty q3.2.2.2.2 q1.2 q3.1 q3.2.1 Nx qq.2.2.1 qq.2.2.2.1 qq.2.2.2.2 Nq Nj M0 M1) [(0, .ref (ad 0))]) (fun zz qq h h0 h1 => f_MM_check_b90 hE hKy C hDD n M0 q1.2 q3.1 q3.2.1 q3.2.2.2.2 Nx Nq Nj M1 zz qq h h0 h1) n _ q9 hq9 ?_ _ _ _ hP hS (lv_sub hl [1, 0] rfl)
      intro H locs ls hP hS hl
      exact f_MM_check_j161 hE hKy C hDD n M0 q1.2 q3.1 q3.2.1 q9.2.2.1 q9.2.2.2.1 q9.2.2.2.2 q3.2.2.2.2 Nx Nq Nj M1 h _ _ _ hP hS (lv_sub hl [0] rfl)
  · replace h := o_ff c2 h
    refine lv_iconst (v := (0:Int32)) hx hb d_MM_check_28 (by decide) ?_
    cases h
    exact o_ri (v := (0:Int32)) C hP hS d_MM_check_29
set_option maxHeartbeats 4000000 in
set_option maxRecDepth 100000 in
theorem e_MM_check {E : (Nat → Prop) → State → Heap → Prop} {D : va_G} {ad kd sd vd xd : Nat → Nat} {ca : Nat → ClassId} {ky ty : Nat → Option Nat} (hE : o_EK E kd sd vd xd) (hKy : m_KY ky ty sd) (l : Launch) (n : Nat)  (M0 : SMT) (Ni : SNI) (Np : SNP) (No : SNO) (Nf : SNF) (Na : SNA) (Nh : SNH) (rt : Nat) (Nx : SNX) (Nq : SNQ) (Nj : SNJ) (M1 : SMT) {r : Int32 × SNI × SNP × SNO × SNF × SNA × SNH × Nat} (h : m_MM_check n M0 Ni Np No Nf Na Nh rt = some r) : o_Cn E l D m_cls (m_tys ca) y_MM_check cc_MM_check rm_MM_check [.ref (ad 0)] (m_cw ad ca ky ty rt Ni Np No Nx Nf Na Nh Nq Nj M0 M1) (m_cw ad ca ky ty r.2.2.2.2.2.2.2 r.2.1 r.2.2.1 r.2.2.2.1 Nx r.2.2.2.2.1 r.2.2.2.2.2.1 r.2.2.2.2.2.2.1 Nq Nj M0 M1) (some (.int r.1)) := by
  refine o_Cn_of (by decide) (Nat.le_of_ble_eq_true rfl) ?_
  intro p e s m below meth c A ls C hD hP hS hl
  have hDD : ∀ (rt : Nat) (Ni : SNI) (Np : SNP) (No : SNO) (Nx : SNX) (Nf : SNF) (Na : SNA) (Nh : SNH) (Nq : SNQ) (Nj : SNJ) (M0 : SMT) (M1 : SMT), va_D A (m_cw ad ca ky ty rt Ni Np No Nx Nf Na Nh Nq Nj M0 M1) := fun _ _ _ _ _ _ _ _ _ _ _ _ => o_D_map hD rfl
  have hl : lv_has ls 2 [(0, .ref (ad 0))] := hl
  unfold m_MM_check at h
  have C0 := C
  obtain ⟨hx, hb, -, -, -, hown, hts, hK, -, -⟩ := C0
  refine lv_aload_n hx hb d_MM_check_0 rfl (lv_at hl 0 rfl) ?_
  refine lv_iconst (v := (0:Int32)) hx hb d_MM_check_1 (by decide) ?_
  refine o_put (v := .int (0:Int32)) (ty := .int) (w1 := (m_cw ad ca ky ty rt (NI_mk (0:Int32) (NI_fed Ni) (NI_wrong Ni) (NI_octets Ni)) Np No Nx Nf Na Nh Nq Nj M0 M1)) C in_MM t_MM t_MM_ok n_MM hP (hDD _ _ _ _ _ _ _ _ _ _ _ _) hS 0 mw_0 rfl 0 (by decide) k_7_230 rfl rfl (by decide +kernel) rfl rfl (Nat.le_of_ble_eq_true rfl) rfl d_MM_check_2 (fun H locs hP hS => ?_)
  refine lv_aload_n hx hb d_MM_check_5 rfl (lv_at hl 0 rfl) ?_
  refine lv_aload_n hx hb d_MM_check_6 rfl (lv_at hl 0 rfl) ?_
  refine o_get (v := .ref (ad 33)) C in_MM hP 0 mw_0 rfl 4 (by decide) k_7_234 rfl rfl d_MM_check_7 ?_
  refine o_get (v := .int (MT_values M0)) C in_MT hP 33 mw_33 rfl 13 (by decide) k_7_127 rfl rfl d_MM_check_10 ?_
  refine lv_if_ne (tgt := 20) hx hb d_MM_check_13 (by decide) (fun c1 => ?_) (fun c1 => ?_)
  · replace h := o_ff c1 h
    refine lv_iconst (v := (0:Int32)) hx hb d_MM_check_20 (by decide) ?_
    exact f_MM_check_j21 hE hKy C hDD n (0:Int32) M0 (NI_mk (0:Int32) (NI_fed Ni) (NI_wrong Ni) (NI_octets Ni)) Np No Nf Na Nh rt Nx Nq Nj M1 h _ _ _ hP hS (lv_sub hl [0] rfl)
  · replace h := o_tt c1 h
    refine lv_iconst (v := (1:Int32)) hx hb d_MM_check_16 (by decide) ?_
    refine lv_goto (tgt := 21) hx hb d_MM_check_17 (by decide) ?_
    exact f_MM_check_j21 hE hKy C hDD n (1:Int32) M0 (NI_mk (0:Int32) (NI_fed Ni) (NI_wrong Ni) (NI_octets Ni)) Np No Nf Na Nh rt Nx Nq Nj M1 h _ _ _ hP hS (lv_sub hl [0] rfl)
set_option maxHeartbeats 4000000 in
set_option maxRecDepth 100000 in
theorem e_MM_fault_1 {E : (Nat → Prop) → State → Heap → Prop} {D : va_G} {ad kd sd vd xd : Nat → Nat} {ca : Nat → ClassId} {ky ty : Nat → Option Nat} (hE : o_EK E kd sd vd xd) (hKy : m_KY ky ty sd) (l : Launch)  (Ni : SNI) (Nf : SNF) (Np : SNP) (No : SNO) (Nx : SNX) (Na : SNA) (Nh : SNH) (Nq : SNQ) (Nj : SNJ) (M0 : SMT) (M1 : SMT) (rt : Nat) {r : Int32 × SNI} (h : m_MM_fault_1 Ni Nf = some r) : o_Cn E l D m_cls (m_tys ca) y_MM_fault_1 cc_MM_fault_1 rm_MM_fault_1 [.ref (ad 0)] (m_cw ad ca ky ty rt Ni Np No Nx Nf Na Nh Nq Nj M0 M1) (m_cw ad ca ky ty rt r.2 Np No Nx Nf Na Nh Nq Nj M0 M1) (some (.int r.1)) := by
  refine o_Cn_of (by decide) (Nat.le_of_ble_eq_true rfl) ?_
  intro p e s m below meth c A ls C hD hP hS hl
  have hDD : ∀ (rt : Nat) (Ni : SNI) (Np : SNP) (No : SNO) (Nx : SNX) (Nf : SNF) (Na : SNA) (Nh : SNH) (Nq : SNQ) (Nj : SNJ) (M0 : SMT) (M1 : SMT), va_D A (m_cw ad ca ky ty rt Ni Np No Nx Nf Na Nh Nq Nj M0 M1) := fun _ _ _ _ _ _ _ _ _ _ _ _ => o_D_map hD rfl
  have hl : lv_has ls 1 [(0, .ref (ad 0))] := hl
  unfold m_MM_fault_1 at h
  have C0 := C
  obtain ⟨hx, hb, -, -, -, hown, hts, hK, -, -⟩ := C0
  refine lv_aload_n hx hb d_MM_fault_1_0 rfl (lv_at hl 0 rfl) ?_
  refine lv_iconst (v := (0:Int32)) hx hb d_MM_fault_1_1 (by decide) ?_
  refine o_put (v := .int (0:Int32)) (ty := .int) (w1 := (m_cw ad ca ky ty rt (NI_mk (0:Int32) (NI_fed Ni) (NI_wrong Ni) (NI_octets Ni)) Np No Nx Nf Na Nh Nq Nj M0 M1)) C in_MM t_MM t_MM_ok n_MM hP (hDD _ _ _ _ _ _ _ _ _ _ _ _) hS 0 mw_0 rfl 0 (by decide) k_7_230 rfl rfl (by decide +kernel) rfl rfl (Nat.le_of_ble_eq_true rfl) rfl d_MM_fault_1_2 (fun H locs hP hS => ?_)
  refine lv_aload_n hx hb d_MM_fault_1_5 rfl (lv_at hl 0 rfl) ?_
  refine o_get (v := .int (NF_latestFault Nf)) C in_MM hP 0 mw_0 rfl 38 (by decide) k_8_28 rfl rfl d_MM_fault_1_6 ?_
  cases h
  exact o_ri (v := (NF_latestFault Nf)) C hP hS d_MM_fault_1_9
set_option maxHeartbeats 4000000 in
set_option maxRecDepth 100000 in
theorem e_MM_pair {E : (Nat → Prop) → State → Heap → Prop} {D : va_G} {ad kd sd vd xd : Nat → Nat} {ca : Nat → ClassId} {ky ty : Nat → Option Nat} (hE : o_EK E kd sd vd xd) (hKy : m_KY ky ty sd) (l : Launch) (x1 : Int32) (x2 : Int32) (Nq : SNQ) (Ni : SNI) (Np : SNP) (No : SNO) (Nx : SNX) (Nf : SNF) (Na : SNA) (Nh : SNH) (Nj : SNJ) (M0 : SMT) (M1 : SMT) (rt : Nat) {r : SNQ} (h : m_MM_pair x1 x2 Nq = some r) : o_Cn E l D m_cls (m_tys ca) y_MM_pair cc_MM_pair rm_MM_pair [.ref (ad 0), .int x1, .int x2] (m_cw ad ca ky ty rt Ni Np No Nx Nf Na Nh Nq Nj M0 M1) (m_cw ad ca ky ty rt Ni Np No Nx Nf Na Nh r Nj M0 M1) none := by
  refine o_Cn_of (by decide) (Nat.le_of_ble_eq_true rfl) ?_
  intro p e s m below meth c A ls C hD hP hS hl
  have hDD : ∀ (rt : Nat) (Ni : SNI) (Np : SNP) (No : SNO) (Nx : SNX) (Nf : SNF) (Na : SNA) (Nh : SNH) (Nq : SNQ) (Nj : SNJ) (M0 : SMT) (M1 : SMT), va_D A (m_cw ad ca ky ty rt Ni Np No Nx Nf Na Nh Nq Nj M0 M1) := fun _ _ _ _ _ _ _ _ _ _ _ _ => o_D_map hD rfl
  have hl : lv_has ls 3 [(0, .ref (ad 0)), (1, .int x1), (2, .int x2)] := hl
  unfold m_MM_pair at h
  have C0 := C
  obtain ⟨hx, hb, -, -, -, hown, hts, hK, -, -⟩ := C0
  refine lv_aload_n hx hb d_MM_pair_0 rfl (lv_at hl 0 rfl) ?_
  refine o_get (v := .int (NQ_pairs Nq)) C in_MM hP 0 mw_0 rfl 53 (by decide) k_8_43 rfl rfl d_MM_pair_1 ?_
  refine lv_sipush (v := (300:Int32)) hx hb d_MM_pair_4 (by decide) ?_
  refine lv_icmp_ne (tgt := 11) hx hb d_MM_pair_7 (by decide) (fun c1 => ?_) (fun c1 => ?_)
  · replace h := o_ff c1 h
    refine lv_aload_n hx hb d_MM_pair_11 rfl (lv_at hl 0 rfl) ?_
    refine o_get (v := .ref (ad 31)) C in_MM hP 0 mw_0 rfl 51 (by decide) k_8_41 rfl rfl d_MM_pair_12 ?_
    refine lv_aload_n hx hb d_MM_pair_15 rfl (lv_at hl 0 rfl) ?_
    refine o_get (v := .int (NQ_pairs Nq)) C in_MM hP 0 mw_0 rfl 53 (by decide) k_8_43 rfl rfl d_MM_pair_16 ?_
    refine lv_iload_n hx hb d_MM_pair_19 rfl (lv_at hl 1 rfl) ?_
    obtain ⟨g2, h⟩ := o_gd_some h
    refine o_iast (f := (NQ_pairValue Nq)) (w1 := (m_cw ad ca ky ty rt Ni Np No Nx Nf Na Nh (NQ_mk (upd (NQ_pairValue Nq) (NQ_pairs Nq).toNatClampNeg x1) (NQ_pairKey Nq) (NQ_pairs Nq)) Nj M0 M1)) C hP (hDD _ _ _ _ _ _ _ _ _ _ _ _) hS 31 30 mw_31 rfl g2 rfl d_MM_pair_20 (fun H locs hP hS => ?_)
    refine lv_aload_n hx hb d_MM_pair_21 rfl (lv_at hl 0 rfl) ?_
    refine o_get (v := .ref (ad 32)) C in_MM hP 0 mw_0 rfl 52 (by decide) k_8_42 rfl rfl d_MM_pair_22 ?_
    refine lv_aload_n hx hb d_MM_pair_25 rfl (lv_at hl 0 rfl) ?_
    refine lv_dup hx hb d_MM_pair_26 rfl ?_
    refine o_get (v := .int (NQ_pairs Nq)) C in_MM hP 0 mw_0 rfl 53 (by decide) k_8_43 rfl rfl d_MM_pair_27 ?_
    refine lv_dup_x1 hx hb d_MM_pair_30 rfl rfl ?_
    refine lv_iconst (v := (1:Int32)) hx hb d_MM_pair_31 (by decide) ?_
    refine lv_iadd hx hb d_MM_pair_32 ?_
    refine o_put (v := .int ((NQ_pairs Nq) + (1:Int32))) (ty := .int) (w1 := (m_cw ad ca ky ty rt Ni Np No Nx Nf Na Nh (NQ_mk (upd (NQ_pairValue Nq) (NQ_pairs Nq).toNatClampNeg x1) (NQ_pairKey Nq) ((NQ_pairs Nq) + (1:Int32))) Nj M0 M1)) C in_MM t_MM t_MM_ok n_MM hP (hDD _ _ _ _ _ _ _ _ _ _ _ _) hS 0 mw_0 rfl 53 (by decide) k_8_43 rfl rfl (by decide +kernel) rfl rfl (Nat.le_of_ble_eq_true rfl) rfl d_MM_pair_33 (fun H locs hP hS => ?_)
    refine lv_iload_n hx hb d_MM_pair_36 rfl (lv_at hl 2 rfl) ?_
    obtain ⟨g3, h⟩ := o_gd_some h
    refine o_iast (f := (NQ_pairKey Nq)) (w1 := (m_cw ad ca ky ty rt Ni Np No Nx Nf Na Nh (NQ_mk (upd (NQ_pairValue Nq) (NQ_pairs Nq).toNatClampNeg x1) (upd (NQ_pairKey Nq) (NQ_pairs Nq).toNatClampNeg x2) ((NQ_pairs Nq) + (1:Int32))) Nj M0 M1)) C hP (hDD _ _ _ _ _ _ _ _ _ _ _ _) hS 32 31 mw_32 rfl g3 rfl d_MM_pair_37 (fun H locs hP hS => ?_)
    cases h
    exact o_rv C hP hS d_MM_pair_38
  · replace h := o_tt c1 h
    cases h
    exact o_rv C hP hS d_MM_pair_10
set_option maxHeartbeats 4000000 in
set_option maxRecDepth 100000 in
theorem f_MT_member_b7_a {E : (Nat → Prop) → State → Heap → Prop} {p : Program} {l : Launch} {e : Env} {s : State} {m : MethodId} {args : Array Value} {below : List Frame} {meth : Method} {c : Code} {D : va_G} {ad kd sd vd xd : Nat → Nat} {ca : Nat → ClassId} {A : Nat → Prop} {ky ty : Nat → Option Nat} {Q : State → Prop} (hE : o_EK E kd sd vd xd) (hKy : m_KY ky ty sd) (C : o_Cx E p s m args meth c D m_cls (m_tys ca) "SchemaJudgeModel$Text" b_MT_member (some .int) 4 cc_MT_member A) (hDD : ∀ (rt : Nat) (Ni : SNI) (Np : SNP) (No : SNO) (Nx : SNX) (Nf : SNF) (Na : SNA) (Nh : SNH) (Nq : SNQ) (Nj : SNJ) (M0 : SMT) (M1 : SMT), va_D A (m_cw ad ca ky ty rt Ni Np No Nx Nf Na Nh Nq Nj M0 M1)) (n : Nat) (u7_x2 : Nat) (gu7_x2 : o_sb u7_x2 = true) (u7_a0 : SMT) (u7_Ni : SNI) (u7_Np : SNP) (u7_No : SNO) (u7_Nx : SNX) (u7_Nf : SNF) (u7_Na : SNA) (u7_Nh : SNH) (u7_Nq : SNQ) (u7_Nj : SNJ) (u7_M1 : SMT) (u7_rt : Nat) (z : Int32) (q : Nat × Int32) (h : m_MT_member_b7 n u7_x2 u7_a0 z = some q) (h0 : q.1 = 0 → o_At p l e rm_MT_member s m args below meth c Q m_cls D A 4 7 [] (m_cw ad ca ky ty u7_rt u7_Ni u7_Np u7_No u7_Nx u7_Nf u7_Na u7_Nh u7_Nq u7_Nj u7_a0 u7_M1) [(0, .ref (ad 33)), (2, .ref (sd u7_x2)), (3, .int q.2)]) (h1 : q.1 ≠ 0 → (if q.1 = 1 then o_At p l e rm_MT_member s m args below meth c Q m_cls D A 4 25 [] (m_cw ad ca ky ty u7_rt u7_Ni u7_Np u7_No u7_Nx u7_Nf u7_Na u7_Nh u7_Nq u7_Nj u7_a0 u7_M1) [(3, .int q.2)] else o_At p l e rm_MT_member s m args below meth c Q m_cls D A 4 37 [] (m_cw ad ca ky ty u7_rt u7_Ni u7_Np u7_No u7_Nx u7_Nf u7_Na u7_Nh u7_Nq u7_Nj u7_a0 u7_M1) [])) : o_At p l e rm_MT_member s m args below meth c Q m_cls D A 4 7 [] (m_cw ad ca ky ty u7_rt u7_Ni u7_Np u7_No u7_Nx u7_Nf u7_Na u7_Nh u7_Nq u7_Nj u7_a0 u7_M1) [(0, .ref (ad 33)), (2, .ref (sd u7_x2)), (3, .int z)] := by
  unfold m_MT_member_b7 at h
  intro H locs ls hP hS hl
  have C0 := C
  obtain ⟨hx, hb, -, -, -, hown, hts, hK, -, -⟩ := C0
  refine lv_iload_n hx hb d_MT_member_7 rfl (lv_at hl 2 rfl) ?_
  refine lv_if_lt (tgt := 37) hx hb d_MT_member_8 (by decide) (fun c2 => ?_) (fun c2 => ?_)
  · replace h := o_tt c2 h
    cases h
    exact h1 (Nat.succ_ne_zero 1) _ _ _ hP hS (lv_sub hl [] rfl)
  · replace h := o_ff c2 h
    refine lv_aload_n hx hb d_MT_member_11 rfl (lv_at hl 0 rfl) ?_
    refine lv_aload_n hx hb d_MT_member_12 rfl (lv_at hl 0 rfl) ?_
    refine o_get (v := .ref (ad 42)) C in_MT hP 33 mw_33 rfl 8 (by decide) k_7_116 rfl rfl d_MT_member_13 ?_
    refine lv_iload_n hx hb d_MT_member_16 rfl (lv_at hl 2 rfl) ?_
    obtain ⟨g3, h⟩ := o_gd_some h
    refine o_iald (f := (MT_name u7_a0)) C hP 42 40 mw_42 rfl g3 d_MT_member_17 ?_
    refine lv_aload_n hx hb d_MT_member_18 rfl (lv_at hl 1 rfl) ?_
    obtain ⟨q1, hq1, h⟩ := o_bd_some h
    refine o_V (st1 := [.int q1]) (w1 := (m_cw ad ca ky ty u7_rt u7_Ni u7_Np u7_No u7_Nx u7_Nf u7_Na u7_Nh u7_Nq u7_Nj u7_a0 u7_M1)) hE.1 C (e_MT_is_a hE hKy l n ((MT_name u7_a0) z.toNatClampNeg) u7_x2 gu7_x2 u7_a0 u7_Ni u7_Np u7_No u7_Nx u7_Nf u7_Na u7_Nh u7_Nq u7_Nj u7_M1 u7_rt hq1) hP (hDD _ _ _ _ _ _ _ _ _ _ _ _) hS hl.1 rfl mw_33 k_9_230 k_9_47 k_9_48 k_1_13 k_9_49 hv_MT_is rfl rfl ⟨(Nat.le_of_ble_eq_true rfl), (Nat.le_of_ble_eq_true rfl)⟩ rfl (Nat.le_of_ble_eq_true rfl) ⟨Nat.zero_le _, Nat.zero_le _⟩ rfl d_MT_member_19 (fun H locs hP hS => ?_)
    refine lv_if_eq (tgt := 27) hx hb d_MT_member_22 (by decide) (fun c4 => ?_) (fun c4 => ?_)
    · replace h := o_tt c4 h
      refine lv_aload_n hx hb d_MT_member_27 rfl (lv_at hl 0 rfl) ?_
      refine o_get (v := .ref (ad 41)) C in_MT hP 33 mw_33 rfl 7 (by decide) k_7_114 rfl rfl d_MT_member_28 ?_
      refine lv_iload_n hx hb d_MT_member_31 rfl (lv_at hl 2 rfl) ?_
      obtain ⟨g5, h⟩ := o_gd_some h
      refine o_iald (f := (MT_next u7_a0)) C hP 41 39 mw_41 rfl g5 d_MT_member_32 ?_
      refine lv_topi (fun x3_33 ex3_33 => ?_)
      replace h := o_nm_at ex3_33 h
      refine lv_istore_n (lv' := [(3, .int x3_33), (0, .ref (ad 33)), (2, .ref (sd u7_x2))]) hx hb d_MT_member_33 rfl hl (by decide) rfl (fun ls hl => ?_)
      refine lv_goto (tgt := 7) hx hb d_MT_member_34 (by decide) ?_
      cases h
      exact h0 rfl _ _ _ hP hS (lv_sub hl [1, 2, 0] rfl)
    · replace h := o_ff c4 h
      cases h
      exact h1 (Nat.succ_ne_zero 0) _ _ _ hP hS (lv_sub hl [2] rfl)
set_option maxHeartbeats 4000000 in
set_option maxRecDepth 100000 in
theorem e_MT_member_a {E : (Nat → Prop) → State → Heap → Prop} {D : va_G} {ad kd sd vd xd : Nat → Nat} {ca : Nat → ClassId} {ky ty : Nat → Option Nat} (hE : o_EK E kd sd vd xd) (hKy : m_KY ky ty sd) (l : Launch) (n : Nat) (x1 : Int32) (x2 : Nat) (gx2 : o_sb x2 = true) (a0 : SMT) (Ni : SNI) (Np : SNP) (No : SNO) (Nx : SNX) (Nf : SNF) (Na : SNA) (Nh : SNH) (Nq : SNQ) (Nj : SNJ) (M1 : SMT) (rt : Nat) {r : Int32} (h : m_MT_member n x1 x2 a0 = some r) : o_Cn E l D m_cls (m_tys ca) y_MT_member cc_MT_member rm_MT_member [.ref (ad 33), .int x1, .ref (sd x2)] (m_cw ad ca ky ty rt Ni Np No Nx Nf Na Nh Nq Nj a0 M1) (m_cw ad ca ky ty rt Ni Np No Nx Nf Na Nh Nq Nj a0 M1) (some (.int r)) := by
  refine o_Cn_of (by decide) (Nat.le_of_ble_eq_true rfl) ?_
  intro p e s m below meth c A ls C hD hP hS hl
  have hDD : ∀ (rt : Nat) (Ni : SNI) (Np : SNP) (No : SNO) (Nx : SNX) (Nf : SNF) (Na : SNA) (Nh : SNH) (Nq : SNQ) (Nj : SNJ) (M0 : SMT) (M1 : SMT), va_D A (m_cw ad ca ky ty rt Ni Np No Nx Nf Na Nh Nq Nj M0 M1) := fun _ _ _ _ _ _ _ _ _ _ _ _ => o_D_map hD rfl
  have hl : lv_has ls 4 [(0, .ref (ad 33)), (1, .int x1), (2, .ref (sd x2))] := hl
  unfold m_MT_member at h
  have C0 := C
  obtain ⟨hx, hb, -, -, -, hown, hts, hK, -, -⟩ := C0
  refine lv_aload_n hx hb d_MT_member_0 rfl (lv_at hl 0 rfl) ?_
  refine o_get (v := .ref (ad 40)) C in_MT hP 33 mw_33 rfl 6 (by decide) k_7_112 rfl rfl d_MT_member_1 ?_
  refine lv_iload_n hx hb d_MT_member_4 rfl (lv_at hl 1 rfl) ?_
  obtain ⟨g1, h⟩ := o_gd_some h
  refine o_iald (f := (MT_first a0)) C hP 40 38 mw_40 rfl g1 d_MT_member_5 ?_
  refine lv_topi (fun x3_6 ex3_6 => ?_)
  replace h := o_nm_at ex3_6 h
  refine lv_istore_n (lv' := [(3, .int x3_6), (0, .ref (ad 33)), (1, .int x1), (2, .ref (sd x2))]) hx hb d_MT_member_6 rfl hl (by decide) rfl (fun ls hl => ?_)
  obtain ⟨q2, hq2, h⟩ := o_bd_some h
  refine o_sim2 (AH := fun zz => o_At p l e rm_MT_member s m _ below meth c _ m_cls D A 4 7 [] (m_cw ad ca ky ty rt Ni Np No Nx Nf Na Nh Nq Nj a0 M1) [(0, .ref (ad 33)), (2, .ref (sd x2)), (3, .int zz)]) (AX := fun qq => if qq.1 = 1 then o_At p l e rm_MT_member s m _ below meth c _ m_cls D A 4 25 [] (m_cw ad ca ky ty rt Ni Np No Nx Nf Na Nh Nq Nj a0 M1) [(3, .int qq.2)] else o_At p l e rm_MT_member s m _ below meth c _ m_cls D A 4 37 [] (m_cw ad ca ky ty rt Ni Np No Nx Nf Na Nh Nq Nj a0 M1) []) (fun zz qq h h0 h1 => f_MT_member_b7_a hE hKy C hDD n x2 gx2 a0 Ni Np No Nx Nf Na Nh Nq Nj M1 rt zz qq h h0 h1) n _ q2 hq2 ?_ _ _ _ hP hS (lv_sub hl [1, 3, 0] rfl)
  by_cases c6 : q2.1 = 1
  · replace h := o_tt c6 h
    refine o_ip c6 ?_
    intro H locs ls hP hS hl
    refine lv_iload_n hx hb d_MT_member_25 rfl (lv_at hl 0 rfl) ?_
    cases h
    exact o_ri C hP hS d_MT_member_26
  replace h := o_ff c6 h
  refine o_in_ c6 ?_
  intro H locs ls hP hS hl
  refine lv_iconst (v := (-1:Int32)) hx hb d_MT_member_37 (by decide) ?_
  cases h
  exact o_ri (v := (-1:Int32)) C hP hS d_MT_member_38
set_option maxHeartbeats 4000000 in
set_option maxRecDepth 100000 in
theorem f_MT_member_b7_b {E : (Nat → Prop) → State → Heap → Prop} {p : Program} {l : Launch} {e : Env} {s : State} {m : MethodId} {args : Array Value} {below : List Frame} {meth : Method} {c : Code} {D : va_G} {ad kd sd vd xd : Nat → Nat} {ca : Nat → ClassId} {A : Nat → Prop} {ky ty : Nat → Option Nat} {Q : State → Prop} (hE : o_EK E kd sd vd xd) (hKy : m_KY ky ty sd) (C : o_Cx E p s m args meth c D m_cls (m_tys ca) "SchemaJudgeModel$Text" b_MT_member (some .int) 4 cc_MT_member A) (hDD : ∀ (rt : Nat) (Ni : SNI) (Np : SNP) (No : SNO) (Nx : SNX) (Nf : SNF) (Na : SNA) (Nh : SNH) (Nq : SNQ) (Nj : SNJ) (M0 : SMT) (M1 : SMT), va_D A (m_cw ad ca ky ty rt Ni Np No Nx Nf Na Nh Nq Nj M0 M1)) (n : Nat) (u7_x2 : Nat) (gu7_x2 : o_sb u7_x2 = true) (u7_a0 : SMT) (u7_Ni : SNI) (u7_Np : SNP) (u7_No : SNO) (u7_Nx : SNX) (u7_Nf : SNF) (u7_Na : SNA) (u7_Nh : SNH) (u7_Nq : SNQ) (u7_Nj : SNJ) (u7_M0 : SMT) (u7_rt : Nat) (z : Int32) (q : Nat × Int32) (h : m_MT_member_b7 n u7_x2 u7_a0 z = some q) (h0 : q.1 = 0 → o_At p l e rm_MT_member s m args below meth c Q m_cls D A 4 7 [] (m_cw ad ca ky ty u7_rt u7_Ni u7_Np u7_No u7_Nx u7_Nf u7_Na u7_Nh u7_Nq u7_Nj u7_M0 u7_a0) [(0, .ref (ad 48)), (2, .ref (sd u7_x2)), (3, .int q.2)]) (h1 : q.1 ≠ 0 → (if q.1 = 1 then o_At p l e rm_MT_member s m args below meth c Q m_cls D A 4 25 [] (m_cw ad ca ky ty u7_rt u7_Ni u7_Np u7_No u7_Nx u7_Nf u7_Na u7_Nh u7_Nq u7_Nj u7_M0 u7_a0) [(3, .int q.2)] else o_At p l e rm_MT_member s m args below meth c Q m_cls D A 4 37 [] (m_cw ad ca ky ty u7_rt u7_Ni u7_Np u7_No u7_Nx u7_Nf u7_Na u7_Nh u7_Nq u7_Nj u7_M0 u7_a0) [])) : o_At p l e rm_MT_member s m args below meth c Q m_cls D A 4 7 [] (m_cw ad ca ky ty u7_rt u7_Ni u7_Np u7_No u7_Nx u7_Nf u7_Na u7_Nh u7_Nq u7_Nj u7_M0 u7_a0) [(0, .ref (ad 48)), (2, .ref (sd u7_x2)), (3, .int z)] := by
  unfold m_MT_member_b7 at h
  intro H locs ls hP hS hl
  have C0 := C
  obtain ⟨hx, hb, -, -, -, hown, hts, hK, -, -⟩ := C0
  refine lv_iload_n hx hb d_MT_member_7 rfl (lv_at hl 2 rfl) ?_
  refine lv_if_lt (tgt := 37) hx hb d_MT_member_8 (by decide) (fun c2 => ?_) (fun c2 => ?_)
  · replace h := o_tt c2 h
    cases h
    exact h1 (Nat.succ_ne_zero 1) _ _ _ hP hS (lv_sub hl [] rfl)
  · replace h := o_ff c2 h
    refine lv_aload_n hx hb d_MT_member_11 rfl (lv_at hl 0 rfl) ?_
    refine lv_aload_n hx hb d_MT_member_12 rfl (lv_at hl 0 rfl) ?_
    refine o_get (v := .ref (ad 57)) C in_MT hP 48 mw_48 rfl 8 (by decide) k_7_116 rfl rfl d_MT_member_13 ?_
    refine lv_iload_n hx hb d_MT_member_16 rfl (lv_at hl 2 rfl) ?_
    obtain ⟨g3, h⟩ := o_gd_some h
    refine o_iald (f := (MT_name u7_a0)) C hP 57 54 mw_57 rfl g3 d_MT_member_17 ?_
    refine lv_aload_n hx hb d_MT_member_18 rfl (lv_at hl 1 rfl) ?_
    obtain ⟨q1, hq1, h⟩ := o_bd_some h
    refine o_V (st1 := [.int q1]) (w1 := (m_cw ad ca ky ty u7_rt u7_Ni u7_Np u7_No u7_Nx u7_Nf u7_Na u7_Nh u7_Nq u7_Nj u7_M0 u7_a0)) hE.1 C (e_MT_is_b hE hKy l n ((MT_name u7_a0) z.toNatClampNeg) u7_x2 gu7_x2 u7_a0 u7_Ni u7_Np u7_No u7_Nx u7_Nf u7_Na u7_Nh u7_Nq u7_Nj u7_M0 u7_rt hq1) hP (hDD _ _ _ _ _ _ _ _ _ _ _ _) hS hl.1 rfl mw_48 k_9_230 k_9_47 k_9_48 k_1_13 k_9_49 hv_MT_is rfl rfl ⟨(Nat.le_of_ble_eq_true rfl), (Nat.le_of_ble_eq_true rfl)⟩ rfl (Nat.le_of_ble_eq_true rfl) ⟨Nat.zero_le _, Nat.zero_le _⟩ rfl d_MT_member_19 (fun H locs hP hS => ?_)
    refine lv_if_eq (tgt := 27) hx hb d_MT_member_22 (by decide) (fun c4 => ?_) (fun c4 => ?_)
    · replace h := o_tt c4 h
      refine lv_aload_n hx hb d_MT_member_27 rfl (lv_at hl 0 rfl) ?_
      refine o_get (v := .ref (ad 56)) C in_MT hP 48 mw_48 rfl 7 (by decide) k_7_114 rfl rfl d_MT_member_28 ?_
      refine lv_iload_n hx hb d_MT_member_31 rfl (lv_at hl 2 rfl) ?_
      obtain ⟨g5, h⟩ := o_gd_some h
      refine o_iald (f := (MT_next u7_a0)) C hP 56 53 mw_56 rfl g5 d_MT_member_32 ?_
      refine lv_topi (fun x3_33 ex3_33 => ?_)
      replace h := o_nm_at ex3_33 h
      refine lv_istore_n (lv' := [(3, .int x3_33), (0, .ref (ad 48)), (2, .ref (sd u7_x2))]) hx hb d_MT_member_33 rfl hl (by decide) rfl (fun ls hl => ?_)
      refine lv_goto (tgt := 7) hx hb d_MT_member_34 (by decide) ?_
      cases h
      exact h0 rfl _ _ _ hP hS (lv_sub hl [1, 2, 0] rfl)
    · replace h := o_ff c4 h
      cases h
      exact h1 (Nat.succ_ne_zero 0) _ _ _ hP hS (lv_sub hl [2] rfl)
set_option maxHeartbeats 4000000 in
set_option maxRecDepth 100000 in
theorem e_MT_member_b {E : (Nat → Prop) → State → Heap → Prop} {D : va_G} {ad kd sd vd xd : Nat → Nat} {ca : Nat → ClassId} {ky ty : Nat → Option Nat} (hE : o_EK E kd sd vd xd) (hKy : m_KY ky ty sd) (l : Launch) (n : Nat) (x1 : Int32) (x2 : Nat) (gx2 : o_sb x2 = true) (a0 : SMT) (Ni : SNI) (Np : SNP) (No : SNO) (Nx : SNX) (Nf : SNF) (Na : SNA) (Nh : SNH) (Nq : SNQ) (Nj : SNJ) (M0 : SMT) (rt : Nat) {r : Int32} (h : m_MT_member n x1 x2 a0 = some r) : o_Cn E l D m_cls (m_tys ca) y_MT_member cc_MT_member rm_MT_member [.ref (ad 48), .int x1, .ref (sd x2)] (m_cw ad ca ky ty rt Ni Np No Nx Nf Na Nh Nq Nj M0 a0) (m_cw ad ca ky ty rt Ni Np No Nx Nf Na Nh Nq Nj M0 a0) (some (.int r)) := by
  refine o_Cn_of (by decide) (Nat.le_of_ble_eq_true rfl) ?_
  intro p e s m below meth c A ls C hD hP hS hl
  have hDD : ∀ (rt : Nat) (Ni : SNI) (Np : SNP) (No : SNO) (Nx : SNX) (Nf : SNF) (Na : SNA) (Nh : SNH) (Nq : SNQ) (Nj : SNJ) (M0 : SMT) (M1 : SMT), va_D A (m_cw ad ca ky ty rt Ni Np No Nx Nf Na Nh Nq Nj M0 M1) := fun _ _ _ _ _ _ _ _ _ _ _ _ => o_D_map hD rfl
  have hl : lv_has ls 4 [(0, .ref (ad 48)), (1, .int x1), (2, .ref (sd x2))] := hl
  unfold m_MT_member at h
  have C0 := C
  obtain ⟨hx, hb, -, -, -, hown, hts, hK, -, -⟩ := C0
  refine lv_aload_n hx hb d_MT_member_0 rfl (lv_at hl 0 rfl) ?_
  refine o_get (v := .ref (ad 55)) C in_MT hP 48 mw_48 rfl 6 (by decide) k_7_112 rfl rfl d_MT_member_1 ?_
  refine lv_iload_n hx hb d_MT_member_4 rfl (lv_at hl 1 rfl) ?_
  obtain ⟨g1, h⟩ := o_gd_some h
  refine o_iald (f := (MT_first a0)) C hP 55 52 mw_55 rfl g1 d_MT_member_5 ?_
  refine lv_topi (fun x3_6 ex3_6 => ?_)
  replace h := o_nm_at ex3_6 h
  refine lv_istore_n (lv' := [(3, .int x3_6), (0, .ref (ad 48)), (1, .int x1), (2, .ref (sd x2))]) hx hb d_MT_member_6 rfl hl (by decide) rfl (fun ls hl => ?_)
  obtain ⟨q2, hq2, h⟩ := o_bd_some h
  refine o_sim2 (AH := fun zz => o_At p l e rm_MT_member s m _ below meth c _ m_cls D A 4 7 [] (m_cw ad ca ky ty rt Ni Np No Nx Nf Na Nh Nq Nj M0 a0) [(0, .ref (ad 48)), (2, .ref (sd x2)), (3, .int zz)]) (AX := fun qq => if qq.1 = 1 then o_At p l e rm_MT_member s m _ below meth c _ m_cls D A 4 25 [] (m_cw ad ca ky ty rt Ni Np No Nx Nf Na Nh Nq Nj M0 a0) [(3, .int qq.2)] else o_At p l e rm_MT_member s m _ below meth c _ m_cls D A 4 37 [] (m_cw ad ca ky ty rt Ni Np No Nx Nf Na Nh Nq Nj M0 a0) []) (fun zz qq h h0 h1 => f_MT_member_b7_b hE hKy C hDD n x2 gx2 a0 Ni Np No Nx Nf Na Nh Nq Nj M0 rt zz qq h h0 h1) n _ q2 hq2 ?_ _ _ _ hP hS (lv_sub hl [1, 3, 0] rfl)
  by_cases c6 : q2.1 = 1
  · replace h := o_tt c6 h
    refine o_ip c6 ?_
    intro H locs ls hP hS hl
    refine lv_iload_n hx hb d_MT_member_25 rfl (lv_at hl 0 rfl) ?_
    cases h
    exact o_ri C hP hS d_MT_member_26
  replace h := o_ff c6 h
  refine o_in_ c6 ?_
  intro H locs ls hP hS hl
  refine lv_iconst (v := (-1:Int32)) hx hb d_MT_member_37 (by decide) ?_
  cases h
  exact o_ri (v := (-1:Int32)) C hP hS d_MT_member_38
set_option maxHeartbeats 4000000 in
set_option maxRecDepth 100000 in
theorem f_MT_compare_j70_ba {E : (Nat → Prop) → State → Heap → Prop} {p : Program} {l : Launch} {e : Env} {s : State} {m : MethodId} {args : Array Value} {below : List Frame} {meth : Method} {c : Code} {D : va_G} {ad kd sd vd xd : Nat → Nat} {ca : Nat → ClassId} {A : Nat → Prop} {ky ty : Nat → Option Nat} (hE : o_EK E kd sd vd xd) (hKy : m_KY ky ty sd) (C : o_Cx E p s m args meth c D m_cls (m_tys ca) "SchemaJudgeModel$Text" b_MT_compare (some .int) 11 cc_MT_compare A) (hDD : ∀ (rt : Nat) (Ni : SNI) (Np : SNP) (No : SNO) (Nx : SNX) (Nf : SNF) (Na : SNA) (Nh : SNH) (Nq : SNQ) (Nj : SNJ) (M0 : SMT) (M1 : SMT), va_D A (m_cw ad ca ky ty rt Ni Np No Nx Nf Na Nh Nq Nj M0 M1)) (n : Nat) (x4 : Int32) (x5 : Int32) (a0 : SMT) (a2 : SMT) (Ni : SNI) (Np : SNP) (No : SNO) (Nx : SNX) (Nf : SNF) (Na : SNA) (Nh : SNH) (Nq : SNQ) (Nj : SNJ) (rt : Nat) {r : Int32} (h : m_MT_compare_j70 n x4 x5 a0 a2 = some r) : o_At p l e rm_MT_compare s m args below meth c (MQ below (o_Qx D m_cls (some (.int r)) (m_cw ad ca ky ty rt Ni Np No Nx Nf Na Nh Nq Nj a2 a0) A) args s 0 0 A) m_cls D A 11 70 [] (m_cw ad ca ky ty rt Ni Np No Nx Nf Na Nh Nq Nj a2 a0) [(4, .int x4), (5, .int x5)] := by
  unfold m_MT_compare_j70 at h
  intro H locs ls hP hS hl
  have C0 := C
  obtain ⟨hx, hb, -, -, -, hown, hts, hK, -, -⟩ := C0
  refine lv_iload hx hb d_MT_compare_70 (lv_at hl 0 rfl) ?_
  refine lv_iload hx hb d_MT_compare_72 (lv_at hl 1 rfl) ?_
  refine lv_icmp_ge (tgt := 81) hx hb d_MT_compare_74 (by decide) (fun c10 => ?_) (fun c10 => ?_)
  · replace h := o_tt c10 h
    refine lv_iload hx hb d_MT_compare_81 (lv_at hl 0 rfl) ?_
    refine lv_iload hx hb d_MT_compare_83 (lv_at hl 1 rfl) ?_
    refine lv_icmp_le (tgt := 92) hx hb d_MT_compare_85 (by decide) (fun c11 => ?_) (fun c11 => ?_)
    · replace h := o_tt c11 h
      refine lv_iconst (v := (0:Int32)) hx hb d_MT_compare_92 (by decide) ?_
      cases h
      exact o_ri (v := (0:Int32)) C hP hS d_MT_compare_93
    · replace h := o_ff c11 h
      refine lv_iconst (v := (1:Int32)) hx hb d_MT_compare_88 (by decide) ?_
      refine lv_goto (tgt := 93) hx hb d_MT_compare_89 (by decide) ?_
      cases h
      exact o_ri (v := (1:Int32)) C hP hS d_MT_compare_93
  · replace h := o_ff c10 h
    refine lv_iconst (v := (-1:Int32)) hx hb d_MT_compare_77 (by decide) ?_
    refine lv_goto (tgt := 93) hx hb d_MT_compare_78 (by decide) ?_
    cases h
    exact o_ri (v := (-1:Int32)) C hP hS d_MT_compare_93
set_option maxHeartbeats 4000000 in
set_option maxRecDepth 100000 in
theorem f_MT_compare_j232_ba {E : (Nat → Prop) → State → Heap → Prop} {p : Program} {l : Launch} {e : Env} {s : State} {m : MethodId} {args : Array Value} {below : List Frame} {meth : Method} {c : Code} {D : va_G} {ad kd sd vd xd : Nat → Nat} {ca : Nat → ClassId} {A : Nat → Prop} {ky ty : Nat → Option Nat} {Q : State → Prop} (hE : o_EK E kd sd vd xd) (hKy : m_KY ky ty sd) (C : o_Cx E p s m args meth c D m_cls (m_tys ca) "SchemaJudgeModel$Text" b_MT_compare (some .int) 11 cc_MT_compare A) (hDD : ∀ (rt : Nat) (Ni : SNI) (Np : SNP) (No : SNO) (Nx : SNX) (Nf : SNF) (Na : SNA) (Nh : SNH) (Nq : SNQ) (Nj : SNJ) (M0 : SMT) (M1 : SMT), va_D A (m_cw ad ca ky ty rt Ni Np No Nx Nf Na Nh Nq Nj M0 M1)) (n : Nat) (u150_x1 : Int32) (u150_x3 : Int32) (u150_x4 : Int32) (u150_a0 : SMT) (u150_a2 : SMT) (u150_Ni : SNI) (u150_Np : SNP) (u150_No : SNO) (u150_Nx : SNX) (u150_Nf : SNF) (u150_Na : SNA) (u150_Nh : SNH) (u150_Nq : SNQ) (u150_Nj : SNJ) (u150_rt : Nat) (x8 : Int32) (x9 : Int32) (y0 : Int32) {q : Nat × Int32 × Int32 × Int32} (h : m_MT_compare_j232 n u150_x1 u150_x3 u150_x4 x8 x9 y0 u150_a0 u150_a2 = some q) (h0 : q.1 = 0 → o_At p l e rm_MT_compare s m args below meth c Q m_cls D A 11 150 [] (m_cw ad ca ky ty u150_rt u150_Ni u150_Np u150_No u150_Nx u150_Nf u150_Na u150_Nh u150_Nq u150_Nj u150_a2 u150_a0) [(0, .ref (ad 48)), (1, .int u150_x1), (2, .ref (ad 33)), (3, .int u150_x3), (4, .int u150_x4), (8, .int q.2.1)]) (h1 : q.1 ≠ 0 → (if q.1 = 1 then o_At p l e rm_MT_compare s m args below meth c Q m_cls D A 11 241 [] (m_cw ad ca ky ty u150_rt u150_Ni u150_Np u150_No u150_Nx u150_Nf u150_Na u150_Nh u150_Nq u150_Nj u150_a2 u150_a0) [(4, .int u150_x4), (9, .int q.2.2.1), (10, .int q.2.2.2)] else o_At p l e rm_MT_compare s m args below meth c Q m_cls D A 11 263 [] (m_cw ad ca ky ty u150_rt u150_Ni u150_Np u150_No u150_Nx u150_Nf u150_Na u150_Nh u150_Nq u150_Nj u150_a2 u150_a0) [])) : o_At p l e rm_MT_compare s m args below meth c Q m_cls D A 11 232 [.int y0] (m_cw ad ca ky ty u150_rt u150_Ni u150_Np u150_No u150_Nx u150_Nf u150_Na u150_Nh u150_Nq u150_Nj u150_a2 u150_a0) [(0, .ref (ad 48)), (1, .int u150_x1), (2, .ref (ad 33)), (3, .int u150_x3), (4, .int u150_x4), (8, .int x8), (9, .int x9)] := by
  unfold m_MT_compare_j232 at h
  intro H locs ls hP hS hl
  have C0 := C
  obtain ⟨hx, hb, -, -, -, hown, hts, hK, -, -⟩ := C0
  refine lv_istore (lv' := [(10, .int y0), (0, .ref (ad 48)), (1, .int u150_x1), (2, .ref (ad 33)), (3, .int u150_x3), (4, .int u150_x4), (8, .int x8), (9, .int x9)]) hx hb d_MT_compare_232 hl (by decide) rfl (fun ls hl => ?_)
  refine lv_iload hx hb d_MT_compare_234 (lv_at hl 7 rfl) ?_
  refine lv_iload hx hb d_MT_compare_236 (lv_at hl 0 rfl) ?_
  refine lv_icmp_eq (tgt := 257) hx hb d_MT_compare_238 (by decide) (fun c24 => ?_) (fun c24 => ?_)
  · replace h := o_tt c24 h
    obtain ⟨x8_257, ex8_257⟩ : ∃ y : Int32, y = x8 + (1:Int32) := ⟨_, rfl⟩
    replace h := o_nm_at ex8_257 h
    refine lv_iinc (v := x8_257) (lv' := [(8, .int x8_257), (10, .int y0), (0, .ref (ad 48)), (1, .int u150_x1), (2, .ref (ad 33)), (3, .int u150_x3), (4, .int u150_x4), (9, .int x9)]) hx hb d_MT_compare_257 hl (k := 6) rfl (by rw [ex8_257]; rfl) (by decide) rfl (fun ls hl => ?_)
    refine lv_goto (tgt := 150) hx hb d_MT_compare_260 (by decide) ?_
    cases h
    exact h0 rfl _ _ _ hP hS (lv_sub hl [2, 3, 4, 5, 6, 0] rfl)
  · replace h := o_ff c24 h
    cases h
    exact h1 (Nat.succ_ne_zero 0) _ _ _ hP hS (lv_sub hl [5, 7, 0] rfl)
set_option maxHeartbeats 4000000 in
set_option maxRecDepth 100000 in
theorem f_MT_compare_j201_ba {E : (Nat → Prop) → State → Heap → Prop} {p : Program} {l : Launch} {e : Env} {s : State} {m : MethodId} {args : Array Value} {below : List Frame} {meth : Method} {c : Code} {D : va_G} {ad kd sd vd xd : Nat → Nat} {ca : Nat → ClassId} {A : Nat → Prop} {ky ty : Nat → Option Nat} {Q : State → Prop} (hE : o_EK E kd sd vd xd) (hKy : m_KY ky ty sd) (C : o_Cx E p s m args meth c D m_cls (m_tys ca) "SchemaJudgeModel$Text" b_MT_compare (some .int) 11 cc_MT_compare A) (hDD : ∀ (rt : Nat) (Ni : SNI) (Np : SNP) (No : SNO) (Nx : SNX) (Nf : SNF) (Na : SNA) (Nh : SNH) (Nq : SNQ) (Nj : SNJ) (M0 : SMT) (M1 : SMT), va_D A (m_cw ad ca ky ty rt Ni Np No Nx Nf Na Nh Nq Nj M0 M1)) (n : Nat) (u150_x1 : Int32) (u150_x3 : Int32) (u150_x4 : Int32) (u150_a0 : SMT) (u150_a2 : SMT) (u150_Ni : SNI) (u150_Np : SNP) (u150_No : SNO) (u150_Nx : SNX) (u150_Nf : SNF) (u150_Na : SNA) (u150_Nh : SNH) (u150_Nq : SNQ) (u150_Nj : SNJ) (u150_rt : Nat) (x8 : Int32) (y0 : Int32) {q : Nat × Int32 × Int32 × Int32} (h : m_MT_compare_j201 n u150_x1 u150_x3 u150_x4 x8 y0 u150_a0 u150_a2 = some q) (h0 : q.1 = 0 → o_At p l e rm_MT_compare s m args below meth c Q m_cls D A 11 150 [] (m_cw ad ca ky ty u150_rt u150_Ni u150_Np u150_No u150_Nx u150_Nf u150_Na u150_Nh u150_Nq u150_Nj u150_a2 u150_a0) [(0, .ref (ad 48)), (1, .int u150_x1), (2, .ref (ad 33)), (3, .int u150_x3), (4, .int u150_x4), (8, .int q.2.1)]) (h1 : q.1 ≠ 0 → (if q.1 = 1 then o_At p l e rm_MT_compare s m args below meth c Q m_cls D A 11 241 [] (m_cw ad ca ky ty u150_rt u150_Ni u150_Np u150_No u150_Nx u150_Nf u150_Na u150_Nh u150_Nq u150_Nj u150_a2 u150_a0) [(4, .int u150_x4), (9, .int q.2.2.1), (10, .int q.2.2.2)] else o_At p l e rm_MT_compare s m args below meth c Q m_cls D A 11 263 [] (m_cw ad ca ky ty u150_rt u150_Ni u150_Np u150_No u150_Nx u150_Nf u150_Na u150_Nh u150_Nq u150_Nj u150_a2 u150_a0) [])) : o_At p l e rm_MT_compare s m args below meth c Q m_cls D A 11 201 [.int y0] (m_cw ad ca ky ty u150_rt u150_Ni u150_Np u150_No u150_Nx u150_Nf u150_Na u150_Nh u150_Nq u150_Nj u150_a2 u150_a0) [(0, .ref (ad 48)), (1, .int u150_x1), (2, .ref (ad 33)), (3, .int u150_x3), (4, .int u150_x4), (8, .int x8)] := by
  unfold m_MT_compare_j201 at h
  intro H locs ls hP hS hl
  have C0 := C
  obtain ⟨hx, hb, -, -, -, hown, hts, hK, -, -⟩ := C0
  refine lv_istore (lv' := [(9, .int y0), (0, .ref (ad 48)), (1, .int u150_x1), (2, .ref (ad 33)), (3, .int u150_x3), (4, .int u150_x4), (8, .int x8)]) hx hb d_MT_compare_201 hl (by decide) rfl (fun ls hl => ?_)
  refine lv_iload hx hb d_MT_compare_203 (lv_at hl 6 rfl) ?_
  refine lv_aload_n hx hb d_MT_compare_205 rfl (lv_at hl 3 rfl) ?_
  refine o_get (v := .ref (ad 37)) C in_MT hP 33 mw_33 rfl 3 (by decide) k_7_106 rfl rfl d_MT_compare_206 ?_
  refine lv_iload_n hx hb d_MT_compare_209 rfl (lv_at hl 4 rfl) ?_
  obtain ⟨g22, h⟩ := o_gd_some h
  refine o_iald (f := (MT_many u150_a2)) C hP 37 35 mw_37 rfl g22 d_MT_compare_210 ?_
  refine lv_icmp_ge (tgt := 231) hx hb d_MT_compare_211 (by decide) (fun c23 => ?_) (fun c23 => ?_)
  · replace h := o_tt c23 h
    refine lv_iconst (v := (0:Int32)) hx hb d_MT_compare_231 (by decide) ?_
    exact f_MT_compare_j232_ba hE hKy C hDD n u150_x1 u150_x3 u150_x4 u150_a0 u150_a2 u150_Ni u150_Np u150_No u150_Nx u150_Nf u150_Na u150_Nh u150_Nq u150_Nj u150_rt x8 y0 (0:Int32) h h0 h1 _ _ _ hP hS (lv_sub hl [1, 2, 3, 4, 5, 6, 0] rfl)
  · replace h := o_ff c23 h
    refine lv_aload_n hx hb d_MT_compare_214 rfl (lv_at hl 3 rfl) ?_
    refine o_get (v := .ref (ad 45)) C in_MT hP 33 mw_33 rfl 11 (by decide) k_7_122 rfl rfl d_MT_compare_215 ?_
    refine lv_aload_n hx hb d_MT_compare_218 rfl (lv_at hl 3 rfl) ?_
    refine o_get (v := .ref (ad 43)) C in_MT hP 33 mw_33 rfl 9 (by decide) k_7_118 rfl rfl d_MT_compare_219 ?_
    refine lv_iload_n hx hb d_MT_compare_222 rfl (lv_at hl 4 rfl) ?_
    obtain ⟨g25, h⟩ := o_gd_some h
    refine o_iald (f := (MT_from u150_a2)) C hP 43 41 mw_43 rfl g25 d_MT_compare_223 ?_
    refine lv_iload hx hb d_MT_compare_224 (lv_at hl 6 rfl) ?_
    refine lv_iadd hx hb d_MT_compare_226 ?_
    obtain ⟨g26, h⟩ := o_gd_some h
    refine o_iald (f := (MT_digits u150_a2)) C hP 45 43 mw_45 rfl g26 d_MT_compare_227 ?_
    refine lv_goto (tgt := 232) hx hb d_MT_compare_228 (by decide) ?_
    exact f_MT_compare_j232_ba hE hKy C hDD n u150_x1 u150_x3 u150_x4 u150_a0 u150_a2 u150_Ni u150_Np u150_No u150_Nx u150_Nf u150_Na u150_Nh u150_Nq u150_Nj u150_rt x8 y0 ((MT_digits u150_a2) (((MT_from u150_a2) u150_x3.toNatClampNeg) + x8).toNatClampNeg) h h0 h1 _ _ _ hP hS (lv_sub hl [1, 2, 3, 4, 5, 6, 0] rfl)
set_option maxHeartbeats 4000000 in
set_option maxRecDepth 100000 in
theorem f_MT_compare_j172_ba {E : (Nat → Prop) → State → Heap → Prop} {p : Program} {l : Launch} {e : Env} {s : State} {m : MethodId} {args : Array Value} {below : List Frame} {meth : Method} {c : Code} {D : va_G} {ad kd sd vd xd : Nat → Nat} {ca : Nat → ClassId} {A : Nat → Prop} {ky ty : Nat → Option Nat} {Q : State → Prop} (hE : o_EK E kd sd vd xd) (hKy : m_KY ky ty sd) (C : o_Cx E p s m args meth c D m_cls (m_tys ca) "SchemaJudgeModel$Text" b_MT_compare (some .int) 11 cc_MT_compare A) (hDD : ∀ (rt : Nat) (Ni : SNI) (Np : SNP) (No : SNO) (Nx : SNX) (Nf : SNF) (Na : SNA) (Nh : SNH) (Nq : SNQ) (Nj : SNJ) (M0 : SMT) (M1 : SMT), va_D A (m_cw ad ca ky ty rt Ni Np No Nx Nf Na Nh Nq Nj M0 M1)) (n : Nat) (u150_x1 : Int32) (u150_x3 : Int32) (u150_x4 : Int32) (u150_a0 : SMT) (u150_a2 : SMT) (u150_Ni : SNI) (u150_Np : SNP) (u150_No : SNO) (u150_Nx : SNX) (u150_Nf : SNF) (u150_Na : SNA) (u150_Nh : SNH) (u150_Nq : SNQ) (u150_Nj : SNJ) (u150_rt : Nat) (x8 : Int32) {q : Nat × Int32 × Int32 × Int32} (h : m_MT_compare_j172 n u150_x1 u150_x3 u150_x4 x8 u150_a0 u150_a2 = some q) (h0 : q.1 = 0 → o_At p l e rm_MT_compare s m args below meth c Q m_cls D A 11 150 [] (m_cw ad ca ky ty u150_rt u150_Ni u150_Np u150_No u150_Nx u150_Nf u150_Na u150_Nh u150_Nq u150_Nj u150_a2 u150_a0) [(0, .ref (ad 48)), (1, .int u150_x1), (2, .ref (ad 33)), (3, .int u150_x3), (4, .int u150_x4), (8, .int q.2.1)]) (h1 : q.1 ≠ 0 → (if q.1 = 1 then o_At p l e rm_MT_compare s m args below meth c Q m_cls D A 11 241 [] (m_cw ad ca ky ty u150_rt u150_Ni u150_Np u150_No u150_Nx u150_Nf u150_Na u150_Nh u150_Nq u150_Nj u150_a2 u150_a0) [(4, .int u150_x4), (9, .int q.2.2.1), (10, .int q.2.2.2)] else o_At p l e rm_MT_compare s m args below meth c Q m_cls D A 11 263 [] (m_cw ad ca ky ty u150_rt u150_Ni u150_Np u150_No u150_Nx u150_Nf u150_Na u150_Nh u150_Nq u150_Nj u150_a2 u150_a0) [])) : o_At p l e rm_MT_compare s m args below meth c Q m_cls D A 11 172 [] (m_cw ad ca ky ty u150_rt u150_Ni u150_Np u150_No u150_Nx u150_Nf u150_Na u150_Nh u150_Nq u150_Nj u150_a2 u150_a0) [(0, .ref (ad 48)), (1, .int u150_x1), (2, .ref (ad 33)), (3, .int u150_x3), (4, .int u150_x4), (8, .int x8)] := by
  unfold m_MT_compare_j172 at h
  intro H locs ls hP hS hl
  have C0 := C
  obtain ⟨hx, hb, -, -, -, hown, hts, hK, -, -⟩ := C0
  refine lv_iload hx hb d_MT_compare_172 (lv_at hl 5 rfl) ?_
  refine lv_aload_n hx hb d_MT_compare_174 rfl (lv_at hl 0 rfl) ?_
  refine o_get (v := .ref (ad 52)) C in_MT hP 48 mw_48 rfl 3 (by decide) k_7_106 rfl rfl d_MT_compare_175 ?_
  refine lv_iload_n hx hb d_MT_compare_178 rfl (lv_at hl 1 rfl) ?_
  obtain ⟨g20, h⟩ := o_gd_some h
  refine o_iald (f := (MT_many u150_a0)) C hP 52 49 mw_52 rfl g20 d_MT_compare_179 ?_
  refine lv_icmp_ge (tgt := 200) hx hb d_MT_compare_180 (by decide) (fun c21 => ?_) (fun c21 => ?_)
  · replace h := o_tt c21 h
    refine lv_iconst (v := (0:Int32)) hx hb d_MT_compare_200 (by decide) ?_
    exact f_MT_compare_j201_ba hE hKy C hDD n u150_x1 u150_x3 u150_x4 u150_a0 u150_a2 u150_Ni u150_Np u150_No u150_Nx u150_Nf u150_Na u150_Nh u150_Nq u150_Nj u150_rt x8 (0:Int32) h h0 h1 _ _ _ hP hS (lv_sub hl [0, 1, 2, 3, 4, 5] rfl)
  · replace h := o_ff c21 h
    refine lv_aload_n hx hb d_MT_compare_183 rfl (lv_at hl 0 rfl) ?_
    refine o_get (v := .ref (ad 60)) C in_MT hP 48 mw_48 rfl 11 (by decide) k_7_122 rfl rfl d_MT_compare_184 ?_
    refine lv_aload_n hx hb d_MT_compare_187 rfl (lv_at hl 0 rfl) ?_
    refine o_get (v := .ref (ad 58)) C in_MT hP 48 mw_48 rfl 9 (by decide) k_7_118 rfl rfl d_MT_compare_188 ?_
    refine lv_iload_n hx hb d_MT_compare_191 rfl (lv_at hl 1 rfl) ?_
    obtain ⟨g27, h⟩ := o_gd_some h
    refine o_iald (f := (MT_from u150_a0)) C hP 58 55 mw_58 rfl g27 d_MT_compare_192 ?_
    refine lv_iload hx hb d_MT_compare_193 (lv_at hl 5 rfl) ?_
    refine lv_iadd hx hb d_MT_compare_195 ?_
    obtain ⟨g28, h⟩ := o_gd_some h
    refine o_iald (f := (MT_digits u150_a0)) C hP 60 57 mw_60 rfl g28 d_MT_compare_196 ?_
    refine lv_goto (tgt := 201) hx hb d_MT_compare_197 (by decide) ?_
    exact f_MT_compare_j201_ba hE hKy C hDD n u150_x1 u150_x3 u150_x4 u150_a0 u150_a2 u150_Ni u150_Np u150_No u150_Nx u150_Nf u150_Na u150_Nh u150_Nq u150_Nj u150_rt x8 ((MT_digits u150_a0) (((MT_from u150_a0) u150_x1.toNatClampNeg) + x8).toNatClampNeg) h h0 h1 _ _ _ hP hS (lv_sub hl [0, 1, 2, 3, 4, 5] rfl)
set_option maxHeartbeats 4000000 in
set_option maxRecDepth 100000 in
theorem f_MT_compare_b150_ba {E : (Nat → Prop) → State → Heap → Prop} {p : Program} {l : Launch} {e : Env} {s : State} {m : MethodId} {args : Array Value} {below : List Frame} {meth : Method} {c : Code} {D : va_G} {ad kd sd vd xd : Nat → Nat} {ca : Nat → ClassId} {A : Nat → Prop} {ky ty : Nat → Option Nat} {Q : State → Prop} (hE : o_EK E kd sd vd xd) (hKy : m_KY ky ty sd) (C : o_Cx E p s m args meth c D m_cls (m_tys ca) "SchemaJudgeModel$Text" b_MT_compare (some .int) 11 cc_MT_compare A) (hDD : ∀ (rt : Nat) (Ni : SNI) (Np : SNP) (No : SNO) (Nx : SNX) (Nf : SNF) (Na : SNA) (Nh : SNH) (Nq : SNQ) (Nj : SNJ) (M0 : SMT) (M1 : SMT), va_D A (m_cw ad ca ky ty rt Ni Np No Nx Nf Na Nh Nq Nj M0 M1)) (n : Nat) (u150_x1 : Int32) (u150_x3 : Int32) (u150_x4 : Int32) (u150_a0 : SMT) (u150_a2 : SMT) (u150_Ni : SNI) (u150_Np : SNP) (u150_No : SNO) (u150_Nx : SNX) (u150_Nf : SNF) (u150_Na : SNA) (u150_Nh : SNH) (u150_Nq : SNQ) (u150_Nj : SNJ) (u150_rt : Nat) (z : Int32 × Int32 × Int32) (q : Nat × Int32 × Int32 × Int32) (h : m_MT_compare_b150 n u150_x1 u150_x3 u150_x4 u150_a0 u150_a2 z = some q) (h0 : q.1 = 0 → o_At p l e rm_MT_compare s m args below meth c Q m_cls D A 11 150 [] (m_cw ad ca ky ty u150_rt u150_Ni u150_Np u150_No u150_Nx u150_Nf u150_Na u150_Nh u150_Nq u150_Nj u150_a2 u150_a0) [(0, .ref (ad 48)), (1, .int u150_x1), (2, .ref (ad 33)), (3, .int u150_x3), (4, .int u150_x4), (8, .int q.2.1)]) (h1 : q.1 ≠ 0 → (if q.1 = 1 then o_At p l e rm_MT_compare s m args below meth c Q m_cls D A 11 241 [] (m_cw ad ca ky ty u150_rt u150_Ni u150_Np u150_No u150_Nx u150_Nf u150_Na u150_Nh u150_Nq u150_Nj u150_a2 u150_a0) [(4, .int u150_x4), (9, .int q.2.2.1), (10, .int q.2.2.2)] else o_At p l e rm_MT_compare s m args below meth c Q m_cls D A 11 263 [] (m_cw ad ca ky ty u150_rt u150_Ni u150_Np u150_No u150_Nx u150_Nf u150_Na u150_Nh u150_Nq u150_Nj u150_a2 u150_a0) [])) : o_At p l e rm_MT_compare s m args below meth c Q m_cls D A 11 150 [] (m_cw ad ca ky ty u150_rt u150_Ni u150_Np u150_No u150_Nx u150_Nf u150_Na u150_Nh u150_Nq u150_Nj u150_a2 u150_a0) [(0, .ref (ad 48)), (1, .int u150_x1), (2, .ref (ad 33)), (3, .int u150_x3), (4, .int u150_x4), (8, .int z.1)] := by
  unfold m_MT_compare_b150 at h
  intro H locs ls hP hS hl
  have C0 := C
  obtain ⟨hx, hb, -, -, -, hown, hts, hK, -, -⟩ := C0
  refine lv_iload hx hb d_MT_compare_150 (lv_at hl 5 rfl) ?_
  refine lv_aload_n hx hb d_MT_compare_152 rfl (lv_at hl 0 rfl) ?_
  refine o_get (v := .ref (ad 52)) C in_MT hP 48 mw_48 rfl 3 (by decide) k_7_106 rfl rfl d_MT_compare_153 ?_
  refine lv_iload_n hx hb d_MT_compare_156 rfl (lv_at hl 1 rfl) ?_
  obtain ⟨g18, h⟩ := o_gd_some h
  refine o_iald (f := (MT_many u150_a0)) C hP 52 49 mw_52 rfl g18 d_MT_compare_157 ?_
  refine lv_icmp_lt (tgt := 172) hx hb d_MT_compare_158 (by decide) (fun c19 => ?_) (fun c19 => ?_)
  · replace h := o_tt c19 h
    exact f_MT_compare_j172_ba hE hKy C hDD n u150_x1 u150_x3 u150_x4 u150_a0 u150_a2 u150_Ni u150_Np u150_No u150_Nx u150_Nf u150_Na u150_Nh u150_Nq u150_Nj u150_rt z.1 h h0 h1 _ _ _ hP hS (lv_sub hl [0, 1, 2, 3, 4, 5] rfl)
  · replace h := o_ff c19 h
    refine lv_iload hx hb d_MT_compare_161 (lv_at hl 5 rfl) ?_
    refine lv_aload_n hx hb d_MT_compare_163 rfl (lv_at hl 2 rfl) ?_
    refine o_get (v := .ref (ad 37)) C in_MT hP 33 mw_33 rfl 3 (by decide) k_7_106 rfl rfl d_MT_compare_164 ?_
    refine lv_iload_n hx hb d_MT_compare_167 rfl (lv_at hl 3 rfl) ?_
    obtain ⟨g29, h⟩ := o_gd_some h
    refine o_iald (f := (MT_many u150_a2)) C hP 37 35 mw_37 rfl g29 d_MT_compare_168 ?_
    refine lv_icmp_ge (tgt := 263) hx hb d_MT_compare_169 (by decide) (fun c30 => ?_) (fun c30 => ?_)
    · replace h := o_tt c30 h
      cases h
      exact h1 (Nat.succ_ne_zero 1) _ _ _ hP hS (lv_sub hl [] rfl)
    · replace h := o_ff c30 h
      exact f_MT_compare_j172_ba hE hKy C hDD n u150_x1 u150_x3 u150_x4 u150_a0 u150_a2 u150_Ni u150_Np u150_No u150_Nx u150_Nf u150_Na u150_Nh u150_Nq u150_Nj u150_rt z.1 h h0 h1 _ _ _ hP hS (lv_sub hl [0, 1, 2, 3, 4, 5] rfl)
set_option maxHeartbeats 4000000 in
set_option maxRecDepth 100000 in
theorem f_MT_compare_j56_ba {E : (Nat → Prop) → State → Heap → Prop} {p : Program} {l : Launch} {e : Env} {s : State} {m : MethodId} {args : Array Value} {below : List Frame} {meth : Method} {c : Code} {D : va_G} {ad kd sd vd xd : Nat → Nat} {ca : Nat → ClassId} {A : Nat → Prop} {ky ty : Nat → Option Nat} (hE : o_EK E kd sd vd xd) (hKy : m_KY ky ty sd) (C : o_Cx E p s m args meth c D m_cls (m_tys ca) "SchemaJudgeModel$Text" b_MT_compare (some .int) 11 cc_MT_compare A) (hDD : ∀ (rt : Nat) (Ni : SNI) (Np : SNP) (No : SNO) (Nx : SNX) (Nf : SNF) (Na : SNA) (Nh : SNH) (Nq : SNQ) (Nj : SNJ) (M0 : SMT) (M1 : SMT), va_D A (m_cw ad ca ky ty rt Ni Np No Nx Nf Na Nh Nq Nj M0 M1)) (n : Nat) (x1 : Int32) (x3 : Int32) (x4 : Int32) (y0 : Int32) (a0 : SMT) (a2 : SMT) (Ni : SNI) (Np : SNP) (No : SNO) (Nx : SNX) (Nf : SNF) (Na : SNA) (Nh : SNH) (Nq : SNQ) (Nj : SNJ) (rt : Nat) {r : Int32} (h : m_MT_compare_j56 n x1 x3 x4 y0 a0 a2 = some r) : o_At p l e rm_MT_compare s m args below meth c (MQ below (o_Qx D m_cls (some (.int r)) (m_cw ad ca ky ty rt Ni Np No Nx Nf Na Nh Nq Nj a2 a0) A) args s 0 0 A) m_cls D A 11 56 [.int y0] (m_cw ad ca ky ty rt Ni Np No Nx Nf Na Nh Nq Nj a2 a0) [(0, .ref (ad 48)), (1, .int x1), (2, .ref (ad 33)), (3, .int x3), (4, .int x4)] := by
  unfold m_MT_compare_j56 at h
  intro H locs ls hP hS hl
  have C0 := C
  obtain ⟨hx, hb, -, -, -, hown, hts, hK, -, -⟩ := C0
  refine lv_istore (lv' := [(5, .int y0), (0, .ref (ad 48)), (1, .int x1), (2, .ref (ad 33)), (3, .int x3), (4, .int x4)]) hx hb d_MT_compare_56 hl (by decide) rfl (fun ls hl => ?_)
  refine lv_iload hx hb d_MT_compare_58 (lv_at hl 5 rfl) ?_
  refine lv_iload hx hb d_MT_compare_60 (lv_at hl 0 rfl) ?_
  refine lv_icmp_ne (tgt := 70) hx hb d_MT_compare_62 (by decide) (fun c9 => ?_) (fun c9 => ?_)
  · replace h := o_ff c9 h
    exact f_MT_compare_j70_ba hE hKy C hDD n x4 y0 a0 a2 Ni Np No Nx Nf Na Nh Nq Nj rt h _ _ _ hP hS (lv_sub hl [5, 0] rfl)
  · replace h := o_tt c9 h
    refine lv_iload hx hb d_MT_compare_65 (lv_at hl 5 rfl) ?_
    refine lv_if_ne (tgt := 94) hx hb d_MT_compare_67 (by decide) (fun c12 => ?_) (fun c12 => ?_)
    · replace h := o_ff c12 h
      refine lv_aload_n hx hb d_MT_compare_94 rfl (lv_at hl 1 rfl) ?_
      refine o_get (v := .ref (ad 52)) C in_MT hP 48 mw_48 rfl 3 (by decide) k_7_106 rfl rfl d_MT_compare_95 ?_
      refine lv_iload_n hx hb d_MT_compare_98 rfl (lv_at hl 2 rfl) ?_
      obtain ⟨g13, h⟩ := o_gd_some h
      refine o_iald (f := (MT_many a0)) C hP 52 49 mw_52 rfl g13 d_MT_compare_99 ?_
      refine lv_aload_n hx hb d_MT_compare_100 rfl (lv_at hl 1 rfl) ?_
      refine o_get (v := .ref (ad 54)) C in_MT hP 48 mw_48 rfl 5 (by decide) k_7_110 rfl rfl d_MT_compare_101 ?_
      refine lv_iload_n hx hb d_MT_compare_104 rfl (lv_at hl 2 rfl) ?_
      obtain ⟨g14, h⟩ := o_gd_some h
      refine o_iald (f := (MT_power a0)) C hP 54 51 mw_54 rfl g14 d_MT_compare_105 ?_
      refine lv_iadd hx hb d_MT_compare_106 ?_
      refine lv_topi (fun x6_107 ex6_107 => ?_)
      replace h := o_nm_at ex6_107 h
      refine lv_istore (lv' := [(6, .int x6_107), (5, .int y0), (0, .ref (ad 48)), (1, .int x1), (2, .ref (ad 33)), (3, .int x3), (4, .int x4)]) hx hb d_MT_compare_107 hl (by decide) rfl (fun ls hl => ?_)
      refine lv_aload_n hx hb d_MT_compare_109 rfl (lv_at hl 4 rfl) ?_
      refine o_get (v := .ref (ad 37)) C in_MT hP 33 mw_33 rfl 3 (by decide) k_7_106 rfl rfl d_MT_compare_110 ?_
      refine lv_iload_n hx hb d_MT_compare_113 rfl (lv_at hl 5 rfl) ?_
      obtain ⟨g15, h⟩ := o_gd_some h
      refine o_iald (f := (MT_many a2)) C hP 37 35 mw_37 rfl g15 d_MT_compare_114 ?_
      refine lv_aload_n hx hb d_MT_compare_115 rfl (lv_at hl 4 rfl) ?_
      refine o_get (v := .ref (ad 39)) C in_MT hP 33 mw_33 rfl 5 (by decide) k_7_110 rfl rfl d_MT_compare_116 ?_
      refine lv_iload_n hx hb d_MT_compare_119 rfl (lv_at hl 5 rfl) ?_
      obtain ⟨g16, h⟩ := o_gd_some h
      refine o_iald (f := (MT_power a2)) C hP 39 37 mw_39 rfl g16 d_MT_compare_120 ?_
      refine lv_iadd hx hb d_MT_compare_121 ?_
      refine lv_topi (fun x7_122 ex7_122 => ?_)
      replace h := o_nm_at ex7_122 h
      refine lv_istore (lv' := [(7, .int x7_122), (6, .int x6_107), (5, .int y0), (0, .ref (ad 48)), (1, .int x1), (2, .ref (ad 33)), (3, .int x3), (4, .int x4)]) hx hb d_MT_compare_122 hl (by decide) rfl (fun ls hl => ?_)
      refine lv_iload hx hb d_MT_compare_124 (lv_at hl 1 rfl) ?_
      refine lv_iload hx hb d_MT_compare_126 (lv_at hl 0 rfl) ?_
      refine lv_icmp_eq (tgt := 147) hx hb d_MT_compare_128 (by decide) (fun c17 => ?_) (fun c17 => ?_)
      · replace h := o_tt c17 h
        refine lv_iconst (v := (0:Int32)) hx hb d_MT_compare_147 (by decide) ?_
        refine lv_istore (lv' := [(8, .int (0:Int32)), (7, .int x7_122), (6, .int x6_107), (5, .int y0), (0, .ref (ad 48)), (1, .int x1), (2, .ref (ad 33)), (3, .int x3), (4, .int x4)]) hx hb d_MT_compare_148 hl (by decide) rfl (fun ls hl => ?_)
        obtain ⟨q1, hq1, h⟩ := o_bd_some h
        refine o_sim2 (AH := fun zz => o_At p l e rm_MT_compare s m args below meth c _ m_cls D A 11 150 [] (m_cw ad ca ky ty rt Ni Np No Nx Nf Na Nh Nq Nj a2 a0) [(0, .ref (ad 48)), (1, .int x1), (2, .ref (ad 33)), (3, .int x3), (4, .int x4), (8, .int zz.1)]) (AX := fun qq => if qq.1 = 1 then o_At p l e rm_MT_compare s m args below meth c _ m_cls D A 11 241 [] (m_cw ad ca ky ty rt Ni Np No Nx Nf Na Nh Nq Nj a2 a0) [(4, .int x4), (9, .int qq.2.2.1), (10, .int qq.2.2.2)] else o_At p l e rm_MT_compare s m args below meth c _ m_cls D A 11 263 [] (m_cw ad ca ky ty rt Ni Np No Nx Nf Na Nh Nq Nj a2 a0) []) (fun zz qq h h0 h1 => f_MT_compare_b150_ba hE hKy C hDD n x1 x3 x4 a0 a2 Ni Np No Nx Nf Na Nh Nq Nj rt zz qq h h0 h1) n _ q1 hq1 ?_ _ _ _ hP hS (lv_sub hl [4, 5, 6, 7, 8, 0] rfl)
        by_cases c32 : q1.1 = 1
        · replace h := o_tt c32 h
          refine o_ip c32 ?_
          intro H locs ls hP hS hl
          refine lv_iload hx hb d_MT_compare_241 (lv_at hl 1 rfl) ?_
          refine lv_iload hx hb d_MT_compare_243 (lv_at hl 2 rfl) ?_
          refine lv_icmp_ge (tgt := 254) hx hb d_MT_compare_245 (by decide) (fun c31 => ?_) (fun c31 => ?_)
          · replace h := o_tt c31 h
            refine lv_iload hx hb d_MT_compare_254 (lv_at hl 0 rfl) ?_
            cases h
            exact o_ri C hP hS d_MT_compare_256
          · replace h := o_ff c31 h
            refine lv_iload hx hb d_MT_compare_248 (lv_at hl 0 rfl) ?_
            refine lv_ineg hx hb d_MT_compare_250 ?_
            refine lv_goto (tgt := 256) hx hb d_MT_compare_251 (by decide) ?_
            cases h
            exact o_ri (v := (-x4)) C hP hS d_MT_compare_256
        replace h := o_ff c32 h
        refine o_in_ c32 ?_
        intro H locs ls hP hS hl
        refine lv_iconst (v := (0:Int32)) hx hb d_MT_compare_263 (by decide) ?_
        cases h
        exact o_ri (v := (0:Int32)) C hP hS d_MT_compare_264
      · replace h := o_ff c17 h
        refine lv_iload hx hb d_MT_compare_131 (lv_at hl 1 rfl) ?_
        refine lv_iload hx hb d_MT_compare_133 (lv_at hl 0 rfl) ?_
        refine lv_icmp_ge (tgt := 144) hx hb d_MT_compare_135 (by decide) (fun c33 => ?_) (fun c33 => ?_)
        · replace h := o_tt c33 h
          refine lv_iload hx hb d_MT_compare_144 (lv_at hl 7 rfl) ?_
          cases h
          exact o_ri C hP hS d_MT_compare_146
        · replace h := o_ff c33 h
          refine lv_iload hx hb d_MT_compare_138 (lv_at hl 7 rfl) ?_
          refine lv_ineg hx hb d_MT_compare_140 ?_
          refine lv_goto (tgt := 146) hx hb d_MT_compare_141 (by decide) ?_
          cases h
          exact o_ri (v := (-x4)) C hP hS d_MT_compare_146
    · replace h := o_tt c12 h
      exact f_MT_compare_j70_ba hE hKy C hDD n x4 y0 a0 a2 Ni Np No Nx Nf Na Nh Nq Nj rt h _ _ _ hP hS (lv_sub hl [5, 0] rfl)
set_option maxHeartbeats 4000000 in
set_option maxRecDepth 100000 in
theorem f_MT_compare_j27_ba {E : (Nat → Prop) → State → Heap → Prop} {p : Program} {l : Launch} {e : Env} {s : State} {m : MethodId} {args : Array Value} {below : List Frame} {meth : Method} {c : Code} {D : va_G} {ad kd sd vd xd : Nat → Nat} {ca : Nat → ClassId} {A : Nat → Prop} {ky ty : Nat → Option Nat} (hE : o_EK E kd sd vd xd) (hKy : m_KY ky ty sd) (C : o_Cx E p s m args meth c D m_cls (m_tys ca) "SchemaJudgeModel$Text" b_MT_compare (some .int) 11 cc_MT_compare A) (hDD : ∀ (rt : Nat) (Ni : SNI) (Np : SNP) (No : SNO) (Nx : SNX) (Nf : SNF) (Na : SNA) (Nh : SNH) (Nq : SNQ) (Nj : SNJ) (M0 : SMT) (M1 : SMT), va_D A (m_cw ad ca ky ty rt Ni Np No Nx Nf Na Nh Nq Nj M0 M1)) (n : Nat) (x1 : Int32) (x3 : Int32) (y0 : Int32) (a0 : SMT) (a2 : SMT) (Ni : SNI) (Np : SNP) (No : SNO) (Nx : SNX) (Nf : SNF) (Na : SNA) (Nh : SNH) (Nq : SNQ) (Nj : SNJ) (rt : Nat) {r : Int32} (h : m_MT_compare_j27 n x1 x3 y0 a0 a2 = some r) : o_At p l e rm_MT_compare s m args below meth c (MQ below (o_Qx D m_cls (some (.int r)) (m_cw ad ca ky ty rt Ni Np No Nx Nf Na Nh Nq Nj a2 a0) A) args s 0 0 A) m_cls D A 11 27 [.int y0] (m_cw ad ca ky ty rt Ni Np No Nx Nf Na Nh Nq Nj a2 a0) [(0, .ref (ad 48)), (1, .int x1), (2, .ref (ad 33)), (3, .int x3)] := by
  unfold m_MT_compare_j27 at h
  intro H locs ls hP hS hl
  have C0 := C
  obtain ⟨hx, hb, -, -, -, hown, hts, hK, -, -⟩ := C0
  refine lv_istore (lv' := [(4, .int y0), (0, .ref (ad 48)), (1, .int x1), (2, .ref (ad 33)), (3, .int x3)]) hx hb d_MT_compare_27 hl (by decide) rfl (fun ls hl => ?_)
  refine lv_aload_n hx hb d_MT_compare_29 rfl (lv_at hl 3 rfl) ?_
  refine o_get (v := .ref (ad 37)) C in_MT hP 33 mw_33 rfl 3 (by decide) k_7_106 rfl rfl d_MT_compare_30 ?_
  refine lv_iload_n hx hb d_MT_compare_33 rfl (lv_at hl 4 rfl) ?_
  obtain ⟨g5, h⟩ := o_gd_some h
  refine o_iald (f := (MT_many a2)) C hP 37 35 mw_37 rfl g5 d_MT_compare_34 ?_
  refine lv_if_ne (tgt := 42) hx hb d_MT_compare_35 (by decide) (fun c6 => ?_) (fun c6 => ?_)
  · replace h := o_ff c6 h
    refine lv_aload_n hx hb d_MT_compare_42 rfl (lv_at hl 3 rfl) ?_
    refine o_get (v := .ref (ad 46)) C in_MT hP 33 mw_33 rfl 12 (by decide) k_7_124 rfl rfl d_MT_compare_43 ?_
    refine lv_iload_n hx hb d_MT_compare_46 rfl (lv_at hl 4 rfl) ?_
    obtain ⟨g7, h⟩ := o_gd_some h
    refine o_zald (f := (MT_minus a2)) C hP 46 44 mw_46 rfl g7 d_MT_compare_47 ?_
    refine lv_if_eq (tgt := 55) hx hb d_MT_compare_48 (by decide) (fun c8 => ?_) (fun c8 => ?_)
    · replace h := o_tt c8 h
      refine lv_iconst (v := (1:Int32)) hx hb d_MT_compare_55 (by decide) ?_
      exact f_MT_compare_j56_ba hE hKy C hDD n x1 x3 y0 (1:Int32) a0 a2 Ni Np No Nx Nf Na Nh Nq Nj rt h _ _ _ hP hS (lv_sub hl [1, 2, 3, 4, 0] rfl)
    · replace h := o_ff c8 h
      refine lv_iconst (v := (-1:Int32)) hx hb d_MT_compare_51 (by decide) ?_
      refine lv_goto (tgt := 56) hx hb d_MT_compare_52 (by decide) ?_
      exact f_MT_compare_j56_ba hE hKy C hDD n x1 x3 y0 (-1:Int32) a0 a2 Ni Np No Nx Nf Na Nh Nq Nj rt h _ _ _ hP hS (lv_sub hl [1, 2, 3, 4, 0] rfl)
  · replace h := o_tt c6 h
    refine lv_iconst (v := (0:Int32)) hx hb d_MT_compare_38 (by decide) ?_
    refine lv_goto (tgt := 56) hx hb d_MT_compare_39 (by decide) ?_
    exact f_MT_compare_j56_ba hE hKy C hDD n x1 x3 y0 (0:Int32) a0 a2 Ni Np No Nx Nf Na Nh Nq Nj rt h _ _ _ hP hS (lv_sub hl [1, 2, 3, 4, 0] rfl)
set_option maxHeartbeats 4000000 in
set_option maxRecDepth 100000 in
theorem e_MT_compare_ba {E : (Nat → Prop) → State → Heap → Prop} {D : va_G} {ad kd sd vd xd : Nat → Nat} {ca : Nat → ClassId} {ky ty : Nat → Option Nat} (hE : o_EK E kd sd vd xd) (hKy : m_KY ky ty sd) (l : Launch) (n : Nat) (x1 : Int32) (x3 : Int32) (a0 : SMT) (a2 : SMT) (Ni : SNI) (Np : SNP) (No : SNO) (Nx : SNX) (Nf : SNF) (Na : SNA) (Nh : SNH) (Nq : SNQ) (Nj : SNJ) (rt : Nat) {r : Int32} (h : m_MT_compare n x1 x3 a0 a2 = some r) : o_Cn E l D m_cls (m_tys ca) y_MT_compare cc_MT_compare rm_MT_compare [.ref (ad 48), .int x1, .ref (ad 33), .int x3] (m_cw ad ca ky ty rt Ni Np No Nx Nf Na Nh Nq Nj a2 a0) (m_cw ad ca ky ty rt Ni Np No Nx Nf Na Nh Nq Nj a2 a0) (some (.int r)) := by
  refine o_Cn_of (by decide) (Nat.le_of_ble_eq_true rfl) ?_
  intro p e s m below meth c A ls C hD hP hS hl
  have hDD : ∀ (rt : Nat) (Ni : SNI) (Np : SNP) (No : SNO) (Nx : SNX) (Nf : SNF) (Na : SNA) (Nh : SNH) (Nq : SNQ) (Nj : SNJ) (M0 : SMT) (M1 : SMT), va_D A (m_cw ad ca ky ty rt Ni Np No Nx Nf Na Nh Nq Nj M0 M1) := fun _ _ _ _ _ _ _ _ _ _ _ _ => o_D_map hD rfl
  have hl : lv_has ls 11 [(0, .ref (ad 48)), (1, .int x1), (2, .ref (ad 33)), (3, .int x3)] := hl
  unfold m_MT_compare at h
  have C0 := C
  obtain ⟨hx, hb, -, -, -, hown, hts, hK, -, -⟩ := C0
  refine lv_aload_n hx hb d_MT_compare_0 rfl (lv_at hl 0 rfl) ?_
  refine o_get (v := .ref (ad 52)) C in_MT hP 48 mw_48 rfl 3 (by decide) k_7_106 rfl rfl d_MT_compare_1 ?_
  refine lv_iload_n hx hb d_MT_compare_4 rfl (lv_at hl 1 rfl) ?_
  obtain ⟨g1, h⟩ := o_gd_some h
  refine o_iald (f := (MT_many a0)) C hP 52 49 mw_52 rfl g1 d_MT_compare_5 ?_
  refine lv_if_ne (tgt := 13) hx hb d_MT_compare_6 (by decide) (fun c2 => ?_) (fun c2 => ?_)
  · replace h := o_ff c2 h
    refine lv_aload_n hx hb d_MT_compare_13 rfl (lv_at hl 0 rfl) ?_
    refine o_get (v := .ref (ad 61)) C in_MT hP 48 mw_48 rfl 12 (by decide) k_7_124 rfl rfl d_MT_compare_14 ?_
    refine lv_iload_n hx hb d_MT_compare_17 rfl (lv_at hl 1 rfl) ?_
    obtain ⟨g3, h⟩ := o_gd_some h
    refine o_zald (f := (MT_minus a0)) C hP 61 58 mw_61 rfl g3 d_MT_compare_18 ?_
    refine lv_if_eq (tgt := 26) hx hb d_MT_compare_19 (by decide) (fun c4 => ?_) (fun c4 => ?_)
    · replace h := o_tt c4 h
      refine lv_iconst (v := (1:Int32)) hx hb d_MT_compare_26 (by decide) ?_
      exact f_MT_compare_j27_ba hE hKy C hDD n x1 x3 (1:Int32) a0 a2 Ni Np No Nx Nf Na Nh Nq Nj rt h _ _ _ hP hS (lv_sub hl [0, 1, 2, 3] rfl)
    · replace h := o_ff c4 h
      refine lv_iconst (v := (-1:Int32)) hx hb d_MT_compare_22 (by decide) ?_
      refine lv_goto (tgt := 27) hx hb d_MT_compare_23 (by decide) ?_
      exact f_MT_compare_j27_ba hE hKy C hDD n x1 x3 (-1:Int32) a0 a2 Ni Np No Nx Nf Na Nh Nq Nj rt h _ _ _ hP hS (lv_sub hl [0, 1, 2, 3] rfl)
  · replace h := o_tt c2 h
    refine lv_iconst (v := (0:Int32)) hx hb d_MT_compare_9 (by decide) ?_
    refine lv_goto (tgt := 27) hx hb d_MT_compare_10 (by decide) ?_
    exact f_MT_compare_j27_ba hE hKy C hDD n x1 x3 (0:Int32) a0 a2 Ni Np No Nx Nf Na Nh Nq Nj rt h _ _ _ hP hS (lv_sub hl [0, 1, 2, 3] rfl)
