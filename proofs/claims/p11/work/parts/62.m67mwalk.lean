set_option maxHeartbeats 4000000 in
set_option maxRecDepth 100000 in
theorem f_MT_same_b20_bb {E : (Nat → Prop) → State → Heap → Prop} {p : Program} {l : Launch} {e : Env} {s : State} {m : MethodId} {args : Array Value} {below : List Frame} {meth : Method} {c : Code} {D : va_G} {ad kd sd vd xd : Nat → Nat} {ca : Nat → ClassId} {A : Nat → Prop} {ky ty : Nat → Option Nat} {Q : State → Prop} (hE : o_EK E kd sd vd xd) (hKy : m_KY ky ty sd) (C : o_Cx E p s m args meth c D m_cls (m_tys ca) "SchemaJudgeModel$Text" b_MT_same (some .boolean) 5 cc_MT_same A) (hDD : ∀ (rt : Nat) (Ni : SNI) (Np : SNP) (No : SNO) (Nx : SNX) (Nf : SNF) (Na : SNA) (Nh : SNH) (Nq : SNQ) (Nj : SNJ) (M0 : SMT) (M1 : SMT), va_D A (m_cw ad ca ky ty rt Ni Np No Nx Nf Na Nh Nq Nj M0 M1)) (n : Nat) (u20_x1 : Int32) (u20_x3 : Int32) (u20_a0 : SMT) (u20_Ni : SNI) (u20_Np : SNP) (u20_No : SNO) (u20_Nx : SNX) (u20_Nf : SNF) (u20_Na : SNA) (u20_Nh : SNH) (u20_Nq : SNQ) (u20_Nj : SNJ) (u20_M0 : SMT) (u20_rt : Nat) (z : Int32) (q : Nat × Int32) (h : m_MT_same_b20 n u20_x1 u20_x3 u20_a0 u20_a0 z = some q) (h0 : q.1 = 0 → o_At p l e rm_MT_same s m args below meth c Q m_cls D A 5 20 [] (m_cw ad ca ky ty u20_rt u20_Ni u20_Np u20_No u20_Nx u20_Nf u20_Na u20_Nh u20_Nq u20_Nj u20_M0 u20_a0) [(0, .ref (ad 48)), (1, .int u20_x1), (2, .ref (ad 48)), (3, .int u20_x3), (4, .int q.2)]) (h1 : q.1 ≠ 0 → (if q.1 = 1 then o_At p l e rm_MT_same s m args below meth c Q m_cls D A 5 62 [] (m_cw ad ca ky ty u20_rt u20_Ni u20_Np u20_No u20_Nx u20_Nf u20_Na u20_Nh u20_Nq u20_Nj u20_M0 u20_a0) [] else o_At p l e rm_MT_same s m args below meth c Q m_cls D A 5 70 [] (m_cw ad ca ky ty u20_rt u20_Ni u20_Np u20_No u20_Nx u20_Nf u20_Na u20_Nh u20_Nq u20_Nj u20_M0 u20_a0) [])) : o_At p l e rm_MT_same s m args below meth c Q m_cls D A 5 20 [] (m_cw ad ca ky ty u20_rt u20_Ni u20_Np u20_No u20_Nx u20_Nf u20_Na u20_Nh u20_Nq u20_Nj u20_M0 u20_a0) [(0, .ref (ad 48)), (1, .int u20_x1), (2, .ref (ad 48)), (3, .int u20_x3), (4, .int z)] := by
  unfold m_MT_same_b20 at h
  intro H locs ls hP hS hl
  have C0 := C
  obtain ⟨hx, hb, -, -, -, hown, hts, hK, -, -⟩ := C0
  refine lv_iload hx hb d_MT_same_20 (lv_at hl 4 rfl) ?_
  refine lv_aload_n hx hb d_MT_same_22 rfl (lv_at hl 0 rfl) ?_
  refine o_get (v := .ref (ad 52)) C in_MT hP 48 mw_48 rfl 3 (by decide) k_7_106 rfl rfl d_MT_same_23 ?_
  refine lv_iload_n hx hb d_MT_same_26 rfl (lv_at hl 1 rfl) ?_
  obtain ⟨g4, h⟩ := o_gd_some h
  refine o_iald (f := (MT_many u20_a0)) C hP 52 49 mw_52 rfl g4 d_MT_same_27 ?_
  refine lv_icmp_ge (tgt := 70) hx hb d_MT_same_28 (by decide) (fun c5 => ?_) (fun c5 => ?_)
  · replace h := o_tt c5 h
    cases h
    exact h1 (Nat.succ_ne_zero 1) _ _ _ hP hS (lv_sub hl [] rfl)
  · replace h := o_ff c5 h
    refine lv_aload_n hx hb d_MT_same_31 rfl (lv_at hl 0 rfl) ?_
    refine o_get (v := .ref (ad 59)) C in_MT hP 48 mw_48 rfl 10 (by decide) k_7_120 rfl rfl d_MT_same_32 ?_
    refine lv_aload_n hx hb d_MT_same_35 rfl (lv_at hl 0 rfl) ?_
    refine o_get (v := .ref (ad 58)) C in_MT hP 48 mw_48 rfl 9 (by decide) k_7_118 rfl rfl d_MT_same_36 ?_
    refine lv_iload_n hx hb d_MT_same_39 rfl (lv_at hl 1 rfl) ?_
    obtain ⟨g6, h⟩ := o_gd_some h
    refine o_iald (f := (MT_from u20_a0)) C hP 58 55 mw_58 rfl g6 d_MT_same_40 ?_
    refine lv_iload hx hb d_MT_same_41 (lv_at hl 4 rfl) ?_
    refine lv_iadd hx hb d_MT_same_43 ?_
    obtain ⟨g7, h⟩ := o_gd_some h
    refine o_iald (f := (MT_characters u20_a0)) C hP 59 56 mw_59 rfl g7 d_MT_same_44 ?_
    refine lv_aload_n hx hb d_MT_same_45 rfl (lv_at hl 2 rfl) ?_
    refine o_get (v := .ref (ad 59)) C in_MT hP 48 mw_48 rfl 10 (by decide) k_7_120 rfl rfl d_MT_same_46 ?_
    refine lv_aload_n hx hb d_MT_same_49 rfl (lv_at hl 2 rfl) ?_
    refine o_get (v := .ref (ad 58)) C in_MT hP 48 mw_48 rfl 9 (by decide) k_7_118 rfl rfl d_MT_same_50 ?_
    refine lv_iload_n hx hb d_MT_same_53 rfl (lv_at hl 3 rfl) ?_
    obtain ⟨g8, h⟩ := o_gd_some h
    refine o_iald (f := (MT_from u20_a0)) C hP 58 55 mw_58 rfl g8 d_MT_same_54 ?_
    refine lv_iload hx hb d_MT_same_55 (lv_at hl 4 rfl) ?_
    refine lv_iadd hx hb d_MT_same_57 ?_
    obtain ⟨g9, h⟩ := o_gd_some h
    refine o_iald (f := (MT_characters u20_a0)) C hP 59 56 mw_59 rfl g9 d_MT_same_58 ?_
    refine lv_icmp_eq (tgt := 64) hx hb d_MT_same_59 (by decide) (fun c10 => ?_) (fun c10 => ?_)
    · replace h := o_tt c10 h
      obtain ⟨x4_64, ex4_64⟩ : ∃ y : Int32, y = z + (1:Int32) := ⟨_, rfl⟩
      replace h := o_nm_at ex4_64 h
      refine lv_iinc (v := x4_64) (lv' := [(4, .int x4_64), (0, .ref (ad 48)), (1, .int u20_x1), (2, .ref (ad 48)), (3, .int u20_x3)]) hx hb d_MT_same_64 hl (k := 4) rfl (by rw [ex4_64]; rfl) (by decide) rfl (fun ls hl => ?_)
      refine lv_goto (tgt := 20) hx hb d_MT_same_67 (by decide) ?_
      cases h
      exact h0 rfl _ _ _ hP hS (lv_sub hl [1, 2, 3, 4, 0] rfl)
    · replace h := o_ff c10 h
      cases h
      exact h1 (Nat.succ_ne_zero 0) _ _ _ hP hS (lv_sub hl [] rfl)
set_option maxHeartbeats 4000000 in
set_option maxRecDepth 100000 in
theorem e_MT_same_bb {E : (Nat → Prop) → State → Heap → Prop} {D : va_G} {ad kd sd vd xd : Nat → Nat} {ca : Nat → ClassId} {ky ty : Nat → Option Nat} (hE : o_EK E kd sd vd xd) (hKy : m_KY ky ty sd) (l : Launch) (n : Nat) (x1 : Int32) (x3 : Int32) (a0 : SMT) (Ni : SNI) (Np : SNP) (No : SNO) (Nx : SNX) (Nf : SNF) (Na : SNA) (Nh : SNH) (Nq : SNQ) (Nj : SNJ) (M0 : SMT) (rt : Nat) {r : Int32} (h : m_MT_same n x1 x3 a0 a0 = some r) : o_Cn E l D m_cls (m_tys ca) y_MT_same cc_MT_same rm_MT_same [.ref (ad 48), .int x1, .ref (ad 48), .int x3] (m_cw ad ca ky ty rt Ni Np No Nx Nf Na Nh Nq Nj M0 a0) (m_cw ad ca ky ty rt Ni Np No Nx Nf Na Nh Nq Nj M0 a0) (some (.int r)) := by
  refine o_Cn_of (by decide) (Nat.le_of_ble_eq_true rfl) ?_
  intro p e s m below meth c A ls C hD hP hS hl
  have hDD : ∀ (rt : Nat) (Ni : SNI) (Np : SNP) (No : SNO) (Nx : SNX) (Nf : SNF) (Na : SNA) (Nh : SNH) (Nq : SNQ) (Nj : SNJ) (M0 : SMT) (M1 : SMT), va_D A (m_cw ad ca ky ty rt Ni Np No Nx Nf Na Nh Nq Nj M0 M1) := fun _ _ _ _ _ _ _ _ _ _ _ _ => o_D_map hD rfl
  have hl : lv_has ls 5 [(0, .ref (ad 48)), (1, .int x1), (2, .ref (ad 48)), (3, .int x3)] := hl
  unfold m_MT_same at h
  have C0 := C
  obtain ⟨hx, hb, -, -, -, hown, hts, hK, -, -⟩ := C0
  refine lv_aload_n hx hb d_MT_same_0 rfl (lv_at hl 0 rfl) ?_
  refine o_get (v := .ref (ad 52)) C in_MT hP 48 mw_48 rfl 3 (by decide) k_7_106 rfl rfl d_MT_same_1 ?_
  refine lv_iload_n hx hb d_MT_same_4 rfl (lv_at hl 1 rfl) ?_
  obtain ⟨g1, h⟩ := o_gd_some h
  refine o_iald (f := (MT_many a0)) C hP 52 49 mw_52 rfl g1 d_MT_same_5 ?_
  refine lv_aload_n hx hb d_MT_same_6 rfl (lv_at hl 2 rfl) ?_
  refine o_get (v := .ref (ad 52)) C in_MT hP 48 mw_48 rfl 3 (by decide) k_7_106 rfl rfl d_MT_same_7 ?_
  refine lv_iload_n hx hb d_MT_same_10 rfl (lv_at hl 3 rfl) ?_
  obtain ⟨g2, h⟩ := o_gd_some h
  refine o_iald (f := (MT_many a0)) C hP 52 49 mw_52 rfl g2 d_MT_same_11 ?_
  refine lv_icmp_eq (tgt := 17) hx hb d_MT_same_12 (by decide) (fun c3 => ?_) (fun c3 => ?_)
  · replace h := o_tt c3 h
    refine lv_iconst (v := (0:Int32)) hx hb d_MT_same_17 (by decide) ?_
    refine lv_istore (lv' := [(4, .int (0:Int32)), (0, .ref (ad 48)), (1, .int x1), (2, .ref (ad 48)), (3, .int x3)]) hx hb d_MT_same_18 hl (by decide) rfl (fun ls hl => ?_)
    obtain ⟨q1, hq1, h⟩ := o_bd_some h
    refine o_sim2 (AH := fun zz => o_At p l e rm_MT_same s m _ below meth c _ m_cls D A 5 20 [] (m_cw ad ca ky ty rt Ni Np No Nx Nf Na Nh Nq Nj M0 a0) [(0, .ref (ad 48)), (1, .int x1), (2, .ref (ad 48)), (3, .int x3), (4, .int zz)]) (AX := fun qq => if qq.1 = 1 then o_At p l e rm_MT_same s m _ below meth c _ m_cls D A 5 62 [] (m_cw ad ca ky ty rt Ni Np No Nx Nf Na Nh Nq Nj M0 a0) [] else o_At p l e rm_MT_same s m _ below meth c _ m_cls D A 5 70 [] (m_cw ad ca ky ty rt Ni Np No Nx Nf Na Nh Nq Nj M0 a0) []) (fun zz qq h h0 h1 => f_MT_same_b20_bb hE hKy C hDD n x1 x3 a0 Ni Np No Nx Nf Na Nh Nq Nj M0 rt zz qq h h0 h1) n _ q1 hq1 ?_ _ _ _ hP hS (lv_sub hl [1, 2, 3, 4, 0] rfl)
    by_cases c11 : q1.1 = 1
    · replace h := o_tt c11 h
      refine o_ip c11 ?_
      intro H locs ls hP hS hl
      refine lv_iconst (v := (0:Int32)) hx hb d_MT_same_62 (by decide) ?_
      cases h
      exact o_rz (v := (0:Int32)) C o_nar0 hP hS d_MT_same_63
    replace h := o_ff c11 h
    refine o_in_ c11 ?_
    intro H locs ls hP hS hl
    refine lv_iconst (v := (1:Int32)) hx hb d_MT_same_70 (by decide) ?_
    cases h
    exact o_rz (v := (1:Int32)) C o_nar1 hP hS d_MT_same_71
  · replace h := o_ff c3 h
    refine lv_iconst (v := (0:Int32)) hx hb d_MT_same_15 (by decide) ?_
    cases h
    exact o_rz (v := (0:Int32)) C o_nar0 hP hS d_MT_same_16
set_option maxHeartbeats 4000000 in
set_option maxRecDepth 100000 in
theorem f_MT_object_b127_b {E : (Nat → Prop) → State → Heap → Prop} {p : Program} {l : Launch} {e : Env} {s : State} {m : MethodId} {args : Array Value} {below : List Frame} {meth : Method} {c : Code} {D : va_G} {ad kd sd vd xd : Nat → Nat} {ca : Nat → ClassId} {A : Nat → Prop} {ky ty : Nat → Option Nat} {Q : State → Prop} (hE : o_EK E kd sd vd xd) (hKy : m_KY ky ty sd) (C : o_Cx E p s m args meth c D m_cls (m_tys ca) "SchemaJudgeModel$Text" b_MT_object (some .boolean) 8 cc_MT_object A) (hDD : ∀ (rt : Nat) (Ni : SNI) (Np : SNP) (No : SNO) (Nx : SNX) (Nf : SNF) (Na : SNA) (Nh : SNH) (Nq : SNQ) (Nj : SNJ) (M0 : SMT) (M1 : SMT), va_D A (m_cw ad ca ky ty rt Ni Np No Nx Nf Na Nh Nq Nj M0 M1)) (d : Nat) (rec : Int32 → Int32 → SMT → Option (Int32 × SMT)) (hrec : ∀ (x1 : Int32) (x2 : Int32) (a0 : SMT) (Ni : SNI) (Np : SNP) (No : SNO) (Nx : SNX) (Nf : SNF) (Na : SNA) (Nh : SNH) (Nq : SNQ) (Nj : SNJ) (M0 : SMT) (rt : Nat) (r : Int32 × SMT), rec x1 x2 a0 = some r → o_Cn E l D m_cls (m_tys ca) y_MT_value cc_MT_value (rm_MT_value d) [.ref (ad 48), .int x1, .int x2] (m_cw ad ca ky ty rt Ni Np No Nx Nf Na Nh Nq Nj M0 a0) (m_cw ad ca ky ty rt Ni Np No Nx Nf Na Nh Nq Nj M0 r.2) (some (.int r.1))) (n : Nat) (u127_x2 : Int32) (u127_x3 : Int32) (u127_x4 : Int32) (u127_x5 : Int32) (u127_x6 : Int32) (u127_a0 : SMT) (u127_Ni : SNI) (u127_Np : SNP) (u127_No : SNO) (u127_Nx : SNX) (u127_Nf : SNF) (u127_Na : SNA) (u127_Nh : SNH) (u127_Nq : SNQ) (u127_Nj : SNJ) (u127_M0 : SMT) (u127_rt : Nat) (z : Int32) (q : Nat × Int32) (h : m_MT_object_b127 n rec u127_x2 u127_x3 u127_x4 u127_x5 u127_x6 u127_a0 z = some q) (h0 : q.1 = 0 → o_At p l e (rm_MT_object d) s m args below meth c Q m_cls D A 8 127 [] (m_cw ad ca ky ty u127_rt u127_Ni u127_Np u127_No u127_Nx u127_Nf u127_Na u127_Nh u127_Nq u127_Nj u127_M0 u127_a0) [(0, .ref (ad 48)), (2, .int u127_x2), (3, .int u127_x3), (4, .int u127_x4), (5, .int u127_x5), (6, .int u127_x6), (7, .int q.2)]) (h1 : q.1 ≠ 0 → (if q.1 = 1 then o_At p l e (rm_MT_object d) s m args below meth c Q m_cls D A 8 149 [] (m_cw ad ca ky ty u127_rt u127_Ni u127_Np u127_No u127_Nx u127_Nf u127_Na u127_Nh u127_Nq u127_Nj u127_M0 u127_a0) [(0, .ref (ad 48)), (5, .int u127_x5)] else o_At p l e (rm_MT_object d) s m args below meth c Q m_cls D A 8 168 [] (m_cw ad ca ky ty u127_rt u127_Ni u127_Np u127_No u127_Nx u127_Nf u127_Na u127_Nh u127_Nq u127_Nj u127_M0 u127_a0) [(0, .ref (ad 48)), (2, .int u127_x2), (3, .int u127_x3), (4, .int u127_x4), (6, .int u127_x6)])) : o_At p l e (rm_MT_object d) s m args below meth c Q m_cls D A 8 127 [] (m_cw ad ca ky ty u127_rt u127_Ni u127_Np u127_No u127_Nx u127_Nf u127_Na u127_Nh u127_Nq u127_Nj u127_M0 u127_a0) [(0, .ref (ad 48)), (2, .int u127_x2), (3, .int u127_x3), (4, .int u127_x4), (5, .int u127_x5), (6, .int u127_x6), (7, .int z)] := by
  unfold m_MT_object_b127 at h
  intro H locs ls hP hS hl
  have C0 := C
  obtain ⟨hx, hb, -, -, -, hown, hts, hK, -, -⟩ := C0
  refine lv_iload hx hb d_MT_object_127 (lv_at hl 6 rfl) ?_
  refine lv_if_lt (tgt := 168) hx hb d_MT_object_129 (by decide) (fun c8 => ?_) (fun c8 => ?_)
  · replace h := o_tt c8 h
    cases h
    exact h1 (Nat.succ_ne_zero 1) _ _ _ hP hS (lv_sub hl [0, 1, 2, 3, 5] rfl)
  · replace h := o_ff c8 h
    refine lv_aload_n hx hb d_MT_object_132 rfl (lv_at hl 0 rfl) ?_
    refine lv_aload_n hx hb d_MT_object_133 rfl (lv_at hl 0 rfl) ?_
    refine o_get (v := .ref (ad 57)) C in_MT hP 48 mw_48 rfl 8 (by decide) k_7_116 rfl rfl d_MT_object_134 ?_
    refine lv_iload hx hb d_MT_object_137 (lv_at hl 6 rfl) ?_
    obtain ⟨g9, h⟩ := o_gd_some h
    refine o_iald (f := (MT_name u127_a0)) C hP 57 54 mw_57 rfl g9 d_MT_object_139 ?_
    refine lv_aload_n hx hb d_MT_object_140 rfl (lv_at hl 0 rfl) ?_
    refine lv_iload hx hb d_MT_object_141 (lv_at hl 5 rfl) ?_
    obtain ⟨q7, hq7, h⟩ := o_bd_some h
    refine o_V (st1 := [.int q7]) (w1 := (m_cw ad ca ky ty u127_rt u127_Ni u127_Np u127_No u127_Nx u127_Nf u127_Na u127_Nh u127_Nq u127_Nj u127_M0 u127_a0)) hE.1 C (e_MT_same_bb hE hKy l n ((MT_name u127_a0) z.toNatClampNeg) u127_x6 u127_a0 u127_Ni u127_Np u127_No u127_Nx u127_Nf u127_Na u127_Nh u127_Nq u127_Nj u127_M0 u127_rt hq7) hP (hDD _ _ _ _ _ _ _ _ _ _ _ _) hS hl.1 rfl mw_48 k_9_25 k_9_26 k_9_27 k_1_13 k_9_28 hv_MT_same rfl rfl ⟨(by dsimp only [rm_MT_object, rm_MT_same]; omega), (by dsimp only [rm_MT_object, rm_MT_same]; omega)⟩ rfl (Nat.le_of_ble_eq_true rfl) ⟨Nat.zero_le _, Nat.zero_le _⟩ rfl d_MT_object_143 (fun H locs hP hS => ?_)
    refine lv_if_eq (tgt := 156) hx hb d_MT_object_146 (by decide) (fun c10 => ?_) (fun c10 => ?_)
    · replace h := o_tt c10 h
      refine lv_aload_n hx hb d_MT_object_156 rfl (lv_at hl 0 rfl) ?_
      refine o_get (v := .ref (ad 56)) C in_MT hP 48 mw_48 rfl 7 (by decide) k_7_114 rfl rfl d_MT_object_157 ?_
      refine lv_iload hx hb d_MT_object_160 (lv_at hl 6 rfl) ?_
      obtain ⟨g11, h⟩ := o_gd_some h
      refine o_iald (f := (MT_next u127_a0)) C hP 56 53 mw_56 rfl g11 d_MT_object_162 ?_
      refine lv_topi (fun x7_163 ex7_163 => ?_)
      replace h := o_nm_at ex7_163 h
      refine lv_istore (lv' := [(7, .int x7_163), (0, .ref (ad 48)), (2, .int u127_x2), (3, .int u127_x3), (4, .int u127_x4), (5, .int u127_x5), (6, .int u127_x6)]) hx hb d_MT_object_163 hl (by decide) rfl (fun ls hl => ?_)
      refine lv_goto (tgt := 127) hx hb d_MT_object_165 (by decide) ?_
      cases h
      exact h0 rfl _ _ _ hP hS (lv_sub hl [1, 2, 3, 4, 5, 6, 0] rfl)
    · replace h := o_ff c10 h
      cases h
      exact h1 (Nat.succ_ne_zero 0) _ _ _ hP hS (lv_sub hl [0, 4] rfl)
set_option maxHeartbeats 4000000 in
set_option maxRecDepth 100000 in
theorem f_MT_object_j261_b {E : (Nat → Prop) → State → Heap → Prop} {p : Program} {l : Launch} {e : Env} {s : State} {m : MethodId} {args : Array Value} {below : List Frame} {meth : Method} {c : Code} {D : va_G} {ad kd sd vd xd : Nat → Nat} {ca : Nat → ClassId} {A : Nat → Prop} {ky ty : Nat → Option Nat} {Q : State → Prop} (hE : o_EK E kd sd vd xd) (hKy : m_KY ky ty sd) (C : o_Cx E p s m args meth c D m_cls (m_tys ca) "SchemaJudgeModel$Text" b_MT_object (some .boolean) 8 cc_MT_object A) (hDD : ∀ (rt : Nat) (Ni : SNI) (Np : SNP) (No : SNO) (Nx : SNX) (Nf : SNF) (Na : SNA) (Nh : SNH) (Nq : SNQ) (Nj : SNJ) (M0 : SMT) (M1 : SMT), va_D A (m_cw ad ca ky ty rt Ni Np No Nx Nf Na Nh Nq Nj M0 M1)) (d : Nat) (rec : Int32 → Int32 → SMT → Option (Int32 × SMT)) (hrec : ∀ (x1 : Int32) (x2 : Int32) (a0 : SMT) (Ni : SNI) (Np : SNP) (No : SNO) (Nx : SNX) (Nf : SNF) (Na : SNA) (Nh : SNH) (Nq : SNQ) (Nj : SNJ) (M0 : SMT) (rt : Nat) (r : Int32 × SMT), rec x1 x2 a0 = some r → o_Cn E l D m_cls (m_tys ca) y_MT_value cc_MT_value (rm_MT_value d) [.ref (ad 48), .int x1, .int x2] (m_cw ad ca ky ty rt Ni Np No Nx Nf Na Nh Nq Nj M0 a0) (m_cw ad ca ky ty rt Ni Np No Nx Nf Na Nh Nq Nj M0 r.2) (some (.int r.1))) (n : Nat) (u50_x2 : Int32) (u50_x3 : Int32) (u50_Ni : SNI) (u50_Np : SNP) (u50_No : SNO) (u50_Nx : SNX) (u50_Nf : SNF) (u50_Na : SNA) (u50_Nh : SNH) (u50_Nq : SNQ) (u50_Nj : SNJ) (u50_M0 : SMT) (u50_rt : Nat) (x7 : Int32) (a0 : SMT) {q : Nat × Int32 × Int32 × SMT} (h : m_MT_object_j261 n rec u50_x2 u50_x3 x7 a0 = some q) (h0 : q.1 = 0 → o_At p l e (rm_MT_object d) s m args below meth c Q m_cls D A 8 50 [] (m_cw ad ca ky ty u50_rt u50_Ni u50_Np u50_No u50_Nx u50_Nf u50_Na u50_Nh u50_Nq u50_Nj u50_M0 q.2.2.2) [(0, .ref (ad 48)), (2, .int u50_x2), (3, .int u50_x3), (4, .int q.2.1)]) (h1 : q.1 ≠ 0 → (if q.1 = 1 then o_At p l e (rm_MT_object d) s m args below meth c Q m_cls D A 8 88 [] (m_cw ad ca ky ty u50_rt u50_Ni u50_Np u50_No u50_Nx u50_Nf u50_Na u50_Nh u50_Nq u50_Nj u50_M0 q.2.2.2) [(0, .ref (ad 48))] else if q.1 = 2 then o_At p l e (rm_MT_object d) s m args below meth c Q m_cls D A 8 117 [] (m_cw ad ca ky ty u50_rt u50_Ni u50_Np u50_No u50_Nx u50_Nf u50_Na u50_Nh u50_Nq u50_Nj u50_M0 q.2.2.2) [] else if q.1 = 3 then o_At p l e (rm_MT_object d) s m args below meth c Q m_cls D A 8 149 [] (m_cw ad ca ky ty u50_rt u50_Ni u50_Np u50_No u50_Nx u50_Nf u50_Na u50_Nh u50_Nq u50_Nj u50_M0 q.2.2.2) [(0, .ref (ad 48)), (5, .int q.2.2.1)] else if q.1 = 4 then o_At p l e (rm_MT_object d) s m args below meth c Q m_cls D A 8 185 [] (m_cw ad ca ky ty u50_rt u50_Ni u50_Np u50_No u50_Nx u50_Nf u50_Na u50_Nh u50_Nq u50_Nj u50_M0 q.2.2.2) [(0, .ref (ad 48))] else if q.1 = 5 then o_At p l e (rm_MT_object d) s m args below meth c Q m_cls D A 8 225 [] (m_cw ad ca ky ty u50_rt u50_Ni u50_Np u50_No u50_Nx u50_Nf u50_Na u50_Nh u50_Nq u50_Nj u50_M0 q.2.2.2) [] else if q.1 = 6 then o_At p l e (rm_MT_object d) s m args below meth c Q m_cls D A 8 292 [] (m_cw ad ca ky ty u50_rt u50_Ni u50_Np u50_No u50_Nx u50_Nf u50_Na u50_Nh u50_Nq u50_Nj u50_M0 q.2.2.2) [(0, .ref (ad 48))] else o_At p l e (rm_MT_object d) s m args below meth c Q m_cls D A 8 317 [] (m_cw ad ca ky ty u50_rt u50_Ni u50_Np u50_No u50_Nx u50_Nf u50_Na u50_Nh u50_Nq u50_Nj u50_M0 q.2.2.2) [(0, .ref (ad 48))])) : o_At p l e (rm_MT_object d) s m args below meth c Q m_cls D A 8 261 [] (m_cw ad ca ky ty u50_rt u50_Ni u50_Np u50_No u50_Nx u50_Nf u50_Na u50_Nh u50_Nq u50_Nj u50_M0 a0) [(0, .ref (ad 48)), (2, .int u50_x2), (3, .int u50_x3), (7, .int x7)] := by
  unfold m_MT_object_j261 at h
  intro H locs ls hP hS hl
  have C0 := C
  obtain ⟨hx, hb, -, -, -, hown, hts, hK, -, -⟩ := C0
  refine lv_iload hx hb d_MT_object_261 (lv_at hl 3 rfl) ?_
  refine lv_istore (lv' := [(4, .int x7), (0, .ref (ad 48)), (2, .int u50_x2), (3, .int u50_x3), (7, .int x7)]) hx hb d_MT_object_263 hl (by decide) rfl (fun ls hl => ?_)
  refine lv_aload_n hx hb d_MT_object_265 rfl (lv_at hl 1 rfl) ?_
  refine o_get (v := .ref (ad 52)) C in_MT hP 48 mw_48 rfl 3 (by decide) k_7_106 rfl rfl d_MT_object_266 ?_
  refine lv_iload_n hx hb d_MT_object_269 rfl (lv_at hl 3 rfl) ?_
  refine lv_dup2_11 hx hb d_MT_object_270 rfl rfl ?_
  obtain ⟨g17, h⟩ := o_gd_some h
  refine o_iald (f := (MT_many a0)) C hP 52 49 mw_52 rfl g17 d_MT_object_271 ?_
  refine lv_iconst (v := (1:Int32)) hx hb d_MT_object_272 (by decide) ?_
  refine lv_iadd hx hb d_MT_object_273 ?_
  obtain ⟨g18, h⟩ := o_gd_some h
  refine o_iast (f := (MT_many a0)) (w1 := (m_cw ad ca ky ty u50_rt u50_Ni u50_Np u50_No u50_Nx u50_Nf u50_Na u50_Nh u50_Nq u50_Nj u50_M0 (MT_mk (MT_text a0) (MT_kind a0) (MT_place a0) (upd (MT_many a0) u50_x3.toNatClampNeg (((MT_many a0) u50_x3.toNatClampNeg) + (1:Int32))) (MT_parent a0) (MT_power a0) (MT_first a0) (MT_next a0) (MT_name a0) (MT_from a0) (MT_characters a0) (MT_digits a0) (MT_minus a0) (MT_values a0) (MT_letters a0) (MT_at a0) (MT_wrong a0) (MT_used a0) (MT_written a0) (MT_left a0)))) C hP (hDD _ _ _ _ _ _ _ _ _ _ _ _) hS 52 49 mw_52 rfl g18 rfl d_MT_object_274 (fun H locs hP hS => ?_)
  refine lv_aload_n hx hb d_MT_object_275 rfl (lv_at hl 1 rfl) ?_
  obtain ⟨q13, hq13, h⟩ := o_bd_some h
  refine o_V (st1 := []) (w1 := (m_cw ad ca ky ty u50_rt u50_Ni u50_Np u50_No u50_Nx u50_Nf u50_Na u50_Nh u50_Nq u50_Nj u50_M0 q13)) hE.1 C (e_MT_blanks_b hE hKy l n (MT_mk (MT_text a0) (MT_kind a0) (MT_place a0) (upd (MT_many a0) u50_x3.toNatClampNeg (((MT_many a0) u50_x3.toNatClampNeg) + (1:Int32))) (MT_parent a0) (MT_power a0) (MT_first a0) (MT_next a0) (MT_name a0) (MT_from a0) (MT_characters a0) (MT_digits a0) (MT_minus a0) (MT_values a0) (MT_letters a0) (MT_at a0) (MT_wrong a0) (MT_used a0) (MT_written a0) (MT_left a0)) u50_Ni u50_Np u50_No u50_Nx u50_Nf u50_Na u50_Nh u50_Nq u50_Nj u50_M0 u50_rt hq13) hP (hDD _ _ _ _ _ _ _ _ _ _ _ _) hS hl.1 rfl mw_48 k_8_188 k_8_189 k_8_190 k_1_13 k_8_191 hv_MT_blanks rfl rfl ⟨(by dsimp only [rm_MT_object, rm_MT_blanks]; omega), (by dsimp only [rm_MT_object, rm_MT_blanks]; omega)⟩ rfl (Nat.le_of_ble_eq_true rfl) ⟨Nat.zero_le _, Nat.zero_le _⟩ rfl d_MT_object_276 (fun H locs hP hS => ?_)
  refine lv_aload_n hx hb d_MT_object_279 rfl (lv_at hl 1 rfl) ?_
  refine lv_aload_n hx hb d_MT_object_280 rfl (lv_at hl 1 rfl) ?_
  refine o_get (v := .int (MT_at q13)) C in_MT hP 48 mw_48 rfl 15 (by decide) k_7_129 rfl rfl d_MT_object_281 ?_
  obtain ⟨q14, hq14, h⟩ := o_bd_some h
  refine o_V (st1 := [.int q14]) (w1 := (m_cw ad ca ky ty u50_rt u50_Ni u50_Np u50_No u50_Nx u50_Nf u50_Na u50_Nh u50_Nq u50_Nj u50_M0 q13)) hE.1 C (e_MT_c_b hE hKy l (MT_at q13) q13 u50_Ni u50_Np u50_No u50_Nx u50_Nf u50_Na u50_Nh u50_Nq u50_Nj u50_M0 u50_rt hq14) hP (hDD _ _ _ _ _ _ _ _ _ _ _ _) hS hl.1 rfl mw_48 k_8_192 k_8_193 k_8_194 k_1_13 k_8_195 hv_MT_c rfl rfl ⟨(by dsimp only [rm_MT_object, rm_MT_c]; omega), (by dsimp only [rm_MT_object, rm_MT_c]; omega)⟩ rfl (Nat.le_of_ble_eq_true rfl) ⟨Nat.zero_le _, Nat.zero_le _⟩ rfl d_MT_object_284 (fun H locs hP hS => ?_)
  refine lv_bipush (v := (125:Int32)) hx hb d_MT_object_287 (by decide) ?_
  refine lv_icmp_ne (tgt := 304) hx hb d_MT_object_289 (by decide) (fun c19 => ?_) (fun c19 => ?_)
  · replace h := o_ff c19 h
    refine lv_aload_n hx hb d_MT_object_304 rfl (lv_at hl 1 rfl) ?_
    refine lv_aload_n hx hb d_MT_object_305 rfl (lv_at hl 1 rfl) ?_
    refine o_get (v := .int (MT_at q13)) C in_MT hP 48 mw_48 rfl 15 (by decide) k_7_129 rfl rfl d_MT_object_306 ?_
    obtain ⟨q15, hq15, h⟩ := o_bd_some h
    refine o_V (st1 := [.int q15]) (w1 := (m_cw ad ca ky ty u50_rt u50_Ni u50_Np u50_No u50_Nx u50_Nf u50_Na u50_Nh u50_Nq u50_Nj u50_M0 q13)) hE.1 C (e_MT_c_b hE hKy l (MT_at q13) q13 u50_Ni u50_Np u50_No u50_Nx u50_Nf u50_Na u50_Nh u50_Nq u50_Nj u50_M0 u50_rt hq15) hP (hDD _ _ _ _ _ _ _ _ _ _ _ _) hS hl.1 rfl mw_48 k_8_192 k_8_193 k_8_194 k_1_13 k_8_195 hv_MT_c rfl rfl ⟨(by dsimp only [rm_MT_object, rm_MT_c]; omega), (by dsimp only [rm_MT_object, rm_MT_c]; omega)⟩ rfl (Nat.le_of_ble_eq_true rfl) ⟨Nat.zero_le _, Nat.zero_le _⟩ rfl d_MT_object_309 (fun H locs hP hS => ?_)
    refine lv_bipush (v := (44:Int32)) hx hb d_MT_object_312 (by decide) ?_
    refine lv_icmp_eq (tgt := 326) hx hb d_MT_object_314 (by decide) (fun c20 => ?_) (fun c20 => ?_)
    · replace h := o_tt c20 h
      refine lv_aload_n hx hb d_MT_object_326 rfl (lv_at hl 1 rfl) ?_
      refine lv_dup hx hb d_MT_object_327 rfl ?_
      refine o_get (v := .int (MT_at q13)) C in_MT hP 48 mw_48 rfl 15 (by decide) k_7_129 rfl rfl d_MT_object_328 ?_
      refine lv_iconst (v := (1:Int32)) hx hb d_MT_object_331 (by decide) ?_
      refine lv_iadd hx hb d_MT_object_332 ?_
      refine o_put (v := .int ((MT_at q13) + (1:Int32))) (ty := .int) (w1 := (m_cw ad ca ky ty u50_rt u50_Ni u50_Np u50_No u50_Nx u50_Nf u50_Na u50_Nh u50_Nq u50_Nj u50_M0 (MT_mk (MT_text q13) (MT_kind q13) (MT_place q13) (MT_many q13) (MT_parent q13) (MT_power q13) (MT_first q13) (MT_next q13) (MT_name q13) (MT_from q13) (MT_characters q13) (MT_digits q13) (MT_minus q13) (MT_values q13) (MT_letters q13) ((MT_at q13) + (1:Int32)) (MT_wrong q13) (MT_used q13) (MT_written q13) (MT_left q13)))) C in_MT t_MT t_MT_ok n_MT hP (hDD _ _ _ _ _ _ _ _ _ _ _ _) hS 48 mw_48 rfl 15 (by decide) k_7_129 rfl rfl (by decide +kernel) rfl rfl (Nat.le_of_ble_eq_true rfl) rfl d_MT_object_333 (fun H locs hP hS => ?_)
      refine lv_goto (tgt := 50) hx hb d_MT_object_336 (by decide) ?_
      cases h
      exact h0 rfl _ _ _ hP hS (lv_sub hl [1, 2, 3, 0] rfl)
    · replace h := o_ff c20 h
      cases h
      exact h1 (Nat.succ_ne_zero 6) _ _ _ hP hS (lv_sub hl [1] rfl)
  · replace h := o_tt c19 h
    cases h
    exact h1 (Nat.succ_ne_zero 5) _ _ _ hP hS (lv_sub hl [1] rfl)
set_option maxHeartbeats 4000000 in
set_option maxRecDepth 100000 in
theorem f_MT_object_b50_b {E : (Nat → Prop) → State → Heap → Prop} {p : Program} {l : Launch} {e : Env} {s : State} {m : MethodId} {args : Array Value} {below : List Frame} {meth : Method} {c : Code} {D : va_G} {ad kd sd vd xd : Nat → Nat} {ca : Nat → ClassId} {A : Nat → Prop} {ky ty : Nat → Option Nat} {Q : State → Prop} (hE : o_EK E kd sd vd xd) (hKy : m_KY ky ty sd) (C : o_Cx E p s m args meth c D m_cls (m_tys ca) "SchemaJudgeModel$Text" b_MT_object (some .boolean) 8 cc_MT_object A) (hDD : ∀ (rt : Nat) (Ni : SNI) (Np : SNP) (No : SNO) (Nx : SNX) (Nf : SNF) (Na : SNA) (Nh : SNH) (Nq : SNQ) (Nj : SNJ) (M0 : SMT) (M1 : SMT), va_D A (m_cw ad ca ky ty rt Ni Np No Nx Nf Na Nh Nq Nj M0 M1)) (d : Nat) (rec : Int32 → Int32 → SMT → Option (Int32 × SMT)) (hrec : ∀ (x1 : Int32) (x2 : Int32) (a0 : SMT) (Ni : SNI) (Np : SNP) (No : SNO) (Nx : SNX) (Nf : SNF) (Na : SNA) (Nh : SNH) (Nq : SNQ) (Nj : SNJ) (M0 : SMT) (rt : Nat) (r : Int32 × SMT), rec x1 x2 a0 = some r → o_Cn E l D m_cls (m_tys ca) y_MT_value cc_MT_value (rm_MT_value d) [.ref (ad 48), .int x1, .int x2] (m_cw ad ca ky ty rt Ni Np No Nx Nf Na Nh Nq Nj M0 a0) (m_cw ad ca ky ty rt Ni Np No Nx Nf Na Nh Nq Nj M0 r.2) (some (.int r.1))) (n : Nat) (u50_x2 : Int32) (u50_x3 : Int32) (u50_Ni : SNI) (u50_Np : SNP) (u50_No : SNO) (u50_Nx : SNX) (u50_Nf : SNF) (u50_Na : SNA) (u50_Nh : SNH) (u50_Nq : SNQ) (u50_Nj : SNJ) (u50_M0 : SMT) (u50_rt : Nat) (z : Int32 × Int32 × SMT) (q : Nat × Int32 × Int32 × SMT) (h : m_MT_object_b50 n rec u50_x2 u50_x3 z = some q) (h0 : q.1 = 0 → o_At p l e (rm_MT_object d) s m args below meth c Q m_cls D A 8 50 [] (m_cw ad ca ky ty u50_rt u50_Ni u50_Np u50_No u50_Nx u50_Nf u50_Na u50_Nh u50_Nq u50_Nj u50_M0 q.2.2.2) [(0, .ref (ad 48)), (2, .int u50_x2), (3, .int u50_x3), (4, .int q.2.1)]) (h1 : q.1 ≠ 0 → (if q.1 = 1 then o_At p l e (rm_MT_object d) s m args below meth c Q m_cls D A 8 88 [] (m_cw ad ca ky ty u50_rt u50_Ni u50_Np u50_No u50_Nx u50_Nf u50_Na u50_Nh u50_Nq u50_Nj u50_M0 q.2.2.2) [(0, .ref (ad 48))] else if q.1 = 2 then o_At p l e (rm_MT_object d) s m args below meth c Q m_cls D A 8 117 [] (m_cw ad ca ky ty u50_rt u50_Ni u50_Np u50_No u50_Nx u50_Nf u50_Na u50_Nh u50_Nq u50_Nj u50_M0 q.2.2.2) [] else if q.1 = 3 then o_At p l e (rm_MT_object d) s m args below meth c Q m_cls D A 8 149 [] (m_cw ad ca ky ty u50_rt u50_Ni u50_Np u50_No u50_Nx u50_Nf u50_Na u50_Nh u50_Nq u50_Nj u50_M0 q.2.2.2) [(0, .ref (ad 48)), (5, .int q.2.2.1)] else if q.1 = 4 then o_At p l e (rm_MT_object d) s m args below meth c Q m_cls D A 8 185 [] (m_cw ad ca ky ty u50_rt u50_Ni u50_Np u50_No u50_Nx u50_Nf u50_Na u50_Nh u50_Nq u50_Nj u50_M0 q.2.2.2) [(0, .ref (ad 48))] else if q.1 = 5 then o_At p l e (rm_MT_object d) s m args below meth c Q m_cls D A 8 225 [] (m_cw ad ca ky ty u50_rt u50_Ni u50_Np u50_No u50_Nx u50_Nf u50_Na u50_Nh u50_Nq u50_Nj u50_M0 q.2.2.2) [] else if q.1 = 6 then o_At p l e (rm_MT_object d) s m args below meth c Q m_cls D A 8 292 [] (m_cw ad ca ky ty u50_rt u50_Ni u50_Np u50_No u50_Nx u50_Nf u50_Na u50_Nh u50_Nq u50_Nj u50_M0 q.2.2.2) [(0, .ref (ad 48))] else o_At p l e (rm_MT_object d) s m args below meth c Q m_cls D A 8 317 [] (m_cw ad ca ky ty u50_rt u50_Ni u50_Np u50_No u50_Nx u50_Nf u50_Na u50_Nh u50_Nq u50_Nj u50_M0 q.2.2.2) [(0, .ref (ad 48))])) : o_At p l e (rm_MT_object d) s m args below meth c Q m_cls D A 8 50 [] (m_cw ad ca ky ty u50_rt u50_Ni u50_Np u50_No u50_Nx u50_Nf u50_Na u50_Nh u50_Nq u50_Nj u50_M0 z.2.2) [(0, .ref (ad 48)), (2, .int u50_x2), (3, .int u50_x3), (4, .int z.1)] := by
  unfold m_MT_object_b50 at h
  intro H locs ls hP hS hl
  have C0 := C
  obtain ⟨hx, hb, -, -, -, hown, hts, hK, -, -⟩ := C0
  refine lv_aload_n hx hb d_MT_object_50 rfl (lv_at hl 0 rfl) ?_
  obtain ⟨q4, hq4, h⟩ := o_bd_some h
  refine o_V (st1 := []) (w1 := (m_cw ad ca ky ty u50_rt u50_Ni u50_Np u50_No u50_Nx u50_Nf u50_Na u50_Nh u50_Nq u50_Nj u50_M0 q4)) hE.1 C (e_MT_blanks_b hE hKy l n z.2.2 u50_Ni u50_Np u50_No u50_Nx u50_Nf u50_Na u50_Nh u50_Nq u50_Nj u50_M0 u50_rt hq4) hP (hDD _ _ _ _ _ _ _ _ _ _ _ _) hS hl.1 rfl mw_48 k_8_188 k_8_189 k_8_190 k_1_13 k_8_191 hv_MT_blanks rfl rfl ⟨(by dsimp only [rm_MT_object, rm_MT_blanks]; omega), (by dsimp only [rm_MT_object, rm_MT_blanks]; omega)⟩ rfl (Nat.le_of_ble_eq_true rfl) ⟨Nat.zero_le _, Nat.zero_le _⟩ rfl d_MT_object_51 (fun H locs hP hS => ?_)
  refine lv_aload_n hx hb d_MT_object_54 rfl (lv_at hl 0 rfl) ?_
  refine lv_aload_n hx hb d_MT_object_55 rfl (lv_at hl 0 rfl) ?_
  refine o_get (v := .int (MT_at q4)) C in_MT hP 48 mw_48 rfl 15 (by decide) k_7_129 rfl rfl d_MT_object_56 ?_
  obtain ⟨q5, hq5, h⟩ := o_bd_some h
  refine o_V (st1 := [.int q5]) (w1 := (m_cw ad ca ky ty u50_rt u50_Ni u50_Np u50_No u50_Nx u50_Nf u50_Na u50_Nh u50_Nq u50_Nj u50_M0 q4)) hE.1 C (e_MT_c_b hE hKy l (MT_at q4) q4 u50_Ni u50_Np u50_No u50_Nx u50_Nf u50_Na u50_Nh u50_Nq u50_Nj u50_M0 u50_rt hq5) hP (hDD _ _ _ _ _ _ _ _ _ _ _ _) hS hl.1 rfl mw_48 k_8_192 k_8_193 k_8_194 k_1_13 k_8_195 hv_MT_c rfl rfl ⟨(by dsimp only [rm_MT_object, rm_MT_c]; omega), (by dsimp only [rm_MT_object, rm_MT_c]; omega)⟩ rfl (Nat.le_of_ble_eq_true rfl) ⟨Nat.zero_le _, Nat.zero_le _⟩ rfl d_MT_object_59 (fun H locs hP hS => ?_)
  refine lv_bipush (v := (34:Int32)) hx hb d_MT_object_62 (by decide) ?_
  refine lv_icmp_ne (tgt := 88) hx hb d_MT_object_64 (by decide) (fun c2 => ?_) (fun c2 => ?_)
  · replace h := o_ff c2 h
    cases h
    exact h1 (Nat.succ_ne_zero 0) _ _ _ hP hS (lv_sub hl [0] rfl)
  · replace h := o_tt c2 h
    refine lv_aload_n hx hb d_MT_object_67 rfl (lv_at hl 0 rfl) ?_
    refine o_get (v := .ref (ad 52)) C in_MT hP 48 mw_48 rfl 3 (by decide) k_7_106 rfl rfl d_MT_object_68 ?_
    refine lv_iload_n hx hb d_MT_object_71 rfl (lv_at hl 2 rfl) ?_
    obtain ⟨g3, h⟩ := o_gd_some h
    refine o_iald (f := (MT_many q4)) C hP 52 49 mw_52 rfl g3 d_MT_object_72 ?_
    refine lv_bipush (v := (60:Int32)) hx hb d_MT_object_73 (by decide) ?_
    refine lv_icmp_eq (tgt := 88) hx hb d_MT_object_75 (by decide) (fun c4 => ?_) (fun c4 => ?_)
    · replace h := o_tt c4 h
      cases h
      exact h1 (Nat.succ_ne_zero 0) _ _ _ hP hS (lv_sub hl [0] rfl)
    · replace h := o_ff c4 h
      refine lv_aload_n hx hb d_MT_object_78 rfl (lv_at hl 0 rfl) ?_
      refine o_get (v := .int (MT_values q4)) C in_MT hP 48 mw_48 rfl 13 (by decide) k_7_126 rfl rfl d_MT_object_79 ?_
      refine lv_sipush (v := (1000:Int32)) hx hb d_MT_object_82 (by decide) ?_
      refine lv_icmp_ne (tgt := 97) hx hb d_MT_object_85 (by decide) (fun c5 => ?_) (fun c5 => ?_)
      · replace h := o_ff c5 h
        refine lv_aload_n hx hb d_MT_object_97 rfl (lv_at hl 0 rfl) ?_
        refine o_get (v := .int (MT_at q4)) C in_MT hP 48 mw_48 rfl 15 (by decide) k_7_129 rfl rfl d_MT_object_98 ?_
        refine lv_topi (fun x5_101 ex5_101 => ?_)
        replace h := o_nm_at ex5_101 h
        refine lv_istore (lv' := [(5, .int x5_101), (0, .ref (ad 48)), (2, .int u50_x2), (3, .int u50_x3), (4, .int z.1)]) hx hb d_MT_object_101 hl (by decide) rfl (fun ls hl => ?_)
        refine lv_aload_n hx hb d_MT_object_103 rfl (lv_at hl 1 rfl) ?_
        refine o_get (v := .int (MT_values q4)) C in_MT hP 48 mw_48 rfl 13 (by decide) k_7_126 rfl rfl d_MT_object_104 ?_
        refine lv_topi (fun x6_107 ex6_107 => ?_)
        replace h := o_nm_at ex6_107 h
        refine lv_istore (lv' := [(6, .int x6_107), (5, .int x5_101), (0, .ref (ad 48)), (2, .int u50_x2), (3, .int u50_x3), (4, .int z.1)]) hx hb d_MT_object_107 hl (by decide) rfl (fun ls hl => ?_)
        refine lv_aload_n hx hb d_MT_object_109 rfl (lv_at hl 2 rfl) ?_
        refine lv_iload_n hx hb d_MT_object_110 rfl (lv_at hl 4 rfl) ?_
        obtain ⟨q6, hq6, h⟩ := o_bd_some h
        refine o_V (st1 := [.int q6.1]) (w1 := (m_cw ad ca ky ty u50_rt u50_Ni u50_Np u50_No u50_Nx u50_Nf u50_Na u50_Nh u50_Nq u50_Nj u50_M0 q6.2)) hE.1 C (e_MT_string_b hE hKy l n u50_x3 q4 u50_Ni u50_Np u50_No u50_Nx u50_Nf u50_Na u50_Nh u50_Nq u50_Nj u50_M0 u50_rt hq6) hP (hDD _ _ _ _ _ _ _ _ _ _ _ _) hS hl.1 rfl mw_48 k_8_220 k_8_221 k_8_222 k_1_13 k_8_223 hv_MT_string rfl rfl ⟨(by dsimp only [rm_MT_object, rm_MT_string]; omega), (by dsimp only [rm_MT_object, rm_MT_string]; omega)⟩ rfl (Nat.le_of_ble_eq_true rfl) ⟨Nat.zero_le _, Nat.zero_le _⟩ rfl d_MT_object_111 (fun H locs hP hS => ?_)
        refine lv_if_ne (tgt := 119) hx hb d_MT_object_114 (by decide) (fun c6 => ?_) (fun c6 => ?_)
        · replace h := o_ff c6 h
          refine lv_aload_n hx hb d_MT_object_119 rfl (lv_at hl 2 rfl) ?_
          refine o_get (v := .ref (ad 55)) C in_MT hP 48 mw_48 rfl 6 (by decide) k_7_112 rfl rfl d_MT_object_120 ?_
          refine lv_iload_n hx hb d_MT_object_123 rfl (lv_at hl 4 rfl) ?_
          obtain ⟨g7, h⟩ := o_gd_some h
          refine o_iald (f := (MT_first q6.2)) C hP 55 52 mw_55 rfl g7 d_MT_object_124 ?_
          refine lv_topi (fun x7_125 ex7_125 => ?_)
          replace h := o_nm_at ex7_125 h
          refine lv_istore (lv' := [(7, .int x7_125), (6, .int x6_107), (5, .int x5_101), (0, .ref (ad 48)), (2, .int u50_x2), (3, .int u50_x3), (4, .int z.1)]) hx hb d_MT_object_125 hl (by decide) rfl (fun ls hl => ?_)
          obtain ⟨q8, hq8, h⟩ := o_bd_some h
          refine o_sim2 (AH := fun zz => o_At p l e (rm_MT_object d) s m args below meth c _ m_cls D A 8 127 [] (m_cw ad ca ky ty u50_rt u50_Ni u50_Np u50_No u50_Nx u50_Nf u50_Na u50_Nh u50_Nq u50_Nj u50_M0 q6.2) [(0, .ref (ad 48)), (2, .int u50_x2), (3, .int u50_x3), (4, .int z.1), (5, .int x5_101), (6, .int x6_107), (7, .int zz)]) (AX := fun qq => if qq.1 = 1 then o_At p l e (rm_MT_object d) s m args below meth c _ m_cls D A 8 149 [] (m_cw ad ca ky ty u50_rt u50_Ni u50_Np u50_No u50_Nx u50_Nf u50_Na u50_Nh u50_Nq u50_Nj u50_M0 q6.2) [(0, .ref (ad 48)), (5, .int x5_101)] else o_At p l e (rm_MT_object d) s m args below meth c _ m_cls D A 8 168 [] (m_cw ad ca ky ty u50_rt u50_Ni u50_Np u50_No u50_Nx u50_Nf u50_Na u50_Nh u50_Nq u50_Nj u50_M0 q6.2) [(0, .ref (ad 48)), (2, .int u50_x2), (3, .int u50_x3), (4, .int z.1), (6, .int x6_107)]) (fun zz qq h h0 h1 => f_MT_object_b127_b hE hKy C hDD d rec hrec n u50_x2 u50_x3 z.1 x5_101 x6_107 q6.2 u50_Ni u50_Np u50_No u50_Nx u50_Nf u50_Na u50_Nh u50_Nq u50_Nj u50_M0 u50_rt zz qq h h0 h1) n _ q8 hq8 ?_ _ _ _ hP hS (lv_sub hl [3, 4, 5, 6, 2, 1, 0] rfl)
          by_cases c22 : q8.1 = 1
          · replace h := o_tt c22 h
            refine o_ip c22 ?_
            intro H locs ls hP hS hl
            cases h
            exact h1 (Nat.succ_ne_zero 2) _ _ _ hP hS (lv_sub hl [0, 1] rfl)
          replace h := o_ff c22 h
          refine o_in_ c22 ?_
          intro H locs ls hP hS hl
          refine lv_aload_n hx hb d_MT_object_168 rfl (lv_at hl 0 rfl) ?_
          obtain ⟨q9, hq9, h⟩ := o_bd_some h
          refine o_V (st1 := []) (w1 := (m_cw ad ca ky ty u50_rt u50_Ni u50_Np u50_No u50_Nx u50_Nf u50_Na u50_Nh u50_Nq u50_Nj u50_M0 q9)) hE.1 C (e_MT_blanks_b hE hKy l n q6.2 u50_Ni u50_Np u50_No u50_Nx u50_Nf u50_Na u50_Nh u50_Nq u50_Nj u50_M0 u50_rt hq9) hP (hDD _ _ _ _ _ _ _ _ _ _ _ _) hS hl.1 rfl mw_48 k_8_188 k_8_189 k_8_190 k_1_13 k_8_191 hv_MT_blanks rfl rfl ⟨(by dsimp only [rm_MT_object, rm_MT_blanks]; omega), (by dsimp only [rm_MT_object, rm_MT_blanks]; omega)⟩ rfl (Nat.le_of_ble_eq_true rfl) ⟨Nat.zero_le _, Nat.zero_le _⟩ rfl d_MT_object_169 (fun H locs hP hS => ?_)
          refine lv_aload_n hx hb d_MT_object_172 rfl (lv_at hl 0 rfl) ?_
          refine lv_aload_n hx hb d_MT_object_173 rfl (lv_at hl 0 rfl) ?_
          refine o_get (v := .int (MT_at q9)) C in_MT hP 48 mw_48 rfl 15 (by decide) k_7_129 rfl rfl d_MT_object_174 ?_
          obtain ⟨q10, hq10, h⟩ := o_bd_some h
          refine o_V (st1 := [.int q10]) (w1 := (m_cw ad ca ky ty u50_rt u50_Ni u50_Np u50_No u50_Nx u50_Nf u50_Na u50_Nh u50_Nq u50_Nj u50_M0 q9)) hE.1 C (e_MT_c_b hE hKy l (MT_at q9) q9 u50_Ni u50_Np u50_No u50_Nx u50_Nf u50_Na u50_Nh u50_Nq u50_Nj u50_M0 u50_rt hq10) hP (hDD _ _ _ _ _ _ _ _ _ _ _ _) hS hl.1 rfl mw_48 k_8_192 k_8_193 k_8_194 k_1_13 k_8_195 hv_MT_c rfl rfl ⟨(by dsimp only [rm_MT_object, rm_MT_c]; omega), (by dsimp only [rm_MT_object, rm_MT_c]; omega)⟩ rfl (Nat.le_of_ble_eq_true rfl) ⟨Nat.zero_le _, Nat.zero_le _⟩ rfl d_MT_object_177 (fun H locs hP hS => ?_)
          refine lv_bipush (v := (58:Int32)) hx hb d_MT_object_180 (by decide) ?_
          refine lv_icmp_eq (tgt := 194) hx hb d_MT_object_182 (by decide) (fun c12 => ?_) (fun c12 => ?_)
          · replace h := o_tt c12 h
            refine lv_aload_n hx hb d_MT_object_194 rfl (lv_at hl 0 rfl) ?_
            refine lv_dup hx hb d_MT_object_195 rfl ?_
            refine o_get (v := .int (MT_at q9)) C in_MT hP 48 mw_48 rfl 15 (by decide) k_7_129 rfl rfl d_MT_object_196 ?_
            refine lv_iconst (v := (1:Int32)) hx hb d_MT_object_199 (by decide) ?_
            refine lv_iadd hx hb d_MT_object_200 ?_
            refine o_put (v := .int ((MT_at q9) + (1:Int32))) (ty := .int) (w1 := (m_cw ad ca ky ty u50_rt u50_Ni u50_Np u50_No u50_Nx u50_Nf u50_Na u50_Nh u50_Nq u50_Nj u50_M0 (MT_mk (MT_text q9) (MT_kind q9) (MT_place q9) (MT_many q9) (MT_parent q9) (MT_power q9) (MT_first q9) (MT_next q9) (MT_name q9) (MT_from q9) (MT_characters q9) (MT_digits q9) (MT_minus q9) (MT_values q9) (MT_letters q9) ((MT_at q9) + (1:Int32)) (MT_wrong q9) (MT_used q9) (MT_written q9) (MT_left q9)))) C in_MT t_MT t_MT_ok n_MT hP (hDD _ _ _ _ _ _ _ _ _ _ _ _) hS 48 mw_48 rfl 15 (by decide) k_7_129 rfl rfl (by decide +kernel) rfl rfl (Nat.le_of_ble_eq_true rfl) rfl d_MT_object_201 (fun H locs hP hS => ?_)
            refine lv_aload_n hx hb d_MT_object_204 rfl (lv_at hl 0 rfl) ?_
            obtain ⟨q11, hq11, h⟩ := o_bd_some h
            refine o_V (st1 := []) (w1 := (m_cw ad ca ky ty u50_rt u50_Ni u50_Np u50_No u50_Nx u50_Nf u50_Na u50_Nh u50_Nq u50_Nj u50_M0 q11)) hE.1 C (e_MT_blanks_b hE hKy l n (MT_mk (MT_text q9) (MT_kind q9) (MT_place q9) (MT_many q9) (MT_parent q9) (MT_power q9) (MT_first q9) (MT_next q9) (MT_name q9) (MT_from q9) (MT_characters q9) (MT_digits q9) (MT_minus q9) (MT_values q9) (MT_letters q9) ((MT_at q9) + (1:Int32)) (MT_wrong q9) (MT_used q9) (MT_written q9) (MT_left q9)) u50_Ni u50_Np u50_No u50_Nx u50_Nf u50_Na u50_Nh u50_Nq u50_Nj u50_M0 u50_rt hq11) hP (hDD _ _ _ _ _ _ _ _ _ _ _ _) hS hl.1 rfl mw_48 k_8_188 k_8_189 k_8_190 k_1_13 k_8_191 hv_MT_blanks rfl rfl ⟨(by dsimp only [rm_MT_object, rm_MT_blanks]; omega), (by dsimp only [rm_MT_object, rm_MT_blanks]; omega)⟩ rfl (Nat.le_of_ble_eq_true rfl) ⟨Nat.zero_le _, Nat.zero_le _⟩ rfl d_MT_object_205 (fun H locs hP hS => ?_)
            refine lv_aload_n hx hb d_MT_object_208 rfl (lv_at hl 0 rfl) ?_
            refine o_get (v := .int (MT_values q11)) C in_MT hP 48 mw_48 rfl 13 (by decide) k_7_126 rfl rfl d_MT_object_209 ?_
            refine lv_topi (fun x7_212 ex7_212 => ?_)
            replace h := o_nm_at ex7_212 h
            refine lv_istore (lv' := [(7, .int x7_212), (0, .ref (ad 48)), (2, .int u50_x2), (3, .int u50_x3), (4, .int z.1), (6, .int x6_107)]) hx hb d_MT_object_212 hl (by decide) rfl (fun ls hl => ?_)
            refine lv_aload_n hx hb d_MT_object_214 rfl (lv_at hl 1 rfl) ?_
            refine lv_iload_n hx hb d_MT_object_215 rfl (lv_at hl 3 rfl) ?_
            refine lv_iload_n hx hb d_MT_object_216 rfl (lv_at hl 2 rfl) ?_
            refine lv_iconst (v := (1:Int32)) hx hb d_MT_object_217 (by decide) ?_
            refine lv_iadd hx hb d_MT_object_218 ?_
            obtain ⟨q12, hq12, h⟩ := o_bd_some h
            refine o_V (st1 := [.int q12.1]) (w1 := (m_cw ad ca ky ty u50_rt u50_Ni u50_Np u50_No u50_Nx u50_Nf u50_Na u50_Nh u50_Nq u50_Nj u50_M0 q12.2)) hE.1 C (hrec u50_x3 (u50_x2 + (1:Int32)) q11 u50_Ni u50_Np u50_No u50_Nx u50_Nf u50_Na u50_Nh u50_Nq u50_Nj u50_M0 u50_rt _ hq12) hP (hDD _ _ _ _ _ _ _ _ _ _ _ _) hS hl.1 rfl mw_48 k_8_196 k_8_197 k_8_198 k_1_13 k_8_199 hv_MT_value rfl rfl ⟨(by dsimp only [rm_MT_object, rm_MT_value]; omega), (by dsimp only [rm_MT_object, rm_MT_value]; omega)⟩ rfl (Nat.le_of_ble_eq_true rfl) ⟨Nat.zero_le _, Nat.zero_le _⟩ rfl d_MT_object_219 (fun H locs hP hS => ?_)
            refine lv_if_ne (tgt := 227) hx hb d_MT_object_222 (by decide) (fun c13 => ?_) (fun c13 => ?_)
            · replace h := o_ff c13 h
              refine lv_aload_n hx hb d_MT_object_227 rfl (lv_at hl 1 rfl) ?_
              refine o_get (v := .ref (ad 57)) C in_MT hP 48 mw_48 rfl 8 (by decide) k_7_116 rfl rfl d_MT_object_228 ?_
              refine lv_iload hx hb d_MT_object_231 (lv_at hl 0 rfl) ?_
              refine lv_iload hx hb d_MT_object_233 (lv_at hl 5 rfl) ?_
              obtain ⟨g14, h⟩ := o_gd_some h
              refine o_iast (f := (MT_name q12.2)) (w1 := (m_cw ad ca ky ty u50_rt u50_Ni u50_Np u50_No u50_Nx u50_Nf u50_Na u50_Nh u50_Nq u50_Nj u50_M0 (MT_mk (MT_text q12.2) (MT_kind q12.2) (MT_place q12.2) (MT_many q12.2) (MT_parent q12.2) (MT_power q12.2) (MT_first q12.2) (MT_next q12.2) (upd (MT_name q12.2) x7_212.toNatClampNeg x6_107) (MT_from q12.2) (MT_characters q12.2) (MT_digits q12.2) (MT_minus q12.2) (MT_values q12.2) (MT_letters q12.2) (MT_at q12.2) (MT_wrong q12.2) (MT_used q12.2) (MT_written q12.2) (MT_left q12.2)))) C hP (hDD _ _ _ _ _ _ _ _ _ _ _ _) hS 57 54 mw_57 rfl g14 rfl d_MT_object_235 (fun H locs hP hS => ?_)
              refine lv_iload hx hb d_MT_object_236 (lv_at hl 4 rfl) ?_
              refine lv_if_ge (tgt := 252) hx hb d_MT_object_238 (by decide) (fun c15 => ?_) (fun c15 => ?_)
              · replace h := o_tt c15 h
                refine lv_aload_n hx hb d_MT_object_252 rfl (lv_at hl 1 rfl) ?_
                refine o_get (v := .ref (ad 56)) C in_MT hP 48 mw_48 rfl 7 (by decide) k_7_114 rfl rfl d_MT_object_253 ?_
                refine lv_iload hx hb d_MT_object_256 (lv_at hl 4 rfl) ?_
                refine lv_iload hx hb d_MT_object_258 (lv_at hl 0 rfl) ?_
                obtain ⟨g16, h⟩ := o_gd_some h
                refine o_iast (f := (MT_next q12.2)) (w1 := (m_cw ad ca ky ty u50_rt u50_Ni u50_Np u50_No u50_Nx u50_Nf u50_Na u50_Nh u50_Nq u50_Nj u50_M0 (MT_mk (MT_text q12.2) (MT_kind q12.2) (MT_place q12.2) (MT_many q12.2) (MT_parent q12.2) (MT_power q12.2) (MT_first q12.2) (upd (MT_next q12.2) z.1.toNatClampNeg x7_212) (upd (MT_name q12.2) x7_212.toNatClampNeg x6_107) (MT_from q12.2) (MT_characters q12.2) (MT_digits q12.2) (MT_minus q12.2) (MT_values q12.2) (MT_letters q12.2) (MT_at q12.2) (MT_wrong q12.2) (MT_used q12.2) (MT_written q12.2) (MT_left q12.2)))) C hP (hDD _ _ _ _ _ _ _ _ _ _ _ _) hS 56 53 mw_56 rfl g16 rfl d_MT_object_260 (fun H locs hP hS => ?_)
                exact f_MT_object_j261_b hE hKy C hDD d rec hrec n u50_x2 u50_x3 u50_Ni u50_Np u50_No u50_Nx u50_Nf u50_Na u50_Nh u50_Nq u50_Nj u50_M0 u50_rt x7_212 (MT_mk (MT_text q12.2) (MT_kind q12.2) (MT_place q12.2) (MT_many q12.2) (MT_parent q12.2) (MT_power q12.2) (MT_first q12.2) (upd (MT_next q12.2) z.1.toNatClampNeg x7_212) (upd (MT_name q12.2) x7_212.toNatClampNeg x6_107) (MT_from q12.2) (MT_characters q12.2) (MT_digits q12.2) (MT_minus q12.2) (MT_values q12.2) (MT_letters q12.2) (MT_at q12.2) (MT_wrong q12.2) (MT_used q12.2) (MT_written q12.2) (MT_left q12.2)) h h0 h1 _ _ _ hP hS (lv_sub hl [1, 2, 3, 0] rfl)
              · replace h := o_ff c15 h
                refine lv_aload_n hx hb d_MT_object_241 rfl (lv_at hl 1 rfl) ?_
                refine o_get (v := .ref (ad 55)) C in_MT hP 48 mw_48 rfl 6 (by decide) k_7_112 rfl rfl d_MT_object_242 ?_
                refine lv_iload_n hx hb d_MT_object_245 rfl (lv_at hl 3 rfl) ?_
                refine lv_iload hx hb d_MT_object_246 (lv_at hl 0 rfl) ?_
                obtain ⟨g21, h⟩ := o_gd_some h
                refine o_iast (f := (MT_first q12.2)) (w1 := (m_cw ad ca ky ty u50_rt u50_Ni u50_Np u50_No u50_Nx u50_Nf u50_Na u50_Nh u50_Nq u50_Nj u50_M0 (MT_mk (MT_text q12.2) (MT_kind q12.2) (MT_place q12.2) (MT_many q12.2) (MT_parent q12.2) (MT_power q12.2) (upd (MT_first q12.2) u50_x3.toNatClampNeg x7_212) (MT_next q12.2) (upd (MT_name q12.2) x7_212.toNatClampNeg x6_107) (MT_from q12.2) (MT_characters q12.2) (MT_digits q12.2) (MT_minus q12.2) (MT_values q12.2) (MT_letters q12.2) (MT_at q12.2) (MT_wrong q12.2) (MT_used q12.2) (MT_written q12.2) (MT_left q12.2)))) C hP (hDD _ _ _ _ _ _ _ _ _ _ _ _) hS 55 52 mw_55 rfl g21 rfl d_MT_object_248 (fun H locs hP hS => ?_)
                refine lv_goto (tgt := 261) hx hb d_MT_object_249 (by decide) ?_
                exact f_MT_object_j261_b hE hKy C hDD d rec hrec n u50_x2 u50_x3 u50_Ni u50_Np u50_No u50_Nx u50_Nf u50_Na u50_Nh u50_Nq u50_Nj u50_M0 u50_rt x7_212 (MT_mk (MT_text q12.2) (MT_kind q12.2) (MT_place q12.2) (MT_many q12.2) (MT_parent q12.2) (MT_power q12.2) (upd (MT_first q12.2) u50_x3.toNatClampNeg x7_212) (MT_next q12.2) (upd (MT_name q12.2) x7_212.toNatClampNeg x6_107) (MT_from q12.2) (MT_characters q12.2) (MT_digits q12.2) (MT_minus q12.2) (MT_values q12.2) (MT_letters q12.2) (MT_at q12.2) (MT_wrong q12.2) (MT_used q12.2) (MT_written q12.2) (MT_left q12.2)) h h0 h1 _ _ _ hP hS (lv_sub hl [1, 2, 3, 0] rfl)
            · replace h := o_tt c13 h
              cases h
              exact h1 (Nat.succ_ne_zero 4) _ _ _ hP hS (lv_sub hl [] rfl)
          · replace h := o_ff c12 h
            cases h
            exact h1 (Nat.succ_ne_zero 3) _ _ _ hP hS (lv_sub hl [0] rfl)
        · replace h := o_tt c6 h
          cases h
          exact h1 (Nat.succ_ne_zero 1) _ _ _ hP hS (lv_sub hl [] rfl)
      · replace h := o_tt c5 h
        cases h
        exact h1 (Nat.succ_ne_zero 0) _ _ _ hP hS (lv_sub hl [0] rfl)
set_option maxHeartbeats 4000000 in
set_option maxRecDepth 100000 in
theorem f_MT_object_j88_b {E : (Nat → Prop) → State → Heap → Prop} {p : Program} {l : Launch} {e : Env} {s : State} {m : MethodId} {args : Array Value} {below : List Frame} {meth : Method} {c : Code} {D : va_G} {ad kd sd vd xd : Nat → Nat} {ca : Nat → ClassId} {A : Nat → Prop} {ky ty : Nat → Option Nat} (hE : o_EK E kd sd vd xd) (hKy : m_KY ky ty sd) (C : o_Cx E p s m args meth c D m_cls (m_tys ca) "SchemaJudgeModel$Text" b_MT_object (some .boolean) 8 cc_MT_object A) (hDD : ∀ (rt : Nat) (Ni : SNI) (Np : SNP) (No : SNO) (Nx : SNX) (Nf : SNF) (Na : SNA) (Nh : SNH) (Nq : SNQ) (Nj : SNJ) (M0 : SMT) (M1 : SMT), va_D A (m_cw ad ca ky ty rt Ni Np No Nx Nf Na Nh Nq Nj M0 M1)) (d : Nat) (rec : Int32 → Int32 → SMT → Option (Int32 × SMT)) (hrec : ∀ (x1 : Int32) (x2 : Int32) (a0 : SMT) (Ni : SNI) (Np : SNP) (No : SNO) (Nx : SNX) (Nf : SNF) (Na : SNA) (Nh : SNH) (Nq : SNQ) (Nj : SNJ) (M0 : SMT) (rt : Nat) (r : Int32 × SMT), rec x1 x2 a0 = some r → o_Cn E l D m_cls (m_tys ca) y_MT_value cc_MT_value (rm_MT_value d) [.ref (ad 48), .int x1, .int x2] (m_cw ad ca ky ty rt Ni Np No Nx Nf Na Nh Nq Nj M0 a0) (m_cw ad ca ky ty rt Ni Np No Nx Nf Na Nh Nq Nj M0 r.2) (some (.int r.1))) (n : Nat)  (a0 : SMT) (Ni : SNI) (Np : SNP) (No : SNO) (Nx : SNX) (Nf : SNF) (Na : SNA) (Nh : SNH) (Nq : SNQ) (Nj : SNJ) (M0 : SMT) (rt : Nat) {r : Int32 × SMT} (h : m_MT_object_j88 n rec a0 = some r) : o_At p l e (rm_MT_object d) s m args below meth c (MQ below (o_Qx D m_cls (some (.int r.1)) (m_cw ad ca ky ty rt Ni Np No Nx Nf Na Nh Nq Nj M0 r.2) A) args s 0 0 A) m_cls D A 8 88 [] (m_cw ad ca ky ty rt Ni Np No Nx Nf Na Nh Nq Nj M0 a0) [(0, .ref (ad 48))] := by
  unfold m_MT_object_j88 at h
  intro H locs ls hP hS hl
  have C0 := C
  obtain ⟨hx, hb, -, -, -, hown, hts, hK, -, -⟩ := C0
  refine lv_aload_n hx hb d_MT_object_88 rfl (lv_at hl 0 rfl) ?_
  refine lv_aload_n hx hb d_MT_object_89 rfl (lv_at hl 0 rfl) ?_
  refine o_get (v := .int (MT_at a0)) C in_MT hP 48 mw_48 rfl 15 (by decide) k_7_129 rfl rfl d_MT_object_90 ?_
  obtain ⟨q17, hq17, h⟩ := o_bd_some h
  refine o_V (st1 := [.int q17.1]) (w1 := (m_cw ad ca ky ty rt Ni Np No Nx Nf Na Nh Nq Nj M0 q17.2)) hE.1 C (e_MT_bad_b hE hKy l (MT_at a0) a0 Ni Np No Nx Nf Na Nh Nq Nj M0 rt hq17) hP (hDD _ _ _ _ _ _ _ _ _ _ _ _) hS hl.1 rfl mw_48 k_8_203 k_8_204 k_8_205 k_1_13 k_8_206 hv_MT_bad rfl rfl ⟨(by dsimp only [rm_MT_object, rm_MT_bad]; omega), (by dsimp only [rm_MT_object, rm_MT_bad]; omega)⟩ rfl (Nat.le_of_ble_eq_true rfl) ⟨Nat.zero_le _, Nat.zero_le _⟩ rfl d_MT_object_93 (fun H locs hP hS => ?_)
  obtain ⟨g23, h⟩ := o_gd_some h
  cases h
  exact o_rz C (o_zb_nar g23) hP hS d_MT_object_96
set_option maxHeartbeats 4000000 in
set_option maxRecDepth 100000 in
theorem e_MT_object_b {E : (Nat → Prop) → State → Heap → Prop} {D : va_G} {ad kd sd vd xd : Nat → Nat} {ca : Nat → ClassId} {ky ty : Nat → Option Nat} (hE : o_EK E kd sd vd xd) (hKy : m_KY ky ty sd) (l : Launch) (n : Nat) (d : Nat) (rec : Int32 → Int32 → SMT → Option (Int32 × SMT)) (hrec : ∀ (x1 : Int32) (x2 : Int32) (a0 : SMT) (Ni : SNI) (Np : SNP) (No : SNO) (Nx : SNX) (Nf : SNF) (Na : SNA) (Nh : SNH) (Nq : SNQ) (Nj : SNJ) (M0 : SMT) (rt : Nat) (r : Int32 × SMT), rec x1 x2 a0 = some r → o_Cn E l D m_cls (m_tys ca) y_MT_value cc_MT_value (rm_MT_value d) [.ref (ad 48), .int x1, .int x2] (m_cw ad ca ky ty rt Ni Np No Nx Nf Na Nh Nq Nj M0 a0) (m_cw ad ca ky ty rt Ni Np No Nx Nf Na Nh Nq Nj M0 r.2) (some (.int r.1))) (x1 : Int32) (x2 : Int32) (a0 : SMT) (Ni : SNI) (Np : SNP) (No : SNO) (Nx : SNX) (Nf : SNF) (Na : SNA) (Nh : SNH) (Nq : SNQ) (Nj : SNJ) (M0 : SMT) (rt : Nat) {r : Int32 × SMT} (h : m_MT_object n rec x1 x2 a0 = some r) : o_Cn E l D m_cls (m_tys ca) y_MT_object cc_MT_object (rm_MT_object d) [.ref (ad 48), .int x1, .int x2] (m_cw ad ca ky ty rt Ni Np No Nx Nf Na Nh Nq Nj M0 a0) (m_cw ad ca ky ty rt Ni Np No Nx Nf Na Nh Nq Nj M0 r.2) (some (.int r.1)) := by
  refine o_Cn_of (by decide) (Nat.le_of_ble_eq_true rfl) ?_
  intro p e s m below meth c A ls C hD hP hS hl
  have hDD : ∀ (rt : Nat) (Ni : SNI) (Np : SNP) (No : SNO) (Nx : SNX) (Nf : SNF) (Na : SNA) (Nh : SNH) (Nq : SNQ) (Nj : SNJ) (M0 : SMT) (M1 : SMT), va_D A (m_cw ad ca ky ty rt Ni Np No Nx Nf Na Nh Nq Nj M0 M1) := fun _ _ _ _ _ _ _ _ _ _ _ _ => o_D_map hD rfl
  have hl : lv_has ls 8 [(0, .ref (ad 48)), (1, .int x1), (2, .int x2)] := hl
  unfold m_MT_object at h
  have C0 := C
  obtain ⟨hx, hb, -, -, -, hown, hts, hK, -, -⟩ := C0
  refine lv_aload_n hx hb d_MT_object_0 rfl (lv_at hl 0 rfl) ?_
  refine lv_iload_n hx hb d_MT_object_1 rfl (lv_at hl 1 rfl) ?_
  refine lv_bipush (v := (6:Int32)) hx hb d_MT_object_2 (by decide) ?_
  obtain ⟨q1, hq1, h⟩ := o_bd_some h
  refine o_V (st1 := [.int q1.1]) (w1 := (m_cw ad ca ky ty rt Ni Np No Nx Nf Na Nh Nq Nj M0 q1.2)) hE.1 C (e_MT_fresh_b hE hKy l x1 (6:Int32) a0 Ni Np No Nx Nf Na Nh Nq Nj M0 rt hq1) hP (hDD _ _ _ _ _ _ _ _ _ _ _ _) hS hl.1 rfl mw_48 k_8_212 k_8_213 k_8_214 k_1_13 k_8_215 hv_MT_fresh rfl rfl ⟨(by dsimp only [rm_MT_object, rm_MT_fresh]; omega), (by dsimp only [rm_MT_object, rm_MT_fresh]; omega)⟩ rfl (Nat.le_of_ble_eq_true rfl) ⟨Nat.zero_le _, Nat.zero_le _⟩ rfl d_MT_object_4 (fun H locs hP hS => ?_)
  refine lv_istore_n (lv' := [(3, .int q1.1), (0, .ref (ad 48)), (1, .int x1), (2, .int x2)]) hx hb d_MT_object_7 rfl hl (by decide) rfl (fun ls hl => ?_)
  refine lv_iconst (v := (-1:Int32)) hx hb d_MT_object_8 (by decide) ?_
  refine lv_istore (lv' := [(4, .int (-1:Int32)), (3, .int q1.1), (0, .ref (ad 48)), (1, .int x1), (2, .int x2)]) hx hb d_MT_object_9 hl (by decide) rfl (fun ls hl => ?_)
  refine lv_aload_n hx hb d_MT_object_11 rfl (lv_at hl 2 rfl) ?_
  refine lv_dup hx hb d_MT_object_12 rfl ?_
  refine o_get (v := .int (MT_at q1.2)) C in_MT hP 48 mw_48 rfl 15 (by decide) k_7_129 rfl rfl d_MT_object_13 ?_
  refine lv_iconst (v := (1:Int32)) hx hb d_MT_object_16 (by decide) ?_
  refine lv_iadd hx hb d_MT_object_17 ?_
  refine o_put (v := .int ((MT_at q1.2) + (1:Int32))) (ty := .int) (w1 := (m_cw ad ca ky ty rt Ni Np No Nx Nf Na Nh Nq Nj M0 (MT_mk (MT_text q1.2) (MT_kind q1.2) (MT_place q1.2) (MT_many q1.2) (MT_parent q1.2) (MT_power q1.2) (MT_first q1.2) (MT_next q1.2) (MT_name q1.2) (MT_from q1.2) (MT_characters q1.2) (MT_digits q1.2) (MT_minus q1.2) (MT_values q1.2) (MT_letters q1.2) ((MT_at q1.2) + (1:Int32)) (MT_wrong q1.2) (MT_used q1.2) (MT_written q1.2) (MT_left q1.2)))) C in_MT t_MT t_MT_ok n_MT hP (hDD _ _ _ _ _ _ _ _ _ _ _ _) hS 48 mw_48 rfl 15 (by decide) k_7_129 rfl rfl (by decide +kernel) rfl rfl (Nat.le_of_ble_eq_true rfl) rfl d_MT_object_18 (fun H locs hP hS => ?_)
  refine lv_aload_n hx hb d_MT_object_21 rfl (lv_at hl 2 rfl) ?_
  obtain ⟨q2, hq2, h⟩ := o_bd_some h
  refine o_V (st1 := []) (w1 := (m_cw ad ca ky ty rt Ni Np No Nx Nf Na Nh Nq Nj M0 q2)) hE.1 C (e_MT_blanks_b hE hKy l n (MT_mk (MT_text q1.2) (MT_kind q1.2) (MT_place q1.2) (MT_many q1.2) (MT_parent q1.2) (MT_power q1.2) (MT_first q1.2) (MT_next q1.2) (MT_name q1.2) (MT_from q1.2) (MT_characters q1.2) (MT_digits q1.2) (MT_minus q1.2) (MT_values q1.2) (MT_letters q1.2) ((MT_at q1.2) + (1:Int32)) (MT_wrong q1.2) (MT_used q1.2) (MT_written q1.2) (MT_left q1.2)) Ni Np No Nx Nf Na Nh Nq Nj M0 rt hq2) hP (hDD _ _ _ _ _ _ _ _ _ _ _ _) hS hl.1 rfl mw_48 k_8_188 k_8_189 k_8_190 k_1_13 k_8_191 hv_MT_blanks rfl rfl ⟨(by dsimp only [rm_MT_object, rm_MT_blanks]; omega), (by dsimp only [rm_MT_object, rm_MT_blanks]; omega)⟩ rfl (Nat.le_of_ble_eq_true rfl) ⟨Nat.zero_le _, Nat.zero_le _⟩ rfl d_MT_object_22 (fun H locs hP hS => ?_)
  refine lv_aload_n hx hb d_MT_object_25 rfl (lv_at hl 2 rfl) ?_
  refine lv_aload_n hx hb d_MT_object_26 rfl (lv_at hl 2 rfl) ?_
  refine o_get (v := .int (MT_at q2)) C in_MT hP 48 mw_48 rfl 15 (by decide) k_7_129 rfl rfl d_MT_object_27 ?_
  obtain ⟨q3, hq3, h⟩ := o_bd_some h
  refine o_V (st1 := [.int q3]) (w1 := (m_cw ad ca ky ty rt Ni Np No Nx Nf Na Nh Nq Nj M0 q2)) hE.1 C (e_MT_c_b hE hKy l (MT_at q2) q2 Ni Np No Nx Nf Na Nh Nq Nj M0 rt hq3) hP (hDD _ _ _ _ _ _ _ _ _ _ _ _) hS hl.1 rfl mw_48 k_8_192 k_8_193 k_8_194 k_1_13 k_8_195 hv_MT_c rfl rfl ⟨(by dsimp only [rm_MT_object, rm_MT_c]; omega), (by dsimp only [rm_MT_object, rm_MT_c]; omega)⟩ rfl (Nat.le_of_ble_eq_true rfl) ⟨Nat.zero_le _, Nat.zero_le _⟩ rfl d_MT_object_30 (fun H locs hP hS => ?_)
  refine lv_bipush (v := (125:Int32)) hx hb d_MT_object_33 (by decide) ?_
  refine lv_icmp_ne (tgt := 50) hx hb d_MT_object_35 (by decide) (fun c1 => ?_) (fun c1 => ?_)
  · replace h := o_ff c1 h
    obtain ⟨q16, hq16, h⟩ := o_bd_some h
    refine o_sim2 (AH := fun zz => o_At p l e (rm_MT_object d) s m _ below meth c _ m_cls D A 8 50 [] (m_cw ad ca ky ty rt Ni Np No Nx Nf Na Nh Nq Nj M0 zz.2.2) [(0, .ref (ad 48)), (2, .int x2), (3, .int q1.1), (4, .int zz.1)]) (AX := fun qq => if qq.1 = 1 then o_At p l e (rm_MT_object d) s m _ below meth c _ m_cls D A 8 88 [] (m_cw ad ca ky ty rt Ni Np No Nx Nf Na Nh Nq Nj M0 qq.2.2.2) [(0, .ref (ad 48))] else if qq.1 = 2 then o_At p l e (rm_MT_object d) s m _ below meth c _ m_cls D A 8 117 [] (m_cw ad ca ky ty rt Ni Np No Nx Nf Na Nh Nq Nj M0 qq.2.2.2) [] else if qq.1 = 3 then o_At p l e (rm_MT_object d) s m _ below meth c _ m_cls D A 8 149 [] (m_cw ad ca ky ty rt Ni Np No Nx Nf Na Nh Nq Nj M0 qq.2.2.2) [(0, .ref (ad 48)), (5, .int qq.2.2.1)] else if qq.1 = 4 then o_At p l e (rm_MT_object d) s m _ below meth c _ m_cls D A 8 185 [] (m_cw ad ca ky ty rt Ni Np No Nx Nf Na Nh Nq Nj M0 qq.2.2.2) [(0, .ref (ad 48))] else if qq.1 = 5 then o_At p l e (rm_MT_object d) s m _ below meth c _ m_cls D A 8 225 [] (m_cw ad ca ky ty rt Ni Np No Nx Nf Na Nh Nq Nj M0 qq.2.2.2) [] else if qq.1 = 6 then o_At p l e (rm_MT_object d) s m _ below meth c _ m_cls D A 8 292 [] (m_cw ad ca ky ty rt Ni Np No Nx Nf Na Nh Nq Nj M0 qq.2.2.2) [(0, .ref (ad 48))] else o_At p l e (rm_MT_object d) s m _ below meth c _ m_cls D A 8 317 [] (m_cw ad ca ky ty rt Ni Np No Nx Nf Na Nh Nq Nj M0 qq.2.2.2) [(0, .ref (ad 48))]) (fun zz qq h h0 h1 => f_MT_object_b50_b hE hKy C hDD d rec hrec n x2 q1.1 Ni Np No Nx Nf Na Nh Nq Nj M0 rt zz qq h h0 h1) n _ q16 hq16 ?_ _ _ _ hP hS (lv_sub hl [2, 4, 1, 0] rfl)
    by_cases c27 : q16.1 = 1
    · replace h := o_tt c27 h
      refine o_ip c27 ?_
      intro H locs ls hP hS hl
      exact f_MT_object_j88_b hE hKy C hDD d rec hrec n q16.2.2.2 Ni Np No Nx Nf Na Nh Nq Nj M0 rt h _ _ _ hP hS (lv_sub hl [0] rfl)
    replace h := o_ff c27 h
    refine o_in_ c27 ?_
    by_cases c28 : q16.1 = 2
    · replace h := o_tt c28 h
      refine o_ip c28 ?_
      intro H locs ls hP hS hl
      refine lv_iconst (v := (0:Int32)) hx hb d_MT_object_117 (by decide) ?_
      cases h
      exact o_rz (v := (0:Int32)) C o_nar0 hP hS d_MT_object_118
    replace h := o_ff c28 h
    refine o_in_ c28 ?_
    by_cases c29 : q16.1 = 3
    · replace h := o_tt c29 h
      refine o_ip c29 ?_
      intro H locs ls hP hS hl
      refine lv_aload_n hx hb d_MT_object_149 rfl (lv_at hl 0 rfl) ?_
      refine lv_iload hx hb d_MT_object_150 (lv_at hl 1 rfl) ?_
      obtain ⟨q18, hq18, h⟩ := o_bd_some h
      refine o_V (st1 := [.int q18.1]) (w1 := (m_cw ad ca ky ty rt Ni Np No Nx Nf Na Nh Nq Nj M0 q18.2)) hE.1 C (e_MT_bad_b hE hKy l q16.2.2.1 q16.2.2.2 Ni Np No Nx Nf Na Nh Nq Nj M0 rt hq18) hP (hDD _ _ _ _ _ _ _ _ _ _ _ _) hS hl.1 rfl mw_48 k_8_203 k_8_204 k_8_205 k_1_13 k_8_206 hv_MT_bad rfl rfl ⟨(by dsimp only [rm_MT_object, rm_MT_bad]; omega), (by dsimp only [rm_MT_object, rm_MT_bad]; omega)⟩ rfl (Nat.le_of_ble_eq_true rfl) ⟨Nat.zero_le _, Nat.zero_le _⟩ rfl d_MT_object_152 (fun H locs hP hS => ?_)
      obtain ⟨g24, h⟩ := o_gd_some h
      cases h
      exact o_rz C (o_zb_nar g24) hP hS d_MT_object_155
    replace h := o_ff c29 h
    refine o_in_ c29 ?_
    by_cases c30 : q16.1 = 4
    · replace h := o_tt c30 h
      refine o_ip c30 ?_
      intro H locs ls hP hS hl
      refine lv_aload_n hx hb d_MT_object_185 rfl (lv_at hl 0 rfl) ?_
      refine lv_aload_n hx hb d_MT_object_186 rfl (lv_at hl 0 rfl) ?_
      refine o_get (v := .int (MT_at q16.2.2.2)) C in_MT hP 48 mw_48 rfl 15 (by decide) k_7_129 rfl rfl d_MT_object_187 ?_
      obtain ⟨q19, hq19, h⟩ := o_bd_some h
      refine o_V (st1 := [.int q19.1]) (w1 := (m_cw ad ca ky ty rt Ni Np No Nx Nf Na Nh Nq Nj M0 q19.2)) hE.1 C (e_MT_bad_b hE hKy l (MT_at q16.2.2.2) q16.2.2.2 Ni Np No Nx Nf Na Nh Nq Nj M0 rt hq19) hP (hDD _ _ _ _ _ _ _ _ _ _ _ _) hS hl.1 rfl mw_48 k_8_203 k_8_204 k_8_205 k_1_13 k_8_206 hv_MT_bad rfl rfl ⟨(by dsimp only [rm_MT_object, rm_MT_bad]; omega), (by dsimp only [rm_MT_object, rm_MT_bad]; omega)⟩ rfl (Nat.le_of_ble_eq_true rfl) ⟨Nat.zero_le _, Nat.zero_le _⟩ rfl d_MT_object_190 (fun H locs hP hS => ?_)
      obtain ⟨g25, h⟩ := o_gd_some h
      cases h
      exact o_rz C (o_zb_nar g25) hP hS d_MT_object_193
    replace h := o_ff c30 h
    refine o_in_ c30 ?_
    by_cases c31 : q16.1 = 5
    · replace h := o_tt c31 h
      refine o_ip c31 ?_
      intro H locs ls hP hS hl
      refine lv_iconst (v := (0:Int32)) hx hb d_MT_object_225 (by decide) ?_
      cases h
      exact o_rz (v := (0:Int32)) C o_nar0 hP hS d_MT_object_226
    replace h := o_ff c31 h
    refine o_in_ c31 ?_
    by_cases c32 : q16.1 = 6
    · replace h := o_tt c32 h
      refine o_ip c32 ?_
      intro H locs ls hP hS hl
      refine lv_aload_n hx hb d_MT_object_292 rfl (lv_at hl 0 rfl) ?_
      refine lv_dup hx hb d_MT_object_293 rfl ?_
      refine o_get (v := .int (MT_at q16.2.2.2)) C in_MT hP 48 mw_48 rfl 15 (by decide) k_7_129 rfl rfl d_MT_object_294 ?_
      refine lv_iconst (v := (1:Int32)) hx hb d_MT_object_297 (by decide) ?_
      refine lv_iadd hx hb d_MT_object_298 ?_
      refine o_put (v := .int ((MT_at q16.2.2.2) + (1:Int32))) (ty := .int) (w1 := (m_cw ad ca ky ty rt Ni Np No Nx Nf Na Nh Nq Nj M0 (MT_mk (MT_text q16.2.2.2) (MT_kind q16.2.2.2) (MT_place q16.2.2.2) (MT_many q16.2.2.2) (MT_parent q16.2.2.2) (MT_power q16.2.2.2) (MT_first q16.2.2.2) (MT_next q16.2.2.2) (MT_name q16.2.2.2) (MT_from q16.2.2.2) (MT_characters q16.2.2.2) (MT_digits q16.2.2.2) (MT_minus q16.2.2.2) (MT_values q16.2.2.2) (MT_letters q16.2.2.2) ((MT_at q16.2.2.2) + (1:Int32)) (MT_wrong q16.2.2.2) (MT_used q16.2.2.2) (MT_written q16.2.2.2) (MT_left q16.2.2.2)))) C in_MT t_MT t_MT_ok n_MT hP (hDD _ _ _ _ _ _ _ _ _ _ _ _) hS 48 mw_48 rfl 15 (by decide) k_7_129 rfl rfl (by decide +kernel) rfl rfl (Nat.le_of_ble_eq_true rfl) rfl d_MT_object_299 (fun H locs hP hS => ?_)
      refine lv_iconst (v := (1:Int32)) hx hb d_MT_object_302 (by decide) ?_
      cases h
      exact o_rz (v := (1:Int32)) C o_nar1 hP hS d_MT_object_303
    replace h := o_ff c32 h
    refine o_in_ c32 ?_
    intro H locs ls hP hS hl
    refine lv_aload_n hx hb d_MT_object_317 rfl (lv_at hl 0 rfl) ?_
    refine lv_aload_n hx hb d_MT_object_318 rfl (lv_at hl 0 rfl) ?_
    refine o_get (v := .int (MT_at q16.2.2.2)) C in_MT hP 48 mw_48 rfl 15 (by decide) k_7_129 rfl rfl d_MT_object_319 ?_
    obtain ⟨q20, hq20, h⟩ := o_bd_some h
    refine o_V (st1 := [.int q20.1]) (w1 := (m_cw ad ca ky ty rt Ni Np No Nx Nf Na Nh Nq Nj M0 q20.2)) hE.1 C (e_MT_bad_b hE hKy l (MT_at q16.2.2.2) q16.2.2.2 Ni Np No Nx Nf Na Nh Nq Nj M0 rt hq20) hP (hDD _ _ _ _ _ _ _ _ _ _ _ _) hS hl.1 rfl mw_48 k_8_203 k_8_204 k_8_205 k_1_13 k_8_206 hv_MT_bad rfl rfl ⟨(by dsimp only [rm_MT_object, rm_MT_bad]; omega), (by dsimp only [rm_MT_object, rm_MT_bad]; omega)⟩ rfl (Nat.le_of_ble_eq_true rfl) ⟨Nat.zero_le _, Nat.zero_le _⟩ rfl d_MT_object_322 (fun H locs hP hS => ?_)
    obtain ⟨g26, h⟩ := o_gd_some h
    cases h
    exact o_rz C (o_zb_nar g26) hP hS d_MT_object_325
  · replace h := o_tt c1 h
    refine lv_aload_n hx hb d_MT_object_38 rfl (lv_at hl 2 rfl) ?_
    refine lv_dup hx hb d_MT_object_39 rfl ?_
    refine o_get (v := .int (MT_at q2)) C in_MT hP 48 mw_48 rfl 15 (by decide) k_7_129 rfl rfl d_MT_object_40 ?_
    refine lv_iconst (v := (1:Int32)) hx hb d_MT_object_43 (by decide) ?_
    refine lv_iadd hx hb d_MT_object_44 ?_
    refine o_put (v := .int ((MT_at q2) + (1:Int32))) (ty := .int) (w1 := (m_cw ad ca ky ty rt Ni Np No Nx Nf Na Nh Nq Nj M0 (MT_mk (MT_text q2) (MT_kind q2) (MT_place q2) (MT_many q2) (MT_parent q2) (MT_power q2) (MT_first q2) (MT_next q2) (MT_name q2) (MT_from q2) (MT_characters q2) (MT_digits q2) (MT_minus q2) (MT_values q2) (MT_letters q2) ((MT_at q2) + (1:Int32)) (MT_wrong q2) (MT_used q2) (MT_written q2) (MT_left q2)))) C in_MT t_MT t_MT_ok n_MT hP (hDD _ _ _ _ _ _ _ _ _ _ _ _) hS 48 mw_48 rfl 15 (by decide) k_7_129 rfl rfl (by decide +kernel) rfl rfl (Nat.le_of_ble_eq_true rfl) rfl d_MT_object_45 (fun H locs hP hS => ?_)
    refine lv_iconst (v := (1:Int32)) hx hb d_MT_object_48 (by decide) ?_
    cases h
    exact o_rz (v := (1:Int32)) C o_nar1 hP hS d_MT_object_49
set_option maxHeartbeats 4000000 in
set_option maxRecDepth 100000 in
theorem f_MT_array_j131_a {E : (Nat → Prop) → State → Heap → Prop} {p : Program} {l : Launch} {e : Env} {s : State} {m : MethodId} {args : Array Value} {below : List Frame} {meth : Method} {c : Code} {D : va_G} {ad kd sd vd xd : Nat → Nat} {ca : Nat → ClassId} {A : Nat → Prop} {ky ty : Nat → Option Nat} {Q : State → Prop} (hE : o_EK E kd sd vd xd) (hKy : m_KY ky ty sd) (C : o_Cx E p s m args meth c D m_cls (m_tys ca) "SchemaJudgeModel$Text" b_MT_array (some .boolean) 6 cc_MT_array A) (hDD : ∀ (rt : Nat) (Ni : SNI) (Np : SNP) (No : SNO) (Nx : SNX) (Nf : SNF) (Na : SNA) (Nh : SNH) (Nq : SNQ) (Nj : SNJ) (M0 : SMT) (M1 : SMT), va_D A (m_cw ad ca ky ty rt Ni Np No Nx Nf Na Nh Nq Nj M0 M1)) (d : Nat) (rec : Int32 → Int32 → SMT → Option (Int32 × SMT)) (hrec : ∀ (x1 : Int32) (x2 : Int32) (a0 : SMT) (Ni : SNI) (Np : SNP) (No : SNO) (Nx : SNX) (Nf : SNF) (Na : SNA) (Nh : SNH) (Nq : SNQ) (Nj : SNJ) (M1 : SMT) (rt : Nat) (r : Int32 × SMT), rec x1 x2 a0 = some r → o_Cn E l D m_cls (m_tys ca) y_MT_value cc_MT_value (rm_MT_value d) [.ref (ad 33), .int x1, .int x2] (m_cw ad ca ky ty rt Ni Np No Nx Nf Na Nh Nq Nj a0 M1) (m_cw ad ca ky ty rt Ni Np No Nx Nf Na Nh Nq Nj r.2 M1) (some (.int r.1))) (n : Nat) (u49_x2 : Int32) (u49_x3 : Int32) (u49_Ni : SNI) (u49_Np : SNP) (u49_No : SNO) (u49_Nx : SNX) (u49_Nf : SNF) (u49_Na : SNA) (u49_Nh : SNH) (u49_Nq : SNQ) (u49_Nj : SNJ) (u49_M1 : SMT) (u49_rt : Nat) (x5 : Int32) (a0 : SMT) {q : Nat × Int32 × SMT} (h : m_MT_array_j131 n rec u49_x2 u49_x3 x5 a0 = some q) (h0 : q.1 = 0 → o_At p l e (rm_MT_array d) s m args below meth c Q m_cls D A 6 49 [] (m_cw ad ca ky ty u49_rt u49_Ni u49_Np u49_No u49_Nx u49_Nf u49_Na u49_Nh u49_Nq u49_Nj q.2.2 u49_M1) [(0, .ref (ad 33)), (2, .int u49_x2), (3, .int u49_x3), (4, .int q.2.1)]) (h1 : q.1 ≠ 0 → (if q.1 = 1 then o_At p l e (rm_MT_array d) s m args below meth c Q m_cls D A 6 78 [] (m_cw ad ca ky ty u49_rt u49_Ni u49_Np u49_No u49_Nx u49_Nf u49_Na u49_Nh u49_Nq u49_Nj q.2.2 u49_M1) [(0, .ref (ad 33))] else if q.1 = 2 then o_At p l e (rm_MT_array d) s m args below meth c Q m_cls D A 6 104 [] (m_cw ad ca ky ty u49_rt u49_Ni u49_Np u49_No u49_Nx u49_Nf u49_Na u49_Nh u49_Nq u49_Nj q.2.2 u49_M1) [] else if q.1 = 3 then o_At p l e (rm_MT_array d) s m args below meth c Q m_cls D A 6 162 [] (m_cw ad ca ky ty u49_rt u49_Ni u49_Np u49_No u49_Nx u49_Nf u49_Na u49_Nh u49_Nq u49_Nj q.2.2 u49_M1) [(0, .ref (ad 33))] else o_At p l e (rm_MT_array d) s m args below meth c Q m_cls D A 6 187 [] (m_cw ad ca ky ty u49_rt u49_Ni u49_Np u49_No u49_Nx u49_Nf u49_Na u49_Nh u49_Nq u49_Nj q.2.2 u49_M1) [(0, .ref (ad 33))])) : o_At p l e (rm_MT_array d) s m args below meth c Q m_cls D A 6 131 [] (m_cw ad ca ky ty u49_rt u49_Ni u49_Np u49_No u49_Nx u49_Nf u49_Na u49_Nh u49_Nq u49_Nj a0 u49_M1) [(0, .ref (ad 33)), (2, .int u49_x2), (3, .int u49_x3), (5, .int x5)] := by
  unfold m_MT_array_j131 at h
  intro H locs ls hP hS hl
  have C0 := C
  obtain ⟨hx, hb, -, -, -, hown, hts, hK, -, -⟩ := C0
  refine lv_iload hx hb d_MT_array_131 (lv_at hl 3 rfl) ?_
  refine lv_istore (lv' := [(4, .int x5), (0, .ref (ad 33)), (2, .int u49_x2), (3, .int u49_x3), (5, .int x5)]) hx hb d_MT_array_133 hl (by decide) rfl (fun ls hl => ?_)
  refine lv_aload_n hx hb d_MT_array_135 rfl (lv_at hl 1 rfl) ?_
  refine o_get (v := .ref (ad 37)) C in_MT hP 33 mw_33 rfl 3 (by decide) k_7_106 rfl rfl d_MT_array_136 ?_
  refine lv_iload_n hx hb d_MT_array_139 rfl (lv_at hl 3 rfl) ?_
  refine lv_dup2_11 hx hb d_MT_array_140 rfl rfl ?_
  obtain ⟨g7, h⟩ := o_gd_some h
  refine o_iald (f := (MT_many a0)) C hP 37 35 mw_37 rfl g7 d_MT_array_141 ?_
  refine lv_iconst (v := (1:Int32)) hx hb d_MT_array_142 (by decide) ?_
  refine lv_iadd hx hb d_MT_array_143 ?_
  obtain ⟨g8, h⟩ := o_gd_some h
  refine o_iast (f := (MT_many a0)) (w1 := (m_cw ad ca ky ty u49_rt u49_Ni u49_Np u49_No u49_Nx u49_Nf u49_Na u49_Nh u49_Nq u49_Nj (MT_mk (MT_text a0) (MT_kind a0) (MT_place a0) (upd (MT_many a0) u49_x3.toNatClampNeg (((MT_many a0) u49_x3.toNatClampNeg) + (1:Int32))) (MT_parent a0) (MT_power a0) (MT_first a0) (MT_next a0) (MT_name a0) (MT_from a0) (MT_characters a0) (MT_digits a0) (MT_minus a0) (MT_values a0) (MT_letters a0) (MT_at a0) (MT_wrong a0) (MT_used a0) (MT_written a0) (MT_left a0)) u49_M1)) C hP (hDD _ _ _ _ _ _ _ _ _ _ _ _) hS 37 35 mw_37 rfl g8 rfl d_MT_array_144 (fun H locs hP hS => ?_)
  refine lv_aload_n hx hb d_MT_array_145 rfl (lv_at hl 1 rfl) ?_
  obtain ⟨q6, hq6, h⟩ := o_bd_some h
  refine o_V (st1 := []) (w1 := (m_cw ad ca ky ty u49_rt u49_Ni u49_Np u49_No u49_Nx u49_Nf u49_Na u49_Nh u49_Nq u49_Nj q6 u49_M1)) hE.1 C (e_MT_blanks_a hE hKy l n (MT_mk (MT_text a0) (MT_kind a0) (MT_place a0) (upd (MT_many a0) u49_x3.toNatClampNeg (((MT_many a0) u49_x3.toNatClampNeg) + (1:Int32))) (MT_parent a0) (MT_power a0) (MT_first a0) (MT_next a0) (MT_name a0) (MT_from a0) (MT_characters a0) (MT_digits a0) (MT_minus a0) (MT_values a0) (MT_letters a0) (MT_at a0) (MT_wrong a0) (MT_used a0) (MT_written a0) (MT_left a0)) u49_Ni u49_Np u49_No u49_Nx u49_Nf u49_Na u49_Nh u49_Nq u49_Nj u49_M1 u49_rt hq6) hP (hDD _ _ _ _ _ _ _ _ _ _ _ _) hS hl.1 rfl mw_33 k_8_188 k_8_189 k_8_190 k_1_13 k_8_191 hv_MT_blanks rfl rfl ⟨(by dsimp only [rm_MT_array, rm_MT_blanks]; omega), (by dsimp only [rm_MT_array, rm_MT_blanks]; omega)⟩ rfl (Nat.le_of_ble_eq_true rfl) ⟨Nat.zero_le _, Nat.zero_le _⟩ rfl d_MT_array_146 (fun H locs hP hS => ?_)
  refine lv_aload_n hx hb d_MT_array_149 rfl (lv_at hl 1 rfl) ?_
  refine lv_aload_n hx hb d_MT_array_150 rfl (lv_at hl 1 rfl) ?_
  refine o_get (v := .int (MT_at q6)) C in_MT hP 33 mw_33 rfl 15 (by decide) k_7_129 rfl rfl d_MT_array_151 ?_
  obtain ⟨q7, hq7, h⟩ := o_bd_some h
  refine o_V (st1 := [.int q7]) (w1 := (m_cw ad ca ky ty u49_rt u49_Ni u49_Np u49_No u49_Nx u49_Nf u49_Na u49_Nh u49_Nq u49_Nj q6 u49_M1)) hE.1 C (e_MT_c_a hE hKy l (MT_at q6) q6 u49_Ni u49_Np u49_No u49_Nx u49_Nf u49_Na u49_Nh u49_Nq u49_Nj u49_M1 u49_rt hq7) hP (hDD _ _ _ _ _ _ _ _ _ _ _ _) hS hl.1 rfl mw_33 k_8_192 k_8_193 k_8_194 k_1_13 k_8_195 hv_MT_c rfl rfl ⟨(by dsimp only [rm_MT_array, rm_MT_c]; omega), (by dsimp only [rm_MT_array, rm_MT_c]; omega)⟩ rfl (Nat.le_of_ble_eq_true rfl) ⟨Nat.zero_le _, Nat.zero_le _⟩ rfl d_MT_array_154 (fun H locs hP hS => ?_)
  refine lv_bipush (v := (93:Int32)) hx hb d_MT_array_157 (by decide) ?_
  refine lv_icmp_ne (tgt := 174) hx hb d_MT_array_159 (by decide) (fun c9 => ?_) (fun c9 => ?_)
  · replace h := o_ff c9 h
    refine lv_aload_n hx hb d_MT_array_174 rfl (lv_at hl 1 rfl) ?_
    refine lv_aload_n hx hb d_MT_array_175 rfl (lv_at hl 1 rfl) ?_
    refine o_get (v := .int (MT_at q6)) C in_MT hP 33 mw_33 rfl 15 (by decide) k_7_129 rfl rfl d_MT_array_176 ?_
    obtain ⟨q8, hq8, h⟩ := o_bd_some h
    refine o_V (st1 := [.int q8]) (w1 := (m_cw ad ca ky ty u49_rt u49_Ni u49_Np u49_No u49_Nx u49_Nf u49_Na u49_Nh u49_Nq u49_Nj q6 u49_M1)) hE.1 C (e_MT_c_a hE hKy l (MT_at q6) q6 u49_Ni u49_Np u49_No u49_Nx u49_Nf u49_Na u49_Nh u49_Nq u49_Nj u49_M1 u49_rt hq8) hP (hDD _ _ _ _ _ _ _ _ _ _ _ _) hS hl.1 rfl mw_33 k_8_192 k_8_193 k_8_194 k_1_13 k_8_195 hv_MT_c rfl rfl ⟨(by dsimp only [rm_MT_array, rm_MT_c]; omega), (by dsimp only [rm_MT_array, rm_MT_c]; omega)⟩ rfl (Nat.le_of_ble_eq_true rfl) ⟨Nat.zero_le _, Nat.zero_le _⟩ rfl d_MT_array_179 (fun H locs hP hS => ?_)
    refine lv_bipush (v := (44:Int32)) hx hb d_MT_array_182 (by decide) ?_
    refine lv_icmp_eq (tgt := 196) hx hb d_MT_array_184 (by decide) (fun c10 => ?_) (fun c10 => ?_)
    · replace h := o_tt c10 h
      refine lv_aload_n hx hb d_MT_array_196 rfl (lv_at hl 1 rfl) ?_
      refine lv_dup hx hb d_MT_array_197 rfl ?_
      refine o_get (v := .int (MT_at q6)) C in_MT hP 33 mw_33 rfl 15 (by decide) k_7_129 rfl rfl d_MT_array_198 ?_
      refine lv_iconst (v := (1:Int32)) hx hb d_MT_array_201 (by decide) ?_
      refine lv_iadd hx hb d_MT_array_202 ?_
      refine o_put (v := .int ((MT_at q6) + (1:Int32))) (ty := .int) (w1 := (m_cw ad ca ky ty u49_rt u49_Ni u49_Np u49_No u49_Nx u49_Nf u49_Na u49_Nh u49_Nq u49_Nj (MT_mk (MT_text q6) (MT_kind q6) (MT_place q6) (MT_many q6) (MT_parent q6) (MT_power q6) (MT_first q6) (MT_next q6) (MT_name q6) (MT_from q6) (MT_characters q6) (MT_digits q6) (MT_minus q6) (MT_values q6) (MT_letters q6) ((MT_at q6) + (1:Int32)) (MT_wrong q6) (MT_used q6) (MT_written q6) (MT_left q6)) u49_M1)) C in_MT t_MT t_MT_ok n_MT hP (hDD _ _ _ _ _ _ _ _ _ _ _ _) hS 33 mw_33 rfl 15 (by decide) k_7_129 rfl rfl (by decide +kernel) rfl rfl (Nat.le_of_ble_eq_true rfl) rfl d_MT_array_203 (fun H locs hP hS => ?_)
      refine lv_goto (tgt := 49) hx hb d_MT_array_206 (by decide) ?_
      cases h
      exact h0 rfl _ _ _ hP hS (lv_sub hl [1, 2, 3, 0] rfl)
    · replace h := o_ff c10 h
      cases h
      exact h1 (Nat.succ_ne_zero 3) _ _ _ hP hS (lv_sub hl [1] rfl)
  · replace h := o_tt c9 h
    cases h
    exact h1 (Nat.succ_ne_zero 2) _ _ _ hP hS (lv_sub hl [1] rfl)
set_option maxHeartbeats 4000000 in
set_option maxRecDepth 100000 in
theorem f_MT_array_j87_a {E : (Nat → Prop) → State → Heap → Prop} {p : Program} {l : Launch} {e : Env} {s : State} {m : MethodId} {args : Array Value} {below : List Frame} {meth : Method} {c : Code} {D : va_G} {ad kd sd vd xd : Nat → Nat} {ca : Nat → ClassId} {A : Nat → Prop} {ky ty : Nat → Option Nat} {Q : State → Prop} (hE : o_EK E kd sd vd xd) (hKy : m_KY ky ty sd) (C : o_Cx E p s m args meth c D m_cls (m_tys ca) "SchemaJudgeModel$Text" b_MT_array (some .boolean) 6 cc_MT_array A) (hDD : ∀ (rt : Nat) (Ni : SNI) (Np : SNP) (No : SNO) (Nx : SNX) (Nf : SNF) (Na : SNA) (Nh : SNH) (Nq : SNQ) (Nj : SNJ) (M0 : SMT) (M1 : SMT), va_D A (m_cw ad ca ky ty rt Ni Np No Nx Nf Na Nh Nq Nj M0 M1)) (d : Nat) (rec : Int32 → Int32 → SMT → Option (Int32 × SMT)) (hrec : ∀ (x1 : Int32) (x2 : Int32) (a0 : SMT) (Ni : SNI) (Np : SNP) (No : SNO) (Nx : SNX) (Nf : SNF) (Na : SNA) (Nh : SNH) (Nq : SNQ) (Nj : SNJ) (M1 : SMT) (rt : Nat) (r : Int32 × SMT), rec x1 x2 a0 = some r → o_Cn E l D m_cls (m_tys ca) y_MT_value cc_MT_value (rm_MT_value d) [.ref (ad 33), .int x1, .int x2] (m_cw ad ca ky ty rt Ni Np No Nx Nf Na Nh Nq Nj a0 M1) (m_cw ad ca ky ty rt Ni Np No Nx Nf Na Nh Nq Nj r.2 M1) (some (.int r.1))) (n : Nat) (u49_x2 : Int32) (u49_x3 : Int32) (u49_Ni : SNI) (u49_Np : SNP) (u49_No : SNO) (u49_Nx : SNX) (u49_Nf : SNF) (u49_Na : SNA) (u49_Nh : SNH) (u49_Nq : SNQ) (u49_Nj : SNJ) (u49_M1 : SMT) (u49_rt : Nat) (x4 : Int32) (a0 : SMT) {q : Nat × Int32 × SMT} (h : m_MT_array_j87 n rec u49_x2 u49_x3 x4 a0 = some q) (h0 : q.1 = 0 → o_At p l e (rm_MT_array d) s m args below meth c Q m_cls D A 6 49 [] (m_cw ad ca ky ty u49_rt u49_Ni u49_Np u49_No u49_Nx u49_Nf u49_Na u49_Nh u49_Nq u49_Nj q.2.2 u49_M1) [(0, .ref (ad 33)), (2, .int u49_x2), (3, .int u49_x3), (4, .int q.2.1)]) (h1 : q.1 ≠ 0 → (if q.1 = 1 then o_At p l e (rm_MT_array d) s m args below meth c Q m_cls D A 6 78 [] (m_cw ad ca ky ty u49_rt u49_Ni u49_Np u49_No u49_Nx u49_Nf u49_Na u49_Nh u49_Nq u49_Nj q.2.2 u49_M1) [(0, .ref (ad 33))] else if q.1 = 2 then o_At p l e (rm_MT_array d) s m args below meth c Q m_cls D A 6 104 [] (m_cw ad ca ky ty u49_rt u49_Ni u49_Np u49_No u49_Nx u49_Nf u49_Na u49_Nh u49_Nq u49_Nj q.2.2 u49_M1) [] else if q.1 = 3 then o_At p l e (rm_MT_array d) s m args below meth c Q m_cls D A 6 162 [] (m_cw ad ca ky ty u49_rt u49_Ni u49_Np u49_No u49_Nx u49_Nf u49_Na u49_Nh u49_Nq u49_Nj q.2.2 u49_M1) [(0, .ref (ad 33))] else o_At p l e (rm_MT_array d) s m args below meth c Q m_cls D A 6 187 [] (m_cw ad ca ky ty u49_rt u49_Ni u49_Np u49_No u49_Nx u49_Nf u49_Na u49_Nh u49_Nq u49_Nj q.2.2 u49_M1) [(0, .ref (ad 33))])) : o_At p l e (rm_MT_array d) s m args below meth c Q m_cls D A 6 87 [] (m_cw ad ca ky ty u49_rt u49_Ni u49_Np u49_No u49_Nx u49_Nf u49_Na u49_Nh u49_Nq u49_Nj a0 u49_M1) [(0, .ref (ad 33)), (2, .int u49_x2), (3, .int u49_x3), (4, .int x4)] := by
  unfold m_MT_array_j87 at h
  intro H locs ls hP hS hl
  have C0 := C
  obtain ⟨hx, hb, -, -, -, hown, hts, hK, -, -⟩ := C0
  refine lv_aload_n hx hb d_MT_array_87 rfl (lv_at hl 0 rfl) ?_
  refine o_get (v := .int (MT_values a0)) C in_MT hP 33 mw_33 rfl 13 (by decide) k_7_126 rfl rfl d_MT_array_88 ?_
  refine lv_topi (fun x5_91 ex5_91 => ?_)
  replace h := o_nm_at ex5_91 h
  refine lv_istore (lv' := [(5, .int x5_91), (0, .ref (ad 33)), (2, .int u49_x2), (3, .int u49_x3), (4, .int x4)]) hx hb d_MT_array_91 hl (by decide) rfl (fun ls hl => ?_)
  refine lv_aload_n hx hb d_MT_array_93 rfl (lv_at hl 1 rfl) ?_
  refine lv_iload_n hx hb d_MT_array_94 rfl (lv_at hl 3 rfl) ?_
  refine lv_iload_n hx hb d_MT_array_95 rfl (lv_at hl 2 rfl) ?_
  refine lv_iconst (v := (1:Int32)) hx hb d_MT_array_96 (by decide) ?_
  refine lv_iadd hx hb d_MT_array_97 ?_
  obtain ⟨q5, hq5, h⟩ := o_bd_some h
  refine o_V (st1 := [.int q5.1]) (w1 := (m_cw ad ca ky ty u49_rt u49_Ni u49_Np u49_No u49_Nx u49_Nf u49_Na u49_Nh u49_Nq u49_Nj q5.2 u49_M1)) hE.1 C (hrec u49_x3 (u49_x2 + (1:Int32)) a0 u49_Ni u49_Np u49_No u49_Nx u49_Nf u49_Na u49_Nh u49_Nq u49_Nj u49_M1 u49_rt _ hq5) hP (hDD _ _ _ _ _ _ _ _ _ _ _ _) hS hl.1 rfl mw_33 k_8_196 k_8_197 k_8_198 k_1_13 k_8_199 hv_MT_value rfl rfl ⟨(by dsimp only [rm_MT_array, rm_MT_value]; omega), (by dsimp only [rm_MT_array, rm_MT_value]; omega)⟩ rfl (Nat.le_of_ble_eq_true rfl) ⟨Nat.zero_le _, Nat.zero_le _⟩ rfl d_MT_array_98 (fun H locs hP hS => ?_)
  refine lv_if_ne (tgt := 106) hx hb d_MT_array_101 (by decide) (fun c4 => ?_) (fun c4 => ?_)
  · replace h := o_ff c4 h
    refine lv_iload hx hb d_MT_array_106 (lv_at hl 4 rfl) ?_
    refine lv_if_ge (tgt := 122) hx hb d_MT_array_108 (by decide) (fun c5 => ?_) (fun c5 => ?_)
    · replace h := o_tt c5 h
      refine lv_aload_n hx hb d_MT_array_122 rfl (lv_at hl 1 rfl) ?_
      refine o_get (v := .ref (ad 41)) C in_MT hP 33 mw_33 rfl 7 (by decide) k_7_114 rfl rfl d_MT_array_123 ?_
      refine lv_iload hx hb d_MT_array_126 (lv_at hl 4 rfl) ?_
      refine lv_iload hx hb d_MT_array_128 (lv_at hl 0 rfl) ?_
      obtain ⟨g6, h⟩ := o_gd_some h
      refine o_iast (f := (MT_next q5.2)) (w1 := (m_cw ad ca ky ty u49_rt u49_Ni u49_Np u49_No u49_Nx u49_Nf u49_Na u49_Nh u49_Nq u49_Nj (MT_mk (MT_text q5.2) (MT_kind q5.2) (MT_place q5.2) (MT_many q5.2) (MT_parent q5.2) (MT_power q5.2) (MT_first q5.2) (upd (MT_next q5.2) x4.toNatClampNeg x5_91) (MT_name q5.2) (MT_from q5.2) (MT_characters q5.2) (MT_digits q5.2) (MT_minus q5.2) (MT_values q5.2) (MT_letters q5.2) (MT_at q5.2) (MT_wrong q5.2) (MT_used q5.2) (MT_written q5.2) (MT_left q5.2)) u49_M1)) C hP (hDD _ _ _ _ _ _ _ _ _ _ _ _) hS 41 39 mw_41 rfl g6 rfl d_MT_array_130 (fun H locs hP hS => ?_)
      exact f_MT_array_j131_a hE hKy C hDD d rec hrec n u49_x2 u49_x3 u49_Ni u49_Np u49_No u49_Nx u49_Nf u49_Na u49_Nh u49_Nq u49_Nj u49_M1 u49_rt x5_91 (MT_mk (MT_text q5.2) (MT_kind q5.2) (MT_place q5.2) (MT_many q5.2) (MT_parent q5.2) (MT_power q5.2) (MT_first q5.2) (upd (MT_next q5.2) x4.toNatClampNeg x5_91) (MT_name q5.2) (MT_from q5.2) (MT_characters q5.2) (MT_digits q5.2) (MT_minus q5.2) (MT_values q5.2) (MT_letters q5.2) (MT_at q5.2) (MT_wrong q5.2) (MT_used q5.2) (MT_written q5.2) (MT_left q5.2)) h h0 h1 _ _ _ hP hS (lv_sub hl [1, 2, 3, 0] rfl)
    · replace h := o_ff c5 h
      refine lv_aload_n hx hb d_MT_array_111 rfl (lv_at hl 1 rfl) ?_
      refine o_get (v := .ref (ad 40)) C in_MT hP 33 mw_33 rfl 6 (by decide) k_7_112 rfl rfl d_MT_array_112 ?_
      refine lv_iload_n hx hb d_MT_array_115 rfl (lv_at hl 3 rfl) ?_
      refine lv_iload hx hb d_MT_array_116 (lv_at hl 0 rfl) ?_
      obtain ⟨g11, h⟩ := o_gd_some h
      refine o_iast (f := (MT_first q5.2)) (w1 := (m_cw ad ca ky ty u49_rt u49_Ni u49_Np u49_No u49_Nx u49_Nf u49_Na u49_Nh u49_Nq u49_Nj (MT_mk (MT_text q5.2) (MT_kind q5.2) (MT_place q5.2) (MT_many q5.2) (MT_parent q5.2) (MT_power q5.2) (upd (MT_first q5.2) u49_x3.toNatClampNeg x5_91) (MT_next q5.2) (MT_name q5.2) (MT_from q5.2) (MT_characters q5.2) (MT_digits q5.2) (MT_minus q5.2) (MT_values q5.2) (MT_letters q5.2) (MT_at q5.2) (MT_wrong q5.2) (MT_used q5.2) (MT_written q5.2) (MT_left q5.2)) u49_M1)) C hP (hDD _ _ _ _ _ _ _ _ _ _ _ _) hS 40 38 mw_40 rfl g11 rfl d_MT_array_118 (fun H locs hP hS => ?_)
      refine lv_goto (tgt := 131) hx hb d_MT_array_119 (by decide) ?_
      exact f_MT_array_j131_a hE hKy C hDD d rec hrec n u49_x2 u49_x3 u49_Ni u49_Np u49_No u49_Nx u49_Nf u49_Na u49_Nh u49_Nq u49_Nj u49_M1 u49_rt x5_91 (MT_mk (MT_text q5.2) (MT_kind q5.2) (MT_place q5.2) (MT_many q5.2) (MT_parent q5.2) (MT_power q5.2) (upd (MT_first q5.2) u49_x3.toNatClampNeg x5_91) (MT_next q5.2) (MT_name q5.2) (MT_from q5.2) (MT_characters q5.2) (MT_digits q5.2) (MT_minus q5.2) (MT_values q5.2) (MT_letters q5.2) (MT_at q5.2) (MT_wrong q5.2) (MT_used q5.2) (MT_written q5.2) (MT_left q5.2)) h h0 h1 _ _ _ hP hS (lv_sub hl [1, 2, 3, 0] rfl)
  · replace h := o_tt c4 h
    cases h
    exact h1 (Nat.succ_ne_zero 1) _ _ _ hP hS (lv_sub hl [] rfl)
set_option maxHeartbeats 4000000 in
set_option maxRecDepth 100000 in
theorem f_MT_array_b49_a {E : (Nat → Prop) → State → Heap → Prop} {p : Program} {l : Launch} {e : Env} {s : State} {m : MethodId} {args : Array Value} {below : List Frame} {meth : Method} {c : Code} {D : va_G} {ad kd sd vd xd : Nat → Nat} {ca : Nat → ClassId} {A : Nat → Prop} {ky ty : Nat → Option Nat} {Q : State → Prop} (hE : o_EK E kd sd vd xd) (hKy : m_KY ky ty sd) (C : o_Cx E p s m args meth c D m_cls (m_tys ca) "SchemaJudgeModel$Text" b_MT_array (some .boolean) 6 cc_MT_array A) (hDD : ∀ (rt : Nat) (Ni : SNI) (Np : SNP) (No : SNO) (Nx : SNX) (Nf : SNF) (Na : SNA) (Nh : SNH) (Nq : SNQ) (Nj : SNJ) (M0 : SMT) (M1 : SMT), va_D A (m_cw ad ca ky ty rt Ni Np No Nx Nf Na Nh Nq Nj M0 M1)) (d : Nat) (rec : Int32 → Int32 → SMT → Option (Int32 × SMT)) (hrec : ∀ (x1 : Int32) (x2 : Int32) (a0 : SMT) (Ni : SNI) (Np : SNP) (No : SNO) (Nx : SNX) (Nf : SNF) (Na : SNA) (Nh : SNH) (Nq : SNQ) (Nj : SNJ) (M1 : SMT) (rt : Nat) (r : Int32 × SMT), rec x1 x2 a0 = some r → o_Cn E l D m_cls (m_tys ca) y_MT_value cc_MT_value (rm_MT_value d) [.ref (ad 33), .int x1, .int x2] (m_cw ad ca ky ty rt Ni Np No Nx Nf Na Nh Nq Nj a0 M1) (m_cw ad ca ky ty rt Ni Np No Nx Nf Na Nh Nq Nj r.2 M1) (some (.int r.1))) (n : Nat) (u49_x2 : Int32) (u49_x3 : Int32) (u49_Ni : SNI) (u49_Np : SNP) (u49_No : SNO) (u49_Nx : SNX) (u49_Nf : SNF) (u49_Na : SNA) (u49_Nh : SNH) (u49_Nq : SNQ) (u49_Nj : SNJ) (u49_M1 : SMT) (u49_rt : Nat) (z : Int32 × SMT) (q : Nat × Int32 × SMT) (h : m_MT_array_b49 n rec u49_x2 u49_x3 z = some q) (h0 : q.1 = 0 → o_At p l e (rm_MT_array d) s m args below meth c Q m_cls D A 6 49 [] (m_cw ad ca ky ty u49_rt u49_Ni u49_Np u49_No u49_Nx u49_Nf u49_Na u49_Nh u49_Nq u49_Nj q.2.2 u49_M1) [(0, .ref (ad 33)), (2, .int u49_x2), (3, .int u49_x3), (4, .int q.2.1)]) (h1 : q.1 ≠ 0 → (if q.1 = 1 then o_At p l e (rm_MT_array d) s m args below meth c Q m_cls D A 6 78 [] (m_cw ad ca ky ty u49_rt u49_Ni u49_Np u49_No u49_Nx u49_Nf u49_Na u49_Nh u49_Nq u49_Nj q.2.2 u49_M1) [(0, .ref (ad 33))] else if q.1 = 2 then o_At p l e (rm_MT_array d) s m args below meth c Q m_cls D A 6 104 [] (m_cw ad ca ky ty u49_rt u49_Ni u49_Np u49_No u49_Nx u49_Nf u49_Na u49_Nh u49_Nq u49_Nj q.2.2 u49_M1) [] else if q.1 = 3 then o_At p l e (rm_MT_array d) s m args below meth c Q m_cls D A 6 162 [] (m_cw ad ca ky ty u49_rt u49_Ni u49_Np u49_No u49_Nx u49_Nf u49_Na u49_Nh u49_Nq u49_Nj q.2.2 u49_M1) [(0, .ref (ad 33))] else o_At p l e (rm_MT_array d) s m args below meth c Q m_cls D A 6 187 [] (m_cw ad ca ky ty u49_rt u49_Ni u49_Np u49_No u49_Nx u49_Nf u49_Na u49_Nh u49_Nq u49_Nj q.2.2 u49_M1) [(0, .ref (ad 33))])) : o_At p l e (rm_MT_array d) s m args below meth c Q m_cls D A 6 49 [] (m_cw ad ca ky ty u49_rt u49_Ni u49_Np u49_No u49_Nx u49_Nf u49_Na u49_Nh u49_Nq u49_Nj z.2 u49_M1) [(0, .ref (ad 33)), (2, .int u49_x2), (3, .int u49_x3), (4, .int z.1)] := by
  unfold m_MT_array_b49 at h
  intro H locs ls hP hS hl
  have C0 := C
  obtain ⟨hx, hb, -, -, -, hown, hts, hK, -, -⟩ := C0
  refine lv_aload_n hx hb d_MT_array_49 rfl (lv_at hl 0 rfl) ?_
  obtain ⟨q4, hq4, h⟩ := o_bd_some h
  refine o_V (st1 := []) (w1 := (m_cw ad ca ky ty u49_rt u49_Ni u49_Np u49_No u49_Nx u49_Nf u49_Na u49_Nh u49_Nq u49_Nj q4 u49_M1)) hE.1 C (e_MT_blanks_a hE hKy l n z.2 u49_Ni u49_Np u49_No u49_Nx u49_Nf u49_Na u49_Nh u49_Nq u49_Nj u49_M1 u49_rt hq4) hP (hDD _ _ _ _ _ _ _ _ _ _ _ _) hS hl.1 rfl mw_33 k_8_188 k_8_189 k_8_190 k_1_13 k_8_191 hv_MT_blanks rfl rfl ⟨(by dsimp only [rm_MT_array, rm_MT_blanks]; omega), (by dsimp only [rm_MT_array, rm_MT_blanks]; omega)⟩ rfl (Nat.le_of_ble_eq_true rfl) ⟨Nat.zero_le _, Nat.zero_le _⟩ rfl d_MT_array_50 (fun H locs hP hS => ?_)
  refine lv_aload_n hx hb d_MT_array_53 rfl (lv_at hl 0 rfl) ?_
  refine o_get (v := .ref (ad 37)) C in_MT hP 33 mw_33 rfl 3 (by decide) k_7_106 rfl rfl d_MT_array_54 ?_
  refine lv_iload_n hx hb d_MT_array_57 rfl (lv_at hl 2 rfl) ?_
  obtain ⟨g2, h⟩ := o_gd_some h
  refine o_iald (f := (MT_many q4)) C hP 37 35 mw_37 rfl g2 d_MT_array_58 ?_
  refine lv_bipush (v := (60:Int32)) hx hb d_MT_array_59 (by decide) ?_
  refine lv_icmp_ne (tgt := 87) hx hb d_MT_array_61 (by decide) (fun c3 => ?_) (fun c3 => ?_)
  · replace h := o_ff c3 h
    exact f_MT_array_j87_a hE hKy C hDD d rec hrec n u49_x2 u49_x3 u49_Ni u49_Np u49_No u49_Nx u49_Nf u49_Na u49_Nh u49_Nq u49_Nj u49_M1 u49_rt z.1 q4 h h0 h1 _ _ _ hP hS (lv_sub hl [0, 1, 2, 3] rfl)
  · replace h := o_tt c3 h
    refine lv_aload_n hx hb d_MT_array_64 rfl (lv_at hl 0 rfl) ?_
    refine lv_aload_n hx hb d_MT_array_65 rfl (lv_at hl 0 rfl) ?_
    refine o_get (v := .int (MT_at q4)) C in_MT hP 33 mw_33 rfl 15 (by decide) k_7_129 rfl rfl d_MT_array_66 ?_
    obtain ⟨q9, hq9, h⟩ := o_bd_some h
    refine o_V (st1 := [.int q9]) (w1 := (m_cw ad ca ky ty u49_rt u49_Ni u49_Np u49_No u49_Nx u49_Nf u49_Na u49_Nh u49_Nq u49_Nj q4 u49_M1)) hE.1 C (e_MT_c_a hE hKy l (MT_at q4) q4 u49_Ni u49_Np u49_No u49_Nx u49_Nf u49_Na u49_Nh u49_Nq u49_Nj u49_M1 u49_rt hq9) hP (hDD _ _ _ _ _ _ _ _ _ _ _ _) hS hl.1 rfl mw_33 k_8_192 k_8_193 k_8_194 k_1_13 k_8_195 hv_MT_c rfl rfl ⟨(by dsimp only [rm_MT_array, rm_MT_c]; omega), (by dsimp only [rm_MT_array, rm_MT_c]; omega)⟩ rfl (Nat.le_of_ble_eq_true rfl) ⟨Nat.zero_le _, Nat.zero_le _⟩ rfl d_MT_array_69 (fun H locs hP hS => ?_)
    obtain ⟨q10, hq10, h⟩ := o_bd_some h
    refine o_S (st1 := [.int q10]) (w1 := (m_cw ad ca ky ty u49_rt u49_Ni u49_Np u49_No u49_Nx u49_Nf u49_Na u49_Nh u49_Nq u49_Nj q4 u49_M1)) hE.1 C (e_MT_begins hE hKy l q9 u49_Ni u49_Np u49_No u49_Nx u49_Nf u49_Na u49_Nh u49_Nq u49_Nj q4 u49_M1 u49_rt hq10) hP (hDD _ _ _ _ _ _ _ _ _ _ _ _) hS hl.1 k_9_18 k_9_19 k_1_13 k_9_20 hs_MT_begins rfl rfl ⟨(by dsimp only [rm_MT_array, rm_MT_begins]; omega), (by dsimp only [rm_MT_array, rm_MT_begins]; omega)⟩ rfl (Nat.le_of_ble_eq_true rfl) ⟨Nat.zero_le _, Nat.zero_le _⟩ rfl d_MT_array_72 (fun H locs hP hS => ?_)
    refine lv_if_eq (tgt := 87) hx hb d_MT_array_75 (by decide) (fun c12 => ?_) (fun c12 => ?_)
    · replace h := o_tt c12 h
      exact f_MT_array_j87_a hE hKy C hDD d rec hrec n u49_x2 u49_x3 u49_Ni u49_Np u49_No u49_Nx u49_Nf u49_Na u49_Nh u49_Nq u49_Nj u49_M1 u49_rt z.1 q4 h h0 h1 _ _ _ hP hS (lv_sub hl [0, 1, 2, 3] rfl)
    · replace h := o_ff c12 h
      cases h
      exact h1 (Nat.succ_ne_zero 0) _ _ _ hP hS (lv_sub hl [0] rfl)
set_option maxHeartbeats 4000000 in
set_option maxRecDepth 100000 in
theorem e_MT_array_a {E : (Nat → Prop) → State → Heap → Prop} {D : va_G} {ad kd sd vd xd : Nat → Nat} {ca : Nat → ClassId} {ky ty : Nat → Option Nat} (hE : o_EK E kd sd vd xd) (hKy : m_KY ky ty sd) (l : Launch) (n : Nat) (d : Nat) (rec : Int32 → Int32 → SMT → Option (Int32 × SMT)) (hrec : ∀ (x1 : Int32) (x2 : Int32) (a0 : SMT) (Ni : SNI) (Np : SNP) (No : SNO) (Nx : SNX) (Nf : SNF) (Na : SNA) (Nh : SNH) (Nq : SNQ) (Nj : SNJ) (M1 : SMT) (rt : Nat) (r : Int32 × SMT), rec x1 x2 a0 = some r → o_Cn E l D m_cls (m_tys ca) y_MT_value cc_MT_value (rm_MT_value d) [.ref (ad 33), .int x1, .int x2] (m_cw ad ca ky ty rt Ni Np No Nx Nf Na Nh Nq Nj a0 M1) (m_cw ad ca ky ty rt Ni Np No Nx Nf Na Nh Nq Nj r.2 M1) (some (.int r.1))) (x1 : Int32) (x2 : Int32) (a0 : SMT) (Ni : SNI) (Np : SNP) (No : SNO) (Nx : SNX) (Nf : SNF) (Na : SNA) (Nh : SNH) (Nq : SNQ) (Nj : SNJ) (M1 : SMT) (rt : Nat) {r : Int32 × SMT} (h : m_MT_array n rec x1 x2 a0 = some r) : o_Cn E l D m_cls (m_tys ca) y_MT_array cc_MT_array (rm_MT_array d) [.ref (ad 33), .int x1, .int x2] (m_cw ad ca ky ty rt Ni Np No Nx Nf Na Nh Nq Nj a0 M1) (m_cw ad ca ky ty rt Ni Np No Nx Nf Na Nh Nq Nj r.2 M1) (some (.int r.1)) := by
  refine o_Cn_of (by decide) (Nat.le_of_ble_eq_true rfl) ?_
  intro p e s m below meth c A ls C hD hP hS hl
  have hDD : ∀ (rt : Nat) (Ni : SNI) (Np : SNP) (No : SNO) (Nx : SNX) (Nf : SNF) (Na : SNA) (Nh : SNH) (Nq : SNQ) (Nj : SNJ) (M0 : SMT) (M1 : SMT), va_D A (m_cw ad ca ky ty rt Ni Np No Nx Nf Na Nh Nq Nj M0 M1) := fun _ _ _ _ _ _ _ _ _ _ _ _ => o_D_map hD rfl
  have hl : lv_has ls 6 [(0, .ref (ad 33)), (1, .int x1), (2, .int x2)] := hl
  unfold m_MT_array at h
  have C0 := C
  obtain ⟨hx, hb, -, -, -, hown, hts, hK, -, -⟩ := C0
  refine lv_aload_n hx hb d_MT_array_0 rfl (lv_at hl 0 rfl) ?_
  refine lv_iload_n hx hb d_MT_array_1 rfl (lv_at hl 1 rfl) ?_
  refine lv_iconst (v := (5:Int32)) hx hb d_MT_array_2 (by decide) ?_
  obtain ⟨q1, hq1, h⟩ := o_bd_some h
  refine o_V (st1 := [.int q1.1]) (w1 := (m_cw ad ca ky ty rt Ni Np No Nx Nf Na Nh Nq Nj q1.2 M1)) hE.1 C (e_MT_fresh_a hE hKy l x1 (5:Int32) a0 Ni Np No Nx Nf Na Nh Nq Nj M1 rt hq1) hP (hDD _ _ _ _ _ _ _ _ _ _ _ _) hS hl.1 rfl mw_33 k_8_212 k_8_213 k_8_214 k_1_13 k_8_215 hv_MT_fresh rfl rfl ⟨(by dsimp only [rm_MT_array, rm_MT_fresh]; omega), (by dsimp only [rm_MT_array, rm_MT_fresh]; omega)⟩ rfl (Nat.le_of_ble_eq_true rfl) ⟨Nat.zero_le _, Nat.zero_le _⟩ rfl d_MT_array_3 (fun H locs hP hS => ?_)
  refine lv_istore_n (lv' := [(3, .int q1.1), (0, .ref (ad 33)), (1, .int x1), (2, .int x2)]) hx hb d_MT_array_6 rfl hl (by decide) rfl (fun ls hl => ?_)
  refine lv_iconst (v := (-1:Int32)) hx hb d_MT_array_7 (by decide) ?_
  refine lv_istore (lv' := [(4, .int (-1:Int32)), (3, .int q1.1), (0, .ref (ad 33)), (1, .int x1), (2, .int x2)]) hx hb d_MT_array_8 hl (by decide) rfl (fun ls hl => ?_)
  refine lv_aload_n hx hb d_MT_array_10 rfl (lv_at hl 2 rfl) ?_
  refine lv_dup hx hb d_MT_array_11 rfl ?_
  refine o_get (v := .int (MT_at q1.2)) C in_MT hP 33 mw_33 rfl 15 (by decide) k_7_129 rfl rfl d_MT_array_12 ?_
  refine lv_iconst (v := (1:Int32)) hx hb d_MT_array_15 (by decide) ?_
  refine lv_iadd hx hb d_MT_array_16 ?_
  refine o_put (v := .int ((MT_at q1.2) + (1:Int32))) (ty := .int) (w1 := (m_cw ad ca ky ty rt Ni Np No Nx Nf Na Nh Nq Nj (MT_mk (MT_text q1.2) (MT_kind q1.2) (MT_place q1.2) (MT_many q1.2) (MT_parent q1.2) (MT_power q1.2) (MT_first q1.2) (MT_next q1.2) (MT_name q1.2) (MT_from q1.2) (MT_characters q1.2) (MT_digits q1.2) (MT_minus q1.2) (MT_values q1.2) (MT_letters q1.2) ((MT_at q1.2) + (1:Int32)) (MT_wrong q1.2) (MT_used q1.2) (MT_written q1.2) (MT_left q1.2)) M1)) C in_MT t_MT t_MT_ok n_MT hP (hDD _ _ _ _ _ _ _ _ _ _ _ _) hS 33 mw_33 rfl 15 (by decide) k_7_129 rfl rfl (by decide +kernel) rfl rfl (Nat.le_of_ble_eq_true rfl) rfl d_MT_array_17 (fun H locs hP hS => ?_)
  refine lv_aload_n hx hb d_MT_array_20 rfl (lv_at hl 2 rfl) ?_
  obtain ⟨q2, hq2, h⟩ := o_bd_some h
  refine o_V (st1 := []) (w1 := (m_cw ad ca ky ty rt Ni Np No Nx Nf Na Nh Nq Nj q2 M1)) hE.1 C (e_MT_blanks_a hE hKy l n (MT_mk (MT_text q1.2) (MT_kind q1.2) (MT_place q1.2) (MT_many q1.2) (MT_parent q1.2) (MT_power q1.2) (MT_first q1.2) (MT_next q1.2) (MT_name q1.2) (MT_from q1.2) (MT_characters q1.2) (MT_digits q1.2) (MT_minus q1.2) (MT_values q1.2) (MT_letters q1.2) ((MT_at q1.2) + (1:Int32)) (MT_wrong q1.2) (MT_used q1.2) (MT_written q1.2) (MT_left q1.2)) Ni Np No Nx Nf Na Nh Nq Nj M1 rt hq2) hP (hDD _ _ _ _ _ _ _ _ _ _ _ _) hS hl.1 rfl mw_33 k_8_188 k_8_189 k_8_190 k_1_13 k_8_191 hv_MT_blanks rfl rfl ⟨(by dsimp only [rm_MT_array, rm_MT_blanks]; omega), (by dsimp only [rm_MT_array, rm_MT_blanks]; omega)⟩ rfl (Nat.le_of_ble_eq_true rfl) ⟨Nat.zero_le _, Nat.zero_le _⟩ rfl d_MT_array_21 (fun H locs hP hS => ?_)
  refine lv_aload_n hx hb d_MT_array_24 rfl (lv_at hl 2 rfl) ?_
  refine lv_aload_n hx hb d_MT_array_25 rfl (lv_at hl 2 rfl) ?_
  refine o_get (v := .int (MT_at q2)) C in_MT hP 33 mw_33 rfl 15 (by decide) k_7_129 rfl rfl d_MT_array_26 ?_
  obtain ⟨q3, hq3, h⟩ := o_bd_some h
  refine o_V (st1 := [.int q3]) (w1 := (m_cw ad ca ky ty rt Ni Np No Nx Nf Na Nh Nq Nj q2 M1)) hE.1 C (e_MT_c_a hE hKy l (MT_at q2) q2 Ni Np No Nx Nf Na Nh Nq Nj M1 rt hq3) hP (hDD _ _ _ _ _ _ _ _ _ _ _ _) hS hl.1 rfl mw_33 k_8_192 k_8_193 k_8_194 k_1_13 k_8_195 hv_MT_c rfl rfl ⟨(by dsimp only [rm_MT_array, rm_MT_c]; omega), (by dsimp only [rm_MT_array, rm_MT_c]; omega)⟩ rfl (Nat.le_of_ble_eq_true rfl) ⟨Nat.zero_le _, Nat.zero_le _⟩ rfl d_MT_array_29 (fun H locs hP hS => ?_)
  refine lv_bipush (v := (93:Int32)) hx hb d_MT_array_32 (by decide) ?_
  refine lv_icmp_ne (tgt := 49) hx hb d_MT_array_34 (by decide) (fun c1 => ?_) (fun c1 => ?_)
  · replace h := o_ff c1 h
    obtain ⟨q11, hq11, h⟩ := o_bd_some h
    refine o_sim2 (AH := fun zz => o_At p l e (rm_MT_array d) s m _ below meth c _ m_cls D A 6 49 [] (m_cw ad ca ky ty rt Ni Np No Nx Nf Na Nh Nq Nj zz.2 M1) [(0, .ref (ad 33)), (2, .int x2), (3, .int q1.1), (4, .int zz.1)]) (AX := fun qq => if qq.1 = 1 then o_At p l e (rm_MT_array d) s m _ below meth c _ m_cls D A 6 78 [] (m_cw ad ca ky ty rt Ni Np No Nx Nf Na Nh Nq Nj qq.2.2 M1) [(0, .ref (ad 33))] else if qq.1 = 2 then o_At p l e (rm_MT_array d) s m _ below meth c _ m_cls D A 6 104 [] (m_cw ad ca ky ty rt Ni Np No Nx Nf Na Nh Nq Nj qq.2.2 M1) [] else if qq.1 = 3 then o_At p l e (rm_MT_array d) s m _ below meth c _ m_cls D A 6 162 [] (m_cw ad ca ky ty rt Ni Np No Nx Nf Na Nh Nq Nj qq.2.2 M1) [(0, .ref (ad 33))] else o_At p l e (rm_MT_array d) s m _ below meth c _ m_cls D A 6 187 [] (m_cw ad ca ky ty rt Ni Np No Nx Nf Na Nh Nq Nj qq.2.2 M1) [(0, .ref (ad 33))]) (fun zz qq h h0 h1 => f_MT_array_b49_a hE hKy C hDD d rec hrec n x2 q1.1 Ni Np No Nx Nf Na Nh Nq Nj M1 rt zz qq h h0 h1) n _ q11 hq11 ?_ _ _ _ hP hS (lv_sub hl [2, 4, 1, 0] rfl)
    by_cases c15 : q11.1 = 1
    · replace h := o_tt c15 h
      refine o_ip c15 ?_
      intro H locs ls hP hS hl
      refine lv_aload_n hx hb d_MT_array_78 rfl (lv_at hl 0 rfl) ?_
      refine lv_aload_n hx hb d_MT_array_79 rfl (lv_at hl 0 rfl) ?_
      refine o_get (v := .int (MT_at q11.2.2)) C in_MT hP 33 mw_33 rfl 15 (by decide) k_7_129 rfl rfl d_MT_array_80 ?_
      obtain ⟨q12, hq12, h⟩ := o_bd_some h
      refine o_V (st1 := [.int q12.1]) (w1 := (m_cw ad ca ky ty rt Ni Np No Nx Nf Na Nh Nq Nj q12.2 M1)) hE.1 C (e_MT_bad_a hE hKy l (MT_at q11.2.2) q11.2.2 Ni Np No Nx Nf Na Nh Nq Nj M1 rt hq12) hP (hDD _ _ _ _ _ _ _ _ _ _ _ _) hS hl.1 rfl mw_33 k_8_203 k_8_204 k_8_205 k_1_13 k_8_206 hv_MT_bad rfl rfl ⟨(by dsimp only [rm_MT_array, rm_MT_bad]; omega), (by dsimp only [rm_MT_array, rm_MT_bad]; omega)⟩ rfl (Nat.le_of_ble_eq_true rfl) ⟨Nat.zero_le _, Nat.zero_le _⟩ rfl d_MT_array_83 (fun H locs hP hS => ?_)
      obtain ⟨g13, h⟩ := o_gd_some h
      cases h
      exact o_rz C (o_zb_nar g13) hP hS d_MT_array_86
    replace h := o_ff c15 h
    refine o_in_ c15 ?_
    by_cases c16 : q11.1 = 2
    · replace h := o_tt c16 h
      refine o_ip c16 ?_
      intro H locs ls hP hS hl
      refine lv_iconst (v := (0:Int32)) hx hb d_MT_array_104 (by decide) ?_
      cases h
      exact o_rz (v := (0:Int32)) C o_nar0 hP hS d_MT_array_105
    replace h := o_ff c16 h
    refine o_in_ c16 ?_
    by_cases c17 : q11.1 = 3
    · replace h := o_tt c17 h
      refine o_ip c17 ?_
      intro H locs ls hP hS hl
      refine lv_aload_n hx hb d_MT_array_162 rfl (lv_at hl 0 rfl) ?_
      refine lv_dup hx hb d_MT_array_163 rfl ?_
      refine o_get (v := .int (MT_at q11.2.2)) C in_MT hP 33 mw_33 rfl 15 (by decide) k_7_129 rfl rfl d_MT_array_164 ?_
      refine lv_iconst (v := (1:Int32)) hx hb d_MT_array_167 (by decide) ?_
      refine lv_iadd hx hb d_MT_array_168 ?_
      refine o_put (v := .int ((MT_at q11.2.2) + (1:Int32))) (ty := .int) (w1 := (m_cw ad ca ky ty rt Ni Np No Nx Nf Na Nh Nq Nj (MT_mk (MT_text q11.2.2) (MT_kind q11.2.2) (MT_place q11.2.2) (MT_many q11.2.2) (MT_parent q11.2.2) (MT_power q11.2.2) (MT_first q11.2.2) (MT_next q11.2.2) (MT_name q11.2.2) (MT_from q11.2.2) (MT_characters q11.2.2) (MT_digits q11.2.2) (MT_minus q11.2.2) (MT_values q11.2.2) (MT_letters q11.2.2) ((MT_at q11.2.2) + (1:Int32)) (MT_wrong q11.2.2) (MT_used q11.2.2) (MT_written q11.2.2) (MT_left q11.2.2)) M1)) C in_MT t_MT t_MT_ok n_MT hP (hDD _ _ _ _ _ _ _ _ _ _ _ _) hS 33 mw_33 rfl 15 (by decide) k_7_129 rfl rfl (by decide +kernel) rfl rfl (Nat.le_of_ble_eq_true rfl) rfl d_MT_array_169 (fun H locs hP hS => ?_)
      refine lv_iconst (v := (1:Int32)) hx hb d_MT_array_172 (by decide) ?_
      cases h
      exact o_rz (v := (1:Int32)) C o_nar1 hP hS d_MT_array_173
    replace h := o_ff c17 h
    refine o_in_ c17 ?_
    intro H locs ls hP hS hl
    refine lv_aload_n hx hb d_MT_array_187 rfl (lv_at hl 0 rfl) ?_
    refine lv_aload_n hx hb d_MT_array_188 rfl (lv_at hl 0 rfl) ?_
    refine o_get (v := .int (MT_at q11.2.2)) C in_MT hP 33 mw_33 rfl 15 (by decide) k_7_129 rfl rfl d_MT_array_189 ?_
    obtain ⟨q13, hq13, h⟩ := o_bd_some h
    refine o_V (st1 := [.int q13.1]) (w1 := (m_cw ad ca ky ty rt Ni Np No Nx Nf Na Nh Nq Nj q13.2 M1)) hE.1 C (e_MT_bad_a hE hKy l (MT_at q11.2.2) q11.2.2 Ni Np No Nx Nf Na Nh Nq Nj M1 rt hq13) hP (hDD _ _ _ _ _ _ _ _ _ _ _ _) hS hl.1 rfl mw_33 k_8_203 k_8_204 k_8_205 k_1_13 k_8_206 hv_MT_bad rfl rfl ⟨(by dsimp only [rm_MT_array, rm_MT_bad]; omega), (by dsimp only [rm_MT_array, rm_MT_bad]; omega)⟩ rfl (Nat.le_of_ble_eq_true rfl) ⟨Nat.zero_le _, Nat.zero_le _⟩ rfl d_MT_array_192 (fun H locs hP hS => ?_)
    obtain ⟨g14, h⟩ := o_gd_some h
    cases h
    exact o_rz C (o_zb_nar g14) hP hS d_MT_array_195
  · replace h := o_tt c1 h
    refine lv_aload_n hx hb d_MT_array_37 rfl (lv_at hl 2 rfl) ?_
    refine lv_dup hx hb d_MT_array_38 rfl ?_
    refine o_get (v := .int (MT_at q2)) C in_MT hP 33 mw_33 rfl 15 (by decide) k_7_129 rfl rfl d_MT_array_39 ?_
    refine lv_iconst (v := (1:Int32)) hx hb d_MT_array_42 (by decide) ?_
    refine lv_iadd hx hb d_MT_array_43 ?_
    refine o_put (v := .int ((MT_at q2) + (1:Int32))) (ty := .int) (w1 := (m_cw ad ca ky ty rt Ni Np No Nx Nf Na Nh Nq Nj (MT_mk (MT_text q2) (MT_kind q2) (MT_place q2) (MT_many q2) (MT_parent q2) (MT_power q2) (MT_first q2) (MT_next q2) (MT_name q2) (MT_from q2) (MT_characters q2) (MT_digits q2) (MT_minus q2) (MT_values q2) (MT_letters q2) ((MT_at q2) + (1:Int32)) (MT_wrong q2) (MT_used q2) (MT_written q2) (MT_left q2)) M1)) C in_MT t_MT t_MT_ok n_MT hP (hDD _ _ _ _ _ _ _ _ _ _ _ _) hS 33 mw_33 rfl 15 (by decide) k_7_129 rfl rfl (by decide +kernel) rfl rfl (Nat.le_of_ble_eq_true rfl) rfl d_MT_array_44 (fun H locs hP hS => ?_)
    refine lv_iconst (v := (1:Int32)) hx hb d_MT_array_47 (by decide) ?_
    cases h
    exact o_rz (v := (1:Int32)) C o_nar1 hP hS d_MT_array_48
set_option maxHeartbeats 4000000 in
set_option maxRecDepth 100000 in
theorem f_MT_array_j131_b {E : (Nat → Prop) → State → Heap → Prop} {p : Program} {l : Launch} {e : Env} {s : State} {m : MethodId} {args : Array Value} {below : List Frame} {meth : Method} {c : Code} {D : va_G} {ad kd sd vd xd : Nat → Nat} {ca : Nat → ClassId} {A : Nat → Prop} {ky ty : Nat → Option Nat} {Q : State → Prop} (hE : o_EK E kd sd vd xd) (hKy : m_KY ky ty sd) (C : o_Cx E p s m args meth c D m_cls (m_tys ca) "SchemaJudgeModel$Text" b_MT_array (some .boolean) 6 cc_MT_array A) (hDD : ∀ (rt : Nat) (Ni : SNI) (Np : SNP) (No : SNO) (Nx : SNX) (Nf : SNF) (Na : SNA) (Nh : SNH) (Nq : SNQ) (Nj : SNJ) (M0 : SMT) (M1 : SMT), va_D A (m_cw ad ca ky ty rt Ni Np No Nx Nf Na Nh Nq Nj M0 M1)) (d : Nat) (rec : Int32 → Int32 → SMT → Option (Int32 × SMT)) (hrec : ∀ (x1 : Int32) (x2 : Int32) (a0 : SMT) (Ni : SNI) (Np : SNP) (No : SNO) (Nx : SNX) (Nf : SNF) (Na : SNA) (Nh : SNH) (Nq : SNQ) (Nj : SNJ) (M0 : SMT) (rt : Nat) (r : Int32 × SMT), rec x1 x2 a0 = some r → o_Cn E l D m_cls (m_tys ca) y_MT_value cc_MT_value (rm_MT_value d) [.ref (ad 48), .int x1, .int x2] (m_cw ad ca ky ty rt Ni Np No Nx Nf Na Nh Nq Nj M0 a0) (m_cw ad ca ky ty rt Ni Np No Nx Nf Na Nh Nq Nj M0 r.2) (some (.int r.1))) (n : Nat) (u49_x2 : Int32) (u49_x3 : Int32) (u49_Ni : SNI) (u49_Np : SNP) (u49_No : SNO) (u49_Nx : SNX) (u49_Nf : SNF) (u49_Na : SNA) (u49_Nh : SNH) (u49_Nq : SNQ) (u49_Nj : SNJ) (u49_M0 : SMT) (u49_rt : Nat) (x5 : Int32) (a0 : SMT) {q : Nat × Int32 × SMT} (h : m_MT_array_j131 n rec u49_x2 u49_x3 x5 a0 = some q) (h0 : q.1 = 0 → o_At p l e (rm_MT_array d) s m args below meth c Q m_cls D A 6 49 [] (m_cw ad ca ky ty u49_rt u49_Ni u49_Np u49_No u49_Nx u49_Nf u49_Na u49_Nh u49_Nq u49_Nj u49_M0 q.2.2) [(0, .ref (ad 48)), (2, .int u49_x2), (3, .int u49_x3), (4, .int q.2.1)]) (h1 : q.1 ≠ 0 → (if q.1 = 1 then o_At p l e (rm_MT_array d) s m args below meth c Q m_cls D A 6 78 [] (m_cw ad ca ky ty u49_rt u49_Ni u49_Np u49_No u49_Nx u49_Nf u49_Na u49_Nh u49_Nq u49_Nj u49_M0 q.2.2) [(0, .ref (ad 48))] else if q.1 = 2 then o_At p l e (rm_MT_array d) s m args below meth c Q m_cls D A 6 104 [] (m_cw ad ca ky ty u49_rt u49_Ni u49_Np u49_No u49_Nx u49_Nf u49_Na u49_Nh u49_Nq u49_Nj u49_M0 q.2.2) [] else if q.1 = 3 then o_At p l e (rm_MT_array d) s m args below meth c Q m_cls D A 6 162 [] (m_cw ad ca ky ty u49_rt u49_Ni u49_Np u49_No u49_Nx u49_Nf u49_Na u49_Nh u49_Nq u49_Nj u49_M0 q.2.2) [(0, .ref (ad 48))] else o_At p l e (rm_MT_array d) s m args below meth c Q m_cls D A 6 187 [] (m_cw ad ca ky ty u49_rt u49_Ni u49_Np u49_No u49_Nx u49_Nf u49_Na u49_Nh u49_Nq u49_Nj u49_M0 q.2.2) [(0, .ref (ad 48))])) : o_At p l e (rm_MT_array d) s m args below meth c Q m_cls D A 6 131 [] (m_cw ad ca ky ty u49_rt u49_Ni u49_Np u49_No u49_Nx u49_Nf u49_Na u49_Nh u49_Nq u49_Nj u49_M0 a0) [(0, .ref (ad 48)), (2, .int u49_x2), (3, .int u49_x3), (5, .int x5)] := by
  unfold m_MT_array_j131 at h
  intro H locs ls hP hS hl
  have C0 := C
  obtain ⟨hx, hb, -, -, -, hown, hts, hK, -, -⟩ := C0
  refine lv_iload hx hb d_MT_array_131 (lv_at hl 3 rfl) ?_
  refine lv_istore (lv' := [(4, .int x5), (0, .ref (ad 48)), (2, .int u49_x2), (3, .int u49_x3), (5, .int x5)]) hx hb d_MT_array_133 hl (by decide) rfl (fun ls hl => ?_)
  refine lv_aload_n hx hb d_MT_array_135 rfl (lv_at hl 1 rfl) ?_
  refine o_get (v := .ref (ad 52)) C in_MT hP 48 mw_48 rfl 3 (by decide) k_7_106 rfl rfl d_MT_array_136 ?_
  refine lv_iload_n hx hb d_MT_array_139 rfl (lv_at hl 3 rfl) ?_
  refine lv_dup2_11 hx hb d_MT_array_140 rfl rfl ?_
  obtain ⟨g7, h⟩ := o_gd_some h
  refine o_iald (f := (MT_many a0)) C hP 52 49 mw_52 rfl g7 d_MT_array_141 ?_
  refine lv_iconst (v := (1:Int32)) hx hb d_MT_array_142 (by decide) ?_
  refine lv_iadd hx hb d_MT_array_143 ?_
  obtain ⟨g8, h⟩ := o_gd_some h
  refine o_iast (f := (MT_many a0)) (w1 := (m_cw ad ca ky ty u49_rt u49_Ni u49_Np u49_No u49_Nx u49_Nf u49_Na u49_Nh u49_Nq u49_Nj u49_M0 (MT_mk (MT_text a0) (MT_kind a0) (MT_place a0) (upd (MT_many a0) u49_x3.toNatClampNeg (((MT_many a0) u49_x3.toNatClampNeg) + (1:Int32))) (MT_parent a0) (MT_power a0) (MT_first a0) (MT_next a0) (MT_name a0) (MT_from a0) (MT_characters a0) (MT_digits a0) (MT_minus a0) (MT_values a0) (MT_letters a0) (MT_at a0) (MT_wrong a0) (MT_used a0) (MT_written a0) (MT_left a0)))) C hP (hDD _ _ _ _ _ _ _ _ _ _ _ _) hS 52 49 mw_52 rfl g8 rfl d_MT_array_144 (fun H locs hP hS => ?_)
  refine lv_aload_n hx hb d_MT_array_145 rfl (lv_at hl 1 rfl) ?_
  obtain ⟨q6, hq6, h⟩ := o_bd_some h
  refine o_V (st1 := []) (w1 := (m_cw ad ca ky ty u49_rt u49_Ni u49_Np u49_No u49_Nx u49_Nf u49_Na u49_Nh u49_Nq u49_Nj u49_M0 q6)) hE.1 C (e_MT_blanks_b hE hKy l n (MT_mk (MT_text a0) (MT_kind a0) (MT_place a0) (upd (MT_many a0) u49_x3.toNatClampNeg (((MT_many a0) u49_x3.toNatClampNeg) + (1:Int32))) (MT_parent a0) (MT_power a0) (MT_first a0) (MT_next a0) (MT_name a0) (MT_from a0) (MT_characters a0) (MT_digits a0) (MT_minus a0) (MT_values a0) (MT_letters a0) (MT_at a0) (MT_wrong a0) (MT_used a0) (MT_written a0) (MT_left a0)) u49_Ni u49_Np u49_No u49_Nx u49_Nf u49_Na u49_Nh u49_Nq u49_Nj u49_M0 u49_rt hq6) hP (hDD _ _ _ _ _ _ _ _ _ _ _ _) hS hl.1 rfl mw_48 k_8_188 k_8_189 k_8_190 k_1_13 k_8_191 hv_MT_blanks rfl rfl ⟨(by dsimp only [rm_MT_array, rm_MT_blanks]; omega), (by dsimp only [rm_MT_array, rm_MT_blanks]; omega)⟩ rfl (Nat.le_of_ble_eq_true rfl) ⟨Nat.zero_le _, Nat.zero_le _⟩ rfl d_MT_array_146 (fun H locs hP hS => ?_)
  refine lv_aload_n hx hb d_MT_array_149 rfl (lv_at hl 1 rfl) ?_
  refine lv_aload_n hx hb d_MT_array_150 rfl (lv_at hl 1 rfl) ?_
  refine o_get (v := .int (MT_at q6)) C in_MT hP 48 mw_48 rfl 15 (by decide) k_7_129 rfl rfl d_MT_array_151 ?_
  obtain ⟨q7, hq7, h⟩ := o_bd_some h
  refine o_V (st1 := [.int q7]) (w1 := (m_cw ad ca ky ty u49_rt u49_Ni u49_Np u49_No u49_Nx u49_Nf u49_Na u49_Nh u49_Nq u49_Nj u49_M0 q6)) hE.1 C (e_MT_c_b hE hKy l (MT_at q6) q6 u49_Ni u49_Np u49_No u49_Nx u49_Nf u49_Na u49_Nh u49_Nq u49_Nj u49_M0 u49_rt hq7) hP (hDD _ _ _ _ _ _ _ _ _ _ _ _) hS hl.1 rfl mw_48 k_8_192 k_8_193 k_8_194 k_1_13 k_8_195 hv_MT_c rfl rfl ⟨(by dsimp only [rm_MT_array, rm_MT_c]; omega), (by dsimp only [rm_MT_array, rm_MT_c]; omega)⟩ rfl (Nat.le_of_ble_eq_true rfl) ⟨Nat.zero_le _, Nat.zero_le _⟩ rfl d_MT_array_154 (fun H locs hP hS => ?_)
  refine lv_bipush (v := (93:Int32)) hx hb d_MT_array_157 (by decide) ?_
  refine lv_icmp_ne (tgt := 174) hx hb d_MT_array_159 (by decide) (fun c9 => ?_) (fun c9 => ?_)
  · replace h := o_ff c9 h
    refine lv_aload_n hx hb d_MT_array_174 rfl (lv_at hl 1 rfl) ?_
    refine lv_aload_n hx hb d_MT_array_175 rfl (lv_at hl 1 rfl) ?_
    refine o_get (v := .int (MT_at q6)) C in_MT hP 48 mw_48 rfl 15 (by decide) k_7_129 rfl rfl d_MT_array_176 ?_
    obtain ⟨q8, hq8, h⟩ := o_bd_some h
    refine o_V (st1 := [.int q8]) (w1 := (m_cw ad ca ky ty u49_rt u49_Ni u49_Np u49_No u49_Nx u49_Nf u49_Na u49_Nh u49_Nq u49_Nj u49_M0 q6)) hE.1 C (e_MT_c_b hE hKy l (MT_at q6) q6 u49_Ni u49_Np u49_No u49_Nx u49_Nf u49_Na u49_Nh u49_Nq u49_Nj u49_M0 u49_rt hq8) hP (hDD _ _ _ _ _ _ _ _ _ _ _ _) hS hl.1 rfl mw_48 k_8_192 k_8_193 k_8_194 k_1_13 k_8_195 hv_MT_c rfl rfl ⟨(by dsimp only [rm_MT_array, rm_MT_c]; omega), (by dsimp only [rm_MT_array, rm_MT_c]; omega)⟩ rfl (Nat.le_of_ble_eq_true rfl) ⟨Nat.zero_le _, Nat.zero_le _⟩ rfl d_MT_array_179 (fun H locs hP hS => ?_)
    refine lv_bipush (v := (44:Int32)) hx hb d_MT_array_182 (by decide) ?_
    refine lv_icmp_eq (tgt := 196) hx hb d_MT_array_184 (by decide) (fun c10 => ?_) (fun c10 => ?_)
    · replace h := o_tt c10 h
      refine lv_aload_n hx hb d_MT_array_196 rfl (lv_at hl 1 rfl) ?_
      refine lv_dup hx hb d_MT_array_197 rfl ?_
      refine o_get (v := .int (MT_at q6)) C in_MT hP 48 mw_48 rfl 15 (by decide) k_7_129 rfl rfl d_MT_array_198 ?_
      refine lv_iconst (v := (1:Int32)) hx hb d_MT_array_201 (by decide) ?_
      refine lv_iadd hx hb d_MT_array_202 ?_
      refine o_put (v := .int ((MT_at q6) + (1:Int32))) (ty := .int) (w1 := (m_cw ad ca ky ty u49_rt u49_Ni u49_Np u49_No u49_Nx u49_Nf u49_Na u49_Nh u49_Nq u49_Nj u49_M0 (MT_mk (MT_text q6) (MT_kind q6) (MT_place q6) (MT_many q6) (MT_parent q6) (MT_power q6) (MT_first q6) (MT_next q6) (MT_name q6) (MT_from q6) (MT_characters q6) (MT_digits q6) (MT_minus q6) (MT_values q6) (MT_letters q6) ((MT_at q6) + (1:Int32)) (MT_wrong q6) (MT_used q6) (MT_written q6) (MT_left q6)))) C in_MT t_MT t_MT_ok n_MT hP (hDD _ _ _ _ _ _ _ _ _ _ _ _) hS 48 mw_48 rfl 15 (by decide) k_7_129 rfl rfl (by decide +kernel) rfl rfl (Nat.le_of_ble_eq_true rfl) rfl d_MT_array_203 (fun H locs hP hS => ?_)
      refine lv_goto (tgt := 49) hx hb d_MT_array_206 (by decide) ?_
      cases h
      exact h0 rfl _ _ _ hP hS (lv_sub hl [1, 2, 3, 0] rfl)
    · replace h := o_ff c10 h
      cases h
      exact h1 (Nat.succ_ne_zero 3) _ _ _ hP hS (lv_sub hl [1] rfl)
  · replace h := o_tt c9 h
    cases h
    exact h1 (Nat.succ_ne_zero 2) _ _ _ hP hS (lv_sub hl [1] rfl)
set_option maxHeartbeats 4000000 in
set_option maxRecDepth 100000 in
theorem f_MT_array_j87_b {E : (Nat → Prop) → State → Heap → Prop} {p : Program} {l : Launch} {e : Env} {s : State} {m : MethodId} {args : Array Value} {below : List Frame} {meth : Method} {c : Code} {D : va_G} {ad kd sd vd xd : Nat → Nat} {ca : Nat → ClassId} {A : Nat → Prop} {ky ty : Nat → Option Nat} {Q : State → Prop} (hE : o_EK E kd sd vd xd) (hKy : m_KY ky ty sd) (C : o_Cx E p s m args meth c D m_cls (m_tys ca) "SchemaJudgeModel$Text" b_MT_array (some .boolean) 6 cc_MT_array A) (hDD : ∀ (rt : Nat) (Ni : SNI) (Np : SNP) (No : SNO) (Nx : SNX) (Nf : SNF) (Na : SNA) (Nh : SNH) (Nq : SNQ) (Nj : SNJ) (M0 : SMT) (M1 : SMT), va_D A (m_cw ad ca ky ty rt Ni Np No Nx Nf Na Nh Nq Nj M0 M1)) (d : Nat) (rec : Int32 → Int32 → SMT → Option (Int32 × SMT)) (hrec : ∀ (x1 : Int32) (x2 : Int32) (a0 : SMT) (Ni : SNI) (Np : SNP) (No : SNO) (Nx : SNX) (Nf : SNF) (Na : SNA) (Nh : SNH) (Nq : SNQ) (Nj : SNJ) (M0 : SMT) (rt : Nat) (r : Int32 × SMT), rec x1 x2 a0 = some r → o_Cn E l D m_cls (m_tys ca) y_MT_value cc_MT_value (rm_MT_value d) [.ref (ad 48), .int x1, .int x2] (m_cw ad ca ky ty rt Ni Np No Nx Nf Na Nh Nq Nj M0 a0) (m_cw ad ca ky ty rt Ni Np No Nx Nf Na Nh Nq Nj M0 r.2) (some (.int r.1))) (n : Nat) (u49_x2 : Int32) (u49_x3 : Int32) (u49_Ni : SNI) (u49_Np : SNP) (u49_No : SNO) (u49_Nx : SNX) (u49_Nf : SNF) (u49_Na : SNA) (u49_Nh : SNH) (u49_Nq : SNQ) (u49_Nj : SNJ) (u49_M0 : SMT) (u49_rt : Nat) (x4 : Int32) (a0 : SMT) {q : Nat × Int32 × SMT} (h : m_MT_array_j87 n rec u49_x2 u49_x3 x4 a0 = some q) (h0 : q.1 = 0 → o_At p l e (rm_MT_array d) s m args below meth c Q m_cls D A 6 49 [] (m_cw ad ca ky ty u49_rt u49_Ni u49_Np u49_No u49_Nx u49_Nf u49_Na u49_Nh u49_Nq u49_Nj u49_M0 q.2.2) [(0, .ref (ad 48)), (2, .int u49_x2), (3, .int u49_x3), (4, .int q.2.1)]) (h1 : q.1 ≠ 0 → (if q.1 = 1 then o_At p l e (rm_MT_array d) s m args below meth c Q m_cls D A 6 78 [] (m_cw ad ca ky ty u49_rt u49_Ni u49_Np u49_No u49_Nx u49_Nf u49_Na u49_Nh u49_Nq u49_Nj u49_M0 q.2.2) [(0, .ref (ad 48))] else if q.1 = 2 then o_At p l e (rm_MT_array d) s m args below meth c Q m_cls D A 6 104 [] (m_cw ad ca ky ty u49_rt u49_Ni u49_Np u49_No u49_Nx u49_Nf u49_Na u49_Nh u49_Nq u49_Nj u49_M0 q.2.2) [] else if q.1 = 3 then o_At p l e (rm_MT_array d) s m args below meth c Q m_cls D A 6 162 [] (m_cw ad ca ky ty u49_rt u49_Ni u49_Np u49_No u49_Nx u49_Nf u49_Na u49_Nh u49_Nq u49_Nj u49_M0 q.2.2) [(0, .ref (ad 48))] else o_At p l e (rm_MT_array d) s m args below meth c Q m_cls D A 6 187 [] (m_cw ad ca ky ty u49_rt u49_Ni u49_Np u49_No u49_Nx u49_Nf u49_Na u49_Nh u49_Nq u49_Nj u49_M0 q.2.2) [(0, .ref (ad 48))])) : o_At p l e (rm_MT_array d) s m args below meth c Q m_cls D A 6 87 [] (m_cw ad ca ky ty u49_rt u49_Ni u49_Np u49_No u49_Nx u49_Nf u49_Na u49_Nh u49_Nq u49_Nj u49_M0 a0) [(0, .ref (ad 48)), (2, .int u49_x2), (3, .int u49_x3), (4, .int x4)] := by
  unfold m_MT_array_j87 at h
  intro H locs ls hP hS hl
  have C0 := C
  obtain ⟨hx, hb, -, -, -, hown, hts, hK, -, -⟩ := C0
  refine lv_aload_n hx hb d_MT_array_87 rfl (lv_at hl 0 rfl) ?_
  refine o_get (v := .int (MT_values a0)) C in_MT hP 48 mw_48 rfl 13 (by decide) k_7_126 rfl rfl d_MT_array_88 ?_
  refine lv_topi (fun x5_91 ex5_91 => ?_)
  replace h := o_nm_at ex5_91 h
  refine lv_istore (lv' := [(5, .int x5_91), (0, .ref (ad 48)), (2, .int u49_x2), (3, .int u49_x3), (4, .int x4)]) hx hb d_MT_array_91 hl (by decide) rfl (fun ls hl => ?_)
  refine lv_aload_n hx hb d_MT_array_93 rfl (lv_at hl 1 rfl) ?_
  refine lv_iload_n hx hb d_MT_array_94 rfl (lv_at hl 3 rfl) ?_
  refine lv_iload_n hx hb d_MT_array_95 rfl (lv_at hl 2 rfl) ?_
  refine lv_iconst (v := (1:Int32)) hx hb d_MT_array_96 (by decide) ?_
  refine lv_iadd hx hb d_MT_array_97 ?_
  obtain ⟨q5, hq5, h⟩ := o_bd_some h
  refine o_V (st1 := [.int q5.1]) (w1 := (m_cw ad ca ky ty u49_rt u49_Ni u49_Np u49_No u49_Nx u49_Nf u49_Na u49_Nh u49_Nq u49_Nj u49_M0 q5.2)) hE.1 C (hrec u49_x3 (u49_x2 + (1:Int32)) a0 u49_Ni u49_Np u49_No u49_Nx u49_Nf u49_Na u49_Nh u49_Nq u49_Nj u49_M0 u49_rt _ hq5) hP (hDD _ _ _ _ _ _ _ _ _ _ _ _) hS hl.1 rfl mw_48 k_8_196 k_8_197 k_8_198 k_1_13 k_8_199 hv_MT_value rfl rfl ⟨(by dsimp only [rm_MT_array, rm_MT_value]; omega), (by dsimp only [rm_MT_array, rm_MT_value]; omega)⟩ rfl (Nat.le_of_ble_eq_true rfl) ⟨Nat.zero_le _, Nat.zero_le _⟩ rfl d_MT_array_98 (fun H locs hP hS => ?_)
  refine lv_if_ne (tgt := 106) hx hb d_MT_array_101 (by decide) (fun c4 => ?_) (fun c4 => ?_)
  · replace h := o_ff c4 h
    refine lv_iload hx hb d_MT_array_106 (lv_at hl 4 rfl) ?_
    refine lv_if_ge (tgt := 122) hx hb d_MT_array_108 (by decide) (fun c5 => ?_) (fun c5 => ?_)
    · replace h := o_tt c5 h
      refine lv_aload_n hx hb d_MT_array_122 rfl (lv_at hl 1 rfl) ?_
      refine o_get (v := .ref (ad 56)) C in_MT hP 48 mw_48 rfl 7 (by decide) k_7_114 rfl rfl d_MT_array_123 ?_
      refine lv_iload hx hb d_MT_array_126 (lv_at hl 4 rfl) ?_
      refine lv_iload hx hb d_MT_array_128 (lv_at hl 0 rfl) ?_
      obtain ⟨g6, h⟩ := o_gd_some h
      refine o_iast (f := (MT_next q5.2)) (w1 := (m_cw ad ca ky ty u49_rt u49_Ni u49_Np u49_No u49_Nx u49_Nf u49_Na u49_Nh u49_Nq u49_Nj u49_M0 (MT_mk (MT_text q5.2) (MT_kind q5.2) (MT_place q5.2) (MT_many q5.2) (MT_parent q5.2) (MT_power q5.2) (MT_first q5.2) (upd (MT_next q5.2) x4.toNatClampNeg x5_91) (MT_name q5.2) (MT_from q5.2) (MT_characters q5.2) (MT_digits q5.2) (MT_minus q5.2) (MT_values q5.2) (MT_letters q5.2) (MT_at q5.2) (MT_wrong q5.2) (MT_used q5.2) (MT_written q5.2) (MT_left q5.2)))) C hP (hDD _ _ _ _ _ _ _ _ _ _ _ _) hS 56 53 mw_56 rfl g6 rfl d_MT_array_130 (fun H locs hP hS => ?_)
      exact f_MT_array_j131_b hE hKy C hDD d rec hrec n u49_x2 u49_x3 u49_Ni u49_Np u49_No u49_Nx u49_Nf u49_Na u49_Nh u49_Nq u49_Nj u49_M0 u49_rt x5_91 (MT_mk (MT_text q5.2) (MT_kind q5.2) (MT_place q5.2) (MT_many q5.2) (MT_parent q5.2) (MT_power q5.2) (MT_first q5.2) (upd (MT_next q5.2) x4.toNatClampNeg x5_91) (MT_name q5.2) (MT_from q5.2) (MT_characters q5.2) (MT_digits q5.2) (MT_minus q5.2) (MT_values q5.2) (MT_letters q5.2) (MT_at q5.2) (MT_wrong q5.2) (MT_used q5.2) (MT_written q5.2) (MT_left q5.2)) h h0 h1 _ _ _ hP hS (lv_sub hl [1, 2, 3, 0] rfl)
    · replace h := o_ff c5 h
      refine lv_aload_n hx hb d_MT_array_111 rfl (lv_at hl 1 rfl) ?_
      refine o_get (v := .ref (ad 55)) C in_MT hP 48 mw_48 rfl 6 (by decide) k_7_112 rfl rfl d_MT_array_112 ?_
      refine lv_iload_n hx hb d_MT_array_115 rfl (lv_at hl 3 rfl) ?_
      refine lv_iload hx hb d_MT_array_116 (lv_at hl 0 rfl) ?_
      obtain ⟨g11, h⟩ := o_gd_some h
      refine o_iast (f := (MT_first q5.2)) (w1 := (m_cw ad ca ky ty u49_rt u49_Ni u49_Np u49_No u49_Nx u49_Nf u49_Na u49_Nh u49_Nq u49_Nj u49_M0 (MT_mk (MT_text q5.2) (MT_kind q5.2) (MT_place q5.2) (MT_many q5.2) (MT_parent q5.2) (MT_power q5.2) (upd (MT_first q5.2) u49_x3.toNatClampNeg x5_91) (MT_next q5.2) (MT_name q5.2) (MT_from q5.2) (MT_characters q5.2) (MT_digits q5.2) (MT_minus q5.2) (MT_values q5.2) (MT_letters q5.2) (MT_at q5.2) (MT_wrong q5.2) (MT_used q5.2) (MT_written q5.2) (MT_left q5.2)))) C hP (hDD _ _ _ _ _ _ _ _ _ _ _ _) hS 55 52 mw_55 rfl g11 rfl d_MT_array_118 (fun H locs hP hS => ?_)
      refine lv_goto (tgt := 131) hx hb d_MT_array_119 (by decide) ?_
      exact f_MT_array_j131_b hE hKy C hDD d rec hrec n u49_x2 u49_x3 u49_Ni u49_Np u49_No u49_Nx u49_Nf u49_Na u49_Nh u49_Nq u49_Nj u49_M0 u49_rt x5_91 (MT_mk (MT_text q5.2) (MT_kind q5.2) (MT_place q5.2) (MT_many q5.2) (MT_parent q5.2) (MT_power q5.2) (upd (MT_first q5.2) u49_x3.toNatClampNeg x5_91) (MT_next q5.2) (MT_name q5.2) (MT_from q5.2) (MT_characters q5.2) (MT_digits q5.2) (MT_minus q5.2) (MT_values q5.2) (MT_letters q5.2) (MT_at q5.2) (MT_wrong q5.2) (MT_used q5.2) (MT_written q5.2) (MT_left q5.2)) h h0 h1 _ _ _ hP hS (lv_sub hl [1, 2, 3, 0] rfl)
  · replace h := o_tt c4 h
    cases h
    exact h1 (Nat.succ_ne_zero 1) _ _ _ hP hS (lv_sub hl [] rfl)
set_option maxHeartbeats 4000000 in
set_option maxRecDepth 100000 in
theorem f_MT_array_b49_b {E : (Nat → Prop) → State → Heap → Prop} {p : Program} {l : Launch} {e : Env} {s : State} {m : MethodId} {args : Array Value} {below : List Frame} {meth : Method} {c : Code} {D : va_G} {ad kd sd vd xd : Nat → Nat} {ca : Nat → ClassId} {A : Nat → Prop} {ky ty : Nat → Option Nat} {Q : State → Prop} (hE : o_EK E kd sd vd xd) (hKy : m_KY ky ty sd) (C : o_Cx E p s m args meth c D m_cls (m_tys ca) "SchemaJudgeModel$Text" b_MT_array (some .boolean) 6 cc_MT_array A) (hDD : ∀ (rt : Nat) (Ni : SNI) (Np : SNP) (No : SNO) (Nx : SNX) (Nf : SNF) (Na : SNA) (Nh : SNH) (Nq : SNQ) (Nj : SNJ) (M0 : SMT) (M1 : SMT), va_D A (m_cw ad ca ky ty rt Ni Np No Nx Nf Na Nh Nq Nj M0 M1)) (d : Nat) (rec : Int32 → Int32 → SMT → Option (Int32 × SMT)) (hrec : ∀ (x1 : Int32) (x2 : Int32) (a0 : SMT) (Ni : SNI) (Np : SNP) (No : SNO) (Nx : SNX) (Nf : SNF) (Na : SNA) (Nh : SNH) (Nq : SNQ) (Nj : SNJ) (M0 : SMT) (rt : Nat) (r : Int32 × SMT), rec x1 x2 a0 = some r → o_Cn E l D m_cls (m_tys ca) y_MT_value cc_MT_value (rm_MT_value d) [.ref (ad 48), .int x1, .int x2] (m_cw ad ca ky ty rt Ni Np No Nx Nf Na Nh Nq Nj M0 a0) (m_cw ad ca ky ty rt Ni Np No Nx Nf Na Nh Nq Nj M0 r.2) (some (.int r.1))) (n : Nat) (u49_x2 : Int32) (u49_x3 : Int32) (u49_Ni : SNI) (u49_Np : SNP) (u49_No : SNO) (u49_Nx : SNX) (u49_Nf : SNF) (u49_Na : SNA) (u49_Nh : SNH) (u49_Nq : SNQ) (u49_Nj : SNJ) (u49_M0 : SMT) (u49_rt : Nat) (z : Int32 × SMT) (q : Nat × Int32 × SMT) (h : m_MT_array_b49 n rec u49_x2 u49_x3 z = some q) (h0 : q.1 = 0 → o_At p l e (rm_MT_array d) s m args below meth c Q m_cls D A 6 49 [] (m_cw ad ca ky ty u49_rt u49_Ni u49_Np u49_No u49_Nx u49_Nf u49_Na u49_Nh u49_Nq u49_Nj u49_M0 q.2.2) [(0, .ref (ad 48)), (2, .int u49_x2), (3, .int u49_x3), (4, .int q.2.1)]) (h1 : q.1 ≠ 0 → (if q.1 = 1 then o_At p l e (rm_MT_array d) s m args below meth c Q m_cls D A 6 78 [] (m_cw ad ca ky ty u49_rt u49_Ni u49_Np u49_No u49_Nx u49_Nf u49_Na u49_Nh u49_Nq u49_Nj u49_M0 q.2.2) [(0, .ref (ad 48))] else if q.1 = 2 then o_At p l e (rm_MT_array d) s m args below meth c Q m_cls D A 6 104 [] (m_cw ad ca ky ty u49_rt u49_Ni u49_Np u49_No u49_Nx u49_Nf u49_Na u49_Nh u49_Nq u49_Nj u49_M0 q.2.2) [] else if q.1 = 3 then o_At p l e (rm_MT_array d) s m args below meth c Q m_cls D A 6 162 [] (m_cw ad ca ky ty u49_rt u49_Ni u49_Np u49_No u49_Nx u49_Nf u49_Na u49_Nh u49_Nq u49_Nj u49_M0 q.2.2) [(0, .ref (ad 48))] else o_At p l e (rm_MT_array d) s m args below meth c Q m_cls D A 6 187 [] (m_cw ad ca ky ty u49_rt u49_Ni u49_Np u49_No u49_Nx u49_Nf u49_Na u49_Nh u49_Nq u49_Nj u49_M0 q.2.2) [(0, .ref (ad 48))])) : o_At p l e (rm_MT_array d) s m args below meth c Q m_cls D A 6 49 [] (m_cw ad ca ky ty u49_rt u49_Ni u49_Np u49_No u49_Nx u49_Nf u49_Na u49_Nh u49_Nq u49_Nj u49_M0 z.2) [(0, .ref (ad 48)), (2, .int u49_x2), (3, .int u49_x3), (4, .int z.1)] := by
  unfold m_MT_array_b49 at h
  intro H locs ls hP hS hl
  have C0 := C
  obtain ⟨hx, hb, -, -, -, hown, hts, hK, -, -⟩ := C0
  refine lv_aload_n hx hb d_MT_array_49 rfl (lv_at hl 0 rfl) ?_
  obtain ⟨q4, hq4, h⟩ := o_bd_some h
  refine o_V (st1 := []) (w1 := (m_cw ad ca ky ty u49_rt u49_Ni u49_Np u49_No u49_Nx u49_Nf u49_Na u49_Nh u49_Nq u49_Nj u49_M0 q4)) hE.1 C (e_MT_blanks_b hE hKy l n z.2 u49_Ni u49_Np u49_No u49_Nx u49_Nf u49_Na u49_Nh u49_Nq u49_Nj u49_M0 u49_rt hq4) hP (hDD _ _ _ _ _ _ _ _ _ _ _ _) hS hl.1 rfl mw_48 k_8_188 k_8_189 k_8_190 k_1_13 k_8_191 hv_MT_blanks rfl rfl ⟨(by dsimp only [rm_MT_array, rm_MT_blanks]; omega), (by dsimp only [rm_MT_array, rm_MT_blanks]; omega)⟩ rfl (Nat.le_of_ble_eq_true rfl) ⟨Nat.zero_le _, Nat.zero_le _⟩ rfl d_MT_array_50 (fun H locs hP hS => ?_)
  refine lv_aload_n hx hb d_MT_array_53 rfl (lv_at hl 0 rfl) ?_
  refine o_get (v := .ref (ad 52)) C in_MT hP 48 mw_48 rfl 3 (by decide) k_7_106 rfl rfl d_MT_array_54 ?_
  refine lv_iload_n hx hb d_MT_array_57 rfl (lv_at hl 2 rfl) ?_
  obtain ⟨g2, h⟩ := o_gd_some h
  refine o_iald (f := (MT_many q4)) C hP 52 49 mw_52 rfl g2 d_MT_array_58 ?_
  refine lv_bipush (v := (60:Int32)) hx hb d_MT_array_59 (by decide) ?_
  refine lv_icmp_ne (tgt := 87) hx hb d_MT_array_61 (by decide) (fun c3 => ?_) (fun c3 => ?_)
  · replace h := o_ff c3 h
    exact f_MT_array_j87_b hE hKy C hDD d rec hrec n u49_x2 u49_x3 u49_Ni u49_Np u49_No u49_Nx u49_Nf u49_Na u49_Nh u49_Nq u49_Nj u49_M0 u49_rt z.1 q4 h h0 h1 _ _ _ hP hS (lv_sub hl [0, 1, 2, 3] rfl)
  · replace h := o_tt c3 h
    refine lv_aload_n hx hb d_MT_array_64 rfl (lv_at hl 0 rfl) ?_
    refine lv_aload_n hx hb d_MT_array_65 rfl (lv_at hl 0 rfl) ?_
    refine o_get (v := .int (MT_at q4)) C in_MT hP 48 mw_48 rfl 15 (by decide) k_7_129 rfl rfl d_MT_array_66 ?_
    obtain ⟨q9, hq9, h⟩ := o_bd_some h
    refine o_V (st1 := [.int q9]) (w1 := (m_cw ad ca ky ty u49_rt u49_Ni u49_Np u49_No u49_Nx u49_Nf u49_Na u49_Nh u49_Nq u49_Nj u49_M0 q4)) hE.1 C (e_MT_c_b hE hKy l (MT_at q4) q4 u49_Ni u49_Np u49_No u49_Nx u49_Nf u49_Na u49_Nh u49_Nq u49_Nj u49_M0 u49_rt hq9) hP (hDD _ _ _ _ _ _ _ _ _ _ _ _) hS hl.1 rfl mw_48 k_8_192 k_8_193 k_8_194 k_1_13 k_8_195 hv_MT_c rfl rfl ⟨(by dsimp only [rm_MT_array, rm_MT_c]; omega), (by dsimp only [rm_MT_array, rm_MT_c]; omega)⟩ rfl (Nat.le_of_ble_eq_true rfl) ⟨Nat.zero_le _, Nat.zero_le _⟩ rfl d_MT_array_69 (fun H locs hP hS => ?_)
    obtain ⟨q10, hq10, h⟩ := o_bd_some h
    refine o_S (st1 := [.int q10]) (w1 := (m_cw ad ca ky ty u49_rt u49_Ni u49_Np u49_No u49_Nx u49_Nf u49_Na u49_Nh u49_Nq u49_Nj u49_M0 q4)) hE.1 C (e_MT_begins hE hKy l q9 u49_Ni u49_Np u49_No u49_Nx u49_Nf u49_Na u49_Nh u49_Nq u49_Nj u49_M0 q4 u49_rt hq10) hP (hDD _ _ _ _ _ _ _ _ _ _ _ _) hS hl.1 k_9_18 k_9_19 k_1_13 k_9_20 hs_MT_begins rfl rfl ⟨(by dsimp only [rm_MT_array, rm_MT_begins]; omega), (by dsimp only [rm_MT_array, rm_MT_begins]; omega)⟩ rfl (Nat.le_of_ble_eq_true rfl) ⟨Nat.zero_le _, Nat.zero_le _⟩ rfl d_MT_array_72 (fun H locs hP hS => ?_)
    refine lv_if_eq (tgt := 87) hx hb d_MT_array_75 (by decide) (fun c12 => ?_) (fun c12 => ?_)
    · replace h := o_tt c12 h
      exact f_MT_array_j87_b hE hKy C hDD d rec hrec n u49_x2 u49_x3 u49_Ni u49_Np u49_No u49_Nx u49_Nf u49_Na u49_Nh u49_Nq u49_Nj u49_M0 u49_rt z.1 q4 h h0 h1 _ _ _ hP hS (lv_sub hl [0, 1, 2, 3] rfl)
    · replace h := o_ff c12 h
      cases h
      exact h1 (Nat.succ_ne_zero 0) _ _ _ hP hS (lv_sub hl [0] rfl)
set_option maxHeartbeats 4000000 in
set_option maxRecDepth 100000 in
theorem e_MT_array_b {E : (Nat → Prop) → State → Heap → Prop} {D : va_G} {ad kd sd vd xd : Nat → Nat} {ca : Nat → ClassId} {ky ty : Nat → Option Nat} (hE : o_EK E kd sd vd xd) (hKy : m_KY ky ty sd) (l : Launch) (n : Nat) (d : Nat) (rec : Int32 → Int32 → SMT → Option (Int32 × SMT)) (hrec : ∀ (x1 : Int32) (x2 : Int32) (a0 : SMT) (Ni : SNI) (Np : SNP) (No : SNO) (Nx : SNX) (Nf : SNF) (Na : SNA) (Nh : SNH) (Nq : SNQ) (Nj : SNJ) (M0 : SMT) (rt : Nat) (r : Int32 × SMT), rec x1 x2 a0 = some r → o_Cn E l D m_cls (m_tys ca) y_MT_value cc_MT_value (rm_MT_value d) [.ref (ad 48), .int x1, .int x2] (m_cw ad ca ky ty rt Ni Np No Nx Nf Na Nh Nq Nj M0 a0) (m_cw ad ca ky ty rt Ni Np No Nx Nf Na Nh Nq Nj M0 r.2) (some (.int r.1))) (x1 : Int32) (x2 : Int32) (a0 : SMT) (Ni : SNI) (Np : SNP) (No : SNO) (Nx : SNX) (Nf : SNF) (Na : SNA) (Nh : SNH) (Nq : SNQ) (Nj : SNJ) (M0 : SMT) (rt : Nat) {r : Int32 × SMT} (h : m_MT_array n rec x1 x2 a0 = some r) : o_Cn E l D m_cls (m_tys ca) y_MT_array cc_MT_array (rm_MT_array d) [.ref (ad 48), .int x1, .int x2] (m_cw ad ca ky ty rt Ni Np No Nx Nf Na Nh Nq Nj M0 a0) (m_cw ad ca ky ty rt Ni Np No Nx Nf Na Nh Nq Nj M0 r.2) (some (.int r.1)) := by
  refine o_Cn_of (by decide) (Nat.le_of_ble_eq_true rfl) ?_
  intro p e s m below meth c A ls C hD hP hS hl
  have hDD : ∀ (rt : Nat) (Ni : SNI) (Np : SNP) (No : SNO) (Nx : SNX) (Nf : SNF) (Na : SNA) (Nh : SNH) (Nq : SNQ) (Nj : SNJ) (M0 : SMT) (M1 : SMT), va_D A (m_cw ad ca ky ty rt Ni Np No Nx Nf Na Nh Nq Nj M0 M1) := fun _ _ _ _ _ _ _ _ _ _ _ _ => o_D_map hD rfl
  have hl : lv_has ls 6 [(0, .ref (ad 48)), (1, .int x1), (2, .int x2)] := hl
  unfold m_MT_array at h
  have C0 := C
  obtain ⟨hx, hb, -, -, -, hown, hts, hK, -, -⟩ := C0
  refine lv_aload_n hx hb d_MT_array_0 rfl (lv_at hl 0 rfl) ?_
  refine lv_iload_n hx hb d_MT_array_1 rfl (lv_at hl 1 rfl) ?_
  refine lv_iconst (v := (5:Int32)) hx hb d_MT_array_2 (by decide) ?_
  obtain ⟨q1, hq1, h⟩ := o_bd_some h
  refine o_V (st1 := [.int q1.1]) (w1 := (m_cw ad ca ky ty rt Ni Np No Nx Nf Na Nh Nq Nj M0 q1.2)) hE.1 C (e_MT_fresh_b hE hKy l x1 (5:Int32) a0 Ni Np No Nx Nf Na Nh Nq Nj M0 rt hq1) hP (hDD _ _ _ _ _ _ _ _ _ _ _ _) hS hl.1 rfl mw_48 k_8_212 k_8_213 k_8_214 k_1_13 k_8_215 hv_MT_fresh rfl rfl ⟨(by dsimp only [rm_MT_array, rm_MT_fresh]; omega), (by dsimp only [rm_MT_array, rm_MT_fresh]; omega)⟩ rfl (Nat.le_of_ble_eq_true rfl) ⟨Nat.zero_le _, Nat.zero_le _⟩ rfl d_MT_array_3 (fun H locs hP hS => ?_)
  refine lv_istore_n (lv' := [(3, .int q1.1), (0, .ref (ad 48)), (1, .int x1), (2, .int x2)]) hx hb d_MT_array_6 rfl hl (by decide) rfl (fun ls hl => ?_)
  refine lv_iconst (v := (-1:Int32)) hx hb d_MT_array_7 (by decide) ?_
  refine lv_istore (lv' := [(4, .int (-1:Int32)), (3, .int q1.1), (0, .ref (ad 48)), (1, .int x1), (2, .int x2)]) hx hb d_MT_array_8 hl (by decide) rfl (fun ls hl => ?_)
  refine lv_aload_n hx hb d_MT_array_10 rfl (lv_at hl 2 rfl) ?_
  refine lv_dup hx hb d_MT_array_11 rfl ?_
  refine o_get (v := .int (MT_at q1.2)) C in_MT hP 48 mw_48 rfl 15 (by decide) k_7_129 rfl rfl d_MT_array_12 ?_
  refine lv_iconst (v := (1:Int32)) hx hb d_MT_array_15 (by decide) ?_
  refine lv_iadd hx hb d_MT_array_16 ?_
  refine o_put (v := .int ((MT_at q1.2) + (1:Int32))) (ty := .int) (w1 := (m_cw ad ca ky ty rt Ni Np No Nx Nf Na Nh Nq Nj M0 (MT_mk (MT_text q1.2) (MT_kind q1.2) (MT_place q1.2) (MT_many q1.2) (MT_parent q1.2) (MT_power q1.2) (MT_first q1.2) (MT_next q1.2) (MT_name q1.2) (MT_from q1.2) (MT_characters q1.2) (MT_digits q1.2) (MT_minus q1.2) (MT_values q1.2) (MT_letters q1.2) ((MT_at q1.2) + (1:Int32)) (MT_wrong q1.2) (MT_used q1.2) (MT_written q1.2) (MT_left q1.2)))) C in_MT t_MT t_MT_ok n_MT hP (hDD _ _ _ _ _ _ _ _ _ _ _ _) hS 48 mw_48 rfl 15 (by decide) k_7_129 rfl rfl (by decide +kernel) rfl rfl (Nat.le_of_ble_eq_true rfl) rfl d_MT_array_17 (fun H locs hP hS => ?_)
  refine lv_aload_n hx hb d_MT_array_20 rfl (lv_at hl 2 rfl) ?_
  obtain ⟨q2, hq2, h⟩ := o_bd_some h
  refine o_V (st1 := []) (w1 := (m_cw ad ca ky ty rt Ni Np No Nx Nf Na Nh Nq Nj M0 q2)) hE.1 C (e_MT_blanks_b hE hKy l n (MT_mk (MT_text q1.2) (MT_kind q1.2) (MT_place q1.2) (MT_many q1.2) (MT_parent q1.2) (MT_power q1.2) (MT_first q1.2) (MT_next q1.2) (MT_name q1.2) (MT_from q1.2) (MT_characters q1.2) (MT_digits q1.2) (MT_minus q1.2) (MT_values q1.2) (MT_letters q1.2) ((MT_at q1.2) + (1:Int32)) (MT_wrong q1.2) (MT_used q1.2) (MT_written q1.2) (MT_left q1.2)) Ni Np No Nx Nf Na Nh Nq Nj M0 rt hq2) hP (hDD _ _ _ _ _ _ _ _ _ _ _ _) hS hl.1 rfl mw_48 k_8_188 k_8_189 k_8_190 k_1_13 k_8_191 hv_MT_blanks rfl rfl ⟨(by dsimp only [rm_MT_array, rm_MT_blanks]; omega), (by dsimp only [rm_MT_array, rm_MT_blanks]; omega)⟩ rfl (Nat.le_of_ble_eq_true rfl) ⟨Nat.zero_le _, Nat.zero_le _⟩ rfl d_MT_array_21 (fun H locs hP hS => ?_)
  refine lv_aload_n hx hb d_MT_array_24 rfl (lv_at hl 2 rfl) ?_
  refine lv_aload_n hx hb d_MT_array_25 rfl (lv_at hl 2 rfl) ?_
  refine o_get (v := .int (MT_at q2)) C in_MT hP 48 mw_48 rfl 15 (by decide) k_7_129 rfl rfl d_MT_array_26 ?_
  obtain ⟨q3, hq3, h⟩ := o_bd_some h
  refine o_V (st1 := [.int q3]) (w1 := (m_cw ad ca ky ty rt Ni Np No Nx Nf Na Nh Nq Nj M0 q2)) hE.1 C (e_MT_c_b hE hKy l (MT_at q2) q2 Ni Np No Nx Nf Na Nh Nq Nj M0 rt hq3) hP (hDD _ _ _ _ _ _ _ _ _ _ _ _) hS hl.1 rfl mw_48 k_8_192 k_8_193 k_8_194 k_1_13 k_8_195 hv_MT_c rfl rfl ⟨(by dsimp only [rm_MT_array, rm_MT_c]; omega), (by dsimp only [rm_MT_array, rm_MT_c]; omega)⟩ rfl (Nat.le_of_ble_eq_true rfl) ⟨Nat.zero_le _, Nat.zero_le _⟩ rfl d_MT_array_29 (fun H locs hP hS => ?_)
  refine lv_bipush (v := (93:Int32)) hx hb d_MT_array_32 (by decide) ?_
  refine lv_icmp_ne (tgt := 49) hx hb d_MT_array_34 (by decide) (fun c1 => ?_) (fun c1 => ?_)
  · replace h := o_ff c1 h
    obtain ⟨q11, hq11, h⟩ := o_bd_some h
    refine o_sim2 (AH := fun zz => o_At p l e (rm_MT_array d) s m _ below meth c _ m_cls D A 6 49 [] (m_cw ad ca ky ty rt Ni Np No Nx Nf Na Nh Nq Nj M0 zz.2) [(0, .ref (ad 48)), (2, .int x2), (3, .int q1.1), (4, .int zz.1)]) (AX := fun qq => if qq.1 = 1 then o_At p l e (rm_MT_array d) s m _ below meth c _ m_cls D A 6 78 [] (m_cw ad ca ky ty rt Ni Np No Nx Nf Na Nh Nq Nj M0 qq.2.2) [(0, .ref (ad 48))] else if qq.1 = 2 then o_At p l e (rm_MT_array d) s m _ below meth c _ m_cls D A 6 104 [] (m_cw ad ca ky ty rt Ni Np No Nx Nf Na Nh Nq Nj M0 qq.2.2) [] else if qq.1 = 3 then o_At p l e (rm_MT_array d) s m _ below meth c _ m_cls D A 6 162 [] (m_cw ad ca ky ty rt Ni Np No Nx Nf Na Nh Nq Nj M0 qq.2.2) [(0, .ref (ad 48))] else o_At p l e (rm_MT_array d) s m _ below meth c _ m_cls D A 6 187 [] (m_cw ad ca ky ty rt Ni Np No Nx Nf Na Nh Nq Nj M0 qq.2.2) [(0, .ref (ad 48))]) (fun zz qq h h0 h1 => f_MT_array_b49_b hE hKy C hDD d rec hrec n x2 q1.1 Ni Np No Nx Nf Na Nh Nq Nj M0 rt zz qq h h0 h1) n _ q11 hq11 ?_ _ _ _ hP hS (lv_sub hl [2, 4, 1, 0] rfl)
    by_cases c15 : q11.1 = 1
    · replace h := o_tt c15 h
      refine o_ip c15 ?_
      intro H locs ls hP hS hl
      refine lv_aload_n hx hb d_MT_array_78 rfl (lv_at hl 0 rfl) ?_
      refine lv_aload_n hx hb d_MT_array_79 rfl (lv_at hl 0 rfl) ?_
      refine o_get (v := .int (MT_at q11.2.2)) C in_MT hP 48 mw_48 rfl 15 (by decide) k_7_129 rfl rfl d_MT_array_80 ?_
      obtain ⟨q12, hq12, h⟩ := o_bd_some h
      refine o_V (st1 := [.int q12.1]) (w1 := (m_cw ad ca ky ty rt Ni Np No Nx Nf Na Nh Nq Nj M0 q12.2)) hE.1 C (e_MT_bad_b hE hKy l (MT_at q11.2.2) q11.2.2 Ni Np No Nx Nf Na Nh Nq Nj M0 rt hq12) hP (hDD _ _ _ _ _ _ _ _ _ _ _ _) hS hl.1 rfl mw_48 k_8_203 k_8_204 k_8_205 k_1_13 k_8_206 hv_MT_bad rfl rfl ⟨(by dsimp only [rm_MT_array, rm_MT_bad]; omega), (by dsimp only [rm_MT_array, rm_MT_bad]; omega)⟩ rfl (Nat.le_of_ble_eq_true rfl) ⟨Nat.zero_le _, Nat.zero_le _⟩ rfl d_MT_array_83 (fun H locs hP hS => ?_)
      obtain ⟨g13, h⟩ := o_gd_some h
      cases h
      exact o_rz C (o_zb_nar g13) hP hS d_MT_array_86
    replace h := o_ff c15 h
    refine o_in_ c15 ?_
    by_cases c16 : q11.1 = 2
    · replace h := o_tt c16 h
      refine o_ip c16 ?_
      intro H locs ls hP hS hl
      refine lv_iconst (v := (0:Int32)) hx hb d_MT_array_104 (by decide) ?_
      cases h
      exact o_rz (v := (0:Int32)) C o_nar0 hP hS d_MT_array_105
    replace h := o_ff c16 h
    refine o_in_ c16 ?_
    by_cases c17 : q11.1 = 3
    · replace h := o_tt c17 h
      refine o_ip c17 ?_
      intro H locs ls hP hS hl
      refine lv_aload_n hx hb d_MT_array_162 rfl (lv_at hl 0 rfl) ?_
      refine lv_dup hx hb d_MT_array_163 rfl ?_
      refine o_get (v := .int (MT_at q11.2.2)) C in_MT hP 48 mw_48 rfl 15 (by decide) k_7_129 rfl rfl d_MT_array_164 ?_
      refine lv_iconst (v := (1:Int32)) hx hb d_MT_array_167 (by decide) ?_
      refine lv_iadd hx hb d_MT_array_168 ?_
      refine o_put (v := .int ((MT_at q11.2.2) + (1:Int32))) (ty := .int) (w1 := (m_cw ad ca ky ty rt Ni Np No Nx Nf Na Nh Nq Nj M0 (MT_mk (MT_text q11.2.2) (MT_kind q11.2.2) (MT_place q11.2.2) (MT_many q11.2.2) (MT_parent q11.2.2) (MT_power q11.2.2) (MT_first q11.2.2) (MT_next q11.2.2) (MT_name q11.2.2) (MT_from q11.2.2) (MT_characters q11.2.2) (MT_digits q11.2.2) (MT_minus q11.2.2) (MT_values q11.2.2) (MT_letters q11.2.2) ((MT_at q11.2.2) + (1:Int32)) (MT_wrong q11.2.2) (MT_used q11.2.2) (MT_written q11.2.2) (MT_left q11.2.2)))) C in_MT t_MT t_MT_ok n_MT hP (hDD _ _ _ _ _ _ _ _ _ _ _ _) hS 48 mw_48 rfl 15 (by decide) k_7_129 rfl rfl (by decide +kernel) rfl rfl (Nat.le_of_ble_eq_true rfl) rfl d_MT_array_169 (fun H locs hP hS => ?_)
      refine lv_iconst (v := (1:Int32)) hx hb d_MT_array_172 (by decide) ?_
      cases h
      exact o_rz (v := (1:Int32)) C o_nar1 hP hS d_MT_array_173
    replace h := o_ff c17 h
    refine o_in_ c17 ?_
    intro H locs ls hP hS hl
    refine lv_aload_n hx hb d_MT_array_187 rfl (lv_at hl 0 rfl) ?_
    refine lv_aload_n hx hb d_MT_array_188 rfl (lv_at hl 0 rfl) ?_
    refine o_get (v := .int (MT_at q11.2.2)) C in_MT hP 48 mw_48 rfl 15 (by decide) k_7_129 rfl rfl d_MT_array_189 ?_
    obtain ⟨q13, hq13, h⟩ := o_bd_some h
    refine o_V (st1 := [.int q13.1]) (w1 := (m_cw ad ca ky ty rt Ni Np No Nx Nf Na Nh Nq Nj M0 q13.2)) hE.1 C (e_MT_bad_b hE hKy l (MT_at q11.2.2) q11.2.2 Ni Np No Nx Nf Na Nh Nq Nj M0 rt hq13) hP (hDD _ _ _ _ _ _ _ _ _ _ _ _) hS hl.1 rfl mw_48 k_8_203 k_8_204 k_8_205 k_1_13 k_8_206 hv_MT_bad rfl rfl ⟨(by dsimp only [rm_MT_array, rm_MT_bad]; omega), (by dsimp only [rm_MT_array, rm_MT_bad]; omega)⟩ rfl (Nat.le_of_ble_eq_true rfl) ⟨Nat.zero_le _, Nat.zero_le _⟩ rfl d_MT_array_192 (fun H locs hP hS => ?_)
    obtain ⟨g14, h⟩ := o_gd_some h
    cases h
    exact o_rz C (o_zb_nar g14) hP hS d_MT_array_195
  · replace h := o_tt c1 h
    refine lv_aload_n hx hb d_MT_array_37 rfl (lv_at hl 2 rfl) ?_
    refine lv_dup hx hb d_MT_array_38 rfl ?_
    refine o_get (v := .int (MT_at q2)) C in_MT hP 48 mw_48 rfl 15 (by decide) k_7_129 rfl rfl d_MT_array_39 ?_
    refine lv_iconst (v := (1:Int32)) hx hb d_MT_array_42 (by decide) ?_
    refine lv_iadd hx hb d_MT_array_43 ?_
    refine o_put (v := .int ((MT_at q2) + (1:Int32))) (ty := .int) (w1 := (m_cw ad ca ky ty rt Ni Np No Nx Nf Na Nh Nq Nj M0 (MT_mk (MT_text q2) (MT_kind q2) (MT_place q2) (MT_many q2) (MT_parent q2) (MT_power q2) (MT_first q2) (MT_next q2) (MT_name q2) (MT_from q2) (MT_characters q2) (MT_digits q2) (MT_minus q2) (MT_values q2) (MT_letters q2) ((MT_at q2) + (1:Int32)) (MT_wrong q2) (MT_used q2) (MT_written q2) (MT_left q2)))) C in_MT t_MT t_MT_ok n_MT hP (hDD _ _ _ _ _ _ _ _ _ _ _ _) hS 48 mw_48 rfl 15 (by decide) k_7_129 rfl rfl (by decide +kernel) rfl rfl (Nat.le_of_ble_eq_true rfl) rfl d_MT_array_44 (fun H locs hP hS => ?_)
    refine lv_iconst (v := (1:Int32)) hx hb d_MT_array_47 (by decide) ?_
    cases h
    exact o_rz (v := (1:Int32)) C o_nar1 hP hS d_MT_array_48
set_option maxHeartbeats 4000000 in
set_option maxRecDepth 100000 in
theorem f_MT_value_j83_a {E : (Nat → Prop) → State → Heap → Prop} {p : Program} {l : Launch} {e : Env} {s : State} {m : MethodId} {args : Array Value} {below : List Frame} {meth : Method} {c : Code} {D : va_G} {ad kd sd vd xd : Nat → Nat} {ca : Nat → ClassId} {A : Nat → Prop} {ky ty : Nat → Option Nat} (hE : o_EK E kd sd vd xd) (hKy : m_KY ky ty sd) (C : o_Cx E p s m args meth c D m_cls (m_tys ca) "SchemaJudgeModel$Text" b_MT_value (some .boolean) 5 cc_MT_value A) (hDD : ∀ (rt : Nat) (Ni : SNI) (Np : SNP) (No : SNO) (Nx : SNX) (Nf : SNF) (Na : SNA) (Nh : SNH) (Nq : SNQ) (Nj : SNJ) (M0 : SMT) (M1 : SMT), va_D A (m_cw ad ca ky ty rt Ni Np No Nx Nf Na Nh Nq Nj M0 M1)) (d : Nat) (rec : Int32 → Int32 → SMT → Option (Int32 × SMT)) (hrec : ∀ (x1 : Int32) (x2 : Int32) (a0 : SMT) (Ni : SNI) (Np : SNP) (No : SNO) (Nx : SNX) (Nf : SNF) (Na : SNA) (Nh : SNH) (Nq : SNQ) (Nj : SNJ) (M1 : SMT) (rt : Nat) (r : Int32 × SMT), rec x1 x2 a0 = some r → o_Cn E l D m_cls (m_tys ca) y_MT_value cc_MT_value (rm_MT_value d) [.ref (ad 33), .int x1, .int x2] (m_cw ad ca ky ty rt Ni Np No Nx Nf Na Nh Nq Nj a0 M1) (m_cw ad ca ky ty rt Ni Np No Nx Nf Na Nh Nq Nj r.2 M1) (some (.int r.1))) (n : Nat) (x1 : Int32) (x2 : Int32) (x3 : Int32) (x4 : Int32) (a0 : SMT) (Ni : SNI) (Np : SNP) (No : SNO) (Nx : SNX) (Nf : SNF) (Na : SNA) (Nh : SNH) (Nq : SNQ) (Nj : SNJ) (M1 : SMT) (rt : Nat) {r : Int32 × SMT} (h : m_MT_value_j83 n rec x1 x2 x3 x4 a0 = some r) : o_At p l e (rm_MT_value (d + 1)) s m args below meth c (MQ below (o_Qx D m_cls (some (.int r.1)) (m_cw ad ca ky ty rt Ni Np No Nx Nf Na Nh Nq Nj r.2 M1) A) args s 0 0 A) m_cls D A 5 83 [] (m_cw ad ca ky ty rt Ni Np No Nx Nf Na Nh Nq Nj a0 M1) [(0, .ref (ad 33)), (1, .int x1), (2, .int x2), (3, .int x3), (4, .int x4)] := by
  unfold m_MT_value_j83 at h
  intro H locs ls hP hS hl
  have C0 := C
  obtain ⟨hx, hb, -, -, -, hown, hts, hK, -, -⟩ := C0
  refine lv_aload_n hx hb d_MT_value_83 rfl (lv_at hl 0 rfl) ?_
  refine o_get (v := .int (MT_values a0)) C in_MT hP 33 mw_33 rfl 13 (by decide) k_7_126 rfl rfl d_MT_value_84 ?_
  refine lv_sipush (v := (1000:Int32)) hx hb d_MT_value_87 (by decide) ?_
  refine lv_icmp_ne (tgt := 102) hx hb d_MT_value_90 (by decide) (fun c3 => ?_) (fun c3 => ?_)
  · replace h := o_ff c3 h
    refine lv_iload_n hx hb d_MT_value_102 rfl (lv_at hl 3 rfl) ?_
    refine lv_bipush (v := (110:Int32)) hx hb d_MT_value_103 (by decide) ?_
    refine lv_icmp_ne (tgt := 117) hx hb d_MT_value_105 (by decide) (fun c4 => ?_) (fun c4 => ?_)
    · replace h := o_ff c4 h
      refine lv_iload_n hx hb d_MT_value_117 rfl (lv_at hl 3 rfl) ?_
      refine lv_bipush (v := (116:Int32)) hx hb d_MT_value_118 (by decide) ?_
      refine lv_icmp_ne (tgt := 132) hx hb d_MT_value_120 (by decide) (fun c5 => ?_) (fun c5 => ?_)
      · replace h := o_ff c5 h
        refine lv_iload_n hx hb d_MT_value_132 rfl (lv_at hl 3 rfl) ?_
        refine lv_bipush (v := (102:Int32)) hx hb d_MT_value_133 (by decide) ?_
        refine lv_icmp_ne (tgt := 147) hx hb d_MT_value_135 (by decide) (fun c6 => ?_) (fun c6 => ?_)
        · replace h := o_ff c6 h
          refine lv_iload_n hx hb d_MT_value_147 rfl (lv_at hl 3 rfl) ?_
          refine lv_bipush (v := (34:Int32)) hx hb d_MT_value_148 (by decide) ?_
          refine lv_icmp_ne (tgt := 159) hx hb d_MT_value_150 (by decide) (fun c7 => ?_) (fun c7 => ?_)
          · replace h := o_ff c7 h
            refine lv_iload hx hb d_MT_value_159 (lv_at hl 4 rfl) ?_
            refine lv_if_eq (tgt := 170) hx hb d_MT_value_161 (by decide) (fun c8 => ?_) (fun c8 => ?_)
            · replace h := o_tt c8 h
              refine lv_iload_n hx hb d_MT_value_170 rfl (lv_at hl 2 rfl) ?_
              refine lv_bipush (v := (40:Int32)) hx hb d_MT_value_171 (by decide) ?_
              refine lv_icmp_ne (tgt := 185) hx hb d_MT_value_173 (by decide) (fun c9 => ?_) (fun c9 => ?_)
              · replace h := o_ff c9 h
                refine lv_iload_n hx hb d_MT_value_185 rfl (lv_at hl 3 rfl) ?_
                refine lv_bipush (v := (91:Int32)) hx hb d_MT_value_186 (by decide) ?_
                refine lv_icmp_ne (tgt := 200) hx hb d_MT_value_188 (by decide) (fun c10 => ?_) (fun c10 => ?_)
                · replace h := o_ff c10 h
                  refine lv_aload_n hx hb d_MT_value_200 rfl (lv_at hl 0 rfl) ?_
                  refine lv_iload_n hx hb d_MT_value_201 rfl (lv_at hl 1 rfl) ?_
                  refine lv_iload_n hx hb d_MT_value_202 rfl (lv_at hl 2 rfl) ?_
                  obtain ⟨q3, hq3, h⟩ := o_bd_some h
                  refine o_V (st1 := [.int q3.1]) (w1 := (m_cw ad ca ky ty rt Ni Np No Nx Nf Na Nh Nq Nj q3.2 M1)) hE.1 C (e_MT_object_a hE hKy l n d rec hrec x1 x2 a0 Ni Np No Nx Nf Na Nh Nq Nj M1 rt hq3) hP (hDD _ _ _ _ _ _ _ _ _ _ _ _) hS hl.1 rfl mw_33 k_9_21 k_9_22 k_9_23 k_1_13 k_9_24 hv_MT_object rfl rfl ⟨(by dsimp only [rm_MT_value, rm_MT_object]; omega), (by dsimp only [rm_MT_value, rm_MT_object]; omega)⟩ rfl (Nat.le_of_ble_eq_true rfl) ⟨Nat.zero_le _, Nat.zero_le _⟩ rfl d_MT_value_203 (fun H locs hP hS => ?_)
                  obtain ⟨g11, h⟩ := o_gd_some h
                  cases h
                  exact o_rz C (o_zb_nar g11) hP hS d_MT_value_206
                · replace h := o_tt c10 h
                  refine lv_aload_n hx hb d_MT_value_191 rfl (lv_at hl 0 rfl) ?_
                  refine lv_iload_n hx hb d_MT_value_192 rfl (lv_at hl 1 rfl) ?_
                  refine lv_iload_n hx hb d_MT_value_193 rfl (lv_at hl 2 rfl) ?_
                  obtain ⟨q4, hq4, h⟩ := o_bd_some h
                  refine o_V (st1 := [.int q4.1]) (w1 := (m_cw ad ca ky ty rt Ni Np No Nx Nf Na Nh Nq Nj q4.2 M1)) hE.1 C (e_MT_array_a hE hKy l n d rec hrec x1 x2 a0 Ni Np No Nx Nf Na Nh Nq Nj M1 rt hq4) hP (hDD _ _ _ _ _ _ _ _ _ _ _ _) hS hl.1 rfl mw_33 k_9_14 k_9_15 k_9_16 k_1_13 k_9_17 hv_MT_array rfl rfl ⟨(by dsimp only [rm_MT_value, rm_MT_array]; omega), (by dsimp only [rm_MT_value, rm_MT_array]; omega)⟩ rfl (Nat.le_of_ble_eq_true rfl) ⟨Nat.zero_le _, Nat.zero_le _⟩ rfl d_MT_value_194 (fun H locs hP hS => ?_)
                  refine lv_goto (tgt := 206) hx hb d_MT_value_197 (by decide) ?_
                  obtain ⟨g12, h⟩ := o_gd_some h
                  cases h
                  exact o_rz C (o_zb_nar g12) hP hS d_MT_value_206
              · replace h := o_tt c9 h
                refine lv_aload_n hx hb d_MT_value_176 rfl (lv_at hl 0 rfl) ?_
                refine lv_aload_n hx hb d_MT_value_177 rfl (lv_at hl 0 rfl) ?_
                refine o_get (v := .int (MT_at a0)) C in_MT hP 33 mw_33 rfl 15 (by decide) k_7_129 rfl rfl d_MT_value_178 ?_
                obtain ⟨q5, hq5, h⟩ := o_bd_some h
                refine o_V (st1 := [.int q5.1]) (w1 := (m_cw ad ca ky ty rt Ni Np No Nx Nf Na Nh Nq Nj q5.2 M1)) hE.1 C (e_MT_bad_a hE hKy l (MT_at a0) a0 Ni Np No Nx Nf Na Nh Nq Nj M1 rt hq5) hP (hDD _ _ _ _ _ _ _ _ _ _ _ _) hS hl.1 rfl mw_33 k_8_203 k_8_204 k_8_205 k_1_13 k_8_206 hv_MT_bad rfl rfl ⟨(by dsimp only [rm_MT_value, rm_MT_bad]; omega), (by dsimp only [rm_MT_value, rm_MT_bad]; omega)⟩ rfl (Nat.le_of_ble_eq_true rfl) ⟨Nat.zero_le _, Nat.zero_le _⟩ rfl d_MT_value_181 (fun H locs hP hS => ?_)
                obtain ⟨g13, h⟩ := o_gd_some h
                cases h
                exact o_rz C (o_zb_nar g13) hP hS d_MT_value_184
            · replace h := o_ff c8 h
              refine lv_aload_n hx hb d_MT_value_164 rfl (lv_at hl 0 rfl) ?_
              refine lv_iload_n hx hb d_MT_value_165 rfl (lv_at hl 1 rfl) ?_
              obtain ⟨q6, hq6, h⟩ := o_bd_some h
              refine o_V (st1 := [.int q6.1]) (w1 := (m_cw ad ca ky ty rt Ni Np No Nx Nf Na Nh Nq Nj q6.2 M1)) hE.1 C (e_MT_number_a hE hKy l n x1 a0 Ni Np No Nx Nf Na Nh Nq Nj M1 rt hq6) hP (hDD _ _ _ _ _ _ _ _ _ _ _ _) hS hl.1 rfl mw_33 k_9_9 k_9_10 k_9_11 k_1_13 k_9_12 hv_MT_number rfl rfl ⟨(by dsimp only [rm_MT_value, rm_MT_number]; omega), (by dsimp only [rm_MT_value, rm_MT_number]; omega)⟩ rfl (Nat.le_of_ble_eq_true rfl) ⟨Nat.zero_le _, Nat.zero_le _⟩ rfl d_MT_value_166 (fun H locs hP hS => ?_)
              obtain ⟨g14, h⟩ := o_gd_some h
              cases h
              exact o_rz C (o_zb_nar g14) hP hS d_MT_value_169
          · replace h := o_tt c7 h
            refine lv_aload_n hx hb d_MT_value_153 rfl (lv_at hl 0 rfl) ?_
            refine lv_iload_n hx hb d_MT_value_154 rfl (lv_at hl 1 rfl) ?_
            obtain ⟨q7, hq7, h⟩ := o_bd_some h
            refine o_V (st1 := [.int q7.1]) (w1 := (m_cw ad ca ky ty rt Ni Np No Nx Nf Na Nh Nq Nj q7.2 M1)) hE.1 C (e_MT_string_a hE hKy l n x1 a0 Ni Np No Nx Nf Na Nh Nq Nj M1 rt hq7) hP (hDD _ _ _ _ _ _ _ _ _ _ _ _) hS hl.1 rfl mw_33 k_8_220 k_8_221 k_8_222 k_1_13 k_8_223 hv_MT_string rfl rfl ⟨(by dsimp only [rm_MT_value, rm_MT_string]; omega), (by dsimp only [rm_MT_value, rm_MT_string]; omega)⟩ rfl (Nat.le_of_ble_eq_true rfl) ⟨Nat.zero_le _, Nat.zero_le _⟩ rfl d_MT_value_155 (fun H locs hP hS => ?_)
            obtain ⟨g15, h⟩ := o_gd_some h
            cases h
            exact o_rz C (o_zb_nar g15) hP hS d_MT_value_158
        · replace h := o_tt c6 h
          refine lv_aload_n hx hb d_MT_value_138 rfl (lv_at hl 0 rfl) ?_
          refine va_ldcS (q := sd 3) hx hb hown (hE.2.2.2.2.2.1 _ _ _ C.2.2.2.2.2.2.2.2.2 ("SchemaJudgeModel$Text", 115, "false", 3) (List.mem_of_getElem? (i := 86) rfl)) d_MT_value_139 ?_
          refine lv_iload_n hx hb d_MT_value_141 rfl (lv_at hl 1 rfl) ?_
          refine lv_iconst (v := (1:Int32)) hx hb d_MT_value_142 (by decide) ?_
          obtain ⟨q8, hq8, h⟩ := o_bd_some h
          refine o_V (st1 := [.int q8.1]) (w1 := (m_cw ad ca ky ty rt Ni Np No Nx Nf Na Nh Nq Nj q8.2 M1)) hE.1 C (e_MT_word_a hE hKy l n 3 rfl x1 (1:Int32) a0 Ni Np No Nx Nf Na Nh Nq Nj M1 rt hq8) hP (hDD _ _ _ _ _ _ _ _ _ _ _ _) hS hl.1 rfl mw_33 k_8_208 k_8_209 k_8_210 k_1_13 k_8_211 hv_MT_word rfl rfl ⟨(by dsimp only [rm_MT_value, rm_MT_word]; omega), (by dsimp only [rm_MT_value, rm_MT_word]; omega)⟩ rfl (Nat.le_of_ble_eq_true rfl) ⟨Nat.zero_le _, Nat.zero_le _⟩ rfl d_MT_value_143 (fun H locs hP hS => ?_)
          obtain ⟨g16, h⟩ := o_gd_some h
          cases h
          exact o_rz C (o_zb_nar g16) hP hS d_MT_value_146
      · replace h := o_tt c5 h
        refine lv_aload_n hx hb d_MT_value_123 rfl (lv_at hl 0 rfl) ?_
        refine va_ldcS (q := sd 4) hx hb hown (hE.2.2.2.2.2.1 _ _ _ C.2.2.2.2.2.2.2.2.2 ("SchemaJudgeModel$Text", 113, "true", 4) (List.mem_of_getElem? (i := 85) rfl)) d_MT_value_124 ?_
        refine lv_iload_n hx hb d_MT_value_126 rfl (lv_at hl 1 rfl) ?_
        refine lv_iconst (v := (2:Int32)) hx hb d_MT_value_127 (by decide) ?_
        obtain ⟨q9, hq9, h⟩ := o_bd_some h
        refine o_V (st1 := [.int q9.1]) (w1 := (m_cw ad ca ky ty rt Ni Np No Nx Nf Na Nh Nq Nj q9.2 M1)) hE.1 C (e_MT_word_a hE hKy l n 4 rfl x1 (2:Int32) a0 Ni Np No Nx Nf Na Nh Nq Nj M1 rt hq9) hP (hDD _ _ _ _ _ _ _ _ _ _ _ _) hS hl.1 rfl mw_33 k_8_208 k_8_209 k_8_210 k_1_13 k_8_211 hv_MT_word rfl rfl ⟨(by dsimp only [rm_MT_value, rm_MT_word]; omega), (by dsimp only [rm_MT_value, rm_MT_word]; omega)⟩ rfl (Nat.le_of_ble_eq_true rfl) ⟨Nat.zero_le _, Nat.zero_le _⟩ rfl d_MT_value_128 (fun H locs hP hS => ?_)
        obtain ⟨g17, h⟩ := o_gd_some h
        cases h
        exact o_rz C (o_zb_nar g17) hP hS d_MT_value_131
    · replace h := o_tt c4 h
      refine lv_aload_n hx hb d_MT_value_108 rfl (lv_at hl 0 rfl) ?_
      refine va_ldcS (q := sd 2) hx hb hown (hE.2.2.2.2.2.1 _ _ _ C.2.2.2.2.2.2.2.2.2 ("SchemaJudgeModel$Text", 107, "null", 2) (List.mem_of_getElem? (i := 84) rfl)) d_MT_value_109 ?_
      refine lv_iload_n hx hb d_MT_value_111 rfl (lv_at hl 1 rfl) ?_
      refine lv_iconst (v := (0:Int32)) hx hb d_MT_value_112 (by decide) ?_
      obtain ⟨q10, hq10, h⟩ := o_bd_some h
      refine o_V (st1 := [.int q10.1]) (w1 := (m_cw ad ca ky ty rt Ni Np No Nx Nf Na Nh Nq Nj q10.2 M1)) hE.1 C (e_MT_word_a hE hKy l n 2 rfl x1 (0:Int32) a0 Ni Np No Nx Nf Na Nh Nq Nj M1 rt hq10) hP (hDD _ _ _ _ _ _ _ _ _ _ _ _) hS hl.1 rfl mw_33 k_8_208 k_8_209 k_8_210 k_1_13 k_8_211 hv_MT_word rfl rfl ⟨(by dsimp only [rm_MT_value, rm_MT_word]; omega), (by dsimp only [rm_MT_value, rm_MT_word]; omega)⟩ rfl (Nat.le_of_ble_eq_true rfl) ⟨Nat.zero_le _, Nat.zero_le _⟩ rfl d_MT_value_113 (fun H locs hP hS => ?_)
      obtain ⟨g18, h⟩ := o_gd_some h
      cases h
      exact o_rz C (o_zb_nar g18) hP hS d_MT_value_116
  · replace h := o_tt c3 h
    refine lv_aload_n hx hb d_MT_value_93 rfl (lv_at hl 0 rfl) ?_
    refine lv_aload_n hx hb d_MT_value_94 rfl (lv_at hl 0 rfl) ?_
    refine o_get (v := .int (MT_at a0)) C in_MT hP 33 mw_33 rfl 15 (by decide) k_7_129 rfl rfl d_MT_value_95 ?_
    obtain ⟨q11, hq11, h⟩ := o_bd_some h
    refine o_V (st1 := [.int q11.1]) (w1 := (m_cw ad ca ky ty rt Ni Np No Nx Nf Na Nh Nq Nj q11.2 M1)) hE.1 C (e_MT_bad_a hE hKy l (MT_at a0) a0 Ni Np No Nx Nf Na Nh Nq Nj M1 rt hq11) hP (hDD _ _ _ _ _ _ _ _ _ _ _ _) hS hl.1 rfl mw_33 k_8_203 k_8_204 k_8_205 k_1_13 k_8_206 hv_MT_bad rfl rfl ⟨(by dsimp only [rm_MT_value, rm_MT_bad]; omega), (by dsimp only [rm_MT_value, rm_MT_bad]; omega)⟩ rfl (Nat.le_of_ble_eq_true rfl) ⟨Nat.zero_le _, Nat.zero_le _⟩ rfl d_MT_value_98 (fun H locs hP hS => ?_)
    obtain ⟨g19, h⟩ := o_gd_some h
    cases h
    exact o_rz C (o_zb_nar g19) hP hS d_MT_value_101
set_option maxHeartbeats 4000000 in
set_option maxRecDepth 100000 in
theorem f_MT_value_j31_a {E : (Nat → Prop) → State → Heap → Prop} {p : Program} {l : Launch} {e : Env} {s : State} {m : MethodId} {args : Array Value} {below : List Frame} {meth : Method} {c : Code} {D : va_G} {ad kd sd vd xd : Nat → Nat} {ca : Nat → ClassId} {A : Nat → Prop} {ky ty : Nat → Option Nat} (hE : o_EK E kd sd vd xd) (hKy : m_KY ky ty sd) (C : o_Cx E p s m args meth c D m_cls (m_tys ca) "SchemaJudgeModel$Text" b_MT_value (some .boolean) 5 cc_MT_value A) (hDD : ∀ (rt : Nat) (Ni : SNI) (Np : SNP) (No : SNO) (Nx : SNX) (Nf : SNF) (Na : SNA) (Nh : SNH) (Nq : SNQ) (Nj : SNJ) (M0 : SMT) (M1 : SMT), va_D A (m_cw ad ca ky ty rt Ni Np No Nx Nf Na Nh Nq Nj M0 M1)) (d : Nat) (rec : Int32 → Int32 → SMT → Option (Int32 × SMT)) (hrec : ∀ (x1 : Int32) (x2 : Int32) (a0 : SMT) (Ni : SNI) (Np : SNP) (No : SNO) (Nx : SNX) (Nf : SNF) (Na : SNA) (Nh : SNH) (Nq : SNQ) (Nj : SNJ) (M1 : SMT) (rt : Nat) (r : Int32 × SMT), rec x1 x2 a0 = some r → o_Cn E l D m_cls (m_tys ca) y_MT_value cc_MT_value (rm_MT_value d) [.ref (ad 33), .int x1, .int x2] (m_cw ad ca ky ty rt Ni Np No Nx Nf Na Nh Nq Nj a0 M1) (m_cw ad ca ky ty rt Ni Np No Nx Nf Na Nh Nq Nj r.2 M1) (some (.int r.1))) (n : Nat) (x1 : Int32) (x2 : Int32) (x3 : Int32) (y0 : Int32) (a0 : SMT) (Ni : SNI) (Np : SNP) (No : SNO) (Nx : SNX) (Nf : SNF) (Na : SNA) (Nh : SNH) (Nq : SNQ) (Nj : SNJ) (M1 : SMT) (rt : Nat) {r : Int32 × SMT} (h : m_MT_value_j31 n rec x1 x2 x3 y0 a0 = some r) : o_At p l e (rm_MT_value (d + 1)) s m args below meth c (MQ below (o_Qx D m_cls (some (.int r.1)) (m_cw ad ca ky ty rt Ni Np No Nx Nf Na Nh Nq Nj r.2 M1) A) args s 0 0 A) m_cls D A 5 31 [.int y0] (m_cw ad ca ky ty rt Ni Np No Nx Nf Na Nh Nq Nj a0 M1) [(0, .ref (ad 33)), (1, .int x1), (2, .int x2), (3, .int x3)] := by
  unfold m_MT_value_j31 at h
  intro H locs ls hP hS hl
  have C0 := C
  obtain ⟨hx, hb, -, -, -, hown, hts, hK, -, -⟩ := C0
  refine lv_istore (lv' := [(4, .int y0), (0, .ref (ad 33)), (1, .int x1), (2, .int x2), (3, .int x3)]) hx hb d_MT_value_31 hl (by decide) rfl (fun ls hl => ?_)
  refine lv_iload_n hx hb d_MT_value_33 rfl (lv_at hl 4 rfl) ?_
  refine lv_bipush (v := (110:Int32)) hx hb d_MT_value_34 (by decide) ?_
  refine lv_icmp_eq (tgt := 83) hx hb d_MT_value_36 (by decide) (fun c2 => ?_) (fun c2 => ?_)
  · replace h := o_tt c2 h
    exact f_MT_value_j83_a hE hKy C hDD d rec hrec n x1 x2 x3 y0 a0 Ni Np No Nx Nf Na Nh Nq Nj M1 rt h _ _ _ hP hS (lv_sub hl [1, 2, 3, 4, 0] rfl)
  · replace h := o_ff c2 h
    refine lv_iload_n hx hb d_MT_value_39 rfl (lv_at hl 4 rfl) ?_
    refine lv_bipush (v := (116:Int32)) hx hb d_MT_value_40 (by decide) ?_
    refine lv_icmp_eq (tgt := 83) hx hb d_MT_value_42 (by decide) (fun c20 => ?_) (fun c20 => ?_)
    · replace h := o_tt c20 h
      exact f_MT_value_j83_a hE hKy C hDD d rec hrec n x1 x2 x3 y0 a0 Ni Np No Nx Nf Na Nh Nq Nj M1 rt h _ _ _ hP hS (lv_sub hl [1, 2, 3, 4, 0] rfl)
    · replace h := o_ff c20 h
      refine lv_iload_n hx hb d_MT_value_45 rfl (lv_at hl 4 rfl) ?_
      refine lv_bipush (v := (102:Int32)) hx hb d_MT_value_46 (by decide) ?_
      refine lv_icmp_eq (tgt := 83) hx hb d_MT_value_48 (by decide) (fun c21 => ?_) (fun c21 => ?_)
      · replace h := o_tt c21 h
        exact f_MT_value_j83_a hE hKy C hDD d rec hrec n x1 x2 x3 y0 a0 Ni Np No Nx Nf Na Nh Nq Nj M1 rt h _ _ _ hP hS (lv_sub hl [1, 2, 3, 4, 0] rfl)
      · replace h := o_ff c21 h
        refine lv_iload_n hx hb d_MT_value_51 rfl (lv_at hl 4 rfl) ?_
        refine lv_bipush (v := (34:Int32)) hx hb d_MT_value_52 (by decide) ?_
        refine lv_icmp_eq (tgt := 83) hx hb d_MT_value_54 (by decide) (fun c22 => ?_) (fun c22 => ?_)
        · replace h := o_tt c22 h
          exact f_MT_value_j83_a hE hKy C hDD d rec hrec n x1 x2 x3 y0 a0 Ni Np No Nx Nf Na Nh Nq Nj M1 rt h _ _ _ hP hS (lv_sub hl [1, 2, 3, 4, 0] rfl)
        · replace h := o_ff c22 h
          refine lv_iload_n hx hb d_MT_value_57 rfl (lv_at hl 4 rfl) ?_
          refine lv_bipush (v := (91:Int32)) hx hb d_MT_value_58 (by decide) ?_
          refine lv_icmp_eq (tgt := 83) hx hb d_MT_value_60 (by decide) (fun c23 => ?_) (fun c23 => ?_)
          · replace h := o_tt c23 h
            exact f_MT_value_j83_a hE hKy C hDD d rec hrec n x1 x2 x3 y0 a0 Ni Np No Nx Nf Na Nh Nq Nj M1 rt h _ _ _ hP hS (lv_sub hl [1, 2, 3, 4, 0] rfl)
          · replace h := o_ff c23 h
            refine lv_iload_n hx hb d_MT_value_63 rfl (lv_at hl 4 rfl) ?_
            refine lv_bipush (v := (123:Int32)) hx hb d_MT_value_64 (by decide) ?_
            refine lv_icmp_eq (tgt := 83) hx hb d_MT_value_66 (by decide) (fun c24 => ?_) (fun c24 => ?_)
            · replace h := o_tt c24 h
              exact f_MT_value_j83_a hE hKy C hDD d rec hrec n x1 x2 x3 y0 a0 Ni Np No Nx Nf Na Nh Nq Nj M1 rt h _ _ _ hP hS (lv_sub hl [1, 2, 3, 4, 0] rfl)
            · replace h := o_ff c24 h
              refine lv_iload hx hb d_MT_value_69 (lv_at hl 0 rfl) ?_
              refine lv_if_ne (tgt := 83) hx hb d_MT_value_71 (by decide) (fun c25 => ?_) (fun c25 => ?_)
              · replace h := o_ff c25 h
                exact f_MT_value_j83_a hE hKy C hDD d rec hrec n x1 x2 x3 y0 a0 Ni Np No Nx Nf Na Nh Nq Nj M1 rt h _ _ _ hP hS (lv_sub hl [1, 2, 3, 4, 0] rfl)
              · replace h := o_tt c25 h
                refine lv_aload_n hx hb d_MT_value_74 rfl (lv_at hl 1 rfl) ?_
                refine lv_aload_n hx hb d_MT_value_75 rfl (lv_at hl 1 rfl) ?_
                refine o_get (v := .int (MT_at a0)) C in_MT hP 33 mw_33 rfl 15 (by decide) k_7_129 rfl rfl d_MT_value_76 ?_
                obtain ⟨q12, hq12, h⟩ := o_bd_some h
                refine o_V (st1 := [.int q12.1]) (w1 := (m_cw ad ca ky ty rt Ni Np No Nx Nf Na Nh Nq Nj q12.2 M1)) hE.1 C (e_MT_bad_a hE hKy l (MT_at a0) a0 Ni Np No Nx Nf Na Nh Nq Nj M1 rt hq12) hP (hDD _ _ _ _ _ _ _ _ _ _ _ _) hS hl.1 rfl mw_33 k_8_203 k_8_204 k_8_205 k_1_13 k_8_206 hv_MT_bad rfl rfl ⟨(by dsimp only [rm_MT_value, rm_MT_bad]; omega), (by dsimp only [rm_MT_value, rm_MT_bad]; omega)⟩ rfl (Nat.le_of_ble_eq_true rfl) ⟨Nat.zero_le _, Nat.zero_le _⟩ rfl d_MT_value_79 (fun H locs hP hS => ?_)
                obtain ⟨g26, h⟩ := o_gd_some h
                cases h
                exact o_rz C (o_zb_nar g26) hP hS d_MT_value_82
set_option maxHeartbeats 4000000 in
set_option maxRecDepth 100000 in
theorem e_MT_value_a_F {E : (Nat → Prop) → State → Heap → Prop} {D : va_G} {ad kd sd vd xd : Nat → Nat} {ca : Nat → ClassId} {ky ty : Nat → Option Nat} (hE : o_EK E kd sd vd xd) (hKy : m_KY ky ty sd) (l : Launch) (n : Nat) (d : Nat) (rec : Int32 → Int32 → SMT → Option (Int32 × SMT)) (hrec : ∀ (x1 : Int32) (x2 : Int32) (a0 : SMT) (Ni : SNI) (Np : SNP) (No : SNO) (Nx : SNX) (Nf : SNF) (Na : SNA) (Nh : SNH) (Nq : SNQ) (Nj : SNJ) (M1 : SMT) (rt : Nat) (r : Int32 × SMT), rec x1 x2 a0 = some r → o_Cn E l D m_cls (m_tys ca) y_MT_value cc_MT_value (rm_MT_value d) [.ref (ad 33), .int x1, .int x2] (m_cw ad ca ky ty rt Ni Np No Nx Nf Na Nh Nq Nj a0 M1) (m_cw ad ca ky ty rt Ni Np No Nx Nf Na Nh Nq Nj r.2 M1) (some (.int r.1))) (x1 : Int32) (x2 : Int32) (a0 : SMT) (Ni : SNI) (Np : SNP) (No : SNO) (Nx : SNX) (Nf : SNF) (Na : SNA) (Nh : SNH) (Nq : SNQ) (Nj : SNJ) (M1 : SMT) (rt : Nat) {r : Int32 × SMT} (h : m_MT_value_F n rec x1 x2 a0 = some r) : o_Cn E l D m_cls (m_tys ca) y_MT_value cc_MT_value (rm_MT_value (d + 1)) [.ref (ad 33), .int x1, .int x2] (m_cw ad ca ky ty rt Ni Np No Nx Nf Na Nh Nq Nj a0 M1) (m_cw ad ca ky ty rt Ni Np No Nx Nf Na Nh Nq Nj r.2 M1) (some (.int r.1)) := by
  refine o_Cn_of (by decide) (Nat.le_of_ble_eq_true rfl) ?_
  intro p e s m below meth c A ls C hD hP hS hl
  have hDD : ∀ (rt : Nat) (Ni : SNI) (Np : SNP) (No : SNO) (Nx : SNX) (Nf : SNF) (Na : SNA) (Nh : SNH) (Nq : SNQ) (Nj : SNJ) (M0 : SMT) (M1 : SMT), va_D A (m_cw ad ca ky ty rt Ni Np No Nx Nf Na Nh Nq Nj M0 M1) := fun _ _ _ _ _ _ _ _ _ _ _ _ => o_D_map hD rfl
  have hl : lv_has ls 5 [(0, .ref (ad 33)), (1, .int x1), (2, .int x2)] := hl
  unfold m_MT_value_F at h
  have C0 := C
  obtain ⟨hx, hb, -, -, -, hown, hts, hK, -, -⟩ := C0
  refine lv_aload_n hx hb d_MT_value_0 rfl (lv_at hl 0 rfl) ?_
  refine lv_aload_n hx hb d_MT_value_1 rfl (lv_at hl 0 rfl) ?_
  refine o_get (v := .int (MT_at a0)) C in_MT hP 33 mw_33 rfl 15 (by decide) k_7_129 rfl rfl d_MT_value_2 ?_
  obtain ⟨q1, hq1, h⟩ := o_bd_some h
  refine o_V (st1 := [.int q1]) (w1 := (m_cw ad ca ky ty rt Ni Np No Nx Nf Na Nh Nq Nj a0 M1)) hE.1 C (e_MT_c_a hE hKy l (MT_at a0) a0 Ni Np No Nx Nf Na Nh Nq Nj M1 rt hq1) hP (hDD _ _ _ _ _ _ _ _ _ _ _ _) hS hl.1 rfl mw_33 k_8_192 k_8_193 k_8_194 k_1_13 k_8_195 hv_MT_c rfl rfl ⟨(by dsimp only [rm_MT_value, rm_MT_c]; omega), (by dsimp only [rm_MT_value, rm_MT_c]; omega)⟩ rfl (Nat.le_of_ble_eq_true rfl) ⟨Nat.zero_le _, Nat.zero_le _⟩ rfl d_MT_value_5 (fun H locs hP hS => ?_)
  refine lv_istore_n (lv' := [(3, .int q1), (0, .ref (ad 33)), (1, .int x1), (2, .int x2)]) hx hb d_MT_value_8 rfl hl (by decide) rfl (fun ls hl => ?_)
  refine lv_iload_n hx hb d_MT_value_9 rfl (lv_at hl 0 rfl) ?_
  refine lv_bipush (v := (48:Int32)) hx hb d_MT_value_10 (by decide) ?_
  refine lv_bipush (v := (57:Int32)) hx hb d_MT_value_12 (by decide) ?_
  obtain ⟨q2, hq2, h⟩ := o_bd_some h
  refine o_SN (st1 := [.int q2]) (w1 := (m_cw ad ca ky ty rt Ni Np No Nx Nf Na Nh Nq Nj a0 M1)) hE.1 C (e_MM_in hE hKy l q1 (48:Int32) (57:Int32) Ni Np No Nx Nf Na Nh Nq Nj a0 M1 rt hq2) hP (hDD _ _ _ _ _ _ _ _ _ _ _ _) hS hl.1 (hE.2.1 _ _ _ C.2.2.2.2.2.2.2.2.2 _ nw_21) k_8_201 k_1_12 k_8_202 hs_MM_in rfl rfl ⟨(by dsimp only [rm_MT_value, rm_MM_in]; omega), (by dsimp only [rm_MT_value, rm_MM_in]; omega)⟩ rfl (Nat.le_of_ble_eq_true rfl) ⟨Nat.zero_le _, Nat.zero_le _⟩ rfl d_MT_value_14 (fun H locs hP hS => ?_)
  refine lv_if_ne (tgt := 26) hx hb d_MT_value_17 (by decide) (fun c1 => ?_) (fun c1 => ?_)
  · replace h := o_ff c1 h
    refine lv_iconst (v := (1:Int32)) hx hb d_MT_value_26 (by decide) ?_
    refine lv_goto (tgt := 31) hx hb d_MT_value_27 (by decide) ?_
    exact f_MT_value_j31_a hE hKy C hDD d rec hrec n x1 x2 q1 (1:Int32) a0 Ni Np No Nx Nf Na Nh Nq Nj M1 rt h _ _ _ hP hS (lv_sub hl [1, 2, 3, 0] rfl)
  · replace h := o_tt c1 h
    refine lv_iload_n hx hb d_MT_value_20 rfl (lv_at hl 0 rfl) ?_
    refine lv_bipush (v := (45:Int32)) hx hb d_MT_value_21 (by decide) ?_
    refine lv_icmp_ne (tgt := 30) hx hb d_MT_value_23 (by decide) (fun c27 => ?_) (fun c27 => ?_)
    · replace h := o_ff c27 h
      refine lv_iconst (v := (0:Int32)) hx hb d_MT_value_30 (by decide) ?_
      exact f_MT_value_j31_a hE hKy C hDD d rec hrec n x1 x2 q1 (0:Int32) a0 Ni Np No Nx Nf Na Nh Nq Nj M1 rt h _ _ _ hP hS (lv_sub hl [1, 2, 3, 0] rfl)
    · replace h := o_tt c27 h
      refine lv_iconst (v := (1:Int32)) hx hb d_MT_value_26 (by decide) ?_
      refine lv_goto (tgt := 31) hx hb d_MT_value_27 (by decide) ?_
      exact f_MT_value_j31_a hE hKy C hDD d rec hrec n x1 x2 q1 (1:Int32) a0 Ni Np No Nx Nf Na Nh Nq Nj M1 rt h _ _ _ hP hS (lv_sub hl [1, 2, 3, 0] rfl)
set_option maxHeartbeats 4000000 in
set_option maxRecDepth 100000 in
theorem e_MT_value_a {E : (Nat → Prop) → State → Heap → Prop} {D : va_G} {ad kd sd vd xd : Nat → Nat} {ca : Nat → ClassId} {ky ty : Nat → Option Nat} (hE : o_EK E kd sd vd xd) (hKy : m_KY ky ty sd) (l : Launch) (n : Nat) (d : Nat) (x1 : Int32) (x2 : Int32) (a0 : SMT) (Ni : SNI) (Np : SNP) (No : SNO) (Nx : SNX) (Nf : SNF) (Na : SNA) (Nh : SNH) (Nq : SNQ) (Nj : SNJ) (M1 : SMT) (rt : Nat) {r : Int32 × SMT} (h : m_MT_value n d x1 x2 a0 = some r) : o_Cn E l D m_cls (m_tys ca) y_MT_value cc_MT_value (rm_MT_value d) [.ref (ad 33), .int x1, .int x2] (m_cw ad ca ky ty rt Ni Np No Nx Nf Na Nh Nq Nj a0 M1) (m_cw ad ca ky ty rt Ni Np No Nx Nf Na Nh Nq Nj r.2 M1) (some (.int r.1)) := by
  induction d generalizing x1 x2 a0 Ni Np No Nx Nf Na Nh Nq Nj M1 rt r with
  | zero => cases h
  | succ d ih =>
    exact e_MT_value_a_F hE hKy l n d (m_MT_value n d) (fun x1 x2 a0 Ni Np No Nx Nf Na Nh Nq Nj M1 rt r h => ih x1 x2 a0 Ni Np No Nx Nf Na Nh Nq Nj M1 rt h) _ _ _ _ _ _ _ _ _ _ _ _ _ _ h
set_option maxHeartbeats 4000000 in
set_option maxRecDepth 100000 in
theorem f_MT_value_j83_b {E : (Nat → Prop) → State → Heap → Prop} {p : Program} {l : Launch} {e : Env} {s : State} {m : MethodId} {args : Array Value} {below : List Frame} {meth : Method} {c : Code} {D : va_G} {ad kd sd vd xd : Nat → Nat} {ca : Nat → ClassId} {A : Nat → Prop} {ky ty : Nat → Option Nat} (hE : o_EK E kd sd vd xd) (hKy : m_KY ky ty sd) (C : o_Cx E p s m args meth c D m_cls (m_tys ca) "SchemaJudgeModel$Text" b_MT_value (some .boolean) 5 cc_MT_value A) (hDD : ∀ (rt : Nat) (Ni : SNI) (Np : SNP) (No : SNO) (Nx : SNX) (Nf : SNF) (Na : SNA) (Nh : SNH) (Nq : SNQ) (Nj : SNJ) (M0 : SMT) (M1 : SMT), va_D A (m_cw ad ca ky ty rt Ni Np No Nx Nf Na Nh Nq Nj M0 M1)) (d : Nat) (rec : Int32 → Int32 → SMT → Option (Int32 × SMT)) (hrec : ∀ (x1 : Int32) (x2 : Int32) (a0 : SMT) (Ni : SNI) (Np : SNP) (No : SNO) (Nx : SNX) (Nf : SNF) (Na : SNA) (Nh : SNH) (Nq : SNQ) (Nj : SNJ) (M0 : SMT) (rt : Nat) (r : Int32 × SMT), rec x1 x2 a0 = some r → o_Cn E l D m_cls (m_tys ca) y_MT_value cc_MT_value (rm_MT_value d) [.ref (ad 48), .int x1, .int x2] (m_cw ad ca ky ty rt Ni Np No Nx Nf Na Nh Nq Nj M0 a0) (m_cw ad ca ky ty rt Ni Np No Nx Nf Na Nh Nq Nj M0 r.2) (some (.int r.1))) (n : Nat) (x1 : Int32) (x2 : Int32) (x3 : Int32) (x4 : Int32) (a0 : SMT) (Ni : SNI) (Np : SNP) (No : SNO) (Nx : SNX) (Nf : SNF) (Na : SNA) (Nh : SNH) (Nq : SNQ) (Nj : SNJ) (M0 : SMT) (rt : Nat) {r : Int32 × SMT} (h : m_MT_value_j83 n rec x1 x2 x3 x4 a0 = some r) : o_At p l e (rm_MT_value (d + 1)) s m args below meth c (MQ below (o_Qx D m_cls (some (.int r.1)) (m_cw ad ca ky ty rt Ni Np No Nx Nf Na Nh Nq Nj M0 r.2) A) args s 0 0 A) m_cls D A 5 83 [] (m_cw ad ca ky ty rt Ni Np No Nx Nf Na Nh Nq Nj M0 a0) [(0, .ref (ad 48)), (1, .int x1), (2, .int x2), (3, .int x3), (4, .int x4)] := by
  unfold m_MT_value_j83 at h
  intro H locs ls hP hS hl
  have C0 := C
  obtain ⟨hx, hb, -, -, -, hown, hts, hK, -, -⟩ := C0
  refine lv_aload_n hx hb d_MT_value_83 rfl (lv_at hl 0 rfl) ?_
  refine o_get (v := .int (MT_values a0)) C in_MT hP 48 mw_48 rfl 13 (by decide) k_7_126 rfl rfl d_MT_value_84 ?_
  refine lv_sipush (v := (1000:Int32)) hx hb d_MT_value_87 (by decide) ?_
  refine lv_icmp_ne (tgt := 102) hx hb d_MT_value_90 (by decide) (fun c3 => ?_) (fun c3 => ?_)
  · replace h := o_ff c3 h
    refine lv_iload_n hx hb d_MT_value_102 rfl (lv_at hl 3 rfl) ?_
    refine lv_bipush (v := (110:Int32)) hx hb d_MT_value_103 (by decide) ?_
    refine lv_icmp_ne (tgt := 117) hx hb d_MT_value_105 (by decide) (fun c4 => ?_) (fun c4 => ?_)
    · replace h := o_ff c4 h
      refine lv_iload_n hx hb d_MT_value_117 rfl (lv_at hl 3 rfl) ?_
      refine lv_bipush (v := (116:Int32)) hx hb d_MT_value_118 (by decide) ?_
      refine lv_icmp_ne (tgt := 132) hx hb d_MT_value_120 (by decide) (fun c5 => ?_) (fun c5 => ?_)
      · replace h := o_ff c5 h
        refine lv_iload_n hx hb d_MT_value_132 rfl (lv_at hl 3 rfl) ?_
        refine lv_bipush (v := (102:Int32)) hx hb d_MT_value_133 (by decide) ?_
        refine lv_icmp_ne (tgt := 147) hx hb d_MT_value_135 (by decide) (fun c6 => ?_) (fun c6 => ?_)
        · replace h := o_ff c6 h
          refine lv_iload_n hx hb d_MT_value_147 rfl (lv_at hl 3 rfl) ?_
          refine lv_bipush (v := (34:Int32)) hx hb d_MT_value_148 (by decide) ?_
          refine lv_icmp_ne (tgt := 159) hx hb d_MT_value_150 (by decide) (fun c7 => ?_) (fun c7 => ?_)
          · replace h := o_ff c7 h
            refine lv_iload hx hb d_MT_value_159 (lv_at hl 4 rfl) ?_
            refine lv_if_eq (tgt := 170) hx hb d_MT_value_161 (by decide) (fun c8 => ?_) (fun c8 => ?_)
            · replace h := o_tt c8 h
              refine lv_iload_n hx hb d_MT_value_170 rfl (lv_at hl 2 rfl) ?_
              refine lv_bipush (v := (40:Int32)) hx hb d_MT_value_171 (by decide) ?_
              refine lv_icmp_ne (tgt := 185) hx hb d_MT_value_173 (by decide) (fun c9 => ?_) (fun c9 => ?_)
              · replace h := o_ff c9 h
                refine lv_iload_n hx hb d_MT_value_185 rfl (lv_at hl 3 rfl) ?_
                refine lv_bipush (v := (91:Int32)) hx hb d_MT_value_186 (by decide) ?_
                refine lv_icmp_ne (tgt := 200) hx hb d_MT_value_188 (by decide) (fun c10 => ?_) (fun c10 => ?_)
                · replace h := o_ff c10 h
                  refine lv_aload_n hx hb d_MT_value_200 rfl (lv_at hl 0 rfl) ?_
                  refine lv_iload_n hx hb d_MT_value_201 rfl (lv_at hl 1 rfl) ?_
                  refine lv_iload_n hx hb d_MT_value_202 rfl (lv_at hl 2 rfl) ?_
                  obtain ⟨q3, hq3, h⟩ := o_bd_some h
                  refine o_V (st1 := [.int q3.1]) (w1 := (m_cw ad ca ky ty rt Ni Np No Nx Nf Na Nh Nq Nj M0 q3.2)) hE.1 C (e_MT_object_b hE hKy l n d rec hrec x1 x2 a0 Ni Np No Nx Nf Na Nh Nq Nj M0 rt hq3) hP (hDD _ _ _ _ _ _ _ _ _ _ _ _) hS hl.1 rfl mw_48 k_9_21 k_9_22 k_9_23 k_1_13 k_9_24 hv_MT_object rfl rfl ⟨(by dsimp only [rm_MT_value, rm_MT_object]; omega), (by dsimp only [rm_MT_value, rm_MT_object]; omega)⟩ rfl (Nat.le_of_ble_eq_true rfl) ⟨Nat.zero_le _, Nat.zero_le _⟩ rfl d_MT_value_203 (fun H locs hP hS => ?_)
                  obtain ⟨g11, h⟩ := o_gd_some h
                  cases h
                  exact o_rz C (o_zb_nar g11) hP hS d_MT_value_206
                · replace h := o_tt c10 h
                  refine lv_aload_n hx hb d_MT_value_191 rfl (lv_at hl 0 rfl) ?_
                  refine lv_iload_n hx hb d_MT_value_192 rfl (lv_at hl 1 rfl) ?_
                  refine lv_iload_n hx hb d_MT_value_193 rfl (lv_at hl 2 rfl) ?_
                  obtain ⟨q4, hq4, h⟩ := o_bd_some h
                  refine o_V (st1 := [.int q4.1]) (w1 := (m_cw ad ca ky ty rt Ni Np No Nx Nf Na Nh Nq Nj M0 q4.2)) hE.1 C (e_MT_array_b hE hKy l n d rec hrec x1 x2 a0 Ni Np No Nx Nf Na Nh Nq Nj M0 rt hq4) hP (hDD _ _ _ _ _ _ _ _ _ _ _ _) hS hl.1 rfl mw_48 k_9_14 k_9_15 k_9_16 k_1_13 k_9_17 hv_MT_array rfl rfl ⟨(by dsimp only [rm_MT_value, rm_MT_array]; omega), (by dsimp only [rm_MT_value, rm_MT_array]; omega)⟩ rfl (Nat.le_of_ble_eq_true rfl) ⟨Nat.zero_le _, Nat.zero_le _⟩ rfl d_MT_value_194 (fun H locs hP hS => ?_)
                  refine lv_goto (tgt := 206) hx hb d_MT_value_197 (by decide) ?_
                  obtain ⟨g12, h⟩ := o_gd_some h
                  cases h
                  exact o_rz C (o_zb_nar g12) hP hS d_MT_value_206
              · replace h := o_tt c9 h
                refine lv_aload_n hx hb d_MT_value_176 rfl (lv_at hl 0 rfl) ?_
                refine lv_aload_n hx hb d_MT_value_177 rfl (lv_at hl 0 rfl) ?_
                refine o_get (v := .int (MT_at a0)) C in_MT hP 48 mw_48 rfl 15 (by decide) k_7_129 rfl rfl d_MT_value_178 ?_
                obtain ⟨q5, hq5, h⟩ := o_bd_some h
                refine o_V (st1 := [.int q5.1]) (w1 := (m_cw ad ca ky ty rt Ni Np No Nx Nf Na Nh Nq Nj M0 q5.2)) hE.1 C (e_MT_bad_b hE hKy l (MT_at a0) a0 Ni Np No Nx Nf Na Nh Nq Nj M0 rt hq5) hP (hDD _ _ _ _ _ _ _ _ _ _ _ _) hS hl.1 rfl mw_48 k_8_203 k_8_204 k_8_205 k_1_13 k_8_206 hv_MT_bad rfl rfl ⟨(by dsimp only [rm_MT_value, rm_MT_bad]; omega), (by dsimp only [rm_MT_value, rm_MT_bad]; omega)⟩ rfl (Nat.le_of_ble_eq_true rfl) ⟨Nat.zero_le _, Nat.zero_le _⟩ rfl d_MT_value_181 (fun H locs hP hS => ?_)
                obtain ⟨g13, h⟩ := o_gd_some h
                cases h
                exact o_rz C (o_zb_nar g13) hP hS d_MT_value_184
            · replace h := o_ff c8 h
              refine lv_aload_n hx hb d_MT_value_164 rfl (lv_at hl 0 rfl) ?_
              refine lv_iload_n hx hb d_MT_value_165 rfl (lv_at hl 1 rfl) ?_
              obtain ⟨q6, hq6, h⟩ := o_bd_some h
              refine o_V (st1 := [.int q6.1]) (w1 := (m_cw ad ca ky ty rt Ni Np No Nx Nf Na Nh Nq Nj M0 q6.2)) hE.1 C (e_MT_number_b hE hKy l n x1 a0 Ni Np No Nx Nf Na Nh Nq Nj M0 rt hq6) hP (hDD _ _ _ _ _ _ _ _ _ _ _ _) hS hl.1 rfl mw_48 k_9_9 k_9_10 k_9_11 k_1_13 k_9_12 hv_MT_number rfl rfl ⟨(by dsimp only [rm_MT_value, rm_MT_number]; omega), (by dsimp only [rm_MT_value, rm_MT_number]; omega)⟩ rfl (Nat.le_of_ble_eq_true rfl) ⟨Nat.zero_le _, Nat.zero_le _⟩ rfl d_MT_value_166 (fun H locs hP hS => ?_)
              obtain ⟨g14, h⟩ := o_gd_some h
              cases h
              exact o_rz C (o_zb_nar g14) hP hS d_MT_value_169
          · replace h := o_tt c7 h
            refine lv_aload_n hx hb d_MT_value_153 rfl (lv_at hl 0 rfl) ?_
            refine lv_iload_n hx hb d_MT_value_154 rfl (lv_at hl 1 rfl) ?_
            obtain ⟨q7, hq7, h⟩ := o_bd_some h
            refine o_V (st1 := [.int q7.1]) (w1 := (m_cw ad ca ky ty rt Ni Np No Nx Nf Na Nh Nq Nj M0 q7.2)) hE.1 C (e_MT_string_b hE hKy l n x1 a0 Ni Np No Nx Nf Na Nh Nq Nj M0 rt hq7) hP (hDD _ _ _ _ _ _ _ _ _ _ _ _) hS hl.1 rfl mw_48 k_8_220 k_8_221 k_8_222 k_1_13 k_8_223 hv_MT_string rfl rfl ⟨(by dsimp only [rm_MT_value, rm_MT_string]; omega), (by dsimp only [rm_MT_value, rm_MT_string]; omega)⟩ rfl (Nat.le_of_ble_eq_true rfl) ⟨Nat.zero_le _, Nat.zero_le _⟩ rfl d_MT_value_155 (fun H locs hP hS => ?_)
            obtain ⟨g15, h⟩ := o_gd_some h
            cases h
            exact o_rz C (o_zb_nar g15) hP hS d_MT_value_158
        · replace h := o_tt c6 h
          refine lv_aload_n hx hb d_MT_value_138 rfl (lv_at hl 0 rfl) ?_
          refine va_ldcS (q := sd 3) hx hb hown (hE.2.2.2.2.2.1 _ _ _ C.2.2.2.2.2.2.2.2.2 ("SchemaJudgeModel$Text", 115, "false", 3) (List.mem_of_getElem? (i := 86) rfl)) d_MT_value_139 ?_
          refine lv_iload_n hx hb d_MT_value_141 rfl (lv_at hl 1 rfl) ?_
          refine lv_iconst (v := (1:Int32)) hx hb d_MT_value_142 (by decide) ?_
          obtain ⟨q8, hq8, h⟩ := o_bd_some h
          refine o_V (st1 := [.int q8.1]) (w1 := (m_cw ad ca ky ty rt Ni Np No Nx Nf Na Nh Nq Nj M0 q8.2)) hE.1 C (e_MT_word_b hE hKy l n 3 rfl x1 (1:Int32) a0 Ni Np No Nx Nf Na Nh Nq Nj M0 rt hq8) hP (hDD _ _ _ _ _ _ _ _ _ _ _ _) hS hl.1 rfl mw_48 k_8_208 k_8_209 k_8_210 k_1_13 k_8_211 hv_MT_word rfl rfl ⟨(by dsimp only [rm_MT_value, rm_MT_word]; omega), (by dsimp only [rm_MT_value, rm_MT_word]; omega)⟩ rfl (Nat.le_of_ble_eq_true rfl) ⟨Nat.zero_le _, Nat.zero_le _⟩ rfl d_MT_value_143 (fun H locs hP hS => ?_)
          obtain ⟨g16, h⟩ := o_gd_some h
          cases h
          exact o_rz C (o_zb_nar g16) hP hS d_MT_value_146
      · replace h := o_tt c5 h
        refine lv_aload_n hx hb d_MT_value_123 rfl (lv_at hl 0 rfl) ?_
        refine va_ldcS (q := sd 4) hx hb hown (hE.2.2.2.2.2.1 _ _ _ C.2.2.2.2.2.2.2.2.2 ("SchemaJudgeModel$Text", 113, "true", 4) (List.mem_of_getElem? (i := 85) rfl)) d_MT_value_124 ?_
        refine lv_iload_n hx hb d_MT_value_126 rfl (lv_at hl 1 rfl) ?_
        refine lv_iconst (v := (2:Int32)) hx hb d_MT_value_127 (by decide) ?_
        obtain ⟨q9, hq9, h⟩ := o_bd_some h
        refine o_V (st1 := [.int q9.1]) (w1 := (m_cw ad ca ky ty rt Ni Np No Nx Nf Na Nh Nq Nj M0 q9.2)) hE.1 C (e_MT_word_b hE hKy l n 4 rfl x1 (2:Int32) a0 Ni Np No Nx Nf Na Nh Nq Nj M0 rt hq9) hP (hDD _ _ _ _ _ _ _ _ _ _ _ _) hS hl.1 rfl mw_48 k_8_208 k_8_209 k_8_210 k_1_13 k_8_211 hv_MT_word rfl rfl ⟨(by dsimp only [rm_MT_value, rm_MT_word]; omega), (by dsimp only [rm_MT_value, rm_MT_word]; omega)⟩ rfl (Nat.le_of_ble_eq_true rfl) ⟨Nat.zero_le _, Nat.zero_le _⟩ rfl d_MT_value_128 (fun H locs hP hS => ?_)
        obtain ⟨g17, h⟩ := o_gd_some h
        cases h
        exact o_rz C (o_zb_nar g17) hP hS d_MT_value_131
    · replace h := o_tt c4 h
      refine lv_aload_n hx hb d_MT_value_108 rfl (lv_at hl 0 rfl) ?_
      refine va_ldcS (q := sd 2) hx hb hown (hE.2.2.2.2.2.1 _ _ _ C.2.2.2.2.2.2.2.2.2 ("SchemaJudgeModel$Text", 107, "null", 2) (List.mem_of_getElem? (i := 84) rfl)) d_MT_value_109 ?_
      refine lv_iload_n hx hb d_MT_value_111 rfl (lv_at hl 1 rfl) ?_
      refine lv_iconst (v := (0:Int32)) hx hb d_MT_value_112 (by decide) ?_
      obtain ⟨q10, hq10, h⟩ := o_bd_some h
      refine o_V (st1 := [.int q10.1]) (w1 := (m_cw ad ca ky ty rt Ni Np No Nx Nf Na Nh Nq Nj M0 q10.2)) hE.1 C (e_MT_word_b hE hKy l n 2 rfl x1 (0:Int32) a0 Ni Np No Nx Nf Na Nh Nq Nj M0 rt hq10) hP (hDD _ _ _ _ _ _ _ _ _ _ _ _) hS hl.1 rfl mw_48 k_8_208 k_8_209 k_8_210 k_1_13 k_8_211 hv_MT_word rfl rfl ⟨(by dsimp only [rm_MT_value, rm_MT_word]; omega), (by dsimp only [rm_MT_value, rm_MT_word]; omega)⟩ rfl (Nat.le_of_ble_eq_true rfl) ⟨Nat.zero_le _, Nat.zero_le _⟩ rfl d_MT_value_113 (fun H locs hP hS => ?_)
      obtain ⟨g18, h⟩ := o_gd_some h
      cases h
      exact o_rz C (o_zb_nar g18) hP hS d_MT_value_116
  · replace h := o_tt c3 h
    refine lv_aload_n hx hb d_MT_value_93 rfl (lv_at hl 0 rfl) ?_
    refine lv_aload_n hx hb d_MT_value_94 rfl (lv_at hl 0 rfl) ?_
    refine o_get (v := .int (MT_at a0)) C in_MT hP 48 mw_48 rfl 15 (by decide) k_7_129 rfl rfl d_MT_value_95 ?_
    obtain ⟨q11, hq11, h⟩ := o_bd_some h
    refine o_V (st1 := [.int q11.1]) (w1 := (m_cw ad ca ky ty rt Ni Np No Nx Nf Na Nh Nq Nj M0 q11.2)) hE.1 C (e_MT_bad_b hE hKy l (MT_at a0) a0 Ni Np No Nx Nf Na Nh Nq Nj M0 rt hq11) hP (hDD _ _ _ _ _ _ _ _ _ _ _ _) hS hl.1 rfl mw_48 k_8_203 k_8_204 k_8_205 k_1_13 k_8_206 hv_MT_bad rfl rfl ⟨(by dsimp only [rm_MT_value, rm_MT_bad]; omega), (by dsimp only [rm_MT_value, rm_MT_bad]; omega)⟩ rfl (Nat.le_of_ble_eq_true rfl) ⟨Nat.zero_le _, Nat.zero_le _⟩ rfl d_MT_value_98 (fun H locs hP hS => ?_)
    obtain ⟨g19, h⟩ := o_gd_some h
    cases h
    exact o_rz C (o_zb_nar g19) hP hS d_MT_value_101
set_option maxHeartbeats 4000000 in
set_option maxRecDepth 100000 in
theorem f_MT_value_j31_b {E : (Nat → Prop) → State → Heap → Prop} {p : Program} {l : Launch} {e : Env} {s : State} {m : MethodId} {args : Array Value} {below : List Frame} {meth : Method} {c : Code} {D : va_G} {ad kd sd vd xd : Nat → Nat} {ca : Nat → ClassId} {A : Nat → Prop} {ky ty : Nat → Option Nat} (hE : o_EK E kd sd vd xd) (hKy : m_KY ky ty sd) (C : o_Cx E p s m args meth c D m_cls (m_tys ca) "SchemaJudgeModel$Text" b_MT_value (some .boolean) 5 cc_MT_value A) (hDD : ∀ (rt : Nat) (Ni : SNI) (Np : SNP) (No : SNO) (Nx : SNX) (Nf : SNF) (Na : SNA) (Nh : SNH) (Nq : SNQ) (Nj : SNJ) (M0 : SMT) (M1 : SMT), va_D A (m_cw ad ca ky ty rt Ni Np No Nx Nf Na Nh Nq Nj M0 M1)) (d : Nat) (rec : Int32 → Int32 → SMT → Option (Int32 × SMT)) (hrec : ∀ (x1 : Int32) (x2 : Int32) (a0 : SMT) (Ni : SNI) (Np : SNP) (No : SNO) (Nx : SNX) (Nf : SNF) (Na : SNA) (Nh : SNH) (Nq : SNQ) (Nj : SNJ) (M0 : SMT) (rt : Nat) (r : Int32 × SMT), rec x1 x2 a0 = some r → o_Cn E l D m_cls (m_tys ca) y_MT_value cc_MT_value (rm_MT_value d) [.ref (ad 48), .int x1, .int x2] (m_cw ad ca ky ty rt Ni Np No Nx Nf Na Nh Nq Nj M0 a0) (m_cw ad ca ky ty rt Ni Np No Nx Nf Na Nh Nq Nj M0 r.2) (some (.int r.1))) (n : Nat) (x1 : Int32) (x2 : Int32) (x3 : Int32) (y0 : Int32) (a0 : SMT) (Ni : SNI) (Np : SNP) (No : SNO) (Nx : SNX) (Nf : SNF) (Na : SNA) (Nh : SNH) (Nq : SNQ) (Nj : SNJ) (M0 : SMT) (rt : Nat) {r : Int32 × SMT} (h : m_MT_value_j31 n rec x1 x2 x3 y0 a0 = some r) : o_At p l e (rm_MT_value (d + 1)) s m args below meth c (MQ below (o_Qx D m_cls (some (.int r.1)) (m_cw ad ca ky ty rt Ni Np No Nx Nf Na Nh Nq Nj M0 r.2) A) args s 0 0 A) m_cls D A 5 31 [.int y0] (m_cw ad ca ky ty rt Ni Np No Nx Nf Na Nh Nq Nj M0 a0) [(0, .ref (ad 48)), (1, .int x1), (2, .int x2), (3, .int x3)] := by
  unfold m_MT_value_j31 at h
  intro H locs ls hP hS hl
  have C0 := C
  obtain ⟨hx, hb, -, -, -, hown, hts, hK, -, -⟩ := C0
  refine lv_istore (lv' := [(4, .int y0), (0, .ref (ad 48)), (1, .int x1), (2, .int x2), (3, .int x3)]) hx hb d_MT_value_31 hl (by decide) rfl (fun ls hl => ?_)
  refine lv_iload_n hx hb d_MT_value_33 rfl (lv_at hl 4 rfl) ?_
  refine lv_bipush (v := (110:Int32)) hx hb d_MT_value_34 (by decide) ?_
  refine lv_icmp_eq (tgt := 83) hx hb d_MT_value_36 (by decide) (fun c2 => ?_) (fun c2 => ?_)
  · replace h := o_tt c2 h
    exact f_MT_value_j83_b hE hKy C hDD d rec hrec n x1 x2 x3 y0 a0 Ni Np No Nx Nf Na Nh Nq Nj M0 rt h _ _ _ hP hS (lv_sub hl [1, 2, 3, 4, 0] rfl)
  · replace h := o_ff c2 h
    refine lv_iload_n hx hb d_MT_value_39 rfl (lv_at hl 4 rfl) ?_
    refine lv_bipush (v := (116:Int32)) hx hb d_MT_value_40 (by decide) ?_
    refine lv_icmp_eq (tgt := 83) hx hb d_MT_value_42 (by decide) (fun c20 => ?_) (fun c20 => ?_)
    · replace h := o_tt c20 h
      exact f_MT_value_j83_b hE hKy C hDD d rec hrec n x1 x2 x3 y0 a0 Ni Np No Nx Nf Na Nh Nq Nj M0 rt h _ _ _ hP hS (lv_sub hl [1, 2, 3, 4, 0] rfl)
    · replace h := o_ff c20 h
      refine lv_iload_n hx hb d_MT_value_45 rfl (lv_at hl 4 rfl) ?_
      refine lv_bipush (v := (102:Int32)) hx hb d_MT_value_46 (by decide) ?_
      refine lv_icmp_eq (tgt := 83) hx hb d_MT_value_48 (by decide) (fun c21 => ?_) (fun c21 => ?_)
      · replace h := o_tt c21 h
        exact f_MT_value_j83_b hE hKy C hDD d rec hrec n x1 x2 x3 y0 a0 Ni Np No Nx Nf Na Nh Nq Nj M0 rt h _ _ _ hP hS (lv_sub hl [1, 2, 3, 4, 0] rfl)
      · replace h := o_ff c21 h
        refine lv_iload_n hx hb d_MT_value_51 rfl (lv_at hl 4 rfl) ?_
        refine lv_bipush (v := (34:Int32)) hx hb d_MT_value_52 (by decide) ?_
        refine lv_icmp_eq (tgt := 83) hx hb d_MT_value_54 (by decide) (fun c22 => ?_) (fun c22 => ?_)
        · replace h := o_tt c22 h
          exact f_MT_value_j83_b hE hKy C hDD d rec hrec n x1 x2 x3 y0 a0 Ni Np No Nx Nf Na Nh Nq Nj M0 rt h _ _ _ hP hS (lv_sub hl [1, 2, 3, 4, 0] rfl)
        · replace h := o_ff c22 h
          refine lv_iload_n hx hb d_MT_value_57 rfl (lv_at hl 4 rfl) ?_
          refine lv_bipush (v := (91:Int32)) hx hb d_MT_value_58 (by decide) ?_
          refine lv_icmp_eq (tgt := 83) hx hb d_MT_value_60 (by decide) (fun c23 => ?_) (fun c23 => ?_)
          · replace h := o_tt c23 h
            exact f_MT_value_j83_b hE hKy C hDD d rec hrec n x1 x2 x3 y0 a0 Ni Np No Nx Nf Na Nh Nq Nj M0 rt h _ _ _ hP hS (lv_sub hl [1, 2, 3, 4, 0] rfl)
          · replace h := o_ff c23 h
            refine lv_iload_n hx hb d_MT_value_63 rfl (lv_at hl 4 rfl) ?_
            refine lv_bipush (v := (123:Int32)) hx hb d_MT_value_64 (by decide) ?_
            refine lv_icmp_eq (tgt := 83) hx hb d_MT_value_66 (by decide) (fun c24 => ?_) (fun c24 => ?_)
            · replace h := o_tt c24 h
              exact f_MT_value_j83_b hE hKy C hDD d rec hrec n x1 x2 x3 y0 a0 Ni Np No Nx Nf Na Nh Nq Nj M0 rt h _ _ _ hP hS (lv_sub hl [1, 2, 3, 4, 0] rfl)
            · replace h := o_ff c24 h
              refine lv_iload hx hb d_MT_value_69 (lv_at hl 0 rfl) ?_
              refine lv_if_ne (tgt := 83) hx hb d_MT_value_71 (by decide) (fun c25 => ?_) (fun c25 => ?_)
              · replace h := o_ff c25 h
                exact f_MT_value_j83_b hE hKy C hDD d rec hrec n x1 x2 x3 y0 a0 Ni Np No Nx Nf Na Nh Nq Nj M0 rt h _ _ _ hP hS (lv_sub hl [1, 2, 3, 4, 0] rfl)
              · replace h := o_tt c25 h
                refine lv_aload_n hx hb d_MT_value_74 rfl (lv_at hl 1 rfl) ?_
                refine lv_aload_n hx hb d_MT_value_75 rfl (lv_at hl 1 rfl) ?_
                refine o_get (v := .int (MT_at a0)) C in_MT hP 48 mw_48 rfl 15 (by decide) k_7_129 rfl rfl d_MT_value_76 ?_
                obtain ⟨q12, hq12, h⟩ := o_bd_some h
                refine o_V (st1 := [.int q12.1]) (w1 := (m_cw ad ca ky ty rt Ni Np No Nx Nf Na Nh Nq Nj M0 q12.2)) hE.1 C (e_MT_bad_b hE hKy l (MT_at a0) a0 Ni Np No Nx Nf Na Nh Nq Nj M0 rt hq12) hP (hDD _ _ _ _ _ _ _ _ _ _ _ _) hS hl.1 rfl mw_48 k_8_203 k_8_204 k_8_205 k_1_13 k_8_206 hv_MT_bad rfl rfl ⟨(by dsimp only [rm_MT_value, rm_MT_bad]; omega), (by dsimp only [rm_MT_value, rm_MT_bad]; omega)⟩ rfl (Nat.le_of_ble_eq_true rfl) ⟨Nat.zero_le _, Nat.zero_le _⟩ rfl d_MT_value_79 (fun H locs hP hS => ?_)
                obtain ⟨g26, h⟩ := o_gd_some h
                cases h
                exact o_rz C (o_zb_nar g26) hP hS d_MT_value_82
set_option maxHeartbeats 4000000 in
set_option maxRecDepth 100000 in
theorem e_MT_value_b_F {E : (Nat → Prop) → State → Heap → Prop} {D : va_G} {ad kd sd vd xd : Nat → Nat} {ca : Nat → ClassId} {ky ty : Nat → Option Nat} (hE : o_EK E kd sd vd xd) (hKy : m_KY ky ty sd) (l : Launch) (n : Nat) (d : Nat) (rec : Int32 → Int32 → SMT → Option (Int32 × SMT)) (hrec : ∀ (x1 : Int32) (x2 : Int32) (a0 : SMT) (Ni : SNI) (Np : SNP) (No : SNO) (Nx : SNX) (Nf : SNF) (Na : SNA) (Nh : SNH) (Nq : SNQ) (Nj : SNJ) (M0 : SMT) (rt : Nat) (r : Int32 × SMT), rec x1 x2 a0 = some r → o_Cn E l D m_cls (m_tys ca) y_MT_value cc_MT_value (rm_MT_value d) [.ref (ad 48), .int x1, .int x2] (m_cw ad ca ky ty rt Ni Np No Nx Nf Na Nh Nq Nj M0 a0) (m_cw ad ca ky ty rt Ni Np No Nx Nf Na Nh Nq Nj M0 r.2) (some (.int r.1))) (x1 : Int32) (x2 : Int32) (a0 : SMT) (Ni : SNI) (Np : SNP) (No : SNO) (Nx : SNX) (Nf : SNF) (Na : SNA) (Nh : SNH) (Nq : SNQ) (Nj : SNJ) (M0 : SMT) (rt : Nat) {r : Int32 × SMT} (h : m_MT_value_F n rec x1 x2 a0 = some r) : o_Cn E l D m_cls (m_tys ca) y_MT_value cc_MT_value (rm_MT_value (d + 1)) [.ref (ad 48), .int x1, .int x2] (m_cw ad ca ky ty rt Ni Np No Nx Nf Na Nh Nq Nj M0 a0) (m_cw ad ca ky ty rt Ni Np No Nx Nf Na Nh Nq Nj M0 r.2) (some (.int r.1)) := by
  refine o_Cn_of (by decide) (Nat.le_of_ble_eq_true rfl) ?_
  intro p e s m below meth c A ls C hD hP hS hl
  have hDD : ∀ (rt : Nat) (Ni : SNI) (Np : SNP) (No : SNO) (Nx : SNX) (Nf : SNF) (Na : SNA) (Nh : SNH) (Nq : SNQ) (Nj : SNJ) (M0 : SMT) (M1 : SMT), va_D A (m_cw ad ca ky ty rt Ni Np No Nx Nf Na Nh Nq Nj M0 M1) := fun _ _ _ _ _ _ _ _ _ _ _ _ => o_D_map hD rfl
  have hl : lv_has ls 5 [(0, .ref (ad 48)), (1, .int x1), (2, .int x2)] := hl
  unfold m_MT_value_F at h
  have C0 := C
  obtain ⟨hx, hb, -, -, -, hown, hts, hK, -, -⟩ := C0
  refine lv_aload_n hx hb d_MT_value_0 rfl (lv_at hl 0 rfl) ?_
  refine lv_aload_n hx hb d_MT_value_1 rfl (lv_at hl 0 rfl) ?_
  refine o_get (v := .int (MT_at a0)) C in_MT hP 48 mw_48 rfl 15 (by decide) k_7_129 rfl rfl d_MT_value_2 ?_
  obtain ⟨q1, hq1, h⟩ := o_bd_some h
  refine o_V (st1 := [.int q1]) (w1 := (m_cw ad ca ky ty rt Ni Np No Nx Nf Na Nh Nq Nj M0 a0)) hE.1 C (e_MT_c_b hE hKy l (MT_at a0) a0 Ni Np No Nx Nf Na Nh Nq Nj M0 rt hq1) hP (hDD _ _ _ _ _ _ _ _ _ _ _ _) hS hl.1 rfl mw_48 k_8_192 k_8_193 k_8_194 k_1_13 k_8_195 hv_MT_c rfl rfl ⟨(by dsimp only [rm_MT_value, rm_MT_c]; omega), (by dsimp only [rm_MT_value, rm_MT_c]; omega)⟩ rfl (Nat.le_of_ble_eq_true rfl) ⟨Nat.zero_le _, Nat.zero_le _⟩ rfl d_MT_value_5 (fun H locs hP hS => ?_)
  refine lv_istore_n (lv' := [(3, .int q1), (0, .ref (ad 48)), (1, .int x1), (2, .int x2)]) hx hb d_MT_value_8 rfl hl (by decide) rfl (fun ls hl => ?_)
  refine lv_iload_n hx hb d_MT_value_9 rfl (lv_at hl 0 rfl) ?_
  refine lv_bipush (v := (48:Int32)) hx hb d_MT_value_10 (by decide) ?_
  refine lv_bipush (v := (57:Int32)) hx hb d_MT_value_12 (by decide) ?_
  obtain ⟨q2, hq2, h⟩ := o_bd_some h
  refine o_SN (st1 := [.int q2]) (w1 := (m_cw ad ca ky ty rt Ni Np No Nx Nf Na Nh Nq Nj M0 a0)) hE.1 C (e_MM_in hE hKy l q1 (48:Int32) (57:Int32) Ni Np No Nx Nf Na Nh Nq Nj M0 a0 rt hq2) hP (hDD _ _ _ _ _ _ _ _ _ _ _ _) hS hl.1 (hE.2.1 _ _ _ C.2.2.2.2.2.2.2.2.2 _ nw_21) k_8_201 k_1_12 k_8_202 hs_MM_in rfl rfl ⟨(by dsimp only [rm_MT_value, rm_MM_in]; omega), (by dsimp only [rm_MT_value, rm_MM_in]; omega)⟩ rfl (Nat.le_of_ble_eq_true rfl) ⟨Nat.zero_le _, Nat.zero_le _⟩ rfl d_MT_value_14 (fun H locs hP hS => ?_)
  refine lv_if_ne (tgt := 26) hx hb d_MT_value_17 (by decide) (fun c1 => ?_) (fun c1 => ?_)
  · replace h := o_ff c1 h
    refine lv_iconst (v := (1:Int32)) hx hb d_MT_value_26 (by decide) ?_
    refine lv_goto (tgt := 31) hx hb d_MT_value_27 (by decide) ?_
    exact f_MT_value_j31_b hE hKy C hDD d rec hrec n x1 x2 q1 (1:Int32) a0 Ni Np No Nx Nf Na Nh Nq Nj M0 rt h _ _ _ hP hS (lv_sub hl [1, 2, 3, 0] rfl)
  · replace h := o_tt c1 h
    refine lv_iload_n hx hb d_MT_value_20 rfl (lv_at hl 0 rfl) ?_
    refine lv_bipush (v := (45:Int32)) hx hb d_MT_value_21 (by decide) ?_
    refine lv_icmp_ne (tgt := 30) hx hb d_MT_value_23 (by decide) (fun c27 => ?_) (fun c27 => ?_)
    · replace h := o_ff c27 h
      refine lv_iconst (v := (0:Int32)) hx hb d_MT_value_30 (by decide) ?_
      exact f_MT_value_j31_b hE hKy C hDD d rec hrec n x1 x2 q1 (0:Int32) a0 Ni Np No Nx Nf Na Nh Nq Nj M0 rt h _ _ _ hP hS (lv_sub hl [1, 2, 3, 0] rfl)
    · replace h := o_tt c27 h
      refine lv_iconst (v := (1:Int32)) hx hb d_MT_value_26 (by decide) ?_
      refine lv_goto (tgt := 31) hx hb d_MT_value_27 (by decide) ?_
      exact f_MT_value_j31_b hE hKy C hDD d rec hrec n x1 x2 q1 (1:Int32) a0 Ni Np No Nx Nf Na Nh Nq Nj M0 rt h _ _ _ hP hS (lv_sub hl [1, 2, 3, 0] rfl)
set_option maxHeartbeats 4000000 in
set_option maxRecDepth 100000 in
theorem e_MT_value_b {E : (Nat → Prop) → State → Heap → Prop} {D : va_G} {ad kd sd vd xd : Nat → Nat} {ca : Nat → ClassId} {ky ty : Nat → Option Nat} (hE : o_EK E kd sd vd xd) (hKy : m_KY ky ty sd) (l : Launch) (n : Nat) (d : Nat) (x1 : Int32) (x2 : Int32) (a0 : SMT) (Ni : SNI) (Np : SNP) (No : SNO) (Nx : SNX) (Nf : SNF) (Na : SNA) (Nh : SNH) (Nq : SNQ) (Nj : SNJ) (M0 : SMT) (rt : Nat) {r : Int32 × SMT} (h : m_MT_value n d x1 x2 a0 = some r) : o_Cn E l D m_cls (m_tys ca) y_MT_value cc_MT_value (rm_MT_value d) [.ref (ad 48), .int x1, .int x2] (m_cw ad ca ky ty rt Ni Np No Nx Nf Na Nh Nq Nj M0 a0) (m_cw ad ca ky ty rt Ni Np No Nx Nf Na Nh Nq Nj M0 r.2) (some (.int r.1)) := by
  induction d generalizing x1 x2 a0 Ni Np No Nx Nf Na Nh Nq Nj M0 rt r with
  | zero => cases h
  | succ d ih =>
    exact e_MT_value_b_F hE hKy l n d (m_MT_value n d) (fun x1 x2 a0 Ni Np No Nx Nf Na Nh Nq Nj M0 rt r h => ih x1 x2 a0 Ni Np No Nx Nf Na Nh Nq Nj M0 rt h) _ _ _ _ _ _ _ _ _ _ _ _ _ _ h
