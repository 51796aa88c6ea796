set_option maxHeartbeats 4000000 in
set_option maxRecDepth 100000 in
theorem f_MM_choice_j123_b {E : (Nat → Prop) → State → Heap → Prop} {p : Program} {l : Launch} {e : Env} {s : State} {m : MethodId} {args : Array Value} {below : List Frame} {meth : Method} {c : Code} {D : va_G} {ad kd sd vd xd : Nat → Nat} {ca : Nat → ClassId} {A : Nat → Prop} {ky ty : Nat → Option Nat} {Q : State → Prop} (hE : o_EK E kd sd vd xd) (hKy : m_KY ky ty sd) (C : o_Cx E p s m args meth c D m_cls (m_tys ca) "SchemaJudgeModel" b_MM_choice (some .int) 5 cc_MM_choice A) (hDD : ∀ (rt : Nat) (Ni : SNI) (Np : SNP) (No : SNO) (Nx : SNX) (Nf : SNF) (Na : SNA) (Nh : SNH) (Nq : SNQ) (Nj : SNJ) (M0 : SMT) (M1 : SMT), va_D A (m_cw ad ca ky ty rt Ni Np No Nx Nf Na Nh Nq Nj M0 M1)) (n : Nat) (u45_x1 : Int32) (u45_x2 : Int32) (u45_tc : SMT) (u45_Ni : SNI) (u45_No : SNO) (u45_Nx : SNX) (u45_Nf : SNF) (u45_Na : SNA) (u45_Nh : SNH) (u45_Nq : SNQ) (u45_Nj : SNJ) (u45_M0 : SMT) (x3 : Int32) (Np : SNP) {q : Nat × SNP} (h : m_MM_choice_j123 n u45_x1 u45_x2 x3 u45_tc Np = some q) (h0 : q.1 = 0 → o_At p l e rm_MM_choice s m args below meth c Q m_cls D A 5 45 [] (m_cw ad ca ky ty 48 u45_Ni q.2 u45_No u45_Nx u45_Nf u45_Na u45_Nh u45_Nq u45_Nj u45_M0 u45_tc) [(0, .ref (ad 0)), (1, .int u45_x1), (2, .int u45_x2)]) (h1 : q.1 ≠ 0 → (if q.1 = 1 then o_At p l e rm_MM_choice s m args below meth c Q m_cls D A 5 73 [] (m_cw ad ca ky ty 48 u45_Ni q.2 u45_No u45_Nx u45_Nf u45_Na u45_Nh u45_Nq u45_Nj u45_M0 u45_tc) [(0, .ref (ad 0))] else if q.1 = 2 then o_At p l e rm_MM_choice s m args below meth c Q m_cls D A 5 90 [] (m_cw ad ca ky ty 48 u45_Ni q.2 u45_No u45_Nx u45_Nf u45_Na u45_Nh u45_Nq u45_Nj u45_M0 u45_tc) [(0, .ref (ad 0))] else if q.1 = 3 then o_At p l e rm_MM_choice s m args below meth c Q m_cls D A 5 174 [] (m_cw ad ca ky ty 48 u45_Ni q.2 u45_No u45_Nx u45_Nf u45_Na u45_Nh u45_Nq u45_Nj u45_M0 u45_tc) [(0, .ref (ad 0))] else o_At p l e rm_MM_choice s m args below meth c Q m_cls D A 5 189 [] (m_cw ad ca ky ty 48 u45_Ni q.2 u45_No u45_Nx u45_Nf u45_Na u45_Nh u45_Nq u45_Nj u45_M0 u45_tc) [(0, .ref (ad 0)), (1, .int u45_x1), (2, .int u45_x2)])) : o_At p l e rm_MM_choice s m args below meth c Q m_cls D A 5 123 [] (m_cw ad ca ky ty 48 u45_Ni Np u45_No u45_Nx u45_Nf u45_Na u45_Nh u45_Nq u45_Nj u45_M0 u45_tc) [(0, .ref (ad 0)), (1, .int u45_x1), (2, .int u45_x2), (3, .int x3)] := by
  unfold m_MM_choice_j123 at h
  intro H locs ls hP hS hl
  have C0 := C
  obtain ⟨hx, hb, -, -, -, hown, hts, hK, -, -⟩ := C0
  refine lv_iload_n hx hb d_MM_choice_123 rfl (lv_at hl 3 rfl) ?_
  refine lv_if_lt (tgt := 45) hx hb d_MM_choice_124 (by decide) (fun c8 => ?_) (fun c8 => ?_)
  · replace h := o_tt c8 h
    cases h
    exact h0 rfl _ _ _ hP hS (lv_sub hl [0, 1, 2] rfl)
  · replace h := o_ff c8 h
    refine lv_aload_n hx hb d_MM_choice_127 rfl (lv_at hl 0 rfl) ?_
    refine lv_iload_n hx hb d_MM_choice_128 rfl (lv_at hl 3 rfl) ?_
    refine lv_iload_n hx hb d_MM_choice_129 rfl (lv_at hl 3 rfl) ?_
    obtain ⟨q6, hq6, h⟩ := o_bd_some h
    refine o_V (st1 := []) (w1 := (m_cw ad ca ky ty 48 u45_Ni q6 u45_No u45_Nx u45_Nf u45_Na u45_Nh u45_Nq u45_Nj u45_M0 u45_tc)) hE.1 C (e_MM_range hE hKy l x3 x3 Np u45_Ni u45_No u45_Nx u45_Nf u45_Na u45_Nh u45_Nq u45_Nj u45_M0 u45_tc 48 hq6) hP (hDD _ _ _ _ _ _ _ _ _ _ _ _) hS hl.1 rfl mw_0 k_9_102 k_9_104 k_s_97 k_1_12 k_9_105 hv_MM_range rfl rfl ⟨(Nat.le_of_ble_eq_true rfl), (Nat.le_of_ble_eq_true rfl)⟩ rfl (Nat.le_of_ble_eq_true rfl) ⟨Nat.zero_le _, Nat.zero_le _⟩ rfl d_MM_choice_130 (fun H locs hP hS => ?_)
    refine lv_goto (tgt := 45) hx hb d_MM_choice_133 (by decide) ?_
    cases h
    exact h0 rfl _ _ _ hP hS (lv_sub hl [0, 1, 2] rfl)
set_option maxHeartbeats 4000000 in
set_option maxRecDepth 100000 in
theorem f_MM_choice_b45_b {E : (Nat → Prop) → State → Heap → Prop} {p : Program} {l : Launch} {e : Env} {s : State} {m : MethodId} {args : Array Value} {below : List Frame} {meth : Method} {c : Code} {D : va_G} {ad kd sd vd xd : Nat → Nat} {ca : Nat → ClassId} {A : Nat → Prop} {ky ty : Nat → Option Nat} {Q : State → Prop} (hE : o_EK E kd sd vd xd) (hKy : m_KY ky ty sd) (C : o_Cx E p s m args meth c D m_cls (m_tys ca) "SchemaJudgeModel" b_MM_choice (some .int) 5 cc_MM_choice A) (hDD : ∀ (rt : Nat) (Ni : SNI) (Np : SNP) (No : SNO) (Nx : SNX) (Nf : SNF) (Na : SNA) (Nh : SNH) (Nq : SNQ) (Nj : SNJ) (M0 : SMT) (M1 : SMT), va_D A (m_cw ad ca ky ty rt Ni Np No Nx Nf Na Nh Nq Nj M0 M1)) (n : Nat) (u45_x1 : Int32) (u45_x2 : Int32) (u45_tc : SMT) (u45_Ni : SNI) (u45_No : SNO) (u45_Nx : SNX) (u45_Nf : SNF) (u45_Na : SNA) (u45_Nh : SNH) (u45_Nq : SNQ) (u45_Nj : SNJ) (u45_M0 : SMT) (z : SNP) (q : Nat × SNP) (h : m_MM_choice_b45 n u45_x1 u45_x2 u45_tc z = some q) (h0 : q.1 = 0 → o_At p l e rm_MM_choice s m args below meth c Q m_cls D A 5 45 [] (m_cw ad ca ky ty 48 u45_Ni q.2 u45_No u45_Nx u45_Nf u45_Na u45_Nh u45_Nq u45_Nj u45_M0 u45_tc) [(0, .ref (ad 0)), (1, .int u45_x1), (2, .int u45_x2)]) (h1 : q.1 ≠ 0 → (if q.1 = 1 then o_At p l e rm_MM_choice s m args below meth c Q m_cls D A 5 73 [] (m_cw ad ca ky ty 48 u45_Ni q.2 u45_No u45_Nx u45_Nf u45_Na u45_Nh u45_Nq u45_Nj u45_M0 u45_tc) [(0, .ref (ad 0))] else if q.1 = 2 then o_At p l e rm_MM_choice s m args below meth c Q m_cls D A 5 90 [] (m_cw ad ca ky ty 48 u45_Ni q.2 u45_No u45_Nx u45_Nf u45_Na u45_Nh u45_Nq u45_Nj u45_M0 u45_tc) [(0, .ref (ad 0))] else if q.1 = 3 then o_At p l e rm_MM_choice s m args below meth c Q m_cls D A 5 174 [] (m_cw ad ca ky ty 48 u45_Ni q.2 u45_No u45_Nx u45_Nf u45_Na u45_Nh u45_Nq u45_Nj u45_M0 u45_tc) [(0, .ref (ad 0))] else o_At p l e rm_MM_choice s m args below meth c Q m_cls D A 5 189 [] (m_cw ad ca ky ty 48 u45_Ni q.2 u45_No u45_Nx u45_Nf u45_Na u45_Nh u45_Nq u45_Nj u45_M0 u45_tc) [(0, .ref (ad 0)), (1, .int u45_x1), (2, .int u45_x2)])) : o_At p l e rm_MM_choice s m args below meth c Q m_cls D A 5 45 [] (m_cw ad ca ky ty 48 u45_Ni z u45_No u45_Nx u45_Nf u45_Na u45_Nh u45_Nq u45_Nj u45_M0 u45_tc) [(0, .ref (ad 0)), (1, .int u45_x1), (2, .int u45_x2)] := by
  unfold m_MM_choice_b45 at h
  intro H locs ls hP hS hl
  have C0 := C
  obtain ⟨hx, hb, -, -, -, hown, hts, hK, -, -⟩ := C0
  refine lv_aload_n hx hb d_MM_choice_45 rfl (lv_at hl 0 rfl) ?_
  refine o_get (v := .int (NP_broken z)) C in_MM hP 0 mw_0 rfl 32 (by decide) k_8_22 rfl rfl d_MM_choice_46 ?_
  refine lv_if_ne (tgt := 189) hx hb d_MM_choice_49 (by decide) (fun c3 => ?_) (fun c3 => ?_)
  · replace h := o_ff c3 h
    cases h
    exact h1 (Nat.succ_ne_zero 3) _ _ _ hP hS (lv_sub hl [0, 1, 2] rfl)
  · replace h := o_tt c3 h
    refine lv_aload_n hx hb d_MM_choice_52 rfl (lv_at hl 0 rfl) ?_
    refine lv_iconst (v := (0:Int32)) hx hb d_MM_choice_53 (by decide) ?_
    obtain ⟨q3, hq3, h⟩ := o_bd_some h
    refine o_V (st1 := [.int q3]) (w1 := (m_cw ad ca ky ty 48 u45_Ni z u45_No u45_Nx u45_Nf u45_Na u45_Nh u45_Nq u45_Nj u45_M0 u45_tc)) hE.1 C (e_MM_p_b hE hKy l (0:Int32) u45_tc z u45_Ni u45_No u45_Nx u45_Nf u45_Na u45_Nh u45_Nq u45_Nj u45_M0 hq3) hP (hDD _ _ _ _ _ _ _ _ _ _ _ _) hS hl.1 rfl mw_0 k_9_70 k_9_72 k_s_89 k_1_12 k_9_73 hv_MM_p rfl rfl ⟨(Nat.le_of_ble_eq_true rfl), (Nat.le_of_ble_eq_true rfl)⟩ rfl (Nat.le_of_ble_eq_true rfl) ⟨Nat.zero_le _, Nat.zero_le _⟩ rfl d_MM_choice_54 (fun H locs hP hS => ?_)
    refine lv_bipush (v := (93:Int32)) hx hb d_MM_choice_57 (by decide) ?_
    refine lv_icmp_eq (tgt := 189) hx hb d_MM_choice_59 (by decide) (fun c4 => ?_) (fun c4 => ?_)
    · replace h := o_tt c4 h
      cases h
      exact h1 (Nat.succ_ne_zero 3) _ _ _ hP hS (lv_sub hl [0, 1, 2] rfl)
    · replace h := o_ff c4 h
      refine lv_aload_n hx hb d_MM_choice_62 rfl (lv_at hl 0 rfl) ?_
      refine o_get (v := .int (NP_pat z)) C in_MM hP 0 mw_0 rfl 27 (by decide) k_8_17 rfl rfl d_MM_choice_63 ?_
      refine lv_aload_n hx hb d_MM_choice_66 rfl (lv_at hl 0 rfl) ?_
      refine o_get (v := .int (NP_patEnd z)) C in_MM hP 0 mw_0 rfl 28 (by decide) k_8_18 rfl rfl d_MM_choice_67 ?_
      refine lv_icmp_lt (tgt := 78) hx hb d_MM_choice_70 (by decide) (fun c5 => ?_) (fun c5 => ?_)
      · replace h := o_tt c5 h
        refine lv_aload_n hx hb d_MM_choice_78 rfl (lv_at hl 0 rfl) ?_
        obtain ⟨q4, hq4, h⟩ := o_bd_some h
        refine o_V (st1 := [.int q4.1]) (w1 := (m_cw ad ca ky ty 48 u45_Ni q4.2 u45_No u45_Nx u45_Nf u45_Na u45_Nh u45_Nq u45_Nj u45_M0 u45_tc)) hE.1 C (e_MM_item_b hE hKy l n u45_tc z u45_Ni u45_No u45_Nx u45_Nf u45_Na u45_Nh u45_Nq u45_Nj u45_M0 hq4) hP (hDD _ _ _ _ _ _ _ _ _ _ _ _) hS hl.1 rfl mw_0 k_9_90 k_9_92 k_s_94 k_1_12 k_9_93 hv_MM_item rfl rfl ⟨(Nat.le_of_ble_eq_true rfl), (Nat.le_of_ble_eq_true rfl)⟩ rfl (Nat.le_of_ble_eq_true rfl) ⟨Nat.zero_le _, Nat.zero_le _⟩ rfl d_MM_choice_79 (fun H locs hP hS => ?_)
        refine lv_istore_n (lv' := [(3, .int q4.1), (0, .ref (ad 0)), (1, .int u45_x1), (2, .int u45_x2)]) hx hb d_MM_choice_82 rfl hl (by decide) rfl (fun ls hl => ?_)
        refine lv_aload_n hx hb d_MM_choice_83 rfl (lv_at hl 1 rfl) ?_
        refine o_get (v := .int (NP_broken q4.2)) C in_MM hP 0 mw_0 rfl 32 (by decide) k_8_22 rfl rfl d_MM_choice_84 ?_
        refine lv_if_eq (tgt := 95) hx hb d_MM_choice_87 (by decide) (fun c6 => ?_) (fun c6 => ?_)
        · replace h := o_tt c6 h
          refine lv_aload_n hx hb d_MM_choice_95 rfl (lv_at hl 1 rfl) ?_
          refine lv_iconst (v := (0:Int32)) hx hb d_MM_choice_96 (by decide) ?_
          obtain ⟨q5, hq5, h⟩ := o_bd_some h
          refine o_V (st1 := [.int q5]) (w1 := (m_cw ad ca ky ty 48 u45_Ni q4.2 u45_No u45_Nx u45_Nf u45_Na u45_Nh u45_Nq u45_Nj u45_M0 u45_tc)) hE.1 C (e_MM_p_b hE hKy l (0:Int32) u45_tc q4.2 u45_Ni u45_No u45_Nx u45_Nf u45_Na u45_Nh u45_Nq u45_Nj u45_M0 hq5) hP (hDD _ _ _ _ _ _ _ _ _ _ _ _) hS hl.1 rfl mw_0 k_9_70 k_9_72 k_s_89 k_1_12 k_9_73 hv_MM_p rfl rfl ⟨(Nat.le_of_ble_eq_true rfl), (Nat.le_of_ble_eq_true rfl)⟩ rfl (Nat.le_of_ble_eq_true rfl) ⟨Nat.zero_le _, Nat.zero_le _⟩ rfl d_MM_choice_97 (fun H locs hP hS => ?_)
          refine lv_bipush (v := (45:Int32)) hx hb d_MM_choice_100 (by decide) ?_
          refine lv_icmp_ne (tgt := 123) hx hb d_MM_choice_102 (by decide) (fun c7 => ?_) (fun c7 => ?_)
          · replace h := o_ff c7 h
            exact f_MM_choice_j123_b hE hKy C hDD n u45_x1 u45_x2 u45_tc u45_Ni u45_No u45_Nx u45_Nf u45_Na u45_Nh u45_Nq u45_Nj u45_M0 q4.1 q4.2 h h0 h1 _ _ _ hP hS (lv_sub hl [1, 2, 3, 0] rfl)
          · replace h := o_tt c7 h
            refine lv_aload_n hx hb d_MM_choice_105 rfl (lv_at hl 1 rfl) ?_
            refine lv_iconst (v := (1:Int32)) hx hb d_MM_choice_106 (by decide) ?_
            obtain ⟨q7, hq7, h⟩ := o_bd_some h
            refine o_V (st1 := [.int q7]) (w1 := (m_cw ad ca ky ty 48 u45_Ni q4.2 u45_No u45_Nx u45_Nf u45_Na u45_Nh u45_Nq u45_Nj u45_M0 u45_tc)) hE.1 C (e_MM_p_b hE hKy l (1:Int32) u45_tc q4.2 u45_Ni u45_No u45_Nx u45_Nf u45_Na u45_Nh u45_Nq u45_Nj u45_M0 hq7) hP (hDD _ _ _ _ _ _ _ _ _ _ _ _) hS hl.1 rfl mw_0 k_9_70 k_9_72 k_s_89 k_1_12 k_9_73 hv_MM_p rfl rfl ⟨(Nat.le_of_ble_eq_true rfl), (Nat.le_of_ble_eq_true rfl)⟩ rfl (Nat.le_of_ble_eq_true rfl) ⟨Nat.zero_le _, Nat.zero_le _⟩ rfl d_MM_choice_107 (fun H locs hP hS => ?_)
            refine lv_bipush (v := (93:Int32)) hx hb d_MM_choice_110 (by decide) ?_
            refine lv_icmp_eq (tgt := 123) hx hb d_MM_choice_112 (by decide) (fun c9 => ?_) (fun c9 => ?_)
            · replace h := o_tt c9 h
              exact f_MM_choice_j123_b hE hKy C hDD n u45_x1 u45_x2 u45_tc u45_Ni u45_No u45_Nx u45_Nf u45_Na u45_Nh u45_Nq u45_Nj u45_M0 q4.1 q4.2 h h0 h1 _ _ _ hP hS (lv_sub hl [1, 2, 3, 0] rfl)
            · replace h := o_ff c9 h
              refine lv_aload_n hx hb d_MM_choice_115 rfl (lv_at hl 1 rfl) ?_
              refine lv_iconst (v := (1:Int32)) hx hb d_MM_choice_116 (by decide) ?_
              obtain ⟨q8, hq8, h⟩ := o_bd_some h
              refine o_V (st1 := [.int q8]) (w1 := (m_cw ad ca ky ty 48 u45_Ni q4.2 u45_No u45_Nx u45_Nf u45_Na u45_Nh u45_Nq u45_Nj u45_M0 u45_tc)) hE.1 C (e_MM_p_b hE hKy l (1:Int32) u45_tc q4.2 u45_Ni u45_No u45_Nx u45_Nf u45_Na u45_Nh u45_Nq u45_Nj u45_M0 hq8) hP (hDD _ _ _ _ _ _ _ _ _ _ _ _) hS hl.1 rfl mw_0 k_9_70 k_9_72 k_s_89 k_1_12 k_9_73 hv_MM_p rfl rfl ⟨(Nat.le_of_ble_eq_true rfl), (Nat.le_of_ble_eq_true rfl)⟩ rfl (Nat.le_of_ble_eq_true rfl) ⟨Nat.zero_le _, Nat.zero_le _⟩ rfl d_MM_choice_117 (fun H locs hP hS => ?_)
              refine lv_if_ge (tgt := 136) hx hb d_MM_choice_120 (by decide) (fun c10 => ?_) (fun c10 => ?_)
              · replace h := o_tt c10 h
                refine lv_aload_n hx hb d_MM_choice_136 rfl (lv_at hl 1 rfl) ?_
                refine lv_dup hx hb d_MM_choice_137 rfl ?_
                refine o_get (v := .int (NP_pat q4.2)) C in_MM hP 0 mw_0 rfl 27 (by decide) k_8_17 rfl rfl d_MM_choice_138 ?_
                refine lv_iconst (v := (1:Int32)) hx hb d_MM_choice_141 (by decide) ?_
                refine lv_iadd hx hb d_MM_choice_142 ?_
                refine o_put (v := .int ((NP_pat q4.2) + (1:Int32))) (ty := .int) (w1 := (m_cw ad ca ky ty 48 u45_Ni (NP_mk (NP_nodeKind q4.2) (NP_nodeA q4.2) (NP_nodeB q4.2) (NP_nodeC q4.2) (NP_nodeNext q4.2) (NP_low q4.2) (NP_high q4.2) (NP_setFrom q4.2) (NP_setTo q4.2) (NP_setNot q4.2) (NP_nodes q4.2) (NP_sets q4.2) (NP_ranges q4.2) ((NP_pat q4.2) + (1:Int32)) (NP_patEnd q4.2) (NP_broken q4.2)) u45_No u45_Nx u45_Nf u45_Na u45_Nh u45_Nq u45_Nj u45_M0 u45_tc)) C in_MM t_MM t_MM_ok n_MM hP (hDD _ _ _ _ _ _ _ _ _ _ _ _) hS 0 mw_0 rfl 27 (by decide) k_8_17 rfl rfl (by decide +kernel) rfl rfl (Nat.le_of_ble_eq_true rfl) rfl d_MM_choice_143 (fun H locs hP hS => ?_)
                refine lv_aload_n hx hb d_MM_choice_146 rfl (lv_at hl 1 rfl) ?_
                obtain ⟨q9, hq9, h⟩ := o_bd_some h
                refine o_V (st1 := [.int q9.1]) (w1 := (m_cw ad ca ky ty 48 u45_Ni q9.2 u45_No u45_Nx u45_Nf u45_Na u45_Nh u45_Nq u45_Nj u45_M0 u45_tc)) hE.1 C (e_MM_item_b hE hKy l n u45_tc (NP_mk (NP_nodeKind q4.2) (NP_nodeA q4.2) (NP_nodeB q4.2) (NP_nodeC q4.2) (NP_nodeNext q4.2) (NP_low q4.2) (NP_high q4.2) (NP_setFrom q4.2) (NP_setTo q4.2) (NP_setNot q4.2) (NP_nodes q4.2) (NP_sets q4.2) (NP_ranges q4.2) ((NP_pat q4.2) + (1:Int32)) (NP_patEnd q4.2) (NP_broken q4.2)) u45_Ni u45_No u45_Nx u45_Nf u45_Na u45_Nh u45_Nq u45_Nj u45_M0 hq9) hP (hDD _ _ _ _ _ _ _ _ _ _ _ _) hS hl.1 rfl mw_0 k_9_90 k_9_92 k_s_94 k_1_12 k_9_93 hv_MM_item rfl rfl ⟨(Nat.le_of_ble_eq_true rfl), (Nat.le_of_ble_eq_true rfl)⟩ rfl (Nat.le_of_ble_eq_true rfl) ⟨Nat.zero_le _, Nat.zero_le _⟩ rfl d_MM_choice_147 (fun H locs hP hS => ?_)
                refine lv_istore (lv' := [(4, .int q9.1), (3, .int q4.1), (0, .ref (ad 0)), (1, .int u45_x1), (2, .int u45_x2)]) hx hb d_MM_choice_150 hl (by decide) rfl (fun ls hl => ?_)
                refine lv_aload_n hx hb d_MM_choice_152 rfl (lv_at hl 2 rfl) ?_
                refine o_get (v := .int (NP_broken q9.2)) C in_MM hP 0 mw_0 rfl 32 (by decide) k_8_22 rfl rfl d_MM_choice_153 ?_
                refine lv_if_ne (tgt := 174) hx hb d_MM_choice_156 (by decide) (fun c11 => ?_) (fun c11 => ?_)
                · replace h := o_ff c11 h
                  cases h
                  exact h1 (Nat.succ_ne_zero 2) _ _ _ hP hS (lv_sub hl [2] rfl)
                · replace h := o_tt c11 h
                  refine lv_iload_n hx hb d_MM_choice_159 rfl (lv_at hl 1 rfl) ?_
                  refine lv_if_lt (tgt := 174) hx hb d_MM_choice_160 (by decide) (fun c12 => ?_) (fun c12 => ?_)
                  · replace h := o_tt c12 h
                    cases h
                    exact h1 (Nat.succ_ne_zero 2) _ _ _ hP hS (lv_sub hl [2] rfl)
                  · replace h := o_ff c12 h
                    refine lv_iload hx hb d_MM_choice_163 (lv_at hl 0 rfl) ?_
                    refine lv_if_lt (tgt := 174) hx hb d_MM_choice_165 (by decide) (fun c13 => ?_) (fun c13 => ?_)
                    · replace h := o_tt c13 h
                      cases h
                      exact h1 (Nat.succ_ne_zero 2) _ _ _ hP hS (lv_sub hl [2] rfl)
                    · replace h := o_ff c13 h
                      refine lv_iload_n hx hb d_MM_choice_168 rfl (lv_at hl 1 rfl) ?_
                      refine lv_iload hx hb d_MM_choice_169 (lv_at hl 0 rfl) ?_
                      refine lv_icmp_le (tgt := 179) hx hb d_MM_choice_171 (by decide) (fun c14 => ?_) (fun c14 => ?_)
                      · replace h := o_tt c14 h
                        refine lv_aload_n hx hb d_MM_choice_179 rfl (lv_at hl 2 rfl) ?_
                        refine lv_iload_n hx hb d_MM_choice_180 rfl (lv_at hl 1 rfl) ?_
                        refine lv_iload hx hb d_MM_choice_181 (lv_at hl 0 rfl) ?_
                        obtain ⟨q10, hq10, h⟩ := o_bd_some h
                        refine o_V (st1 := []) (w1 := (m_cw ad ca ky ty 48 u45_Ni q10 u45_No u45_Nx u45_Nf u45_Na u45_Nh u45_Nq u45_Nj u45_M0 u45_tc)) hE.1 C (e_MM_range hE hKy l q4.1 q9.1 q9.2 u45_Ni u45_No u45_Nx u45_Nf u45_Na u45_Nh u45_Nq u45_Nj u45_M0 u45_tc 48 hq10) hP (hDD _ _ _ _ _ _ _ _ _ _ _ _) hS hl.1 rfl mw_0 k_9_102 k_9_104 k_s_97 k_1_12 k_9_105 hv_MM_range rfl rfl ⟨(Nat.le_of_ble_eq_true rfl), (Nat.le_of_ble_eq_true rfl)⟩ rfl (Nat.le_of_ble_eq_true rfl) ⟨Nat.zero_le _, Nat.zero_le _⟩ rfl d_MM_choice_183 (fun H locs hP hS => ?_)
                        refine lv_goto (tgt := 45) hx hb d_MM_choice_186 (by decide) ?_
                        cases h
                        exact h0 rfl _ _ _ hP hS (lv_sub hl [2, 3, 4] rfl)
                      · replace h := o_ff c14 h
                        cases h
                        exact h1 (Nat.succ_ne_zero 2) _ _ _ hP hS (lv_sub hl [2] rfl)
              · replace h := o_ff c10 h
                exact f_MM_choice_j123_b hE hKy C hDD n u45_x1 u45_x2 u45_tc u45_Ni u45_No u45_Nx u45_Nf u45_Na u45_Nh u45_Nq u45_Nj u45_M0 q4.1 q4.2 h h0 h1 _ _ _ hP hS (lv_sub hl [1, 2, 3, 0] rfl)
        · replace h := o_ff c6 h
          cases h
          exact h1 (Nat.succ_ne_zero 1) _ _ _ hP hS (lv_sub hl [1] rfl)
      · replace h := o_ff c5 h
        cases h
        exact h1 (Nat.succ_ne_zero 0) _ _ _ hP hS (lv_sub hl [0] rfl)
set_option maxHeartbeats 4000000 in
set_option maxRecDepth 100000 in
theorem f_MM_choice_j174_b {E : (Nat → Prop) → State → Heap → Prop} {p : Program} {l : Launch} {e : Env} {s : State} {m : MethodId} {args : Array Value} {below : List Frame} {meth : Method} {c : Code} {D : va_G} {ad kd sd vd xd : Nat → Nat} {ca : Nat → ClassId} {A : Nat → Prop} {ky ty : Nat → Option Nat} (hE : o_EK E kd sd vd xd) (hKy : m_KY ky ty sd) (C : o_Cx E p s m args meth c D m_cls (m_tys ca) "SchemaJudgeModel" b_MM_choice (some .int) 5 cc_MM_choice A) (hDD : ∀ (rt : Nat) (Ni : SNI) (Np : SNP) (No : SNO) (Nx : SNX) (Nf : SNF) (Na : SNA) (Nh : SNH) (Nq : SNQ) (Nj : SNJ) (M0 : SMT) (M1 : SMT), va_D A (m_cw ad ca ky ty rt Ni Np No Nx Nf Na Nh Nq Nj M0 M1)) (n : Nat)  (tc : SMT) (Np : SNP) (Ni : SNI) (No : SNO) (Nx : SNX) (Nf : SNF) (Na : SNA) (Nh : SNH) (Nq : SNQ) (Nj : SNJ) (M0 : SMT) {r : Int32 × SNP} (h : m_MM_choice_j174 n tc Np = some r) : o_At p l e rm_MM_choice s m args below meth c (MQ below (o_Qx D m_cls (some (.int r.1)) (m_cw ad ca ky ty 48 Ni r.2 No Nx Nf Na Nh Nq Nj M0 tc) A) args s 0 0 A) m_cls D A 5 174 [] (m_cw ad ca ky ty 48 Ni Np No Nx Nf Na Nh Nq Nj M0 tc) [(0, .ref (ad 0))] := by
  unfold m_MM_choice_j174 at h
  intro H locs ls hP hS hl
  have C0 := C
  obtain ⟨hx, hb, -, -, -, hown, hts, hK, -, -⟩ := C0
  refine lv_aload_n hx hb d_MM_choice_174 rfl (lv_at hl 0 rfl) ?_
  obtain ⟨q14, hq14, h⟩ := o_bd_some h
  refine o_V (st1 := [.int q14.1]) (w1 := (m_cw ad ca ky ty 48 Ni q14.2 No Nx Nf Na Nh Nq Nj M0 tc)) hE.1 C (e_MM_no hE hKy l Np Ni No Nx Nf Na Nh Nq Nj M0 tc 48 hq14) hP (hDD _ _ _ _ _ _ _ _ _ _ _ _) hS hl.1 rfl mw_0 k_9_78 k_9_80 k_s_91 k_1_12 k_9_81 hv_MM_no rfl rfl ⟨(Nat.le_of_ble_eq_true rfl), (Nat.le_of_ble_eq_true rfl)⟩ rfl (Nat.le_of_ble_eq_true rfl) ⟨Nat.zero_le _, Nat.zero_le _⟩ rfl d_MM_choice_175 (fun H locs hP hS => ?_)
  cases h
  exact o_ri C hP hS d_MM_choice_178
set_option maxHeartbeats 4000000 in
set_option maxRecDepth 100000 in
theorem f_MM_choice_j189_b {E : (Nat → Prop) → State → Heap → Prop} {p : Program} {l : Launch} {e : Env} {s : State} {m : MethodId} {args : Array Value} {below : List Frame} {meth : Method} {c : Code} {D : va_G} {ad kd sd vd xd : Nat → Nat} {ca : Nat → ClassId} {A : Nat → Prop} {ky ty : Nat → Option Nat} (hE : o_EK E kd sd vd xd) (hKy : m_KY ky ty sd) (C : o_Cx E p s m args meth c D m_cls (m_tys ca) "SchemaJudgeModel" b_MM_choice (some .int) 5 cc_MM_choice A) (hDD : ∀ (rt : Nat) (Ni : SNI) (Np : SNP) (No : SNO) (Nx : SNX) (Nf : SNF) (Na : SNA) (Nh : SNH) (Nq : SNQ) (Nj : SNJ) (M0 : SMT) (M1 : SMT), va_D A (m_cw ad ca ky ty rt Ni Np No Nx Nf Na Nh Nq Nj M0 M1)) (n : Nat) (x1 : Int32) (x2 : Int32) (tc : SMT) (Np : SNP) (Ni : SNI) (No : SNO) (Nx : SNX) (Nf : SNF) (Na : SNA) (Nh : SNH) (Nq : SNQ) (Nj : SNJ) (M0 : SMT) {r : Int32 × SNP} (h : m_MM_choice_j189 n x1 x2 tc Np = some r) : o_At p l e rm_MM_choice s m args below meth c (MQ below (o_Qx D m_cls (some (.int r.1)) (m_cw ad ca ky ty 48 Ni r.2 No Nx Nf Na Nh Nq Nj M0 tc) A) args s 0 0 A) m_cls D A 5 189 [] (m_cw ad ca ky ty 48 Ni Np No Nx Nf Na Nh Nq Nj M0 tc) [(0, .ref (ad 0)), (1, .int x1), (2, .int x2)] := by
  unfold m_MM_choice_j189 at h
  intro H locs ls hP hS hl
  have C0 := C
  obtain ⟨hx, hb, -, -, -, hown, hts, hK, -, -⟩ := C0
  refine lv_aload_n hx hb d_MM_choice_189 rfl (lv_at hl 0 rfl) ?_
  refine o_get (v := .int (NP_broken Np)) C in_MM hP 0 mw_0 rfl 32 (by decide) k_8_22 rfl rfl d_MM_choice_190 ?_
  refine lv_if_eq (tgt := 201) hx hb d_MM_choice_193 (by decide) (fun c15 => ?_) (fun c15 => ?_)
  · replace h := o_tt c15 h
    refine lv_aload_n hx hb d_MM_choice_201 rfl (lv_at hl 0 rfl) ?_
    refine lv_dup hx hb d_MM_choice_202 rfl ?_
    refine o_get (v := .int (NP_pat Np)) C in_MM hP 0 mw_0 rfl 27 (by decide) k_8_17 rfl rfl d_MM_choice_203 ?_
    refine lv_iconst (v := (1:Int32)) hx hb d_MM_choice_206 (by decide) ?_
    refine lv_iadd hx hb d_MM_choice_207 ?_
    refine o_put (v := .int ((NP_pat Np) + (1:Int32))) (ty := .int) (w1 := (m_cw ad ca ky ty 48 Ni (NP_mk (NP_nodeKind Np) (NP_nodeA Np) (NP_nodeB Np) (NP_nodeC Np) (NP_nodeNext Np) (NP_low Np) (NP_high Np) (NP_setFrom Np) (NP_setTo Np) (NP_setNot Np) (NP_nodes Np) (NP_sets Np) (NP_ranges Np) ((NP_pat Np) + (1:Int32)) (NP_patEnd Np) (NP_broken Np)) No Nx Nf Na Nh Nq Nj M0 tc)) C in_MM t_MM t_MM_ok n_MM hP (hDD _ _ _ _ _ _ _ _ _ _ _ _) hS 0 mw_0 rfl 27 (by decide) k_8_17 rfl rfl (by decide +kernel) rfl rfl (Nat.le_of_ble_eq_true rfl) rfl d_MM_choice_208 (fun H locs hP hS => ?_)
    refine lv_aload_n hx hb d_MM_choice_211 rfl (lv_at hl 0 rfl) ?_
    refine lv_iload_n hx hb d_MM_choice_212 rfl (lv_at hl 2 rfl) ?_
    refine lv_iload_n hx hb d_MM_choice_213 rfl (lv_at hl 1 rfl) ?_
    obtain ⟨q15, hq15, h⟩ := o_bd_some h
    refine o_V (st1 := [.int q15.1]) (w1 := (m_cw ad ca ky ty 48 Ni q15.2 No Nx Nf Na Nh Nq Nj M0 tc)) hE.1 C (e_MM_close hE hKy l x2 x1 (NP_mk (NP_nodeKind Np) (NP_nodeA Np) (NP_nodeB Np) (NP_nodeC Np) (NP_nodeNext Np) (NP_low Np) (NP_high Np) (NP_setFrom Np) (NP_setTo Np) (NP_setNot Np) (NP_nodes Np) (NP_sets Np) (NP_ranges Np) ((NP_pat Np) + (1:Int32)) (NP_patEnd Np) (NP_broken Np)) Ni No Nx Nf Na Nh Nq Nj M0 tc 48 hq15) hP (hDD _ _ _ _ _ _ _ _ _ _ _ _) hS hl.1 rfl mw_0 k_9_117 k_9_119 k_s_100 k_1_12 k_9_120 hv_MM_close rfl rfl ⟨(Nat.le_of_ble_eq_true rfl), (Nat.le_of_ble_eq_true rfl)⟩ rfl (Nat.le_of_ble_eq_true rfl) ⟨Nat.zero_le _, Nat.zero_le _⟩ rfl d_MM_choice_214 (fun H locs hP hS => ?_)
    cases h
    exact o_ri C hP hS d_MM_choice_217
  · replace h := o_ff c15 h
    refine lv_aload_n hx hb d_MM_choice_196 rfl (lv_at hl 0 rfl) ?_
    obtain ⟨q16, hq16, h⟩ := o_bd_some h
    refine o_V (st1 := [.int q16.1]) (w1 := (m_cw ad ca ky ty 48 Ni q16.2 No Nx Nf Na Nh Nq Nj M0 tc)) hE.1 C (e_MM_no hE hKy l Np Ni No Nx Nf Na Nh Nq Nj M0 tc 48 hq16) hP (hDD _ _ _ _ _ _ _ _ _ _ _ _) hS hl.1 rfl mw_0 k_9_78 k_9_80 k_s_91 k_1_12 k_9_81 hv_MM_no rfl rfl ⟨(Nat.le_of_ble_eq_true rfl), (Nat.le_of_ble_eq_true rfl)⟩ rfl (Nat.le_of_ble_eq_true rfl) ⟨Nat.zero_le _, Nat.zero_le _⟩ rfl d_MM_choice_197 (fun H locs hP hS => ?_)
    cases h
    exact o_ri C hP hS d_MM_choice_200
set_option maxHeartbeats 4000000 in
set_option maxRecDepth 100000 in
theorem f_MM_choice_j40_b {E : (Nat → Prop) → State → Heap → Prop} {p : Program} {l : Launch} {e : Env} {s : State} {m : MethodId} {args : Array Value} {below : List Frame} {meth : Method} {c : Code} {D : va_G} {ad kd sd vd xd : Nat → Nat} {ca : Nat → ClassId} {A : Nat → Prop} {ky ty : Nat → Option Nat} (hE : o_EK E kd sd vd xd) (hKy : m_KY ky ty sd) (C : o_Cx E p s m args meth c D m_cls (m_tys ca) "SchemaJudgeModel" b_MM_choice (some .int) 5 cc_MM_choice A) (hDD : ∀ (rt : Nat) (Ni : SNI) (Np : SNP) (No : SNO) (Nx : SNX) (Nf : SNF) (Na : SNA) (Nh : SNH) (Nq : SNQ) (Nj : SNJ) (M0 : SMT) (M1 : SMT), va_D A (m_cw ad ca ky ty rt Ni Np No Nx Nf Na Nh Nq Nj M0 M1)) (n : Nat) (x1 : Int32) (tc : SMT) (Np : SNP) (Ni : SNI) (No : SNO) (Nx : SNX) (Nf : SNF) (Na : SNA) (Nh : SNH) (Nq : SNQ) (Nj : SNJ) (M0 : SMT) {r : Int32 × SNP} (h : m_MM_choice_j40 n x1 tc Np = some r) : o_At p l e rm_MM_choice s m args below meth c (MQ below (o_Qx D m_cls (some (.int r.1)) (m_cw ad ca ky ty 48 Ni r.2 No Nx Nf Na Nh Nq Nj M0 tc) A) args s 0 0 A) m_cls D A 5 40 [] (m_cw ad ca ky ty 48 Ni Np No Nx Nf Na Nh Nq Nj M0 tc) [(0, .ref (ad 0)), (1, .int x1)] := by
  unfold m_MM_choice_j40 at h
  intro H locs ls hP hS hl
  have C0 := C
  obtain ⟨hx, hb, -, -, -, hown, hts, hK, -, -⟩ := C0
  refine lv_aload_n hx hb d_MM_choice_40 rfl (lv_at hl 0 rfl) ?_
  obtain ⟨q2, hq2, h⟩ := o_bd_some h
  refine o_V (st1 := [.int q2]) (w1 := (m_cw ad ca ky ty 48 Ni Np No Nx Nf Na Nh Nq Nj M0 tc)) hE.1 C (e_MM_begin hE hKy l Np Ni No Nx Nf Na Nh Nq Nj M0 tc 48 hq2) hP (hDD _ _ _ _ _ _ _ _ _ _ _ _) hS hl.1 rfl mw_0 k_9_86 k_9_88 k_s_93 k_1_12 k_9_89 hv_MM_begin rfl rfl ⟨(Nat.le_of_ble_eq_true rfl), (Nat.le_of_ble_eq_true rfl)⟩ rfl (Nat.le_of_ble_eq_true rfl) ⟨Nat.zero_le _, Nat.zero_le _⟩ rfl d_MM_choice_41 (fun H locs hP hS => ?_)
  refine lv_istore_n (lv' := [(2, .int q2), (0, .ref (ad 0)), (1, .int x1)]) hx hb d_MM_choice_44 rfl hl (by decide) rfl (fun ls hl => ?_)
  obtain ⟨q11, hq11, h⟩ := o_bd_some h
  refine o_sim2 (AH := fun zz => o_At p l e rm_MM_choice s m args below meth c _ m_cls D A 5 45 [] (m_cw ad ca ky ty 48 Ni zz No Nx Nf Na Nh Nq Nj M0 tc) [(0, .ref (ad 0)), (1, .int x1), (2, .int q2)]) (AX := fun qq => if qq.1 = 1 then o_At p l e rm_MM_choice s m args below meth c _ m_cls D A 5 73 [] (m_cw ad ca ky ty 48 Ni qq.2 No Nx Nf Na Nh Nq Nj M0 tc) [(0, .ref (ad 0))] else if qq.1 = 2 then o_At p l e rm_MM_choice s m args below meth c _ m_cls D A 5 90 [] (m_cw ad ca ky ty 48 Ni qq.2 No Nx Nf Na Nh Nq Nj M0 tc) [(0, .ref (ad 0))] else if qq.1 = 3 then o_At p l e rm_MM_choice s m args below meth c _ m_cls D A 5 174 [] (m_cw ad ca ky ty 48 Ni qq.2 No Nx Nf Na Nh Nq Nj M0 tc) [(0, .ref (ad 0))] else o_At p l e rm_MM_choice s m args below meth c _ m_cls D A 5 189 [] (m_cw ad ca ky ty 48 Ni qq.2 No Nx Nf Na Nh Nq Nj M0 tc) [(0, .ref (ad 0)), (1, .int x1), (2, .int q2)]) (fun zz qq h h0 h1 => f_MM_choice_b45_b hE hKy C hDD n x1 q2 tc Ni No Nx Nf Na Nh Nq Nj M0 zz qq h h0 h1) n _ q11 hq11 ?_ _ _ _ hP hS (lv_sub hl [1, 2, 0] rfl)
  by_cases c16 : q11.1 = 1
  · replace h := o_tt c16 h
    refine o_ip c16 ?_
    intro H locs ls hP hS hl
    refine lv_aload_n hx hb d_MM_choice_73 rfl (lv_at hl 0 rfl) ?_
    obtain ⟨q12, hq12, h⟩ := o_bd_some h
    refine o_V (st1 := [.int q12.1]) (w1 := (m_cw ad ca ky ty 48 Ni q12.2 No Nx Nf Na Nh Nq Nj M0 tc)) hE.1 C (e_MM_no hE hKy l q11.2 Ni No Nx Nf Na Nh Nq Nj M0 tc 48 hq12) hP (hDD _ _ _ _ _ _ _ _ _ _ _ _) hS hl.1 rfl mw_0 k_9_78 k_9_80 k_s_91 k_1_12 k_9_81 hv_MM_no rfl rfl ⟨(Nat.le_of_ble_eq_true rfl), (Nat.le_of_ble_eq_true rfl)⟩ rfl (Nat.le_of_ble_eq_true rfl) ⟨Nat.zero_le _, Nat.zero_le _⟩ rfl d_MM_choice_74 (fun H locs hP hS => ?_)
    cases h
    exact o_ri C hP hS d_MM_choice_77
  replace h := o_ff c16 h
  refine o_in_ c16 ?_
  by_cases c17 : q11.1 = 2
  · replace h := o_tt c17 h
    refine o_ip c17 ?_
    intro H locs ls hP hS hl
    refine lv_aload_n hx hb d_MM_choice_90 rfl (lv_at hl 0 rfl) ?_
    obtain ⟨q13, hq13, h⟩ := o_bd_some h
    refine o_V (st1 := [.int q13.1]) (w1 := (m_cw ad ca ky ty 48 Ni q13.2 No Nx Nf Na Nh Nq Nj M0 tc)) hE.1 C (e_MM_no hE hKy l q11.2 Ni No Nx Nf Na Nh Nq Nj M0 tc 48 hq13) hP (hDD _ _ _ _ _ _ _ _ _ _ _ _) hS hl.1 rfl mw_0 k_9_78 k_9_80 k_s_91 k_1_12 k_9_81 hv_MM_no rfl rfl ⟨(Nat.le_of_ble_eq_true rfl), (Nat.le_of_ble_eq_true rfl)⟩ rfl (Nat.le_of_ble_eq_true rfl) ⟨Nat.zero_le _, Nat.zero_le _⟩ rfl d_MM_choice_91 (fun H locs hP hS => ?_)
    cases h
    exact o_ri C hP hS d_MM_choice_94
  replace h := o_ff c17 h
  refine o_in_ c17 ?_
  by_cases c18 : q11.1 = 3
  · replace h := o_tt c18 h
    refine o_ip c18 ?_
    intro H locs ls hP hS hl
    exact f_MM_choice_j174_b hE hKy C hDD n tc q11.2 Ni No Nx Nf Na Nh Nq Nj M0 h _ _ _ hP hS (lv_sub hl [0] rfl)
  replace h := o_ff c18 h
  refine o_in_ c18 ?_
  intro H locs ls hP hS hl
  exact f_MM_choice_j189_b hE hKy C hDD n x1 q2 tc q11.2 Ni No Nx Nf Na Nh Nq Nj M0 h _ _ _ hP hS (lv_sub hl [0, 1, 2] rfl)
set_option maxHeartbeats 4000000 in
set_option maxRecDepth 100000 in
theorem f_MM_choice_j25_b {E : (Nat → Prop) → State → Heap → Prop} {p : Program} {l : Launch} {e : Env} {s : State} {m : MethodId} {args : Array Value} {below : List Frame} {meth : Method} {c : Code} {D : va_G} {ad kd sd vd xd : Nat → Nat} {ca : Nat → ClassId} {A : Nat → Prop} {ky ty : Nat → Option Nat} (hE : o_EK E kd sd vd xd) (hKy : m_KY ky ty sd) (C : o_Cx E p s m args meth c D m_cls (m_tys ca) "SchemaJudgeModel" b_MM_choice (some .int) 5 cc_MM_choice A) (hDD : ∀ (rt : Nat) (Ni : SNI) (Np : SNP) (No : SNO) (Nx : SNX) (Nf : SNF) (Na : SNA) (Nh : SNH) (Nq : SNQ) (Nj : SNJ) (M0 : SMT) (M1 : SMT), va_D A (m_cw ad ca ky ty rt Ni Np No Nx Nf Na Nh Nq Nj M0 M1)) (n : Nat) (y0 : Int32) (tc : SMT) (Np : SNP) (Ni : SNI) (No : SNO) (Nx : SNX) (Nf : SNF) (Na : SNA) (Nh : SNH) (Nq : SNQ) (Nj : SNJ) (M0 : SMT) {r : Int32 × SNP} (h : m_MM_choice_j25 n y0 tc Np = some r) : o_At p l e rm_MM_choice s m args below meth c (MQ below (o_Qx D m_cls (some (.int r.1)) (m_cw ad ca ky ty 48 Ni r.2 No Nx Nf Na Nh Nq Nj M0 tc) A) args s 0 0 A) m_cls D A 5 25 [.int y0] (m_cw ad ca ky ty 48 Ni Np No Nx Nf Na Nh Nq Nj M0 tc) [(0, .ref (ad 0))] := by
  unfold m_MM_choice_j25 at h
  intro H locs ls hP hS hl
  have C0 := C
  obtain ⟨hx, hb, -, -, -, hown, hts, hK, -, -⟩ := C0
  refine lv_istore_n (lv' := [(1, .int y0), (0, .ref (ad 0))]) hx hb d_MM_choice_25 rfl hl (by decide) rfl (fun ls hl => ?_)
  refine lv_iload_n hx hb d_MM_choice_26 rfl (lv_at hl 0 rfl) ?_
  refine lv_if_eq (tgt := 40) hx hb d_MM_choice_27 (by decide) (fun c2 => ?_) (fun c2 => ?_)
  · replace h := o_tt c2 h
    exact f_MM_choice_j40_b hE hKy C hDD n y0 tc Np Ni No Nx Nf Na Nh Nq Nj M0 h _ _ _ hP hS (lv_sub hl [1, 0] rfl)
  · replace h := o_ff c2 h
    refine lv_aload_n hx hb d_MM_choice_30 rfl (lv_at hl 1 rfl) ?_
    refine lv_dup hx hb d_MM_choice_31 rfl ?_
    refine o_get (v := .int (NP_pat Np)) C in_MM hP 0 mw_0 rfl 27 (by decide) k_8_17 rfl rfl d_MM_choice_32 ?_
    refine lv_iconst (v := (1:Int32)) hx hb d_MM_choice_35 (by decide) ?_
    refine lv_iadd hx hb d_MM_choice_36 ?_
    refine o_put (v := .int ((NP_pat Np) + (1:Int32))) (ty := .int) (w1 := (m_cw ad ca ky ty 48 Ni (NP_mk (NP_nodeKind Np) (NP_nodeA Np) (NP_nodeB Np) (NP_nodeC Np) (NP_nodeNext Np) (NP_low Np) (NP_high Np) (NP_setFrom Np) (NP_setTo Np) (NP_setNot Np) (NP_nodes Np) (NP_sets Np) (NP_ranges Np) ((NP_pat Np) + (1:Int32)) (NP_patEnd Np) (NP_broken Np)) No Nx Nf Na Nh Nq Nj M0 tc)) C in_MM t_MM t_MM_ok n_MM hP (hDD _ _ _ _ _ _ _ _ _ _ _ _) hS 0 mw_0 rfl 27 (by decide) k_8_17 rfl rfl (by decide +kernel) rfl rfl (Nat.le_of_ble_eq_true rfl) rfl d_MM_choice_37 (fun H locs hP hS => ?_)
    exact f_MM_choice_j40_b hE hKy C hDD n y0 tc (NP_mk (NP_nodeKind Np) (NP_nodeA Np) (NP_nodeB Np) (NP_nodeC Np) (NP_nodeNext Np) (NP_low Np) (NP_high Np) (NP_setFrom Np) (NP_setTo Np) (NP_setNot Np) (NP_nodes Np) (NP_sets Np) (NP_ranges Np) ((NP_pat Np) + (1:Int32)) (NP_patEnd Np) (NP_broken Np)) Ni No Nx Nf Na Nh Nq Nj M0 h _ _ _ hP hS (lv_sub hl [1, 0] rfl)
set_option maxHeartbeats 4000000 in
set_option maxRecDepth 100000 in
theorem e_MM_choice_b {E : (Nat → Prop) → State → Heap → Prop} {D : va_G} {ad kd sd vd xd : Nat → Nat} {ca : Nat → ClassId} {ky ty : Nat → Option Nat} (hE : o_EK E kd sd vd xd) (hKy : m_KY ky ty sd) (l : Launch) (n : Nat)  (tc : SMT) (Np : SNP) (Ni : SNI) (No : SNO) (Nx : SNX) (Nf : SNF) (Na : SNA) (Nh : SNH) (Nq : SNQ) (Nj : SNJ) (M0 : SMT) {r : Int32 × SNP} (h : m_MM_choice n tc Np = some r) : o_Cn E l D m_cls (m_tys ca) y_MM_choice cc_MM_choice rm_MM_choice [.ref (ad 0)] (m_cw ad ca ky ty 48 Ni Np No Nx Nf Na Nh Nq Nj M0 tc) (m_cw ad ca ky ty 48 Ni r.2 No Nx Nf Na Nh Nq Nj M0 tc) (some (.int r.1)) := by
  refine o_Cn_of (by decide) (Nat.le_of_ble_eq_true rfl) ?_
  intro p e s m below meth c A ls C hD hP hS hl
  have hDD : ∀ (rt : Nat) (Ni : SNI) (Np : SNP) (No : SNO) (Nx : SNX) (Nf : SNF) (Na : SNA) (Nh : SNH) (Nq : SNQ) (Nj : SNJ) (M0 : SMT) (M1 : SMT), va_D A (m_cw ad ca ky ty rt Ni Np No Nx Nf Na Nh Nq Nj M0 M1) := fun _ _ _ _ _ _ _ _ _ _ _ _ => o_D_map hD rfl
  have hl : lv_has ls 5 [(0, .ref (ad 0))] := hl
  unfold m_MM_choice at h
  have C0 := C
  obtain ⟨hx, hb, -, -, -, hown, hts, hK, -, -⟩ := C0
  refine lv_aload_n hx hb d_MM_choice_0 rfl (lv_at hl 0 rfl) ?_
  refine lv_dup hx hb d_MM_choice_1 rfl ?_
  refine o_get (v := .int (NP_pat Np)) C in_MM hP 0 mw_0 rfl 27 (by decide) k_8_17 rfl rfl d_MM_choice_2 ?_
  refine lv_iconst (v := (1:Int32)) hx hb d_MM_choice_5 (by decide) ?_
  refine lv_iadd hx hb d_MM_choice_6 ?_
  refine o_put (v := .int ((NP_pat Np) + (1:Int32))) (ty := .int) (w1 := (m_cw ad ca ky ty 48 Ni (NP_mk (NP_nodeKind Np) (NP_nodeA Np) (NP_nodeB Np) (NP_nodeC Np) (NP_nodeNext Np) (NP_low Np) (NP_high Np) (NP_setFrom Np) (NP_setTo Np) (NP_setNot Np) (NP_nodes Np) (NP_sets Np) (NP_ranges Np) ((NP_pat Np) + (1:Int32)) (NP_patEnd Np) (NP_broken Np)) No Nx Nf Na Nh Nq Nj M0 tc)) C in_MM t_MM t_MM_ok n_MM hP (hDD _ _ _ _ _ _ _ _ _ _ _ _) hS 0 mw_0 rfl 27 (by decide) k_8_17 rfl rfl (by decide +kernel) rfl rfl (Nat.le_of_ble_eq_true rfl) rfl d_MM_choice_7 (fun H locs hP hS => ?_)
  refine lv_aload_n hx hb d_MM_choice_10 rfl (lv_at hl 0 rfl) ?_
  refine lv_iconst (v := (0:Int32)) hx hb d_MM_choice_11 (by decide) ?_
  obtain ⟨q1, hq1, h⟩ := o_bd_some h
  refine o_V (st1 := [.int q1]) (w1 := (m_cw ad ca ky ty 48 Ni (NP_mk (NP_nodeKind Np) (NP_nodeA Np) (NP_nodeB Np) (NP_nodeC Np) (NP_nodeNext Np) (NP_low Np) (NP_high Np) (NP_setFrom Np) (NP_setTo Np) (NP_setNot Np) (NP_nodes Np) (NP_sets Np) (NP_ranges Np) ((NP_pat Np) + (1:Int32)) (NP_patEnd Np) (NP_broken Np)) No Nx Nf Na Nh Nq Nj M0 tc)) hE.1 C (e_MM_p_b hE hKy l (0:Int32) tc (NP_mk (NP_nodeKind Np) (NP_nodeA Np) (NP_nodeB Np) (NP_nodeC Np) (NP_nodeNext Np) (NP_low Np) (NP_high Np) (NP_setFrom Np) (NP_setTo Np) (NP_setNot Np) (NP_nodes Np) (NP_sets Np) (NP_ranges Np) ((NP_pat Np) + (1:Int32)) (NP_patEnd Np) (NP_broken Np)) Ni No Nx Nf Na Nh Nq Nj M0 hq1) hP (hDD _ _ _ _ _ _ _ _ _ _ _ _) hS hl.1 rfl mw_0 k_9_70 k_9_72 k_s_89 k_1_12 k_9_73 hv_MM_p rfl rfl ⟨(Nat.le_of_ble_eq_true rfl), (Nat.le_of_ble_eq_true rfl)⟩ rfl (Nat.le_of_ble_eq_true rfl) ⟨Nat.zero_le _, Nat.zero_le _⟩ rfl d_MM_choice_12 (fun H locs hP hS => ?_)
  refine lv_bipush (v := (94:Int32)) hx hb d_MM_choice_15 (by decide) ?_
  refine lv_icmp_ne (tgt := 24) hx hb d_MM_choice_17 (by decide) (fun c1 => ?_) (fun c1 => ?_)
  · replace h := o_ff c1 h
    refine lv_iconst (v := (0:Int32)) hx hb d_MM_choice_24 (by decide) ?_
    exact f_MM_choice_j25_b hE hKy C hDD n (0:Int32) tc (NP_mk (NP_nodeKind Np) (NP_nodeA Np) (NP_nodeB Np) (NP_nodeC Np) (NP_nodeNext Np) (NP_low Np) (NP_high Np) (NP_setFrom Np) (NP_setTo Np) (NP_setNot Np) (NP_nodes Np) (NP_sets Np) (NP_ranges Np) ((NP_pat Np) + (1:Int32)) (NP_patEnd Np) (NP_broken Np)) Ni No Nx Nf Na Nh Nq Nj M0 h _ _ _ hP hS (lv_sub hl [0] rfl)
  · replace h := o_tt c1 h
    refine lv_iconst (v := (1:Int32)) hx hb d_MM_choice_20 (by decide) ?_
    refine lv_goto (tgt := 25) hx hb d_MM_choice_21 (by decide) ?_
    exact f_MM_choice_j25_b hE hKy C hDD n (1:Int32) tc (NP_mk (NP_nodeKind Np) (NP_nodeA Np) (NP_nodeB Np) (NP_nodeC Np) (NP_nodeNext Np) (NP_low Np) (NP_high Np) (NP_setFrom Np) (NP_setTo Np) (NP_setNot Np) (NP_nodes Np) (NP_sets Np) (NP_ranges Np) ((NP_pat Np) + (1:Int32)) (NP_patEnd Np) (NP_broken Np)) Ni No Nx Nf Na Nh Nq Nj M0 h _ _ _ hP hS (lv_sub hl [0] rfl)
set_option maxHeartbeats 4000000 in
set_option maxRecDepth 100000 in
theorem f_MM_number_b4_a {E : (Nat → Prop) → State → Heap → Prop} {p : Program} {l : Launch} {e : Env} {s : State} {m : MethodId} {args : Array Value} {below : List Frame} {meth : Method} {c : Code} {D : va_G} {ad kd sd vd xd : Nat → Nat} {ca : Nat → ClassId} {A : Nat → Prop} {ky ty : Nat → Option Nat} {Q : State → Prop} (hE : o_EK E kd sd vd xd) (hKy : m_KY ky ty sd) (C : o_Cx E p s m args meth c D m_cls (m_tys ca) "SchemaJudgeModel" b_MM_number (some .int) 3 cc_MM_number A) (hDD : ∀ (rt : Nat) (Ni : SNI) (Np : SNP) (No : SNO) (Nx : SNX) (Nf : SNF) (Na : SNA) (Nh : SNH) (Nq : SNQ) (Nj : SNJ) (M0 : SMT) (M1 : SMT), va_D A (m_cw ad ca ky ty rt Ni Np No Nx Nf Na Nh Nq Nj M0 M1)) (n : Nat) (u4_tc : SMT) (u4_Ni : SNI) (u4_No : SNO) (u4_Nx : SNX) (u4_Nf : SNF) (u4_Na : SNA) (u4_Nh : SNH) (u4_Nq : SNQ) (u4_Nj : SNJ) (u4_M1 : SMT) (z : Int32 × Int32 × SNP) (q : Nat × Int32 × Int32 × SNP) (h : m_MM_number_b4 n u4_tc z = some q) (h0 : q.1 = 0 → o_At p l e rm_MM_number s m args below meth c Q m_cls D A 3 4 [] (m_cw ad ca ky ty 33 u4_Ni q.2.2.2 u4_No u4_Nx u4_Nf u4_Na u4_Nh u4_Nq u4_Nj u4_tc u4_M1) [(0, .ref (ad 0)), (1, .int q.2.1), (2, .int q.2.2.1)]) (h1 : q.1 ≠ 0 → (if q.1 = 1 then o_At p l e rm_MM_number s m args below meth c Q m_cls D A 3 51 [] (m_cw ad ca ky ty 33 u4_Ni q.2.2.2 u4_No u4_Nx u4_Nf u4_Na u4_Nh u4_Nq u4_Nj u4_tc u4_M1) [(0, .ref (ad 0))] else o_At p l e rm_MM_number s m args below meth c Q m_cls D A 3 58 [] (m_cw ad ca ky ty 33 u4_Ni q.2.2.2 u4_No u4_Nx u4_Nf u4_Na u4_Nh u4_Nq u4_Nj u4_tc u4_M1) [(0, .ref (ad 0)), (1, .int q.2.1), (2, .int q.2.2.1)])) : o_At p l e rm_MM_number s m args below meth c Q m_cls D A 3 4 [] (m_cw ad ca ky ty 33 u4_Ni z.2.2 u4_No u4_Nx u4_Nf u4_Na u4_Nh u4_Nq u4_Nj u4_tc u4_M1) [(0, .ref (ad 0)), (1, .int z.1), (2, .int z.2.1)] := by
  unfold m_MM_number_b4 at h
  intro H locs ls hP hS hl
  have C0 := C
  obtain ⟨hx, hb, -, -, -, hown, hts, hK, -, -⟩ := C0
  refine lv_aload_n hx hb d_MM_number_4 rfl (lv_at hl 0 rfl) ?_
  refine lv_iconst (v := (0:Int32)) hx hb d_MM_number_5 (by decide) ?_
  obtain ⟨q1, hq1, h⟩ := o_bd_some h
  refine o_V (st1 := [.int q1]) (w1 := (m_cw ad ca ky ty 33 u4_Ni z.2.2 u4_No u4_Nx u4_Nf u4_Na u4_Nh u4_Nq u4_Nj u4_tc u4_M1)) hE.1 C (e_MM_p_a hE hKy l (0:Int32) u4_tc z.2.2 u4_Ni u4_No u4_Nx u4_Nf u4_Na u4_Nh u4_Nq u4_Nj u4_M1 hq1) hP (hDD _ _ _ _ _ _ _ _ _ _ _ _) hS hl.1 rfl mw_0 k_9_70 k_9_72 k_s_89 k_1_12 k_9_73 hv_MM_p rfl rfl ⟨(Nat.le_of_ble_eq_true rfl), (Nat.le_of_ble_eq_true rfl)⟩ rfl (Nat.le_of_ble_eq_true rfl) ⟨Nat.zero_le _, Nat.zero_le _⟩ rfl d_MM_number_6 (fun H locs hP hS => ?_)
  refine lv_bipush (v := (48:Int32)) hx hb d_MM_number_9 (by decide) ?_
  refine lv_bipush (v := (57:Int32)) hx hb d_MM_number_11 (by decide) ?_
  obtain ⟨q2, hq2, h⟩ := o_bd_some h
  refine o_S (st1 := [.int q2]) (w1 := (m_cw ad ca ky ty 33 u4_Ni z.2.2 u4_No u4_Nx u4_Nf u4_Na u4_Nh u4_Nq u4_Nj u4_tc u4_M1)) hE.1 C (e_MM_in hE hKy l q1 (48:Int32) (57:Int32) u4_Ni z.2.2 u4_No u4_Nx u4_Nf u4_Na u4_Nh u4_Nq u4_Nj u4_tc u4_M1 33 hq2) hP (hDD _ _ _ _ _ _ _ _ _ _ _ _) hS hl.1 k_9_41 k_8_201 k_1_12 k_8_202 hs_MM_in rfl rfl ⟨(Nat.le_of_ble_eq_true rfl), (Nat.le_of_ble_eq_true rfl)⟩ rfl (Nat.le_of_ble_eq_true rfl) ⟨Nat.zero_le _, Nat.zero_le _⟩ rfl d_MM_number_13 (fun H locs hP hS => ?_)
  refine lv_if_eq (tgt := 58) hx hb d_MM_number_16 (by decide) (fun c1 => ?_) (fun c1 => ?_)
  · replace h := o_tt c1 h
    cases h
    exact h1 (Nat.succ_ne_zero 1) _ _ _ hP hS (lv_sub hl [0, 1, 2] rfl)
  · replace h := o_ff c1 h
    refine lv_bipush (v := (10:Int32)) hx hb d_MM_number_19 (by decide) ?_
    refine lv_iload_n hx hb d_MM_number_21 rfl (lv_at hl 1 rfl) ?_
    refine lv_imul hx hb d_MM_number_22 ?_
    refine lv_aload_n hx hb d_MM_number_23 rfl (lv_at hl 0 rfl) ?_
    refine lv_iconst (v := (0:Int32)) hx hb d_MM_number_24 (by decide) ?_
    obtain ⟨q3, hq3, h⟩ := o_bd_some h
    refine o_V (st1 := [.int q3, .int ((10:Int32) * z.1)]) (w1 := (m_cw ad ca ky ty 33 u4_Ni z.2.2 u4_No u4_Nx u4_Nf u4_Na u4_Nh u4_Nq u4_Nj u4_tc u4_M1)) hE.1 C (e_MM_p_a hE hKy l (0:Int32) u4_tc z.2.2 u4_Ni u4_No u4_Nx u4_Nf u4_Na u4_Nh u4_Nq u4_Nj u4_M1 hq3) hP (hDD _ _ _ _ _ _ _ _ _ _ _ _) hS hl.1 rfl mw_0 k_9_70 k_9_72 k_s_89 k_1_12 k_9_73 hv_MM_p rfl rfl ⟨(Nat.le_of_ble_eq_true rfl), (Nat.le_of_ble_eq_true rfl)⟩ rfl (Nat.le_of_ble_eq_true rfl) ⟨Nat.zero_le _, Nat.zero_le _⟩ rfl d_MM_number_25 (fun H locs hP hS => ?_)
    refine lv_iadd hx hb d_MM_number_28 ?_
    refine lv_bipush (v := (48:Int32)) hx hb d_MM_number_29 (by decide) ?_
    refine lv_isub hx hb d_MM_number_31 ?_
    refine lv_topi (fun x1_32 ex1_32 => ?_)
    replace h := o_nm_at ex1_32 h
    refine lv_istore_n (lv' := [(1, .int x1_32), (0, .ref (ad 0)), (2, .int z.2.1)]) hx hb d_MM_number_32 rfl hl (by decide) rfl (fun ls hl => ?_)
    refine lv_aload_n hx hb d_MM_number_33 rfl (lv_at hl 1 rfl) ?_
    refine lv_dup hx hb d_MM_number_34 rfl ?_
    refine o_get (v := .int (NP_pat z.2.2)) C in_MM hP 0 mw_0 rfl 27 (by decide) k_8_17 rfl rfl d_MM_number_35 ?_
    refine lv_iconst (v := (1:Int32)) hx hb d_MM_number_38 (by decide) ?_
    refine lv_iadd hx hb d_MM_number_39 ?_
    refine o_put (v := .int ((NP_pat z.2.2) + (1:Int32))) (ty := .int) (w1 := (m_cw ad ca ky ty 33 u4_Ni (NP_mk (NP_nodeKind z.2.2) (NP_nodeA z.2.2) (NP_nodeB z.2.2) (NP_nodeC z.2.2) (NP_nodeNext z.2.2) (NP_low z.2.2) (NP_high z.2.2) (NP_setFrom z.2.2) (NP_setTo z.2.2) (NP_setNot z.2.2) (NP_nodes z.2.2) (NP_sets z.2.2) (NP_ranges z.2.2) ((NP_pat z.2.2) + (1:Int32)) (NP_patEnd z.2.2) (NP_broken z.2.2)) u4_No u4_Nx u4_Nf u4_Na u4_Nh u4_Nq u4_Nj u4_tc u4_M1)) C in_MM t_MM t_MM_ok n_MM hP (hDD _ _ _ _ _ _ _ _ _ _ _ _) hS 0 mw_0 rfl 27 (by decide) k_8_17 rfl rfl (by decide +kernel) rfl rfl (Nat.le_of_ble_eq_true rfl) rfl d_MM_number_40 (fun H locs hP hS => ?_)
    obtain ⟨x2_43, ex2_43⟩ : ∃ y : Int32, y = z.2.1 + (1:Int32) := ⟨_, rfl⟩
    replace h := o_nm_at ex2_43 h
    refine lv_iinc (v := x2_43) (lv' := [(2, .int x2_43), (1, .int x1_32), (0, .ref (ad 0))]) hx hb d_MM_number_43 hl (k := 2) rfl (by rw [ex2_43]; rfl) (by decide) rfl (fun ls hl => ?_)
    refine lv_iload_n hx hb d_MM_number_46 rfl (lv_at hl 0 rfl) ?_
    refine lv_iconst (v := (3:Int32)) hx hb d_MM_number_47 (by decide) ?_
    refine lv_icmp_le (tgt := 4) hx hb d_MM_number_48 (by decide) (fun c2 => ?_) (fun c2 => ?_)
    · replace h := o_tt c2 h
      cases h
      exact h0 rfl _ _ _ hP hS (lv_sub hl [2, 1, 0] rfl)
    · replace h := o_ff c2 h
      cases h
      exact h1 (Nat.succ_ne_zero 0) _ _ _ hP hS (lv_sub hl [2] rfl)
set_option maxHeartbeats 4000000 in
set_option maxRecDepth 100000 in
theorem e_MM_number_a {E : (Nat → Prop) → State → Heap → Prop} {D : va_G} {ad kd sd vd xd : Nat → Nat} {ca : Nat → ClassId} {ky ty : Nat → Option Nat} (hE : o_EK E kd sd vd xd) (hKy : m_KY ky ty sd) (l : Launch) (n : Nat)  (tc : SMT) (Np : SNP) (Ni : SNI) (No : SNO) (Nx : SNX) (Nf : SNF) (Na : SNA) (Nh : SNH) (Nq : SNQ) (Nj : SNJ) (M1 : SMT) {r : Int32 × SNP} (h : m_MM_number n tc Np = some r) : o_Cn E l D m_cls (m_tys ca) y_MM_number cc_MM_number rm_MM_number [.ref (ad 0)] (m_cw ad ca ky ty 33 Ni Np No Nx Nf Na Nh Nq Nj tc M1) (m_cw ad ca ky ty 33 Ni r.2 No Nx Nf Na Nh Nq Nj tc M1) (some (.int r.1)) := by
  refine o_Cn_of (by decide) (Nat.le_of_ble_eq_true rfl) ?_
  intro p e s m below meth c A ls C hD hP hS hl
  have hDD : ∀ (rt : Nat) (Ni : SNI) (Np : SNP) (No : SNO) (Nx : SNX) (Nf : SNF) (Na : SNA) (Nh : SNH) (Nq : SNQ) (Nj : SNJ) (M0 : SMT) (M1 : SMT), va_D A (m_cw ad ca ky ty rt Ni Np No Nx Nf Na Nh Nq Nj M0 M1) := fun _ _ _ _ _ _ _ _ _ _ _ _ => o_D_map hD rfl
  have hl : lv_has ls 3 [(0, .ref (ad 0))] := hl
  unfold m_MM_number at h
  have C0 := C
  obtain ⟨hx, hb, -, -, -, hown, hts, hK, -, -⟩ := C0
  refine lv_iconst (v := (0:Int32)) hx hb d_MM_number_0 (by decide) ?_
  refine lv_istore_n (lv' := [(1, .int (0:Int32)), (0, .ref (ad 0))]) hx hb d_MM_number_1 rfl hl (by decide) rfl (fun ls hl => ?_)
  refine lv_iconst (v := (0:Int32)) hx hb d_MM_number_2 (by decide) ?_
  refine lv_istore_n (lv' := [(2, .int (0:Int32)), (1, .int (0:Int32)), (0, .ref (ad 0))]) hx hb d_MM_number_3 rfl hl (by decide) rfl (fun ls hl => ?_)
  obtain ⟨q4, hq4, h⟩ := o_bd_some h
  refine o_sim2 (AH := fun zz => o_At p l e rm_MM_number s m _ below meth c _ m_cls D A 3 4 [] (m_cw ad ca ky ty 33 Ni zz.2.2 No Nx Nf Na Nh Nq Nj tc M1) [(0, .ref (ad 0)), (1, .int zz.1), (2, .int zz.2.1)]) (AX := fun qq => if qq.1 = 1 then o_At p l e rm_MM_number s m _ below meth c _ m_cls D A 3 51 [] (m_cw ad ca ky ty 33 Ni qq.2.2.2 No Nx Nf Na Nh Nq Nj tc M1) [(0, .ref (ad 0))] else o_At p l e rm_MM_number s m _ below meth c _ m_cls D A 3 58 [] (m_cw ad ca ky ty 33 Ni qq.2.2.2 No Nx Nf Na Nh Nq Nj tc M1) [(0, .ref (ad 0)), (1, .int qq.2.1), (2, .int qq.2.2.1)]) (fun zz qq h h0 h1 => f_MM_number_b4_a hE hKy C hDD n tc Ni No Nx Nf Na Nh Nq Nj M1 zz qq h h0 h1) n _ q4 hq4 ?_ _ _ _ hP hS (lv_sub hl [2, 1, 0] rfl)
  by_cases c5 : q4.1 = 1
  · replace h := o_tt c5 h
    refine o_ip c5 ?_
    intro H locs ls hP hS hl
    refine lv_aload_n hx hb d_MM_number_51 rfl (lv_at hl 0 rfl) ?_
    refine lv_iconst (v := (1:Int32)) hx hb d_MM_number_52 (by decide) ?_
    refine o_put (v := .int (1:Int32)) (ty := .boolean) (w1 := (m_cw ad ca ky ty 33 Ni (NP_mk (NP_nodeKind q4.2.2.2) (NP_nodeA q4.2.2.2) (NP_nodeB q4.2.2.2) (NP_nodeC q4.2.2.2) (NP_nodeNext q4.2.2.2) (NP_low q4.2.2.2) (NP_high q4.2.2.2) (NP_setFrom q4.2.2.2) (NP_setTo q4.2.2.2) (NP_setNot q4.2.2.2) (NP_nodes q4.2.2.2) (NP_sets q4.2.2.2) (NP_ranges q4.2.2.2) (NP_pat q4.2.2.2) (NP_patEnd q4.2.2.2) (1:Int32)) No Nx Nf Na Nh Nq Nj tc M1)) C in_MM t_MM t_MM_ok n_MM hP (hDD _ _ _ _ _ _ _ _ _ _ _ _) hS 0 mw_0 rfl 32 (by decide) k_8_22 rfl rfl (by decide +kernel) rfl rfl (Nat.le_of_ble_eq_true rfl) rfl d_MM_number_53 (fun H locs hP hS => ?_)
    refine lv_iconst (v := (0:Int32)) hx hb d_MM_number_56 (by decide) ?_
    cases h
    exact o_ri (v := (0:Int32)) C hP hS d_MM_number_57
  replace h := o_ff c5 h
  refine o_in_ c5 ?_
  intro H locs ls hP hS hl
  refine lv_iload_n hx hb d_MM_number_58 rfl (lv_at hl 2 rfl) ?_
  refine lv_if_eq (tgt := 68) hx hb d_MM_number_59 (by decide) (fun c3 => ?_) (fun c3 => ?_)
  · replace h := o_tt c3 h
    refine lv_aload_n hx hb d_MM_number_68 rfl (lv_at hl 0 rfl) ?_
    refine lv_iconst (v := (1:Int32)) hx hb d_MM_number_69 (by decide) ?_
    refine o_put (v := .int (1:Int32)) (ty := .boolean) (w1 := (m_cw ad ca ky ty 33 Ni (NP_mk (NP_nodeKind q4.2.2.2) (NP_nodeA q4.2.2.2) (NP_nodeB q4.2.2.2) (NP_nodeC q4.2.2.2) (NP_nodeNext q4.2.2.2) (NP_low q4.2.2.2) (NP_high q4.2.2.2) (NP_setFrom q4.2.2.2) (NP_setTo q4.2.2.2) (NP_setNot q4.2.2.2) (NP_nodes q4.2.2.2) (NP_sets q4.2.2.2) (NP_ranges q4.2.2.2) (NP_pat q4.2.2.2) (NP_patEnd q4.2.2.2) (1:Int32)) No Nx Nf Na Nh Nq Nj tc M1)) C in_MM t_MM t_MM_ok n_MM hP (hDD _ _ _ _ _ _ _ _ _ _ _ _) hS 0 mw_0 rfl 32 (by decide) k_8_22 rfl rfl (by decide +kernel) rfl rfl (Nat.le_of_ble_eq_true rfl) rfl d_MM_number_70 (fun H locs hP hS => ?_)
    refine lv_iload_n hx hb d_MM_number_73 rfl (lv_at hl 1 rfl) ?_
    cases h
    exact o_ri C hP hS d_MM_number_74
  · replace h := o_ff c3 h
    refine lv_iload_n hx hb d_MM_number_62 rfl (lv_at hl 1 rfl) ?_
    refine lv_bipush (v := (50:Int32)) hx hb d_MM_number_63 (by decide) ?_
    refine lv_icmp_le (tgt := 73) hx hb d_MM_number_65 (by decide) (fun c4 => ?_) (fun c4 => ?_)
    · replace h := o_tt c4 h
      refine lv_iload_n hx hb d_MM_number_73 rfl (lv_at hl 1 rfl) ?_
      cases h
      exact o_ri C hP hS d_MM_number_74
    · replace h := o_ff c4 h
      refine lv_aload_n hx hb d_MM_number_68 rfl (lv_at hl 0 rfl) ?_
      refine lv_iconst (v := (1:Int32)) hx hb d_MM_number_69 (by decide) ?_
      refine o_put (v := .int (1:Int32)) (ty := .boolean) (w1 := (m_cw ad ca ky ty 33 Ni (NP_mk (NP_nodeKind q4.2.2.2) (NP_nodeA q4.2.2.2) (NP_nodeB q4.2.2.2) (NP_nodeC q4.2.2.2) (NP_nodeNext q4.2.2.2) (NP_low q4.2.2.2) (NP_high q4.2.2.2) (NP_setFrom q4.2.2.2) (NP_setTo q4.2.2.2) (NP_setNot q4.2.2.2) (NP_nodes q4.2.2.2) (NP_sets q4.2.2.2) (NP_ranges q4.2.2.2) (NP_pat q4.2.2.2) (NP_patEnd q4.2.2.2) (1:Int32)) No Nx Nf Na Nh Nq Nj tc M1)) C in_MM t_MM t_MM_ok n_MM hP (hDD _ _ _ _ _ _ _ _ _ _ _ _) hS 0 mw_0 rfl 32 (by decide) k_8_22 rfl rfl (by decide +kernel) rfl rfl (Nat.le_of_ble_eq_true rfl) rfl d_MM_number_70 (fun H locs hP hS => ?_)
      refine lv_iload_n hx hb d_MM_number_73 rfl (lv_at hl 1 rfl) ?_
      cases h
      exact o_ri C hP hS d_MM_number_74
set_option maxHeartbeats 4000000 in
set_option maxRecDepth 100000 in
theorem f_MM_number_b4_b {E : (Nat → Prop) → State → Heap → Prop} {p : Program} {l : Launch} {e : Env} {s : State} {m : MethodId} {args : Array Value} {below : List Frame} {meth : Method} {c : Code} {D : va_G} {ad kd sd vd xd : Nat → Nat} {ca : Nat → ClassId} {A : Nat → Prop} {ky ty : Nat → Option Nat} {Q : State → Prop} (hE : o_EK E kd sd vd xd) (hKy : m_KY ky ty sd) (C : o_Cx E p s m args meth c D m_cls (m_tys ca) "SchemaJudgeModel" b_MM_number (some .int) 3 cc_MM_number A) (hDD : ∀ (rt : Nat) (Ni : SNI) (Np : SNP) (No : SNO) (Nx : SNX) (Nf : SNF) (Na : SNA) (Nh : SNH) (Nq : SNQ) (Nj : SNJ) (M0 : SMT) (M1 : SMT), va_D A (m_cw ad ca ky ty rt Ni Np No Nx Nf Na Nh Nq Nj M0 M1)) (n : Nat) (u4_tc : SMT) (u4_Ni : SNI) (u4_No : SNO) (u4_Nx : SNX) (u4_Nf : SNF) (u4_Na : SNA) (u4_Nh : SNH) (u4_Nq : SNQ) (u4_Nj : SNJ) (u4_M0 : SMT) (z : Int32 × Int32 × SNP) (q : Nat × Int32 × Int32 × SNP) (h : m_MM_number_b4 n u4_tc z = some q) (h0 : q.1 = 0 → o_At p l e rm_MM_number s m args below meth c Q m_cls D A 3 4 [] (m_cw ad ca ky ty 48 u4_Ni q.2.2.2 u4_No u4_Nx u4_Nf u4_Na u4_Nh u4_Nq u4_Nj u4_M0 u4_tc) [(0, .ref (ad 0)), (1, .int q.2.1), (2, .int q.2.2.1)]) (h1 : q.1 ≠ 0 → (if q.1 = 1 then o_At p l e rm_MM_number s m args below meth c Q m_cls D A 3 51 [] (m_cw ad ca ky ty 48 u4_Ni q.2.2.2 u4_No u4_Nx u4_Nf u4_Na u4_Nh u4_Nq u4_Nj u4_M0 u4_tc) [(0, .ref (ad 0))] else o_At p l e rm_MM_number s m args below meth c Q m_cls D A 3 58 [] (m_cw ad ca ky ty 48 u4_Ni q.2.2.2 u4_No u4_Nx u4_Nf u4_Na u4_Nh u4_Nq u4_Nj u4_M0 u4_tc) [(0, .ref (ad 0)), (1, .int q.2.1), (2, .int q.2.2.1)])) : o_At p l e rm_MM_number s m args below meth c Q m_cls D A 3 4 [] (m_cw ad ca ky ty 48 u4_Ni z.2.2 u4_No u4_Nx u4_Nf u4_Na u4_Nh u4_Nq u4_Nj u4_M0 u4_tc) [(0, .ref (ad 0)), (1, .int z.1), (2, .int z.2.1)] := by
  unfold m_MM_number_b4 at h
  intro H locs ls hP hS hl
  have C0 := C
  obtain ⟨hx, hb, -, -, -, hown, hts, hK, -, -⟩ := C0
  refine lv_aload_n hx hb d_MM_number_4 rfl (lv_at hl 0 rfl) ?_
  refine lv_iconst (v := (0:Int32)) hx hb d_MM_number_5 (by decide) ?_
  obtain ⟨q1, hq1, h⟩ := o_bd_some h
  refine o_V (st1 := [.int q1]) (w1 := (m_cw ad ca ky ty 48 u4_Ni z.2.2 u4_No u4_Nx u4_Nf u4_Na u4_Nh u4_Nq u4_Nj u4_M0 u4_tc)) hE.1 C (e_MM_p_b hE hKy l (0:Int32) u4_tc z.2.2 u4_Ni u4_No u4_Nx u4_Nf u4_Na u4_Nh u4_Nq u4_Nj u4_M0 hq1) hP (hDD _ _ _ _ _ _ _ _ _ _ _ _) hS hl.1 rfl mw_0 k_9_70 k_9_72 k_s_89 k_1_12 k_9_73 hv_MM_p rfl rfl ⟨(Nat.le_of_ble_eq_true rfl), (Nat.le_of_ble_eq_true rfl)⟩ rfl (Nat.le_of_ble_eq_true rfl) ⟨Nat.zero_le _, Nat.zero_le _⟩ rfl d_MM_number_6 (fun H locs hP hS => ?_)
  refine lv_bipush (v := (48:Int32)) hx hb d_MM_number_9 (by decide) ?_
  refine lv_bipush (v := (57:Int32)) hx hb d_MM_number_11 (by decide) ?_
  obtain ⟨q2, hq2, h⟩ := o_bd_some h
  refine o_S (st1 := [.int q2]) (w1 := (m_cw ad ca ky ty 48 u4_Ni z.2.2 u4_No u4_Nx u4_Nf u4_Na u4_Nh u4_Nq u4_Nj u4_M0 u4_tc)) hE.1 C (e_MM_in hE hKy l q1 (48:Int32) (57:Int32) u4_Ni z.2.2 u4_No u4_Nx u4_Nf u4_Na u4_Nh u4_Nq u4_Nj u4_M0 u4_tc 48 hq2) hP (hDD _ _ _ _ _ _ _ _ _ _ _ _) hS hl.1 k_9_41 k_8_201 k_1_12 k_8_202 hs_MM_in rfl rfl ⟨(Nat.le_of_ble_eq_true rfl), (Nat.le_of_ble_eq_true rfl)⟩ rfl (Nat.le_of_ble_eq_true rfl) ⟨Nat.zero_le _, Nat.zero_le _⟩ rfl d_MM_number_13 (fun H locs hP hS => ?_)
  refine lv_if_eq (tgt := 58) hx hb d_MM_number_16 (by decide) (fun c1 => ?_) (fun c1 => ?_)
  · replace h := o_tt c1 h
    cases h
    exact h1 (Nat.succ_ne_zero 1) _ _ _ hP hS (lv_sub hl [0, 1, 2] rfl)
  · replace h := o_ff c1 h
    refine lv_bipush (v := (10:Int32)) hx hb d_MM_number_19 (by decide) ?_
    refine lv_iload_n hx hb d_MM_number_21 rfl (lv_at hl 1 rfl) ?_
    refine lv_imul hx hb d_MM_number_22 ?_
    refine lv_aload_n hx hb d_MM_number_23 rfl (lv_at hl 0 rfl) ?_
    refine lv_iconst (v := (0:Int32)) hx hb d_MM_number_24 (by decide) ?_
    obtain ⟨q3, hq3, h⟩ := o_bd_some h
    refine o_V (st1 := [.int q3, .int ((10:Int32) * z.1)]) (w1 := (m_cw ad ca ky ty 48 u4_Ni z.2.2 u4_No u4_Nx u4_Nf u4_Na u4_Nh u4_Nq u4_Nj u4_M0 u4_tc)) hE.1 C (e_MM_p_b hE hKy l (0:Int32) u4_tc z.2.2 u4_Ni u4_No u4_Nx u4_Nf u4_Na u4_Nh u4_Nq u4_Nj u4_M0 hq3) hP (hDD _ _ _ _ _ _ _ _ _ _ _ _) hS hl.1 rfl mw_0 k_9_70 k_9_72 k_s_89 k_1_12 k_9_73 hv_MM_p rfl rfl ⟨(Nat.le_of_ble_eq_true rfl), (Nat.le_of_ble_eq_true rfl)⟩ rfl (Nat.le_of_ble_eq_true rfl) ⟨Nat.zero_le _, Nat.zero_le _⟩ rfl d_MM_number_25 (fun H locs hP hS => ?_)
    refine lv_iadd hx hb d_MM_number_28 ?_
    refine lv_bipush (v := (48:Int32)) hx hb d_MM_number_29 (by decide) ?_
    refine lv_isub hx hb d_MM_number_31 ?_
    refine lv_topi (fun x1_32 ex1_32 => ?_)
    replace h := o_nm_at ex1_32 h
    refine lv_istore_n (lv' := [(1, .int x1_32), (0, .ref (ad 0)), (2, .int z.2.1)]) hx hb d_MM_number_32 rfl hl (by decide) rfl (fun ls hl => ?_)
    refine lv_aload_n hx hb d_MM_number_33 rfl (lv_at hl 1 rfl) ?_
    refine lv_dup hx hb d_MM_number_34 rfl ?_
    refine o_get (v := .int (NP_pat z.2.2)) C in_MM hP 0 mw_0 rfl 27 (by decide) k_8_17 rfl rfl d_MM_number_35 ?_
    refine lv_iconst (v := (1:Int32)) hx hb d_MM_number_38 (by decide) ?_
    refine lv_iadd hx hb d_MM_number_39 ?_
    refine o_put (v := .int ((NP_pat z.2.2) + (1:Int32))) (ty := .int) (w1 := (m_cw ad ca ky ty 48 u4_Ni (NP_mk (NP_nodeKind z.2.2) (NP_nodeA z.2.2) (NP_nodeB z.2.2) (NP_nodeC z.2.2) (NP_nodeNext z.2.2) (NP_low z.2.2) (NP_high z.2.2) (NP_setFrom z.2.2) (NP_setTo z.2.2) (NP_setNot z.2.2) (NP_nodes z.2.2) (NP_sets z.2.2) (NP_ranges z.2.2) ((NP_pat z.2.2) + (1:Int32)) (NP_patEnd z.2.2) (NP_broken z.2.2)) u4_No u4_Nx u4_Nf u4_Na u4_Nh u4_Nq u4_Nj u4_M0 u4_tc)) C in_MM t_MM t_MM_ok n_MM hP (hDD _ _ _ _ _ _ _ _ _ _ _ _) hS 0 mw_0 rfl 27 (by decide) k_8_17 rfl rfl (by decide +kernel) rfl rfl (Nat.le_of_ble_eq_true rfl) rfl d_MM_number_40 (fun H locs hP hS => ?_)
    obtain ⟨x2_43, ex2_43⟩ : ∃ y : Int32, y = z.2.1 + (1:Int32) := ⟨_, rfl⟩
    replace h := o_nm_at ex2_43 h
    refine lv_iinc (v := x2_43) (lv' := [(2, .int x2_43), (1, .int x1_32), (0, .ref (ad 0))]) hx hb d_MM_number_43 hl (k := 2) rfl (by rw [ex2_43]; rfl) (by decide) rfl (fun ls hl => ?_)
    refine lv_iload_n hx hb d_MM_number_46 rfl (lv_at hl 0 rfl) ?_
    refine lv_iconst (v := (3:Int32)) hx hb d_MM_number_47 (by decide) ?_
    refine lv_icmp_le (tgt := 4) hx hb d_MM_number_48 (by decide) (fun c2 => ?_) (fun c2 => ?_)
    · replace h := o_tt c2 h
      cases h
      exact h0 rfl _ _ _ hP hS (lv_sub hl [2, 1, 0] rfl)
    · replace h := o_ff c2 h
      cases h
      exact h1 (Nat.succ_ne_zero 0) _ _ _ hP hS (lv_sub hl [2] rfl)
set_option maxHeartbeats 4000000 in
set_option maxRecDepth 100000 in
theorem e_MM_number_b {E : (Nat → Prop) → State → Heap → Prop} {D : va_G} {ad kd sd vd xd : Nat → Nat} {ca : Nat → ClassId} {ky ty : Nat → Option Nat} (hE : o_EK E kd sd vd xd) (hKy : m_KY ky ty sd) (l : Launch) (n : Nat)  (tc : SMT) (Np : SNP) (Ni : SNI) (No : SNO) (Nx : SNX) (Nf : SNF) (Na : SNA) (Nh : SNH) (Nq : SNQ) (Nj : SNJ) (M0 : SMT) {r : Int32 × SNP} (h : m_MM_number n tc Np = some r) : o_Cn E l D m_cls (m_tys ca) y_MM_number cc_MM_number rm_MM_number [.ref (ad 0)] (m_cw ad ca ky ty 48 Ni Np No Nx Nf Na Nh Nq Nj M0 tc) (m_cw ad ca ky ty 48 Ni r.2 No Nx Nf Na Nh Nq Nj M0 tc) (some (.int r.1)) := by
  refine o_Cn_of (by decide) (Nat.le_of_ble_eq_true rfl) ?_
  intro p e s m below meth c A ls C hD hP hS hl
  have hDD : ∀ (rt : Nat) (Ni : SNI) (Np : SNP) (No : SNO) (Nx : SNX) (Nf : SNF) (Na : SNA) (Nh : SNH) (Nq : SNQ) (Nj : SNJ) (M0 : SMT) (M1 : SMT), va_D A (m_cw ad ca ky ty rt Ni Np No Nx Nf Na Nh Nq Nj M0 M1) := fun _ _ _ _ _ _ _ _ _ _ _ _ => o_D_map hD rfl
  have hl : lv_has ls 3 [(0, .ref (ad 0))] := hl
  unfold m_MM_number at h
  have C0 := C
  obtain ⟨hx, hb, -, -, -, hown, hts, hK, -, -⟩ := C0
  refine lv_iconst (v := (0:Int32)) hx hb d_MM_number_0 (by decide) ?_
  refine lv_istore_n (lv' := [(1, .int (0:Int32)), (0, .ref (ad 0))]) hx hb d_MM_number_1 rfl hl (by decide) rfl (fun ls hl => ?_)
  refine lv_iconst (v := (0:Int32)) hx hb d_MM_number_2 (by decide) ?_
  refine lv_istore_n (lv' := [(2, .int (0:Int32)), (1, .int (0:Int32)), (0, .ref (ad 0))]) hx hb d_MM_number_3 rfl hl (by decide) rfl (fun ls hl => ?_)
  obtain ⟨q4, hq4, h⟩ := o_bd_some h
  refine o_sim2 (AH := fun zz => o_At p l e rm_MM_number s m _ below meth c _ m_cls D A 3 4 [] (m_cw ad ca ky ty 48 Ni zz.2.2 No Nx Nf Na Nh Nq Nj M0 tc) [(0, .ref (ad 0)), (1, .int zz.1), (2, .int zz.2.1)]) (AX := fun qq => if qq.1 = 1 then o_At p l e rm_MM_number s m _ below meth c _ m_cls D A 3 51 [] (m_cw ad ca ky ty 48 Ni qq.2.2.2 No Nx Nf Na Nh Nq Nj M0 tc) [(0, .ref (ad 0))] else o_At p l e rm_MM_number s m _ below meth c _ m_cls D A 3 58 [] (m_cw ad ca ky ty 48 Ni qq.2.2.2 No Nx Nf Na Nh Nq Nj M0 tc) [(0, .ref (ad 0)), (1, .int qq.2.1), (2, .int qq.2.2.1)]) (fun zz qq h h0 h1 => f_MM_number_b4_b hE hKy C hDD n tc Ni No Nx Nf Na Nh Nq Nj M0 zz qq h h0 h1) n _ q4 hq4 ?_ _ _ _ hP hS (lv_sub hl [2, 1, 0] rfl)
  by_cases c5 : q4.1 = 1
  · replace h := o_tt c5 h
    refine o_ip c5 ?_
    intro H locs ls hP hS hl
    refine lv_aload_n hx hb d_MM_number_51 rfl (lv_at hl 0 rfl) ?_
    refine lv_iconst (v := (1:Int32)) hx hb d_MM_number_52 (by decide) ?_
    refine o_put (v := .int (1:Int32)) (ty := .boolean) (w1 := (m_cw ad ca ky ty 48 Ni (NP_mk (NP_nodeKind q4.2.2.2) (NP_nodeA q4.2.2.2) (NP_nodeB q4.2.2.2) (NP_nodeC q4.2.2.2) (NP_nodeNext q4.2.2.2) (NP_low q4.2.2.2) (NP_high q4.2.2.2) (NP_setFrom q4.2.2.2) (NP_setTo q4.2.2.2) (NP_setNot q4.2.2.2) (NP_nodes q4.2.2.2) (NP_sets q4.2.2.2) (NP_ranges q4.2.2.2) (NP_pat q4.2.2.2) (NP_patEnd q4.2.2.2) (1:Int32)) No Nx Nf Na Nh Nq Nj M0 tc)) C in_MM t_MM t_MM_ok n_MM hP (hDD _ _ _ _ _ _ _ _ _ _ _ _) hS 0 mw_0 rfl 32 (by decide) k_8_22 rfl rfl (by decide +kernel) rfl rfl (Nat.le_of_ble_eq_true rfl) rfl d_MM_number_53 (fun H locs hP hS => ?_)
    refine lv_iconst (v := (0:Int32)) hx hb d_MM_number_56 (by decide) ?_
    cases h
    exact o_ri (v := (0:Int32)) C hP hS d_MM_number_57
  replace h := o_ff c5 h
  refine o_in_ c5 ?_
  intro H locs ls hP hS hl
  refine lv_iload_n hx hb d_MM_number_58 rfl (lv_at hl 2 rfl) ?_
  refine lv_if_eq (tgt := 68) hx hb d_MM_number_59 (by decide) (fun c3 => ?_) (fun c3 => ?_)
  · replace h := o_tt c3 h
    refine lv_aload_n hx hb d_MM_number_68 rfl (lv_at hl 0 rfl) ?_
    refine lv_iconst (v := (1:Int32)) hx hb d_MM_number_69 (by decide) ?_
    refine o_put (v := .int (1:Int32)) (ty := .boolean) (w1 := (m_cw ad ca ky ty 48 Ni (NP_mk (NP_nodeKind q4.2.2.2) (NP_nodeA q4.2.2.2) (NP_nodeB q4.2.2.2) (NP_nodeC q4.2.2.2) (NP_nodeNext q4.2.2.2) (NP_low q4.2.2.2) (NP_high q4.2.2.2) (NP_setFrom q4.2.2.2) (NP_setTo q4.2.2.2) (NP_setNot q4.2.2.2) (NP_nodes q4.2.2.2) (NP_sets q4.2.2.2) (NP_ranges q4.2.2.2) (NP_pat q4.2.2.2) (NP_patEnd q4.2.2.2) (1:Int32)) No Nx Nf Na Nh Nq Nj M0 tc)) C in_MM t_MM t_MM_ok n_MM hP (hDD _ _ _ _ _ _ _ _ _ _ _ _) hS 0 mw_0 rfl 32 (by decide) k_8_22 rfl rfl (by decide +kernel) rfl rfl (Nat.le_of_ble_eq_true rfl) rfl d_MM_number_70 (fun H locs hP hS => ?_)
    refine lv_iload_n hx hb d_MM_number_73 rfl (lv_at hl 1 rfl) ?_
    cases h
    exact o_ri C hP hS d_MM_number_74
  · replace h := o_ff c3 h
    refine lv_iload_n hx hb d_MM_number_62 rfl (lv_at hl 1 rfl) ?_
    refine lv_bipush (v := (50:Int32)) hx hb d_MM_number_63 (by decide) ?_
    refine lv_icmp_le (tgt := 73) hx hb d_MM_number_65 (by decide) (fun c4 => ?_) (fun c4 => ?_)
    · replace h := o_tt c4 h
      refine lv_iload_n hx hb d_MM_number_73 rfl (lv_at hl 1 rfl) ?_
      cases h
      exact o_ri C hP hS d_MM_number_74
    · replace h := o_ff c4 h
      refine lv_aload_n hx hb d_MM_number_68 rfl (lv_at hl 0 rfl) ?_
      refine lv_iconst (v := (1:Int32)) hx hb d_MM_number_69 (by decide) ?_
      refine o_put (v := .int (1:Int32)) (ty := .boolean) (w1 := (m_cw ad ca ky ty 48 Ni (NP_mk (NP_nodeKind q4.2.2.2) (NP_nodeA q4.2.2.2) (NP_nodeB q4.2.2.2) (NP_nodeC q4.2.2.2) (NP_nodeNext q4.2.2.2) (NP_low q4.2.2.2) (NP_high q4.2.2.2) (NP_setFrom q4.2.2.2) (NP_setTo q4.2.2.2) (NP_setNot q4.2.2.2) (NP_nodes q4.2.2.2) (NP_sets q4.2.2.2) (NP_ranges q4.2.2.2) (NP_pat q4.2.2.2) (NP_patEnd q4.2.2.2) (1:Int32)) No Nx Nf Na Nh Nq Nj M0 tc)) C in_MM t_MM t_MM_ok n_MM hP (hDD _ _ _ _ _ _ _ _ _ _ _ _) hS 0 mw_0 rfl 32 (by decide) k_8_22 rfl rfl (by decide +kernel) rfl rfl (Nat.le_of_ble_eq_true rfl) rfl d_MM_number_70 (fun H locs hP hS => ?_)
      refine lv_iload_n hx hb d_MM_number_73 rfl (lv_at hl 1 rfl) ?_
      cases h
      exact o_ri C hP hS d_MM_number_74
set_option maxHeartbeats 4000000 in
set_option maxRecDepth 100000 in
theorem f_MM_often_j172_a {E : (Nat → Prop) → State → Heap → Prop} {p : Program} {l : Launch} {e : Env} {s : State} {m : MethodId} {args : Array Value} {below : List Frame} {meth : Method} {c : Code} {D : va_G} {ad kd sd vd xd : Nat → Nat} {ca : Nat → ClassId} {A : Nat → Prop} {ky ty : Nat → Option Nat} (hE : o_EK E kd sd vd xd) (hKy : m_KY ky ty sd) (C : o_Cx E p s m args meth c D m_cls (m_tys ca) "SchemaJudgeModel" b_MM_often (some .int) 6 cc_MM_often A) (hDD : ∀ (rt : Nat) (Ni : SNI) (Np : SNP) (No : SNO) (Nx : SNX) (Nf : SNF) (Na : SNA) (Nh : SNH) (Nq : SNQ) (Nj : SNJ) (M0 : SMT) (M1 : SMT), va_D A (m_cw ad ca ky ty rt Ni Np No Nx Nf Na Nh Nq Nj M0 M1)) (n : Nat)  (tc : SMT) (Np : SNP) (Ni : SNI) (No : SNO) (Nx : SNX) (Nf : SNF) (Na : SNA) (Nh : SNH) (Nq : SNQ) (Nj : SNJ) (M1 : SMT) {r : Int32 × SNP} (h : m_MM_often_j172 n tc Np = some r) : o_At p l e rm_MM_often s m args below meth c (MQ below (o_Qx D m_cls (some (.int r.1)) (m_cw ad ca ky ty 33 Ni r.2 No Nx Nf Na Nh Nq Nj tc M1) A) args s 0 0 A) m_cls D A 6 172 [] (m_cw ad ca ky ty 33 Ni Np No Nx Nf Na Nh Nq Nj tc M1) [(0, .ref (ad 0))] := by
  unfold m_MM_often_j172 at h
  intro H locs ls hP hS hl
  have C0 := C
  obtain ⟨hx, hb, -, -, -, hown, hts, hK, -, -⟩ := C0
  refine lv_aload_n hx hb d_MM_often_172 rfl (lv_at hl 0 rfl) ?_
  obtain ⟨q3, hq3, h⟩ := o_bd_some h
  refine o_V (st1 := [.int q3.1]) (w1 := (m_cw ad ca ky ty 33 Ni q3.2 No Nx Nf Na Nh Nq Nj tc M1)) hE.1 C (e_MM_no hE hKy l Np Ni No Nx Nf Na Nh Nq Nj tc M1 33 hq3) hP (hDD _ _ _ _ _ _ _ _ _ _ _ _) hS hl.1 rfl mw_0 k_9_78 k_9_80 k_s_91 k_1_12 k_9_81 hv_MM_no rfl rfl ⟨(Nat.le_of_ble_eq_true rfl), (Nat.le_of_ble_eq_true rfl)⟩ rfl (Nat.le_of_ble_eq_true rfl) ⟨Nat.zero_le _, Nat.zero_le _⟩ rfl d_MM_often_173 (fun H locs hP hS => ?_)
  cases h
  exact o_ri C hP hS d_MM_often_176
set_option maxHeartbeats 4000000 in
set_option maxRecDepth 100000 in
theorem f_MM_often_j212_a {E : (Nat → Prop) → State → Heap → Prop} {p : Program} {l : Launch} {e : Env} {s : State} {m : MethodId} {args : Array Value} {below : List Frame} {meth : Method} {c : Code} {D : va_G} {ad kd sd vd xd : Nat → Nat} {ca : Nat → ClassId} {A : Nat → Prop} {ky ty : Nat → Option Nat} (hE : o_EK E kd sd vd xd) (hKy : m_KY ky ty sd) (C : o_Cx E p s m args meth c D m_cls (m_tys ca) "SchemaJudgeModel" b_MM_often (some .int) 6 cc_MM_often A) (hDD : ∀ (rt : Nat) (Ni : SNI) (Np : SNP) (No : SNO) (Nx : SNX) (Nf : SNF) (Na : SNA) (Nh : SNH) (Nq : SNQ) (Nj : SNJ) (M0 : SMT) (M1 : SMT), va_D A (m_cw ad ca ky ty rt Ni Np No Nx Nf Na Nh Nq Nj M0 M1)) (n : Nat) (x1 : Int32) (x3 : Int32) (x4 : Int32) (tc : SMT) (Np : SNP) (Ni : SNI) (No : SNO) (Nx : SNX) (Nf : SNF) (Na : SNA) (Nh : SNH) (Nq : SNQ) (Nj : SNJ) (M1 : SMT) {r : Int32 × SNP} (h : m_MM_often_j212 n x1 x3 x4 tc Np = some r) : o_At p l e rm_MM_often s m args below meth c (MQ below (o_Qx D m_cls (some (.int r.1)) (m_cw ad ca ky ty 33 Ni r.2 No Nx Nf Na Nh Nq Nj tc M1) A) args s 0 0 A) m_cls D A 6 212 [] (m_cw ad ca ky ty 33 Ni Np No Nx Nf Na Nh Nq Nj tc M1) [(0, .ref (ad 0)), (1, .int x1), (3, .int x3), (4, .int x4)] := by
  unfold m_MM_often_j212 at h
  intro H locs ls hP hS hl
  have C0 := C
  obtain ⟨hx, hb, -, -, -, hown, hts, hK, -, -⟩ := C0
  refine lv_aload_n hx hb d_MM_often_212 rfl (lv_at hl 0 rfl) ?_
  refine lv_bipush (v := (6:Int32)) hx hb d_MM_often_213 (by decide) ?_
  refine lv_iload_n hx hb d_MM_often_215 rfl (lv_at hl 1 rfl) ?_
  obtain ⟨q6, hq6, h⟩ := o_bd_some h
  refine o_V (st1 := [.int q6.1]) (w1 := (m_cw ad ca ky ty 33 Ni q6.2 No Nx Nf Na Nh Nq Nj tc M1)) hE.1 C (e_MM_node hE hKy l (6:Int32) x1 Np Ni No Nx Nf Na Nh Nq Nj tc M1 33 hq6) hP (hDD _ _ _ _ _ _ _ _ _ _ _ _) hS hl.1 rfl mw_0 k_9_62 k_9_64 k_s_87 k_1_12 k_9_65 hv_MM_node rfl rfl ⟨(Nat.le_of_ble_eq_true rfl), (Nat.le_of_ble_eq_true rfl)⟩ rfl (Nat.le_of_ble_eq_true rfl) ⟨Nat.zero_le _, Nat.zero_le _⟩ rfl d_MM_often_216 (fun H locs hP hS => ?_)
  refine lv_istore (lv' := [(5, .int q6.1), (0, .ref (ad 0)), (1, .int x1), (3, .int x3), (4, .int x4)]) hx hb d_MM_often_219 hl (by decide) rfl (fun ls hl => ?_)
  refine lv_aload_n hx hb d_MM_often_221 rfl (lv_at hl 1 rfl) ?_
  refine o_get (v := .ref (ad 4)) C in_MM hP 0 mw_0 rfl 8 (by decide) k_7_238 rfl rfl d_MM_often_222 ?_
  refine lv_iload hx hb d_MM_often_225 (lv_at hl 0 rfl) ?_
  refine lv_iload_n hx hb d_MM_often_227 rfl (lv_at hl 3 rfl) ?_
  obtain ⟨g10, h⟩ := o_gd_some h
  refine o_iast (f := (NP_nodeB q6.2)) (w1 := (m_cw ad ca ky ty 33 Ni (NP_mk (NP_nodeKind q6.2) (NP_nodeA q6.2) (upd (NP_nodeB q6.2) q6.1.toNatClampNeg x3) (NP_nodeC q6.2) (NP_nodeNext q6.2) (NP_low q6.2) (NP_high q6.2) (NP_setFrom q6.2) (NP_setTo q6.2) (NP_setNot q6.2) (NP_nodes q6.2) (NP_sets q6.2) (NP_ranges q6.2) (NP_pat q6.2) (NP_patEnd q6.2) (NP_broken q6.2)) No Nx Nf Na Nh Nq Nj tc M1)) C hP (hDD _ _ _ _ _ _ _ _ _ _ _ _) hS 4 3 mw_4 rfl g10 rfl d_MM_often_228 (fun H locs hP hS => ?_)
  refine lv_aload_n hx hb d_MM_often_229 rfl (lv_at hl 1 rfl) ?_
  refine o_get (v := .ref (ad 5)) C in_MM hP 0 mw_0 rfl 9 (by decide) k_7_239 rfl rfl d_MM_often_230 ?_
  refine lv_iload hx hb d_MM_often_233 (lv_at hl 0 rfl) ?_
  refine lv_iload hx hb d_MM_often_235 (lv_at hl 4 rfl) ?_
  obtain ⟨g11, h⟩ := o_gd_some h
  refine o_iast (f := (NP_nodeC q6.2)) (w1 := (m_cw ad ca ky ty 33 Ni (NP_mk (NP_nodeKind q6.2) (NP_nodeA q6.2) (upd (NP_nodeB q6.2) q6.1.toNatClampNeg x3) (upd (NP_nodeC q6.2) q6.1.toNatClampNeg x4) (NP_nodeNext q6.2) (NP_low q6.2) (NP_high q6.2) (NP_setFrom q6.2) (NP_setTo q6.2) (NP_setNot q6.2) (NP_nodes q6.2) (NP_sets q6.2) (NP_ranges q6.2) (NP_pat q6.2) (NP_patEnd q6.2) (NP_broken q6.2)) No Nx Nf Na Nh Nq Nj tc M1)) C hP (hDD _ _ _ _ _ _ _ _ _ _ _ _) hS 5 4 mw_5 rfl g11 rfl d_MM_often_237 (fun H locs hP hS => ?_)
  refine lv_iload hx hb d_MM_often_238 (lv_at hl 0 rfl) ?_
  cases h
  exact o_ri C hP hS d_MM_often_240
set_option maxHeartbeats 4000000 in
set_option maxRecDepth 100000 in
theorem f_MM_often_j192_a {E : (Nat → Prop) → State → Heap → Prop} {p : Program} {l : Launch} {e : Env} {s : State} {m : MethodId} {args : Array Value} {below : List Frame} {meth : Method} {c : Code} {D : va_G} {ad kd sd vd xd : Nat → Nat} {ca : Nat → ClassId} {A : Nat → Prop} {ky ty : Nat → Option Nat} (hE : o_EK E kd sd vd xd) (hKy : m_KY ky ty sd) (C : o_Cx E p s m args meth c D m_cls (m_tys ca) "SchemaJudgeModel" b_MM_often (some .int) 6 cc_MM_often A) (hDD : ∀ (rt : Nat) (Ni : SNI) (Np : SNP) (No : SNO) (Nx : SNX) (Nf : SNF) (Na : SNA) (Nh : SNH) (Nq : SNQ) (Nj : SNJ) (M0 : SMT) (M1 : SMT), va_D A (m_cw ad ca ky ty rt Ni Np No Nx Nf Na Nh Nq Nj M0 M1)) (n : Nat) (x1 : Int32) (x3 : Int32) (x4 : Int32) (tc : SMT) (Np : SNP) (Ni : SNI) (No : SNO) (Nx : SNX) (Nf : SNF) (Na : SNA) (Nh : SNH) (Nq : SNQ) (Nj : SNJ) (M1 : SMT) {r : Int32 × SNP} (h : m_MM_often_j192 n x1 x3 x4 tc Np = some r) : o_At p l e rm_MM_often s m args below meth c (MQ below (o_Qx D m_cls (some (.int r.1)) (m_cw ad ca ky ty 33 Ni r.2 No Nx Nf Na Nh Nq Nj tc M1) A) args s 0 0 A) m_cls D A 6 192 [] (m_cw ad ca ky ty 33 Ni Np No Nx Nf Na Nh Nq Nj tc M1) [(0, .ref (ad 0)), (1, .int x1), (3, .int x3), (4, .int x4)] := by
  unfold m_MM_often_j192 at h
  intro H locs ls hP hS hl
  have C0 := C
  obtain ⟨hx, hb, -, -, -, hown, hts, hK, -, -⟩ := C0
  refine lv_aload_n hx hb d_MM_often_192 rfl (lv_at hl 0 rfl) ?_
  refine lv_iconst (v := (0:Int32)) hx hb d_MM_often_193 (by decide) ?_
  obtain ⟨q5, hq5, h⟩ := o_bd_some h
  refine o_V (st1 := [.int q5]) (w1 := (m_cw ad ca ky ty 33 Ni Np No Nx Nf Na Nh Nq Nj tc M1)) hE.1 C (e_MM_p_a hE hKy l (0:Int32) tc Np Ni No Nx Nf Na Nh Nq Nj M1 hq5) hP (hDD _ _ _ _ _ _ _ _ _ _ _ _) hS hl.1 rfl mw_0 k_9_70 k_9_72 k_s_89 k_1_12 k_9_73 hv_MM_p rfl rfl ⟨(Nat.le_of_ble_eq_true rfl), (Nat.le_of_ble_eq_true rfl)⟩ rfl (Nat.le_of_ble_eq_true rfl) ⟨Nat.zero_le _, Nat.zero_le _⟩ rfl d_MM_often_194 (fun H locs hP hS => ?_)
  refine lv_bipush (v := (63:Int32)) hx hb d_MM_often_197 (by decide) ?_
  refine lv_icmp_ne (tgt := 212) hx hb d_MM_often_199 (by decide) (fun c9 => ?_) (fun c9 => ?_)
  · replace h := o_ff c9 h
    exact f_MM_often_j212_a hE hKy C hDD n x1 x3 x4 tc Np Ni No Nx Nf Na Nh Nq Nj M1 h _ _ _ hP hS (lv_sub hl [0, 1, 2, 3] rfl)
  · replace h := o_tt c9 h
    refine lv_aload_n hx hb d_MM_often_202 rfl (lv_at hl 0 rfl) ?_
    refine lv_dup hx hb d_MM_often_203 rfl ?_
    refine o_get (v := .int (NP_pat Np)) C in_MM hP 0 mw_0 rfl 27 (by decide) k_8_17 rfl rfl d_MM_often_204 ?_
    refine lv_iconst (v := (1:Int32)) hx hb d_MM_often_207 (by decide) ?_
    refine lv_iadd hx hb d_MM_often_208 ?_
    refine o_put (v := .int ((NP_pat Np) + (1:Int32))) (ty := .int) (w1 := (m_cw ad ca ky ty 33 Ni (NP_mk (NP_nodeKind Np) (NP_nodeA Np) (NP_nodeB Np) (NP_nodeC Np) (NP_nodeNext Np) (NP_low Np) (NP_high Np) (NP_setFrom Np) (NP_setTo Np) (NP_setNot Np) (NP_nodes Np) (NP_sets Np) (NP_ranges Np) ((NP_pat Np) + (1:Int32)) (NP_patEnd Np) (NP_broken Np)) No Nx Nf Na Nh Nq Nj tc M1)) C in_MM t_MM t_MM_ok n_MM hP (hDD _ _ _ _ _ _ _ _ _ _ _ _) hS 0 mw_0 rfl 27 (by decide) k_8_17 rfl rfl (by decide +kernel) rfl rfl (Nat.le_of_ble_eq_true rfl) rfl d_MM_often_209 (fun H locs hP hS => ?_)
    exact f_MM_often_j212_a hE hKy C hDD n x1 x3 x4 tc (NP_mk (NP_nodeKind Np) (NP_nodeA Np) (NP_nodeB Np) (NP_nodeC Np) (NP_nodeNext Np) (NP_low Np) (NP_high Np) (NP_setFrom Np) (NP_setTo Np) (NP_setNot Np) (NP_nodes Np) (NP_sets Np) (NP_ranges Np) ((NP_pat Np) + (1:Int32)) (NP_patEnd Np) (NP_broken Np)) Ni No Nx Nf Na Nh Nq Nj M1 h _ _ _ hP hS (lv_sub hl [0, 1, 2, 3] rfl)
set_option maxHeartbeats 4000000 in
set_option maxRecDepth 100000 in
theorem f_MM_often_j177_a {E : (Nat → Prop) → State → Heap → Prop} {p : Program} {l : Launch} {e : Env} {s : State} {m : MethodId} {args : Array Value} {below : List Frame} {meth : Method} {c : Code} {D : va_G} {ad kd sd vd xd : Nat → Nat} {ca : Nat → ClassId} {A : Nat → Prop} {ky ty : Nat → Option Nat} (hE : o_EK E kd sd vd xd) (hKy : m_KY ky ty sd) (C : o_Cx E p s m args meth c D m_cls (m_tys ca) "SchemaJudgeModel" b_MM_often (some .int) 6 cc_MM_often A) (hDD : ∀ (rt : Nat) (Ni : SNI) (Np : SNP) (No : SNO) (Nx : SNX) (Nf : SNF) (Na : SNA) (Nh : SNH) (Nq : SNQ) (Nj : SNJ) (M0 : SMT) (M1 : SMT), va_D A (m_cw ad ca ky ty rt Ni Np No Nx Nf Na Nh Nq Nj M0 M1)) (n : Nat) (x1 : Int32) (x3 : Int32) (x4 : Int32) (tc : SMT) (Np : SNP) (Ni : SNI) (No : SNO) (Nx : SNX) (Nf : SNF) (Na : SNA) (Nh : SNH) (Nq : SNQ) (Nj : SNJ) (M1 : SMT) {r : Int32 × SNP} (h : m_MM_often_j177 n x1 x3 x4 tc Np = some r) : o_At p l e rm_MM_often s m args below meth c (MQ below (o_Qx D m_cls (some (.int r.1)) (m_cw ad ca ky ty 33 Ni r.2 No Nx Nf Na Nh Nq Nj tc M1) A) args s 0 0 A) m_cls D A 6 177 [] (m_cw ad ca ky ty 33 Ni Np No Nx Nf Na Nh Nq Nj tc M1) [(0, .ref (ad 0)), (1, .int x1), (3, .int x3), (4, .int x4)] := by
  unfold m_MM_often_j177 at h
  intro H locs ls hP hS hl
  have C0 := C
  obtain ⟨hx, hb, -, -, -, hown, hts, hK, -, -⟩ := C0
  refine lv_aload_n hx hb d_MM_often_177 rfl (lv_at hl 0 rfl) ?_
  refine lv_dup hx hb d_MM_often_178 rfl ?_
  refine o_get (v := .int (NP_pat Np)) C in_MM hP 0 mw_0 rfl 27 (by decide) k_8_17 rfl rfl d_MM_often_179 ?_
  refine lv_iconst (v := (1:Int32)) hx hb d_MM_often_182 (by decide) ?_
  refine lv_iadd hx hb d_MM_often_183 ?_
  refine o_put (v := .int ((NP_pat Np) + (1:Int32))) (ty := .int) (w1 := (m_cw ad ca ky ty 33 Ni (NP_mk (NP_nodeKind Np) (NP_nodeA Np) (NP_nodeB Np) (NP_nodeC Np) (NP_nodeNext Np) (NP_low Np) (NP_high Np) (NP_setFrom Np) (NP_setTo Np) (NP_setNot Np) (NP_nodes Np) (NP_sets Np) (NP_ranges Np) ((NP_pat Np) + (1:Int32)) (NP_patEnd Np) (NP_broken Np)) No Nx Nf Na Nh Nq Nj tc M1)) C in_MM t_MM t_MM_ok n_MM hP (hDD _ _ _ _ _ _ _ _ _ _ _ _) hS 0 mw_0 rfl 27 (by decide) k_8_17 rfl rfl (by decide +kernel) rfl rfl (Nat.le_of_ble_eq_true rfl) rfl d_MM_often_184 (fun H locs hP hS => ?_)
  refine lv_goto (tgt := 192) hx hb d_MM_often_187 (by decide) ?_
  exact f_MM_often_j192_a hE hKy C hDD n x1 x3 x4 tc (NP_mk (NP_nodeKind Np) (NP_nodeA Np) (NP_nodeB Np) (NP_nodeC Np) (NP_nodeNext Np) (NP_low Np) (NP_high Np) (NP_setFrom Np) (NP_setTo Np) (NP_setNot Np) (NP_nodes Np) (NP_sets Np) (NP_ranges Np) ((NP_pat Np) + (1:Int32)) (NP_patEnd Np) (NP_broken Np)) Ni No Nx Nf Na Nh Nq Nj M1 h _ _ _ hP hS (lv_sub hl [0, 1, 2, 3] rfl)
set_option maxHeartbeats 4000000 in
set_option maxRecDepth 100000 in
theorem f_MM_often_j144_a {E : (Nat → Prop) → State → Heap → Prop} {p : Program} {l : Launch} {e : Env} {s : State} {m : MethodId} {args : Array Value} {below : List Frame} {meth : Method} {c : Code} {D : va_G} {ad kd sd vd xd : Nat → Nat} {ca : Nat → ClassId} {A : Nat → Prop} {ky ty : Nat → Option Nat} (hE : o_EK E kd sd vd xd) (hKy : m_KY ky ty sd) (C : o_Cx E p s m args meth c D m_cls (m_tys ca) "SchemaJudgeModel" b_MM_often (some .int) 6 cc_MM_often A) (hDD : ∀ (rt : Nat) (Ni : SNI) (Np : SNP) (No : SNO) (Nx : SNX) (Nf : SNF) (Na : SNA) (Nh : SNH) (Nq : SNQ) (Nj : SNJ) (M0 : SMT) (M1 : SMT), va_D A (m_cw ad ca ky ty rt Ni Np No Nx Nf Na Nh Nq Nj M0 M1)) (n : Nat) (x1 : Int32) (x3 : Int32) (x4 : Int32) (tc : SMT) (Np : SNP) (Ni : SNI) (No : SNO) (Nx : SNX) (Nf : SNF) (Na : SNA) (Nh : SNH) (Nq : SNQ) (Nj : SNJ) (M1 : SMT) {r : Int32 × SNP} (h : m_MM_often_j144 n x1 x3 x4 tc Np = some r) : o_At p l e rm_MM_often s m args below meth c (MQ below (o_Qx D m_cls (some (.int r.1)) (m_cw ad ca ky ty 33 Ni r.2 No Nx Nf Na Nh Nq Nj tc M1) A) args s 0 0 A) m_cls D A 6 144 [] (m_cw ad ca ky ty 33 Ni Np No Nx Nf Na Nh Nq Nj tc M1) [(0, .ref (ad 0)), (1, .int x1), (3, .int x3), (4, .int x4)] := by
  unfold m_MM_often_j144 at h
  intro H locs ls hP hS hl
  have C0 := C
  obtain ⟨hx, hb, -, -, -, hown, hts, hK, -, -⟩ := C0
  refine lv_aload_n hx hb d_MM_often_144 rfl (lv_at hl 0 rfl) ?_
  refine o_get (v := .int (NP_broken Np)) C in_MM hP 0 mw_0 rfl 32 (by decide) k_8_22 rfl rfl d_MM_often_145 ?_
  refine lv_if_ne (tgt := 172) hx hb d_MM_often_148 (by decide) (fun c6 => ?_) (fun c6 => ?_)
  · replace h := o_ff c6 h
    exact f_MM_often_j172_a hE hKy C hDD n tc Np Ni No Nx Nf Na Nh Nq Nj M1 h _ _ _ hP hS (lv_sub hl [0] rfl)
  · replace h := o_tt c6 h
    refine lv_aload_n hx hb d_MM_often_151 rfl (lv_at hl 0 rfl) ?_
    refine lv_iconst (v := (0:Int32)) hx hb d_MM_often_152 (by decide) ?_
    obtain ⟨q4, hq4, h⟩ := o_bd_some h
    refine o_V (st1 := [.int q4]) (w1 := (m_cw ad ca ky ty 33 Ni Np No Nx Nf Na Nh Nq Nj tc M1)) hE.1 C (e_MM_p_a hE hKy l (0:Int32) tc Np Ni No Nx Nf Na Nh Nq Nj M1 hq4) hP (hDD _ _ _ _ _ _ _ _ _ _ _ _) hS hl.1 rfl mw_0 k_9_70 k_9_72 k_s_89 k_1_12 k_9_73 hv_MM_p rfl rfl ⟨(Nat.le_of_ble_eq_true rfl), (Nat.le_of_ble_eq_true rfl)⟩ rfl (Nat.le_of_ble_eq_true rfl) ⟨Nat.zero_le _, Nat.zero_le _⟩ rfl d_MM_often_153 (fun H locs hP hS => ?_)
    refine lv_bipush (v := (125:Int32)) hx hb d_MM_often_156 (by decide) ?_
    refine lv_icmp_ne (tgt := 172) hx hb d_MM_often_158 (by decide) (fun c7 => ?_) (fun c7 => ?_)
    · replace h := o_ff c7 h
      exact f_MM_often_j172_a hE hKy C hDD n tc Np Ni No Nx Nf Na Nh Nq Nj M1 h _ _ _ hP hS (lv_sub hl [0] rfl)
    · replace h := o_tt c7 h
      refine lv_iload hx hb d_MM_often_161 (lv_at hl 3 rfl) ?_
      refine lv_if_lt (tgt := 177) hx hb d_MM_often_163 (by decide) (fun c8 => ?_) (fun c8 => ?_)
      · replace h := o_tt c8 h
        exact f_MM_often_j177_a hE hKy C hDD n x1 x3 x4 tc Np Ni No Nx Nf Na Nh Nq Nj M1 h _ _ _ hP hS (lv_sub hl [0, 1, 2, 3] rfl)
      · replace h := o_ff c8 h
        refine lv_iload_n hx hb d_MM_often_166 rfl (lv_at hl 2 rfl) ?_
        refine lv_iload hx hb d_MM_often_167 (lv_at hl 3 rfl) ?_
        refine lv_icmp_le (tgt := 177) hx hb d_MM_often_169 (by decide) (fun c12 => ?_) (fun c12 => ?_)
        · replace h := o_tt c12 h
          exact f_MM_often_j177_a hE hKy C hDD n x1 x3 x4 tc Np Ni No Nx Nf Na Nh Nq Nj M1 h _ _ _ hP hS (lv_sub hl [0, 1, 2, 3] rfl)
        · replace h := o_ff c12 h
          exact f_MM_often_j172_a hE hKy C hDD n tc Np Ni No Nx Nf Na Nh Nq Nj M1 h _ _ _ hP hS (lv_sub hl [0] rfl)
set_option maxHeartbeats 4000000 in
set_option maxRecDepth 100000 in
theorem e_MM_often_a {E : (Nat → Prop) → State → Heap → Prop} {D : va_G} {ad kd sd vd xd : Nat → Nat} {ca : Nat → ClassId} {ky ty : Nat → Option Nat} (hE : o_EK E kd sd vd xd) (hKy : m_KY ky ty sd) (l : Launch) (n : Nat) (x1 : Int32) (tc : SMT) (Np : SNP) (Ni : SNI) (No : SNO) (Nx : SNX) (Nf : SNF) (Na : SNA) (Nh : SNH) (Nq : SNQ) (Nj : SNJ) (M1 : SMT) {r : Int32 × SNP} (h : m_MM_often n x1 tc Np = some r) : o_Cn E l D m_cls (m_tys ca) y_MM_often cc_MM_often rm_MM_often [.ref (ad 0), .int x1] (m_cw ad ca ky ty 33 Ni Np No Nx Nf Na Nh Nq Nj tc M1) (m_cw ad ca ky ty 33 Ni r.2 No Nx Nf Na Nh Nq Nj tc M1) (some (.int r.1)) := by
  refine o_Cn_of (by decide) (Nat.le_of_ble_eq_true rfl) ?_
  intro p e s m below meth c A ls C hD hP hS hl
  have hDD : ∀ (rt : Nat) (Ni : SNI) (Np : SNP) (No : SNO) (Nx : SNX) (Nf : SNF) (Na : SNA) (Nh : SNH) (Nq : SNQ) (Nj : SNJ) (M0 : SMT) (M1 : SMT), va_D A (m_cw ad ca ky ty rt Ni Np No Nx Nf Na Nh Nq Nj M0 M1) := fun _ _ _ _ _ _ _ _ _ _ _ _ => o_D_map hD rfl
  have hl : lv_has ls 6 [(0, .ref (ad 0)), (1, .int x1)] := hl
  unfold m_MM_often at h
  have C0 := C
  obtain ⟨hx, hb, -, -, -, hown, hts, hK, -, -⟩ := C0
  refine lv_aload_n hx hb d_MM_often_0 rfl (lv_at hl 0 rfl) ?_
  refine lv_iconst (v := (0:Int32)) hx hb d_MM_often_1 (by decide) ?_
  obtain ⟨q1, hq1, h⟩ := o_bd_some h
  refine o_V (st1 := [.int q1]) (w1 := (m_cw ad ca ky ty 33 Ni Np No Nx Nf Na Nh Nq Nj tc M1)) hE.1 C (e_MM_p_a hE hKy l (0:Int32) tc Np Ni No Nx Nf Na Nh Nq Nj M1 hq1) hP (hDD _ _ _ _ _ _ _ _ _ _ _ _) hS hl.1 rfl mw_0 k_9_70 k_9_72 k_s_89 k_1_12 k_9_73 hv_MM_p rfl rfl ⟨(Nat.le_of_ble_eq_true rfl), (Nat.le_of_ble_eq_true rfl)⟩ rfl (Nat.le_of_ble_eq_true rfl) ⟨Nat.zero_le _, Nat.zero_le _⟩ rfl d_MM_often_2 (fun H locs hP hS => ?_)
  refine lv_istore_n (lv' := [(2, .int q1), (0, .ref (ad 0)), (1, .int x1)]) hx hb d_MM_often_5 rfl hl (by decide) rfl (fun ls hl => ?_)
  refine lv_iconst (v := (0:Int32)) hx hb d_MM_often_6 (by decide) ?_
  refine lv_istore_n (lv' := [(3, .int (0:Int32)), (2, .int q1), (0, .ref (ad 0)), (1, .int x1)]) hx hb d_MM_often_7 rfl hl (by decide) rfl (fun ls hl => ?_)
  refine lv_iconst (v := (-1:Int32)) hx hb d_MM_often_8 (by decide) ?_
  refine lv_istore (lv' := [(4, .int (-1:Int32)), (3, .int (0:Int32)), (2, .int q1), (0, .ref (ad 0)), (1, .int x1)]) hx hb d_MM_often_9 hl (by decide) rfl (fun ls hl => ?_)
  refine lv_iload_n hx hb d_MM_often_11 rfl (lv_at hl 2 rfl) ?_
  refine lv_bipush (v := (42:Int32)) hx hb d_MM_often_12 (by decide) ?_
  refine lv_icmp_ne (tgt := 30) hx hb d_MM_often_14 (by decide) (fun c1 => ?_) (fun c1 => ?_)
  · replace h := o_ff c1 h
    refine lv_iload_n hx hb d_MM_often_30 rfl (lv_at hl 2 rfl) ?_
    refine lv_bipush (v := (43:Int32)) hx hb d_MM_often_31 (by decide) ?_
    refine lv_icmp_ne (tgt := 51) hx hb d_MM_often_33 (by decide) (fun c2 => ?_) (fun c2 => ?_)
    · replace h := o_ff c2 h
      refine lv_iload_n hx hb d_MM_often_51 rfl (lv_at hl 2 rfl) ?_
      refine lv_bipush (v := (63:Int32)) hx hb d_MM_often_52 (by decide) ?_
      refine lv_icmp_ne (tgt := 73) hx hb d_MM_often_54 (by decide) (fun c3 => ?_) (fun c3 => ?_)
      · replace h := o_ff c3 h
        refine lv_iload_n hx hb d_MM_often_73 rfl (lv_at hl 2 rfl) ?_
        refine lv_bipush (v := (123:Int32)) hx hb d_MM_often_74 (by decide) ?_
        refine lv_icmp_ne (tgt := 190) hx hb d_MM_often_76 (by decide) (fun c4 => ?_) (fun c4 => ?_)
        · replace h := o_ff c4 h
          refine lv_iload_n hx hb d_MM_often_190 rfl (lv_at hl 4 rfl) ?_
          cases h
          exact o_ri C hP hS d_MM_often_191
        · replace h := o_tt c4 h
          refine lv_aload_n hx hb d_MM_often_79 rfl (lv_at hl 3 rfl) ?_
          refine lv_dup hx hb d_MM_often_80 rfl ?_
          refine o_get (v := .int (NP_pat Np)) C in_MM hP 0 mw_0 rfl 27 (by decide) k_8_17 rfl rfl d_MM_often_81 ?_
          refine lv_iconst (v := (1:Int32)) hx hb d_MM_often_84 (by decide) ?_
          refine lv_iadd hx hb d_MM_often_85 ?_
          refine o_put (v := .int ((NP_pat Np) + (1:Int32))) (ty := .int) (w1 := (m_cw ad ca ky ty 33 Ni (NP_mk (NP_nodeKind Np) (NP_nodeA Np) (NP_nodeB Np) (NP_nodeC Np) (NP_nodeNext Np) (NP_low Np) (NP_high Np) (NP_setFrom Np) (NP_setTo Np) (NP_setNot Np) (NP_nodes Np) (NP_sets Np) (NP_ranges Np) ((NP_pat Np) + (1:Int32)) (NP_patEnd Np) (NP_broken Np)) No Nx Nf Na Nh Nq Nj tc M1)) C in_MM t_MM t_MM_ok n_MM hP (hDD _ _ _ _ _ _ _ _ _ _ _ _) hS 0 mw_0 rfl 27 (by decide) k_8_17 rfl rfl (by decide +kernel) rfl rfl (Nat.le_of_ble_eq_true rfl) rfl d_MM_often_86 (fun H locs hP hS => ?_)
          refine lv_aload_n hx hb d_MM_often_89 rfl (lv_at hl 3 rfl) ?_
          obtain ⟨q2, hq2, h⟩ := o_bd_some h
          refine o_V (st1 := [.int q2.1]) (w1 := (m_cw ad ca ky ty 33 Ni q2.2 No Nx Nf Na Nh Nq Nj tc M1)) hE.1 C (e_MM_number_a hE hKy l n tc (NP_mk (NP_nodeKind Np) (NP_nodeA Np) (NP_nodeB Np) (NP_nodeC Np) (NP_nodeNext Np) (NP_low Np) (NP_high Np) (NP_setFrom Np) (NP_setTo Np) (NP_setNot Np) (NP_nodes Np) (NP_sets Np) (NP_ranges Np) ((NP_pat Np) + (1:Int32)) (NP_patEnd Np) (NP_broken Np)) Ni No Nx Nf Na Nh Nq Nj M1 hq2) hP (hDD _ _ _ _ _ _ _ _ _ _ _ _) hS hl.1 rfl mw_0 k_9_125 k_9_127 k_s_102 k_1_12 k_9_128 hv_MM_number rfl rfl ⟨(Nat.le_of_ble_eq_true rfl), (Nat.le_of_ble_eq_true rfl)⟩ rfl (Nat.le_of_ble_eq_true rfl) ⟨Nat.zero_le _, Nat.zero_le _⟩ rfl d_MM_often_90 (fun H locs hP hS => ?_)
          refine lv_istore_n (lv' := [(3, .int q2.1), (4, .int (-1:Int32)), (2, .int q1), (0, .ref (ad 0)), (1, .int x1)]) hx hb d_MM_often_93 rfl hl (by decide) rfl (fun ls hl => ?_)
          refine lv_iload_n hx hb d_MM_often_94 rfl (lv_at hl 0 rfl) ?_
          refine lv_istore (lv' := [(4, .int q2.1), (3, .int q2.1), (2, .int q1), (0, .ref (ad 0)), (1, .int x1)]) hx hb d_MM_often_95 hl (by decide) rfl (fun ls hl => ?_)
          refine lv_aload_n hx hb d_MM_often_97 rfl (lv_at hl 3 rfl) ?_
          refine o_get (v := .int (NP_broken q2.2)) C in_MM hP 0 mw_0 rfl 32 (by decide) k_8_22 rfl rfl d_MM_often_98 ?_
          refine lv_if_ne (tgt := 144) hx hb d_MM_often_101 (by decide) (fun c5 => ?_) (fun c5 => ?_)
          · replace h := o_ff c5 h
            exact f_MM_often_j144_a hE hKy C hDD n x1 q2.1 q2.1 tc q2.2 Ni No Nx Nf Na Nh Nq Nj M1 h _ _ _ hP hS (lv_sub hl [3, 4, 1, 0] rfl)
          · replace h := o_tt c5 h
            refine lv_aload_n hx hb d_MM_often_104 rfl (lv_at hl 3 rfl) ?_
            refine lv_iconst (v := (0:Int32)) hx hb d_MM_often_105 (by decide) ?_
            obtain ⟨q7, hq7, h⟩ := o_bd_some h
            refine o_V (st1 := [.int q7]) (w1 := (m_cw ad ca ky ty 33 Ni q2.2 No Nx Nf Na Nh Nq Nj tc M1)) hE.1 C (e_MM_p_a hE hKy l (0:Int32) tc q2.2 Ni No Nx Nf Na Nh Nq Nj M1 hq7) hP (hDD _ _ _ _ _ _ _ _ _ _ _ _) hS hl.1 rfl mw_0 k_9_70 k_9_72 k_s_89 k_1_12 k_9_73 hv_MM_p rfl rfl ⟨(Nat.le_of_ble_eq_true rfl), (Nat.le_of_ble_eq_true rfl)⟩ rfl (Nat.le_of_ble_eq_true rfl) ⟨Nat.zero_le _, Nat.zero_le _⟩ rfl d_MM_often_106 (fun H locs hP hS => ?_)
            refine lv_bipush (v := (44:Int32)) hx hb d_MM_often_109 (by decide) ?_
            refine lv_icmp_ne (tgt := 144) hx hb d_MM_often_111 (by decide) (fun c13 => ?_) (fun c13 => ?_)
            · replace h := o_ff c13 h
              exact f_MM_often_j144_a hE hKy C hDD n x1 q2.1 q2.1 tc q2.2 Ni No Nx Nf Na Nh Nq Nj M1 h _ _ _ hP hS (lv_sub hl [3, 4, 1, 0] rfl)
            · replace h := o_tt c13 h
              refine lv_aload_n hx hb d_MM_often_114 rfl (lv_at hl 3 rfl) ?_
              refine lv_dup hx hb d_MM_often_115 rfl ?_
              refine o_get (v := .int (NP_pat q2.2)) C in_MM hP 0 mw_0 rfl 27 (by decide) k_8_17 rfl rfl d_MM_often_116 ?_
              refine lv_iconst (v := (1:Int32)) hx hb d_MM_often_119 (by decide) ?_
              refine lv_iadd hx hb d_MM_often_120 ?_
              refine o_put (v := .int ((NP_pat q2.2) + (1:Int32))) (ty := .int) (w1 := (m_cw ad ca ky ty 33 Ni (NP_mk (NP_nodeKind q2.2) (NP_nodeA q2.2) (NP_nodeB q2.2) (NP_nodeC q2.2) (NP_nodeNext q2.2) (NP_low q2.2) (NP_high q2.2) (NP_setFrom q2.2) (NP_setTo q2.2) (NP_setNot q2.2) (NP_nodes q2.2) (NP_sets q2.2) (NP_ranges q2.2) ((NP_pat q2.2) + (1:Int32)) (NP_patEnd q2.2) (NP_broken q2.2)) No Nx Nf Na Nh Nq Nj tc M1)) C in_MM t_MM t_MM_ok n_MM hP (hDD _ _ _ _ _ _ _ _ _ _ _ _) hS 0 mw_0 rfl 27 (by decide) k_8_17 rfl rfl (by decide +kernel) rfl rfl (Nat.le_of_ble_eq_true rfl) rfl d_MM_often_121 (fun H locs hP hS => ?_)
              refine lv_aload_n hx hb d_MM_often_124 rfl (lv_at hl 3 rfl) ?_
              refine lv_iconst (v := (0:Int32)) hx hb d_MM_often_125 (by decide) ?_
              obtain ⟨q8, hq8, h⟩ := o_bd_some h
              refine o_V (st1 := [.int q8]) (w1 := (m_cw ad ca ky ty 33 Ni (NP_mk (NP_nodeKind q2.2) (NP_nodeA q2.2) (NP_nodeB q2.2) (NP_nodeC q2.2) (NP_nodeNext q2.2) (NP_low q2.2) (NP_high q2.2) (NP_setFrom q2.2) (NP_setTo q2.2) (NP_setNot q2.2) (NP_nodes q2.2) (NP_sets q2.2) (NP_ranges q2.2) ((NP_pat q2.2) + (1:Int32)) (NP_patEnd q2.2) (NP_broken q2.2)) No Nx Nf Na Nh Nq Nj tc M1)) hE.1 C (e_MM_p_a hE hKy l (0:Int32) tc (NP_mk (NP_nodeKind q2.2) (NP_nodeA q2.2) (NP_nodeB q2.2) (NP_nodeC q2.2) (NP_nodeNext q2.2) (NP_low q2.2) (NP_high q2.2) (NP_setFrom q2.2) (NP_setTo q2.2) (NP_setNot q2.2) (NP_nodes q2.2) (NP_sets q2.2) (NP_ranges q2.2) ((NP_pat q2.2) + (1:Int32)) (NP_patEnd q2.2) (NP_broken q2.2)) Ni No Nx Nf Na Nh Nq Nj M1 hq8) hP (hDD _ _ _ _ _ _ _ _ _ _ _ _) hS hl.1 rfl mw_0 k_9_70 k_9_72 k_s_89 k_1_12 k_9_73 hv_MM_p rfl rfl ⟨(Nat.le_of_ble_eq_true rfl), (Nat.le_of_ble_eq_true rfl)⟩ rfl (Nat.le_of_ble_eq_true rfl) ⟨Nat.zero_le _, Nat.zero_le _⟩ rfl d_MM_often_126 (fun H locs hP hS => ?_)
              refine lv_bipush (v := (125:Int32)) hx hb d_MM_often_129 (by decide) ?_
              refine lv_icmp_ne (tgt := 138) hx hb d_MM_often_131 (by decide) (fun c14 => ?_) (fun c14 => ?_)
              · replace h := o_ff c14 h
                refine lv_aload_n hx hb d_MM_often_138 rfl (lv_at hl 3 rfl) ?_
                obtain ⟨q9, hq9, h⟩ := o_bd_some h
                refine o_V (st1 := [.int q9.1]) (w1 := (m_cw ad ca ky ty 33 Ni q9.2 No Nx Nf Na Nh Nq Nj tc M1)) hE.1 C (e_MM_number_a hE hKy l n tc (NP_mk (NP_nodeKind q2.2) (NP_nodeA q2.2) (NP_nodeB q2.2) (NP_nodeC q2.2) (NP_nodeNext q2.2) (NP_low q2.2) (NP_high q2.2) (NP_setFrom q2.2) (NP_setTo q2.2) (NP_setNot q2.2) (NP_nodes q2.2) (NP_sets q2.2) (NP_ranges q2.2) ((NP_pat q2.2) + (1:Int32)) (NP_patEnd q2.2) (NP_broken q2.2)) Ni No Nx Nf Na Nh Nq Nj M1 hq9) hP (hDD _ _ _ _ _ _ _ _ _ _ _ _) hS hl.1 rfl mw_0 k_9_125 k_9_127 k_s_102 k_1_12 k_9_128 hv_MM_number rfl rfl ⟨(Nat.le_of_ble_eq_true rfl), (Nat.le_of_ble_eq_true rfl)⟩ rfl (Nat.le_of_ble_eq_true rfl) ⟨Nat.zero_le _, Nat.zero_le _⟩ rfl d_MM_often_139 (fun H locs hP hS => ?_)
                refine lv_istore (lv' := [(4, .int q9.1), (3, .int q2.1), (2, .int q1), (0, .ref (ad 0)), (1, .int x1)]) hx hb d_MM_often_142 hl (by decide) rfl (fun ls hl => ?_)
                exact f_MM_often_j144_a hE hKy C hDD n x1 q2.1 q9.1 tc q9.2 Ni No Nx Nf Na Nh Nq Nj M1 h _ _ _ hP hS (lv_sub hl [3, 4, 1, 0] rfl)
              · replace h := o_tt c14 h
                refine lv_iconst (v := (-1:Int32)) hx hb d_MM_often_134 (by decide) ?_
                refine lv_goto (tgt := 142) hx hb d_MM_often_135 (by decide) ?_
                refine lv_istore (lv' := [(4, .int (-1:Int32)), (3, .int q2.1), (2, .int q1), (0, .ref (ad 0)), (1, .int x1)]) hx hb d_MM_often_142 hl (by decide) rfl (fun ls hl => ?_)
                exact f_MM_often_j144_a hE hKy C hDD n x1 q2.1 (-1:Int32) tc (NP_mk (NP_nodeKind q2.2) (NP_nodeA q2.2) (NP_nodeB q2.2) (NP_nodeC q2.2) (NP_nodeNext q2.2) (NP_low q2.2) (NP_high q2.2) (NP_setFrom q2.2) (NP_setTo q2.2) (NP_setNot q2.2) (NP_nodes q2.2) (NP_sets q2.2) (NP_ranges q2.2) ((NP_pat q2.2) + (1:Int32)) (NP_patEnd q2.2) (NP_broken q2.2)) Ni No Nx Nf Na Nh Nq Nj M1 h _ _ _ hP hS (lv_sub hl [3, 4, 1, 0] rfl)
      · replace h := o_tt c3 h
        refine lv_iconst (v := (1:Int32)) hx hb d_MM_often_57 (by decide) ?_
        refine lv_istore (lv' := [(4, .int (1:Int32)), (3, .int (0:Int32)), (2, .int q1), (0, .ref (ad 0)), (1, .int x1)]) hx hb d_MM_often_58 hl (by decide) rfl (fun ls hl => ?_)
        refine lv_aload_n hx hb d_MM_often_60 rfl (lv_at hl 3 rfl) ?_
        refine lv_dup hx hb d_MM_often_61 rfl ?_
        refine o_get (v := .int (NP_pat Np)) C in_MM hP 0 mw_0 rfl 27 (by decide) k_8_17 rfl rfl d_MM_often_62 ?_
        refine lv_iconst (v := (1:Int32)) hx hb d_MM_often_65 (by decide) ?_
        refine lv_iadd hx hb d_MM_often_66 ?_
        refine o_put (v := .int ((NP_pat Np) + (1:Int32))) (ty := .int) (w1 := (m_cw ad ca ky ty 33 Ni (NP_mk (NP_nodeKind Np) (NP_nodeA Np) (NP_nodeB Np) (NP_nodeC Np) (NP_nodeNext Np) (NP_low Np) (NP_high Np) (NP_setFrom Np) (NP_setTo Np) (NP_setNot Np) (NP_nodes Np) (NP_sets Np) (NP_ranges Np) ((NP_pat Np) + (1:Int32)) (NP_patEnd Np) (NP_broken Np)) No Nx Nf Na Nh Nq Nj tc M1)) C in_MM t_MM t_MM_ok n_MM hP (hDD _ _ _ _ _ _ _ _ _ _ _ _) hS 0 mw_0 rfl 27 (by decide) k_8_17 rfl rfl (by decide +kernel) rfl rfl (Nat.le_of_ble_eq_true rfl) rfl d_MM_often_67 (fun H locs hP hS => ?_)
        refine lv_goto (tgt := 192) hx hb d_MM_often_70 (by decide) ?_
        exact f_MM_often_j192_a hE hKy C hDD n x1 (0:Int32) (1:Int32) tc (NP_mk (NP_nodeKind Np) (NP_nodeA Np) (NP_nodeB Np) (NP_nodeC Np) (NP_nodeNext Np) (NP_low Np) (NP_high Np) (NP_setFrom Np) (NP_setTo Np) (NP_setNot Np) (NP_nodes Np) (NP_sets Np) (NP_ranges Np) ((NP_pat Np) + (1:Int32)) (NP_patEnd Np) (NP_broken Np)) Ni No Nx Nf Na Nh Nq Nj M1 h _ _ _ hP hS (lv_sub hl [3, 4, 1, 0] rfl)
    · replace h := o_tt c2 h
      refine lv_iconst (v := (1:Int32)) hx hb d_MM_often_36 (by decide) ?_
      refine lv_istore_n (lv' := [(3, .int (1:Int32)), (4, .int (-1:Int32)), (2, .int q1), (0, .ref (ad 0)), (1, .int x1)]) hx hb d_MM_often_37 rfl hl (by decide) rfl (fun ls hl => ?_)
      refine lv_aload_n hx hb d_MM_often_38 rfl (lv_at hl 3 rfl) ?_
      refine lv_dup hx hb d_MM_often_39 rfl ?_
      refine o_get (v := .int (NP_pat Np)) C in_MM hP 0 mw_0 rfl 27 (by decide) k_8_17 rfl rfl d_MM_often_40 ?_
      refine lv_iconst (v := (1:Int32)) hx hb d_MM_often_43 (by decide) ?_
      refine lv_iadd hx hb d_MM_often_44 ?_
      refine o_put (v := .int ((NP_pat Np) + (1:Int32))) (ty := .int) (w1 := (m_cw ad ca ky ty 33 Ni (NP_mk (NP_nodeKind Np) (NP_nodeA Np) (NP_nodeB Np) (NP_nodeC Np) (NP_nodeNext Np) (NP_low Np) (NP_high Np) (NP_setFrom Np) (NP_setTo Np) (NP_setNot Np) (NP_nodes Np) (NP_sets Np) (NP_ranges Np) ((NP_pat Np) + (1:Int32)) (NP_patEnd Np) (NP_broken Np)) No Nx Nf Na Nh Nq Nj tc M1)) C in_MM t_MM t_MM_ok n_MM hP (hDD _ _ _ _ _ _ _ _ _ _ _ _) hS 0 mw_0 rfl 27 (by decide) k_8_17 rfl rfl (by decide +kernel) rfl rfl (Nat.le_of_ble_eq_true rfl) rfl d_MM_often_45 (fun H locs hP hS => ?_)
      refine lv_goto (tgt := 192) hx hb d_MM_often_48 (by decide) ?_
      exact f_MM_often_j192_a hE hKy C hDD n x1 (1:Int32) (-1:Int32) tc (NP_mk (NP_nodeKind Np) (NP_nodeA Np) (NP_nodeB Np) (NP_nodeC Np) (NP_nodeNext Np) (NP_low Np) (NP_high Np) (NP_setFrom Np) (NP_setTo Np) (NP_setNot Np) (NP_nodes Np) (NP_sets Np) (NP_ranges Np) ((NP_pat Np) + (1:Int32)) (NP_patEnd Np) (NP_broken Np)) Ni No Nx Nf Na Nh Nq Nj M1 h _ _ _ hP hS (lv_sub hl [3, 4, 0, 1] rfl)
  · replace h := o_tt c1 h
    refine lv_aload_n hx hb d_MM_often_17 rfl (lv_at hl 3 rfl) ?_
    refine lv_dup hx hb d_MM_often_18 rfl ?_
    refine o_get (v := .int (NP_pat Np)) C in_MM hP 0 mw_0 rfl 27 (by decide) k_8_17 rfl rfl d_MM_often_19 ?_
    refine lv_iconst (v := (1:Int32)) hx hb d_MM_often_22 (by decide) ?_
    refine lv_iadd hx hb d_MM_often_23 ?_
    refine o_put (v := .int ((NP_pat Np) + (1:Int32))) (ty := .int) (w1 := (m_cw ad ca ky ty 33 Ni (NP_mk (NP_nodeKind Np) (NP_nodeA Np) (NP_nodeB Np) (NP_nodeC Np) (NP_nodeNext Np) (NP_low Np) (NP_high Np) (NP_setFrom Np) (NP_setTo Np) (NP_setNot Np) (NP_nodes Np) (NP_sets Np) (NP_ranges Np) ((NP_pat Np) + (1:Int32)) (NP_patEnd Np) (NP_broken Np)) No Nx Nf Na Nh Nq Nj tc M1)) C in_MM t_MM t_MM_ok n_MM hP (hDD _ _ _ _ _ _ _ _ _ _ _ _) hS 0 mw_0 rfl 27 (by decide) k_8_17 rfl rfl (by decide +kernel) rfl rfl (Nat.le_of_ble_eq_true rfl) rfl d_MM_often_24 (fun H locs hP hS => ?_)
    refine lv_goto (tgt := 192) hx hb d_MM_often_27 (by decide) ?_
    exact f_MM_often_j192_a hE hKy C hDD n x1 (0:Int32) (-1:Int32) tc (NP_mk (NP_nodeKind Np) (NP_nodeA Np) (NP_nodeB Np) (NP_nodeC Np) (NP_nodeNext Np) (NP_low Np) (NP_high Np) (NP_setFrom Np) (NP_setTo Np) (NP_setNot Np) (NP_nodes Np) (NP_sets Np) (NP_ranges Np) ((NP_pat Np) + (1:Int32)) (NP_patEnd Np) (NP_broken Np)) Ni No Nx Nf Na Nh Nq Nj M1 h _ _ _ hP hS (lv_sub hl [3, 4, 1, 0] rfl)
set_option maxHeartbeats 4000000 in
set_option maxRecDepth 100000 in
theorem f_MM_often_j172_b {E : (Nat → Prop) → State → Heap → Prop} {p : Program} {l : Launch} {e : Env} {s : State} {m : MethodId} {args : Array Value} {below : List Frame} {meth : Method} {c : Code} {D : va_G} {ad kd sd vd xd : Nat → Nat} {ca : Nat → ClassId} {A : Nat → Prop} {ky ty : Nat → Option Nat} (hE : o_EK E kd sd vd xd) (hKy : m_KY ky ty sd) (C : o_Cx E p s m args meth c D m_cls (m_tys ca) "SchemaJudgeModel" b_MM_often (some .int) 6 cc_MM_often A) (hDD : ∀ (rt : Nat) (Ni : SNI) (Np : SNP) (No : SNO) (Nx : SNX) (Nf : SNF) (Na : SNA) (Nh : SNH) (Nq : SNQ) (Nj : SNJ) (M0 : SMT) (M1 : SMT), va_D A (m_cw ad ca ky ty rt Ni Np No Nx Nf Na Nh Nq Nj M0 M1)) (n : Nat)  (tc : SMT) (Np : SNP) (Ni : SNI) (No : SNO) (Nx : SNX) (Nf : SNF) (Na : SNA) (Nh : SNH) (Nq : SNQ) (Nj : SNJ) (M0 : SMT) {r : Int32 × SNP} (h : m_MM_often_j172 n tc Np = some r) : o_At p l e rm_MM_often s m args below meth c (MQ below (o_Qx D m_cls (some (.int r.1)) (m_cw ad ca ky ty 48 Ni r.2 No Nx Nf Na Nh Nq Nj M0 tc) A) args s 0 0 A) m_cls D A 6 172 [] (m_cw ad ca ky ty 48 Ni Np No Nx Nf Na Nh Nq Nj M0 tc) [(0, .ref (ad 0))] := by
  unfold m_MM_often_j172 at h
  intro H locs ls hP hS hl
  have C0 := C
  obtain ⟨hx, hb, -, -, -, hown, hts, hK, -, -⟩ := C0
  refine lv_aload_n hx hb d_MM_often_172 rfl (lv_at hl 0 rfl) ?_
  obtain ⟨q3, hq3, h⟩ := o_bd_some h
  refine o_V (st1 := [.int q3.1]) (w1 := (m_cw ad ca ky ty 48 Ni q3.2 No Nx Nf Na Nh Nq Nj M0 tc)) hE.1 C (e_MM_no hE hKy l Np Ni No Nx Nf Na Nh Nq Nj M0 tc 48 hq3) hP (hDD _ _ _ _ _ _ _ _ _ _ _ _) hS hl.1 rfl mw_0 k_9_78 k_9_80 k_s_91 k_1_12 k_9_81 hv_MM_no rfl rfl ⟨(Nat.le_of_ble_eq_true rfl), (Nat.le_of_ble_eq_true rfl)⟩ rfl (Nat.le_of_ble_eq_true rfl) ⟨Nat.zero_le _, Nat.zero_le _⟩ rfl d_MM_often_173 (fun H locs hP hS => ?_)
  cases h
  exact o_ri C hP hS d_MM_often_176
set_option maxHeartbeats 4000000 in
set_option maxRecDepth 100000 in
theorem f_MM_often_j212_b {E : (Nat → Prop) → State → Heap → Prop} {p : Program} {l : Launch} {e : Env} {s : State} {m : MethodId} {args : Array Value} {below : List Frame} {meth : Method} {c : Code} {D : va_G} {ad kd sd vd xd : Nat → Nat} {ca : Nat → ClassId} {A : Nat → Prop} {ky ty : Nat → Option Nat} (hE : o_EK E kd sd vd xd) (hKy : m_KY ky ty sd) (C : o_Cx E p s m args meth c D m_cls (m_tys ca) "SchemaJudgeModel" b_MM_often (some .int) 6 cc_MM_often A) (hDD : ∀ (rt : Nat) (Ni : SNI) (Np : SNP) (No : SNO) (Nx : SNX) (Nf : SNF) (Na : SNA) (Nh : SNH) (Nq : SNQ) (Nj : SNJ) (M0 : SMT) (M1 : SMT), va_D A (m_cw ad ca ky ty rt Ni Np No Nx Nf Na Nh Nq Nj M0 M1)) (n : Nat) (x1 : Int32) (x3 : Int32) (x4 : Int32) (tc : SMT) (Np : SNP) (Ni : SNI) (No : SNO) (Nx : SNX) (Nf : SNF) (Na : SNA) (Nh : SNH) (Nq : SNQ) (Nj : SNJ) (M0 : SMT) {r : Int32 × SNP} (h : m_MM_often_j212 n x1 x3 x4 tc Np = some r) : o_At p l e rm_MM_often s m args below meth c (MQ below (o_Qx D m_cls (some (.int r.1)) (m_cw ad ca ky ty 48 Ni r.2 No Nx Nf Na Nh Nq Nj M0 tc) A) args s 0 0 A) m_cls D A 6 212 [] (m_cw ad ca ky ty 48 Ni Np No Nx Nf Na Nh Nq Nj M0 tc) [(0, .ref (ad 0)), (1, .int x1), (3, .int x3), (4, .int x4)] := by
  unfold m_MM_often_j212 at h
  intro H locs ls hP hS hl
  have C0 := C
  obtain ⟨hx, hb, -, -, -, hown, hts, hK, -, -⟩ := C0
  refine lv_aload_n hx hb d_MM_often_212 rfl (lv_at hl 0 rfl) ?_
  refine lv_bipush (v := (6:Int32)) hx hb d_MM_often_213 (by decide) ?_
  refine lv_iload_n hx hb d_MM_often_215 rfl (lv_at hl 1 rfl) ?_
  obtain ⟨q6, hq6, h⟩ := o_bd_some h
  refine o_V (st1 := [.int q6.1]) (w1 := (m_cw ad ca ky ty 48 Ni q6.2 No Nx Nf Na Nh Nq Nj M0 tc)) hE.1 C (e_MM_node hE hKy l (6:Int32) x1 Np Ni No Nx Nf Na Nh Nq Nj M0 tc 48 hq6) hP (hDD _ _ _ _ _ _ _ _ _ _ _ _) hS hl.1 rfl mw_0 k_9_62 k_9_64 k_s_87 k_1_12 k_9_65 hv_MM_node rfl rfl ⟨(Nat.le_of_ble_eq_true rfl), (Nat.le_of_ble_eq_true rfl)⟩ rfl (Nat.le_of_ble_eq_true rfl) ⟨Nat.zero_le _, Nat.zero_le _⟩ rfl d_MM_often_216 (fun H locs hP hS => ?_)
  refine lv_istore (lv' := [(5, .int q6.1), (0, .ref (ad 0)), (1, .int x1), (3, .int x3), (4, .int x4)]) hx hb d_MM_often_219 hl (by decide) rfl (fun ls hl => ?_)
  refine lv_aload_n hx hb d_MM_often_221 rfl (lv_at hl 1 rfl) ?_
  refine o_get (v := .ref (ad 4)) C in_MM hP 0 mw_0 rfl 8 (by decide) k_7_238 rfl rfl d_MM_often_222 ?_
  refine lv_iload hx hb d_MM_often_225 (lv_at hl 0 rfl) ?_
  refine lv_iload_n hx hb d_MM_often_227 rfl (lv_at hl 3 rfl) ?_
  obtain ⟨g10, h⟩ := o_gd_some h
  refine o_iast (f := (NP_nodeB q6.2)) (w1 := (m_cw ad ca ky ty 48 Ni (NP_mk (NP_nodeKind q6.2) (NP_nodeA q6.2) (upd (NP_nodeB q6.2) q6.1.toNatClampNeg x3) (NP_nodeC q6.2) (NP_nodeNext q6.2) (NP_low q6.2) (NP_high q6.2) (NP_setFrom q6.2) (NP_setTo q6.2) (NP_setNot q6.2) (NP_nodes q6.2) (NP_sets q6.2) (NP_ranges q6.2) (NP_pat q6.2) (NP_patEnd q6.2) (NP_broken q6.2)) No Nx Nf Na Nh Nq Nj M0 tc)) C hP (hDD _ _ _ _ _ _ _ _ _ _ _ _) hS 4 3 mw_4 rfl g10 rfl d_MM_often_228 (fun H locs hP hS => ?_)
  refine lv_aload_n hx hb d_MM_often_229 rfl (lv_at hl 1 rfl) ?_
  refine o_get (v := .ref (ad 5)) C in_MM hP 0 mw_0 rfl 9 (by decide) k_7_239 rfl rfl d_MM_often_230 ?_
  refine lv_iload hx hb d_MM_often_233 (lv_at hl 0 rfl) ?_
  refine lv_iload hx hb d_MM_often_235 (lv_at hl 4 rfl) ?_
  obtain ⟨g11, h⟩ := o_gd_some h
  refine o_iast (f := (NP_nodeC q6.2)) (w1 := (m_cw ad ca ky ty 48 Ni (NP_mk (NP_nodeKind q6.2) (NP_nodeA q6.2) (upd (NP_nodeB q6.2) q6.1.toNatClampNeg x3) (upd (NP_nodeC q6.2) q6.1.toNatClampNeg x4) (NP_nodeNext q6.2) (NP_low q6.2) (NP_high q6.2) (NP_setFrom q6.2) (NP_setTo q6.2) (NP_setNot q6.2) (NP_nodes q6.2) (NP_sets q6.2) (NP_ranges q6.2) (NP_pat q6.2) (NP_patEnd q6.2) (NP_broken q6.2)) No Nx Nf Na Nh Nq Nj M0 tc)) C hP (hDD _ _ _ _ _ _ _ _ _ _ _ _) hS 5 4 mw_5 rfl g11 rfl d_MM_often_237 (fun H locs hP hS => ?_)
  refine lv_iload hx hb d_MM_often_238 (lv_at hl 0 rfl) ?_
  cases h
  exact o_ri C hP hS d_MM_often_240
set_option maxHeartbeats 4000000 in
set_option maxRecDepth 100000 in
theorem f_MM_often_j192_b {E : (Nat → Prop) → State → Heap → Prop} {p : Program} {l : Launch} {e : Env} {s : State} {m : MethodId} {args : Array Value} {below : List Frame} {meth : Method} {c : Code} {D : va_G} {ad kd sd vd xd : Nat → Nat} {ca : Nat → ClassId} {A : Nat → Prop} {ky ty : Nat → Option Nat} (hE : o_EK E kd sd vd xd) (hKy : m_KY ky ty sd) (C : o_Cx E p s m args meth c D m_cls (m_tys ca) "SchemaJudgeModel" b_MM_often (some .int) 6 cc_MM_often A) (hDD : ∀ (rt : Nat) (Ni : SNI) (Np : SNP) (No : SNO) (Nx : SNX) (Nf : SNF) (Na : SNA) (Nh : SNH) (Nq : SNQ) (Nj : SNJ) (M0 : SMT) (M1 : SMT), va_D A (m_cw ad ca ky ty rt Ni Np No Nx Nf Na Nh Nq Nj M0 M1)) (n : Nat) (x1 : Int32) (x3 : Int32) (x4 : Int32) (tc : SMT) (Np : SNP) (Ni : SNI) (No : SNO) (Nx : SNX) (Nf : SNF) (Na : SNA) (Nh : SNH) (Nq : SNQ) (Nj : SNJ) (M0 : SMT) {r : Int32 × SNP} (h : m_MM_often_j192 n x1 x3 x4 tc Np = some r) : o_At p l e rm_MM_often s m args below meth c (MQ below (o_Qx D m_cls (some (.int r.1)) (m_cw ad ca ky ty 48 Ni r.2 No Nx Nf Na Nh Nq Nj M0 tc) A) args s 0 0 A) m_cls D A 6 192 [] (m_cw ad ca ky ty 48 Ni Np No Nx Nf Na Nh Nq Nj M0 tc) [(0, .ref (ad 0)), (1, .int x1), (3, .int x3), (4, .int x4)] := by
  unfold m_MM_often_j192 at h
  intro H locs ls hP hS hl
  have C0 := C
  obtain ⟨hx, hb, -, -, -, hown, hts, hK, -, -⟩ := C0
  refine lv_aload_n hx hb d_MM_often_192 rfl (lv_at hl 0 rfl) ?_
  refine lv_iconst (v := (0:Int32)) hx hb d_MM_often_193 (by decide) ?_
  obtain ⟨q5, hq5, h⟩ := o_bd_some h
  refine o_V (st1 := [.int q5]) (w1 := (m_cw ad ca ky ty 48 Ni Np No Nx Nf Na Nh Nq Nj M0 tc)) hE.1 C (e_MM_p_b hE hKy l (0:Int32) tc Np Ni No Nx Nf Na Nh Nq Nj M0 hq5) hP (hDD _ _ _ _ _ _ _ _ _ _ _ _) hS hl.1 rfl mw_0 k_9_70 k_9_72 k_s_89 k_1_12 k_9_73 hv_MM_p rfl rfl ⟨(Nat.le_of_ble_eq_true rfl), (Nat.le_of_ble_eq_true rfl)⟩ rfl (Nat.le_of_ble_eq_true rfl) ⟨Nat.zero_le _, Nat.zero_le _⟩ rfl d_MM_often_194 (fun H locs hP hS => ?_)
  refine lv_bipush (v := (63:Int32)) hx hb d_MM_often_197 (by decide) ?_
  refine lv_icmp_ne (tgt := 212) hx hb d_MM_often_199 (by decide) (fun c9 => ?_) (fun c9 => ?_)
  · replace h := o_ff c9 h
    exact f_MM_often_j212_b hE hKy C hDD n x1 x3 x4 tc Np Ni No Nx Nf Na Nh Nq Nj M0 h _ _ _ hP hS (lv_sub hl [0, 1, 2, 3] rfl)
  · replace h := o_tt c9 h
    refine lv_aload_n hx hb d_MM_often_202 rfl (lv_at hl 0 rfl) ?_
    refine lv_dup hx hb d_MM_often_203 rfl ?_
    refine o_get (v := .int (NP_pat Np)) C in_MM hP 0 mw_0 rfl 27 (by decide) k_8_17 rfl rfl d_MM_often_204 ?_
    refine lv_iconst (v := (1:Int32)) hx hb d_MM_often_207 (by decide) ?_
    refine lv_iadd hx hb d_MM_often_208 ?_
    refine o_put (v := .int ((NP_pat Np) + (1:Int32))) (ty := .int) (w1 := (m_cw ad ca ky ty 48 Ni (NP_mk (NP_nodeKind Np) (NP_nodeA Np) (NP_nodeB Np) (NP_nodeC Np) (NP_nodeNext Np) (NP_low Np) (NP_high Np) (NP_setFrom Np) (NP_setTo Np) (NP_setNot Np) (NP_nodes Np) (NP_sets Np) (NP_ranges Np) ((NP_pat Np) + (1:Int32)) (NP_patEnd Np) (NP_broken Np)) No Nx Nf Na Nh Nq Nj M0 tc)) C in_MM t_MM t_MM_ok n_MM hP (hDD _ _ _ _ _ _ _ _ _ _ _ _) hS 0 mw_0 rfl 27 (by decide) k_8_17 rfl rfl (by decide +kernel) rfl rfl (Nat.le_of_ble_eq_true rfl) rfl d_MM_often_209 (fun H locs hP hS => ?_)
    exact f_MM_often_j212_b hE hKy C hDD n x1 x3 x4 tc (NP_mk (NP_nodeKind Np) (NP_nodeA Np) (NP_nodeB Np) (NP_nodeC Np) (NP_nodeNext Np) (NP_low Np) (NP_high Np) (NP_setFrom Np) (NP_setTo Np) (NP_setNot Np) (NP_nodes Np) (NP_sets Np) (NP_ranges Np) ((NP_pat Np) + (1:Int32)) (NP_patEnd Np) (NP_broken Np)) Ni No Nx Nf Na Nh Nq Nj M0 h _ _ _ hP hS (lv_sub hl [0, 1, 2, 3] rfl)
set_option maxHeartbeats 4000000 in
set_option maxRecDepth 100000 in
theorem f_MM_often_j177_b {E : (Nat → Prop) → State → Heap → Prop} {p : Program} {l : Launch} {e : Env} {s : State} {m : MethodId} {args : Array Value} {below : List Frame} {meth : Method} {c : Code} {D : va_G} {ad kd sd vd xd : Nat → Nat} {ca : Nat → ClassId} {A : Nat → Prop} {ky ty : Nat → Option Nat} (hE : o_EK E kd sd vd xd) (hKy : m_KY ky ty sd) (C : o_Cx E p s m args meth c D m_cls (m_tys ca) "SchemaJudgeModel" b_MM_often (some .int) 6 cc_MM_often A) (hDD : ∀ (rt : Nat) (Ni : SNI) (Np : SNP) (No : SNO) (Nx : SNX) (Nf : SNF) (Na : SNA) (Nh : SNH) (Nq : SNQ) (Nj : SNJ) (M0 : SMT) (M1 : SMT), va_D A (m_cw ad ca ky ty rt Ni Np No Nx Nf Na Nh Nq Nj M0 M1)) (n : Nat) (x1 : Int32) (x3 : Int32) (x4 : Int32) (tc : SMT) (Np : SNP) (Ni : SNI) (No : SNO) (Nx : SNX) (Nf : SNF) (Na : SNA) (Nh : SNH) (Nq : SNQ) (Nj : SNJ) (M0 : SMT) {r : Int32 × SNP} (h : m_MM_often_j177 n x1 x3 x4 tc Np = some r) : o_At p l e rm_MM_often s m args below meth c (MQ below (o_Qx D m_cls (some (.int r.1)) (m_cw ad ca ky ty 48 Ni r.2 No Nx Nf Na Nh Nq Nj M0 tc) A) args s 0 0 A) m_cls D A 6 177 [] (m_cw ad ca ky ty 48 Ni Np No Nx Nf Na Nh Nq Nj M0 tc) [(0, .ref (ad 0)), (1, .int x1), (3, .int x3), (4, .int x4)] := by
  unfold m_MM_often_j177 at h
  intro H locs ls hP hS hl
  have C0 := C
  obtain ⟨hx, hb, -, -, -, hown, hts, hK, -, -⟩ := C0
  refine lv_aload_n hx hb d_MM_often_177 rfl (lv_at hl 0 rfl) ?_
  refine lv_dup hx hb d_MM_often_178 rfl ?_
  refine o_get (v := .int (NP_pat Np)) C in_MM hP 0 mw_0 rfl 27 (by decide) k_8_17 rfl rfl d_MM_often_179 ?_
  refine lv_iconst (v := (1:Int32)) hx hb d_MM_often_182 (by decide) ?_
  refine lv_iadd hx hb d_MM_often_183 ?_
  refine o_put (v := .int ((NP_pat Np) + (1:Int32))) (ty := .int) (w1 := (m_cw ad ca ky ty 48 Ni (NP_mk (NP_nodeKind Np) (NP_nodeA Np) (NP_nodeB Np) (NP_nodeC Np) (NP_nodeNext Np) (NP_low Np) (NP_high Np) (NP_setFrom Np) (NP_setTo Np) (NP_setNot Np) (NP_nodes Np) (NP_sets Np) (NP_ranges Np) ((NP_pat Np) + (1:Int32)) (NP_patEnd Np) (NP_broken Np)) No Nx Nf Na Nh Nq Nj M0 tc)) C in_MM t_MM t_MM_ok n_MM hP (hDD _ _ _ _ _ _ _ _ _ _ _ _) hS 0 mw_0 rfl 27 (by decide) k_8_17 rfl rfl (by decide +kernel) rfl rfl (Nat.le_of_ble_eq_true rfl) rfl d_MM_often_184 (fun H locs hP hS => ?_)
  refine lv_goto (tgt := 192) hx hb d_MM_often_187 (by decide) ?_
  exact f_MM_often_j192_b hE hKy C hDD n x1 x3 x4 tc (NP_mk (NP_nodeKind Np) (NP_nodeA Np) (NP_nodeB Np) (NP_nodeC Np) (NP_nodeNext Np) (NP_low Np) (NP_high Np) (NP_setFrom Np) (NP_setTo Np) (NP_setNot Np) (NP_nodes Np) (NP_sets Np) (NP_ranges Np) ((NP_pat Np) + (1:Int32)) (NP_patEnd Np) (NP_broken Np)) Ni No Nx Nf Na Nh Nq Nj M0 h _ _ _ hP hS (lv_sub hl [0, 1, 2, 3] rfl)
set_option maxHeartbeats 4000000 in
set_option maxRecDepth 100000 in
theorem f_MM_often_j144_b {E : (Nat → Prop) → State → Heap → Prop} {p : Program} {l : Launch} {e : Env} {s : State} {m : MethodId} {args : Array Value} {below : List Frame} {meth : Method} {c : Code} {D : va_G} {ad kd sd vd xd : Nat → Nat} {ca : Nat → ClassId} {A : Nat → Prop} {ky ty : Nat → Option Nat} (hE : o_EK E kd sd vd xd) (hKy : m_KY ky ty sd) (C : o_Cx E p s m args meth c D m_cls (m_tys ca) "SchemaJudgeModel" b_MM_often (some .int) 6 cc_MM_often A) (hDD : ∀ (rt : Nat) (Ni : SNI) (Np : SNP) (No : SNO) (Nx : SNX) (Nf : SNF) (Na : SNA) (Nh : SNH) (Nq : SNQ) (Nj : SNJ) (M0 : SMT) (M1 : SMT), va_D A (m_cw ad ca ky ty rt Ni Np No Nx Nf Na Nh Nq Nj M0 M1)) (n : Nat) (x1 : Int32) (x3 : Int32) (x4 : Int32) (tc : SMT) (Np : SNP) (Ni : SNI) (No : SNO) (Nx : SNX) (Nf : SNF) (Na : SNA) (Nh : SNH) (Nq : SNQ) (Nj : SNJ) (M0 : SMT) {r : Int32 × SNP} (h : m_MM_often_j144 n x1 x3 x4 tc Np = some r) : o_At p l e rm_MM_often s m args below meth c (MQ below (o_Qx D m_cls (some (.int r.1)) (m_cw ad ca ky ty 48 Ni r.2 No Nx Nf Na Nh Nq Nj M0 tc) A) args s 0 0 A) m_cls D A 6 144 [] (m_cw ad ca ky ty 48 Ni Np No Nx Nf Na Nh Nq Nj M0 tc) [(0, .ref (ad 0)), (1, .int x1), (3, .int x3), (4, .int x4)] := by
  unfold m_MM_often_j144 at h
  intro H locs ls hP hS hl
  have C0 := C
  obtain ⟨hx, hb, -, -, -, hown, hts, hK, -, -⟩ := C0
  refine lv_aload_n hx hb d_MM_often_144 rfl (lv_at hl 0 rfl) ?_
  refine o_get (v := .int (NP_broken Np)) C in_MM hP 0 mw_0 rfl 32 (by decide) k_8_22 rfl rfl d_MM_often_145 ?_
  refine lv_if_ne (tgt := 172) hx hb d_MM_often_148 (by decide) (fun c6 => ?_) (fun c6 => ?_)
  · replace h := o_ff c6 h
    exact f_MM_often_j172_b hE hKy C hDD n tc Np Ni No Nx Nf Na Nh Nq Nj M0 h _ _ _ hP hS (lv_sub hl [0] rfl)
  · replace h := o_tt c6 h
    refine lv_aload_n hx hb d_MM_often_151 rfl (lv_at hl 0 rfl) ?_
    refine lv_iconst (v := (0:Int32)) hx hb d_MM_often_152 (by decide) ?_
    obtain ⟨q4, hq4, h⟩ := o_bd_some h
    refine o_V (st1 := [.int q4]) (w1 := (m_cw ad ca ky ty 48 Ni Np No Nx Nf Na Nh Nq Nj M0 tc)) hE.1 C (e_MM_p_b hE hKy l (0:Int32) tc Np Ni No Nx Nf Na Nh Nq Nj M0 hq4) hP (hDD _ _ _ _ _ _ _ _ _ _ _ _) hS hl.1 rfl mw_0 k_9_70 k_9_72 k_s_89 k_1_12 k_9_73 hv_MM_p rfl rfl ⟨(Nat.le_of_ble_eq_true rfl), (Nat.le_of_ble_eq_true rfl)⟩ rfl (Nat.le_of_ble_eq_true rfl) ⟨Nat.zero_le _, Nat.zero_le _⟩ rfl d_MM_often_153 (fun H locs hP hS => ?_)
    refine lv_bipush (v := (125:Int32)) hx hb d_MM_often_156 (by decide) ?_
    refine lv_icmp_ne (tgt := 172) hx hb d_MM_often_158 (by decide) (fun c7 => ?_) (fun c7 => ?_)
    · replace h := o_ff c7 h
      exact f_MM_often_j172_b hE hKy C hDD n tc Np Ni No Nx Nf Na Nh Nq Nj M0 h _ _ _ hP hS (lv_sub hl [0] rfl)
    · replace h := o_tt c7 h
      refine lv_iload hx hb d_MM_often_161 (lv_at hl 3 rfl) ?_
      refine lv_if_lt (tgt := 177) hx hb d_MM_often_163 (by decide) (fun c8 => ?_) (fun c8 => ?_)
      · replace h := o_tt c8 h
        exact f_MM_often_j177_b hE hKy C hDD n x1 x3 x4 tc Np Ni No Nx Nf Na Nh Nq Nj M0 h _ _ _ hP hS (lv_sub hl [0, 1, 2, 3] rfl)
      · replace h := o_ff c8 h
        refine lv_iload_n hx hb d_MM_often_166 rfl (lv_at hl 2 rfl) ?_
        refine lv_iload hx hb d_MM_often_167 (lv_at hl 3 rfl) ?_
        refine lv_icmp_le (tgt := 177) hx hb d_MM_often_169 (by decide) (fun c12 => ?_) (fun c12 => ?_)
        · replace h := o_tt c12 h
          exact f_MM_often_j177_b hE hKy C hDD n x1 x3 x4 tc Np Ni No Nx Nf Na Nh Nq Nj M0 h _ _ _ hP hS (lv_sub hl [0, 1, 2, 3] rfl)
        · replace h := o_ff c12 h
          exact f_MM_often_j172_b hE hKy C hDD n tc Np Ni No Nx Nf Na Nh Nq Nj M0 h _ _ _ hP hS (lv_sub hl [0] rfl)
set_option maxHeartbeats 4000000 in
set_option maxRecDepth 100000 in
theorem e_MM_often_b {E : (Nat → Prop) → State → Heap → Prop} {D : va_G} {ad kd sd vd xd : Nat → Nat} {ca : Nat → ClassId} {ky ty : Nat → Option Nat} (hE : o_EK E kd sd vd xd) (hKy : m_KY ky ty sd) (l : Launch) (n : Nat) (x1 : Int32) (tc : SMT) (Np : SNP) (Ni : SNI) (No : SNO) (Nx : SNX) (Nf : SNF) (Na : SNA) (Nh : SNH) (Nq : SNQ) (Nj : SNJ) (M0 : SMT) {r : Int32 × SNP} (h : m_MM_often n x1 tc Np = some r) : o_Cn E l D m_cls (m_tys ca) y_MM_often cc_MM_often rm_MM_often [.ref (ad 0), .int x1] (m_cw ad ca ky ty 48 Ni Np No Nx Nf Na Nh Nq Nj M0 tc) (m_cw ad ca ky ty 48 Ni r.2 No Nx Nf Na Nh Nq Nj M0 tc) (some (.int r.1)) := by
  refine o_Cn_of (by decide) (Nat.le_of_ble_eq_true rfl) ?_
  intro p e s m below meth c A ls C hD hP hS hl
  have hDD : ∀ (rt : Nat) (Ni : SNI) (Np : SNP) (No : SNO) (Nx : SNX) (Nf : SNF) (Na : SNA) (Nh : SNH) (Nq : SNQ) (Nj : SNJ) (M0 : SMT) (M1 : SMT), va_D A (m_cw ad ca ky ty rt Ni Np No Nx Nf Na Nh Nq Nj M0 M1) := fun _ _ _ _ _ _ _ _ _ _ _ _ => o_D_map hD rfl
  have hl : lv_has ls 6 [(0, .ref (ad 0)), (1, .int x1)] := hl
  unfold m_MM_often at h
  have C0 := C
  obtain ⟨hx, hb, -, -, -, hown, hts, hK, -, -⟩ := C0
  refine lv_aload_n hx hb d_MM_often_0 rfl (lv_at hl 0 rfl) ?_
  refine lv_iconst (v := (0:Int32)) hx hb d_MM_often_1 (by decide) ?_
  obtain ⟨q1, hq1, h⟩ := o_bd_some h
  refine o_V (st1 := [.int q1]) (w1 := (m_cw ad ca ky ty 48 Ni Np No Nx Nf Na Nh Nq Nj M0 tc)) hE.1 C (e_MM_p_b hE hKy l (0:Int32) tc Np Ni No Nx Nf Na Nh Nq Nj M0 hq1) hP (hDD _ _ _ _ _ _ _ _ _ _ _ _) hS hl.1 rfl mw_0 k_9_70 k_9_72 k_s_89 k_1_12 k_9_73 hv_MM_p rfl rfl ⟨(Nat.le_of_ble_eq_true rfl), (Nat.le_of_ble_eq_true rfl)⟩ rfl (Nat.le_of_ble_eq_true rfl) ⟨Nat.zero_le _, Nat.zero_le _⟩ rfl d_MM_often_2 (fun H locs hP hS => ?_)
  refine lv_istore_n (lv' := [(2, .int q1), (0, .ref (ad 0)), (1, .int x1)]) hx hb d_MM_often_5 rfl hl (by decide) rfl (fun ls hl => ?_)
  refine lv_iconst (v := (0:Int32)) hx hb d_MM_often_6 (by decide) ?_
  refine lv_istore_n (lv' := [(3, .int (0:Int32)), (2, .int q1), (0, .ref (ad 0)), (1, .int x1)]) hx hb d_MM_often_7 rfl hl (by decide) rfl (fun ls hl => ?_)
  refine lv_iconst (v := (-1:Int32)) hx hb d_MM_often_8 (by decide) ?_
  refine lv_istore (lv' := [(4, .int (-1:Int32)), (3, .int (0:Int32)), (2, .int q1), (0, .ref (ad 0)), (1, .int x1)]) hx hb d_MM_often_9 hl (by decide) rfl (fun ls hl => ?_)
  refine lv_iload_n hx hb d_MM_often_11 rfl (lv_at hl 2 rfl) ?_
  refine lv_bipush (v := (42:Int32)) hx hb d_MM_often_12 (by decide) ?_
  refine lv_icmp_ne (tgt := 30) hx hb d_MM_often_14 (by decide) (fun c1 => ?_) (fun c1 => ?_)
  · replace h := o_ff c1 h
    refine lv_iload_n hx hb d_MM_often_30 rfl (lv_at hl 2 rfl) ?_
    refine lv_bipush (v := (43:Int32)) hx hb d_MM_often_31 (by decide) ?_
    refine lv_icmp_ne (tgt := 51) hx hb d_MM_often_33 (by decide) (fun c2 => ?_) (fun c2 => ?_)
    · replace h := o_ff c2 h
      refine lv_iload_n hx hb d_MM_often_51 rfl (lv_at hl 2 rfl) ?_
      refine lv_bipush (v := (63:Int32)) hx hb d_MM_often_52 (by decide) ?_
      refine lv_icmp_ne (tgt := 73) hx hb d_MM_often_54 (by decide) (fun c3 => ?_) (fun c3 => ?_)
      · replace h := o_ff c3 h
        refine lv_iload_n hx hb d_MM_often_73 rfl (lv_at hl 2 rfl) ?_
        refine lv_bipush (v := (123:Int32)) hx hb d_MM_often_74 (by decide) ?_
        refine lv_icmp_ne (tgt := 190) hx hb d_MM_often_76 (by decide) (fun c4 => ?_) (fun c4 => ?_)
        · replace h := o_ff c4 h
          refine lv_iload_n hx hb d_MM_often_190 rfl (lv_at hl 4 rfl) ?_
          cases h
          exact o_ri C hP hS d_MM_often_191
        · replace h := o_tt c4 h
          refine lv_aload_n hx hb d_MM_often_79 rfl (lv_at hl 3 rfl) ?_
          refine lv_dup hx hb d_MM_often_80 rfl ?_
          refine o_get (v := .int (NP_pat Np)) C in_MM hP 0 mw_0 rfl 27 (by decide) k_8_17 rfl rfl d_MM_often_81 ?_
          refine lv_iconst (v := (1:Int32)) hx hb d_MM_often_84 (by decide) ?_
          refine lv_iadd hx hb d_MM_often_85 ?_
          refine o_put (v := .int ((NP_pat Np) + (1:Int32))) (ty := .int) (w1 := (m_cw ad ca ky ty 48 Ni (NP_mk (NP_nodeKind Np) (NP_nodeA Np) (NP_nodeB Np) (NP_nodeC Np) (NP_nodeNext Np) (NP_low Np) (NP_high Np) (NP_setFrom Np) (NP_setTo Np) (NP_setNot Np) (NP_nodes Np) (NP_sets Np) (NP_ranges Np) ((NP_pat Np) + (1:Int32)) (NP_patEnd Np) (NP_broken Np)) No Nx Nf Na Nh Nq Nj M0 tc)) C in_MM t_MM t_MM_ok n_MM hP (hDD _ _ _ _ _ _ _ _ _ _ _ _) hS 0 mw_0 rfl 27 (by decide) k_8_17 rfl rfl (by decide +kernel) rfl rfl (Nat.le_of_ble_eq_true rfl) rfl d_MM_often_86 (fun H locs hP hS => ?_)
          refine lv_aload_n hx hb d_MM_often_89 rfl (lv_at hl 3 rfl) ?_
          obtain ⟨q2, hq2, h⟩ := o_bd_some h
          refine o_V (st1 := [.int q2.1]) (w1 := (m_cw ad ca ky ty 48 Ni q2.2 No Nx Nf Na Nh Nq Nj M0 tc)) hE.1 C (e_MM_number_b hE hKy l n tc (NP_mk (NP_nodeKind Np) (NP_nodeA Np) (NP_nodeB Np) (NP_nodeC Np) (NP_nodeNext Np) (NP_low Np) (NP_high Np) (NP_setFrom Np) (NP_setTo Np) (NP_setNot Np) (NP_nodes Np) (NP_sets Np) (NP_ranges Np) ((NP_pat Np) + (1:Int32)) (NP_patEnd Np) (NP_broken Np)) Ni No Nx Nf Na Nh Nq Nj M0 hq2) hP (hDD _ _ _ _ _ _ _ _ _ _ _ _) hS hl.1 rfl mw_0 k_9_125 k_9_127 k_s_102 k_1_12 k_9_128 hv_MM_number rfl rfl ⟨(Nat.le_of_ble_eq_true rfl), (Nat.le_of_ble_eq_true rfl)⟩ rfl (Nat.le_of_ble_eq_true rfl) ⟨Nat.zero_le _, Nat.zero_le _⟩ rfl d_MM_often_90 (fun H locs hP hS => ?_)
          refine lv_istore_n (lv' := [(3, .int q2.1), (4, .int (-1:Int32)), (2, .int q1), (0, .ref (ad 0)), (1, .int x1)]) hx hb d_MM_often_93 rfl hl (by decide) rfl (fun ls hl => ?_)
          refine lv_iload_n hx hb d_MM_often_94 rfl (lv_at hl 0 rfl) ?_
          refine lv_istore (lv' := [(4, .int q2.1), (3, .int q2.1), (2, .int q1), (0, .ref (ad 0)), (1, .int x1)]) hx hb d_MM_often_95 hl (by decide) rfl (fun ls hl => ?_)
          refine lv_aload_n hx hb d_MM_often_97 rfl (lv_at hl 3 rfl) ?_
          refine o_get (v := .int (NP_broken q2.2)) C in_MM hP 0 mw_0 rfl 32 (by decide) k_8_22 rfl rfl d_MM_often_98 ?_
          refine lv_if_ne (tgt := 144) hx hb d_MM_often_101 (by decide) (fun c5 => ?_) (fun c5 => ?_)
          · replace h := o_ff c5 h
            exact f_MM_often_j144_b hE hKy C hDD n x1 q2.1 q2.1 tc q2.2 Ni No Nx Nf Na Nh Nq Nj M0 h _ _ _ hP hS (lv_sub hl [3, 4, 1, 0] rfl)
          · replace h := o_tt c5 h
            refine lv_aload_n hx hb d_MM_often_104 rfl (lv_at hl 3 rfl) ?_
            refine lv_iconst (v := (0:Int32)) hx hb d_MM_often_105 (by decide) ?_
            obtain ⟨q7, hq7, h⟩ := o_bd_some h
            refine o_V (st1 := [.int q7]) (w1 := (m_cw ad ca ky ty 48 Ni q2.2 No Nx Nf Na Nh Nq Nj M0 tc)) hE.1 C (e_MM_p_b hE hKy l (0:Int32) tc q2.2 Ni No Nx Nf Na Nh Nq Nj M0 hq7) hP (hDD _ _ _ _ _ _ _ _ _ _ _ _) hS hl.1 rfl mw_0 k_9_70 k_9_72 k_s_89 k_1_12 k_9_73 hv_MM_p rfl rfl ⟨(Nat.le_of_ble_eq_true rfl), (Nat.le_of_ble_eq_true rfl)⟩ rfl (Nat.le_of_ble_eq_true rfl) ⟨Nat.zero_le _, Nat.zero_le _⟩ rfl d_MM_often_106 (fun H locs hP hS => ?_)
            refine lv_bipush (v := (44:Int32)) hx hb d_MM_often_109 (by decide) ?_
            refine lv_icmp_ne (tgt := 144) hx hb d_MM_often_111 (by decide) (fun c13 => ?_) (fun c13 => ?_)
            · replace h := o_ff c13 h
              exact f_MM_often_j144_b hE hKy C hDD n x1 q2.1 q2.1 tc q2.2 Ni No Nx Nf Na Nh Nq Nj M0 h _ _ _ hP hS (lv_sub hl [3, 4, 1, 0] rfl)
            · replace h := o_tt c13 h
              refine lv_aload_n hx hb d_MM_often_114 rfl (lv_at hl 3 rfl) ?_
              refine lv_dup hx hb d_MM_often_115 rfl ?_
              refine o_get (v := .int (NP_pat q2.2)) C in_MM hP 0 mw_0 rfl 27 (by decide) k_8_17 rfl rfl d_MM_often_116 ?_
              refine lv_iconst (v := (1:Int32)) hx hb d_MM_often_119 (by decide) ?_
              refine lv_iadd hx hb d_MM_often_120 ?_
              refine o_put (v := .int ((NP_pat q2.2) + (1:Int32))) (ty := .int) (w1 := (m_cw ad ca ky ty 48 Ni (NP_mk (NP_nodeKind q2.2) (NP_nodeA q2.2) (NP_nodeB q2.2) (NP_nodeC q2.2) (NP_nodeNext q2.2) (NP_low q2.2) (NP_high q2.2) (NP_setFrom q2.2) (NP_setTo q2.2) (NP_setNot q2.2) (NP_nodes q2.2) (NP_sets q2.2) (NP_ranges q2.2) ((NP_pat q2.2) + (1:Int32)) (NP_patEnd q2.2) (NP_broken q2.2)) No Nx Nf Na Nh Nq Nj M0 tc)) C in_MM t_MM t_MM_ok n_MM hP (hDD _ _ _ _ _ _ _ _ _ _ _ _) hS 0 mw_0 rfl 27 (by decide) k_8_17 rfl rfl (by decide +kernel) rfl rfl (Nat.le_of_ble_eq_true rfl) rfl d_MM_often_121 (fun H locs hP hS => ?_)
              refine lv_aload_n hx hb d_MM_often_124 rfl (lv_at hl 3 rfl) ?_
              refine lv_iconst (v := (0:Int32)) hx hb d_MM_often_125 (by decide) ?_
              obtain ⟨q8, hq8, h⟩ := o_bd_some h
              refine o_V (st1 := [.int q8]) (w1 := (m_cw ad ca ky ty 48 Ni (NP_mk (NP_nodeKind q2.2) (NP_nodeA q2.2) (NP_nodeB q2.2) (NP_nodeC q2.2) (NP_nodeNext q2.2) (NP_low q2.2) (NP_high q2.2) (NP_setFrom q2.2) (NP_setTo q2.2) (NP_setNot q2.2) (NP_nodes q2.2) (NP_sets q2.2) (NP_ranges q2.2) ((NP_pat q2.2) + (1:Int32)) (NP_patEnd q2.2) (NP_broken q2.2)) No Nx Nf Na Nh Nq Nj M0 tc)) hE.1 C (e_MM_p_b hE hKy l (0:Int32) tc (NP_mk (NP_nodeKind q2.2) (NP_nodeA q2.2) (NP_nodeB q2.2) (NP_nodeC q2.2) (NP_nodeNext q2.2) (NP_low q2.2) (NP_high q2.2) (NP_setFrom q2.2) (NP_setTo q2.2) (NP_setNot q2.2) (NP_nodes q2.2) (NP_sets q2.2) (NP_ranges q2.2) ((NP_pat q2.2) + (1:Int32)) (NP_patEnd q2.2) (NP_broken q2.2)) Ni No Nx Nf Na Nh Nq Nj M0 hq8) hP (hDD _ _ _ _ _ _ _ _ _ _ _ _) hS hl.1 rfl mw_0 k_9_70 k_9_72 k_s_89 k_1_12 k_9_73 hv_MM_p rfl rfl ⟨(Nat.le_of_ble_eq_true rfl), (Nat.le_of_ble_eq_true rfl)⟩ rfl (Nat.le_of_ble_eq_true rfl) ⟨Nat.zero_le _, Nat.zero_le _⟩ rfl d_MM_often_126 (fun H locs hP hS => ?_)
              refine lv_bipush (v := (125:Int32)) hx hb d_MM_often_129 (by decide) ?_
              refine lv_icmp_ne (tgt := 138) hx hb d_MM_often_131 (by decide) (fun c14 => ?_) (fun c14 => ?_)
              · replace h := o_ff c14 h
                refine lv_aload_n hx hb d_MM_often_138 rfl (lv_at hl 3 rfl) ?_
                obtain ⟨q9, hq9, h⟩ := o_bd_some h
                refine o_V (st1 := [.int q9.1]) (w1 := (m_cw ad ca ky ty 48 Ni q9.2 No Nx Nf Na Nh Nq Nj M0 tc)) hE.1 C (e_MM_number_b hE hKy l n tc (NP_mk (NP_nodeKind q2.2) (NP_nodeA q2.2) (NP_nodeB q2.2) (NP_nodeC q2.2) (NP_nodeNext q2.2) (NP_low q2.2) (NP_high q2.2) (NP_setFrom q2.2) (NP_setTo q2.2) (NP_setNot q2.2) (NP_nodes q2.2) (NP_sets q2.2) (NP_ranges q2.2) ((NP_pat q2.2) + (1:Int32)) (NP_patEnd q2.2) (NP_broken q2.2)) Ni No Nx Nf Na Nh Nq Nj M0 hq9) hP (hDD _ _ _ _ _ _ _ _ _ _ _ _) hS hl.1 rfl mw_0 k_9_125 k_9_127 k_s_102 k_1_12 k_9_128 hv_MM_number rfl rfl ⟨(Nat.le_of_ble_eq_true rfl), (Nat.le_of_ble_eq_true rfl)⟩ rfl (Nat.le_of_ble_eq_true rfl) ⟨Nat.zero_le _, Nat.zero_le _⟩ rfl d_MM_often_139 (fun H locs hP hS => ?_)
                refine lv_istore (lv' := [(4, .int q9.1), (3, .int q2.1), (2, .int q1), (0, .ref (ad 0)), (1, .int x1)]) hx hb d_MM_often_142 hl (by decide) rfl (fun ls hl => ?_)
                exact f_MM_often_j144_b hE hKy C hDD n x1 q2.1 q9.1 tc q9.2 Ni No Nx Nf Na Nh Nq Nj M0 h _ _ _ hP hS (lv_sub hl [3, 4, 1, 0] rfl)
              · replace h := o_tt c14 h
                refine lv_iconst (v := (-1:Int32)) hx hb d_MM_often_134 (by decide) ?_
                refine lv_goto (tgt := 142) hx hb d_MM_often_135 (by decide) ?_
                refine lv_istore (lv' := [(4, .int (-1:Int32)), (3, .int q2.1), (2, .int q1), (0, .ref (ad 0)), (1, .int x1)]) hx hb d_MM_often_142 hl (by decide) rfl (fun ls hl => ?_)
                exact f_MM_often_j144_b hE hKy C hDD n x1 q2.1 (-1:Int32) tc (NP_mk (NP_nodeKind q2.2) (NP_nodeA q2.2) (NP_nodeB q2.2) (NP_nodeC q2.2) (NP_nodeNext q2.2) (NP_low q2.2) (NP_high q2.2) (NP_setFrom q2.2) (NP_setTo q2.2) (NP_setNot q2.2) (NP_nodes q2.2) (NP_sets q2.2) (NP_ranges q2.2) ((NP_pat q2.2) + (1:Int32)) (NP_patEnd q2.2) (NP_broken q2.2)) Ni No Nx Nf Na Nh Nq Nj M0 h _ _ _ hP hS (lv_sub hl [3, 4, 1, 0] rfl)
      · replace h := o_tt c3 h
        refine lv_iconst (v := (1:Int32)) hx hb d_MM_often_57 (by decide) ?_
        refine lv_istore (lv' := [(4, .int (1:Int32)), (3, .int (0:Int32)), (2, .int q1), (0, .ref (ad 0)), (1, .int x1)]) hx hb d_MM_often_58 hl (by decide) rfl (fun ls hl => ?_)
        refine lv_aload_n hx hb d_MM_often_60 rfl (lv_at hl 3 rfl) ?_
        refine lv_dup hx hb d_MM_often_61 rfl ?_
        refine o_get (v := .int (NP_pat Np)) C in_MM hP 0 mw_0 rfl 27 (by decide) k_8_17 rfl rfl d_MM_often_62 ?_
        refine lv_iconst (v := (1:Int32)) hx hb d_MM_often_65 (by decide) ?_
        refine lv_iadd hx hb d_MM_often_66 ?_
        refine o_put (v := .int ((NP_pat Np) + (1:Int32))) (ty := .int) (w1 := (m_cw ad ca ky ty 48 Ni (NP_mk (NP_nodeKind Np) (NP_nodeA Np) (NP_nodeB Np) (NP_nodeC Np) (NP_nodeNext Np) (NP_low Np) (NP_high Np) (NP_setFrom Np) (NP_setTo Np) (NP_setNot Np) (NP_nodes Np) (NP_sets Np) (NP_ranges Np) ((NP_pat Np) + (1:Int32)) (NP_patEnd Np) (NP_broken Np)) No Nx Nf Na Nh Nq Nj M0 tc)) C in_MM t_MM t_MM_ok n_MM hP (hDD _ _ _ _ _ _ _ _ _ _ _ _) hS 0 mw_0 rfl 27 (by decide) k_8_17 rfl rfl (by decide +kernel) rfl rfl (Nat.le_of_ble_eq_true rfl) rfl d_MM_often_67 (fun H locs hP hS => ?_)
        refine lv_goto (tgt := 192) hx hb d_MM_often_70 (by decide) ?_
        exact f_MM_often_j192_b hE hKy C hDD n x1 (0:Int32) (1:Int32) tc (NP_mk (NP_nodeKind Np) (NP_nodeA Np) (NP_nodeB Np) (NP_nodeC Np) (NP_nodeNext Np) (NP_low Np) (NP_high Np) (NP_setFrom Np) (NP_setTo Np) (NP_setNot Np) (NP_nodes Np) (NP_sets Np) (NP_ranges Np) ((NP_pat Np) + (1:Int32)) (NP_patEnd Np) (NP_broken Np)) Ni No Nx Nf Na Nh Nq Nj M0 h _ _ _ hP hS (lv_sub hl [3, 4, 1, 0] rfl)
    · replace h := o_tt c2 h
      refine lv_iconst (v := (1:Int32)) hx hb d_MM_often_36 (by decide) ?_
      refine lv_istore_n (lv' := [(3, .int (1:Int32)), (4, .int (-1:Int32)), (2, .int q1), (0, .ref (ad 0)), (1, .int x1)]) hx hb d_MM_often_37 rfl hl (by decide) rfl (fun ls hl => ?_)
      refine lv_aload_n hx hb d_MM_often_38 rfl (lv_at hl 3 rfl) ?_
      refine lv_dup hx hb d_MM_often_39 rfl ?_
      refine o_get (v := .int (NP_pat Np)) C in_MM hP 0 mw_0 rfl 27 (by decide) k_8_17 rfl rfl d_MM_often_40 ?_
      refine lv_iconst (v := (1:Int32)) hx hb d_MM_often_43 (by decide) ?_
      refine lv_iadd hx hb d_MM_often_44 ?_
      refine o_put (v := .int ((NP_pat Np) + (1:Int32))) (ty := .int) (w1 := (m_cw ad ca ky ty 48 Ni (NP_mk (NP_nodeKind Np) (NP_nodeA Np) (NP_nodeB Np) (NP_nodeC Np) (NP_nodeNext Np) (NP_low Np) (NP_high Np) (NP_setFrom Np) (NP_setTo Np) (NP_setNot Np) (NP_nodes Np) (NP_sets Np) (NP_ranges Np) ((NP_pat Np) + (1:Int32)) (NP_patEnd Np) (NP_broken Np)) No Nx Nf Na Nh Nq Nj M0 tc)) C in_MM t_MM t_MM_ok n_MM hP (hDD _ _ _ _ _ _ _ _ _ _ _ _) hS 0 mw_0 rfl 27 (by decide) k_8_17 rfl rfl (by decide +kernel) rfl rfl (Nat.le_of_ble_eq_true rfl) rfl d_MM_often_45 (fun H locs hP hS => ?_)
      refine lv_goto (tgt := 192) hx hb d_MM_often_48 (by decide) ?_
      exact f_MM_often_j192_b hE hKy C hDD n x1 (1:Int32) (-1:Int32) tc (NP_mk (NP_nodeKind Np) (NP_nodeA Np) (NP_nodeB Np) (NP_nodeC Np) (NP_nodeNext Np) (NP_low Np) (NP_high Np) (NP_setFrom Np) (NP_setTo Np) (NP_setNot Np) (NP_nodes Np) (NP_sets Np) (NP_ranges Np) ((NP_pat Np) + (1:Int32)) (NP_patEnd Np) (NP_broken Np)) Ni No Nx Nf Na Nh Nq Nj M0 h _ _ _ hP hS (lv_sub hl [3, 4, 0, 1] rfl)
  · replace h := o_tt c1 h
    refine lv_aload_n hx hb d_MM_often_17 rfl (lv_at hl 3 rfl) ?_
    refine lv_dup hx hb d_MM_often_18 rfl ?_
    refine o_get (v := .int (NP_pat Np)) C in_MM hP 0 mw_0 rfl 27 (by decide) k_8_17 rfl rfl d_MM_often_19 ?_
    refine lv_iconst (v := (1:Int32)) hx hb d_MM_often_22 (by decide) ?_
    refine lv_iadd hx hb d_MM_often_23 ?_
    refine o_put (v := .int ((NP_pat Np) + (1:Int32))) (ty := .int) (w1 := (m_cw ad ca ky ty 48 Ni (NP_mk (NP_nodeKind Np) (NP_nodeA Np) (NP_nodeB Np) (NP_nodeC Np) (NP_nodeNext Np) (NP_low Np) (NP_high Np) (NP_setFrom Np) (NP_setTo Np) (NP_setNot Np) (NP_nodes Np) (NP_sets Np) (NP_ranges Np) ((NP_pat Np) + (1:Int32)) (NP_patEnd Np) (NP_broken Np)) No Nx Nf Na Nh Nq Nj M0 tc)) C in_MM t_MM t_MM_ok n_MM hP (hDD _ _ _ _ _ _ _ _ _ _ _ _) hS 0 mw_0 rfl 27 (by decide) k_8_17 rfl rfl (by decide +kernel) rfl rfl (Nat.le_of_ble_eq_true rfl) rfl d_MM_often_24 (fun H locs hP hS => ?_)
    refine lv_goto (tgt := 192) hx hb d_MM_often_27 (by decide) ?_
    exact f_MM_often_j192_b hE hKy C hDD n x1 (0:Int32) (-1:Int32) tc (NP_mk (NP_nodeKind Np) (NP_nodeA Np) (NP_nodeB Np) (NP_nodeC Np) (NP_nodeNext Np) (NP_low Np) (NP_high Np) (NP_setFrom Np) (NP_setTo Np) (NP_setNot Np) (NP_nodes Np) (NP_sets Np) (NP_ranges Np) ((NP_pat Np) + (1:Int32)) (NP_patEnd Np) (NP_broken Np)) Ni No Nx Nf Na Nh Nq Nj M0 h _ _ _ hP hS (lv_sub hl [3, 4, 1, 0] rfl)
set_option maxHeartbeats 4000000 in
set_option maxRecDepth 100000 in
theorem f_MM_one_j40_a {E : (Nat → Prop) → State → Heap → Prop} {p : Program} {l : Launch} {e : Env} {s : State} {m : MethodId} {args : Array Value} {below : List Frame} {meth : Method} {c : Code} {D : va_G} {ad kd sd vd xd : Nat → Nat} {ca : Nat → ClassId} {A : Nat → Prop} {ky ty : Nat → Option Nat} (hE : o_EK E kd sd vd xd) (hKy : m_KY ky ty sd) (C : o_Cx E p s m args meth c D m_cls (m_tys ca) "SchemaJudgeModel" b_MM_one (some .int) 6 cc_MM_one A) (hDD : ∀ (rt : Nat) (Ni : SNI) (Np : SNP) (No : SNO) (Nx : SNX) (Nf : SNF) (Na : SNA) (Nh : SNH) (Nq : SNQ) (Nj : SNJ) (M0 : SMT) (M1 : SMT), va_D A (m_cw ad ca ky ty rt Ni Np No Nx Nf Na Nh Nq Nj M0 M1)) (d : Nat) (rec : Int32 → SMT → SNP → Option (Int32 × SNP)) (hrec : ∀ (x1 : Int32) (tc : SMT) (Np : SNP) (Ni : SNI) (No : SNO) (Nx : SNX) (Nf : SNF) (Na : SNA) (Nh : SNH) (Nq : SNQ) (Nj : SNJ) (M1 : SMT) (r : Int32 × SNP), rec x1 tc Np = some r → o_Cn E l D m_cls (m_tys ca) y_MM_ways cc_MM_ways (rm_MM_ways d) [.ref (ad 0), .int x1] (m_cw ad ca ky ty 33 Ni Np No Nx Nf Na Nh Nq Nj tc M1) (m_cw ad ca ky ty 33 Ni r.2 No Nx Nf Na Nh Nq Nj tc M1) (some (.int r.1))) (n : Nat) (y1 : Int32) (tc : SMT) (Np : SNP) (Ni : SNI) (No : SNO) (Nx : SNX) (Nf : SNF) (Na : SNA) (Nh : SNH) (Nq : SNQ) (Nj : SNJ) (M1 : SMT) {r : Int32 × SNP} (h : m_MM_one_j40 n rec y1 tc Np = some r) : o_At p l e (rm_MM_one d) s m args below meth c (MQ below (o_Qx D m_cls (some (.int r.1)) (m_cw ad ca ky ty 33 Ni r.2 No Nx Nf Na Nh Nq Nj tc M1) A) args s 0 0 A) m_cls D A 6 40 [.int y1, .ref (ad 0)] (m_cw ad ca ky ty 33 Ni Np No Nx Nf Na Nh Nq Nj tc M1) [] := by
  unfold m_MM_one_j40 at h
  intro H locs ls hP hS hl
  have C0 := C
  obtain ⟨hx, hb, -, -, -, hown, hts, hK, -, -⟩ := C0
  refine lv_iconst (v := (0:Int32)) hx hb d_MM_one_40 (by decide) ?_
  obtain ⟨q2, hq2, h⟩ := o_bd_some h
  refine o_V (st1 := [.int q2.1]) (w1 := (m_cw ad ca ky ty 33 Ni q2.2 No Nx Nf Na Nh Nq Nj tc M1)) hE.1 C (e_MM_node hE hKy l y1 (0:Int32) Np Ni No Nx Nf Na Nh Nq Nj tc M1 33 hq2) hP (hDD _ _ _ _ _ _ _ _ _ _ _ _) hS hl.1 rfl mw_0 k_9_62 k_9_64 k_s_87 k_1_12 k_9_65 hv_MM_node rfl rfl ⟨(by dsimp only [rm_MM_one, rm_MM_node]; omega), (by dsimp only [rm_MM_one, rm_MM_node]; omega)⟩ rfl (Nat.le_of_ble_eq_true rfl) ⟨Nat.zero_le _, Nat.zero_le _⟩ rfl d_MM_one_41 (fun H locs hP hS => ?_)
  cases h
  exact o_ri C hP hS d_MM_one_44
set_option maxHeartbeats 4000000 in
set_option maxRecDepth 100000 in
theorem f_MM_one_j18_a {E : (Nat → Prop) → State → Heap → Prop} {p : Program} {l : Launch} {e : Env} {s : State} {m : MethodId} {args : Array Value} {below : List Frame} {meth : Method} {c : Code} {D : va_G} {ad kd sd vd xd : Nat → Nat} {ca : Nat → ClassId} {A : Nat → Prop} {ky ty : Nat → Option Nat} (hE : o_EK E kd sd vd xd) (hKy : m_KY ky ty sd) (C : o_Cx E p s m args meth c D m_cls (m_tys ca) "SchemaJudgeModel" b_MM_one (some .int) 6 cc_MM_one A) (hDD : ∀ (rt : Nat) (Ni : SNI) (Np : SNP) (No : SNO) (Nx : SNX) (Nf : SNF) (Na : SNA) (Nh : SNH) (Nq : SNQ) (Nj : SNJ) (M0 : SMT) (M1 : SMT), va_D A (m_cw ad ca ky ty rt Ni Np No Nx Nf Na Nh Nq Nj M0 M1)) (d : Nat) (rec : Int32 → SMT → SNP → Option (Int32 × SNP)) (hrec : ∀ (x1 : Int32) (tc : SMT) (Np : SNP) (Ni : SNI) (No : SNO) (Nx : SNX) (Nf : SNF) (Na : SNA) (Nh : SNH) (Nq : SNQ) (Nj : SNJ) (M1 : SMT) (r : Int32 × SNP), rec x1 tc Np = some r → o_Cn E l D m_cls (m_tys ca) y_MM_ways cc_MM_ways (rm_MM_ways d) [.ref (ad 0), .int x1] (m_cw ad ca ky ty 33 Ni Np No Nx Nf Na Nh Nq Nj tc M1) (m_cw ad ca ky ty 33 Ni r.2 No Nx Nf Na Nh Nq Nj tc M1) (some (.int r.1))) (n : Nat) (x2 : Int32) (tc : SMT) (Np : SNP) (Ni : SNI) (No : SNO) (Nx : SNX) (Nf : SNF) (Na : SNA) (Nh : SNH) (Nq : SNQ) (Nj : SNJ) (M1 : SMT) {r : Int32 × SNP} (h : m_MM_one_j18 n rec x2 tc Np = some r) : o_At p l e (rm_MM_one d) s m args below meth c (MQ below (o_Qx D m_cls (some (.int r.1)) (m_cw ad ca ky ty 33 Ni r.2 No Nx Nf Na Nh Nq Nj tc M1) A) args s 0 0 A) m_cls D A 6 18 [] (m_cw ad ca ky ty 33 Ni Np No Nx Nf Na Nh Nq Nj tc M1) [(0, .ref (ad 0)), (2, .int x2)] := by
  unfold m_MM_one_j18 at h
  intro H locs ls hP hS hl
  have C0 := C
  obtain ⟨hx, hb, -, -, -, hown, hts, hK, -, -⟩ := C0
  refine lv_aload_n hx hb d_MM_one_18 rfl (lv_at hl 0 rfl) ?_
  refine lv_dup hx hb d_MM_one_19 rfl ?_
  refine o_get (v := .int (NP_pat Np)) C in_MM hP 0 mw_0 rfl 27 (by decide) k_8_17 rfl rfl d_MM_one_20 ?_
  refine lv_iconst (v := (1:Int32)) hx hb d_MM_one_23 (by decide) ?_
  refine lv_iadd hx hb d_MM_one_24 ?_
  refine o_put (v := .int ((NP_pat Np) + (1:Int32))) (ty := .int) (w1 := (m_cw ad ca ky ty 33 Ni (NP_mk (NP_nodeKind Np) (NP_nodeA Np) (NP_nodeB Np) (NP_nodeC Np) (NP_nodeNext Np) (NP_low Np) (NP_high Np) (NP_setFrom Np) (NP_setTo Np) (NP_setNot Np) (NP_nodes Np) (NP_sets Np) (NP_ranges Np) ((NP_pat Np) + (1:Int32)) (NP_patEnd Np) (NP_broken Np)) No Nx Nf Na Nh Nq Nj tc M1)) C in_MM t_MM t_MM_ok n_MM hP (hDD _ _ _ _ _ _ _ _ _ _ _ _) hS 0 mw_0 rfl 27 (by decide) k_8_17 rfl rfl (by decide +kernel) rfl rfl (Nat.le_of_ble_eq_true rfl) rfl d_MM_one_25 (fun H locs hP hS => ?_)
  refine lv_aload_n hx hb d_MM_one_28 rfl (lv_at hl 0 rfl) ?_
  refine lv_iload_n hx hb d_MM_one_29 rfl (lv_at hl 1 rfl) ?_
  refine lv_bipush (v := (94:Int32)) hx hb d_MM_one_30 (by decide) ?_
  refine lv_icmp_ne (tgt := 39) hx hb d_MM_one_32 (by decide) (fun c2 => ?_) (fun c2 => ?_)
  · replace h := o_ff c2 h
    refine lv_iconst (v := (3:Int32)) hx hb d_MM_one_39 (by decide) ?_
    exact f_MM_one_j40_a hE hKy C hDD d rec hrec n (3:Int32) tc (NP_mk (NP_nodeKind Np) (NP_nodeA Np) (NP_nodeB Np) (NP_nodeC Np) (NP_nodeNext Np) (NP_low Np) (NP_high Np) (NP_setFrom Np) (NP_setTo Np) (NP_setNot Np) (NP_nodes Np) (NP_sets Np) (NP_ranges Np) ((NP_pat Np) + (1:Int32)) (NP_patEnd Np) (NP_broken Np)) Ni No Nx Nf Na Nh Nq Nj M1 h _ _ _ hP hS (lv_sub hl [] rfl)
  · replace h := o_tt c2 h
    refine lv_iconst (v := (2:Int32)) hx hb d_MM_one_35 (by decide) ?_
    refine lv_goto (tgt := 40) hx hb d_MM_one_36 (by decide) ?_
    exact f_MM_one_j40_a hE hKy C hDD d rec hrec n (2:Int32) tc (NP_mk (NP_nodeKind Np) (NP_nodeA Np) (NP_nodeB Np) (NP_nodeC Np) (NP_nodeNext Np) (NP_low Np) (NP_high Np) (NP_setFrom Np) (NP_setTo Np) (NP_setNot Np) (NP_nodes Np) (NP_sets Np) (NP_ranges Np) ((NP_pat Np) + (1:Int32)) (NP_patEnd Np) (NP_broken Np)) Ni No Nx Nf Na Nh Nq Nj M1 h _ _ _ hP hS (lv_sub hl [] rfl)
set_option maxHeartbeats 4000000 in
set_option maxRecDepth 100000 in
theorem f_MM_one_j313_a {E : (Nat → Prop) → State → Heap → Prop} {p : Program} {l : Launch} {e : Env} {s : State} {m : MethodId} {args : Array Value} {below : List Frame} {meth : Method} {c : Code} {D : va_G} {ad kd sd vd xd : Nat → Nat} {ca : Nat → ClassId} {A : Nat → Prop} {ky ty : Nat → Option Nat} (hE : o_EK E kd sd vd xd) (hKy : m_KY ky ty sd) (C : o_Cx E p s m args meth c D m_cls (m_tys ca) "SchemaJudgeModel" b_MM_one (some .int) 6 cc_MM_one A) (hDD : ∀ (rt : Nat) (Ni : SNI) (Np : SNP) (No : SNO) (Nx : SNX) (Nf : SNF) (Na : SNA) (Nh : SNH) (Nq : SNQ) (Nj : SNJ) (M0 : SMT) (M1 : SMT), va_D A (m_cw ad ca ky ty rt Ni Np No Nx Nf Na Nh Nq Nj M0 M1)) (d : Nat) (rec : Int32 → SMT → SNP → Option (Int32 × SNP)) (hrec : ∀ (x1 : Int32) (tc : SMT) (Np : SNP) (Ni : SNI) (No : SNO) (Nx : SNX) (Nf : SNF) (Na : SNA) (Nh : SNH) (Nq : SNQ) (Nj : SNJ) (M1 : SMT) (r : Int32 × SNP), rec x1 tc Np = some r → o_Cn E l D m_cls (m_tys ca) y_MM_ways cc_MM_ways (rm_MM_ways d) [.ref (ad 0), .int x1] (m_cw ad ca ky ty 33 Ni Np No Nx Nf Na Nh Nq Nj tc M1) (m_cw ad ca ky ty 33 Ni r.2 No Nx Nf Na Nh Nq Nj tc M1) (some (.int r.1))) (n : Nat)  (tc : SMT) (Np : SNP) (Ni : SNI) (No : SNO) (Nx : SNX) (Nf : SNF) (Na : SNA) (Nh : SNH) (Nq : SNQ) (Nj : SNJ) (M1 : SMT) {r : Int32 × SNP} (h : m_MM_one_j313 n rec tc Np = some r) : o_At p l e (rm_MM_one d) s m args below meth c (MQ below (o_Qx D m_cls (some (.int r.1)) (m_cw ad ca ky ty 33 Ni r.2 No Nx Nf Na Nh Nq Nj tc M1) A) args s 0 0 A) m_cls D A 6 313 [] (m_cw ad ca ky ty 33 Ni Np No Nx Nf Na Nh Nq Nj tc M1) [(0, .ref (ad 0))] := by
  unfold m_MM_one_j313 at h
  intro H locs ls hP hS hl
  have C0 := C
  obtain ⟨hx, hb, -, -, -, hown, hts, hK, -, -⟩ := C0
  refine lv_aload_n hx hb d_MM_one_313 rfl (lv_at hl 0 rfl) ?_
  obtain ⟨q3, hq3, h⟩ := o_bd_some h
  refine o_V (st1 := [.int q3.1]) (w1 := (m_cw ad ca ky ty 33 Ni q3.2 No Nx Nf Na Nh Nq Nj tc M1)) hE.1 C (e_MM_no hE hKy l Np Ni No Nx Nf Na Nh Nq Nj tc M1 33 hq3) hP (hDD _ _ _ _ _ _ _ _ _ _ _ _) hS hl.1 rfl mw_0 k_9_78 k_9_80 k_s_91 k_1_12 k_9_81 hv_MM_no rfl rfl ⟨(by dsimp only [rm_MM_one, rm_MM_no]; omega), (by dsimp only [rm_MM_one, rm_MM_no]; omega)⟩ rfl (Nat.le_of_ble_eq_true rfl) ⟨Nat.zero_le _, Nat.zero_le _⟩ rfl d_MM_one_314 (fun H locs hP hS => ?_)
  cases h
  exact o_ri C hP hS d_MM_one_317
set_option maxHeartbeats 4000000 in
set_option maxRecDepth 100000 in
theorem f_MM_one_j348_a {E : (Nat → Prop) → State → Heap → Prop} {p : Program} {l : Launch} {e : Env} {s : State} {m : MethodId} {args : Array Value} {below : List Frame} {meth : Method} {c : Code} {D : va_G} {ad kd sd vd xd : Nat → Nat} {ca : Nat → ClassId} {A : Nat → Prop} {ky ty : Nat → Option Nat} (hE : o_EK E kd sd vd xd) (hKy : m_KY ky ty sd) (C : o_Cx E p s m args meth c D m_cls (m_tys ca) "SchemaJudgeModel" b_MM_one (some .int) 6 cc_MM_one A) (hDD : ∀ (rt : Nat) (Ni : SNI) (Np : SNP) (No : SNO) (Nx : SNX) (Nf : SNF) (Na : SNA) (Nh : SNH) (Nq : SNQ) (Nj : SNJ) (M0 : SMT) (M1 : SMT), va_D A (m_cw ad ca ky ty rt Ni Np No Nx Nf Na Nh Nq Nj M0 M1)) (d : Nat) (rec : Int32 → SMT → SNP → Option (Int32 × SNP)) (hrec : ∀ (x1 : Int32) (tc : SMT) (Np : SNP) (Ni : SNI) (No : SNO) (Nx : SNX) (Nf : SNF) (Na : SNA) (Nh : SNH) (Nq : SNQ) (Nj : SNJ) (M1 : SMT) (r : Int32 × SNP), rec x1 tc Np = some r → o_Cn E l D m_cls (m_tys ca) y_MM_ways cc_MM_ways (rm_MM_ways d) [.ref (ad 0), .int x1] (m_cw ad ca ky ty 33 Ni Np No Nx Nf Na Nh Nq Nj tc M1) (m_cw ad ca ky ty 33 Ni r.2 No Nx Nf Na Nh Nq Nj tc M1) (some (.int r.1))) (n : Nat) (x3 : Int32) (tc : SMT) (Np : SNP) (Ni : SNI) (No : SNO) (Nx : SNX) (Nf : SNF) (Na : SNA) (Nh : SNH) (Nq : SNQ) (Nj : SNJ) (M1 : SMT) {r : Int32 × SNP} (h : m_MM_one_j348 n rec x3 tc Np = some r) : o_At p l e (rm_MM_one d) s m args below meth c (MQ below (o_Qx D m_cls (some (.int r.1)) (m_cw ad ca ky ty 33 Ni r.2 No Nx Nf Na Nh Nq Nj tc M1) A) args s 0 0 A) m_cls D A 6 348 [] (m_cw ad ca ky ty 33 Ni Np No Nx Nf Na Nh Nq Nj tc M1) [(0, .ref (ad 0)), (3, .int x3)] := by
  unfold m_MM_one_j348 at h
  intro H locs ls hP hS hl
  have C0 := C
  obtain ⟨hx, hb, -, -, -, hown, hts, hK, -, -⟩ := C0
  refine lv_aload_n hx hb d_MM_one_348 rfl (lv_at hl 0 rfl) ?_
  refine o_get (v := .int (NP_broken Np)) C in_MM hP 0 mw_0 rfl 32 (by decide) k_8_22 rfl rfl d_MM_one_349 ?_
  refine lv_if_eq (tgt := 359) hx hb d_MM_one_352 (by decide) (fun c15 => ?_) (fun c15 => ?_)
  · replace h := o_tt c15 h
    refine lv_aload_n hx hb d_MM_one_359 rfl (lv_at hl 0 rfl) ?_
    refine lv_iload_n hx hb d_MM_one_360 rfl (lv_at hl 1 rfl) ?_
    obtain ⟨q7, hq7, h⟩ := o_bd_some h
    refine o_V (st1 := [.int q7.1]) (w1 := (m_cw ad ca ky ty 33 Ni q7.2 No Nx Nf Na Nh Nq Nj tc M1)) hE.1 C (e_MM_often_a hE hKy l n x3 tc Np Ni No Nx Nf Na Nh Nq Nj M1 hq7) hP (hDD _ _ _ _ _ _ _ _ _ _ _ _) hS hl.1 rfl mw_0 k_9_121 k_9_123 k_s_101 k_1_12 k_9_124 hv_MM_often rfl rfl ⟨(by dsimp only [rm_MM_one, rm_MM_often]; omega), (by dsimp only [rm_MM_one, rm_MM_often]; omega)⟩ rfl (Nat.le_of_ble_eq_true rfl) ⟨Nat.zero_le _, Nat.zero_le _⟩ rfl d_MM_one_361 (fun H locs hP hS => ?_)
    cases h
    exact o_ri C hP hS d_MM_one_364
  · replace h := o_ff c15 h
    refine lv_iload_n hx hb d_MM_one_355 rfl (lv_at hl 1 rfl) ?_
    refine lv_goto (tgt := 364) hx hb d_MM_one_356 (by decide) ?_
    cases h
    exact o_ri C hP hS d_MM_one_364
set_option maxHeartbeats 4000000 in
set_option maxRecDepth 100000 in
theorem f_MM_one_j201_a {E : (Nat → Prop) → State → Heap → Prop} {p : Program} {l : Launch} {e : Env} {s : State} {m : MethodId} {args : Array Value} {below : List Frame} {meth : Method} {c : Code} {D : va_G} {ad kd sd vd xd : Nat → Nat} {ca : Nat → ClassId} {A : Nat → Prop} {ky ty : Nat → Option Nat} (hE : o_EK E kd sd vd xd) (hKy : m_KY ky ty sd) (C : o_Cx E p s m args meth c D m_cls (m_tys ca) "SchemaJudgeModel" b_MM_one (some .int) 6 cc_MM_one A) (hDD : ∀ (rt : Nat) (Ni : SNI) (Np : SNP) (No : SNO) (Nx : SNX) (Nf : SNF) (Na : SNA) (Nh : SNH) (Nq : SNQ) (Nj : SNJ) (M0 : SMT) (M1 : SMT), va_D A (m_cw ad ca ky ty rt Ni Np No Nx Nf Na Nh Nq Nj M0 M1)) (d : Nat) (rec : Int32 → SMT → SNP → Option (Int32 × SNP)) (hrec : ∀ (x1 : Int32) (tc : SMT) (Np : SNP) (Ni : SNI) (No : SNO) (Nx : SNX) (Nf : SNF) (Na : SNA) (Nh : SNH) (Nq : SNQ) (Nj : SNJ) (M1 : SMT) (r : Int32 × SNP), rec x1 tc Np = some r → o_Cn E l D m_cls (m_tys ca) y_MM_ways cc_MM_ways (rm_MM_ways d) [.ref (ad 0), .int x1] (m_cw ad ca ky ty 33 Ni Np No Nx Nf Na Nh Nq Nj tc M1) (m_cw ad ca ky ty 33 Ni r.2 No Nx Nf Na Nh Nq Nj tc M1) (some (.int r.1))) (n : Nat) (x4 : Int32) (tc : SMT) (Np : SNP) (Ni : SNI) (No : SNO) (Nx : SNX) (Nf : SNF) (Na : SNA) (Nh : SNH) (Nq : SNQ) (Nj : SNJ) (M1 : SMT) {r : Int32 × SNP} (h : m_MM_one_j201 n rec x4 tc Np = some r) : o_At p l e (rm_MM_one d) s m args below meth c (MQ below (o_Qx D m_cls (some (.int r.1)) (m_cw ad ca ky ty 33 Ni r.2 No Nx Nf Na Nh Nq Nj tc M1) A) args s 0 0 A) m_cls D A 6 201 [] (m_cw ad ca ky ty 33 Ni Np No Nx Nf Na Nh Nq Nj tc M1) [(0, .ref (ad 0)), (4, .int x4)] := by
  unfold m_MM_one_j201 at h
  intro H locs ls hP hS hl
  have C0 := C
  obtain ⟨hx, hb, -, -, -, hown, hts, hK, -, -⟩ := C0
  refine lv_aload_n hx hb d_MM_one_201 rfl (lv_at hl 0 rfl) ?_
  refine lv_iload hx hb d_MM_one_202 (lv_at hl 1 rfl) ?_
  refine lv_iconst (v := (0:Int32)) hx hb d_MM_one_204 (by decide) ?_
  obtain ⟨q15, hq15, h⟩ := o_bd_some h
  refine o_V (st1 := [.int q15.1]) (w1 := (m_cw ad ca ky ty 33 Ni q15.2 No Nx Nf Na Nh Nq Nj tc M1)) hE.1 C (e_MM_close hE hKy l x4 (0:Int32) Np Ni No Nx Nf Na Nh Nq Nj tc M1 33 hq15) hP (hDD _ _ _ _ _ _ _ _ _ _ _ _) hS hl.1 rfl mw_0 k_9_117 k_9_119 k_s_100 k_1_12 k_9_120 hv_MM_close rfl rfl ⟨(by dsimp only [rm_MM_one, rm_MM_close]; omega), (by dsimp only [rm_MM_one, rm_MM_close]; omega)⟩ rfl (Nat.le_of_ble_eq_true rfl) ⟨Nat.zero_le _, Nat.zero_le _⟩ rfl d_MM_one_205 (fun H locs hP hS => ?_)
  refine lv_istore_n (lv' := [(3, .int q15.1), (0, .ref (ad 0)), (4, .int x4)]) hx hb d_MM_one_208 rfl hl (by decide) rfl (fun ls hl => ?_)
  refine lv_goto (tgt := 348) hx hb d_MM_one_209 (by decide) ?_
  exact f_MM_one_j348_a hE hKy C hDD d rec hrec n q15.1 tc q15.2 Ni No Nx Nf Na Nh Nq Nj M1 h _ _ _ hP hS (lv_sub hl [1, 0] rfl)
set_option maxHeartbeats 4000000 in
set_option maxRecDepth 100000 in
theorem f_MM_one_j127_a {E : (Nat → Prop) → State → Heap → Prop} {p : Program} {l : Launch} {e : Env} {s : State} {m : MethodId} {args : Array Value} {below : List Frame} {meth : Method} {c : Code} {D : va_G} {ad kd sd vd xd : Nat → Nat} {ca : Nat → ClassId} {A : Nat → Prop} {ky ty : Nat → Option Nat} (hE : o_EK E kd sd vd xd) (hKy : m_KY ky ty sd) (C : o_Cx E p s m args meth c D m_cls (m_tys ca) "SchemaJudgeModel" b_MM_one (some .int) 6 cc_MM_one A) (hDD : ∀ (rt : Nat) (Ni : SNI) (Np : SNP) (No : SNO) (Nx : SNX) (Nf : SNF) (Na : SNA) (Nh : SNH) (Nq : SNQ) (Nj : SNJ) (M0 : SMT) (M1 : SMT), va_D A (m_cw ad ca ky ty rt Ni Np No Nx Nf Na Nh Nq Nj M0 M1)) (d : Nat) (rec : Int32 → SMT → SNP → Option (Int32 × SNP)) (hrec : ∀ (x1 : Int32) (tc : SMT) (Np : SNP) (Ni : SNI) (No : SNO) (Nx : SNX) (Nf : SNF) (Na : SNA) (Nh : SNH) (Nq : SNQ) (Nj : SNJ) (M1 : SMT) (r : Int32 × SNP), rec x1 tc Np = some r → o_Cn E l D m_cls (m_tys ca) y_MM_ways cc_MM_ways (rm_MM_ways d) [.ref (ad 0), .int x1] (m_cw ad ca ky ty 33 Ni Np No Nx Nf Na Nh Nq Nj tc M1) (m_cw ad ca ky ty 33 Ni r.2 No Nx Nf Na Nh Nq Nj tc M1) (some (.int r.1))) (n : Nat)  (tc : SMT) (Np : SNP) (Ni : SNI) (No : SNO) (Nx : SNX) (Nf : SNF) (Na : SNA) (Nh : SNH) (Nq : SNQ) (Nj : SNJ) (M1 : SMT) {r : Int32 × SNP} (h : m_MM_one_j127 n rec tc Np = some r) : o_At p l e (rm_MM_one d) s m args below meth c (MQ below (o_Qx D m_cls (some (.int r.1)) (m_cw ad ca ky ty 33 Ni r.2 No Nx Nf Na Nh Nq Nj tc M1) A) args s 0 0 A) m_cls D A 6 127 [] (m_cw ad ca ky ty 33 Ni Np No Nx Nf Na Nh Nq Nj tc M1) [(0, .ref (ad 0))] := by
  unfold m_MM_one_j127 at h
  intro H locs ls hP hS hl
  have C0 := C
  obtain ⟨hx, hb, -, -, -, hown, hts, hK, -, -⟩ := C0
  refine lv_aload_n hx hb d_MM_one_127 rfl (lv_at hl 0 rfl) ?_
  obtain ⟨q20, hq20, h⟩ := o_bd_some h
  refine o_V (st1 := [.int q20.1]) (w1 := (m_cw ad ca ky ty 33 Ni q20.2 No Nx Nf Na Nh Nq Nj tc M1)) hE.1 C (e_MM_no hE hKy l Np Ni No Nx Nf Na Nh Nq Nj tc M1 33 hq20) hP (hDD _ _ _ _ _ _ _ _ _ _ _ _) hS hl.1 rfl mw_0 k_9_78 k_9_80 k_s_91 k_1_12 k_9_81 hv_MM_no rfl rfl ⟨(by dsimp only [rm_MM_one, rm_MM_no]; omega), (by dsimp only [rm_MM_one, rm_MM_no]; omega)⟩ rfl (Nat.le_of_ble_eq_true rfl) ⟨Nat.zero_le _, Nat.zero_le _⟩ rfl d_MM_one_128 (fun H locs hP hS => ?_)
  cases h
  exact o_ri C hP hS d_MM_one_131
set_option maxHeartbeats 4000000 in
set_option maxRecDepth 100000 in
theorem f_MM_one_j102_a {E : (Nat → Prop) → State → Heap → Prop} {p : Program} {l : Launch} {e : Env} {s : State} {m : MethodId} {args : Array Value} {below : List Frame} {meth : Method} {c : Code} {D : va_G} {ad kd sd vd xd : Nat → Nat} {ca : Nat → ClassId} {A : Nat → Prop} {ky ty : Nat → Option Nat} (hE : o_EK E kd sd vd xd) (hKy : m_KY ky ty sd) (C : o_Cx E p s m args meth c D m_cls (m_tys ca) "SchemaJudgeModel" b_MM_one (some .int) 6 cc_MM_one A) (hDD : ∀ (rt : Nat) (Ni : SNI) (Np : SNP) (No : SNO) (Nx : SNX) (Nf : SNF) (Na : SNA) (Nh : SNH) (Nq : SNQ) (Nj : SNJ) (M0 : SMT) (M1 : SMT), va_D A (m_cw ad ca ky ty rt Ni Np No Nx Nf Na Nh Nq Nj M0 M1)) (d : Nat) (rec : Int32 → SMT → SNP → Option (Int32 × SNP)) (hrec : ∀ (x1 : Int32) (tc : SMT) (Np : SNP) (Ni : SNI) (No : SNO) (Nx : SNX) (Nf : SNF) (Na : SNA) (Nh : SNH) (Nq : SNQ) (Nj : SNJ) (M1 : SMT) (r : Int32 × SNP), rec x1 tc Np = some r → o_Cn E l D m_cls (m_tys ca) y_MM_ways cc_MM_ways (rm_MM_ways d) [.ref (ad 0), .int x1] (m_cw ad ca ky ty 33 Ni Np No Nx Nf Na Nh Nq Nj tc M1) (m_cw ad ca ky ty 33 Ni r.2 No Nx Nf Na Nh Nq Nj tc M1) (some (.int r.1))) (n : Nat) (x1 : Int32) (tc : SMT) (Np : SNP) (Ni : SNI) (No : SNO) (Nx : SNX) (Nf : SNF) (Na : SNA) (Nh : SNH) (Nq : SNQ) (Nj : SNJ) (M1 : SMT) {r : Int32 × SNP} (h : m_MM_one_j102 n rec x1 tc Np = some r) : o_At p l e (rm_MM_one d) s m args below meth c (MQ below (o_Qx D m_cls (some (.int r.1)) (m_cw ad ca ky ty 33 Ni r.2 No Nx Nf Na Nh Nq Nj tc M1) A) args s 0 0 A) m_cls D A 6 102 [] (m_cw ad ca ky ty 33 Ni Np No Nx Nf Na Nh Nq Nj tc M1) [(0, .ref (ad 0)), (1, .int x1)] := by
  unfold m_MM_one_j102 at h
  intro H locs ls hP hS hl
  have C0 := C
  obtain ⟨hx, hb, -, -, -, hown, hts, hK, -, -⟩ := C0
  refine lv_aload_n hx hb d_MM_one_102 rfl (lv_at hl 0 rfl) ?_
  refine lv_iload_n hx hb d_MM_one_103 rfl (lv_at hl 1 rfl) ?_
  refine lv_iconst (v := (1:Int32)) hx hb d_MM_one_104 (by decide) ?_
  refine lv_iadd hx hb d_MM_one_105 ?_
  obtain ⟨q19, hq19, h⟩ := o_bd_some h
  refine o_V (st1 := [.int q19.1]) (w1 := (m_cw ad ca ky ty 33 Ni q19.2 No Nx Nf Na Nh Nq Nj tc M1)) hE.1 C (hrec (x1 + (1:Int32)) tc Np Ni No Nx Nf Na Nh Nq Nj M1 _ hq19) hP (hDD _ _ _ _ _ _ _ _ _ _ _ _) hS hl.1 rfl mw_0 k_9_58 k_9_60 k_s_86 k_1_12 k_9_61 hv_MM_ways rfl rfl ⟨(by dsimp only [rm_MM_one, rm_MM_ways]; omega), (by dsimp only [rm_MM_one, rm_MM_ways]; omega)⟩ rfl (Nat.le_of_ble_eq_true rfl) ⟨Nat.zero_le _, Nat.zero_le _⟩ rfl d_MM_one_106 (fun H locs hP hS => ?_)
  refine lv_istore_n (lv' := [(3, .int q19.1), (0, .ref (ad 0)), (1, .int x1)]) hx hb d_MM_one_109 rfl hl (by decide) rfl (fun ls hl => ?_)
  refine lv_aload_n hx hb d_MM_one_110 rfl (lv_at hl 1 rfl) ?_
  refine o_get (v := .int (NP_broken q19.2)) C in_MM hP 0 mw_0 rfl 32 (by decide) k_8_22 rfl rfl d_MM_one_111 ?_
  refine lv_if_ne (tgt := 127) hx hb d_MM_one_114 (by decide) (fun c19 => ?_) (fun c19 => ?_)
  · replace h := o_ff c19 h
    exact f_MM_one_j127_a hE hKy C hDD d rec hrec n tc q19.2 Ni No Nx Nf Na Nh Nq Nj M1 h _ _ _ hP hS (lv_sub hl [1] rfl)
  · replace h := o_tt c19 h
    refine lv_aload_n hx hb d_MM_one_117 rfl (lv_at hl 1 rfl) ?_
    refine lv_iconst (v := (0:Int32)) hx hb d_MM_one_118 (by decide) ?_
    obtain ⟨q21, hq21, h⟩ := o_bd_some h
    refine o_V (st1 := [.int q21]) (w1 := (m_cw ad ca ky ty 33 Ni q19.2 No Nx Nf Na Nh Nq Nj tc M1)) hE.1 C (e_MM_p_a hE hKy l (0:Int32) tc q19.2 Ni No Nx Nf Na Nh Nq Nj M1 hq21) hP (hDD _ _ _ _ _ _ _ _ _ _ _ _) hS hl.1 rfl mw_0 k_9_70 k_9_72 k_s_89 k_1_12 k_9_73 hv_MM_p rfl rfl ⟨(by dsimp only [rm_MM_one, rm_MM_p]; omega), (by dsimp only [rm_MM_one, rm_MM_p]; omega)⟩ rfl (Nat.le_of_ble_eq_true rfl) ⟨Nat.zero_le _, Nat.zero_le _⟩ rfl d_MM_one_119 (fun H locs hP hS => ?_)
    refine lv_bipush (v := (41:Int32)) hx hb d_MM_one_122 (by decide) ?_
    refine lv_icmp_eq (tgt := 132) hx hb d_MM_one_124 (by decide) (fun c20 => ?_) (fun c20 => ?_)
    · replace h := o_tt c20 h
      refine lv_aload_n hx hb d_MM_one_132 rfl (lv_at hl 1 rfl) ?_
      refine lv_dup hx hb d_MM_one_133 rfl ?_
      refine o_get (v := .int (NP_pat q19.2)) C in_MM hP 0 mw_0 rfl 27 (by decide) k_8_17 rfl rfl d_MM_one_134 ?_
      refine lv_iconst (v := (1:Int32)) hx hb d_MM_one_137 (by decide) ?_
      refine lv_iadd hx hb d_MM_one_138 ?_
      refine o_put (v := .int ((NP_pat q19.2) + (1:Int32))) (ty := .int) (w1 := (m_cw ad ca ky ty 33 Ni (NP_mk (NP_nodeKind q19.2) (NP_nodeA q19.2) (NP_nodeB q19.2) (NP_nodeC q19.2) (NP_nodeNext q19.2) (NP_low q19.2) (NP_high q19.2) (NP_setFrom q19.2) (NP_setTo q19.2) (NP_setNot q19.2) (NP_nodes q19.2) (NP_sets q19.2) (NP_ranges q19.2) ((NP_pat q19.2) + (1:Int32)) (NP_patEnd q19.2) (NP_broken q19.2)) No Nx Nf Na Nh Nq Nj tc M1)) C in_MM t_MM t_MM_ok n_MM hP (hDD _ _ _ _ _ _ _ _ _ _ _ _) hS 0 mw_0 rfl 27 (by decide) k_8_17 rfl rfl (by decide +kernel) rfl rfl (Nat.le_of_ble_eq_true rfl) rfl d_MM_one_139 (fun H locs hP hS => ?_)
      refine lv_goto (tgt := 348) hx hb d_MM_one_142 (by decide) ?_
      exact f_MM_one_j348_a hE hKy C hDD d rec hrec n q19.1 tc (NP_mk (NP_nodeKind q19.2) (NP_nodeA q19.2) (NP_nodeB q19.2) (NP_nodeC q19.2) (NP_nodeNext q19.2) (NP_low q19.2) (NP_high q19.2) (NP_setFrom q19.2) (NP_setTo q19.2) (NP_setNot q19.2) (NP_nodes q19.2) (NP_sets q19.2) (NP_ranges q19.2) ((NP_pat q19.2) + (1:Int32)) (NP_patEnd q19.2) (NP_broken q19.2)) Ni No Nx Nf Na Nh Nq Nj M1 h _ _ _ hP hS (lv_sub hl [1, 0] rfl)
    · replace h := o_ff c20 h
      exact f_MM_one_j127_a hE hKy C hDD d rec hrec n tc q19.2 Ni No Nx Nf Na Nh Nq Nj M1 h _ _ _ hP hS (lv_sub hl [1] rfl)
set_option maxHeartbeats 4000000 in
set_option maxRecDepth 100000 in
theorem e_MM_one_a {E : (Nat → Prop) → State → Heap → Prop} {D : va_G} {ad kd sd vd xd : Nat → Nat} {ca : Nat → ClassId} {ky ty : Nat → Option Nat} (hE : o_EK E kd sd vd xd) (hKy : m_KY ky ty sd) (l : Launch) (n : Nat) (d : Nat) (rec : Int32 → SMT → SNP → Option (Int32 × SNP)) (hrec : ∀ (x1 : Int32) (tc : SMT) (Np : SNP) (Ni : SNI) (No : SNO) (Nx : SNX) (Nf : SNF) (Na : SNA) (Nh : SNH) (Nq : SNQ) (Nj : SNJ) (M1 : SMT) (r : Int32 × SNP), rec x1 tc Np = some r → o_Cn E l D m_cls (m_tys ca) y_MM_ways cc_MM_ways (rm_MM_ways d) [.ref (ad 0), .int x1] (m_cw ad ca ky ty 33 Ni Np No Nx Nf Na Nh Nq Nj tc M1) (m_cw ad ca ky ty 33 Ni r.2 No Nx Nf Na Nh Nq Nj tc M1) (some (.int r.1))) (x1 : Int32) (tc : SMT) (Np : SNP) (Ni : SNI) (No : SNO) (Nx : SNX) (Nf : SNF) (Na : SNA) (Nh : SNH) (Nq : SNQ) (Nj : SNJ) (M1 : SMT) {r : Int32 × SNP} (h : m_MM_one n rec x1 tc Np = some r) : o_Cn E l D m_cls (m_tys ca) y_MM_one cc_MM_one (rm_MM_one d) [.ref (ad 0), .int x1] (m_cw ad ca ky ty 33 Ni Np No Nx Nf Na Nh Nq Nj tc M1) (m_cw ad ca ky ty 33 Ni r.2 No Nx Nf Na Nh Nq Nj tc M1) (some (.int r.1)) := by
  refine o_Cn_of (by decide) (Nat.le_of_ble_eq_true rfl) ?_
  intro p e s m below meth c A ls C hD hP hS hl
  have hDD : ∀ (rt : Nat) (Ni : SNI) (Np : SNP) (No : SNO) (Nx : SNX) (Nf : SNF) (Na : SNA) (Nh : SNH) (Nq : SNQ) (Nj : SNJ) (M0 : SMT) (M1 : SMT), va_D A (m_cw ad ca ky ty rt Ni Np No Nx Nf Na Nh Nq Nj M0 M1) := fun _ _ _ _ _ _ _ _ _ _ _ _ => o_D_map hD rfl
  have hl : lv_has ls 6 [(0, .ref (ad 0)), (1, .int x1)] := hl
  unfold m_MM_one at h
  have C0 := C
  obtain ⟨hx, hb, -, -, -, hown, hts, hK, -, -⟩ := C0
  refine lv_aload_n hx hb d_MM_one_0 rfl (lv_at hl 0 rfl) ?_
  refine lv_iconst (v := (0:Int32)) hx hb d_MM_one_1 (by decide) ?_
  obtain ⟨q1, hq1, h⟩ := o_bd_some h
  refine o_V (st1 := [.int q1]) (w1 := (m_cw ad ca ky ty 33 Ni Np No Nx Nf Na Nh Nq Nj tc M1)) hE.1 C (e_MM_p_a hE hKy l (0:Int32) tc Np Ni No Nx Nf Na Nh Nq Nj M1 hq1) hP (hDD _ _ _ _ _ _ _ _ _ _ _ _) hS hl.1 rfl mw_0 k_9_70 k_9_72 k_s_89 k_1_12 k_9_73 hv_MM_p rfl rfl ⟨(by dsimp only [rm_MM_one, rm_MM_p]; omega), (by dsimp only [rm_MM_one, rm_MM_p]; omega)⟩ rfl (Nat.le_of_ble_eq_true rfl) ⟨Nat.zero_le _, Nat.zero_le _⟩ rfl d_MM_one_2 (fun H locs hP hS => ?_)
  refine lv_istore_n (lv' := [(2, .int q1), (0, .ref (ad 0)), (1, .int x1)]) hx hb d_MM_one_5 rfl hl (by decide) rfl (fun ls hl => ?_)
  refine lv_iload_n hx hb d_MM_one_6 rfl (lv_at hl 0 rfl) ?_
  refine lv_bipush (v := (94:Int32)) hx hb d_MM_one_7 (by decide) ?_
  refine lv_icmp_eq (tgt := 18) hx hb d_MM_one_9 (by decide) (fun c1 => ?_) (fun c1 => ?_)
  · replace h := o_tt c1 h
    exact f_MM_one_j18_a hE hKy C hDD d rec hrec n q1 tc Np Ni No Nx Nf Na Nh Nq Nj M1 h _ _ _ hP hS (lv_sub hl [1, 0] rfl)
  · replace h := o_ff c1 h
    refine lv_iload_n hx hb d_MM_one_12 rfl (lv_at hl 0 rfl) ?_
    refine lv_bipush (v := (36:Int32)) hx hb d_MM_one_13 (by decide) ?_
    refine lv_icmp_ne (tgt := 45) hx hb d_MM_one_15 (by decide) (fun c3 => ?_) (fun c3 => ?_)
    · replace h := o_ff c3 h
      refine lv_iload_n hx hb d_MM_one_45 rfl (lv_at hl 0 rfl) ?_
      refine lv_bipush (v := (40:Int32)) hx hb d_MM_one_46 (by decide) ?_
      refine lv_icmp_ne (tgt := 145) hx hb d_MM_one_48 (by decide) (fun c4 => ?_) (fun c4 => ?_)
      · replace h := o_ff c4 h
        refine lv_iload_n hx hb d_MM_one_145 rfl (lv_at hl 0 rfl) ?_
        refine lv_bipush (v := (91:Int32)) hx hb d_MM_one_146 (by decide) ?_
        refine lv_icmp_ne (tgt := 159) hx hb d_MM_one_148 (by decide) (fun c5 => ?_) (fun c5 => ?_)
        · replace h := o_ff c5 h
          refine lv_iload_n hx hb d_MM_one_159 rfl (lv_at hl 0 rfl) ?_
          refine lv_bipush (v := (92:Int32)) hx hb d_MM_one_160 (by decide) ?_
          refine lv_icmp_ne (tgt := 212) hx hb d_MM_one_162 (by decide) (fun c6 => ?_) (fun c6 => ?_)
          · replace h := o_ff c6 h
            refine lv_iload_n hx hb d_MM_one_212 rfl (lv_at hl 0 rfl) ?_
            refine lv_bipush (v := (46:Int32)) hx hb d_MM_one_213 (by decide) ?_
            refine lv_icmp_ne (tgt := 271) hx hb d_MM_one_215 (by decide) (fun c7 => ?_) (fun c7 => ?_)
            · replace h := o_ff c7 h
              refine lv_iload_n hx hb d_MM_one_271 rfl (lv_at hl 0 rfl) ?_
              refine lv_bipush (v := (42:Int32)) hx hb d_MM_one_272 (by decide) ?_
              refine lv_icmp_eq (tgt := 313) hx hb d_MM_one_274 (by decide) (fun c8 => ?_) (fun c8 => ?_)
              · replace h := o_tt c8 h
                exact f_MM_one_j313_a hE hKy C hDD d rec hrec n tc Np Ni No Nx Nf Na Nh Nq Nj M1 h _ _ _ hP hS (lv_sub hl [1] rfl)
              · replace h := o_ff c8 h
                refine lv_iload_n hx hb d_MM_one_277 rfl (lv_at hl 0 rfl) ?_
                refine lv_bipush (v := (43:Int32)) hx hb d_MM_one_278 (by decide) ?_
                refine lv_icmp_eq (tgt := 313) hx hb d_MM_one_280 (by decide) (fun c9 => ?_) (fun c9 => ?_)
                · replace h := o_tt c9 h
                  exact f_MM_one_j313_a hE hKy C hDD d rec hrec n tc Np Ni No Nx Nf Na Nh Nq Nj M1 h _ _ _ hP hS (lv_sub hl [1] rfl)
                · replace h := o_ff c9 h
                  refine lv_iload_n hx hb d_MM_one_283 rfl (lv_at hl 0 rfl) ?_
                  refine lv_bipush (v := (63:Int32)) hx hb d_MM_one_284 (by decide) ?_
                  refine lv_icmp_eq (tgt := 313) hx hb d_MM_one_286 (by decide) (fun c10 => ?_) (fun c10 => ?_)
                  · replace h := o_tt c10 h
                    exact f_MM_one_j313_a hE hKy C hDD d rec hrec n tc Np Ni No Nx Nf Na Nh Nq Nj M1 h _ _ _ hP hS (lv_sub hl [1] rfl)
                  · replace h := o_ff c10 h
                    refine lv_iload_n hx hb d_MM_one_289 rfl (lv_at hl 0 rfl) ?_
                    refine lv_bipush (v := (41:Int32)) hx hb d_MM_one_290 (by decide) ?_
                    refine lv_icmp_eq (tgt := 313) hx hb d_MM_one_292 (by decide) (fun c11 => ?_) (fun c11 => ?_)
                    · replace h := o_tt c11 h
                      exact f_MM_one_j313_a hE hKy C hDD d rec hrec n tc Np Ni No Nx Nf Na Nh Nq Nj M1 h _ _ _ hP hS (lv_sub hl [1] rfl)
                    · replace h := o_ff c11 h
                      refine lv_iload_n hx hb d_MM_one_295 rfl (lv_at hl 0 rfl) ?_
                      refine lv_bipush (v := (93:Int32)) hx hb d_MM_one_296 (by decide) ?_
                      refine lv_icmp_eq (tgt := 313) hx hb d_MM_one_298 (by decide) (fun c12 => ?_) (fun c12 => ?_)
                      · replace h := o_tt c12 h
                        exact f_MM_one_j313_a hE hKy C hDD d rec hrec n tc Np Ni No Nx Nf Na Nh Nq Nj M1 h _ _ _ hP hS (lv_sub hl [1] rfl)
                      · replace h := o_ff c12 h
                        refine lv_iload_n hx hb d_MM_one_301 rfl (lv_at hl 0 rfl) ?_
                        refine lv_bipush (v := (123:Int32)) hx hb d_MM_one_302 (by decide) ?_
                        refine lv_icmp_eq (tgt := 313) hx hb d_MM_one_304 (by decide) (fun c13 => ?_) (fun c13 => ?_)
                        · replace h := o_tt c13 h
                          exact f_MM_one_j313_a hE hKy C hDD d rec hrec n tc Np Ni No Nx Nf Na Nh Nq Nj M1 h _ _ _ hP hS (lv_sub hl [1] rfl)
                        · replace h := o_ff c13 h
                          refine lv_iload_n hx hb d_MM_one_307 rfl (lv_at hl 0 rfl) ?_
                          refine lv_bipush (v := (125:Int32)) hx hb d_MM_one_308 (by decide) ?_
                          refine lv_icmp_ne (tgt := 318) hx hb d_MM_one_310 (by decide) (fun c14 => ?_) (fun c14 => ?_)
                          · replace h := o_ff c14 h
                            refine lv_aload_n hx hb d_MM_one_318 rfl (lv_at hl 1 rfl) ?_
                            refine lv_dup hx hb d_MM_one_319 rfl ?_
                            refine o_get (v := .int (NP_pat Np)) C in_MM hP 0 mw_0 rfl 27 (by decide) k_8_17 rfl rfl d_MM_one_320 ?_
                            refine lv_iconst (v := (1:Int32)) hx hb d_MM_one_323 (by decide) ?_
                            refine lv_iadd hx hb d_MM_one_324 ?_
                            refine o_put (v := .int ((NP_pat Np) + (1:Int32))) (ty := .int) (w1 := (m_cw ad ca ky ty 33 Ni (NP_mk (NP_nodeKind Np) (NP_nodeA Np) (NP_nodeB Np) (NP_nodeC Np) (NP_nodeNext Np) (NP_low Np) (NP_high Np) (NP_setFrom Np) (NP_setTo Np) (NP_setNot Np) (NP_nodes Np) (NP_sets Np) (NP_ranges Np) ((NP_pat Np) + (1:Int32)) (NP_patEnd Np) (NP_broken Np)) No Nx Nf Na Nh Nq Nj tc M1)) C in_MM t_MM t_MM_ok n_MM hP (hDD _ _ _ _ _ _ _ _ _ _ _ _) hS 0 mw_0 rfl 27 (by decide) k_8_17 rfl rfl (by decide +kernel) rfl rfl (Nat.le_of_ble_eq_true rfl) rfl d_MM_one_325 (fun H locs hP hS => ?_)
                            refine lv_aload_n hx hb d_MM_one_328 rfl (lv_at hl 1 rfl) ?_
                            obtain ⟨q4, hq4, h⟩ := o_bd_some h
                            refine o_V (st1 := [.int q4]) (w1 := (m_cw ad ca ky ty 33 Ni (NP_mk (NP_nodeKind Np) (NP_nodeA Np) (NP_nodeB Np) (NP_nodeC Np) (NP_nodeNext Np) (NP_low Np) (NP_high Np) (NP_setFrom Np) (NP_setTo Np) (NP_setNot Np) (NP_nodes Np) (NP_sets Np) (NP_ranges Np) ((NP_pat Np) + (1:Int32)) (NP_patEnd Np) (NP_broken Np)) No Nx Nf Na Nh Nq Nj tc M1)) hE.1 C (e_MM_begin hE hKy l (NP_mk (NP_nodeKind Np) (NP_nodeA Np) (NP_nodeB Np) (NP_nodeC Np) (NP_nodeNext Np) (NP_low Np) (NP_high Np) (NP_setFrom Np) (NP_setTo Np) (NP_setNot Np) (NP_nodes Np) (NP_sets Np) (NP_ranges Np) ((NP_pat Np) + (1:Int32)) (NP_patEnd Np) (NP_broken Np)) Ni No Nx Nf Na Nh Nq Nj tc M1 33 hq4) hP (hDD _ _ _ _ _ _ _ _ _ _ _ _) hS hl.1 rfl mw_0 k_9_86 k_9_88 k_s_93 k_1_12 k_9_89 hv_MM_begin rfl rfl ⟨(by dsimp only [rm_MM_one, rm_MM_begin]; omega), (by dsimp only [rm_MM_one, rm_MM_begin]; omega)⟩ rfl (Nat.le_of_ble_eq_true rfl) ⟨Nat.zero_le _, Nat.zero_le _⟩ rfl d_MM_one_329 (fun H locs hP hS => ?_)
                            refine lv_istore (lv' := [(4, .int q4), (2, .int q1), (0, .ref (ad 0)), (1, .int x1)]) hx hb d_MM_one_332 hl (by decide) rfl (fun ls hl => ?_)
                            refine lv_aload_n hx hb d_MM_one_334 rfl (lv_at hl 2 rfl) ?_
                            refine lv_iload_n hx hb d_MM_one_335 rfl (lv_at hl 1 rfl) ?_
                            refine lv_iload_n hx hb d_MM_one_336 rfl (lv_at hl 1 rfl) ?_
                            obtain ⟨q5, hq5, h⟩ := o_bd_some h
                            refine o_V (st1 := []) (w1 := (m_cw ad ca ky ty 33 Ni q5 No Nx Nf Na Nh Nq Nj tc M1)) hE.1 C (e_MM_range hE hKy l q1 q1 (NP_mk (NP_nodeKind Np) (NP_nodeA Np) (NP_nodeB Np) (NP_nodeC Np) (NP_nodeNext Np) (NP_low Np) (NP_high Np) (NP_setFrom Np) (NP_setTo Np) (NP_setNot Np) (NP_nodes Np) (NP_sets Np) (NP_ranges Np) ((NP_pat Np) + (1:Int32)) (NP_patEnd Np) (NP_broken Np)) Ni No Nx Nf Na Nh Nq Nj tc M1 33 hq5) hP (hDD _ _ _ _ _ _ _ _ _ _ _ _) hS hl.1 rfl mw_0 k_9_102 k_9_104 k_s_97 k_1_12 k_9_105 hv_MM_range rfl rfl ⟨(by dsimp only [rm_MM_one, rm_MM_range]; omega), (by dsimp only [rm_MM_one, rm_MM_range]; omega)⟩ rfl (Nat.le_of_ble_eq_true rfl) ⟨Nat.zero_le _, Nat.zero_le _⟩ rfl d_MM_one_337 (fun H locs hP hS => ?_)
                            refine lv_aload_n hx hb d_MM_one_340 rfl (lv_at hl 2 rfl) ?_
                            refine lv_iload hx hb d_MM_one_341 (lv_at hl 0 rfl) ?_
                            refine lv_iconst (v := (0:Int32)) hx hb d_MM_one_343 (by decide) ?_
                            obtain ⟨q6, hq6, h⟩ := o_bd_some h
                            refine o_V (st1 := [.int q6.1]) (w1 := (m_cw ad ca ky ty 33 Ni q6.2 No Nx Nf Na Nh Nq Nj tc M1)) hE.1 C (e_MM_close hE hKy l q4 (0:Int32) q5 Ni No Nx Nf Na Nh Nq Nj tc M1 33 hq6) hP (hDD _ _ _ _ _ _ _ _ _ _ _ _) hS hl.1 rfl mw_0 k_9_117 k_9_119 k_s_100 k_1_12 k_9_120 hv_MM_close rfl rfl ⟨(by dsimp only [rm_MM_one, rm_MM_close]; omega), (by dsimp only [rm_MM_one, rm_MM_close]; omega)⟩ rfl (Nat.le_of_ble_eq_true rfl) ⟨Nat.zero_le _, Nat.zero_le _⟩ rfl d_MM_one_344 (fun H locs hP hS => ?_)
                            refine lv_istore_n (lv' := [(3, .int q6.1), (4, .int q4), (2, .int q1), (0, .ref (ad 0)), (1, .int x1)]) hx hb d_MM_one_347 rfl hl (by decide) rfl (fun ls hl => ?_)
                            exact f_MM_one_j348_a hE hKy C hDD d rec hrec n q6.1 tc q6.2 Ni No Nx Nf Na Nh Nq Nj M1 h _ _ _ hP hS (lv_sub hl [3, 0] rfl)
                          · replace h := o_tt c14 h
                            exact f_MM_one_j313_a hE hKy C hDD d rec hrec n tc Np Ni No Nx Nf Na Nh Nq Nj M1 h _ _ _ hP hS (lv_sub hl [1] rfl)
            · replace h := o_tt c7 h
              refine lv_aload_n hx hb d_MM_one_218 rfl (lv_at hl 1 rfl) ?_
              refine lv_dup hx hb d_MM_one_219 rfl ?_
              refine o_get (v := .int (NP_pat Np)) C in_MM hP 0 mw_0 rfl 27 (by decide) k_8_17 rfl rfl d_MM_one_220 ?_
              refine lv_iconst (v := (1:Int32)) hx hb d_MM_one_223 (by decide) ?_
              refine lv_iadd hx hb d_MM_one_224 ?_
              refine o_put (v := .int ((NP_pat Np) + (1:Int32))) (ty := .int) (w1 := (m_cw ad ca ky ty 33 Ni (NP_mk (NP_nodeKind Np) (NP_nodeA Np) (NP_nodeB Np) (NP_nodeC Np) (NP_nodeNext Np) (NP_low Np) (NP_high Np) (NP_setFrom Np) (NP_setTo Np) (NP_setNot Np) (NP_nodes Np) (NP_sets Np) (NP_ranges Np) ((NP_pat Np) + (1:Int32)) (NP_patEnd Np) (NP_broken Np)) No Nx Nf Na Nh Nq Nj tc M1)) C in_MM t_MM t_MM_ok n_MM hP (hDD _ _ _ _ _ _ _ _ _ _ _ _) hS 0 mw_0 rfl 27 (by decide) k_8_17 rfl rfl (by decide +kernel) rfl rfl (Nat.le_of_ble_eq_true rfl) rfl d_MM_one_225 (fun H locs hP hS => ?_)
              refine lv_aload_n hx hb d_MM_one_228 rfl (lv_at hl 1 rfl) ?_
              obtain ⟨q8, hq8, h⟩ := o_bd_some h
              refine o_V (st1 := [.int q8]) (w1 := (m_cw ad ca ky ty 33 Ni (NP_mk (NP_nodeKind Np) (NP_nodeA Np) (NP_nodeB Np) (NP_nodeC Np) (NP_nodeNext Np) (NP_low Np) (NP_high Np) (NP_setFrom Np) (NP_setTo Np) (NP_setNot Np) (NP_nodes Np) (NP_sets Np) (NP_ranges Np) ((NP_pat Np) + (1:Int32)) (NP_patEnd Np) (NP_broken Np)) No Nx Nf Na Nh Nq Nj tc M1)) hE.1 C (e_MM_begin hE hKy l (NP_mk (NP_nodeKind Np) (NP_nodeA Np) (NP_nodeB Np) (NP_nodeC Np) (NP_nodeNext Np) (NP_low Np) (NP_high Np) (NP_setFrom Np) (NP_setTo Np) (NP_setNot Np) (NP_nodes Np) (NP_sets Np) (NP_ranges Np) ((NP_pat Np) + (1:Int32)) (NP_patEnd Np) (NP_broken Np)) Ni No Nx Nf Na Nh Nq Nj tc M1 33 hq8) hP (hDD _ _ _ _ _ _ _ _ _ _ _ _) hS hl.1 rfl mw_0 k_9_86 k_9_88 k_s_93 k_1_12 k_9_89 hv_MM_begin rfl rfl ⟨(by dsimp only [rm_MM_one, rm_MM_begin]; omega), (by dsimp only [rm_MM_one, rm_MM_begin]; omega)⟩ rfl (Nat.le_of_ble_eq_true rfl) ⟨Nat.zero_le _, Nat.zero_le _⟩ rfl d_MM_one_229 (fun H locs hP hS => ?_)
              refine lv_istore (lv' := [(4, .int q8), (2, .int q1), (0, .ref (ad 0)), (1, .int x1)]) hx hb d_MM_one_232 hl (by decide) rfl (fun ls hl => ?_)
              refine lv_aload_n hx hb d_MM_one_234 rfl (lv_at hl 2 rfl) ?_
              refine lv_bipush (v := (10:Int32)) hx hb d_MM_one_235 (by decide) ?_
              refine lv_bipush (v := (10:Int32)) hx hb d_MM_one_237 (by decide) ?_
              obtain ⟨q9, hq9, h⟩ := o_bd_some h
              refine o_V (st1 := []) (w1 := (m_cw ad ca ky ty 33 Ni q9 No Nx Nf Na Nh Nq Nj tc M1)) hE.1 C (e_MM_range hE hKy l (10:Int32) (10:Int32) (NP_mk (NP_nodeKind Np) (NP_nodeA Np) (NP_nodeB Np) (NP_nodeC Np) (NP_nodeNext Np) (NP_low Np) (NP_high Np) (NP_setFrom Np) (NP_setTo Np) (NP_setNot Np) (NP_nodes Np) (NP_sets Np) (NP_ranges Np) ((NP_pat Np) + (1:Int32)) (NP_patEnd Np) (NP_broken Np)) Ni No Nx Nf Na Nh Nq Nj tc M1 33 hq9) hP (hDD _ _ _ _ _ _ _ _ _ _ _ _) hS hl.1 rfl mw_0 k_9_102 k_9_104 k_s_97 k_1_12 k_9_105 hv_MM_range rfl rfl ⟨(by dsimp only [rm_MM_one, rm_MM_range]; omega), (by dsimp only [rm_MM_one, rm_MM_range]; omega)⟩ rfl (Nat.le_of_ble_eq_true rfl) ⟨Nat.zero_le _, Nat.zero_le _⟩ rfl d_MM_one_239 (fun H locs hP hS => ?_)
              refine lv_aload_n hx hb d_MM_one_242 rfl (lv_at hl 2 rfl) ?_
              refine lv_bipush (v := (13:Int32)) hx hb d_MM_one_243 (by decide) ?_
              refine lv_bipush (v := (13:Int32)) hx hb d_MM_one_245 (by decide) ?_
              obtain ⟨q10, hq10, h⟩ := o_bd_some h
              refine o_V (st1 := []) (w1 := (m_cw ad ca ky ty 33 Ni q10 No Nx Nf Na Nh Nq Nj tc M1)) hE.1 C (e_MM_range hE hKy l (13:Int32) (13:Int32) q9 Ni No Nx Nf Na Nh Nq Nj tc M1 33 hq10) hP (hDD _ _ _ _ _ _ _ _ _ _ _ _) hS hl.1 rfl mw_0 k_9_102 k_9_104 k_s_97 k_1_12 k_9_105 hv_MM_range rfl rfl ⟨(by dsimp only [rm_MM_one, rm_MM_range]; omega), (by dsimp only [rm_MM_one, rm_MM_range]; omega)⟩ rfl (Nat.le_of_ble_eq_true rfl) ⟨Nat.zero_le _, Nat.zero_le _⟩ rfl d_MM_one_247 (fun H locs hP hS => ?_)
              refine lv_aload_n hx hb d_MM_one_250 rfl (lv_at hl 2 rfl) ?_
              refine lv_sipush (v := (8232:Int32)) hx hb d_MM_one_251 (by decide) ?_
              refine lv_sipush (v := (8233:Int32)) hx hb d_MM_one_254 (by decide) ?_
              obtain ⟨q11, hq11, h⟩ := o_bd_some h
              refine o_V (st1 := []) (w1 := (m_cw ad ca ky ty 33 Ni q11 No Nx Nf Na Nh Nq Nj tc M1)) hE.1 C (e_MM_range hE hKy l (8232:Int32) (8233:Int32) q10 Ni No Nx Nf Na Nh Nq Nj tc M1 33 hq11) hP (hDD _ _ _ _ _ _ _ _ _ _ _ _) hS hl.1 rfl mw_0 k_9_102 k_9_104 k_s_97 k_1_12 k_9_105 hv_MM_range rfl rfl ⟨(by dsimp only [rm_MM_one, rm_MM_range]; omega), (by dsimp only [rm_MM_one, rm_MM_range]; omega)⟩ rfl (Nat.le_of_ble_eq_true rfl) ⟨Nat.zero_le _, Nat.zero_le _⟩ rfl d_MM_one_257 (fun H locs hP hS => ?_)
              refine lv_aload_n hx hb d_MM_one_260 rfl (lv_at hl 2 rfl) ?_
              refine lv_iload hx hb d_MM_one_261 (lv_at hl 0 rfl) ?_
              refine lv_iconst (v := (1:Int32)) hx hb d_MM_one_263 (by decide) ?_
              obtain ⟨q12, hq12, h⟩ := o_bd_some h
              refine o_V (st1 := [.int q12.1]) (w1 := (m_cw ad ca ky ty 33 Ni q12.2 No Nx Nf Na Nh Nq Nj tc M1)) hE.1 C (e_MM_close hE hKy l q8 (1:Int32) q11 Ni No Nx Nf Na Nh Nq Nj tc M1 33 hq12) hP (hDD _ _ _ _ _ _ _ _ _ _ _ _) hS hl.1 rfl mw_0 k_9_117 k_9_119 k_s_100 k_1_12 k_9_120 hv_MM_close rfl rfl ⟨(by dsimp only [rm_MM_one, rm_MM_close]; omega), (by dsimp only [rm_MM_one, rm_MM_close]; omega)⟩ rfl (Nat.le_of_ble_eq_true rfl) ⟨Nat.zero_le _, Nat.zero_le _⟩ rfl d_MM_one_264 (fun H locs hP hS => ?_)
              refine lv_istore_n (lv' := [(3, .int q12.1), (4, .int q8), (2, .int q1), (0, .ref (ad 0)), (1, .int x1)]) hx hb d_MM_one_267 rfl hl (by decide) rfl (fun ls hl => ?_)
              refine lv_goto (tgt := 348) hx hb d_MM_one_268 (by decide) ?_
              exact f_MM_one_j348_a hE hKy C hDD d rec hrec n q12.1 tc q12.2 Ni No Nx Nf Na Nh Nq Nj M1 h _ _ _ hP hS (lv_sub hl [3, 0] rfl)
          · replace h := o_tt c6 h
            refine lv_aload_n hx hb d_MM_one_165 rfl (lv_at hl 1 rfl) ?_
            refine lv_dup hx hb d_MM_one_166 rfl ?_
            refine o_get (v := .int (NP_pat Np)) C in_MM hP 0 mw_0 rfl 27 (by decide) k_8_17 rfl rfl d_MM_one_167 ?_
            refine lv_iconst (v := (1:Int32)) hx hb d_MM_one_170 (by decide) ?_
            refine lv_iadd hx hb d_MM_one_171 ?_
            refine o_put (v := .int ((NP_pat Np) + (1:Int32))) (ty := .int) (w1 := (m_cw ad ca ky ty 33 Ni (NP_mk (NP_nodeKind Np) (NP_nodeA Np) (NP_nodeB Np) (NP_nodeC Np) (NP_nodeNext Np) (NP_low Np) (NP_high Np) (NP_setFrom Np) (NP_setTo Np) (NP_setNot Np) (NP_nodes Np) (NP_sets Np) (NP_ranges Np) ((NP_pat Np) + (1:Int32)) (NP_patEnd Np) (NP_broken Np)) No Nx Nf Na Nh Nq Nj tc M1)) C in_MM t_MM t_MM_ok n_MM hP (hDD _ _ _ _ _ _ _ _ _ _ _ _) hS 0 mw_0 rfl 27 (by decide) k_8_17 rfl rfl (by decide +kernel) rfl rfl (Nat.le_of_ble_eq_true rfl) rfl d_MM_one_172 (fun H locs hP hS => ?_)
            refine lv_aload_n hx hb d_MM_one_175 rfl (lv_at hl 1 rfl) ?_
            obtain ⟨q13, hq13, h⟩ := o_bd_some h
            refine o_V (st1 := [.int q13]) (w1 := (m_cw ad ca ky ty 33 Ni (NP_mk (NP_nodeKind Np) (NP_nodeA Np) (NP_nodeB Np) (NP_nodeC Np) (NP_nodeNext Np) (NP_low Np) (NP_high Np) (NP_setFrom Np) (NP_setTo Np) (NP_setNot Np) (NP_nodes Np) (NP_sets Np) (NP_ranges Np) ((NP_pat Np) + (1:Int32)) (NP_patEnd Np) (NP_broken Np)) No Nx Nf Na Nh Nq Nj tc M1)) hE.1 C (e_MM_begin hE hKy l (NP_mk (NP_nodeKind Np) (NP_nodeA Np) (NP_nodeB Np) (NP_nodeC Np) (NP_nodeNext Np) (NP_low Np) (NP_high Np) (NP_setFrom Np) (NP_setTo Np) (NP_setNot Np) (NP_nodes Np) (NP_sets Np) (NP_ranges Np) ((NP_pat Np) + (1:Int32)) (NP_patEnd Np) (NP_broken Np)) Ni No Nx Nf Na Nh Nq Nj tc M1 33 hq13) hP (hDD _ _ _ _ _ _ _ _ _ _ _ _) hS hl.1 rfl mw_0 k_9_86 k_9_88 k_s_93 k_1_12 k_9_89 hv_MM_begin rfl rfl ⟨(by dsimp only [rm_MM_one, rm_MM_begin]; omega), (by dsimp only [rm_MM_one, rm_MM_begin]; omega)⟩ rfl (Nat.le_of_ble_eq_true rfl) ⟨Nat.zero_le _, Nat.zero_le _⟩ rfl d_MM_one_176 (fun H locs hP hS => ?_)
            refine lv_istore (lv' := [(4, .int q13), (2, .int q1), (0, .ref (ad 0)), (1, .int x1)]) hx hb d_MM_one_179 hl (by decide) rfl (fun ls hl => ?_)
            refine lv_aload_n hx hb d_MM_one_181 rfl (lv_at hl 2 rfl) ?_
            refine lv_iconst (v := (0:Int32)) hx hb d_MM_one_182 (by decide) ?_
            obtain ⟨q14, hq14, h⟩ := o_bd_some h
            refine o_V (st1 := [.int q14.1]) (w1 := (m_cw ad ca ky ty 33 Ni q14.2 No Nx Nf Na Nh Nq Nj tc M1)) hE.1 C (e_MM_escape_a hE hKy l n (0:Int32) tc (NP_mk (NP_nodeKind Np) (NP_nodeA Np) (NP_nodeB Np) (NP_nodeC Np) (NP_nodeNext Np) (NP_low Np) (NP_high Np) (NP_setFrom Np) (NP_setTo Np) (NP_setNot Np) (NP_nodes Np) (NP_sets Np) (NP_ranges Np) ((NP_pat Np) + (1:Int32)) (NP_patEnd Np) (NP_broken Np)) Ni No Nx Nf Na Nh Nq Nj M1 hq14) hP (hDD _ _ _ _ _ _ _ _ _ _ _ _) hS hl.1 rfl mw_0 k_9_94 k_9_96 k_s_95 k_1_12 k_9_97 hv_MM_escape rfl rfl ⟨(by dsimp only [rm_MM_one, rm_MM_escape]; omega), (by dsimp only [rm_MM_one, rm_MM_escape]; omega)⟩ rfl (Nat.le_of_ble_eq_true rfl) ⟨Nat.zero_le _, Nat.zero_le _⟩ rfl d_MM_one_183 (fun H locs hP hS => ?_)
            refine lv_istore (lv' := [(5, .int q14.1), (4, .int q13), (2, .int q1), (0, .ref (ad 0)), (1, .int x1)]) hx hb d_MM_one_186 hl (by decide) rfl (fun ls hl => ?_)
            refine lv_iload hx hb d_MM_one_188 (lv_at hl 0 rfl) ?_
            refine lv_if_lt (tgt := 201) hx hb d_MM_one_190 (by decide) (fun c16 => ?_) (fun c16 => ?_)
            · replace h := o_tt c16 h
              exact f_MM_one_j201_a hE hKy C hDD d rec hrec n q13 tc q14.2 Ni No Nx Nf Na Nh Nq Nj M1 h _ _ _ hP hS (lv_sub hl [3, 1] rfl)
            · replace h := o_ff c16 h
              refine lv_aload_n hx hb d_MM_one_193 rfl (lv_at hl 3 rfl) ?_
              refine lv_iload hx hb d_MM_one_194 (lv_at hl 0 rfl) ?_
              refine lv_iload hx hb d_MM_one_196 (lv_at hl 0 rfl) ?_
              obtain ⟨q16, hq16, h⟩ := o_bd_some h
              refine o_V (st1 := []) (w1 := (m_cw ad ca ky ty 33 Ni q16 No Nx Nf Na Nh Nq Nj tc M1)) hE.1 C (e_MM_range hE hKy l q14.1 q14.1 q14.2 Ni No Nx Nf Na Nh Nq Nj tc M1 33 hq16) hP (hDD _ _ _ _ _ _ _ _ _ _ _ _) hS hl.1 rfl mw_0 k_9_102 k_9_104 k_s_97 k_1_12 k_9_105 hv_MM_range rfl rfl ⟨(by dsimp only [rm_MM_one, rm_MM_range]; omega), (by dsimp only [rm_MM_one, rm_MM_range]; omega)⟩ rfl (Nat.le_of_ble_eq_true rfl) ⟨Nat.zero_le _, Nat.zero_le _⟩ rfl d_MM_one_198 (fun H locs hP hS => ?_)
              exact f_MM_one_j201_a hE hKy C hDD d rec hrec n q13 tc q16 Ni No Nx Nf Na Nh Nq Nj M1 h _ _ _ hP hS (lv_sub hl [3, 1] rfl)
        · replace h := o_tt c5 h
          refine lv_aload_n hx hb d_MM_one_151 rfl (lv_at hl 1 rfl) ?_
          obtain ⟨q17, hq17, h⟩ := o_bd_some h
          refine o_V (st1 := [.int q17.1]) (w1 := (m_cw ad ca ky ty 33 Ni q17.2 No Nx Nf Na Nh Nq Nj tc M1)) hE.1 C (e_MM_choice_a hE hKy l n tc Np Ni No Nx Nf Na Nh Nq Nj M1 hq17) hP (hDD _ _ _ _ _ _ _ _ _ _ _ _) hS hl.1 rfl mw_0 k_9_82 k_9_84 k_s_92 k_1_12 k_9_85 hv_MM_choice rfl rfl ⟨(by dsimp only [rm_MM_one, rm_MM_choice]; omega), (by dsimp only [rm_MM_one, rm_MM_choice]; omega)⟩ rfl (Nat.le_of_ble_eq_true rfl) ⟨Nat.zero_le _, Nat.zero_le _⟩ rfl d_MM_one_152 (fun H locs hP hS => ?_)
          refine lv_istore_n (lv' := [(3, .int q17.1), (2, .int q1), (0, .ref (ad 0)), (1, .int x1)]) hx hb d_MM_one_155 rfl hl (by decide) rfl (fun ls hl => ?_)
          refine lv_goto (tgt := 348) hx hb d_MM_one_156 (by decide) ?_
          exact f_MM_one_j348_a hE hKy C hDD d rec hrec n q17.1 tc q17.2 Ni No Nx Nf Na Nh Nq Nj M1 h _ _ _ hP hS (lv_sub hl [2, 0] rfl)
      · replace h := o_tt c4 h
        refine lv_iload_n hx hb d_MM_one_51 rfl (lv_at hl 2 rfl) ?_
        refine lv_bipush (v := (30:Int32)) hx hb d_MM_one_52 (by decide) ?_
        refine lv_icmp_ne (tgt := 62) hx hb d_MM_one_54 (by decide) (fun c17 => ?_) (fun c17 => ?_)
        · replace h := o_ff c17 h
          refine lv_aload_n hx hb d_MM_one_62 rfl (lv_at hl 1 rfl) ?_
          refine lv_dup hx hb d_MM_one_63 rfl ?_
          refine o_get (v := .int (NP_pat Np)) C in_MM hP 0 mw_0 rfl 27 (by decide) k_8_17 rfl rfl d_MM_one_64 ?_
          refine lv_iconst (v := (1:Int32)) hx hb d_MM_one_67 (by decide) ?_
          refine lv_iadd hx hb d_MM_one_68 ?_
          refine o_put (v := .int ((NP_pat Np) + (1:Int32))) (ty := .int) (w1 := (m_cw ad ca ky ty 33 Ni (NP_mk (NP_nodeKind Np) (NP_nodeA Np) (NP_nodeB Np) (NP_nodeC Np) (NP_nodeNext Np) (NP_low Np) (NP_high Np) (NP_setFrom Np) (NP_setTo Np) (NP_setNot Np) (NP_nodes Np) (NP_sets Np) (NP_ranges Np) ((NP_pat Np) + (1:Int32)) (NP_patEnd Np) (NP_broken Np)) No Nx Nf Na Nh Nq Nj tc M1)) C in_MM t_MM t_MM_ok n_MM hP (hDD _ _ _ _ _ _ _ _ _ _ _ _) hS 0 mw_0 rfl 27 (by decide) k_8_17 rfl rfl (by decide +kernel) rfl rfl (Nat.le_of_ble_eq_true rfl) rfl d_MM_one_69 (fun H locs hP hS => ?_)
          refine lv_aload_n hx hb d_MM_one_72 rfl (lv_at hl 1 rfl) ?_
          refine lv_iconst (v := (0:Int32)) hx hb d_MM_one_73 (by decide) ?_
          obtain ⟨q18, hq18, h⟩ := o_bd_some h
          refine o_V (st1 := [.int q18]) (w1 := (m_cw ad ca ky ty 33 Ni (NP_mk (NP_nodeKind Np) (NP_nodeA Np) (NP_nodeB Np) (NP_nodeC Np) (NP_nodeNext Np) (NP_low Np) (NP_high Np) (NP_setFrom Np) (NP_setTo Np) (NP_setNot Np) (NP_nodes Np) (NP_sets Np) (NP_ranges Np) ((NP_pat Np) + (1:Int32)) (NP_patEnd Np) (NP_broken Np)) No Nx Nf Na Nh Nq Nj tc M1)) hE.1 C (e_MM_p_a hE hKy l (0:Int32) tc (NP_mk (NP_nodeKind Np) (NP_nodeA Np) (NP_nodeB Np) (NP_nodeC Np) (NP_nodeNext Np) (NP_low Np) (NP_high Np) (NP_setFrom Np) (NP_setTo Np) (NP_setNot Np) (NP_nodes Np) (NP_sets Np) (NP_ranges Np) ((NP_pat Np) + (1:Int32)) (NP_patEnd Np) (NP_broken Np)) Ni No Nx Nf Na Nh Nq Nj M1 hq18) hP (hDD _ _ _ _ _ _ _ _ _ _ _ _) hS hl.1 rfl mw_0 k_9_70 k_9_72 k_s_89 k_1_12 k_9_73 hv_MM_p rfl rfl ⟨(by dsimp only [rm_MM_one, rm_MM_p]; omega), (by dsimp only [rm_MM_one, rm_MM_p]; omega)⟩ rfl (Nat.le_of_ble_eq_true rfl) ⟨Nat.zero_le _, Nat.zero_le _⟩ rfl d_MM_one_74 (fun H locs hP hS => ?_)
          refine lv_bipush (v := (63:Int32)) hx hb d_MM_one_77 (by decide) ?_
          refine lv_icmp_ne (tgt := 102) hx hb d_MM_one_79 (by decide) (fun c18 => ?_) (fun c18 => ?_)
          · replace h := o_ff c18 h
            exact f_MM_one_j102_a hE hKy C hDD d rec hrec n x1 tc (NP_mk (NP_nodeKind Np) (NP_nodeA Np) (NP_nodeB Np) (NP_nodeC Np) (NP_nodeNext Np) (NP_low Np) (NP_high Np) (NP_setFrom Np) (NP_setTo Np) (NP_setNot Np) (NP_nodes Np) (NP_sets Np) (NP_ranges Np) ((NP_pat Np) + (1:Int32)) (NP_patEnd Np) (NP_broken Np)) Ni No Nx Nf Na Nh Nq Nj M1 h _ _ _ hP hS (lv_sub hl [1, 2] rfl)
          · replace h := o_tt c18 h
            refine lv_aload_n hx hb d_MM_one_82 rfl (lv_at hl 1 rfl) ?_
            refine lv_iconst (v := (1:Int32)) hx hb d_MM_one_83 (by decide) ?_
            obtain ⟨q22, hq22, h⟩ := o_bd_some h
            refine o_V (st1 := [.int q22]) (w1 := (m_cw ad ca ky ty 33 Ni (NP_mk (NP_nodeKind Np) (NP_nodeA Np) (NP_nodeB Np) (NP_nodeC Np) (NP_nodeNext Np) (NP_low Np) (NP_high Np) (NP_setFrom Np) (NP_setTo Np) (NP_setNot Np) (NP_nodes Np) (NP_sets Np) (NP_ranges Np) ((NP_pat Np) + (1:Int32)) (NP_patEnd Np) (NP_broken Np)) No Nx Nf Na Nh Nq Nj tc M1)) hE.1 C (e_MM_p_a hE hKy l (1:Int32) tc (NP_mk (NP_nodeKind Np) (NP_nodeA Np) (NP_nodeB Np) (NP_nodeC Np) (NP_nodeNext Np) (NP_low Np) (NP_high Np) (NP_setFrom Np) (NP_setTo Np) (NP_setNot Np) (NP_nodes Np) (NP_sets Np) (NP_ranges Np) ((NP_pat Np) + (1:Int32)) (NP_patEnd Np) (NP_broken Np)) Ni No Nx Nf Na Nh Nq Nj M1 hq22) hP (hDD _ _ _ _ _ _ _ _ _ _ _ _) hS hl.1 rfl mw_0 k_9_70 k_9_72 k_s_89 k_1_12 k_9_73 hv_MM_p rfl rfl ⟨(by dsimp only [rm_MM_one, rm_MM_p]; omega), (by dsimp only [rm_MM_one, rm_MM_p]; omega)⟩ rfl (Nat.le_of_ble_eq_true rfl) ⟨Nat.zero_le _, Nat.zero_le _⟩ rfl d_MM_one_84 (fun H locs hP hS => ?_)
            refine lv_bipush (v := (58:Int32)) hx hb d_MM_one_87 (by decide) ?_
            refine lv_icmp_ne (tgt := 102) hx hb d_MM_one_89 (by decide) (fun c21 => ?_) (fun c21 => ?_)
            · replace h := o_ff c21 h
              exact f_MM_one_j102_a hE hKy C hDD d rec hrec n x1 tc (NP_mk (NP_nodeKind Np) (NP_nodeA Np) (NP_nodeB Np) (NP_nodeC Np) (NP_nodeNext Np) (NP_low Np) (NP_high Np) (NP_setFrom Np) (NP_setTo Np) (NP_setNot Np) (NP_nodes Np) (NP_sets Np) (NP_ranges Np) ((NP_pat Np) + (1:Int32)) (NP_patEnd Np) (NP_broken Np)) Ni No Nx Nf Na Nh Nq Nj M1 h _ _ _ hP hS (lv_sub hl [1, 2] rfl)
            · replace h := o_tt c21 h
              refine lv_aload_n hx hb d_MM_one_92 rfl (lv_at hl 1 rfl) ?_
              refine lv_dup hx hb d_MM_one_93 rfl ?_
              refine o_get (v := .int ((NP_pat Np) + (1:Int32))) C in_MM hP 0 mw_0 rfl 27 (by decide) k_8_17 rfl rfl d_MM_one_94 ?_
              refine lv_iconst (v := (2:Int32)) hx hb d_MM_one_97 (by decide) ?_
              refine lv_iadd hx hb d_MM_one_98 ?_
              refine o_put (v := .int (((NP_pat Np) + (1:Int32)) + (2:Int32))) (ty := .int) (w1 := (m_cw ad ca ky ty 33 Ni (NP_mk (NP_nodeKind Np) (NP_nodeA Np) (NP_nodeB Np) (NP_nodeC Np) (NP_nodeNext Np) (NP_low Np) (NP_high Np) (NP_setFrom Np) (NP_setTo Np) (NP_setNot Np) (NP_nodes Np) (NP_sets Np) (NP_ranges Np) (((NP_pat Np) + (1:Int32)) + (2:Int32)) (NP_patEnd Np) (NP_broken Np)) No Nx Nf Na Nh Nq Nj tc M1)) C in_MM t_MM t_MM_ok n_MM hP (hDD _ _ _ _ _ _ _ _ _ _ _ _) hS 0 mw_0 rfl 27 (by decide) k_8_17 rfl rfl (by decide +kernel) rfl rfl (Nat.le_of_ble_eq_true rfl) rfl d_MM_one_99 (fun H locs hP hS => ?_)
              exact f_MM_one_j102_a hE hKy C hDD d rec hrec n x1 tc (NP_mk (NP_nodeKind Np) (NP_nodeA Np) (NP_nodeB Np) (NP_nodeC Np) (NP_nodeNext Np) (NP_low Np) (NP_high Np) (NP_setFrom Np) (NP_setTo Np) (NP_setNot Np) (NP_nodes Np) (NP_sets Np) (NP_ranges Np) (((NP_pat Np) + (1:Int32)) + (2:Int32)) (NP_patEnd Np) (NP_broken Np)) Ni No Nx Nf Na Nh Nq Nj M1 h _ _ _ hP hS (lv_sub hl [1, 2] rfl)
        · replace h := o_tt c17 h
          refine lv_aload_n hx hb d_MM_one_57 rfl (lv_at hl 1 rfl) ?_
          obtain ⟨q23, hq23, h⟩ := o_bd_some h
          refine o_V (st1 := [.int q23.1]) (w1 := (m_cw ad ca ky ty 33 Ni q23.2 No Nx Nf Na Nh Nq Nj tc M1)) hE.1 C (e_MM_no hE hKy l Np Ni No Nx Nf Na Nh Nq Nj tc M1 33 hq23) hP (hDD _ _ _ _ _ _ _ _ _ _ _ _) hS hl.1 rfl mw_0 k_9_78 k_9_80 k_s_91 k_1_12 k_9_81 hv_MM_no rfl rfl ⟨(by dsimp only [rm_MM_one, rm_MM_no]; omega), (by dsimp only [rm_MM_one, rm_MM_no]; omega)⟩ rfl (Nat.le_of_ble_eq_true rfl) ⟨Nat.zero_le _, Nat.zero_le _⟩ rfl d_MM_one_58 (fun H locs hP hS => ?_)
          cases h
          exact o_ri C hP hS d_MM_one_61
    · replace h := o_tt c3 h
      exact f_MM_one_j18_a hE hKy C hDD d rec hrec n q1 tc Np Ni No Nx Nf Na Nh Nq Nj M1 h _ _ _ hP hS (lv_sub hl [1, 0] rfl)
set_option maxHeartbeats 4000000 in
set_option maxRecDepth 100000 in
theorem f_MM_one_j40_b {E : (Nat → Prop) → State → Heap → Prop} {p : Program} {l : Launch} {e : Env} {s : State} {m : MethodId} {args : Array Value} {below : List Frame} {meth : Method} {c : Code} {D : va_G} {ad kd sd vd xd : Nat → Nat} {ca : Nat → ClassId} {A : Nat → Prop} {ky ty : Nat → Option Nat} (hE : o_EK E kd sd vd xd) (hKy : m_KY ky ty sd) (C : o_Cx E p s m args meth c D m_cls (m_tys ca) "SchemaJudgeModel" b_MM_one (some .int) 6 cc_MM_one A) (hDD : ∀ (rt : Nat) (Ni : SNI) (Np : SNP) (No : SNO) (Nx : SNX) (Nf : SNF) (Na : SNA) (Nh : SNH) (Nq : SNQ) (Nj : SNJ) (M0 : SMT) (M1 : SMT), va_D A (m_cw ad ca ky ty rt Ni Np No Nx Nf Na Nh Nq Nj M0 M1)) (d : Nat) (rec : Int32 → SMT → SNP → Option (Int32 × SNP)) (hrec : ∀ (x1 : Int32) (tc : SMT) (Np : SNP) (Ni : SNI) (No : SNO) (Nx : SNX) (Nf : SNF) (Na : SNA) (Nh : SNH) (Nq : SNQ) (Nj : SNJ) (M0 : SMT) (r : Int32 × SNP), rec x1 tc Np = some r → o_Cn E l D m_cls (m_tys ca) y_MM_ways cc_MM_ways (rm_MM_ways d) [.ref (ad 0), .int x1] (m_cw ad ca ky ty 48 Ni Np No Nx Nf Na Nh Nq Nj M0 tc) (m_cw ad ca ky ty 48 Ni r.2 No Nx Nf Na Nh Nq Nj M0 tc) (some (.int r.1))) (n : Nat) (y1 : Int32) (tc : SMT) (Np : SNP) (Ni : SNI) (No : SNO) (Nx : SNX) (Nf : SNF) (Na : SNA) (Nh : SNH) (Nq : SNQ) (Nj : SNJ) (M0 : SMT) {r : Int32 × SNP} (h : m_MM_one_j40 n rec y1 tc Np = some r) : o_At p l e (rm_MM_one d) s m args below meth c (MQ below (o_Qx D m_cls (some (.int r.1)) (m_cw ad ca ky ty 48 Ni r.2 No Nx Nf Na Nh Nq Nj M0 tc) A) args s 0 0 A) m_cls D A 6 40 [.int y1, .ref (ad 0)] (m_cw ad ca ky ty 48 Ni Np No Nx Nf Na Nh Nq Nj M0 tc) [] := by
  unfold m_MM_one_j40 at h
  intro H locs ls hP hS hl
  have C0 := C
  obtain ⟨hx, hb, -, -, -, hown, hts, hK, -, -⟩ := C0
  refine lv_iconst (v := (0:Int32)) hx hb d_MM_one_40 (by decide) ?_
  obtain ⟨q2, hq2, h⟩ := o_bd_some h
  refine o_V (st1 := [.int q2.1]) (w1 := (m_cw ad ca ky ty 48 Ni q2.2 No Nx Nf Na Nh Nq Nj M0 tc)) hE.1 C (e_MM_node hE hKy l y1 (0:Int32) Np Ni No Nx Nf Na Nh Nq Nj M0 tc 48 hq2) hP (hDD _ _ _ _ _ _ _ _ _ _ _ _) hS hl.1 rfl mw_0 k_9_62 k_9_64 k_s_87 k_1_12 k_9_65 hv_MM_node rfl rfl ⟨(by dsimp only [rm_MM_one, rm_MM_node]; omega), (by dsimp only [rm_MM_one, rm_MM_node]; omega)⟩ rfl (Nat.le_of_ble_eq_true rfl) ⟨Nat.zero_le _, Nat.zero_le _⟩ rfl d_MM_one_41 (fun H locs hP hS => ?_)
  cases h
  exact o_ri C hP hS d_MM_one_44
set_option maxHeartbeats 4000000 in
set_option maxRecDepth 100000 in
theorem f_MM_one_j18_b {E : (Nat → Prop) → State → Heap → Prop} {p : Program} {l : Launch} {e : Env} {s : State} {m : MethodId} {args : Array Value} {below : List Frame} {meth : Method} {c : Code} {D : va_G} {ad kd sd vd xd : Nat → Nat} {ca : Nat → ClassId} {A : Nat → Prop} {ky ty : Nat → Option Nat} (hE : o_EK E kd sd vd xd) (hKy : m_KY ky ty sd) (C : o_Cx E p s m args meth c D m_cls (m_tys ca) "SchemaJudgeModel" b_MM_one (some .int) 6 cc_MM_one A) (hDD : ∀ (rt : Nat) (Ni : SNI) (Np : SNP) (No : SNO) (Nx : SNX) (Nf : SNF) (Na : SNA) (Nh : SNH) (Nq : SNQ) (Nj : SNJ) (M0 : SMT) (M1 : SMT), va_D A (m_cw ad ca ky ty rt Ni Np No Nx Nf Na Nh Nq Nj M0 M1)) (d : Nat) (rec : Int32 → SMT → SNP → Option (Int32 × SNP)) (hrec : ∀ (x1 : Int32) (tc : SMT) (Np : SNP) (Ni : SNI) (No : SNO) (Nx : SNX) (Nf : SNF) (Na : SNA) (Nh : SNH) (Nq : SNQ) (Nj : SNJ) (M0 : SMT) (r : Int32 × SNP), rec x1 tc Np = some r → o_Cn E l D m_cls (m_tys ca) y_MM_ways cc_MM_ways (rm_MM_ways d) [.ref (ad 0), .int x1] (m_cw ad ca ky ty 48 Ni Np No Nx Nf Na Nh Nq Nj M0 tc) (m_cw ad ca ky ty 48 Ni r.2 No Nx Nf Na Nh Nq Nj M0 tc) (some (.int r.1))) (n : Nat) (x2 : Int32) (tc : SMT) (Np : SNP) (Ni : SNI) (No : SNO) (Nx : SNX) (Nf : SNF) (Na : SNA) (Nh : SNH) (Nq : SNQ) (Nj : SNJ) (M0 : SMT) {r : Int32 × SNP} (h : m_MM_one_j18 n rec x2 tc Np = some r) : o_At p l e (rm_MM_one d) s m args below meth c (MQ below (o_Qx D m_cls (some (.int r.1)) (m_cw ad ca ky ty 48 Ni r.2 No Nx Nf Na Nh Nq Nj M0 tc) A) args s 0 0 A) m_cls D A 6 18 [] (m_cw ad ca ky ty 48 Ni Np No Nx Nf Na Nh Nq Nj M0 tc) [(0, .ref (ad 0)), (2, .int x2)] := by
  unfold m_MM_one_j18 at h
  intro H locs ls hP hS hl
  have C0 := C
  obtain ⟨hx, hb, -, -, -, hown, hts, hK, -, -⟩ := C0
  refine lv_aload_n hx hb d_MM_one_18 rfl (lv_at hl 0 rfl) ?_
  refine lv_dup hx hb d_MM_one_19 rfl ?_
  refine o_get (v := .int (NP_pat Np)) C in_MM hP 0 mw_0 rfl 27 (by decide) k_8_17 rfl rfl d_MM_one_20 ?_
  refine lv_iconst (v := (1:Int32)) hx hb d_MM_one_23 (by decide) ?_
  refine lv_iadd hx hb d_MM_one_24 ?_
  refine o_put (v := .int ((NP_pat Np) + (1:Int32))) (ty := .int) (w1 := (m_cw ad ca ky ty 48 Ni (NP_mk (NP_nodeKind Np) (NP_nodeA Np) (NP_nodeB Np) (NP_nodeC Np) (NP_nodeNext Np) (NP_low Np) (NP_high Np) (NP_setFrom Np) (NP_setTo Np) (NP_setNot Np) (NP_nodes Np) (NP_sets Np) (NP_ranges Np) ((NP_pat Np) + (1:Int32)) (NP_patEnd Np) (NP_broken Np)) No Nx Nf Na Nh Nq Nj M0 tc)) C in_MM t_MM t_MM_ok n_MM hP (hDD _ _ _ _ _ _ _ _ _ _ _ _) hS 0 mw_0 rfl 27 (by decide) k_8_17 rfl rfl (by decide +kernel) rfl rfl (Nat.le_of_ble_eq_true rfl) rfl d_MM_one_25 (fun H locs hP hS => ?_)
  refine lv_aload_n hx hb d_MM_one_28 rfl (lv_at hl 0 rfl) ?_
  refine lv_iload_n hx hb d_MM_one_29 rfl (lv_at hl 1 rfl) ?_
  refine lv_bipush (v := (94:Int32)) hx hb d_MM_one_30 (by decide) ?_
  refine lv_icmp_ne (tgt := 39) hx hb d_MM_one_32 (by decide) (fun c2 => ?_) (fun c2 => ?_)
  · replace h := o_ff c2 h
    refine lv_iconst (v := (3:Int32)) hx hb d_MM_one_39 (by decide) ?_
    exact f_MM_one_j40_b hE hKy C hDD d rec hrec n (3:Int32) tc (NP_mk (NP_nodeKind Np) (NP_nodeA Np) (NP_nodeB Np) (NP_nodeC Np) (NP_nodeNext Np) (NP_low Np) (NP_high Np) (NP_setFrom Np) (NP_setTo Np) (NP_setNot Np) (NP_nodes Np) (NP_sets Np) (NP_ranges Np) ((NP_pat Np) + (1:Int32)) (NP_patEnd Np) (NP_broken Np)) Ni No Nx Nf Na Nh Nq Nj M0 h _ _ _ hP hS (lv_sub hl [] rfl)
  · replace h := o_tt c2 h
    refine lv_iconst (v := (2:Int32)) hx hb d_MM_one_35 (by decide) ?_
    refine lv_goto (tgt := 40) hx hb d_MM_one_36 (by decide) ?_
    exact f_MM_one_j40_b hE hKy C hDD d rec hrec n (2:Int32) tc (NP_mk (NP_nodeKind Np) (NP_nodeA Np) (NP_nodeB Np) (NP_nodeC Np) (NP_nodeNext Np) (NP_low Np) (NP_high Np) (NP_setFrom Np) (NP_setTo Np) (NP_setNot Np) (NP_nodes Np) (NP_sets Np) (NP_ranges Np) ((NP_pat Np) + (1:Int32)) (NP_patEnd Np) (NP_broken Np)) Ni No Nx Nf Na Nh Nq Nj M0 h _ _ _ hP hS (lv_sub hl [] rfl)
set_option maxHeartbeats 4000000 in
set_option maxRecDepth 100000 in
theorem f_MM_one_j313_b {E : (Nat → Prop) → State → Heap → Prop} {p : Program} {l : Launch} {e : Env} {s : State} {m : MethodId} {args : Array Value} {below : List Frame} {meth : Method} {c : Code} {D : va_G} {ad kd sd vd xd : Nat → Nat} {ca : Nat → ClassId} {A : Nat → Prop} {ky ty : Nat → Option Nat} (hE : o_EK E kd sd vd xd) (hKy : m_KY ky ty sd) (C : o_Cx E p s m args meth c D m_cls (m_tys ca) "SchemaJudgeModel" b_MM_one (some .int) 6 cc_MM_one A) (hDD : ∀ (rt : Nat) (Ni : SNI) (Np : SNP) (No : SNO) (Nx : SNX) (Nf : SNF) (Na : SNA) (Nh : SNH) (Nq : SNQ) (Nj : SNJ) (M0 : SMT) (M1 : SMT), va_D A (m_cw ad ca ky ty rt Ni Np No Nx Nf Na Nh Nq Nj M0 M1)) (d : Nat) (rec : Int32 → SMT → SNP → Option (Int32 × SNP)) (hrec : ∀ (x1 : Int32) (tc : SMT) (Np : SNP) (Ni : SNI) (No : SNO) (Nx : SNX) (Nf : SNF) (Na : SNA) (Nh : SNH) (Nq : SNQ) (Nj : SNJ) (M0 : SMT) (r : Int32 × SNP), rec x1 tc Np = some r → o_Cn E l D m_cls (m_tys ca) y_MM_ways cc_MM_ways (rm_MM_ways d) [.ref (ad 0), .int x1] (m_cw ad ca ky ty 48 Ni Np No Nx Nf Na Nh Nq Nj M0 tc) (m_cw ad ca ky ty 48 Ni r.2 No Nx Nf Na Nh Nq Nj M0 tc) (some (.int r.1))) (n : Nat)  (tc : SMT) (Np : SNP) (Ni : SNI) (No : SNO) (Nx : SNX) (Nf : SNF) (Na : SNA) (Nh : SNH) (Nq : SNQ) (Nj : SNJ) (M0 : SMT) {r : Int32 × SNP} (h : m_MM_one_j313 n rec tc Np = some r) : o_At p l e (rm_MM_one d) s m args below meth c (MQ below (o_Qx D m_cls (some (.int r.1)) (m_cw ad ca ky ty 48 Ni r.2 No Nx Nf Na Nh Nq Nj M0 tc) A) args s 0 0 A) m_cls D A 6 313 [] (m_cw ad ca ky ty 48 Ni Np No Nx Nf Na Nh Nq Nj M0 tc) [(0, .ref (ad 0))] := by
  unfold m_MM_one_j313 at h
  intro H locs ls hP hS hl
  have C0 := C
  obtain ⟨hx, hb, -, -, -, hown, hts, hK, -, -⟩ := C0
  refine lv_aload_n hx hb d_MM_one_313 rfl (lv_at hl 0 rfl) ?_
  obtain ⟨q3, hq3, h⟩ := o_bd_some h
  refine o_V (st1 := [.int q3.1]) (w1 := (m_cw ad ca ky ty 48 Ni q3.2 No Nx Nf Na Nh Nq Nj M0 tc)) hE.1 C (e_MM_no hE hKy l Np Ni No Nx Nf Na Nh Nq Nj M0 tc 48 hq3) hP (hDD _ _ _ _ _ _ _ _ _ _ _ _) hS hl.1 rfl mw_0 k_9_78 k_9_80 k_s_91 k_1_12 k_9_81 hv_MM_no rfl rfl ⟨(by dsimp only [rm_MM_one, rm_MM_no]; omega), (by dsimp only [rm_MM_one, rm_MM_no]; omega)⟩ rfl (Nat.le_of_ble_eq_true rfl) ⟨Nat.zero_le _, Nat.zero_le _⟩ rfl d_MM_one_314 (fun H locs hP hS => ?_)
  cases h
  exact o_ri C hP hS d_MM_one_317
set_option maxHeartbeats 4000000 in
set_option maxRecDepth 100000 in
theorem f_MM_one_j348_b {E : (Nat → Prop) → State → Heap → Prop} {p : Program} {l : Launch} {e : Env} {s : State} {m : MethodId} {args : Array Value} {below : List Frame} {meth : Method} {c : Code} {D : va_G} {ad kd sd vd xd : Nat → Nat} {ca : Nat → ClassId} {A : Nat → Prop} {ky ty : Nat → Option Nat} (hE : o_EK E kd sd vd xd) (hKy : m_KY ky ty sd) (C : o_Cx E p s m args meth c D m_cls (m_tys ca) "SchemaJudgeModel" b_MM_one (some .int) 6 cc_MM_one A) (hDD : ∀ (rt : Nat) (Ni : SNI) (Np : SNP) (No : SNO) (Nx : SNX) (Nf : SNF) (Na : SNA) (Nh : SNH) (Nq : SNQ) (Nj : SNJ) (M0 : SMT) (M1 : SMT), va_D A (m_cw ad ca ky ty rt Ni Np No Nx Nf Na Nh Nq Nj M0 M1)) (d : Nat) (rec : Int32 → SMT → SNP → Option (Int32 × SNP)) (hrec : ∀ (x1 : Int32) (tc : SMT) (Np : SNP) (Ni : SNI) (No : SNO) (Nx : SNX) (Nf : SNF) (Na : SNA) (Nh : SNH) (Nq : SNQ) (Nj : SNJ) (M0 : SMT) (r : Int32 × SNP), rec x1 tc Np = some r → o_Cn E l D m_cls (m_tys ca) y_MM_ways cc_MM_ways (rm_MM_ways d) [.ref (ad 0), .int x1] (m_cw ad ca ky ty 48 Ni Np No Nx Nf Na Nh Nq Nj M0 tc) (m_cw ad ca ky ty 48 Ni r.2 No Nx Nf Na Nh Nq Nj M0 tc) (some (.int r.1))) (n : Nat) (x3 : Int32) (tc : SMT) (Np : SNP) (Ni : SNI) (No : SNO) (Nx : SNX) (Nf : SNF) (Na : SNA) (Nh : SNH) (Nq : SNQ) (Nj : SNJ) (M0 : SMT) {r : Int32 × SNP} (h : m_MM_one_j348 n rec x3 tc Np = some r) : o_At p l e (rm_MM_one d) s m args below meth c (MQ below (o_Qx D m_cls (some (.int r.1)) (m_cw ad ca ky ty 48 Ni r.2 No Nx Nf Na Nh Nq Nj M0 tc) A) args s 0 0 A) m_cls D A 6 348 [] (m_cw ad ca ky ty 48 Ni Np No Nx Nf Na Nh Nq Nj M0 tc) [(0, .ref (ad 0)), (3, .int x3)] := by
  unfold m_MM_one_j348 at h
  intro H locs ls hP hS hl
  have C0 := C
  obtain ⟨hx, hb, -, -, -, hown, hts, hK, -, -⟩ := C0
  refine lv_aload_n hx hb d_MM_one_348 rfl (lv_at hl 0 rfl) ?_
  refine o_get (v := .int (NP_broken Np)) C in_MM hP 0 mw_0 rfl 32 (by decide) k_8_22 rfl rfl d_MM_one_349 ?_
  refine lv_if_eq (tgt := 359) hx hb d_MM_one_352 (by decide) (fun c15 => ?_) (fun c15 => ?_)
  · replace h := o_tt c15 h
    refine lv_aload_n hx hb d_MM_one_359 rfl (lv_at hl 0 rfl) ?_
    refine lv_iload_n hx hb d_MM_one_360 rfl (lv_at hl 1 rfl) ?_
    obtain ⟨q7, hq7, h⟩ := o_bd_some h
    refine o_V (st1 := [.int q7.1]) (w1 := (m_cw ad ca ky ty 48 Ni q7.2 No Nx Nf Na Nh Nq Nj M0 tc)) hE.1 C (e_MM_often_b hE hKy l n x3 tc Np Ni No Nx Nf Na Nh Nq Nj M0 hq7) hP (hDD _ _ _ _ _ _ _ _ _ _ _ _) hS hl.1 rfl mw_0 k_9_121 k_9_123 k_s_101 k_1_12 k_9_124 hv_MM_often rfl rfl ⟨(by dsimp only [rm_MM_one, rm_MM_often]; omega), (by dsimp only [rm_MM_one, rm_MM_often]; omega)⟩ rfl (Nat.le_of_ble_eq_true rfl) ⟨Nat.zero_le _, Nat.zero_le _⟩ rfl d_MM_one_361 (fun H locs hP hS => ?_)
    cases h
    exact o_ri C hP hS d_MM_one_364
  · replace h := o_ff c15 h
    refine lv_iload_n hx hb d_MM_one_355 rfl (lv_at hl 1 rfl) ?_
    refine lv_goto (tgt := 364) hx hb d_MM_one_356 (by decide) ?_
    cases h
    exact o_ri C hP hS d_MM_one_364
set_option maxHeartbeats 4000000 in
set_option maxRecDepth 100000 in
theorem f_MM_one_j201_b {E : (Nat → Prop) → State → Heap → Prop} {p : Program} {l : Launch} {e : Env} {s : State} {m : MethodId} {args : Array Value} {below : List Frame} {meth : Method} {c : Code} {D : va_G} {ad kd sd vd xd : Nat → Nat} {ca : Nat → ClassId} {A : Nat → Prop} {ky ty : Nat → Option Nat} (hE : o_EK E kd sd vd xd) (hKy : m_KY ky ty sd) (C : o_Cx E p s m args meth c D m_cls (m_tys ca) "SchemaJudgeModel" b_MM_one (some .int) 6 cc_MM_one A) (hDD : ∀ (rt : Nat) (Ni : SNI) (Np : SNP) (No : SNO) (Nx : SNX) (Nf : SNF) (Na : SNA) (Nh : SNH) (Nq : SNQ) (Nj : SNJ) (M0 : SMT) (M1 : SMT), va_D A (m_cw ad ca ky ty rt Ni Np No Nx Nf Na Nh Nq Nj M0 M1)) (d : Nat) (rec : Int32 → SMT → SNP → Option (Int32 × SNP)) (hrec : ∀ (x1 : Int32) (tc : SMT) (Np : SNP) (Ni : SNI) (No : SNO) (Nx : SNX) (Nf : SNF) (Na : SNA) (Nh : SNH) (Nq : SNQ) (Nj : SNJ) (M0 : SMT) (r : Int32 × SNP), rec x1 tc Np = some r → o_Cn E l D m_cls (m_tys ca) y_MM_ways cc_MM_ways (rm_MM_ways d) [.ref (ad 0), .int x1] (m_cw ad ca ky ty 48 Ni Np No Nx Nf Na Nh Nq Nj M0 tc) (m_cw ad ca ky ty 48 Ni r.2 No Nx Nf Na Nh Nq Nj M0 tc) (some (.int r.1))) (n : Nat) (x4 : Int32) (tc : SMT) (Np : SNP) (Ni : SNI) (No : SNO) (Nx : SNX) (Nf : SNF) (Na : SNA) (Nh : SNH) (Nq : SNQ) (Nj : SNJ) (M0 : SMT) {r : Int32 × SNP} (h : m_MM_one_j201 n rec x4 tc Np = some r) : o_At p l e (rm_MM_one d) s m args below meth c (MQ below (o_Qx D m_cls (some (.int r.1)) (m_cw ad ca ky ty 48 Ni r.2 No Nx Nf Na Nh Nq Nj M0 tc) A) args s 0 0 A) m_cls D A 6 201 [] (m_cw ad ca ky ty 48 Ni Np No Nx Nf Na Nh Nq Nj M0 tc) [(0, .ref (ad 0)), (4, .int x4)] := by
  unfold m_MM_one_j201 at h
  intro H locs ls hP hS hl
  have C0 := C
  obtain ⟨hx, hb, -, -, -, hown, hts, hK, -, -⟩ := C0
  refine lv_aload_n hx hb d_MM_one_201 rfl (lv_at hl 0 rfl) ?_
  refine lv_iload hx hb d_MM_one_202 (lv_at hl 1 rfl) ?_
  refine lv_iconst (v := (0:Int32)) hx hb d_MM_one_204 (by decide) ?_
  obtain ⟨q15, hq15, h⟩ := o_bd_some h
  refine o_V (st1 := [.int q15.1]) (w1 := (m_cw ad ca ky ty 48 Ni q15.2 No Nx Nf Na Nh Nq Nj M0 tc)) hE.1 C (e_MM_close hE hKy l x4 (0:Int32) Np Ni No Nx Nf Na Nh Nq Nj M0 tc 48 hq15) hP (hDD _ _ _ _ _ _ _ _ _ _ _ _) hS hl.1 rfl mw_0 k_9_117 k_9_119 k_s_100 k_1_12 k_9_120 hv_MM_close rfl rfl ⟨(by dsimp only [rm_MM_one, rm_MM_close]; omega), (by dsimp only [rm_MM_one, rm_MM_close]; omega)⟩ rfl (Nat.le_of_ble_eq_true rfl) ⟨Nat.zero_le _, Nat.zero_le _⟩ rfl d_MM_one_205 (fun H locs hP hS => ?_)
  refine lv_istore_n (lv' := [(3, .int q15.1), (0, .ref (ad 0)), (4, .int x4)]) hx hb d_MM_one_208 rfl hl (by decide) rfl (fun ls hl => ?_)
  refine lv_goto (tgt := 348) hx hb d_MM_one_209 (by decide) ?_
  exact f_MM_one_j348_b hE hKy C hDD d rec hrec n q15.1 tc q15.2 Ni No Nx Nf Na Nh Nq Nj M0 h _ _ _ hP hS (lv_sub hl [1, 0] rfl)
set_option maxHeartbeats 4000000 in
set_option maxRecDepth 100000 in
theorem f_MM_one_j127_b {E : (Nat → Prop) → State → Heap → Prop} {p : Program} {l : Launch} {e : Env} {s : State} {m : MethodId} {args : Array Value} {below : List Frame} {meth : Method} {c : Code} {D : va_G} {ad kd sd vd xd : Nat → Nat} {ca : Nat → ClassId} {A : Nat → Prop} {ky ty : Nat → Option Nat} (hE : o_EK E kd sd vd xd) (hKy : m_KY ky ty sd) (C : o_Cx E p s m args meth c D m_cls (m_tys ca) "SchemaJudgeModel" b_MM_one (some .int) 6 cc_MM_one A) (hDD : ∀ (rt : Nat) (Ni : SNI) (Np : SNP) (No : SNO) (Nx : SNX) (Nf : SNF) (Na : SNA) (Nh : SNH) (Nq : SNQ) (Nj : SNJ) (M0 : SMT) (M1 : SMT), va_D A (m_cw ad ca ky ty rt Ni Np No Nx Nf Na Nh Nq Nj M0 M1)) (d : Nat) (rec : Int32 → SMT → SNP → Option (Int32 × SNP)) (hrec : ∀ (x1 : Int32) (tc : SMT) (Np : SNP) (Ni : SNI) (No : SNO) (Nx : SNX) (Nf : SNF) (Na : SNA) (Nh : SNH) (Nq : SNQ) (Nj : SNJ) (M0 : SMT) (r : Int32 × SNP), rec x1 tc Np = some r → o_Cn E l D m_cls (m_tys ca) y_MM_ways cc_MM_ways (rm_MM_ways d) [.ref (ad 0), .int x1] (m_cw ad ca ky ty 48 Ni Np No Nx Nf Na Nh Nq Nj M0 tc) (m_cw ad ca ky ty 48 Ni r.2 No Nx Nf Na Nh Nq Nj M0 tc) (some (.int r.1))) (n : Nat)  (tc : SMT) (Np : SNP) (Ni : SNI) (No : SNO) (Nx : SNX) (Nf : SNF) (Na : SNA) (Nh : SNH) (Nq : SNQ) (Nj : SNJ) (M0 : SMT) {r : Int32 × SNP} (h : m_MM_one_j127 n rec tc Np = some r) : o_At p l e (rm_MM_one d) s m args below meth c (MQ below (o_Qx D m_cls (some (.int r.1)) (m_cw ad ca ky ty 48 Ni r.2 No Nx Nf Na Nh Nq Nj M0 tc) A) args s 0 0 A) m_cls D A 6 127 [] (m_cw ad ca ky ty 48 Ni Np No Nx Nf Na Nh Nq Nj M0 tc) [(0, .ref (ad 0))] := by
  unfold m_MM_one_j127 at h
  intro H locs ls hP hS hl
  have C0 := C
  obtain ⟨hx, hb, -, -, -, hown, hts, hK, -, -⟩ := C0
  refine lv_aload_n hx hb d_MM_one_127 rfl (lv_at hl 0 rfl) ?_
  obtain ⟨q20, hq20, h⟩ := o_bd_some h
  refine o_V (st1 := [.int q20.1]) (w1 := (m_cw ad ca ky ty 48 Ni q20.2 No Nx Nf Na Nh Nq Nj M0 tc)) hE.1 C (e_MM_no hE hKy l Np Ni No Nx Nf Na Nh Nq Nj M0 tc 48 hq20) hP (hDD _ _ _ _ _ _ _ _ _ _ _ _) hS hl.1 rfl mw_0 k_9_78 k_9_80 k_s_91 k_1_12 k_9_81 hv_MM_no rfl rfl ⟨(by dsimp only [rm_MM_one, rm_MM_no]; omega), (by dsimp only [rm_MM_one, rm_MM_no]; omega)⟩ rfl (Nat.le_of_ble_eq_true rfl) ⟨Nat.zero_le _, Nat.zero_le _⟩ rfl d_MM_one_128 (fun H locs hP hS => ?_)
  cases h
  exact o_ri C hP hS d_MM_one_131
set_option maxHeartbeats 4000000 in
set_option maxRecDepth 100000 in
theorem f_MM_one_j102_b {E : (Nat → Prop) → State → Heap → Prop} {p : Program} {l : Launch} {e : Env} {s : State} {m : MethodId} {args : Array Value} {below : List Frame} {meth : Method} {c : Code} {D : va_G} {ad kd sd vd xd : Nat → Nat} {ca : Nat → ClassId} {A : Nat → Prop} {ky ty : Nat → Option Nat} (hE : o_EK E kd sd vd xd) (hKy : m_KY ky ty sd) (C : o_Cx E p s m args meth c D m_cls (m_tys ca) "SchemaJudgeModel" b_MM_one (some .int) 6 cc_MM_one A) (hDD : ∀ (rt : Nat) (Ni : SNI) (Np : SNP) (No : SNO) (Nx : SNX) (Nf : SNF) (Na : SNA) (Nh : SNH) (Nq : SNQ) (Nj : SNJ) (M0 : SMT) (M1 : SMT), va_D A (m_cw ad ca ky ty rt Ni Np No Nx Nf Na Nh Nq Nj M0 M1)) (d : Nat) (rec : Int32 → SMT → SNP → Option (Int32 × SNP)) (hrec : ∀ (x1 : Int32) (tc : SMT) (Np : SNP) (Ni : SNI) (No : SNO) (Nx : SNX) (Nf : SNF) (Na : SNA) (Nh : SNH) (Nq : SNQ) (Nj : SNJ) (M0 : SMT) (r : Int32 × SNP), rec x1 tc Np = some r → o_Cn E l D m_cls (m_tys ca) y_MM_ways cc_MM_ways (rm_MM_ways d) [.ref (ad 0), .int x1] (m_cw ad ca ky ty 48 Ni Np No Nx Nf Na Nh Nq Nj M0 tc) (m_cw ad ca ky ty 48 Ni r.2 No Nx Nf Na Nh Nq Nj M0 tc) (some (.int r.1))) (n : Nat) (x1 : Int32) (tc : SMT) (Np : SNP) (Ni : SNI) (No : SNO) (Nx : SNX) (Nf : SNF) (Na : SNA) (Nh : SNH) (Nq : SNQ) (Nj : SNJ) (M0 : SMT) {r : Int32 × SNP} (h : m_MM_one_j102 n rec x1 tc Np = some r) : o_At p l e (rm_MM_one d) s m args below meth c (MQ below (o_Qx D m_cls (some (.int r.1)) (m_cw ad ca ky ty 48 Ni r.2 No Nx Nf Na Nh Nq Nj M0 tc) A) args s 0 0 A) m_cls D A 6 102 [] (m_cw ad ca ky ty 48 Ni Np No Nx Nf Na Nh Nq Nj M0 tc) [(0, .ref (ad 0)), (1, .int x1)] := by
  unfold m_MM_one_j102 at h
  intro H locs ls hP hS hl
  have C0 := C
  obtain ⟨hx, hb, -, -, -, hown, hts, hK, -, -⟩ := C0
  refine lv_aload_n hx hb d_MM_one_102 rfl (lv_at hl 0 rfl) ?_
  refine lv_iload_n hx hb d_MM_one_103 rfl (lv_at hl 1 rfl) ?_
  refine lv_iconst (v := (1:Int32)) hx hb d_MM_one_104 (by decide) ?_
  refine lv_iadd hx hb d_MM_one_105 ?_
  obtain ⟨q19, hq19, h⟩ := o_bd_some h
  refine o_V (st1 := [.int q19.1]) (w1 := (m_cw ad ca ky ty 48 Ni q19.2 No Nx Nf Na Nh Nq Nj M0 tc)) hE.1 C (hrec (x1 + (1:Int32)) tc Np Ni No Nx Nf Na Nh Nq Nj M0 _ hq19) hP (hDD _ _ _ _ _ _ _ _ _ _ _ _) hS hl.1 rfl mw_0 k_9_58 k_9_60 k_s_86 k_1_12 k_9_61 hv_MM_ways rfl rfl ⟨(by dsimp only [rm_MM_one, rm_MM_ways]; omega), (by dsimp only [rm_MM_one, rm_MM_ways]; omega)⟩ rfl (Nat.le_of_ble_eq_true rfl) ⟨Nat.zero_le _, Nat.zero_le _⟩ rfl d_MM_one_106 (fun H locs hP hS => ?_)
  refine lv_istore_n (lv' := [(3, .int q19.1), (0, .ref (ad 0)), (1, .int x1)]) hx hb d_MM_one_109 rfl hl (by decide) rfl (fun ls hl => ?_)
  refine lv_aload_n hx hb d_MM_one_110 rfl (lv_at hl 1 rfl) ?_
  refine o_get (v := .int (NP_broken q19.2)) C in_MM hP 0 mw_0 rfl 32 (by decide) k_8_22 rfl rfl d_MM_one_111 ?_
  refine lv_if_ne (tgt := 127) hx hb d_MM_one_114 (by decide) (fun c19 => ?_) (fun c19 => ?_)
  · replace h := o_ff c19 h
    exact f_MM_one_j127_b hE hKy C hDD d rec hrec n tc q19.2 Ni No Nx Nf Na Nh Nq Nj M0 h _ _ _ hP hS (lv_sub hl [1] rfl)
  · replace h := o_tt c19 h
    refine lv_aload_n hx hb d_MM_one_117 rfl (lv_at hl 1 rfl) ?_
    refine lv_iconst (v := (0:Int32)) hx hb d_MM_one_118 (by decide) ?_
    obtain ⟨q21, hq21, h⟩ := o_bd_some h
    refine o_V (st1 := [.int q21]) (w1 := (m_cw ad ca ky ty 48 Ni q19.2 No Nx Nf Na Nh Nq Nj M0 tc)) hE.1 C (e_MM_p_b hE hKy l (0:Int32) tc q19.2 Ni No Nx Nf Na Nh Nq Nj M0 hq21) hP (hDD _ _ _ _ _ _ _ _ _ _ _ _) hS hl.1 rfl mw_0 k_9_70 k_9_72 k_s_89 k_1_12 k_9_73 hv_MM_p rfl rfl ⟨(by dsimp only [rm_MM_one, rm_MM_p]; omega), (by dsimp only [rm_MM_one, rm_MM_p]; omega)⟩ rfl (Nat.le_of_ble_eq_true rfl) ⟨Nat.zero_le _, Nat.zero_le _⟩ rfl d_MM_one_119 (fun H locs hP hS => ?_)
    refine lv_bipush (v := (41:Int32)) hx hb d_MM_one_122 (by decide) ?_
    refine lv_icmp_eq (tgt := 132) hx hb d_MM_one_124 (by decide) (fun c20 => ?_) (fun c20 => ?_)
    · replace h := o_tt c20 h
      refine lv_aload_n hx hb d_MM_one_132 rfl (lv_at hl 1 rfl) ?_
      refine lv_dup hx hb d_MM_one_133 rfl ?_
      refine o_get (v := .int (NP_pat q19.2)) C in_MM hP 0 mw_0 rfl 27 (by decide) k_8_17 rfl rfl d_MM_one_134 ?_
      refine lv_iconst (v := (1:Int32)) hx hb d_MM_one_137 (by decide) ?_
      refine lv_iadd hx hb d_MM_one_138 ?_
      refine o_put (v := .int ((NP_pat q19.2) + (1:Int32))) (ty := .int) (w1 := (m_cw ad ca ky ty 48 Ni (NP_mk (NP_nodeKind q19.2) (NP_nodeA q19.2) (NP_nodeB q19.2) (NP_nodeC q19.2) (NP_nodeNext q19.2) (NP_low q19.2) (NP_high q19.2) (NP_setFrom q19.2) (NP_setTo q19.2) (NP_setNot q19.2) (NP_nodes q19.2) (NP_sets q19.2) (NP_ranges q19.2) ((NP_pat q19.2) + (1:Int32)) (NP_patEnd q19.2) (NP_broken q19.2)) No Nx Nf Na Nh Nq Nj M0 tc)) C in_MM t_MM t_MM_ok n_MM hP (hDD _ _ _ _ _ _ _ _ _ _ _ _) hS 0 mw_0 rfl 27 (by decide) k_8_17 rfl rfl (by decide +kernel) rfl rfl (Nat.le_of_ble_eq_true rfl) rfl d_MM_one_139 (fun H locs hP hS => ?_)
      refine lv_goto (tgt := 348) hx hb d_MM_one_142 (by decide) ?_
      exact f_MM_one_j348_b hE hKy C hDD d rec hrec n q19.1 tc (NP_mk (NP_nodeKind q19.2) (NP_nodeA q19.2) (NP_nodeB q19.2) (NP_nodeC q19.2) (NP_nodeNext q19.2) (NP_low q19.2) (NP_high q19.2) (NP_setFrom q19.2) (NP_setTo q19.2) (NP_setNot q19.2) (NP_nodes q19.2) (NP_sets q19.2) (NP_ranges q19.2) ((NP_pat q19.2) + (1:Int32)) (NP_patEnd q19.2) (NP_broken q19.2)) Ni No Nx Nf Na Nh Nq Nj M0 h _ _ _ hP hS (lv_sub hl [1, 0] rfl)
    · replace h := o_ff c20 h
      exact f_MM_one_j127_b hE hKy C hDD d rec hrec n tc q19.2 Ni No Nx Nf Na Nh Nq Nj M0 h _ _ _ hP hS (lv_sub hl [1] rfl)
set_option maxHeartbeats 4000000 in
set_option maxRecDepth 100000 in
theorem e_MM_one_b {E : (Nat → Prop) → State → Heap → Prop} {D : va_G} {ad kd sd vd xd : Nat → Nat} {ca : Nat → ClassId} {ky ty : Nat → Option Nat} (hE : o_EK E kd sd vd xd) (hKy : m_KY ky ty sd) (l : Launch) (n : Nat) (d : Nat) (rec : Int32 → SMT → SNP → Option (Int32 × SNP)) (hrec : ∀ (x1 : Int32) (tc : SMT) (Np : SNP) (Ni : SNI) (No : SNO) (Nx : SNX) (Nf : SNF) (Na : SNA) (Nh : SNH) (Nq : SNQ) (Nj : SNJ) (M0 : SMT) (r : Int32 × SNP), rec x1 tc Np = some r → o_Cn E l D m_cls (m_tys ca) y_MM_ways cc_MM_ways (rm_MM_ways d) [.ref (ad 0), .int x1] (m_cw ad ca ky ty 48 Ni Np No Nx Nf Na Nh Nq Nj M0 tc) (m_cw ad ca ky ty 48 Ni r.2 No Nx Nf Na Nh Nq Nj M0 tc) (some (.int r.1))) (x1 : Int32) (tc : SMT) (Np : SNP) (Ni : SNI) (No : SNO) (Nx : SNX) (Nf : SNF) (Na : SNA) (Nh : SNH) (Nq : SNQ) (Nj : SNJ) (M0 : SMT) {r : Int32 × SNP} (h : m_MM_one n rec x1 tc Np = some r) : o_Cn E l D m_cls (m_tys ca) y_MM_one cc_MM_one (rm_MM_one d) [.ref (ad 0), .int x1] (m_cw ad ca ky ty 48 Ni Np No Nx Nf Na Nh Nq Nj M0 tc) (m_cw ad ca ky ty 48 Ni r.2 No Nx Nf Na Nh Nq Nj M0 tc) (some (.int r.1)) := by
  refine o_Cn_of (by decide) (Nat.le_of_ble_eq_true rfl) ?_
  intro p e s m below meth c A ls C hD hP hS hl
  have hDD : ∀ (rt : Nat) (Ni : SNI) (Np : SNP) (No : SNO) (Nx : SNX) (Nf : SNF) (Na : SNA) (Nh : SNH) (Nq : SNQ) (Nj : SNJ) (M0 : SMT) (M1 : SMT), va_D A (m_cw ad ca ky ty rt Ni Np No Nx Nf Na Nh Nq Nj M0 M1) := fun _ _ _ _ _ _ _ _ _ _ _ _ => o_D_map hD rfl
  have hl : lv_has ls 6 [(0, .ref (ad 0)), (1, .int x1)] := hl
  unfold m_MM_one at h
  have C0 := C
  obtain ⟨hx, hb, -, -, -, hown, hts, hK, -, -⟩ := C0
  refine lv_aload_n hx hb d_MM_one_0 rfl (lv_at hl 0 rfl) ?_
  refine lv_iconst (v := (0:Int32)) hx hb d_MM_one_1 (by decide) ?_
  obtain ⟨q1, hq1, h⟩ := o_bd_some h
  refine o_V (st1 := [.int q1]) (w1 := (m_cw ad ca ky ty 48 Ni Np No Nx Nf Na Nh Nq Nj M0 tc)) hE.1 C (e_MM_p_b hE hKy l (0:Int32) tc Np Ni No Nx Nf Na Nh Nq Nj M0 hq1) hP (hDD _ _ _ _ _ _ _ _ _ _ _ _) hS hl.1 rfl mw_0 k_9_70 k_9_72 k_s_89 k_1_12 k_9_73 hv_MM_p rfl rfl ⟨(by dsimp only [rm_MM_one, rm_MM_p]; omega), (by dsimp only [rm_MM_one, rm_MM_p]; omega)⟩ rfl (Nat.le_of_ble_eq_true rfl) ⟨Nat.zero_le _, Nat.zero_le _⟩ rfl d_MM_one_2 (fun H locs hP hS => ?_)
  refine lv_istore_n (lv' := [(2, .int q1), (0, .ref (ad 0)), (1, .int x1)]) hx hb d_MM_one_5 rfl hl (by decide) rfl (fun ls hl => ?_)
  refine lv_iload_n hx hb d_MM_one_6 rfl (lv_at hl 0 rfl) ?_
  refine lv_bipush (v := (94:Int32)) hx hb d_MM_one_7 (by decide) ?_
  refine lv_icmp_eq (tgt := 18) hx hb d_MM_one_9 (by decide) (fun c1 => ?_) (fun c1 => ?_)
  · replace h := o_tt c1 h
    exact f_MM_one_j18_b hE hKy C hDD d rec hrec n q1 tc Np Ni No Nx Nf Na Nh Nq Nj M0 h _ _ _ hP hS (lv_sub hl [1, 0] rfl)
  · replace h := o_ff c1 h
    refine lv_iload_n hx hb d_MM_one_12 rfl (lv_at hl 0 rfl) ?_
    refine lv_bipush (v := (36:Int32)) hx hb d_MM_one_13 (by decide) ?_
    refine lv_icmp_ne (tgt := 45) hx hb d_MM_one_15 (by decide) (fun c3 => ?_) (fun c3 => ?_)
    · replace h := o_ff c3 h
      refine lv_iload_n hx hb d_MM_one_45 rfl (lv_at hl 0 rfl) ?_
      refine lv_bipush (v := (40:Int32)) hx hb d_MM_one_46 (by decide) ?_
      refine lv_icmp_ne (tgt := 145) hx hb d_MM_one_48 (by decide) (fun c4 => ?_) (fun c4 => ?_)
      · replace h := o_ff c4 h
        refine lv_iload_n hx hb d_MM_one_145 rfl (lv_at hl 0 rfl) ?_
        refine lv_bipush (v := (91:Int32)) hx hb d_MM_one_146 (by decide) ?_
        refine lv_icmp_ne (tgt := 159) hx hb d_MM_one_148 (by decide) (fun c5 => ?_) (fun c5 => ?_)
        · replace h := o_ff c5 h
          refine lv_iload_n hx hb d_MM_one_159 rfl (lv_at hl 0 rfl) ?_
          refine lv_bipush (v := (92:Int32)) hx hb d_MM_one_160 (by decide) ?_
          refine lv_icmp_ne (tgt := 212) hx hb d_MM_one_162 (by decide) (fun c6 => ?_) (fun c6 => ?_)
          · replace h := o_ff c6 h
            refine lv_iload_n hx hb d_MM_one_212 rfl (lv_at hl 0 rfl) ?_
            refine lv_bipush (v := (46:Int32)) hx hb d_MM_one_213 (by decide) ?_
            refine lv_icmp_ne (tgt := 271) hx hb d_MM_one_215 (by decide) (fun c7 => ?_) (fun c7 => ?_)
            · replace h := o_ff c7 h
              refine lv_iload_n hx hb d_MM_one_271 rfl (lv_at hl 0 rfl) ?_
              refine lv_bipush (v := (42:Int32)) hx hb d_MM_one_272 (by decide) ?_
              refine lv_icmp_eq (tgt := 313) hx hb d_MM_one_274 (by decide) (fun c8 => ?_) (fun c8 => ?_)
              · replace h := o_tt c8 h
                exact f_MM_one_j313_b hE hKy C hDD d rec hrec n tc Np Ni No Nx Nf Na Nh Nq Nj M0 h _ _ _ hP hS (lv_sub hl [1] rfl)
              · replace h := o_ff c8 h
                refine lv_iload_n hx hb d_MM_one_277 rfl (lv_at hl 0 rfl) ?_
                refine lv_bipush (v := (43:Int32)) hx hb d_MM_one_278 (by decide) ?_
                refine lv_icmp_eq (tgt := 313) hx hb d_MM_one_280 (by decide) (fun c9 => ?_) (fun c9 => ?_)
                · replace h := o_tt c9 h
                  exact f_MM_one_j313_b hE hKy C hDD d rec hrec n tc Np Ni No Nx Nf Na Nh Nq Nj M0 h _ _ _ hP hS (lv_sub hl [1] rfl)
                · replace h := o_ff c9 h
                  refine lv_iload_n hx hb d_MM_one_283 rfl (lv_at hl 0 rfl) ?_
                  refine lv_bipush (v := (63:Int32)) hx hb d_MM_one_284 (by decide) ?_
                  refine lv_icmp_eq (tgt := 313) hx hb d_MM_one_286 (by decide) (fun c10 => ?_) (fun c10 => ?_)
                  · replace h := o_tt c10 h
                    exact f_MM_one_j313_b hE hKy C hDD d rec hrec n tc Np Ni No Nx Nf Na Nh Nq Nj M0 h _ _ _ hP hS (lv_sub hl [1] rfl)
                  · replace h := o_ff c10 h
                    refine lv_iload_n hx hb d_MM_one_289 rfl (lv_at hl 0 rfl) ?_
                    refine lv_bipush (v := (41:Int32)) hx hb d_MM_one_290 (by decide) ?_
                    refine lv_icmp_eq (tgt := 313) hx hb d_MM_one_292 (by decide) (fun c11 => ?_) (fun c11 => ?_)
                    · replace h := o_tt c11 h
                      exact f_MM_one_j313_b hE hKy C hDD d rec hrec n tc Np Ni No Nx Nf Na Nh Nq Nj M0 h _ _ _ hP hS (lv_sub hl [1] rfl)
                    · replace h := o_ff c11 h
                      refine lv_iload_n hx hb d_MM_one_295 rfl (lv_at hl 0 rfl) ?_
                      refine lv_bipush (v := (93:Int32)) hx hb d_MM_one_296 (by decide) ?_
                      refine lv_icmp_eq (tgt := 313) hx hb d_MM_one_298 (by decide) (fun c12 => ?_) (fun c12 => ?_)
                      · replace h := o_tt c12 h
                        exact f_MM_one_j313_b hE hKy C hDD d rec hrec n tc Np Ni No Nx Nf Na Nh Nq Nj M0 h _ _ _ hP hS (lv_sub hl [1] rfl)
                      · replace h := o_ff c12 h
                        refine lv_iload_n hx hb d_MM_one_301 rfl (lv_at hl 0 rfl) ?_
                        refine lv_bipush (v := (123:Int32)) hx hb d_MM_one_302 (by decide) ?_
                        refine lv_icmp_eq (tgt := 313) hx hb d_MM_one_304 (by decide) (fun c13 => ?_) (fun c13 => ?_)
                        · replace h := o_tt c13 h
                          exact f_MM_one_j313_b hE hKy C hDD d rec hrec n tc Np Ni No Nx Nf Na Nh Nq Nj M0 h _ _ _ hP hS (lv_sub hl [1] rfl)
                        · replace h := o_ff c13 h
                          refine lv_iload_n hx hb d_MM_one_307 rfl (lv_at hl 0 rfl) ?_
                          refine lv_bipush (v := (125:Int32)) hx hb d_MM_one_308 (by decide) ?_
                          refine lv_icmp_ne (tgt := 318) hx hb d_MM_one_310 (by decide) (fun c14 => ?_) (fun c14 => ?_)
                          · replace h := o_ff c14 h
                            refine lv_aload_n hx hb d_MM_one_318 rfl (lv_at hl 1 rfl) ?_
                            refine lv_dup hx hb d_MM_one_319 rfl ?_
                            refine o_get (v := .int (NP_pat Np)) C in_MM hP 0 mw_0 rfl 27 (by decide) k_8_17 rfl rfl d_MM_one_320 ?_
                            refine lv_iconst (v := (1:Int32)) hx hb d_MM_one_323 (by decide) ?_
                            refine lv_iadd hx hb d_MM_one_324 ?_
                            refine o_put (v := .int ((NP_pat Np) + (1:Int32))) (ty := .int) (w1 := (m_cw ad ca ky ty 48 Ni (NP_mk (NP_nodeKind Np) (NP_nodeA Np) (NP_nodeB Np) (NP_nodeC Np) (NP_nodeNext Np) (NP_low Np) (NP_high Np) (NP_setFrom Np) (NP_setTo Np) (NP_setNot Np) (NP_nodes Np) (NP_sets Np) (NP_ranges Np) ((NP_pat Np) + (1:Int32)) (NP_patEnd Np) (NP_broken Np)) No Nx Nf Na Nh Nq Nj M0 tc)) C in_MM t_MM t_MM_ok n_MM hP (hDD _ _ _ _ _ _ _ _ _ _ _ _) hS 0 mw_0 rfl 27 (by decide) k_8_17 rfl rfl (by decide +kernel) rfl rfl (Nat.le_of_ble_eq_true rfl) rfl d_MM_one_325 (fun H locs hP hS => ?_)
                            refine lv_aload_n hx hb d_MM_one_328 rfl (lv_at hl 1 rfl) ?_
                            obtain ⟨q4, hq4, h⟩ := o_bd_some h
                            refine o_V (st1 := [.int q4]) (w1 := (m_cw ad ca ky ty 48 Ni (NP_mk (NP_nodeKind Np) (NP_nodeA Np) (NP_nodeB Np) (NP_nodeC Np) (NP_nodeNext Np) (NP_low Np) (NP_high Np) (NP_setFrom Np) (NP_setTo Np) (NP_setNot Np) (NP_nodes Np) (NP_sets Np) (NP_ranges Np) ((NP_pat Np) + (1:Int32)) (NP_patEnd Np) (NP_broken Np)) No Nx Nf Na Nh Nq Nj M0 tc)) hE.1 C (e_MM_begin hE hKy l (NP_mk (NP_nodeKind Np) (NP_nodeA Np) (NP_nodeB Np) (NP_nodeC Np) (NP_nodeNext Np) (NP_low Np) (NP_high Np) (NP_setFrom Np) (NP_setTo Np) (NP_setNot Np) (NP_nodes Np) (NP_sets Np) (NP_ranges Np) ((NP_pat Np) + (1:Int32)) (NP_patEnd Np) (NP_broken Np)) Ni No Nx Nf Na Nh Nq Nj M0 tc 48 hq4) hP (hDD _ _ _ _ _ _ _ _ _ _ _ _) hS hl.1 rfl mw_0 k_9_86 k_9_88 k_s_93 k_1_12 k_9_89 hv_MM_begin rfl rfl ⟨(by dsimp only [rm_MM_one, rm_MM_begin]; omega), (by dsimp only [rm_MM_one, rm_MM_begin]; omega)⟩ rfl (Nat.le_of_ble_eq_true rfl) ⟨Nat.zero_le _, Nat.zero_le _⟩ rfl d_MM_one_329 (fun H locs hP hS => ?_)
                            refine lv_istore (lv' := [(4, .int q4), (2, .int q1), (0, .ref (ad 0)), (1, .int x1)]) hx hb d_MM_one_332 hl (by decide) rfl (fun ls hl => ?_)
                            refine lv_aload_n hx hb d_MM_one_334 rfl (lv_at hl 2 rfl) ?_
                            refine lv_iload_n hx hb d_MM_one_335 rfl (lv_at hl 1 rfl) ?_
                            refine lv_iload_n hx hb d_MM_one_336 rfl (lv_at hl 1 rfl) ?_
                            obtain ⟨q5, hq5, h⟩ := o_bd_some h
                            refine o_V (st1 := []) (w1 := (m_cw ad ca ky ty 48 Ni q5 No Nx Nf Na Nh Nq Nj M0 tc)) hE.1 C (e_MM_range hE hKy l q1 q1 (NP_mk (NP_nodeKind Np) (NP_nodeA Np) (NP_nodeB Np) (NP_nodeC Np) (NP_nodeNext Np) (NP_low Np) (NP_high Np) (NP_setFrom Np) (NP_setTo Np) (NP_setNot Np) (NP_nodes Np) (NP_sets Np) (NP_ranges Np) ((NP_pat Np) + (1:Int32)) (NP_patEnd Np) (NP_broken Np)) Ni No Nx Nf Na Nh Nq Nj M0 tc 48 hq5) hP (hDD _ _ _ _ _ _ _ _ _ _ _ _) hS hl.1 rfl mw_0 k_9_102 k_9_104 k_s_97 k_1_12 k_9_105 hv_MM_range rfl rfl ⟨(by dsimp only [rm_MM_one, rm_MM_range]; omega), (by dsimp only [rm_MM_one, rm_MM_range]; omega)⟩ rfl (Nat.le_of_ble_eq_true rfl) ⟨Nat.zero_le _, Nat.zero_le _⟩ rfl d_MM_one_337 (fun H locs hP hS => ?_)
                            refine lv_aload_n hx hb d_MM_one_340 rfl (lv_at hl 2 rfl) ?_
                            refine lv_iload hx hb d_MM_one_341 (lv_at hl 0 rfl) ?_
                            refine lv_iconst (v := (0:Int32)) hx hb d_MM_one_343 (by decide) ?_
                            obtain ⟨q6, hq6, h⟩ := o_bd_some h
                            refine o_V (st1 := [.int q6.1]) (w1 := (m_cw ad ca ky ty 48 Ni q6.2 No Nx Nf Na Nh Nq Nj M0 tc)) hE.1 C (e_MM_close hE hKy l q4 (0:Int32) q5 Ni No Nx Nf Na Nh Nq Nj M0 tc 48 hq6) hP (hDD _ _ _ _ _ _ _ _ _ _ _ _) hS hl.1 rfl mw_0 k_9_117 k_9_119 k_s_100 k_1_12 k_9_120 hv_MM_close rfl rfl ⟨(by dsimp only [rm_MM_one, rm_MM_close]; omega), (by dsimp only [rm_MM_one, rm_MM_close]; omega)⟩ rfl (Nat.le_of_ble_eq_true rfl) ⟨Nat.zero_le _, Nat.zero_le _⟩ rfl d_MM_one_344 (fun H locs hP hS => ?_)
                            refine lv_istore_n (lv' := [(3, .int q6.1), (4, .int q4), (2, .int q1), (0, .ref (ad 0)), (1, .int x1)]) hx hb d_MM_one_347 rfl hl (by decide) rfl (fun ls hl => ?_)
                            exact f_MM_one_j348_b hE hKy C hDD d rec hrec n q6.1 tc q6.2 Ni No Nx Nf Na Nh Nq Nj M0 h _ _ _ hP hS (lv_sub hl [3, 0] rfl)
                          · replace h := o_tt c14 h
                            exact f_MM_one_j313_b hE hKy C hDD d rec hrec n tc Np Ni No Nx Nf Na Nh Nq Nj M0 h _ _ _ hP hS (lv_sub hl [1] rfl)
            · replace h := o_tt c7 h
              refine lv_aload_n hx hb d_MM_one_218 rfl (lv_at hl 1 rfl) ?_
              refine lv_dup hx hb d_MM_one_219 rfl ?_
              refine o_get (v := .int (NP_pat Np)) C in_MM hP 0 mw_0 rfl 27 (by decide) k_8_17 rfl rfl d_MM_one_220 ?_
              refine lv_iconst (v := (1:Int32)) hx hb d_MM_one_223 (by decide) ?_
              refine lv_iadd hx hb d_MM_one_224 ?_
              refine o_put (v := .int ((NP_pat Np) + (1:Int32))) (ty := .int) (w1 := (m_cw ad ca ky ty 48 Ni (NP_mk (NP_nodeKind Np) (NP_nodeA Np) (NP_nodeB Np) (NP_nodeC Np) (NP_nodeNext Np) (NP_low Np) (NP_high Np) (NP_setFrom Np) (NP_setTo Np) (NP_setNot Np) (NP_nodes Np) (NP_sets Np) (NP_ranges Np) ((NP_pat Np) + (1:Int32)) (NP_patEnd Np) (NP_broken Np)) No Nx Nf Na Nh Nq Nj M0 tc)) C in_MM t_MM t_MM_ok n_MM hP (hDD _ _ _ _ _ _ _ _ _ _ _ _) hS 0 mw_0 rfl 27 (by decide) k_8_17 rfl rfl (by decide +kernel) rfl rfl (Nat.le_of_ble_eq_true rfl) rfl d_MM_one_225 (fun H locs hP hS => ?_)
              refine lv_aload_n hx hb d_MM_one_228 rfl (lv_at hl 1 rfl) ?_
              obtain ⟨q8, hq8, h⟩ := o_bd_some h
              refine o_V (st1 := [.int q8]) (w1 := (m_cw ad ca ky ty 48 Ni (NP_mk (NP_nodeKind Np) (NP_nodeA Np) (NP_nodeB Np) (NP_nodeC Np) (NP_nodeNext Np) (NP_low Np) (NP_high Np) (NP_setFrom Np) (NP_setTo Np) (NP_setNot Np) (NP_nodes Np) (NP_sets Np) (NP_ranges Np) ((NP_pat Np) + (1:Int32)) (NP_patEnd Np) (NP_broken Np)) No Nx Nf Na Nh Nq Nj M0 tc)) hE.1 C (e_MM_begin hE hKy l (NP_mk (NP_nodeKind Np) (NP_nodeA Np) (NP_nodeB Np) (NP_nodeC Np) (NP_nodeNext Np) (NP_low Np) (NP_high Np) (NP_setFrom Np) (NP_setTo Np) (NP_setNot Np) (NP_nodes Np) (NP_sets Np) (NP_ranges Np) ((NP_pat Np) + (1:Int32)) (NP_patEnd Np) (NP_broken Np)) Ni No Nx Nf Na Nh Nq Nj M0 tc 48 hq8) hP (hDD _ _ _ _ _ _ _ _ _ _ _ _) hS hl.1 rfl mw_0 k_9_86 k_9_88 k_s_93 k_1_12 k_9_89 hv_MM_begin rfl rfl ⟨(by dsimp only [rm_MM_one, rm_MM_begin]; omega), (by dsimp only [rm_MM_one, rm_MM_begin]; omega)⟩ rfl (Nat.le_of_ble_eq_true rfl) ⟨Nat.zero_le _, Nat.zero_le _⟩ rfl d_MM_one_229 (fun H locs hP hS => ?_)
              refine lv_istore (lv' := [(4, .int q8), (2, .int q1), (0, .ref (ad 0)), (1, .int x1)]) hx hb d_MM_one_232 hl (by decide) rfl (fun ls hl => ?_)
              refine lv_aload_n hx hb d_MM_one_234 rfl (lv_at hl 2 rfl) ?_
              refine lv_bipush (v := (10:Int32)) hx hb d_MM_one_235 (by decide) ?_
              refine lv_bipush (v := (10:Int32)) hx hb d_MM_one_237 (by decide) ?_
              obtain ⟨q9, hq9, h⟩ := o_bd_some h
              refine o_V (st1 := []) (w1 := (m_cw ad ca ky ty 48 Ni q9 No Nx Nf Na Nh Nq Nj M0 tc)) hE.1 C (e_MM_range hE hKy l (10:Int32) (10:Int32) (NP_mk (NP_nodeKind Np) (NP_nodeA Np) (NP_nodeB Np) (NP_nodeC Np) (NP_nodeNext Np) (NP_low Np) (NP_high Np) (NP_setFrom Np) (NP_setTo Np) (NP_setNot Np) (NP_nodes Np) (NP_sets Np) (NP_ranges Np) ((NP_pat Np) + (1:Int32)) (NP_patEnd Np) (NP_broken Np)) Ni No Nx Nf Na Nh Nq Nj M0 tc 48 hq9) hP (hDD _ _ _ _ _ _ _ _ _ _ _ _) hS hl.1 rfl mw_0 k_9_102 k_9_104 k_s_97 k_1_12 k_9_105 hv_MM_range rfl rfl ⟨(by dsimp only [rm_MM_one, rm_MM_range]; omega), (by dsimp only [rm_MM_one, rm_MM_range]; omega)⟩ rfl (Nat.le_of_ble_eq_true rfl) ⟨Nat.zero_le _, Nat.zero_le _⟩ rfl d_MM_one_239 (fun H locs hP hS => ?_)
              refine lv_aload_n hx hb d_MM_one_242 rfl (lv_at hl 2 rfl) ?_
              refine lv_bipush (v := (13:Int32)) hx hb d_MM_one_243 (by decide) ?_
              refine lv_bipush (v := (13:Int32)) hx hb d_MM_one_245 (by decide) ?_
              obtain ⟨q10, hq10, h⟩ := o_bd_some h
              refine o_V (st1 := []) (w1 := (m_cw ad ca ky ty 48 Ni q10 No Nx Nf Na Nh Nq Nj M0 tc)) hE.1 C (e_MM_range hE hKy l (13:Int32) (13:Int32) q9 Ni No Nx Nf Na Nh Nq Nj M0 tc 48 hq10) hP (hDD _ _ _ _ _ _ _ _ _ _ _ _) hS hl.1 rfl mw_0 k_9_102 k_9_104 k_s_97 k_1_12 k_9_105 hv_MM_range rfl rfl ⟨(by dsimp only [rm_MM_one, rm_MM_range]; omega), (by dsimp only [rm_MM_one, rm_MM_range]; omega)⟩ rfl (Nat.le_of_ble_eq_true rfl) ⟨Nat.zero_le _, Nat.zero_le _⟩ rfl d_MM_one_247 (fun H locs hP hS => ?_)
              refine lv_aload_n hx hb d_MM_one_250 rfl (lv_at hl 2 rfl) ?_
              refine lv_sipush (v := (8232:Int32)) hx hb d_MM_one_251 (by decide) ?_
              refine lv_sipush (v := (8233:Int32)) hx hb d_MM_one_254 (by decide) ?_
              obtain ⟨q11, hq11, h⟩ := o_bd_some h
              refine o_V (st1 := []) (w1 := (m_cw ad ca ky ty 48 Ni q11 No Nx Nf Na Nh Nq Nj M0 tc)) hE.1 C (e_MM_range hE hKy l (8232:Int32) (8233:Int32) q10 Ni No Nx Nf Na Nh Nq Nj M0 tc 48 hq11) hP (hDD _ _ _ _ _ _ _ _ _ _ _ _) hS hl.1 rfl mw_0 k_9_102 k_9_104 k_s_97 k_1_12 k_9_105 hv_MM_range rfl rfl ⟨(by dsimp only [rm_MM_one, rm_MM_range]; omega), (by dsimp only [rm_MM_one, rm_MM_range]; omega)⟩ rfl (Nat.le_of_ble_eq_true rfl) ⟨Nat.zero_le _, Nat.zero_le _⟩ rfl d_MM_one_257 (fun H locs hP hS => ?_)
              refine lv_aload_n hx hb d_MM_one_260 rfl (lv_at hl 2 rfl) ?_
              refine lv_iload hx hb d_MM_one_261 (lv_at hl 0 rfl) ?_
              refine lv_iconst (v := (1:Int32)) hx hb d_MM_one_263 (by decide) ?_
              obtain ⟨q12, hq12, h⟩ := o_bd_some h
              refine o_V (st1 := [.int q12.1]) (w1 := (m_cw ad ca ky ty 48 Ni q12.2 No Nx Nf Na Nh Nq Nj M0 tc)) hE.1 C (e_MM_close hE hKy l q8 (1:Int32) q11 Ni No Nx Nf Na Nh Nq Nj M0 tc 48 hq12) hP (hDD _ _ _ _ _ _ _ _ _ _ _ _) hS hl.1 rfl mw_0 k_9_117 k_9_119 k_s_100 k_1_12 k_9_120 hv_MM_close rfl rfl ⟨(by dsimp only [rm_MM_one, rm_MM_close]; omega), (by dsimp only [rm_MM_one, rm_MM_close]; omega)⟩ rfl (Nat.le_of_ble_eq_true rfl) ⟨Nat.zero_le _, Nat.zero_le _⟩ rfl d_MM_one_264 (fun H locs hP hS => ?_)
              refine lv_istore_n (lv' := [(3, .int q12.1), (4, .int q8), (2, .int q1), (0, .ref (ad 0)), (1, .int x1)]) hx hb d_MM_one_267 rfl hl (by decide) rfl (fun ls hl => ?_)
              refine lv_goto (tgt := 348) hx hb d_MM_one_268 (by decide) ?_
              exact f_MM_one_j348_b hE hKy C hDD d rec hrec n q12.1 tc q12.2 Ni No Nx Nf Na Nh Nq Nj M0 h _ _ _ hP hS (lv_sub hl [3, 0] rfl)
          · replace h := o_tt c6 h
            refine lv_aload_n hx hb d_MM_one_165 rfl (lv_at hl 1 rfl) ?_
            refine lv_dup hx hb d_MM_one_166 rfl ?_
            refine o_get (v := .int (NP_pat Np)) C in_MM hP 0 mw_0 rfl 27 (by decide) k_8_17 rfl rfl d_MM_one_167 ?_
            refine lv_iconst (v := (1:Int32)) hx hb d_MM_one_170 (by decide) ?_
            refine lv_iadd hx hb d_MM_one_171 ?_
            refine o_put (v := .int ((NP_pat Np) + (1:Int32))) (ty := .int) (w1 := (m_cw ad ca ky ty 48 Ni (NP_mk (NP_nodeKind Np) (NP_nodeA Np) (NP_nodeB Np) (NP_nodeC Np) (NP_nodeNext Np) (NP_low Np) (NP_high Np) (NP_setFrom Np) (NP_setTo Np) (NP_setNot Np) (NP_nodes Np) (NP_sets Np) (NP_ranges Np) ((NP_pat Np) + (1:Int32)) (NP_patEnd Np) (NP_broken Np)) No Nx Nf Na Nh Nq Nj M0 tc)) C in_MM t_MM t_MM_ok n_MM hP (hDD _ _ _ _ _ _ _ _ _ _ _ _) hS 0 mw_0 rfl 27 (by decide) k_8_17 rfl rfl (by decide +kernel) rfl rfl (Nat.le_of_ble_eq_true rfl) rfl d_MM_one_172 (fun H locs hP hS => ?_)
            refine lv_aload_n hx hb d_MM_one_175 rfl (lv_at hl 1 rfl) ?_
            obtain ⟨q13, hq13, h⟩ := o_bd_some h
            refine o_V (st1 := [.int q13]) (w1 := (m_cw ad ca ky ty 48 Ni (NP_mk (NP_nodeKind Np) (NP_nodeA Np) (NP_nodeB Np) (NP_nodeC Np) (NP_nodeNext Np) (NP_low Np) (NP_high Np) (NP_setFrom Np) (NP_setTo Np) (NP_setNot Np) (NP_nodes Np) (NP_sets Np) (NP_ranges Np) ((NP_pat Np) + (1:Int32)) (NP_patEnd Np) (NP_broken Np)) No Nx Nf Na Nh Nq Nj M0 tc)) hE.1 C (e_MM_begin hE hKy l (NP_mk (NP_nodeKind Np) (NP_nodeA Np) (NP_nodeB Np) (NP_nodeC Np) (NP_nodeNext Np) (NP_low Np) (NP_high Np) (NP_setFrom Np) (NP_setTo Np) (NP_setNot Np) (NP_nodes Np) (NP_sets Np) (NP_ranges Np) ((NP_pat Np) + (1:Int32)) (NP_patEnd Np) (NP_broken Np)) Ni No Nx Nf Na Nh Nq Nj M0 tc 48 hq13) hP (hDD _ _ _ _ _ _ _ _ _ _ _ _) hS hl.1 rfl mw_0 k_9_86 k_9_88 k_s_93 k_1_12 k_9_89 hv_MM_begin rfl rfl ⟨(by dsimp only [rm_MM_one, rm_MM_begin]; omega), (by dsimp only [rm_MM_one, rm_MM_begin]; omega)⟩ rfl (Nat.le_of_ble_eq_true rfl) ⟨Nat.zero_le _, Nat.zero_le _⟩ rfl d_MM_one_176 (fun H locs hP hS => ?_)
            refine lv_istore (lv' := [(4, .int q13), (2, .int q1), (0, .ref (ad 0)), (1, .int x1)]) hx hb d_MM_one_179 hl (by decide) rfl (fun ls hl => ?_)
            refine lv_aload_n hx hb d_MM_one_181 rfl (lv_at hl 2 rfl) ?_
            refine lv_iconst (v := (0:Int32)) hx hb d_MM_one_182 (by decide) ?_
            obtain ⟨q14, hq14, h⟩ := o_bd_some h
            refine o_V (st1 := [.int q14.1]) (w1 := (m_cw ad ca ky ty 48 Ni q14.2 No Nx Nf Na Nh Nq Nj M0 tc)) hE.1 C (e_MM_escape_b hE hKy l n (0:Int32) tc (NP_mk (NP_nodeKind Np) (NP_nodeA Np) (NP_nodeB Np) (NP_nodeC Np) (NP_nodeNext Np) (NP_low Np) (NP_high Np) (NP_setFrom Np) (NP_setTo Np) (NP_setNot Np) (NP_nodes Np) (NP_sets Np) (NP_ranges Np) ((NP_pat Np) + (1:Int32)) (NP_patEnd Np) (NP_broken Np)) Ni No Nx Nf Na Nh Nq Nj M0 hq14) hP (hDD _ _ _ _ _ _ _ _ _ _ _ _) hS hl.1 rfl mw_0 k_9_94 k_9_96 k_s_95 k_1_12 k_9_97 hv_MM_escape rfl rfl ⟨(by dsimp only [rm_MM_one, rm_MM_escape]; omega), (by dsimp only [rm_MM_one, rm_MM_escape]; omega)⟩ rfl (Nat.le_of_ble_eq_true rfl) ⟨Nat.zero_le _, Nat.zero_le _⟩ rfl d_MM_one_183 (fun H locs hP hS => ?_)
            refine lv_istore (lv' := [(5, .int q14.1), (4, .int q13), (2, .int q1), (0, .ref (ad 0)), (1, .int x1)]) hx hb d_MM_one_186 hl (by decide) rfl (fun ls hl => ?_)
            refine lv_iload hx hb d_MM_one_188 (lv_at hl 0 rfl) ?_
            refine lv_if_lt (tgt := 201) hx hb d_MM_one_190 (by decide) (fun c16 => ?_) (fun c16 => ?_)
            · replace h := o_tt c16 h
              exact f_MM_one_j201_b hE hKy C hDD d rec hrec n q13 tc q14.2 Ni No Nx Nf Na Nh Nq Nj M0 h _ _ _ hP hS (lv_sub hl [3, 1] rfl)
            · replace h := o_ff c16 h
              refine lv_aload_n hx hb d_MM_one_193 rfl (lv_at hl 3 rfl) ?_
              refine lv_iload hx hb d_MM_one_194 (lv_at hl 0 rfl) ?_
              refine lv_iload hx hb d_MM_one_196 (lv_at hl 0 rfl) ?_
              obtain ⟨q16, hq16, h⟩ := o_bd_some h
              refine o_V (st1 := []) (w1 := (m_cw ad ca ky ty 48 Ni q16 No Nx Nf Na Nh Nq Nj M0 tc)) hE.1 C (e_MM_range hE hKy l q14.1 q14.1 q14.2 Ni No Nx Nf Na Nh Nq Nj M0 tc 48 hq16) hP (hDD _ _ _ _ _ _ _ _ _ _ _ _) hS hl.1 rfl mw_0 k_9_102 k_9_104 k_s_97 k_1_12 k_9_105 hv_MM_range rfl rfl ⟨(by dsimp only [rm_MM_one, rm_MM_range]; omega), (by dsimp only [rm_MM_one, rm_MM_range]; omega)⟩ rfl (Nat.le_of_ble_eq_true rfl) ⟨Nat.zero_le _, Nat.zero_le _⟩ rfl d_MM_one_198 (fun H locs hP hS => ?_)
              exact f_MM_one_j201_b hE hKy C hDD d rec hrec n q13 tc q16 Ni No Nx Nf Na Nh Nq Nj M0 h _ _ _ hP hS (lv_sub hl [3, 1] rfl)
        · replace h := o_tt c5 h
          refine lv_aload_n hx hb d_MM_one_151 rfl (lv_at hl 1 rfl) ?_
          obtain ⟨q17, hq17, h⟩ := o_bd_some h
          refine o_V (st1 := [.int q17.1]) (w1 := (m_cw ad ca ky ty 48 Ni q17.2 No Nx Nf Na Nh Nq Nj M0 tc)) hE.1 C (e_MM_choice_b hE hKy l n tc Np Ni No Nx Nf Na Nh Nq Nj M0 hq17) hP (hDD _ _ _ _ _ _ _ _ _ _ _ _) hS hl.1 rfl mw_0 k_9_82 k_9_84 k_s_92 k_1_12 k_9_85 hv_MM_choice rfl rfl ⟨(by dsimp only [rm_MM_one, rm_MM_choice]; omega), (by dsimp only [rm_MM_one, rm_MM_choice]; omega)⟩ rfl (Nat.le_of_ble_eq_true rfl) ⟨Nat.zero_le _, Nat.zero_le _⟩ rfl d_MM_one_152 (fun H locs hP hS => ?_)
          refine lv_istore_n (lv' := [(3, .int q17.1), (2, .int q1), (0, .ref (ad 0)), (1, .int x1)]) hx hb d_MM_one_155 rfl hl (by decide) rfl (fun ls hl => ?_)
          refine lv_goto (tgt := 348) hx hb d_MM_one_156 (by decide) ?_
          exact f_MM_one_j348_b hE hKy C hDD d rec hrec n q17.1 tc q17.2 Ni No Nx Nf Na Nh Nq Nj M0 h _ _ _ hP hS (lv_sub hl [2, 0] rfl)
      · replace h := o_tt c4 h
        refine lv_iload_n hx hb d_MM_one_51 rfl (lv_at hl 2 rfl) ?_
        refine lv_bipush (v := (30:Int32)) hx hb d_MM_one_52 (by decide) ?_
        refine lv_icmp_ne (tgt := 62) hx hb d_MM_one_54 (by decide) (fun c17 => ?_) (fun c17 => ?_)
        · replace h := o_ff c17 h
          refine lv_aload_n hx hb d_MM_one_62 rfl (lv_at hl 1 rfl) ?_
          refine lv_dup hx hb d_MM_one_63 rfl ?_
          refine o_get (v := .int (NP_pat Np)) C in_MM hP 0 mw_0 rfl 27 (by decide) k_8_17 rfl rfl d_MM_one_64 ?_
          refine lv_iconst (v := (1:Int32)) hx hb d_MM_one_67 (by decide) ?_
          refine lv_iadd hx hb d_MM_one_68 ?_
          refine o_put (v := .int ((NP_pat Np) + (1:Int32))) (ty := .int) (w1 := (m_cw ad ca ky ty 48 Ni (NP_mk (NP_nodeKind Np) (NP_nodeA Np) (NP_nodeB Np) (NP_nodeC Np) (NP_nodeNext Np) (NP_low Np) (NP_high Np) (NP_setFrom Np) (NP_setTo Np) (NP_setNot Np) (NP_nodes Np) (NP_sets Np) (NP_ranges Np) ((NP_pat Np) + (1:Int32)) (NP_patEnd Np) (NP_broken Np)) No Nx Nf Na Nh Nq Nj M0 tc)) C in_MM t_MM t_MM_ok n_MM hP (hDD _ _ _ _ _ _ _ _ _ _ _ _) hS 0 mw_0 rfl 27 (by decide) k_8_17 rfl rfl (by decide +kernel) rfl rfl (Nat.le_of_ble_eq_true rfl) rfl d_MM_one_69 (fun H locs hP hS => ?_)
          refine lv_aload_n hx hb d_MM_one_72 rfl (lv_at hl 1 rfl) ?_
          refine lv_iconst (v := (0:Int32)) hx hb d_MM_one_73 (by decide) ?_
          obtain ⟨q18, hq18, h⟩ := o_bd_some h
          refine o_V (st1 := [.int q18]) (w1 := (m_cw ad ca ky ty 48 Ni (NP_mk (NP_nodeKind Np) (NP_nodeA Np) (NP_nodeB Np) (NP_nodeC Np) (NP_nodeNext Np) (NP_low Np) (NP_high Np) (NP_setFrom Np) (NP_setTo Np) (NP_setNot Np) (NP_nodes Np) (NP_sets Np) (NP_ranges Np) ((NP_pat Np) + (1:Int32)) (NP_patEnd Np) (NP_broken Np)) No Nx Nf Na Nh Nq Nj M0 tc)) hE.1 C (e_MM_p_b hE hKy l (0:Int32) tc (NP_mk (NP_nodeKind Np) (NP_nodeA Np) (NP_nodeB Np) (NP_nodeC Np) (NP_nodeNext Np) (NP_low Np) (NP_high Np) (NP_setFrom Np) (NP_setTo Np) (NP_setNot Np) (NP_nodes Np) (NP_sets Np) (NP_ranges Np) ((NP_pat Np) + (1:Int32)) (NP_patEnd Np) (NP_broken Np)) Ni No Nx Nf Na Nh Nq Nj M0 hq18) hP (hDD _ _ _ _ _ _ _ _ _ _ _ _) hS hl.1 rfl mw_0 k_9_70 k_9_72 k_s_89 k_1_12 k_9_73 hv_MM_p rfl rfl ⟨(by dsimp only [rm_MM_one, rm_MM_p]; omega), (by dsimp only [rm_MM_one, rm_MM_p]; omega)⟩ rfl (Nat.le_of_ble_eq_true rfl) ⟨Nat.zero_le _, Nat.zero_le _⟩ rfl d_MM_one_74 (fun H locs hP hS => ?_)
          refine lv_bipush (v := (63:Int32)) hx hb d_MM_one_77 (by decide) ?_
          refine lv_icmp_ne (tgt := 102) hx hb d_MM_one_79 (by decide) (fun c18 => ?_) (fun c18 => ?_)
          · replace h := o_ff c18 h
            exact f_MM_one_j102_b hE hKy C hDD d rec hrec n x1 tc (NP_mk (NP_nodeKind Np) (NP_nodeA Np) (NP_nodeB Np) (NP_nodeC Np) (NP_nodeNext Np) (NP_low Np) (NP_high Np) (NP_setFrom Np) (NP_setTo Np) (NP_setNot Np) (NP_nodes Np) (NP_sets Np) (NP_ranges Np) ((NP_pat Np) + (1:Int32)) (NP_patEnd Np) (NP_broken Np)) Ni No Nx Nf Na Nh Nq Nj M0 h _ _ _ hP hS (lv_sub hl [1, 2] rfl)
          · replace h := o_tt c18 h
            refine lv_aload_n hx hb d_MM_one_82 rfl (lv_at hl 1 rfl) ?_
            refine lv_iconst (v := (1:Int32)) hx hb d_MM_one_83 (by decide) ?_
            obtain ⟨q22, hq22, h⟩ := o_bd_some h
            refine o_V (st1 := [.int q22]) (w1 := (m_cw ad ca ky ty 48 Ni (NP_mk (NP_nodeKind Np) (NP_nodeA Np) (NP_nodeB Np) (NP_nodeC Np) (NP_nodeNext Np) (NP_low Np) (NP_high Np) (NP_setFrom Np) (NP_setTo Np) (NP_setNot Np) (NP_nodes Np) (NP_sets Np) (NP_ranges Np) ((NP_pat Np) + (1:Int32)) (NP_patEnd Np) (NP_broken Np)) No Nx Nf Na Nh Nq Nj M0 tc)) hE.1 C (e_MM_p_b hE hKy l (1:Int32) tc (NP_mk (NP_nodeKind Np) (NP_nodeA Np) (NP_nodeB Np) (NP_nodeC Np) (NP_nodeNext Np) (NP_low Np) (NP_high Np) (NP_setFrom Np) (NP_setTo Np) (NP_setNot Np) (NP_nodes Np) (NP_sets Np) (NP_ranges Np) ((NP_pat Np) + (1:Int32)) (NP_patEnd Np) (NP_broken Np)) Ni No Nx Nf Na Nh Nq Nj M0 hq22) hP (hDD _ _ _ _ _ _ _ _ _ _ _ _) hS hl.1 rfl mw_0 k_9_70 k_9_72 k_s_89 k_1_12 k_9_73 hv_MM_p rfl rfl ⟨(by dsimp only [rm_MM_one, rm_MM_p]; omega), (by dsimp only [rm_MM_one, rm_MM_p]; omega)⟩ rfl (Nat.le_of_ble_eq_true rfl) ⟨Nat.zero_le _, Nat.zero_le _⟩ rfl d_MM_one_84 (fun H locs hP hS => ?_)
            refine lv_bipush (v := (58:Int32)) hx hb d_MM_one_87 (by decide) ?_
            refine lv_icmp_ne (tgt := 102) hx hb d_MM_one_89 (by decide) (fun c21 => ?_) (fun c21 => ?_)
            · replace h := o_ff c21 h
              exact f_MM_one_j102_b hE hKy C hDD d rec hrec n x1 tc (NP_mk (NP_nodeKind Np) (NP_nodeA Np) (NP_nodeB Np) (NP_nodeC Np) (NP_nodeNext Np) (NP_low Np) (NP_high Np) (NP_setFrom Np) (NP_setTo Np) (NP_setNot Np) (NP_nodes Np) (NP_sets Np) (NP_ranges Np) ((NP_pat Np) + (1:Int32)) (NP_patEnd Np) (NP_broken Np)) Ni No Nx Nf Na Nh Nq Nj M0 h _ _ _ hP hS (lv_sub hl [1, 2] rfl)
            · replace h := o_tt c21 h
              refine lv_aload_n hx hb d_MM_one_92 rfl (lv_at hl 1 rfl) ?_
              refine lv_dup hx hb d_MM_one_93 rfl ?_
              refine o_get (v := .int ((NP_pat Np) + (1:Int32))) C in_MM hP 0 mw_0 rfl 27 (by decide) k_8_17 rfl rfl d_MM_one_94 ?_
              refine lv_iconst (v := (2:Int32)) hx hb d_MM_one_97 (by decide) ?_
              refine lv_iadd hx hb d_MM_one_98 ?_
              refine o_put (v := .int (((NP_pat Np) + (1:Int32)) + (2:Int32))) (ty := .int) (w1 := (m_cw ad ca ky ty 48 Ni (NP_mk (NP_nodeKind Np) (NP_nodeA Np) (NP_nodeB Np) (NP_nodeC Np) (NP_nodeNext Np) (NP_low Np) (NP_high Np) (NP_setFrom Np) (NP_setTo Np) (NP_setNot Np) (NP_nodes Np) (NP_sets Np) (NP_ranges Np) (((NP_pat Np) + (1:Int32)) + (2:Int32)) (NP_patEnd Np) (NP_broken Np)) No Nx Nf Na Nh Nq Nj M0 tc)) C in_MM t_MM t_MM_ok n_MM hP (hDD _ _ _ _ _ _ _ _ _ _ _ _) hS 0 mw_0 rfl 27 (by decide) k_8_17 rfl rfl (by decide +kernel) rfl rfl (Nat.le_of_ble_eq_true rfl) rfl d_MM_one_99 (fun H locs hP hS => ?_)
              exact f_MM_one_j102_b hE hKy C hDD d rec hrec n x1 tc (NP_mk (NP_nodeKind Np) (NP_nodeA Np) (NP_nodeB Np) (NP_nodeC Np) (NP_nodeNext Np) (NP_low Np) (NP_high Np) (NP_setFrom Np) (NP_setTo Np) (NP_setNot Np) (NP_nodes Np) (NP_sets Np) (NP_ranges Np) (((NP_pat Np) + (1:Int32)) + (2:Int32)) (NP_patEnd Np) (NP_broken Np)) Ni No Nx Nf Na Nh Nq Nj M0 h _ _ _ hP hS (lv_sub hl [1, 2] rfl)
        · replace h := o_tt c17 h
          refine lv_aload_n hx hb d_MM_one_57 rfl (lv_at hl 1 rfl) ?_
          obtain ⟨q23, hq23, h⟩ := o_bd_some h
          refine o_V (st1 := [.int q23.1]) (w1 := (m_cw ad ca ky ty 48 Ni q23.2 No Nx Nf Na Nh Nq Nj M0 tc)) hE.1 C (e_MM_no hE hKy l Np Ni No Nx Nf Na Nh Nq Nj M0 tc 48 hq23) hP (hDD _ _ _ _ _ _ _ _ _ _ _ _) hS hl.1 rfl mw_0 k_9_78 k_9_80 k_s_91 k_1_12 k_9_81 hv_MM_no rfl rfl ⟨(by dsimp only [rm_MM_one, rm_MM_no]; omega), (by dsimp only [rm_MM_one, rm_MM_no]; omega)⟩ rfl (Nat.le_of_ble_eq_true rfl) ⟨Nat.zero_le _, Nat.zero_le _⟩ rfl d_MM_one_58 (fun H locs hP hS => ?_)
          cases h
          exact o_ri C hP hS d_MM_one_61
    · replace h := o_tt c3 h
      exact f_MM_one_j18_b hE hKy C hDD d rec hrec n q1 tc Np Ni No Nx Nf Na Nh Nq Nj M0 h _ _ _ hP hS (lv_sub hl [1, 0] rfl)
