set_option maxHeartbeats 4000000 in
set_option maxRecDepth 100000 in
theorem f_MM_row_b9_a {E : (Nat → Prop) → State → Heap → Prop} {p : Program} {l : Launch} {e : Env} {s : State} {m : MethodId} {args : Array Value} {below : List Frame} {meth : Method} {c : Code} {D : va_G} {ad kd sd vd xd : Nat → Nat} {ca : Nat → ClassId} {A : Nat → Prop} {ky ty : Nat → Option Nat} {Q : State → Prop} (hE : o_EK E kd sd vd xd) (hKy : m_KY ky ty sd) (C : o_Cx E p s m args meth c D m_cls (m_tys ca) "SchemaJudgeModel" b_MM_row (some .int) 5 cc_MM_row A) (hDD : ∀ (rt : Nat) (Ni : SNI) (Np : SNP) (No : SNO) (Nx : SNX) (Nf : SNF) (Na : SNA) (Nh : SNH) (Nq : SNQ) (Nj : SNJ) (M0 : SMT) (M1 : SMT), va_D A (m_cw ad ca ky ty rt Ni Np No Nx Nf Na Nh Nq Nj M0 M1)) (d : Nat) (rec : Int32 → SMT → SNP → Option (Int32 × SNP)) (hrec : ∀ (x1 : Int32) (tc : SMT) (Np : SNP) (Ni : SNI) (No : SNO) (Nx : SNX) (Nf : SNF) (Na : SNA) (Nh : SNH) (Nq : SNQ) (Nj : SNJ) (M1 : SMT) (r : Int32 × SNP), rec x1 tc Np = some r → o_Cn E l D m_cls (m_tys ca) y_MM_ways cc_MM_ways (rm_MM_ways d) [.ref (ad 0), .int x1] (m_cw ad ca ky ty 33 Ni Np No Nx Nf Na Nh Nq Nj tc M1) (m_cw ad ca ky ty 33 Ni r.2 No Nx Nf Na Nh Nq Nj tc M1) (some (.int r.1))) (n : Nat) (u9_x1 : Int32) (u9_x2 : Int32) (u9_tc : SMT) (u9_Ni : SNI) (u9_No : SNO) (u9_Nx : SNX) (u9_Nf : SNF) (u9_Na : SNA) (u9_Nh : SNH) (u9_Nq : SNQ) (u9_Nj : SNJ) (u9_M1 : SMT) (z : Int32 × SNP) (q : Nat × Int32 × SNP) (h : m_MM_row_b9 n rec u9_x1 u9_x2 u9_tc z = some q) (h0 : q.1 = 0 → o_At p l e (rm_MM_row d) s m args below meth c Q m_cls D A 5 9 [] (m_cw ad ca ky ty 33 u9_Ni q.2.2 u9_No u9_Nx u9_Nf u9_Na u9_Nh u9_Nq u9_Nj u9_tc u9_M1) [(0, .ref (ad 0)), (1, .int u9_x1), (2, .int u9_x2), (3, .int q.2.1)]) (h1 : q.1 ≠ 0 → (o_At p l e (rm_MM_row d) s m args below meth c Q m_cls D A 5 83 [] (m_cw ad ca ky ty 33 u9_Ni q.2.2 u9_No u9_Nx u9_Nf u9_Na u9_Nh u9_Nq u9_Nj u9_tc u9_M1) [(2, .int u9_x2)])) : o_At p l e (rm_MM_row d) s m args below meth c Q m_cls D A 5 9 [] (m_cw ad ca ky ty 33 u9_Ni z.2 u9_No u9_Nx u9_Nf u9_Na u9_Nh u9_Nq u9_Nj u9_tc u9_M1) [(0, .ref (ad 0)), (1, .int u9_x1), (2, .int u9_x2), (3, .int z.1)] := by
  unfold m_MM_row_b9 at h
  intro H locs ls hP hS hl
  have C0 := C
  obtain ⟨hx, hb, -, -, -, hown, hts, hK, -, -⟩ := C0
  refine lv_aload_n hx hb d_MM_row_9 rfl (lv_at hl 0 rfl) ?_
  refine o_get (v := .int (NP_broken z.2)) C in_MM hP 0 mw_0 rfl 32 (by decide) k_8_22 rfl rfl d_MM_row_10 ?_
  refine lv_if_ne (tgt := 83) hx hb d_MM_row_13 (by decide) (fun c1 => ?_) (fun c1 => ?_)
  · replace h := o_ff c1 h
    cases h
    exact h1 (Nat.succ_ne_zero 0) _ _ _ hP hS (lv_sub hl [2] rfl)
  · replace h := o_tt c1 h
    refine lv_aload_n hx hb d_MM_row_16 rfl (lv_at hl 0 rfl) ?_
    refine o_get (v := .int (NP_pat z.2)) C in_MM hP 0 mw_0 rfl 27 (by decide) k_8_17 rfl rfl d_MM_row_17 ?_
    refine lv_aload_n hx hb d_MM_row_20 rfl (lv_at hl 0 rfl) ?_
    refine o_get (v := .int (NP_patEnd z.2)) C in_MM hP 0 mw_0 rfl 28 (by decide) k_8_18 rfl rfl d_MM_row_21 ?_
    refine lv_icmp_ge (tgt := 83) hx hb d_MM_row_24 (by decide) (fun c2 => ?_) (fun c2 => ?_)
    · replace h := o_tt c2 h
      cases h
      exact h1 (Nat.succ_ne_zero 0) _ _ _ hP hS (lv_sub hl [2] rfl)
    · replace h := o_ff c2 h
      refine lv_aload_n hx hb d_MM_row_27 rfl (lv_at hl 0 rfl) ?_
      refine lv_iconst (v := (0:Int32)) hx hb d_MM_row_28 (by decide) ?_
      obtain ⟨q2, hq2, h⟩ := o_bd_some h
      refine o_V (st1 := [.int q2]) (w1 := (m_cw ad ca ky ty 33 u9_Ni z.2 u9_No u9_Nx u9_Nf u9_Na u9_Nh u9_Nq u9_Nj u9_tc u9_M1)) hE.1 C (e_MM_p_a hE hKy l (0:Int32) u9_tc z.2 u9_Ni u9_No u9_Nx u9_Nf u9_Na u9_Nh u9_Nq u9_Nj u9_M1 hq2) hP (hDD _ _ _ _ _ _ _ _ _ _ _ _) hS hl.1 rfl mw_0 k_9_70 k_9_72 k_s_89 k_1_12 k_9_73 hv_MM_p rfl rfl ⟨(by dsimp only [rm_MM_row, rm_MM_p]; omega), (by dsimp only [rm_MM_row, rm_MM_p]; omega)⟩ rfl (Nat.le_of_ble_eq_true rfl) ⟨Nat.zero_le _, Nat.zero_le _⟩ rfl d_MM_row_29 (fun H locs hP hS => ?_)
      refine lv_bipush (v := (124:Int32)) hx hb d_MM_row_32 (by decide) ?_
      refine lv_icmp_eq (tgt := 83) hx hb d_MM_row_34 (by decide) (fun c3 => ?_) (fun c3 => ?_)
      · replace h := o_tt c3 h
        cases h
        exact h1 (Nat.succ_ne_zero 0) _ _ _ hP hS (lv_sub hl [2] rfl)
      · replace h := o_ff c3 h
        refine lv_aload_n hx hb d_MM_row_37 rfl (lv_at hl 0 rfl) ?_
        refine lv_iconst (v := (0:Int32)) hx hb d_MM_row_38 (by decide) ?_
        obtain ⟨q3, hq3, h⟩ := o_bd_some h
        refine o_V (st1 := [.int q3]) (w1 := (m_cw ad ca ky ty 33 u9_Ni z.2 u9_No u9_Nx u9_Nf u9_Na u9_Nh u9_Nq u9_Nj u9_tc u9_M1)) hE.1 C (e_MM_p_a hE hKy l (0:Int32) u9_tc z.2 u9_Ni u9_No u9_Nx u9_Nf u9_Na u9_Nh u9_Nq u9_Nj u9_M1 hq3) hP (hDD _ _ _ _ _ _ _ _ _ _ _ _) hS hl.1 rfl mw_0 k_9_70 k_9_72 k_s_89 k_1_12 k_9_73 hv_MM_p rfl rfl ⟨(by dsimp only [rm_MM_row, rm_MM_p]; omega), (by dsimp only [rm_MM_row, rm_MM_p]; omega)⟩ rfl (Nat.le_of_ble_eq_true rfl) ⟨Nat.zero_le _, Nat.zero_le _⟩ rfl d_MM_row_39 (fun H locs hP hS => ?_)
        refine lv_bipush (v := (41:Int32)) hx hb d_MM_row_42 (by decide) ?_
        refine lv_icmp_eq (tgt := 83) hx hb d_MM_row_44 (by decide) (fun c4 => ?_) (fun c4 => ?_)
        · replace h := o_tt c4 h
          cases h
          exact h1 (Nat.succ_ne_zero 0) _ _ _ hP hS (lv_sub hl [2] rfl)
        · replace h := o_ff c4 h
          refine lv_aload_n hx hb d_MM_row_47 rfl (lv_at hl 0 rfl) ?_
          refine lv_iload_n hx hb d_MM_row_48 rfl (lv_at hl 1 rfl) ?_
          obtain ⟨q4, hq4, h⟩ := o_bd_some h
          refine o_V (st1 := [.int q4.1]) (w1 := (m_cw ad ca ky ty 33 u9_Ni q4.2 u9_No u9_Nx u9_Nf u9_Na u9_Nh u9_Nq u9_Nj u9_tc u9_M1)) hE.1 C (e_MM_one_a hE hKy l n d rec hrec u9_x1 u9_tc z.2 u9_Ni u9_No u9_Nx u9_Nf u9_Na u9_Nh u9_Nq u9_Nj u9_M1 hq4) hP (hDD _ _ _ _ _ _ _ _ _ _ _ _) hS hl.1 rfl mw_0 k_9_74 k_9_76 k_s_90 k_1_12 k_9_77 hv_MM_one rfl rfl ⟨(by dsimp only [rm_MM_row, rm_MM_one]; omega), (by dsimp only [rm_MM_row, rm_MM_one]; omega)⟩ rfl (Nat.le_of_ble_eq_true rfl) ⟨Nat.zero_le _, Nat.zero_le _⟩ rfl d_MM_row_49 (fun H locs hP hS => ?_)
          refine lv_istore (lv' := [(4, .int q4.1), (0, .ref (ad 0)), (1, .int u9_x1), (2, .int u9_x2), (3, .int z.1)]) hx hb d_MM_row_52 hl (by decide) rfl (fun ls hl => ?_)
          refine lv_iload_n hx hb d_MM_row_54 rfl (lv_at hl 4 rfl) ?_
          refine lv_if_ge (tgt := 69) hx hb d_MM_row_55 (by decide) (fun c5 => ?_) (fun c5 => ?_)
          · replace h := o_tt c5 h
            refine lv_aload_n hx hb d_MM_row_69 rfl (lv_at hl 1 rfl) ?_
            refine o_get (v := .ref (ad 6)) C in_MM hP 0 mw_0 rfl 10 (by decide) k_8_0 rfl rfl d_MM_row_70 ?_
            refine lv_iload_n hx hb d_MM_row_73 rfl (lv_at hl 4 rfl) ?_
            refine lv_iload hx hb d_MM_row_74 (lv_at hl 0 rfl) ?_
            obtain ⟨g6, h⟩ := o_gd_some h
            refine o_iast (f := (NP_nodeNext q4.2)) (w1 := (m_cw ad ca ky ty 33 u9_Ni (NP_mk (NP_nodeKind q4.2) (NP_nodeA q4.2) (NP_nodeB q4.2) (NP_nodeC q4.2) (upd (NP_nodeNext q4.2) z.1.toNatClampNeg q4.1) (NP_low q4.2) (NP_high q4.2) (NP_setFrom q4.2) (NP_setTo q4.2) (NP_setNot q4.2) (NP_nodes q4.2) (NP_sets q4.2) (NP_ranges q4.2) (NP_pat q4.2) (NP_patEnd q4.2) (NP_broken q4.2)) u9_No u9_Nx u9_Nf u9_Na u9_Nh u9_Nq u9_Nj u9_tc u9_M1)) C hP (hDD _ _ _ _ _ _ _ _ _ _ _ _) hS 6 5 mw_6 rfl g6 rfl d_MM_row_76 (fun H locs hP hS => ?_)
            refine lv_iload hx hb d_MM_row_77 (lv_at hl 0 rfl) ?_
            refine lv_istore_n (lv' := [(3, .int q4.1), (4, .int q4.1), (0, .ref (ad 0)), (1, .int u9_x1), (2, .int u9_x2)]) hx hb d_MM_row_79 rfl hl (by decide) rfl (fun ls hl => ?_)
            refine lv_goto (tgt := 9) hx hb d_MM_row_80 (by decide) ?_
            cases h
            exact h0 rfl _ _ _ hP hS (lv_sub hl [2, 3, 4, 0] rfl)
          · replace h := o_ff c5 h
            refine lv_aload_n hx hb d_MM_row_58 rfl (lv_at hl 1 rfl) ?_
            refine o_get (v := .ref (ad 3)) C in_MM hP 0 mw_0 rfl 7 (by decide) k_7_237 rfl rfl d_MM_row_59 ?_
            refine lv_iload_n hx hb d_MM_row_62 rfl (lv_at hl 3 rfl) ?_
            refine lv_iload hx hb d_MM_row_63 (lv_at hl 0 rfl) ?_
            obtain ⟨g7, h⟩ := o_gd_some h
            refine o_iast (f := (NP_nodeA q4.2)) (w1 := (m_cw ad ca ky ty 33 u9_Ni (NP_mk (NP_nodeKind q4.2) (upd (NP_nodeA q4.2) u9_x2.toNatClampNeg q4.1) (NP_nodeB q4.2) (NP_nodeC q4.2) (NP_nodeNext q4.2) (NP_low q4.2) (NP_high q4.2) (NP_setFrom q4.2) (NP_setTo q4.2) (NP_setNot q4.2) (NP_nodes q4.2) (NP_sets q4.2) (NP_ranges q4.2) (NP_pat q4.2) (NP_patEnd q4.2) (NP_broken q4.2)) u9_No u9_Nx u9_Nf u9_Na u9_Nh u9_Nq u9_Nj u9_tc u9_M1)) C hP (hDD _ _ _ _ _ _ _ _ _ _ _ _) hS 3 2 mw_3 rfl g7 rfl d_MM_row_65 (fun H locs hP hS => ?_)
            refine lv_goto (tgt := 77) hx hb d_MM_row_66 (by decide) ?_
            refine lv_iload hx hb d_MM_row_77 (lv_at hl 0 rfl) ?_
            refine lv_istore_n (lv' := [(3, .int q4.1), (4, .int q4.1), (0, .ref (ad 0)), (1, .int u9_x1), (2, .int u9_x2)]) hx hb d_MM_row_79 rfl hl (by decide) rfl (fun ls hl => ?_)
            refine lv_goto (tgt := 9) hx hb d_MM_row_80 (by decide) ?_
            cases h
            exact h0 rfl _ _ _ hP hS (lv_sub hl [2, 3, 4, 0] rfl)
set_option maxHeartbeats 4000000 in
set_option maxRecDepth 100000 in
theorem e_MM_row_a {E : (Nat → Prop) → State → Heap → Prop} {D : va_G} {ad kd sd vd xd : Nat → Nat} {ca : Nat → ClassId} {ky ty : Nat → Option Nat} (hE : o_EK E kd sd vd xd) (hKy : m_KY ky ty sd) (l : Launch) (n : Nat) (d : Nat) (rec : Int32 → SMT → SNP → Option (Int32 × SNP)) (hrec : ∀ (x1 : Int32) (tc : SMT) (Np : SNP) (Ni : SNI) (No : SNO) (Nx : SNX) (Nf : SNF) (Na : SNA) (Nh : SNH) (Nq : SNQ) (Nj : SNJ) (M1 : SMT) (r : Int32 × SNP), rec x1 tc Np = some r → o_Cn E l D m_cls (m_tys ca) y_MM_ways cc_MM_ways (rm_MM_ways d) [.ref (ad 0), .int x1] (m_cw ad ca ky ty 33 Ni Np No Nx Nf Na Nh Nq Nj tc M1) (m_cw ad ca ky ty 33 Ni r.2 No Nx Nf Na Nh Nq Nj tc M1) (some (.int r.1))) (x1 : Int32) (tc : SMT) (Np : SNP) (Ni : SNI) (No : SNO) (Nx : SNX) (Nf : SNF) (Na : SNA) (Nh : SNH) (Nq : SNQ) (Nj : SNJ) (M1 : SMT) {r : Int32 × SNP} (h : m_MM_row n rec x1 tc Np = some r) : o_Cn E l D m_cls (m_tys ca) y_MM_row cc_MM_row (rm_MM_row d) [.ref (ad 0), .int x1] (m_cw ad ca ky ty 33 Ni Np No Nx Nf Na Nh Nq Nj tc M1) (m_cw ad ca ky ty 33 Ni r.2 No Nx Nf Na Nh Nq Nj tc M1) (some (.int r.1)) := by
  refine o_Cn_of (by decide) (Nat.le_of_ble_eq_true rfl) ?_
  intro p e s m below meth c A ls C hD hP hS hl
  have hDD : ∀ (rt : Nat) (Ni : SNI) (Np : SNP) (No : SNO) (Nx : SNX) (Nf : SNF) (Na : SNA) (Nh : SNH) (Nq : SNQ) (Nj : SNJ) (M0 : SMT) (M1 : SMT), va_D A (m_cw ad ca ky ty rt Ni Np No Nx Nf Na Nh Nq Nj M0 M1) := fun _ _ _ _ _ _ _ _ _ _ _ _ => o_D_map hD rfl
  have hl : lv_has ls 5 [(0, .ref (ad 0)), (1, .int x1)] := hl
  unfold m_MM_row at h
  have C0 := C
  obtain ⟨hx, hb, -, -, -, hown, hts, hK, -, -⟩ := C0
  refine lv_aload_n hx hb d_MM_row_0 rfl (lv_at hl 0 rfl) ?_
  refine lv_iconst (v := (4:Int32)) hx hb d_MM_row_1 (by decide) ?_
  refine lv_iconst (v := (-1:Int32)) hx hb d_MM_row_2 (by decide) ?_
  obtain ⟨q1, hq1, h⟩ := o_bd_some h
  refine o_V (st1 := [.int q1.1]) (w1 := (m_cw ad ca ky ty 33 Ni q1.2 No Nx Nf Na Nh Nq Nj tc M1)) hE.1 C (e_MM_node hE hKy l (4:Int32) (-1:Int32) Np Ni No Nx Nf Na Nh Nq Nj tc M1 33 hq1) hP (hDD _ _ _ _ _ _ _ _ _ _ _ _) hS hl.1 rfl mw_0 k_9_62 k_9_64 k_s_87 k_1_12 k_9_65 hv_MM_node rfl rfl ⟨(by dsimp only [rm_MM_row, rm_MM_node]; omega), (by dsimp only [rm_MM_row, rm_MM_node]; omega)⟩ rfl (Nat.le_of_ble_eq_true rfl) ⟨Nat.zero_le _, Nat.zero_le _⟩ rfl d_MM_row_3 (fun H locs hP hS => ?_)
  refine lv_istore_n (lv' := [(2, .int q1.1), (0, .ref (ad 0)), (1, .int x1)]) hx hb d_MM_row_6 rfl hl (by decide) rfl (fun ls hl => ?_)
  refine lv_iconst (v := (-1:Int32)) hx hb d_MM_row_7 (by decide) ?_
  refine lv_istore_n (lv' := [(3, .int (-1:Int32)), (2, .int q1.1), (0, .ref (ad 0)), (1, .int x1)]) hx hb d_MM_row_8 rfl hl (by decide) rfl (fun ls hl => ?_)
  obtain ⟨q5, hq5, h⟩ := o_bd_some h
  refine o_sim2 (AH := fun zz => o_At p l e (rm_MM_row d) s m _ below meth c _ m_cls D A 5 9 [] (m_cw ad ca ky ty 33 Ni zz.2 No Nx Nf Na Nh Nq Nj tc M1) [(0, .ref (ad 0)), (1, .int x1), (2, .int q1.1), (3, .int zz.1)]) (AX := fun qq => o_At p l e (rm_MM_row d) s m _ below meth c _ m_cls D A 5 83 [] (m_cw ad ca ky ty 33 Ni qq.2.2 No Nx Nf Na Nh Nq Nj tc M1) [(2, .int q1.1)]) (fun zz qq h h0 h1 => f_MM_row_b9_a hE hKy C hDD d rec hrec n x1 q1.1 tc Ni No Nx Nf Na Nh Nq Nj M1 zz qq h h0 h1) n _ q5 hq5 ?_ _ _ _ hP hS (lv_sub hl [2, 3, 1, 0] rfl)
  intro H locs ls hP hS hl
  refine lv_iload_n hx hb d_MM_row_83 rfl (lv_at hl 0 rfl) ?_
  cases h
  exact o_ri C hP hS d_MM_row_84
set_option maxHeartbeats 4000000 in
set_option maxRecDepth 100000 in
theorem f_MM_row_b9_b {E : (Nat → Prop) → State → Heap → Prop} {p : Program} {l : Launch} {e : Env} {s : State} {m : MethodId} {args : Array Value} {below : List Frame} {meth : Method} {c : Code} {D : va_G} {ad kd sd vd xd : Nat → Nat} {ca : Nat → ClassId} {A : Nat → Prop} {ky ty : Nat → Option Nat} {Q : State → Prop} (hE : o_EK E kd sd vd xd) (hKy : m_KY ky ty sd) (C : o_Cx E p s m args meth c D m_cls (m_tys ca) "SchemaJudgeModel" b_MM_row (some .int) 5 cc_MM_row A) (hDD : ∀ (rt : Nat) (Ni : SNI) (Np : SNP) (No : SNO) (Nx : SNX) (Nf : SNF) (Na : SNA) (Nh : SNH) (Nq : SNQ) (Nj : SNJ) (M0 : SMT) (M1 : SMT), va_D A (m_cw ad ca ky ty rt Ni Np No Nx Nf Na Nh Nq Nj M0 M1)) (d : Nat) (rec : Int32 → SMT → SNP → Option (Int32 × SNP)) (hrec : ∀ (x1 : Int32) (tc : SMT) (Np : SNP) (Ni : SNI) (No : SNO) (Nx : SNX) (Nf : SNF) (Na : SNA) (Nh : SNH) (Nq : SNQ) (Nj : SNJ) (M0 : SMT) (r : Int32 × SNP), rec x1 tc Np = some r → o_Cn E l D m_cls (m_tys ca) y_MM_ways cc_MM_ways (rm_MM_ways d) [.ref (ad 0), .int x1] (m_cw ad ca ky ty 48 Ni Np No Nx Nf Na Nh Nq Nj M0 tc) (m_cw ad ca ky ty 48 Ni r.2 No Nx Nf Na Nh Nq Nj M0 tc) (some (.int r.1))) (n : Nat) (u9_x1 : Int32) (u9_x2 : Int32) (u9_tc : SMT) (u9_Ni : SNI) (u9_No : SNO) (u9_Nx : SNX) (u9_Nf : SNF) (u9_Na : SNA) (u9_Nh : SNH) (u9_Nq : SNQ) (u9_Nj : SNJ) (u9_M0 : SMT) (z : Int32 × SNP) (q : Nat × Int32 × SNP) (h : m_MM_row_b9 n rec u9_x1 u9_x2 u9_tc z = some q) (h0 : q.1 = 0 → o_At p l e (rm_MM_row d) s m args below meth c Q m_cls D A 5 9 [] (m_cw ad ca ky ty 48 u9_Ni q.2.2 u9_No u9_Nx u9_Nf u9_Na u9_Nh u9_Nq u9_Nj u9_M0 u9_tc) [(0, .ref (ad 0)), (1, .int u9_x1), (2, .int u9_x2), (3, .int q.2.1)]) (h1 : q.1 ≠ 0 → (o_At p l e (rm_MM_row d) s m args below meth c Q m_cls D A 5 83 [] (m_cw ad ca ky ty 48 u9_Ni q.2.2 u9_No u9_Nx u9_Nf u9_Na u9_Nh u9_Nq u9_Nj u9_M0 u9_tc) [(2, .int u9_x2)])) : o_At p l e (rm_MM_row d) s m args below meth c Q m_cls D A 5 9 [] (m_cw ad ca ky ty 48 u9_Ni z.2 u9_No u9_Nx u9_Nf u9_Na u9_Nh u9_Nq u9_Nj u9_M0 u9_tc) [(0, .ref (ad 0)), (1, .int u9_x1), (2, .int u9_x2), (3, .int z.1)] := by
  unfold m_MM_row_b9 at h
  intro H locs ls hP hS hl
  have C0 := C
  obtain ⟨hx, hb, -, -, -, hown, hts, hK, -, -⟩ := C0
  refine lv_aload_n hx hb d_MM_row_9 rfl (lv_at hl 0 rfl) ?_
  refine o_get (v := .int (NP_broken z.2)) C in_MM hP 0 mw_0 rfl 32 (by decide) k_8_22 rfl rfl d_MM_row_10 ?_
  refine lv_if_ne (tgt := 83) hx hb d_MM_row_13 (by decide) (fun c1 => ?_) (fun c1 => ?_)
  · replace h := o_ff c1 h
    cases h
    exact h1 (Nat.succ_ne_zero 0) _ _ _ hP hS (lv_sub hl [2] rfl)
  · replace h := o_tt c1 h
    refine lv_aload_n hx hb d_MM_row_16 rfl (lv_at hl 0 rfl) ?_
    refine o_get (v := .int (NP_pat z.2)) C in_MM hP 0 mw_0 rfl 27 (by decide) k_8_17 rfl rfl d_MM_row_17 ?_
    refine lv_aload_n hx hb d_MM_row_20 rfl (lv_at hl 0 rfl) ?_
    refine o_get (v := .int (NP_patEnd z.2)) C in_MM hP 0 mw_0 rfl 28 (by decide) k_8_18 rfl rfl d_MM_row_21 ?_
    refine lv_icmp_ge (tgt := 83) hx hb d_MM_row_24 (by decide) (fun c2 => ?_) (fun c2 => ?_)
    · replace h := o_tt c2 h
      cases h
      exact h1 (Nat.succ_ne_zero 0) _ _ _ hP hS (lv_sub hl [2] rfl)
    · replace h := o_ff c2 h
      refine lv_aload_n hx hb d_MM_row_27 rfl (lv_at hl 0 rfl) ?_
      refine lv_iconst (v := (0:Int32)) hx hb d_MM_row_28 (by decide) ?_
      obtain ⟨q2, hq2, h⟩ := o_bd_some h
      refine o_V (st1 := [.int q2]) (w1 := (m_cw ad ca ky ty 48 u9_Ni z.2 u9_No u9_Nx u9_Nf u9_Na u9_Nh u9_Nq u9_Nj u9_M0 u9_tc)) hE.1 C (e_MM_p_b hE hKy l (0:Int32) u9_tc z.2 u9_Ni u9_No u9_Nx u9_Nf u9_Na u9_Nh u9_Nq u9_Nj u9_M0 hq2) hP (hDD _ _ _ _ _ _ _ _ _ _ _ _) hS hl.1 rfl mw_0 k_9_70 k_9_72 k_s_89 k_1_12 k_9_73 hv_MM_p rfl rfl ⟨(by dsimp only [rm_MM_row, rm_MM_p]; omega), (by dsimp only [rm_MM_row, rm_MM_p]; omega)⟩ rfl (Nat.le_of_ble_eq_true rfl) ⟨Nat.zero_le _, Nat.zero_le _⟩ rfl d_MM_row_29 (fun H locs hP hS => ?_)
      refine lv_bipush (v := (124:Int32)) hx hb d_MM_row_32 (by decide) ?_
      refine lv_icmp_eq (tgt := 83) hx hb d_MM_row_34 (by decide) (fun c3 => ?_) (fun c3 => ?_)
      · replace h := o_tt c3 h
        cases h
        exact h1 (Nat.succ_ne_zero 0) _ _ _ hP hS (lv_sub hl [2] rfl)
      · replace h := o_ff c3 h
        refine lv_aload_n hx hb d_MM_row_37 rfl (lv_at hl 0 rfl) ?_
        refine lv_iconst (v := (0:Int32)) hx hb d_MM_row_38 (by decide) ?_
        obtain ⟨q3, hq3, h⟩ := o_bd_some h
        refine o_V (st1 := [.int q3]) (w1 := (m_cw ad ca ky ty 48 u9_Ni z.2 u9_No u9_Nx u9_Nf u9_Na u9_Nh u9_Nq u9_Nj u9_M0 u9_tc)) hE.1 C (e_MM_p_b hE hKy l (0:Int32) u9_tc z.2 u9_Ni u9_No u9_Nx u9_Nf u9_Na u9_Nh u9_Nq u9_Nj u9_M0 hq3) hP (hDD _ _ _ _ _ _ _ _ _ _ _ _) hS hl.1 rfl mw_0 k_9_70 k_9_72 k_s_89 k_1_12 k_9_73 hv_MM_p rfl rfl ⟨(by dsimp only [rm_MM_row, rm_MM_p]; omega), (by dsimp only [rm_MM_row, rm_MM_p]; omega)⟩ rfl (Nat.le_of_ble_eq_true rfl) ⟨Nat.zero_le _, Nat.zero_le _⟩ rfl d_MM_row_39 (fun H locs hP hS => ?_)
        refine lv_bipush (v := (41:Int32)) hx hb d_MM_row_42 (by decide) ?_
        refine lv_icmp_eq (tgt := 83) hx hb d_MM_row_44 (by decide) (fun c4 => ?_) (fun c4 => ?_)
        · replace h := o_tt c4 h
          cases h
          exact h1 (Nat.succ_ne_zero 0) _ _ _ hP hS (lv_sub hl [2] rfl)
        · replace h := o_ff c4 h
          refine lv_aload_n hx hb d_MM_row_47 rfl (lv_at hl 0 rfl) ?_
          refine lv_iload_n hx hb d_MM_row_48 rfl (lv_at hl 1 rfl) ?_
          obtain ⟨q4, hq4, h⟩ := o_bd_some h
          refine o_V (st1 := [.int q4.1]) (w1 := (m_cw ad ca ky ty 48 u9_Ni q4.2 u9_No u9_Nx u9_Nf u9_Na u9_Nh u9_Nq u9_Nj u9_M0 u9_tc)) hE.1 C (e_MM_one_b hE hKy l n d rec hrec u9_x1 u9_tc z.2 u9_Ni u9_No u9_Nx u9_Nf u9_Na u9_Nh u9_Nq u9_Nj u9_M0 hq4) hP (hDD _ _ _ _ _ _ _ _ _ _ _ _) hS hl.1 rfl mw_0 k_9_74 k_9_76 k_s_90 k_1_12 k_9_77 hv_MM_one rfl rfl ⟨(by dsimp only [rm_MM_row, rm_MM_one]; omega), (by dsimp only [rm_MM_row, rm_MM_one]; omega)⟩ rfl (Nat.le_of_ble_eq_true rfl) ⟨Nat.zero_le _, Nat.zero_le _⟩ rfl d_MM_row_49 (fun H locs hP hS => ?_)
          refine lv_istore (lv' := [(4, .int q4.1), (0, .ref (ad 0)), (1, .int u9_x1), (2, .int u9_x2), (3, .int z.1)]) hx hb d_MM_row_52 hl (by decide) rfl (fun ls hl => ?_)
          refine lv_iload_n hx hb d_MM_row_54 rfl (lv_at hl 4 rfl) ?_
          refine lv_if_ge (tgt := 69) hx hb d_MM_row_55 (by decide) (fun c5 => ?_) (fun c5 => ?_)
          · replace h := o_tt c5 h
            refine lv_aload_n hx hb d_MM_row_69 rfl (lv_at hl 1 rfl) ?_
            refine o_get (v := .ref (ad 6)) C in_MM hP 0 mw_0 rfl 10 (by decide) k_8_0 rfl rfl d_MM_row_70 ?_
            refine lv_iload_n hx hb d_MM_row_73 rfl (lv_at hl 4 rfl) ?_
            refine lv_iload hx hb d_MM_row_74 (lv_at hl 0 rfl) ?_
            obtain ⟨g6, h⟩ := o_gd_some h
            refine o_iast (f := (NP_nodeNext q4.2)) (w1 := (m_cw ad ca ky ty 48 u9_Ni (NP_mk (NP_nodeKind q4.2) (NP_nodeA q4.2) (NP_nodeB q4.2) (NP_nodeC q4.2) (upd (NP_nodeNext q4.2) z.1.toNatClampNeg q4.1) (NP_low q4.2) (NP_high q4.2) (NP_setFrom q4.2) (NP_setTo q4.2) (NP_setNot q4.2) (NP_nodes q4.2) (NP_sets q4.2) (NP_ranges q4.2) (NP_pat q4.2) (NP_patEnd q4.2) (NP_broken q4.2)) u9_No u9_Nx u9_Nf u9_Na u9_Nh u9_Nq u9_Nj u9_M0 u9_tc)) C hP (hDD _ _ _ _ _ _ _ _ _ _ _ _) hS 6 5 mw_6 rfl g6 rfl d_MM_row_76 (fun H locs hP hS => ?_)
            refine lv_iload hx hb d_MM_row_77 (lv_at hl 0 rfl) ?_
            refine lv_istore_n (lv' := [(3, .int q4.1), (4, .int q4.1), (0, .ref (ad 0)), (1, .int u9_x1), (2, .int u9_x2)]) hx hb d_MM_row_79 rfl hl (by decide) rfl (fun ls hl => ?_)
            refine lv_goto (tgt := 9) hx hb d_MM_row_80 (by decide) ?_
            cases h
            exact h0 rfl _ _ _ hP hS (lv_sub hl [2, 3, 4, 0] rfl)
          · replace h := o_ff c5 h
            refine lv_aload_n hx hb d_MM_row_58 rfl (lv_at hl 1 rfl) ?_
            refine o_get (v := .ref (ad 3)) C in_MM hP 0 mw_0 rfl 7 (by decide) k_7_237 rfl rfl d_MM_row_59 ?_
            refine lv_iload_n hx hb d_MM_row_62 rfl (lv_at hl 3 rfl) ?_
            refine lv_iload hx hb d_MM_row_63 (lv_at hl 0 rfl) ?_
            obtain ⟨g7, h⟩ := o_gd_some h
            refine o_iast (f := (NP_nodeA q4.2)) (w1 := (m_cw ad ca ky ty 48 u9_Ni (NP_mk (NP_nodeKind q4.2) (upd (NP_nodeA q4.2) u9_x2.toNatClampNeg q4.1) (NP_nodeB q4.2) (NP_nodeC q4.2) (NP_nodeNext q4.2) (NP_low q4.2) (NP_high q4.2) (NP_setFrom q4.2) (NP_setTo q4.2) (NP_setNot q4.2) (NP_nodes q4.2) (NP_sets q4.2) (NP_ranges q4.2) (NP_pat q4.2) (NP_patEnd q4.2) (NP_broken q4.2)) u9_No u9_Nx u9_Nf u9_Na u9_Nh u9_Nq u9_Nj u9_M0 u9_tc)) C hP (hDD _ _ _ _ _ _ _ _ _ _ _ _) hS 3 2 mw_3 rfl g7 rfl d_MM_row_65 (fun H locs hP hS => ?_)
            refine lv_goto (tgt := 77) hx hb d_MM_row_66 (by decide) ?_
            refine lv_iload hx hb d_MM_row_77 (lv_at hl 0 rfl) ?_
            refine lv_istore_n (lv' := [(3, .int q4.1), (4, .int q4.1), (0, .ref (ad 0)), (1, .int u9_x1), (2, .int u9_x2)]) hx hb d_MM_row_79 rfl hl (by decide) rfl (fun ls hl => ?_)
            refine lv_goto (tgt := 9) hx hb d_MM_row_80 (by decide) ?_
            cases h
            exact h0 rfl _ _ _ hP hS (lv_sub hl [2, 3, 4, 0] rfl)
set_option maxHeartbeats 4000000 in
set_option maxRecDepth 100000 in
theorem e_MM_row_b {E : (Nat → Prop) → State → Heap → Prop} {D : va_G} {ad kd sd vd xd : Nat → Nat} {ca : Nat → ClassId} {ky ty : Nat → Option Nat} (hE : o_EK E kd sd vd xd) (hKy : m_KY ky ty sd) (l : Launch) (n : Nat) (d : Nat) (rec : Int32 → SMT → SNP → Option (Int32 × SNP)) (hrec : ∀ (x1 : Int32) (tc : SMT) (Np : SNP) (Ni : SNI) (No : SNO) (Nx : SNX) (Nf : SNF) (Na : SNA) (Nh : SNH) (Nq : SNQ) (Nj : SNJ) (M0 : SMT) (r : Int32 × SNP), rec x1 tc Np = some r → o_Cn E l D m_cls (m_tys ca) y_MM_ways cc_MM_ways (rm_MM_ways d) [.ref (ad 0), .int x1] (m_cw ad ca ky ty 48 Ni Np No Nx Nf Na Nh Nq Nj M0 tc) (m_cw ad ca ky ty 48 Ni r.2 No Nx Nf Na Nh Nq Nj M0 tc) (some (.int r.1))) (x1 : Int32) (tc : SMT) (Np : SNP) (Ni : SNI) (No : SNO) (Nx : SNX) (Nf : SNF) (Na : SNA) (Nh : SNH) (Nq : SNQ) (Nj : SNJ) (M0 : SMT) {r : Int32 × SNP} (h : m_MM_row n rec x1 tc Np = some r) : o_Cn E l D m_cls (m_tys ca) y_MM_row cc_MM_row (rm_MM_row d) [.ref (ad 0), .int x1] (m_cw ad ca ky ty 48 Ni Np No Nx Nf Na Nh Nq Nj M0 tc) (m_cw ad ca ky ty 48 Ni r.2 No Nx Nf Na Nh Nq Nj M0 tc) (some (.int r.1)) := by
  refine o_Cn_of (by decide) (Nat.le_of_ble_eq_true rfl) ?_
  intro p e s m below meth c A ls C hD hP hS hl
  have hDD : ∀ (rt : Nat) (Ni : SNI) (Np : SNP) (No : SNO) (Nx : SNX) (Nf : SNF) (Na : SNA) (Nh : SNH) (Nq : SNQ) (Nj : SNJ) (M0 : SMT) (M1 : SMT), va_D A (m_cw ad ca ky ty rt Ni Np No Nx Nf Na Nh Nq Nj M0 M1) := fun _ _ _ _ _ _ _ _ _ _ _ _ => o_D_map hD rfl
  have hl : lv_has ls 5 [(0, .ref (ad 0)), (1, .int x1)] := hl
  unfold m_MM_row at h
  have C0 := C
  obtain ⟨hx, hb, -, -, -, hown, hts, hK, -, -⟩ := C0
  refine lv_aload_n hx hb d_MM_row_0 rfl (lv_at hl 0 rfl) ?_
  refine lv_iconst (v := (4:Int32)) hx hb d_MM_row_1 (by decide) ?_
  refine lv_iconst (v := (-1:Int32)) hx hb d_MM_row_2 (by decide) ?_
  obtain ⟨q1, hq1, h⟩ := o_bd_some h
  refine o_V (st1 := [.int q1.1]) (w1 := (m_cw ad ca ky ty 48 Ni q1.2 No Nx Nf Na Nh Nq Nj M0 tc)) hE.1 C (e_MM_node hE hKy l (4:Int32) (-1:Int32) Np Ni No Nx Nf Na Nh Nq Nj M0 tc 48 hq1) hP (hDD _ _ _ _ _ _ _ _ _ _ _ _) hS hl.1 rfl mw_0 k_9_62 k_9_64 k_s_87 k_1_12 k_9_65 hv_MM_node rfl rfl ⟨(by dsimp only [rm_MM_row, rm_MM_node]; omega), (by dsimp only [rm_MM_row, rm_MM_node]; omega)⟩ rfl (Nat.le_of_ble_eq_true rfl) ⟨Nat.zero_le _, Nat.zero_le _⟩ rfl d_MM_row_3 (fun H locs hP hS => ?_)
  refine lv_istore_n (lv' := [(2, .int q1.1), (0, .ref (ad 0)), (1, .int x1)]) hx hb d_MM_row_6 rfl hl (by decide) rfl (fun ls hl => ?_)
  refine lv_iconst (v := (-1:Int32)) hx hb d_MM_row_7 (by decide) ?_
  refine lv_istore_n (lv' := [(3, .int (-1:Int32)), (2, .int q1.1), (0, .ref (ad 0)), (1, .int x1)]) hx hb d_MM_row_8 rfl hl (by decide) rfl (fun ls hl => ?_)
  obtain ⟨q5, hq5, h⟩ := o_bd_some h
  refine o_sim2 (AH := fun zz => o_At p l e (rm_MM_row d) s m _ below meth c _ m_cls D A 5 9 [] (m_cw ad ca ky ty 48 Ni zz.2 No Nx Nf Na Nh Nq Nj M0 tc) [(0, .ref (ad 0)), (1, .int x1), (2, .int q1.1), (3, .int zz.1)]) (AX := fun qq => o_At p l e (rm_MM_row d) s m _ below meth c _ m_cls D A 5 83 [] (m_cw ad ca ky ty 48 Ni qq.2.2 No Nx Nf Na Nh Nq Nj M0 tc) [(2, .int q1.1)]) (fun zz qq h h0 h1 => f_MM_row_b9_b hE hKy C hDD d rec hrec n x1 q1.1 tc Ni No Nx Nf Na Nh Nq Nj M0 zz qq h h0 h1) n _ q5 hq5 ?_ _ _ _ hP hS (lv_sub hl [2, 3, 1, 0] rfl)
  intro H locs ls hP hS hl
  refine lv_iload_n hx hb d_MM_row_83 rfl (lv_at hl 0 rfl) ?_
  cases h
  exact o_ri C hP hS d_MM_row_84
set_option maxHeartbeats 4000000 in
set_option maxRecDepth 100000 in
theorem f_MM_ways_j48_a {E : (Nat → Prop) → State → Heap → Prop} {p : Program} {l : Launch} {e : Env} {s : State} {m : MethodId} {args : Array Value} {below : List Frame} {meth : Method} {c : Code} {D : va_G} {ad kd sd vd xd : Nat → Nat} {ca : Nat → ClassId} {A : Nat → Prop} {ky ty : Nat → Option Nat} {Q : State → Prop} (hE : o_EK E kd sd vd xd) (hKy : m_KY ky ty sd) (C : o_Cx E p s m args meth c D m_cls (m_tys ca) "SchemaJudgeModel" b_MM_ways (some .int) 5 cc_MM_ways A) (hDD : ∀ (rt : Nat) (Ni : SNI) (Np : SNP) (No : SNO) (Nx : SNX) (Nf : SNF) (Na : SNA) (Nh : SNH) (Nq : SNQ) (Nj : SNJ) (M0 : SMT) (M1 : SMT), va_D A (m_cw ad ca ky ty rt Ni Np No Nx Nf Na Nh Nq Nj M0 M1)) (d : Nat) (rec : Int32 → SMT → SNP → Option (Int32 × SNP)) (hrec : ∀ (x1 : Int32) (tc : SMT) (Np : SNP) (Ni : SNI) (No : SNO) (Nx : SNX) (Nf : SNF) (Na : SNA) (Nh : SNH) (Nq : SNQ) (Nj : SNJ) (M1 : SMT) (r : Int32 × SNP), rec x1 tc Np = some r → o_Cn E l D m_cls (m_tys ca) y_MM_ways cc_MM_ways (rm_MM_ways d) [.ref (ad 0), .int x1] (m_cw ad ca ky ty 33 Ni Np No Nx Nf Na Nh Nq Nj tc M1) (m_cw ad ca ky ty 33 Ni r.2 No Nx Nf Na Nh Nq Nj tc M1) (some (.int r.1))) (n : Nat) (u9_x1 : Int32) (u9_x2 : Int32) (u9_tc : SMT) (u9_Ni : SNI) (u9_No : SNO) (u9_Nx : SNX) (u9_Nf : SNF) (u9_Na : SNA) (u9_Nh : SNH) (u9_Nq : SNQ) (u9_Nj : SNJ) (u9_M1 : SMT) (x4 : Int32) (Np : SNP) {q : Nat × Int32 × SNP} (h : m_MM_ways_j48 n rec u9_x1 u9_x2 x4 u9_tc Np = some q) (h0 : q.1 = 0 → o_At p l e (rm_MM_ways (d + 1)) s m args below meth c Q m_cls D A 5 9 [] (m_cw ad ca ky ty 33 u9_Ni q.2.2 u9_No u9_Nx u9_Nf u9_Na u9_Nh u9_Nq u9_Nj u9_tc u9_M1) [(0, .ref (ad 0)), (1, .int u9_x1), (2, .int u9_x2), (3, .int q.2.1)]) (h1 : q.1 ≠ 0 → (if q.1 = 1 then o_At p l e (rm_MM_ways (d + 1)) s m args below meth c Q m_cls D A 5 23 [] (m_cw ad ca ky ty 33 u9_Ni q.2.2 u9_No u9_Nx u9_Nf u9_Na u9_Nh u9_Nq u9_Nj u9_tc u9_M1) [(2, .int u9_x2)] else o_At p l e (rm_MM_ways (d + 1)) s m args below meth c Q m_cls D A 5 71 [] (m_cw ad ca ky ty 33 u9_Ni q.2.2 u9_No u9_Nx u9_Nf u9_Na u9_Nh u9_Nq u9_Nj u9_tc u9_M1) [(2, .int u9_x2)])) : o_At p l e (rm_MM_ways (d + 1)) s m args below meth c Q m_cls D A 5 48 [] (m_cw ad ca ky ty 33 u9_Ni Np u9_No u9_Nx u9_Nf u9_Na u9_Nh u9_Nq u9_Nj u9_tc u9_M1) [(0, .ref (ad 0)), (1, .int u9_x1), (2, .int u9_x2), (4, .int x4)] := by
  unfold m_MM_ways_j48 at h
  intro H locs ls hP hS hl
  have C0 := C
  obtain ⟨hx, hb, -, -, -, hown, hts, hK, -, -⟩ := C0
  refine lv_iload hx hb d_MM_ways_48 (lv_at hl 3 rfl) ?_
  refine lv_istore_n (lv' := [(3, .int x4), (0, .ref (ad 0)), (1, .int u9_x1), (2, .int u9_x2), (4, .int x4)]) hx hb d_MM_ways_50 rfl hl (by decide) rfl (fun ls hl => ?_)
  refine lv_aload_n hx hb d_MM_ways_51 rfl (lv_at hl 1 rfl) ?_
  refine o_get (v := .ref (ad 4)) C in_MM hP 0 mw_0 rfl 8 (by decide) k_7_238 rfl rfl d_MM_ways_52 ?_
  refine lv_iload_n hx hb d_MM_ways_55 rfl (lv_at hl 3 rfl) ?_
  refine lv_dup2_11 hx hb d_MM_ways_56 rfl rfl ?_
  obtain ⟨g4, h⟩ := o_gd_some h
  refine o_iald (f := (NP_nodeB Np)) C hP 4 3 mw_4 rfl g4 d_MM_ways_57 ?_
  refine lv_iconst (v := (1:Int32)) hx hb d_MM_ways_58 (by decide) ?_
  refine lv_iadd hx hb d_MM_ways_59 ?_
  obtain ⟨g5, h⟩ := o_gd_some h
  refine o_iast (f := (NP_nodeB Np)) (w1 := (m_cw ad ca ky ty 33 u9_Ni (NP_mk (NP_nodeKind Np) (NP_nodeA Np) (upd (NP_nodeB Np) u9_x2.toNatClampNeg (((NP_nodeB Np) u9_x2.toNatClampNeg) + (1:Int32))) (NP_nodeC Np) (NP_nodeNext Np) (NP_low Np) (NP_high Np) (NP_setFrom Np) (NP_setTo Np) (NP_setNot Np) (NP_nodes Np) (NP_sets Np) (NP_ranges Np) (NP_pat Np) (NP_patEnd Np) (NP_broken Np)) u9_No u9_Nx u9_Nf u9_Na u9_Nh u9_Nq u9_Nj u9_tc u9_M1)) C hP (hDD _ _ _ _ _ _ _ _ _ _ _ _) hS 4 3 mw_4 rfl g5 rfl d_MM_ways_60 (fun H locs hP hS => ?_)
  refine lv_aload_n hx hb d_MM_ways_61 rfl (lv_at hl 1 rfl) ?_
  refine lv_iconst (v := (0:Int32)) hx hb d_MM_ways_62 (by decide) ?_
  obtain ⟨q3, hq3, h⟩ := o_bd_some h
  refine o_V (st1 := [.int q3]) (w1 := (m_cw ad ca ky ty 33 u9_Ni (NP_mk (NP_nodeKind Np) (NP_nodeA Np) (upd (NP_nodeB Np) u9_x2.toNatClampNeg (((NP_nodeB Np) u9_x2.toNatClampNeg) + (1:Int32))) (NP_nodeC Np) (NP_nodeNext Np) (NP_low Np) (NP_high Np) (NP_setFrom Np) (NP_setTo Np) (NP_setNot Np) (NP_nodes Np) (NP_sets Np) (NP_ranges Np) (NP_pat Np) (NP_patEnd Np) (NP_broken Np)) u9_No u9_Nx u9_Nf u9_Na u9_Nh u9_Nq u9_Nj u9_tc u9_M1)) hE.1 C (e_MM_p_a hE hKy l (0:Int32) u9_tc (NP_mk (NP_nodeKind Np) (NP_nodeA Np) (upd (NP_nodeB Np) u9_x2.toNatClampNeg (((NP_nodeB Np) u9_x2.toNatClampNeg) + (1:Int32))) (NP_nodeC Np) (NP_nodeNext Np) (NP_low Np) (NP_high Np) (NP_setFrom Np) (NP_setTo Np) (NP_setNot Np) (NP_nodes Np) (NP_sets Np) (NP_ranges Np) (NP_pat Np) (NP_patEnd Np) (NP_broken Np)) u9_Ni u9_No u9_Nx u9_Nf u9_Na u9_Nh u9_Nq u9_Nj u9_M1 hq3) hP (hDD _ _ _ _ _ _ _ _ _ _ _ _) hS hl.1 rfl mw_0 k_9_70 k_9_72 k_s_89 k_1_12 k_9_73 hv_MM_p rfl rfl ⟨(by dsimp only [rm_MM_ways, rm_MM_p]; omega), (by dsimp only [rm_MM_ways, rm_MM_p]; omega)⟩ rfl (Nat.le_of_ble_eq_true rfl) ⟨Nat.zero_le _, Nat.zero_le _⟩ rfl d_MM_ways_63 (fun H locs hP hS => ?_)
  refine lv_bipush (v := (124:Int32)) hx hb d_MM_ways_66 (by decide) ?_
  refine lv_icmp_eq (tgt := 73) hx hb d_MM_ways_68 (by decide) (fun c6 => ?_) (fun c6 => ?_)
  · replace h := o_tt c6 h
    refine lv_aload_n hx hb d_MM_ways_73 rfl (lv_at hl 1 rfl) ?_
    refine lv_dup hx hb d_MM_ways_74 rfl ?_
    refine o_get (v := .int (NP_pat Np)) C in_MM hP 0 mw_0 rfl 27 (by decide) k_8_17 rfl rfl d_MM_ways_75 ?_
    refine lv_iconst (v := (1:Int32)) hx hb d_MM_ways_78 (by decide) ?_
    refine lv_iadd hx hb d_MM_ways_79 ?_
    refine o_put (v := .int ((NP_pat Np) + (1:Int32))) (ty := .int) (w1 := (m_cw ad ca ky ty 33 u9_Ni (NP_mk (NP_nodeKind Np) (NP_nodeA Np) (upd (NP_nodeB Np) u9_x2.toNatClampNeg (((NP_nodeB Np) u9_x2.toNatClampNeg) + (1:Int32))) (NP_nodeC Np) (NP_nodeNext Np) (NP_low Np) (NP_high Np) (NP_setFrom Np) (NP_setTo Np) (NP_setNot Np) (NP_nodes Np) (NP_sets Np) (NP_ranges Np) ((NP_pat Np) + (1:Int32)) (NP_patEnd Np) (NP_broken Np)) u9_No u9_Nx u9_Nf u9_Na u9_Nh u9_Nq u9_Nj u9_tc u9_M1)) C in_MM t_MM t_MM_ok n_MM hP (hDD _ _ _ _ _ _ _ _ _ _ _ _) hS 0 mw_0 rfl 27 (by decide) k_8_17 rfl rfl (by decide +kernel) rfl rfl (Nat.le_of_ble_eq_true rfl) rfl d_MM_ways_80 (fun H locs hP hS => ?_)
    refine lv_goto (tgt := 9) hx hb d_MM_ways_83 (by decide) ?_
    cases h
    exact h0 rfl _ _ _ hP hS (lv_sub hl [1, 2, 3, 0] rfl)
  · replace h := o_ff c6 h
    cases h
    exact h1 (Nat.succ_ne_zero 1) _ _ _ hP hS (lv_sub hl [3] rfl)
set_option maxHeartbeats 4000000 in
set_option maxRecDepth 100000 in
theorem f_MM_ways_b9_a {E : (Nat → Prop) → State → Heap → Prop} {p : Program} {l : Launch} {e : Env} {s : State} {m : MethodId} {args : Array Value} {below : List Frame} {meth : Method} {c : Code} {D : va_G} {ad kd sd vd xd : Nat → Nat} {ca : Nat → ClassId} {A : Nat → Prop} {ky ty : Nat → Option Nat} {Q : State → Prop} (hE : o_EK E kd sd vd xd) (hKy : m_KY ky ty sd) (C : o_Cx E p s m args meth c D m_cls (m_tys ca) "SchemaJudgeModel" b_MM_ways (some .int) 5 cc_MM_ways A) (hDD : ∀ (rt : Nat) (Ni : SNI) (Np : SNP) (No : SNO) (Nx : SNX) (Nf : SNF) (Na : SNA) (Nh : SNH) (Nq : SNQ) (Nj : SNJ) (M0 : SMT) (M1 : SMT), va_D A (m_cw ad ca ky ty rt Ni Np No Nx Nf Na Nh Nq Nj M0 M1)) (d : Nat) (rec : Int32 → SMT → SNP → Option (Int32 × SNP)) (hrec : ∀ (x1 : Int32) (tc : SMT) (Np : SNP) (Ni : SNI) (No : SNO) (Nx : SNX) (Nf : SNF) (Na : SNA) (Nh : SNH) (Nq : SNQ) (Nj : SNJ) (M1 : SMT) (r : Int32 × SNP), rec x1 tc Np = some r → o_Cn E l D m_cls (m_tys ca) y_MM_ways cc_MM_ways (rm_MM_ways d) [.ref (ad 0), .int x1] (m_cw ad ca ky ty 33 Ni Np No Nx Nf Na Nh Nq Nj tc M1) (m_cw ad ca ky ty 33 Ni r.2 No Nx Nf Na Nh Nq Nj tc M1) (some (.int r.1))) (n : Nat) (u9_x1 : Int32) (u9_x2 : Int32) (u9_tc : SMT) (u9_Ni : SNI) (u9_No : SNO) (u9_Nx : SNX) (u9_Nf : SNF) (u9_Na : SNA) (u9_Nh : SNH) (u9_Nq : SNQ) (u9_Nj : SNJ) (u9_M1 : SMT) (z : Int32 × SNP) (q : Nat × Int32 × SNP) (h : m_MM_ways_b9 n rec u9_x1 u9_x2 u9_tc z = some q) (h0 : q.1 = 0 → o_At p l e (rm_MM_ways (d + 1)) s m args below meth c Q m_cls D A 5 9 [] (m_cw ad ca ky ty 33 u9_Ni q.2.2 u9_No u9_Nx u9_Nf u9_Na u9_Nh u9_Nq u9_Nj u9_tc u9_M1) [(0, .ref (ad 0)), (1, .int u9_x1), (2, .int u9_x2), (3, .int q.2.1)]) (h1 : q.1 ≠ 0 → (if q.1 = 1 then o_At p l e (rm_MM_ways (d + 1)) s m args below meth c Q m_cls D A 5 23 [] (m_cw ad ca ky ty 33 u9_Ni q.2.2 u9_No u9_Nx u9_Nf u9_Na u9_Nh u9_Nq u9_Nj u9_tc u9_M1) [(2, .int u9_x2)] else o_At p l e (rm_MM_ways (d + 1)) s m args below meth c Q m_cls D A 5 71 [] (m_cw ad ca ky ty 33 u9_Ni q.2.2 u9_No u9_Nx u9_Nf u9_Na u9_Nh u9_Nq u9_Nj u9_tc u9_M1) [(2, .int u9_x2)])) : o_At p l e (rm_MM_ways (d + 1)) s m args below meth c Q m_cls D A 5 9 [] (m_cw ad ca ky ty 33 u9_Ni z.2 u9_No u9_Nx u9_Nf u9_Na u9_Nh u9_Nq u9_Nj u9_tc u9_M1) [(0, .ref (ad 0)), (1, .int u9_x1), (2, .int u9_x2), (3, .int z.1)] := by
  unfold m_MM_ways_b9 at h
  intro H locs ls hP hS hl
  have C0 := C
  obtain ⟨hx, hb, -, -, -, hown, hts, hK, -, -⟩ := C0
  refine lv_aload_n hx hb d_MM_ways_9 rfl (lv_at hl 0 rfl) ?_
  refine lv_iload_n hx hb d_MM_ways_10 rfl (lv_at hl 1 rfl) ?_
  obtain ⟨q2, hq2, h⟩ := o_bd_some h
  refine o_V (st1 := [.int q2.1]) (w1 := (m_cw ad ca ky ty 33 u9_Ni q2.2 u9_No u9_Nx u9_Nf u9_Na u9_Nh u9_Nq u9_Nj u9_tc u9_M1)) hE.1 C (e_MM_row_a hE hKy l n d rec hrec u9_x1 u9_tc z.2 u9_Ni u9_No u9_Nx u9_Nf u9_Na u9_Nh u9_Nq u9_Nj u9_M1 hq2) hP (hDD _ _ _ _ _ _ _ _ _ _ _ _) hS hl.1 rfl mw_0 k_9_66 k_9_68 k_s_88 k_1_12 k_9_69 hv_MM_row rfl rfl ⟨(by dsimp only [rm_MM_ways, rm_MM_row]; omega), (by dsimp only [rm_MM_ways, rm_MM_row]; omega)⟩ rfl (Nat.le_of_ble_eq_true rfl) ⟨Nat.zero_le _, Nat.zero_le _⟩ rfl d_MM_ways_11 (fun H locs hP hS => ?_)
  refine lv_istore (lv' := [(4, .int q2.1), (0, .ref (ad 0)), (1, .int u9_x1), (2, .int u9_x2), (3, .int z.1)]) hx hb d_MM_ways_14 hl (by decide) rfl (fun ls hl => ?_)
  refine lv_aload_n hx hb d_MM_ways_16 rfl (lv_at hl 1 rfl) ?_
  refine o_get (v := .int (NP_broken q2.2)) C in_MM hP 0 mw_0 rfl 32 (by decide) k_8_22 rfl rfl d_MM_ways_17 ?_
  refine lv_if_eq (tgt := 25) hx hb d_MM_ways_20 (by decide) (fun c1 => ?_) (fun c1 => ?_)
  · replace h := o_tt c1 h
    refine lv_iload_n hx hb d_MM_ways_25 rfl (lv_at hl 4 rfl) ?_
    refine lv_if_ge (tgt := 40) hx hb d_MM_ways_26 (by decide) (fun c2 => ?_) (fun c2 => ?_)
    · replace h := o_tt c2 h
      refine lv_aload_n hx hb d_MM_ways_40 rfl (lv_at hl 1 rfl) ?_
      refine o_get (v := .ref (ad 6)) C in_MM hP 0 mw_0 rfl 10 (by decide) k_8_0 rfl rfl d_MM_ways_41 ?_
      refine lv_iload_n hx hb d_MM_ways_44 rfl (lv_at hl 4 rfl) ?_
      refine lv_iload hx hb d_MM_ways_45 (lv_at hl 0 rfl) ?_
      obtain ⟨g3, h⟩ := o_gd_some h
      refine o_iast (f := (NP_nodeNext q2.2)) (w1 := (m_cw ad ca ky ty 33 u9_Ni (NP_mk (NP_nodeKind q2.2) (NP_nodeA q2.2) (NP_nodeB q2.2) (NP_nodeC q2.2) (upd (NP_nodeNext q2.2) z.1.toNatClampNeg q2.1) (NP_low q2.2) (NP_high q2.2) (NP_setFrom q2.2) (NP_setTo q2.2) (NP_setNot q2.2) (NP_nodes q2.2) (NP_sets q2.2) (NP_ranges q2.2) (NP_pat q2.2) (NP_patEnd q2.2) (NP_broken q2.2)) u9_No u9_Nx u9_Nf u9_Na u9_Nh u9_Nq u9_Nj u9_tc u9_M1)) C hP (hDD _ _ _ _ _ _ _ _ _ _ _ _) hS 6 5 mw_6 rfl g3 rfl d_MM_ways_47 (fun H locs hP hS => ?_)
      exact f_MM_ways_j48_a hE hKy C hDD d rec hrec n u9_x1 u9_x2 u9_tc u9_Ni u9_No u9_Nx u9_Nf u9_Na u9_Nh u9_Nq u9_Nj u9_M1 q2.1 (NP_mk (NP_nodeKind q2.2) (NP_nodeA q2.2) (NP_nodeB q2.2) (NP_nodeC q2.2) (upd (NP_nodeNext q2.2) z.1.toNatClampNeg q2.1) (NP_low q2.2) (NP_high q2.2) (NP_setFrom q2.2) (NP_setTo q2.2) (NP_setNot q2.2) (NP_nodes q2.2) (NP_sets q2.2) (NP_ranges q2.2) (NP_pat q2.2) (NP_patEnd q2.2) (NP_broken q2.2)) h h0 h1 _ _ _ hP hS (lv_sub hl [1, 2, 3, 0] rfl)
    · replace h := o_ff c2 h
      refine lv_aload_n hx hb d_MM_ways_29 rfl (lv_at hl 1 rfl) ?_
      refine o_get (v := .ref (ad 3)) C in_MM hP 0 mw_0 rfl 7 (by decide) k_7_237 rfl rfl d_MM_ways_30 ?_
      refine lv_iload_n hx hb d_MM_ways_33 rfl (lv_at hl 3 rfl) ?_
      refine lv_iload hx hb d_MM_ways_34 (lv_at hl 0 rfl) ?_
      obtain ⟨g7, h⟩ := o_gd_some h
      refine o_iast (f := (NP_nodeA q2.2)) (w1 := (m_cw ad ca ky ty 33 u9_Ni (NP_mk (NP_nodeKind q2.2) (upd (NP_nodeA q2.2) u9_x2.toNatClampNeg q2.1) (NP_nodeB q2.2) (NP_nodeC q2.2) (NP_nodeNext q2.2) (NP_low q2.2) (NP_high q2.2) (NP_setFrom q2.2) (NP_setTo q2.2) (NP_setNot q2.2) (NP_nodes q2.2) (NP_sets q2.2) (NP_ranges q2.2) (NP_pat q2.2) (NP_patEnd q2.2) (NP_broken q2.2)) u9_No u9_Nx u9_Nf u9_Na u9_Nh u9_Nq u9_Nj u9_tc u9_M1)) C hP (hDD _ _ _ _ _ _ _ _ _ _ _ _) hS 3 2 mw_3 rfl g7 rfl d_MM_ways_36 (fun H locs hP hS => ?_)
      refine lv_goto (tgt := 48) hx hb d_MM_ways_37 (by decide) ?_
      exact f_MM_ways_j48_a hE hKy C hDD d rec hrec n u9_x1 u9_x2 u9_tc u9_Ni u9_No u9_Nx u9_Nf u9_Na u9_Nh u9_Nq u9_Nj u9_M1 q2.1 (NP_mk (NP_nodeKind q2.2) (upd (NP_nodeA q2.2) u9_x2.toNatClampNeg q2.1) (NP_nodeB q2.2) (NP_nodeC q2.2) (NP_nodeNext q2.2) (NP_low q2.2) (NP_high q2.2) (NP_setFrom q2.2) (NP_setTo q2.2) (NP_setNot q2.2) (NP_nodes q2.2) (NP_sets q2.2) (NP_ranges q2.2) (NP_pat q2.2) (NP_patEnd q2.2) (NP_broken q2.2)) h h0 h1 _ _ _ hP hS (lv_sub hl [1, 2, 3, 0] rfl)
  · replace h := o_ff c1 h
    cases h
    exact h1 (Nat.succ_ne_zero 0) _ _ _ hP hS (lv_sub hl [3] rfl)
set_option maxHeartbeats 4000000 in
set_option maxRecDepth 100000 in
theorem e_MM_ways_a_F {E : (Nat → Prop) → State → Heap → Prop} {D : va_G} {ad kd sd vd xd : Nat → Nat} {ca : Nat → ClassId} {ky ty : Nat → Option Nat} (hE : o_EK E kd sd vd xd) (hKy : m_KY ky ty sd) (l : Launch) (n : Nat) (d : Nat) (rec : Int32 → SMT → SNP → Option (Int32 × SNP)) (hrec : ∀ (x1 : Int32) (tc : SMT) (Np : SNP) (Ni : SNI) (No : SNO) (Nx : SNX) (Nf : SNF) (Na : SNA) (Nh : SNH) (Nq : SNQ) (Nj : SNJ) (M1 : SMT) (r : Int32 × SNP), rec x1 tc Np = some r → o_Cn E l D m_cls (m_tys ca) y_MM_ways cc_MM_ways (rm_MM_ways d) [.ref (ad 0), .int x1] (m_cw ad ca ky ty 33 Ni Np No Nx Nf Na Nh Nq Nj tc M1) (m_cw ad ca ky ty 33 Ni r.2 No Nx Nf Na Nh Nq Nj tc M1) (some (.int r.1))) (x1 : Int32) (tc : SMT) (Np : SNP) (Ni : SNI) (No : SNO) (Nx : SNX) (Nf : SNF) (Na : SNA) (Nh : SNH) (Nq : SNQ) (Nj : SNJ) (M1 : SMT) {r : Int32 × SNP} (h : m_MM_ways_F n rec x1 tc Np = some r) : o_Cn E l D m_cls (m_tys ca) y_MM_ways cc_MM_ways (rm_MM_ways (d + 1)) [.ref (ad 0), .int x1] (m_cw ad ca ky ty 33 Ni Np No Nx Nf Na Nh Nq Nj tc M1) (m_cw ad ca ky ty 33 Ni r.2 No Nx Nf Na Nh Nq Nj tc M1) (some (.int r.1)) := by
  refine o_Cn_of (by decide) (Nat.le_of_ble_eq_true rfl) ?_
  intro p e s m below meth c A ls C hD hP hS hl
  have hDD : ∀ (rt : Nat) (Ni : SNI) (Np : SNP) (No : SNO) (Nx : SNX) (Nf : SNF) (Na : SNA) (Nh : SNH) (Nq : SNQ) (Nj : SNJ) (M0 : SMT) (M1 : SMT), va_D A (m_cw ad ca ky ty rt Ni Np No Nx Nf Na Nh Nq Nj M0 M1) := fun _ _ _ _ _ _ _ _ _ _ _ _ => o_D_map hD rfl
  have hl : lv_has ls 5 [(0, .ref (ad 0)), (1, .int x1)] := hl
  unfold m_MM_ways_F at h
  have C0 := C
  obtain ⟨hx, hb, -, -, -, hown, hts, hK, -, -⟩ := C0
  refine lv_aload_n hx hb d_MM_ways_0 rfl (lv_at hl 0 rfl) ?_
  refine lv_iconst (v := (5:Int32)) hx hb d_MM_ways_1 (by decide) ?_
  refine lv_iconst (v := (-1:Int32)) hx hb d_MM_ways_2 (by decide) ?_
  obtain ⟨q1, hq1, h⟩ := o_bd_some h
  refine o_V (st1 := [.int q1.1]) (w1 := (m_cw ad ca ky ty 33 Ni q1.2 No Nx Nf Na Nh Nq Nj tc M1)) hE.1 C (e_MM_node hE hKy l (5:Int32) (-1:Int32) Np Ni No Nx Nf Na Nh Nq Nj tc M1 33 hq1) hP (hDD _ _ _ _ _ _ _ _ _ _ _ _) hS hl.1 rfl mw_0 k_9_62 k_9_64 k_s_87 k_1_12 k_9_65 hv_MM_node rfl rfl ⟨(by dsimp only [rm_MM_ways, rm_MM_node]; omega), (by dsimp only [rm_MM_ways, rm_MM_node]; omega)⟩ rfl (Nat.le_of_ble_eq_true rfl) ⟨Nat.zero_le _, Nat.zero_le _⟩ rfl d_MM_ways_3 (fun H locs hP hS => ?_)
  refine lv_istore_n (lv' := [(2, .int q1.1), (0, .ref (ad 0)), (1, .int x1)]) hx hb d_MM_ways_6 rfl hl (by decide) rfl (fun ls hl => ?_)
  refine lv_iconst (v := (-1:Int32)) hx hb d_MM_ways_7 (by decide) ?_
  refine lv_istore_n (lv' := [(3, .int (-1:Int32)), (2, .int q1.1), (0, .ref (ad 0)), (1, .int x1)]) hx hb d_MM_ways_8 rfl hl (by decide) rfl (fun ls hl => ?_)
  obtain ⟨q4, hq4, h⟩ := o_bd_some h
  refine o_sim2 (AH := fun zz => o_At p l e (rm_MM_ways (d + 1)) s m _ below meth c _ m_cls D A 5 9 [] (m_cw ad ca ky ty 33 Ni zz.2 No Nx Nf Na Nh Nq Nj tc M1) [(0, .ref (ad 0)), (1, .int x1), (2, .int q1.1), (3, .int zz.1)]) (AX := fun qq => if qq.1 = 1 then o_At p l e (rm_MM_ways (d + 1)) s m _ below meth c _ m_cls D A 5 23 [] (m_cw ad ca ky ty 33 Ni qq.2.2 No Nx Nf Na Nh Nq Nj tc M1) [(2, .int q1.1)] else o_At p l e (rm_MM_ways (d + 1)) s m _ below meth c _ m_cls D A 5 71 [] (m_cw ad ca ky ty 33 Ni qq.2.2 No Nx Nf Na Nh Nq Nj tc M1) [(2, .int q1.1)]) (fun zz qq h h0 h1 => f_MM_ways_b9_a hE hKy C hDD d rec hrec n x1 q1.1 tc Ni No Nx Nf Na Nh Nq Nj M1 zz qq h h0 h1) n _ q4 hq4 ?_ _ _ _ hP hS (lv_sub hl [2, 3, 1, 0] rfl)
  by_cases c8 : q4.1 = 1
  · replace h := o_tt c8 h
    refine o_ip c8 ?_
    intro H locs ls hP hS hl
    refine lv_iload_n hx hb d_MM_ways_23 rfl (lv_at hl 0 rfl) ?_
    cases h
    exact o_ri C hP hS d_MM_ways_24
  replace h := o_ff c8 h
  refine o_in_ c8 ?_
  intro H locs ls hP hS hl
  refine lv_iload_n hx hb d_MM_ways_71 rfl (lv_at hl 0 rfl) ?_
  cases h
  exact o_ri C hP hS d_MM_ways_72
set_option maxHeartbeats 4000000 in
set_option maxRecDepth 100000 in
theorem e_MM_ways_a {E : (Nat → Prop) → State → Heap → Prop} {D : va_G} {ad kd sd vd xd : Nat → Nat} {ca : Nat → ClassId} {ky ty : Nat → Option Nat} (hE : o_EK E kd sd vd xd) (hKy : m_KY ky ty sd) (l : Launch) (n : Nat) (d : Nat) (x1 : Int32) (tc : SMT) (Np : SNP) (Ni : SNI) (No : SNO) (Nx : SNX) (Nf : SNF) (Na : SNA) (Nh : SNH) (Nq : SNQ) (Nj : SNJ) (M1 : SMT) {r : Int32 × SNP} (h : m_MM_ways n d x1 tc Np = some r) : o_Cn E l D m_cls (m_tys ca) y_MM_ways cc_MM_ways (rm_MM_ways d) [.ref (ad 0), .int x1] (m_cw ad ca ky ty 33 Ni Np No Nx Nf Na Nh Nq Nj tc M1) (m_cw ad ca ky ty 33 Ni r.2 No Nx Nf Na Nh Nq Nj tc M1) (some (.int r.1)) := by
  induction d generalizing x1 tc Np Ni No Nx Nf Na Nh Nq Nj M1 r with
  | zero => cases h
  | succ d ih =>
    exact e_MM_ways_a_F hE hKy l n d (m_MM_ways n d) (fun x1 tc Np Ni No Nx Nf Na Nh Nq Nj M1 r h => ih x1 tc Np Ni No Nx Nf Na Nh Nq Nj M1 h) _ _ _ _ _ _ _ _ _ _ _ _ h
set_option maxHeartbeats 4000000 in
set_option maxRecDepth 100000 in
theorem f_MM_ways_j48_b {E : (Nat → Prop) → State → Heap → Prop} {p : Program} {l : Launch} {e : Env} {s : State} {m : MethodId} {args : Array Value} {below : List Frame} {meth : Method} {c : Code} {D : va_G} {ad kd sd vd xd : Nat → Nat} {ca : Nat → ClassId} {A : Nat → Prop} {ky ty : Nat → Option Nat} {Q : State → Prop} (hE : o_EK E kd sd vd xd) (hKy : m_KY ky ty sd) (C : o_Cx E p s m args meth c D m_cls (m_tys ca) "SchemaJudgeModel" b_MM_ways (some .int) 5 cc_MM_ways A) (hDD : ∀ (rt : Nat) (Ni : SNI) (Np : SNP) (No : SNO) (Nx : SNX) (Nf : SNF) (Na : SNA) (Nh : SNH) (Nq : SNQ) (Nj : SNJ) (M0 : SMT) (M1 : SMT), va_D A (m_cw ad ca ky ty rt Ni Np No Nx Nf Na Nh Nq Nj M0 M1)) (d : Nat) (rec : Int32 → SMT → SNP → Option (Int32 × SNP)) (hrec : ∀ (x1 : Int32) (tc : SMT) (Np : SNP) (Ni : SNI) (No : SNO) (Nx : SNX) (Nf : SNF) (Na : SNA) (Nh : SNH) (Nq : SNQ) (Nj : SNJ) (M0 : SMT) (r : Int32 × SNP), rec x1 tc Np = some r → o_Cn E l D m_cls (m_tys ca) y_MM_ways cc_MM_ways (rm_MM_ways d) [.ref (ad 0), .int x1] (m_cw ad ca ky ty 48 Ni Np No Nx Nf Na Nh Nq Nj M0 tc) (m_cw ad ca ky ty 48 Ni r.2 No Nx Nf Na Nh Nq Nj M0 tc) (some (.int r.1))) (n : Nat) (u9_x1 : Int32) (u9_x2 : Int32) (u9_tc : SMT) (u9_Ni : SNI) (u9_No : SNO) (u9_Nx : SNX) (u9_Nf : SNF) (u9_Na : SNA) (u9_Nh : SNH) (u9_Nq : SNQ) (u9_Nj : SNJ) (u9_M0 : SMT) (x4 : Int32) (Np : SNP) {q : Nat × Int32 × SNP} (h : m_MM_ways_j48 n rec u9_x1 u9_x2 x4 u9_tc Np = some q) (h0 : q.1 = 0 → o_At p l e (rm_MM_ways (d + 1)) s m args below meth c Q m_cls D A 5 9 [] (m_cw ad ca ky ty 48 u9_Ni q.2.2 u9_No u9_Nx u9_Nf u9_Na u9_Nh u9_Nq u9_Nj u9_M0 u9_tc) [(0, .ref (ad 0)), (1, .int u9_x1), (2, .int u9_x2), (3, .int q.2.1)]) (h1 : q.1 ≠ 0 → (if q.1 = 1 then o_At p l e (rm_MM_ways (d + 1)) s m args below meth c Q m_cls D A 5 23 [] (m_cw ad ca ky ty 48 u9_Ni q.2.2 u9_No u9_Nx u9_Nf u9_Na u9_Nh u9_Nq u9_Nj u9_M0 u9_tc) [(2, .int u9_x2)] else o_At p l e (rm_MM_ways (d + 1)) s m args below meth c Q m_cls D A 5 71 [] (m_cw ad ca ky ty 48 u9_Ni q.2.2 u9_No u9_Nx u9_Nf u9_Na u9_Nh u9_Nq u9_Nj u9_M0 u9_tc) [(2, .int u9_x2)])) : o_At p l e (rm_MM_ways (d + 1)) s m args below meth c Q m_cls D A 5 48 [] (m_cw ad ca ky ty 48 u9_Ni Np u9_No u9_Nx u9_Nf u9_Na u9_Nh u9_Nq u9_Nj u9_M0 u9_tc) [(0, .ref (ad 0)), (1, .int u9_x1), (2, .int u9_x2), (4, .int x4)] := by
  unfold m_MM_ways_j48 at h
  intro H locs ls hP hS hl
  have C0 := C
  obtain ⟨hx, hb, -, -, -, hown, hts, hK, -, -⟩ := C0
  refine lv_iload hx hb d_MM_ways_48 (lv_at hl 3 rfl) ?_
  refine lv_istore_n (lv' := [(3, .int x4), (0, .ref (ad 0)), (1, .int u9_x1), (2, .int u9_x2), (4, .int x4)]) hx hb d_MM_ways_50 rfl hl (by decide) rfl (fun ls hl => ?_)
  refine lv_aload_n hx hb d_MM_ways_51 rfl (lv_at hl 1 rfl) ?_
  refine o_get (v := .ref (ad 4)) C in_MM hP 0 mw_0 rfl 8 (by decide) k_7_238 rfl rfl d_MM_ways_52 ?_
  refine lv_iload_n hx hb d_MM_ways_55 rfl (lv_at hl 3 rfl) ?_
  refine lv_dup2_11 hx hb d_MM_ways_56 rfl rfl ?_
  obtain ⟨g4, h⟩ := o_gd_some h
  refine o_iald (f := (NP_nodeB Np)) C hP 4 3 mw_4 rfl g4 d_MM_ways_57 ?_
  refine lv_iconst (v := (1:Int32)) hx hb d_MM_ways_58 (by decide) ?_
  refine lv_iadd hx hb d_MM_ways_59 ?_
  obtain ⟨g5, h⟩ := o_gd_some h
  refine o_iast (f := (NP_nodeB Np)) (w1 := (m_cw ad ca ky ty 48 u9_Ni (NP_mk (NP_nodeKind Np) (NP_nodeA Np) (upd (NP_nodeB Np) u9_x2.toNatClampNeg (((NP_nodeB Np) u9_x2.toNatClampNeg) + (1:Int32))) (NP_nodeC Np) (NP_nodeNext Np) (NP_low Np) (NP_high Np) (NP_setFrom Np) (NP_setTo Np) (NP_setNot Np) (NP_nodes Np) (NP_sets Np) (NP_ranges Np) (NP_pat Np) (NP_patEnd Np) (NP_broken Np)) u9_No u9_Nx u9_Nf u9_Na u9_Nh u9_Nq u9_Nj u9_M0 u9_tc)) C hP (hDD _ _ _ _ _ _ _ _ _ _ _ _) hS 4 3 mw_4 rfl g5 rfl d_MM_ways_60 (fun H locs hP hS => ?_)
  refine lv_aload_n hx hb d_MM_ways_61 rfl (lv_at hl 1 rfl) ?_
  refine lv_iconst (v := (0:Int32)) hx hb d_MM_ways_62 (by decide) ?_
  obtain ⟨q3, hq3, h⟩ := o_bd_some h
  refine o_V (st1 := [.int q3]) (w1 := (m_cw ad ca ky ty 48 u9_Ni (NP_mk (NP_nodeKind Np) (NP_nodeA Np) (upd (NP_nodeB Np) u9_x2.toNatClampNeg (((NP_nodeB Np) u9_x2.toNatClampNeg) + (1:Int32))) (NP_nodeC Np) (NP_nodeNext Np) (NP_low Np) (NP_high Np) (NP_setFrom Np) (NP_setTo Np) (NP_setNot Np) (NP_nodes Np) (NP_sets Np) (NP_ranges Np) (NP_pat Np) (NP_patEnd Np) (NP_broken Np)) u9_No u9_Nx u9_Nf u9_Na u9_Nh u9_Nq u9_Nj u9_M0 u9_tc)) hE.1 C (e_MM_p_b hE hKy l (0:Int32) u9_tc (NP_mk (NP_nodeKind Np) (NP_nodeA Np) (upd (NP_nodeB Np) u9_x2.toNatClampNeg (((NP_nodeB Np) u9_x2.toNatClampNeg) + (1:Int32))) (NP_nodeC Np) (NP_nodeNext Np) (NP_low Np) (NP_high Np) (NP_setFrom Np) (NP_setTo Np) (NP_setNot Np) (NP_nodes Np) (NP_sets Np) (NP_ranges Np) (NP_pat Np) (NP_patEnd Np) (NP_broken Np)) u9_Ni u9_No u9_Nx u9_Nf u9_Na u9_Nh u9_Nq u9_Nj u9_M0 hq3) hP (hDD _ _ _ _ _ _ _ _ _ _ _ _) hS hl.1 rfl mw_0 k_9_70 k_9_72 k_s_89 k_1_12 k_9_73 hv_MM_p rfl rfl ⟨(by dsimp only [rm_MM_ways, rm_MM_p]; omega), (by dsimp only [rm_MM_ways, rm_MM_p]; omega)⟩ rfl (Nat.le_of_ble_eq_true rfl) ⟨Nat.zero_le _, Nat.zero_le _⟩ rfl d_MM_ways_63 (fun H locs hP hS => ?_)
  refine lv_bipush (v := (124:Int32)) hx hb d_MM_ways_66 (by decide) ?_
  refine lv_icmp_eq (tgt := 73) hx hb d_MM_ways_68 (by decide) (fun c6 => ?_) (fun c6 => ?_)
  · replace h := o_tt c6 h
    refine lv_aload_n hx hb d_MM_ways_73 rfl (lv_at hl 1 rfl) ?_
    refine lv_dup hx hb d_MM_ways_74 rfl ?_
    refine o_get (v := .int (NP_pat Np)) C in_MM hP 0 mw_0 rfl 27 (by decide) k_8_17 rfl rfl d_MM_ways_75 ?_
    refine lv_iconst (v := (1:Int32)) hx hb d_MM_ways_78 (by decide) ?_
    refine lv_iadd hx hb d_MM_ways_79 ?_
    refine o_put (v := .int ((NP_pat Np) + (1:Int32))) (ty := .int) (w1 := (m_cw ad ca ky ty 48 u9_Ni (NP_mk (NP_nodeKind Np) (NP_nodeA Np) (upd (NP_nodeB Np) u9_x2.toNatClampNeg (((NP_nodeB Np) u9_x2.toNatClampNeg) + (1:Int32))) (NP_nodeC Np) (NP_nodeNext Np) (NP_low Np) (NP_high Np) (NP_setFrom Np) (NP_setTo Np) (NP_setNot Np) (NP_nodes Np) (NP_sets Np) (NP_ranges Np) ((NP_pat Np) + (1:Int32)) (NP_patEnd Np) (NP_broken Np)) u9_No u9_Nx u9_Nf u9_Na u9_Nh u9_Nq u9_Nj u9_M0 u9_tc)) C in_MM t_MM t_MM_ok n_MM hP (hDD _ _ _ _ _ _ _ _ _ _ _ _) hS 0 mw_0 rfl 27 (by decide) k_8_17 rfl rfl (by decide +kernel) rfl rfl (Nat.le_of_ble_eq_true rfl) rfl d_MM_ways_80 (fun H locs hP hS => ?_)
    refine lv_goto (tgt := 9) hx hb d_MM_ways_83 (by decide) ?_
    cases h
    exact h0 rfl _ _ _ hP hS (lv_sub hl [1, 2, 3, 0] rfl)
  · replace h := o_ff c6 h
    cases h
    exact h1 (Nat.succ_ne_zero 1) _ _ _ hP hS (lv_sub hl [3] rfl)
set_option maxHeartbeats 4000000 in
set_option maxRecDepth 100000 in
theorem f_MM_ways_b9_b {E : (Nat → Prop) → State → Heap → Prop} {p : Program} {l : Launch} {e : Env} {s : State} {m : MethodId} {args : Array Value} {below : List Frame} {meth : Method} {c : Code} {D : va_G} {ad kd sd vd xd : Nat → Nat} {ca : Nat → ClassId} {A : Nat → Prop} {ky ty : Nat → Option Nat} {Q : State → Prop} (hE : o_EK E kd sd vd xd) (hKy : m_KY ky ty sd) (C : o_Cx E p s m args meth c D m_cls (m_tys ca) "SchemaJudgeModel" b_MM_ways (some .int) 5 cc_MM_ways A) (hDD : ∀ (rt : Nat) (Ni : SNI) (Np : SNP) (No : SNO) (Nx : SNX) (Nf : SNF) (Na : SNA) (Nh : SNH) (Nq : SNQ) (Nj : SNJ) (M0 : SMT) (M1 : SMT), va_D A (m_cw ad ca ky ty rt Ni Np No Nx Nf Na Nh Nq Nj M0 M1)) (d : Nat) (rec : Int32 → SMT → SNP → Option (Int32 × SNP)) (hrec : ∀ (x1 : Int32) (tc : SMT) (Np : SNP) (Ni : SNI) (No : SNO) (Nx : SNX) (Nf : SNF) (Na : SNA) (Nh : SNH) (Nq : SNQ) (Nj : SNJ) (M0 : SMT) (r : Int32 × SNP), rec x1 tc Np = some r → o_Cn E l D m_cls (m_tys ca) y_MM_ways cc_MM_ways (rm_MM_ways d) [.ref (ad 0), .int x1] (m_cw ad ca ky ty 48 Ni Np No Nx Nf Na Nh Nq Nj M0 tc) (m_cw ad ca ky ty 48 Ni r.2 No Nx Nf Na Nh Nq Nj M0 tc) (some (.int r.1))) (n : Nat) (u9_x1 : Int32) (u9_x2 : Int32) (u9_tc : SMT) (u9_Ni : SNI) (u9_No : SNO) (u9_Nx : SNX) (u9_Nf : SNF) (u9_Na : SNA) (u9_Nh : SNH) (u9_Nq : SNQ) (u9_Nj : SNJ) (u9_M0 : SMT) (z : Int32 × SNP) (q : Nat × Int32 × SNP) (h : m_MM_ways_b9 n rec u9_x1 u9_x2 u9_tc z = some q) (h0 : q.1 = 0 → o_At p l e (rm_MM_ways (d + 1)) s m args below meth c Q m_cls D A 5 9 [] (m_cw ad ca ky ty 48 u9_Ni q.2.2 u9_No u9_Nx u9_Nf u9_Na u9_Nh u9_Nq u9_Nj u9_M0 u9_tc) [(0, .ref (ad 0)), (1, .int u9_x1), (2, .int u9_x2), (3, .int q.2.1)]) (h1 : q.1 ≠ 0 → (if q.1 = 1 then o_At p l e (rm_MM_ways (d + 1)) s m args below meth c Q m_cls D A 5 23 [] (m_cw ad ca ky ty 48 u9_Ni q.2.2 u9_No u9_Nx u9_Nf u9_Na u9_Nh u9_Nq u9_Nj u9_M0 u9_tc) [(2, .int u9_x2)] else o_At p l e (rm_MM_ways (d + 1)) s m args below meth c Q m_cls D A 5 71 [] (m_cw ad ca ky ty 48 u9_Ni q.2.2 u9_No u9_Nx u9_Nf u9_Na u9_Nh u9_Nq u9_Nj u9_M0 u9_tc) [(2, .int u9_x2)])) : o_At p l e (rm_MM_ways (d + 1)) s m args below meth c Q m_cls D A 5 9 [] (m_cw ad ca ky ty 48 u9_Ni z.2 u9_No u9_Nx u9_Nf u9_Na u9_Nh u9_Nq u9_Nj u9_M0 u9_tc) [(0, .ref (ad 0)), (1, .int u9_x1), (2, .int u9_x2), (3, .int z.1)] := by
  unfold m_MM_ways_b9 at h
  intro H locs ls hP hS hl
  have C0 := C
  obtain ⟨hx, hb, -, -, -, hown, hts, hK, -, -⟩ := C0
  refine lv_aload_n hx hb d_MM_ways_9 rfl (lv_at hl 0 rfl) ?_
  refine lv_iload_n hx hb d_MM_ways_10 rfl (lv_at hl 1 rfl) ?_
  obtain ⟨q2, hq2, h⟩ := o_bd_some h
  refine o_V (st1 := [.int q2.1]) (w1 := (m_cw ad ca ky ty 48 u9_Ni q2.2 u9_No u9_Nx u9_Nf u9_Na u9_Nh u9_Nq u9_Nj u9_M0 u9_tc)) hE.1 C (e_MM_row_b hE hKy l n d rec hrec u9_x1 u9_tc z.2 u9_Ni u9_No u9_Nx u9_Nf u9_Na u9_Nh u9_Nq u9_Nj u9_M0 hq2) hP (hDD _ _ _ _ _ _ _ _ _ _ _ _) hS hl.1 rfl mw_0 k_9_66 k_9_68 k_s_88 k_1_12 k_9_69 hv_MM_row rfl rfl ⟨(by dsimp only [rm_MM_ways, rm_MM_row]; omega), (by dsimp only [rm_MM_ways, rm_MM_row]; omega)⟩ rfl (Nat.le_of_ble_eq_true rfl) ⟨Nat.zero_le _, Nat.zero_le _⟩ rfl d_MM_ways_11 (fun H locs hP hS => ?_)
  refine lv_istore (lv' := [(4, .int q2.1), (0, .ref (ad 0)), (1, .int u9_x1), (2, .int u9_x2), (3, .int z.1)]) hx hb d_MM_ways_14 hl (by decide) rfl (fun ls hl => ?_)
  refine lv_aload_n hx hb d_MM_ways_16 rfl (lv_at hl 1 rfl) ?_
  refine o_get (v := .int (NP_broken q2.2)) C in_MM hP 0 mw_0 rfl 32 (by decide) k_8_22 rfl rfl d_MM_ways_17 ?_
  refine lv_if_eq (tgt := 25) hx hb d_MM_ways_20 (by decide) (fun c1 => ?_) (fun c1 => ?_)
  · replace h := o_tt c1 h
    refine lv_iload_n hx hb d_MM_ways_25 rfl (lv_at hl 4 rfl) ?_
    refine lv_if_ge (tgt := 40) hx hb d_MM_ways_26 (by decide) (fun c2 => ?_) (fun c2 => ?_)
    · replace h := o_tt c2 h
      refine lv_aload_n hx hb d_MM_ways_40 rfl (lv_at hl 1 rfl) ?_
      refine o_get (v := .ref (ad 6)) C in_MM hP 0 mw_0 rfl 10 (by decide) k_8_0 rfl rfl d_MM_ways_41 ?_
      refine lv_iload_n hx hb d_MM_ways_44 rfl (lv_at hl 4 rfl) ?_
      refine lv_iload hx hb d_MM_ways_45 (lv_at hl 0 rfl) ?_
      obtain ⟨g3, h⟩ := o_gd_some h
      refine o_iast (f := (NP_nodeNext q2.2)) (w1 := (m_cw ad ca ky ty 48 u9_Ni (NP_mk (NP_nodeKind q2.2) (NP_nodeA q2.2) (NP_nodeB q2.2) (NP_nodeC q2.2) (upd (NP_nodeNext q2.2) z.1.toNatClampNeg q2.1) (NP_low q2.2) (NP_high q2.2) (NP_setFrom q2.2) (NP_setTo q2.2) (NP_setNot q2.2) (NP_nodes q2.2) (NP_sets q2.2) (NP_ranges q2.2) (NP_pat q2.2) (NP_patEnd q2.2) (NP_broken q2.2)) u9_No u9_Nx u9_Nf u9_Na u9_Nh u9_Nq u9_Nj u9_M0 u9_tc)) C hP (hDD _ _ _ _ _ _ _ _ _ _ _ _) hS 6 5 mw_6 rfl g3 rfl d_MM_ways_47 (fun H locs hP hS => ?_)
      exact f_MM_ways_j48_b hE hKy C hDD d rec hrec n u9_x1 u9_x2 u9_tc u9_Ni u9_No u9_Nx u9_Nf u9_Na u9_Nh u9_Nq u9_Nj u9_M0 q2.1 (NP_mk (NP_nodeKind q2.2) (NP_nodeA q2.2) (NP_nodeB q2.2) (NP_nodeC q2.2) (upd (NP_nodeNext q2.2) z.1.toNatClampNeg q2.1) (NP_low q2.2) (NP_high q2.2) (NP_setFrom q2.2) (NP_setTo q2.2) (NP_setNot q2.2) (NP_nodes q2.2) (NP_sets q2.2) (NP_ranges q2.2) (NP_pat q2.2) (NP_patEnd q2.2) (NP_broken q2.2)) h h0 h1 _ _ _ hP hS (lv_sub hl [1, 2, 3, 0] rfl)
    · replace h := o_ff c2 h
      refine lv_aload_n hx hb d_MM_ways_29 rfl (lv_at hl 1 rfl) ?_
      refine o_get (v := .ref (ad 3)) C in_MM hP 0 mw_0 rfl 7 (by decide) k_7_237 rfl rfl d_MM_ways_30 ?_
      refine lv_iload_n hx hb d_MM_ways_33 rfl (lv_at hl 3 rfl) ?_
      refine lv_iload hx hb d_MM_ways_34 (lv_at hl 0 rfl) ?_
      obtain ⟨g7, h⟩ := o_gd_some h
      refine o_iast (f := (NP_nodeA q2.2)) (w1 := (m_cw ad ca ky ty 48 u9_Ni (NP_mk (NP_nodeKind q2.2) (upd (NP_nodeA q2.2) u9_x2.toNatClampNeg q2.1) (NP_nodeB q2.2) (NP_nodeC q2.2) (NP_nodeNext q2.2) (NP_low q2.2) (NP_high q2.2) (NP_setFrom q2.2) (NP_setTo q2.2) (NP_setNot q2.2) (NP_nodes q2.2) (NP_sets q2.2) (NP_ranges q2.2) (NP_pat q2.2) (NP_patEnd q2.2) (NP_broken q2.2)) u9_No u9_Nx u9_Nf u9_Na u9_Nh u9_Nq u9_Nj u9_M0 u9_tc)) C hP (hDD _ _ _ _ _ _ _ _ _ _ _ _) hS 3 2 mw_3 rfl g7 rfl d_MM_ways_36 (fun H locs hP hS => ?_)
      refine lv_goto (tgt := 48) hx hb d_MM_ways_37 (by decide) ?_
      exact f_MM_ways_j48_b hE hKy C hDD d rec hrec n u9_x1 u9_x2 u9_tc u9_Ni u9_No u9_Nx u9_Nf u9_Na u9_Nh u9_Nq u9_Nj u9_M0 q2.1 (NP_mk (NP_nodeKind q2.2) (upd (NP_nodeA q2.2) u9_x2.toNatClampNeg q2.1) (NP_nodeB q2.2) (NP_nodeC q2.2) (NP_nodeNext q2.2) (NP_low q2.2) (NP_high q2.2) (NP_setFrom q2.2) (NP_setTo q2.2) (NP_setNot q2.2) (NP_nodes q2.2) (NP_sets q2.2) (NP_ranges q2.2) (NP_pat q2.2) (NP_patEnd q2.2) (NP_broken q2.2)) h h0 h1 _ _ _ hP hS (lv_sub hl [1, 2, 3, 0] rfl)
  · replace h := o_ff c1 h
    cases h
    exact h1 (Nat.succ_ne_zero 0) _ _ _ hP hS (lv_sub hl [3] rfl)
set_option maxHeartbeats 4000000 in
set_option maxRecDepth 100000 in
theorem e_MM_ways_b_F {E : (Nat → Prop) → State → Heap → Prop} {D : va_G} {ad kd sd vd xd : Nat → Nat} {ca : Nat → ClassId} {ky ty : Nat → Option Nat} (hE : o_EK E kd sd vd xd) (hKy : m_KY ky ty sd) (l : Launch) (n : Nat) (d : Nat) (rec : Int32 → SMT → SNP → Option (Int32 × SNP)) (hrec : ∀ (x1 : Int32) (tc : SMT) (Np : SNP) (Ni : SNI) (No : SNO) (Nx : SNX) (Nf : SNF) (Na : SNA) (Nh : SNH) (Nq : SNQ) (Nj : SNJ) (M0 : SMT) (r : Int32 × SNP), rec x1 tc Np = some r → o_Cn E l D m_cls (m_tys ca) y_MM_ways cc_MM_ways (rm_MM_ways d) [.ref (ad 0), .int x1] (m_cw ad ca ky ty 48 Ni Np No Nx Nf Na Nh Nq Nj M0 tc) (m_cw ad ca ky ty 48 Ni r.2 No Nx Nf Na Nh Nq Nj M0 tc) (some (.int r.1))) (x1 : Int32) (tc : SMT) (Np : SNP) (Ni : SNI) (No : SNO) (Nx : SNX) (Nf : SNF) (Na : SNA) (Nh : SNH) (Nq : SNQ) (Nj : SNJ) (M0 : SMT) {r : Int32 × SNP} (h : m_MM_ways_F n rec x1 tc Np = some r) : o_Cn E l D m_cls (m_tys ca) y_MM_ways cc_MM_ways (rm_MM_ways (d + 1)) [.ref (ad 0), .int x1] (m_cw ad ca ky ty 48 Ni Np No Nx Nf Na Nh Nq Nj M0 tc) (m_cw ad ca ky ty 48 Ni r.2 No Nx Nf Na Nh Nq Nj M0 tc) (some (.int r.1)) := by
  refine o_Cn_of (by decide) (Nat.le_of_ble_eq_true rfl) ?_
  intro p e s m below meth c A ls C hD hP hS hl
  have hDD : ∀ (rt : Nat) (Ni : SNI) (Np : SNP) (No : SNO) (Nx : SNX) (Nf : SNF) (Na : SNA) (Nh : SNH) (Nq : SNQ) (Nj : SNJ) (M0 : SMT) (M1 : SMT), va_D A (m_cw ad ca ky ty rt Ni Np No Nx Nf Na Nh Nq Nj M0 M1) := fun _ _ _ _ _ _ _ _ _ _ _ _ => o_D_map hD rfl
  have hl : lv_has ls 5 [(0, .ref (ad 0)), (1, .int x1)] := hl
  unfold m_MM_ways_F at h
  have C0 := C
  obtain ⟨hx, hb, -, -, -, hown, hts, hK, -, -⟩ := C0
  refine lv_aload_n hx hb d_MM_ways_0 rfl (lv_at hl 0 rfl) ?_
  refine lv_iconst (v := (5:Int32)) hx hb d_MM_ways_1 (by decide) ?_
  refine lv_iconst (v := (-1:Int32)) hx hb d_MM_ways_2 (by decide) ?_
  obtain ⟨q1, hq1, h⟩ := o_bd_some h
  refine o_V (st1 := [.int q1.1]) (w1 := (m_cw ad ca ky ty 48 Ni q1.2 No Nx Nf Na Nh Nq Nj M0 tc)) hE.1 C (e_MM_node hE hKy l (5:Int32) (-1:Int32) Np Ni No Nx Nf Na Nh Nq Nj M0 tc 48 hq1) hP (hDD _ _ _ _ _ _ _ _ _ _ _ _) hS hl.1 rfl mw_0 k_9_62 k_9_64 k_s_87 k_1_12 k_9_65 hv_MM_node rfl rfl ⟨(by dsimp only [rm_MM_ways, rm_MM_node]; omega), (by dsimp only [rm_MM_ways, rm_MM_node]; omega)⟩ rfl (Nat.le_of_ble_eq_true rfl) ⟨Nat.zero_le _, Nat.zero_le _⟩ rfl d_MM_ways_3 (fun H locs hP hS => ?_)
  refine lv_istore_n (lv' := [(2, .int q1.1), (0, .ref (ad 0)), (1, .int x1)]) hx hb d_MM_ways_6 rfl hl (by decide) rfl (fun ls hl => ?_)
  refine lv_iconst (v := (-1:Int32)) hx hb d_MM_ways_7 (by decide) ?_
  refine lv_istore_n (lv' := [(3, .int (-1:Int32)), (2, .int q1.1), (0, .ref (ad 0)), (1, .int x1)]) hx hb d_MM_ways_8 rfl hl (by decide) rfl (fun ls hl => ?_)
  obtain ⟨q4, hq4, h⟩ := o_bd_some h
  refine o_sim2 (AH := fun zz => o_At p l e (rm_MM_ways (d + 1)) s m _ below meth c _ m_cls D A 5 9 [] (m_cw ad ca ky ty 48 Ni zz.2 No Nx Nf Na Nh Nq Nj M0 tc) [(0, .ref (ad 0)), (1, .int x1), (2, .int q1.1), (3, .int zz.1)]) (AX := fun qq => if qq.1 = 1 then o_At p l e (rm_MM_ways (d + 1)) s m _ below meth c _ m_cls D A 5 23 [] (m_cw ad ca ky ty 48 Ni qq.2.2 No Nx Nf Na Nh Nq Nj M0 tc) [(2, .int q1.1)] else o_At p l e (rm_MM_ways (d + 1)) s m _ below meth c _ m_cls D A 5 71 [] (m_cw ad ca ky ty 48 Ni qq.2.2 No Nx Nf Na Nh Nq Nj M0 tc) [(2, .int q1.1)]) (fun zz qq h h0 h1 => f_MM_ways_b9_b hE hKy C hDD d rec hrec n x1 q1.1 tc Ni No Nx Nf Na Nh Nq Nj M0 zz qq h h0 h1) n _ q4 hq4 ?_ _ _ _ hP hS (lv_sub hl [2, 3, 1, 0] rfl)
  by_cases c8 : q4.1 = 1
  · replace h := o_tt c8 h
    refine o_ip c8 ?_
    intro H locs ls hP hS hl
    refine lv_iload_n hx hb d_MM_ways_23 rfl (lv_at hl 0 rfl) ?_
    cases h
    exact o_ri C hP hS d_MM_ways_24
  replace h := o_ff c8 h
  refine o_in_ c8 ?_
  intro H locs ls hP hS hl
  refine lv_iload_n hx hb d_MM_ways_71 rfl (lv_at hl 0 rfl) ?_
  cases h
  exact o_ri C hP hS d_MM_ways_72
set_option maxHeartbeats 4000000 in
set_option maxRecDepth 100000 in
theorem e_MM_ways_b {E : (Nat → Prop) → State → Heap → Prop} {D : va_G} {ad kd sd vd xd : Nat → Nat} {ca : Nat → ClassId} {ky ty : Nat → Option Nat} (hE : o_EK E kd sd vd xd) (hKy : m_KY ky ty sd) (l : Launch) (n : Nat) (d : Nat) (x1 : Int32) (tc : SMT) (Np : SNP) (Ni : SNI) (No : SNO) (Nx : SNX) (Nf : SNF) (Na : SNA) (Nh : SNH) (Nq : SNQ) (Nj : SNJ) (M0 : SMT) {r : Int32 × SNP} (h : m_MM_ways n d x1 tc Np = some r) : o_Cn E l D m_cls (m_tys ca) y_MM_ways cc_MM_ways (rm_MM_ways d) [.ref (ad 0), .int x1] (m_cw ad ca ky ty 48 Ni Np No Nx Nf Na Nh Nq Nj M0 tc) (m_cw ad ca ky ty 48 Ni r.2 No Nx Nf Na Nh Nq Nj M0 tc) (some (.int r.1)) := by
  induction d generalizing x1 tc Np Ni No Nx Nf Na Nh Nq Nj M0 r with
  | zero => cases h
  | succ d ih =>
    exact e_MM_ways_b_F hE hKy l n d (m_MM_ways n d) (fun x1 tc Np Ni No Nx Nf Na Nh Nq Nj M0 r h => ih x1 tc Np Ni No Nx Nf Na Nh Nq Nj M0 h) _ _ _ _ _ _ _ _ _ _ _ _ h
set_option maxHeartbeats 4000000 in
set_option maxRecDepth 100000 in
theorem f_MM_size_b60 {E : (Nat → Prop) → State → Heap → Prop} {p : Program} {l : Launch} {e : Env} {s : State} {m : MethodId} {args : Array Value} {below : List Frame} {meth : Method} {c : Code} {D : va_G} {ad kd sd vd xd : Nat → Nat} {ca : Nat → ClassId} {A : Nat → Prop} {ky ty : Nat → Option Nat} {Q : State → Prop} (hE : o_EK E kd sd vd xd) (hKy : m_KY ky ty sd) (C : o_Cx E p s m args meth c D m_cls (m_tys ca) "SchemaJudgeModel" b_MM_size (some .long) 5 cc_MM_size A) (hDD : ∀ (rt : Nat) (Ni : SNI) (Np : SNP) (No : SNO) (Nx : SNX) (Nf : SNF) (Na : SNA) (Nh : SNH) (Nq : SNQ) (Nj : SNJ) (M0 : SMT) (M1 : SMT), va_D A (m_cw ad ca ky ty rt Ni Np No Nx Nf Na Nh Nq Nj M0 M1)) (d : Nat) (rec : Int32 → SNP → Option (Int64)) (hrec : ∀ (x1 : Int32) (Np : SNP) (Ni : SNI) (No : SNO) (Nx : SNX) (Nf : SNF) (Na : SNA) (Nh : SNH) (Nq : SNQ) (Nj : SNJ) (M0 : SMT) (M1 : SMT) (rt : Nat) (r : Int64), rec x1 Np = some r → o_Cn E l D m_cls (m_tys ca) y_MM_size cc_MM_size (rm_MM_size d) [.ref (ad 0), .int x1] (m_cw ad ca ky ty rt Ni Np No Nx Nf Na Nh Nq Nj M0 M1) (m_cw ad ca ky ty rt Ni Np No Nx Nf Na Nh Nq Nj M0 M1) (some (.long r))) (n : Nat) (u60_x1 : Int32) (u60_Np : SNP) (u60_Ni : SNI) (u60_No : SNO) (u60_Nx : SNX) (u60_Nf : SNF) (u60_Na : SNA) (u60_Nh : SNH) (u60_Nq : SNQ) (u60_Nj : SNJ) (u60_M0 : SMT) (u60_M1 : SMT) (u60_rt : Nat) (z : Int64 × Int32) (q : Nat × Int64 × Int32) (h : m_MM_size_b60 n rec u60_x1 u60_Np z = some q) (h0 : q.1 = 0 → o_At p l e (rm_MM_size (d + 1)) s m args below meth c Q m_cls D A 5 60 [] (m_cw ad ca ky ty u60_rt u60_Ni u60_Np u60_No u60_Nx u60_Nf u60_Na u60_Nh u60_Nq u60_Nj u60_M0 u60_M1) [(0, .ref (ad 0)), (1, .int u60_x1), (2, .long q.2.1), (4, .int q.2.2)]) (h1 : q.1 ≠ 0 → (o_At p l e (rm_MM_size (d + 1)) s m args below meth c Q m_cls D A 5 92 [] (m_cw ad ca ky ty u60_rt u60_Ni u60_Np u60_No u60_Nx u60_Nf u60_Na u60_Nh u60_Nq u60_Nj u60_M0 u60_M1) [(0, .ref (ad 0)), (1, .int u60_x1), (2, .long q.2.1)])) : o_At p l e (rm_MM_size (d + 1)) s m args below meth c Q m_cls D A 5 60 [] (m_cw ad ca ky ty u60_rt u60_Ni u60_Np u60_No u60_Nx u60_Nf u60_Na u60_Nh u60_Nq u60_Nj u60_M0 u60_M1) [(0, .ref (ad 0)), (1, .int u60_x1), (2, .long z.1), (4, .int z.2)] := by
  unfold m_MM_size_b60 at h
  intro H locs ls hP hS hl
  have C0 := C
  obtain ⟨hx, hb, -, -, -, hown, hts, hK, -, -⟩ := C0
  refine lv_iload hx hb d_MM_size_60 (lv_at hl 3 rfl) ?_
  refine lv_if_lt (tgt := 92) hx hb d_MM_size_62 (by decide) (fun c8 => ?_) (fun c8 => ?_)
  · replace h := o_tt c8 h
    cases h
    exact h1 (Nat.succ_ne_zero 0) _ _ _ hP hS (lv_sub hl [0, 1, 2] rfl)
  · replace h := o_ff c8 h
    refine lv_lload_n hx hb d_MM_size_65 rfl (lv_at hl 2 rfl) ?_
    refine lv_aload_n hx hb d_MM_size_66 rfl (lv_at hl 0 rfl) ?_
    refine lv_iload hx hb d_MM_size_67 (lv_at hl 3 rfl) ?_
    obtain ⟨q1, hq1, h⟩ := o_bd_some h
    refine o_V (st1 := [.long q1, .long z.1]) (w1 := (m_cw ad ca ky ty u60_rt u60_Ni u60_Np u60_No u60_Nx u60_Nf u60_Na u60_Nh u60_Nq u60_Nj u60_M0 u60_M1)) hE.1 C (hrec z.2 u60_Np u60_Ni u60_No u60_Nx u60_Nf u60_Na u60_Nh u60_Nq u60_Nj u60_M0 u60_M1 u60_rt _ hq1) hP (hDD _ _ _ _ _ _ _ _ _ _ _ _) hS hl.1 rfl mw_0 k_9_129 k_9_131 k_s_103 k_1_12 k_9_132 hv_MM_size rfl rfl ⟨(by dsimp only [rm_MM_size, rm_MM_size]; omega), (by dsimp only [rm_MM_size, rm_MM_size]; omega)⟩ rfl (Nat.le_of_ble_eq_true rfl) ⟨Nat.zero_le _, Nat.zero_le _⟩ rfl d_MM_size_69 (fun H locs hP hS => ?_)
    refine lv_ladd hx hb d_MM_size_72 ?_
    refine lv_ldc2 (v := (1000000:Int64)) hx hb hown (hts _ k_9_133) d_MM_size_73 ?_
    refine va_mmin_long hx hb (C.2.2.2.2.1.trans hl.1.symm) hown (hts _ k_9_134) (hts _ k_9_135) (hts _ k_1_26) (hts _ k_9_136) (by dsimp only [rm_MM_size]; omega) (Nat.le_trans (Nat.le_of_ble_eq_true rfl : _ ≤ 40) (by dsimp only [rm_MM_size]; omega)) (Nat.zero_le _) (Nat.zero_le _) d_MM_size_76 ?_
    refine lv_topl (fun x2_79 ex2_79 => ?_)
    replace h := o_nm_at ex2_79 h
    refine lv_lstore_n (lv' := [(2, .long x2_79), (0, .ref (ad 0)), (1, .int u60_x1), (4, .int z.2)]) hx hb d_MM_size_79 rfl hl (by decide) rfl (fun ls hl => ?_)
    refine lv_aload_n hx hb d_MM_size_80 rfl (lv_at hl 1 rfl) ?_
    refine o_get (v := .ref (ad 6)) C in_MM hP 0 mw_0 rfl 10 (by decide) k_8_0 rfl rfl d_MM_size_81 ?_
    refine lv_iload hx hb d_MM_size_84 (lv_at hl 3 rfl) ?_
    obtain ⟨g9, h⟩ := o_gd_some h
    refine o_iald (f := (NP_nodeNext u60_Np)) C hP 6 5 mw_6 rfl g9 d_MM_size_86 ?_
    refine lv_topi (fun x4_87 ex4_87 => ?_)
    replace h := o_nm_at ex4_87 h
    refine lv_istore (lv' := [(4, .int x4_87), (2, .long x2_79), (0, .ref (ad 0)), (1, .int u60_x1)]) hx hb d_MM_size_87 hl (by decide) rfl (fun ls hl => ?_)
    refine lv_goto (tgt := 60) hx hb d_MM_size_89 (by decide) ?_
    cases h
    exact h0 rfl _ _ _ hP hS (lv_sub hl [2, 3, 1, 0] rfl)
set_option maxHeartbeats 4000000 in
set_option maxRecDepth 100000 in
theorem f_MM_size_j171 {E : (Nat → Prop) → State → Heap → Prop} {p : Program} {l : Launch} {e : Env} {s : State} {m : MethodId} {args : Array Value} {below : List Frame} {meth : Method} {c : Code} {D : va_G} {ad kd sd vd xd : Nat → Nat} {ca : Nat → ClassId} {A : Nat → Prop} {ky ty : Nat → Option Nat} (hE : o_EK E kd sd vd xd) (hKy : m_KY ky ty sd) (C : o_Cx E p s m args meth c D m_cls (m_tys ca) "SchemaJudgeModel" b_MM_size (some .long) 5 cc_MM_size A) (hDD : ∀ (rt : Nat) (Ni : SNI) (Np : SNP) (No : SNO) (Nx : SNX) (Nf : SNF) (Na : SNA) (Nh : SNH) (Nq : SNQ) (Nj : SNJ) (M0 : SMT) (M1 : SMT), va_D A (m_cw ad ca ky ty rt Ni Np No Nx Nf Na Nh Nq Nj M0 M1)) (d : Nat) (rec : Int32 → SNP → Option (Int64)) (hrec : ∀ (x1 : Int32) (Np : SNP) (Ni : SNI) (No : SNO) (Nx : SNX) (Nf : SNF) (Na : SNA) (Nh : SNH) (Nq : SNQ) (Nj : SNJ) (M0 : SMT) (M1 : SMT) (rt : Nat) (r : Int64), rec x1 Np = some r → o_Cn E l D m_cls (m_tys ca) y_MM_size cc_MM_size (rm_MM_size d) [.ref (ad 0), .int x1] (m_cw ad ca ky ty rt Ni Np No Nx Nf Na Nh Nq Nj M0 M1) (m_cw ad ca ky ty rt Ni Np No Nx Nf Na Nh Nq Nj M0 M1) (some (.long r))) (n : Nat) (y0 : Int64) (y1 : Int64) (Np : SNP) (Ni : SNI) (No : SNO) (Nx : SNX) (Nf : SNF) (Na : SNA) (Nh : SNH) (Nq : SNQ) (Nj : SNJ) (M0 : SMT) (M1 : SMT) (rt : Nat) {r : Int64} (h : m_MM_size_j171 n rec y0 y1 Np = some r) : o_At p l e (rm_MM_size (d + 1)) s m args below meth c (MQ below (o_Qx D m_cls (some (.long r)) (m_cw ad ca ky ty rt Ni Np No Nx Nf Na Nh Nq Nj M0 M1) A) args s 0 0 A) m_cls D A 5 171 [.long y1, .long y0] (m_cw ad ca ky ty rt Ni Np No Nx Nf Na Nh Nq Nj M0 M1) [] := by
  unfold m_MM_size_j171 at h
  intro H locs ls hP hS hl
  have C0 := C
  obtain ⟨hx, hb, -, -, -, hown, hts, hK, -, -⟩ := C0
  refine lv_ladd hx hb d_MM_size_171 ?_
  refine lv_lconst (v := (1:Int64)) hx hb d_MM_size_172 (by decide) ?_
  refine lv_ladd hx hb d_MM_size_173 ?_
  refine lv_ldc2 (v := (1000000:Int64)) hx hb hown (hts _ k_9_133) d_MM_size_174 ?_
  refine va_mmin_long hx hb (C.2.2.2.2.1.trans hl.1.symm) hown (hts _ k_9_134) (hts _ k_9_135) (hts _ k_1_26) (hts _ k_9_136) (by dsimp only [rm_MM_size]; omega) (Nat.le_trans (Nat.le_of_ble_eq_true rfl : _ ≤ 40) (by dsimp only [rm_MM_size]; omega)) (Nat.zero_le _) (Nat.zero_le _) d_MM_size_177 ?_
  cases h
  exact o_rl C hP hS d_MM_size_180
set_option maxHeartbeats 4000000 in
set_option maxRecDepth 100000 in
theorem e_MM_size_F {E : (Nat → Prop) → State → Heap → Prop} {D : va_G} {ad kd sd vd xd : Nat → Nat} {ca : Nat → ClassId} {ky ty : Nat → Option Nat} (hE : o_EK E kd sd vd xd) (hKy : m_KY ky ty sd) (l : Launch) (n : Nat) (d : Nat) (rec : Int32 → SNP → Option (Int64)) (hrec : ∀ (x1 : Int32) (Np : SNP) (Ni : SNI) (No : SNO) (Nx : SNX) (Nf : SNF) (Na : SNA) (Nh : SNH) (Nq : SNQ) (Nj : SNJ) (M0 : SMT) (M1 : SMT) (rt : Nat) (r : Int64), rec x1 Np = some r → o_Cn E l D m_cls (m_tys ca) y_MM_size cc_MM_size (rm_MM_size d) [.ref (ad 0), .int x1] (m_cw ad ca ky ty rt Ni Np No Nx Nf Na Nh Nq Nj M0 M1) (m_cw ad ca ky ty rt Ni Np No Nx Nf Na Nh Nq Nj M0 M1) (some (.long r))) (x1 : Int32) (Np : SNP) (Ni : SNI) (No : SNO) (Nx : SNX) (Nf : SNF) (Na : SNA) (Nh : SNH) (Nq : SNQ) (Nj : SNJ) (M0 : SMT) (M1 : SMT) (rt : Nat) {r : Int64} (h : m_MM_size_F n rec x1 Np = some r) : o_Cn E l D m_cls (m_tys ca) y_MM_size cc_MM_size (rm_MM_size (d + 1)) [.ref (ad 0), .int x1] (m_cw ad ca ky ty rt Ni Np No Nx Nf Na Nh Nq Nj M0 M1) (m_cw ad ca ky ty rt Ni Np No Nx Nf Na Nh Nq Nj M0 M1) (some (.long r)) := by
  refine o_Cn_of (by decide) (Nat.le_of_ble_eq_true rfl) ?_
  intro p e s m below meth c A ls C hD hP hS hl
  have hDD : ∀ (rt : Nat) (Ni : SNI) (Np : SNP) (No : SNO) (Nx : SNX) (Nf : SNF) (Na : SNA) (Nh : SNH) (Nq : SNQ) (Nj : SNJ) (M0 : SMT) (M1 : SMT), va_D A (m_cw ad ca ky ty rt Ni Np No Nx Nf Na Nh Nq Nj M0 M1) := fun _ _ _ _ _ _ _ _ _ _ _ _ => o_D_map hD rfl
  have hl : lv_has ls 5 [(0, .ref (ad 0)), (1, .int x1)] := hl
  unfold m_MM_size_F at h
  have C0 := C
  obtain ⟨hx, hb, -, -, -, hown, hts, hK, -, -⟩ := C0
  refine lv_lconst (v := (0:Int64)) hx hb d_MM_size_0 (by decide) ?_
  refine lv_lstore_n (lv' := [(2, .long (0:Int64)), (0, .ref (ad 0)), (1, .int x1)]) hx hb d_MM_size_1 rfl hl (by decide) rfl (fun ls hl => ?_)
  refine lv_aload_n hx hb d_MM_size_2 rfl (lv_at hl 1 rfl) ?_
  refine o_get (v := .ref (ad 2)) C in_MM hP 0 mw_0 rfl 6 (by decide) k_7_236 rfl rfl d_MM_size_3 ?_
  refine lv_iload_n hx hb d_MM_size_6 rfl (lv_at hl 2 rfl) ?_
  obtain ⟨g1, h⟩ := o_gd_some h
  refine o_iald (f := (NP_nodeKind Np)) C hP 2 1 mw_2 rfl g1 d_MM_size_7 ?_
  refine lv_topi (fun w8 ew8 => ?_)
  replace h := o_nm_at ew8 h
  by_cases c2 : w8 = (0:Int32)
  · replace h := o_tt c2 h
    refine lv_tableIn (off := 173) (tgt := 181) hx hb d_MM_size_8 (by rw [c2]; decide) (by rw [c2]; decide) (by rw [c2]; rfl) (by decide) ?_
    refine lv_lconst (v := (0:Int64)) hx hb d_MM_size_181 (by decide) ?_
    cases h
    exact o_rl C hP hS d_MM_size_182
  replace h := o_ff c2 h
  by_cases c3 : w8 = (1:Int32)
  · replace h := o_tt c3 h
    refine lv_tableIn (off := 175) (tgt := 183) hx hb d_MM_size_8 (by rw [c3]; decide) (by rw [c3]; decide) (by rw [c3]; rfl) (by decide) ?_
    refine lv_lconst (v := (1:Int64)) hx hb d_MM_size_183 (by decide) ?_
    cases h
    exact o_rl C hP hS d_MM_size_184
  replace h := o_ff c3 h
  by_cases c4 : w8 = (2:Int32)
  · replace h := o_tt c4 h
    refine lv_tableIn (off := 175) (tgt := 183) hx hb d_MM_size_8 (by rw [c4]; decide) (by rw [c4]; decide) (by rw [c4]; rfl) (by decide) ?_
    refine lv_lconst (v := (1:Int64)) hx hb d_MM_size_183 (by decide) ?_
    cases h
    exact o_rl C hP hS d_MM_size_184
  replace h := o_ff c4 h
  by_cases c5 : w8 = (3:Int32)
  · replace h := o_tt c5 h
    refine lv_tableIn (off := 175) (tgt := 183) hx hb d_MM_size_8 (by rw [c5]; decide) (by rw [c5]; decide) (by rw [c5]; rfl) (by decide) ?_
    refine lv_lconst (v := (1:Int64)) hx hb d_MM_size_183 (by decide) ?_
    cases h
    exact o_rl C hP hS d_MM_size_184
  replace h := o_ff c5 h
  by_cases c6 : w8 = (4:Int32)
  · replace h := o_tt c6 h
    refine lv_tableIn (off := 44) (tgt := 52) hx hb d_MM_size_8 (by rw [c6]; decide) (by rw [c6]; decide) (by rw [c6]; rfl) (by decide) ?_
    refine lv_aload_n hx hb d_MM_size_52 rfl (lv_at hl 1 rfl) ?_
    refine o_get (v := .ref (ad 3)) C in_MM hP 0 mw_0 rfl 7 (by decide) k_7_237 rfl rfl d_MM_size_53 ?_
    refine lv_iload_n hx hb d_MM_size_56 rfl (lv_at hl 2 rfl) ?_
    obtain ⟨g7, h⟩ := o_gd_some h
    refine o_iald (f := (NP_nodeA Np)) C hP 3 2 mw_3 rfl g7 d_MM_size_57 ?_
    refine lv_topi (fun x4_58 ex4_58 => ?_)
    replace h := o_nm_at ex4_58 h
    refine lv_istore (lv' := [(4, .int x4_58), (2, .long (0:Int64)), (0, .ref (ad 0)), (1, .int x1)]) hx hb d_MM_size_58 hl (by decide) rfl (fun ls hl => ?_)
    obtain ⟨q2, hq2, h⟩ := o_bd_some h
    refine o_sim2 (AH := fun zz => o_At p l e (rm_MM_size (d + 1)) s m _ below meth c _ m_cls D A 5 60 [] (m_cw ad ca ky ty rt Ni Np No Nx Nf Na Nh Nq Nj M0 M1) [(0, .ref (ad 0)), (1, .int x1), (2, .long zz.1), (4, .int zz.2)]) (AX := fun qq => o_At p l e (rm_MM_size (d + 1)) s m _ below meth c _ m_cls D A 5 92 [] (m_cw ad ca ky ty rt Ni Np No Nx Nf Na Nh Nq Nj M0 M1) [(0, .ref (ad 0)), (1, .int x1), (2, .long qq.2.1)]) (fun zz qq h h0 h1 => f_MM_size_b60 hE hKy C hDD d rec hrec n x1 Np Ni No Nx Nf Na Nh Nq Nj M0 M1 rt zz qq h h0 h1) n _ q2 hq2 ?_ _ _ _ hP hS (lv_sub hl [2, 3, 1, 0] rfl)
    intro H locs ls hP hS hl
    refine lv_aload_n hx hb d_MM_size_92 rfl (lv_at hl 0 rfl) ?_
    refine o_get (v := .ref (ad 2)) C in_MM hP 0 mw_0 rfl 6 (by decide) k_7_236 rfl rfl d_MM_size_93 ?_
    refine lv_iload_n hx hb d_MM_size_96 rfl (lv_at hl 1 rfl) ?_
    obtain ⟨g10, h⟩ := o_gd_some h
    refine o_iald (f := (NP_nodeKind Np)) C hP 2 1 mw_2 rfl g10 d_MM_size_97 ?_
    refine lv_iconst (v := (5:Int32)) hx hb d_MM_size_98 (by decide) ?_
    refine lv_icmp_ne (tgt := 116) hx hb d_MM_size_99 (by decide) (fun c11 => ?_) (fun c11 => ?_)
    · replace h := o_ff c11 h
      refine lv_lload_n hx hb d_MM_size_116 rfl (lv_at hl 2 rfl) ?_
      cases h
      exact o_rl C hP hS d_MM_size_117
    · replace h := o_tt c11 h
      refine lv_lload_n hx hb d_MM_size_102 rfl (lv_at hl 2 rfl) ?_
      refine lv_aload_n hx hb d_MM_size_103 rfl (lv_at hl 0 rfl) ?_
      refine o_get (v := .ref (ad 4)) C in_MM hP 0 mw_0 rfl 8 (by decide) k_7_238 rfl rfl d_MM_size_104 ?_
      refine lv_iload_n hx hb d_MM_size_107 rfl (lv_at hl 1 rfl) ?_
      obtain ⟨g12, h⟩ := o_gd_some h
      refine o_iald (f := (NP_nodeB Np)) C hP 4 3 mw_4 rfl g12 d_MM_size_108 ?_
      refine lv_i2l hx hb d_MM_size_109 rfl ?_
      refine lv_ladd hx hb d_MM_size_110 ?_
      refine lv_lconst (v := (1:Int64)) hx hb d_MM_size_111 (by decide) ?_
      refine lv_lsub hx hb d_MM_size_112 ?_
      refine lv_goto (tgt := 117) hx hb d_MM_size_113 (by decide) ?_
      cases h
      exact o_rl C hP hS d_MM_size_117
  replace h := o_ff c6 h
  by_cases c13 : w8 = (5:Int32)
  · replace h := o_tt c13 h
    refine lv_tableIn (off := 44) (tgt := 52) hx hb d_MM_size_8 (by rw [c13]; decide) (by rw [c13]; decide) (by rw [c13]; rfl) (by decide) ?_
    refine lv_aload_n hx hb d_MM_size_52 rfl (lv_at hl 1 rfl) ?_
    refine o_get (v := .ref (ad 3)) C in_MM hP 0 mw_0 rfl 7 (by decide) k_7_237 rfl rfl d_MM_size_53 ?_
    refine lv_iload_n hx hb d_MM_size_56 rfl (lv_at hl 2 rfl) ?_
    obtain ⟨g14, h⟩ := o_gd_some h
    refine o_iald (f := (NP_nodeA Np)) C hP 3 2 mw_3 rfl g14 d_MM_size_57 ?_
    refine lv_topi (fun x4_58 ex4_58 => ?_)
    replace h := o_nm_at ex4_58 h
    refine lv_istore (lv' := [(4, .int x4_58), (2, .long (0:Int64)), (0, .ref (ad 0)), (1, .int x1)]) hx hb d_MM_size_58 hl (by decide) rfl (fun ls hl => ?_)
    obtain ⟨q3, hq3, h⟩ := o_bd_some h
    refine o_sim2 (AH := fun zz => o_At p l e (rm_MM_size (d + 1)) s m _ below meth c _ m_cls D A 5 60 [] (m_cw ad ca ky ty rt Ni Np No Nx Nf Na Nh Nq Nj M0 M1) [(0, .ref (ad 0)), (1, .int x1), (2, .long zz.1), (4, .int zz.2)]) (AX := fun qq => o_At p l e (rm_MM_size (d + 1)) s m _ below meth c _ m_cls D A 5 92 [] (m_cw ad ca ky ty rt Ni Np No Nx Nf Na Nh Nq Nj M0 M1) [(0, .ref (ad 0)), (1, .int x1), (2, .long qq.2.1)]) (fun zz qq h h0 h1 => f_MM_size_b60 hE hKy C hDD d rec hrec n x1 Np Ni No Nx Nf Na Nh Nq Nj M0 M1 rt zz qq h h0 h1) n _ q3 hq3 ?_ _ _ _ hP hS (lv_sub hl [2, 3, 1, 0] rfl)
    intro H locs ls hP hS hl
    refine lv_aload_n hx hb d_MM_size_92 rfl (lv_at hl 0 rfl) ?_
    refine o_get (v := .ref (ad 2)) C in_MM hP 0 mw_0 rfl 6 (by decide) k_7_236 rfl rfl d_MM_size_93 ?_
    refine lv_iload_n hx hb d_MM_size_96 rfl (lv_at hl 1 rfl) ?_
    obtain ⟨g15, h⟩ := o_gd_some h
    refine o_iald (f := (NP_nodeKind Np)) C hP 2 1 mw_2 rfl g15 d_MM_size_97 ?_
    refine lv_iconst (v := (5:Int32)) hx hb d_MM_size_98 (by decide) ?_
    refine lv_icmp_ne (tgt := 116) hx hb d_MM_size_99 (by decide) (fun c16 => ?_) (fun c16 => ?_)
    · replace h := o_ff c16 h
      refine lv_lload_n hx hb d_MM_size_116 rfl (lv_at hl 2 rfl) ?_
      cases h
      exact o_rl C hP hS d_MM_size_117
    · replace h := o_tt c16 h
      refine lv_lload_n hx hb d_MM_size_102 rfl (lv_at hl 2 rfl) ?_
      refine lv_aload_n hx hb d_MM_size_103 rfl (lv_at hl 0 rfl) ?_
      refine o_get (v := .ref (ad 4)) C in_MM hP 0 mw_0 rfl 8 (by decide) k_7_238 rfl rfl d_MM_size_104 ?_
      refine lv_iload_n hx hb d_MM_size_107 rfl (lv_at hl 1 rfl) ?_
      obtain ⟨g17, h⟩ := o_gd_some h
      refine o_iald (f := (NP_nodeB Np)) C hP 4 3 mw_4 rfl g17 d_MM_size_108 ?_
      refine lv_i2l hx hb d_MM_size_109 rfl ?_
      refine lv_ladd hx hb d_MM_size_110 ?_
      refine lv_lconst (v := (1:Int64)) hx hb d_MM_size_111 (by decide) ?_
      refine lv_lsub hx hb d_MM_size_112 ?_
      refine lv_goto (tgt := 117) hx hb d_MM_size_113 (by decide) ?_
      cases h
      exact o_rl C hP hS d_MM_size_117
  replace h := o_ff c13 h
  by_cases c18 : w8 = (6:Int32)
  · replace h := o_tt c18 h
    refine lv_tableIn (off := 110) (tgt := 118) hx hb d_MM_size_8 (by rw [c18]; decide) (by rw [c18]; decide) (by rw [c18]; rfl) (by decide) ?_
    refine lv_lconst (v := (1:Int64)) hx hb d_MM_size_118 (by decide) ?_
    refine lv_aload_n hx hb d_MM_size_119 rfl (lv_at hl 1 rfl) ?_
    refine lv_aload_n hx hb d_MM_size_120 rfl (lv_at hl 1 rfl) ?_
    refine o_get (v := .ref (ad 3)) C in_MM hP 0 mw_0 rfl 7 (by decide) k_7_237 rfl rfl d_MM_size_121 ?_
    refine lv_iload_n hx hb d_MM_size_124 rfl (lv_at hl 2 rfl) ?_
    obtain ⟨g19, h⟩ := o_gd_some h
    refine o_iald (f := (NP_nodeA Np)) C hP 3 2 mw_3 rfl g19 d_MM_size_125 ?_
    obtain ⟨q4, hq4, h⟩ := o_bd_some h
    refine o_V (st1 := [.long q4, .long (1:Int64)]) (w1 := (m_cw ad ca ky ty rt Ni Np No Nx Nf Na Nh Nq Nj M0 M1)) hE.1 C (hrec ((NP_nodeA Np) x1.toNatClampNeg) Np Ni No Nx Nf Na Nh Nq Nj M0 M1 rt _ hq4) hP (hDD _ _ _ _ _ _ _ _ _ _ _ _) hS hl.1 rfl mw_0 k_9_129 k_9_131 k_s_103 k_1_12 k_9_132 hv_MM_size rfl rfl ⟨(by dsimp only [rm_MM_size, rm_MM_size]; omega), (by dsimp only [rm_MM_size, rm_MM_size]; omega)⟩ rfl (Nat.le_of_ble_eq_true rfl) ⟨Nat.zero_le _, Nat.zero_le _⟩ rfl d_MM_size_126 (fun H locs hP hS => ?_)
    refine va_mmax_long hx hb (C.2.2.2.2.1.trans hl.1.symm) hown (hts _ k_9_137) (hts _ k_9_138) (hts _ k_1_26) (hts _ k_9_139) (by dsimp only [rm_MM_size]; omega) (Nat.le_trans (Nat.le_of_ble_eq_true rfl : _ ≤ 40) (by dsimp only [rm_MM_size]; omega)) (Nat.zero_le _) (Nat.zero_le _) d_MM_size_129 ?_
    refine lv_topl (fun x2_132 ex2_132 => ?_)
    replace h := o_nm_at ex2_132 h
    refine lv_lstore_n (lv' := [(2, .long x2_132), (0, .ref (ad 0)), (1, .int x1)]) hx hb d_MM_size_132 rfl hl (by decide) rfl (fun ls hl => ?_)
    refine lv_aload_n hx hb d_MM_size_133 rfl (lv_at hl 1 rfl) ?_
    refine o_get (v := .ref (ad 4)) C in_MM hP 0 mw_0 rfl 8 (by decide) k_7_238 rfl rfl d_MM_size_134 ?_
    refine lv_iload_n hx hb d_MM_size_137 rfl (lv_at hl 2 rfl) ?_
    obtain ⟨g20, h⟩ := o_gd_some h
    refine o_iald (f := (NP_nodeB Np)) C hP 4 3 mw_4 rfl g20 d_MM_size_138 ?_
    refine lv_i2l hx hb d_MM_size_139 rfl ?_
    refine lv_lload_n hx hb d_MM_size_140 rfl (lv_at hl 0 rfl) ?_
    refine lv_lmul hx hb d_MM_size_141 ?_
    refine lv_aload_n hx hb d_MM_size_142 rfl (lv_at hl 1 rfl) ?_
    refine o_get (v := .ref (ad 5)) C in_MM hP 0 mw_0 rfl 9 (by decide) k_7_239 rfl rfl d_MM_size_143 ?_
    refine lv_iload_n hx hb d_MM_size_146 rfl (lv_at hl 2 rfl) ?_
    obtain ⟨g21, h⟩ := o_gd_some h
    refine o_iald (f := (NP_nodeC Np)) C hP 5 4 mw_5 rfl g21 d_MM_size_147 ?_
    refine lv_if_ge (tgt := 155) hx hb d_MM_size_148 (by decide) (fun c22 => ?_) (fun c22 => ?_)
    · replace h := o_tt c22 h
      refine lv_aload_n hx hb d_MM_size_155 rfl (lv_at hl 1 rfl) ?_
      refine o_get (v := .ref (ad 5)) C in_MM hP 0 mw_0 rfl 9 (by decide) k_7_239 rfl rfl d_MM_size_156 ?_
      refine lv_iload_n hx hb d_MM_size_159 rfl (lv_at hl 2 rfl) ?_
      obtain ⟨g23, h⟩ := o_gd_some h
      refine o_iald (f := (NP_nodeC Np)) C hP 5 4 mw_5 rfl g23 d_MM_size_160 ?_
      refine lv_aload_n hx hb d_MM_size_161 rfl (lv_at hl 1 rfl) ?_
      refine o_get (v := .ref (ad 4)) C in_MM hP 0 mw_0 rfl 8 (by decide) k_7_238 rfl rfl d_MM_size_162 ?_
      refine lv_iload_n hx hb d_MM_size_165 rfl (lv_at hl 2 rfl) ?_
      obtain ⟨g24, h⟩ := o_gd_some h
      refine o_iald (f := (NP_nodeB Np)) C hP 4 3 mw_4 rfl g24 d_MM_size_166 ?_
      refine lv_isub hx hb d_MM_size_167 ?_
      refine lv_i2l hx hb d_MM_size_168 rfl ?_
      refine lv_lload_n hx hb d_MM_size_169 rfl (lv_at hl 0 rfl) ?_
      refine lv_lmul hx hb d_MM_size_170 ?_
      exact f_MM_size_j171 hE hKy C hDD d rec hrec n (((NP_nodeB Np) x1.toNatClampNeg).toInt64 * x2_132) ((((NP_nodeC Np) x1.toNatClampNeg) - ((NP_nodeB Np) x1.toNatClampNeg)).toInt64 * x2_132) Np Ni No Nx Nf Na Nh Nq Nj M0 M1 rt h _ _ _ hP hS (lv_sub hl [] rfl)
    · replace h := o_ff c22 h
      refine lv_lload_n hx hb d_MM_size_151 rfl (lv_at hl 0 rfl) ?_
      refine lv_goto (tgt := 171) hx hb d_MM_size_152 (by decide) ?_
      exact f_MM_size_j171 hE hKy C hDD d rec hrec n (((NP_nodeB Np) x1.toNatClampNeg).toInt64 * x2_132) x2_132 Np Ni No Nx Nf Na Nh Nq Nj M0 M1 rt h _ _ _ hP hS (lv_sub hl [] rfl)
  replace h := o_ff c18 h
  refine lv_tableOut (tgt := 183) hx hb d_MM_size_8 (by have ec2 := o_ne_i (n := 0) (by decide) c2; have ec3 := o_ne_i (n := 1) (by decide) c3; have ec4 := o_ne_i (n := 2) (by decide) c4; have ec5 := o_ne_i (n := 3) (by decide) c5; have ec6 := o_ne_i (n := 4) (by decide) c6; have ec13 := o_ne_i (n := 5) (by decide) c13; have ec18 := o_ne_i (n := 6) (by decide) c18; omega) (by decide) ?_
  refine lv_lconst (v := (1:Int64)) hx hb d_MM_size_183 (by decide) ?_
  cases h
  exact o_rl C hP hS d_MM_size_184
set_option maxHeartbeats 4000000 in
set_option maxRecDepth 100000 in
theorem e_MM_size {E : (Nat → Prop) → State → Heap → Prop} {D : va_G} {ad kd sd vd xd : Nat → Nat} {ca : Nat → ClassId} {ky ty : Nat → Option Nat} (hE : o_EK E kd sd vd xd) (hKy : m_KY ky ty sd) (l : Launch) (n : Nat) (d : Nat) (x1 : Int32) (Np : SNP) (Ni : SNI) (No : SNO) (Nx : SNX) (Nf : SNF) (Na : SNA) (Nh : SNH) (Nq : SNQ) (Nj : SNJ) (M0 : SMT) (M1 : SMT) (rt : Nat) {r : Int64} (h : m_MM_size n d x1 Np = some r) : o_Cn E l D m_cls (m_tys ca) y_MM_size cc_MM_size (rm_MM_size d) [.ref (ad 0), .int x1] (m_cw ad ca ky ty rt Ni Np No Nx Nf Na Nh Nq Nj M0 M1) (m_cw ad ca ky ty rt Ni Np No Nx Nf Na Nh Nq Nj M0 M1) (some (.long r)) := by
  induction d generalizing x1 Np Ni No Nx Nf Na Nh Nq Nj M0 M1 rt r with
  | zero => cases h
  | succ d ih =>
    exact e_MM_size_F hE hKy l n d (m_MM_size n d) (fun x1 Np Ni No Nx Nf Na Nh Nq Nj M0 M1 rt r h => ih x1 Np Ni No Nx Nf Na Nh Nq Nj M0 M1 rt h) _ _ _ _ _ _ _ _ _ _ _ _ _ h
set_option maxHeartbeats 4000000 in
set_option maxRecDepth 100000 in
theorem e_MM_step {E : (Nat → Prop) → State → Heap → Prop} {D : va_G} {ad kd sd vd xd : Nat → Nat} {ca : Nat → ClassId} {ky ty : Nat → Option Nat} (hE : o_EK E kd sd vd xd) (hKy : m_KY ky ty sd) (l : Launch) (x1 : Int32) (x2 : Int32) (x3 : Int32) (No : SNO) (Ni : SNI) (Np : SNP) (Nx : SNX) (Nf : SNF) (Na : SNA) (Nh : SNH) (Nq : SNQ) (Nj : SNJ) (M0 : SMT) (M1 : SMT) (rt : Nat) {r : Int32 × SNO} (h : m_MM_step x1 x2 x3 No = some r) : o_Cn E l D m_cls (m_tys ca) y_MM_step cc_MM_step rm_MM_step [.ref (ad 0), .int x1, .int x2, .int x3] (m_cw ad ca ky ty rt Ni Np No Nx Nf Na Nh Nq Nj M0 M1) (m_cw ad ca ky ty rt Ni Np r.2 Nx Nf Na Nh Nq Nj M0 M1) (some (.int r.1)) := by
  refine o_Cn_of (by decide) (Nat.le_of_ble_eq_true rfl) ?_
  intro p e s m below meth c A ls C hD hP hS hl
  have hDD : ∀ (rt : Nat) (Ni : SNI) (Np : SNP) (No : SNO) (Nx : SNX) (Nf : SNF) (Na : SNA) (Nh : SNH) (Nq : SNQ) (Nj : SNJ) (M0 : SMT) (M1 : SMT), va_D A (m_cw ad ca ky ty rt Ni Np No Nx Nf Na Nh Nq Nj M0 M1) := fun _ _ _ _ _ _ _ _ _ _ _ _ => o_D_map hD rfl
  have hl : lv_has ls 4 [(0, .ref (ad 0)), (1, .int x1), (2, .int x2), (3, .int x3)] := hl
  unfold m_MM_step at h
  have C0 := C
  obtain ⟨hx, hb, -, -, -, hown, hts, hK, -, -⟩ := C0
  refine lv_aload_n hx hb d_MM_step_0 rfl (lv_at hl 0 rfl) ?_
  refine o_get (v := .ref (ad 12)) C in_MM hP 0 mw_0 rfl 16 (by decide) k_8_6 rfl rfl d_MM_step_1 ?_
  refine lv_aload_n hx hb d_MM_step_4 rfl (lv_at hl 0 rfl) ?_
  refine o_get (v := .int (NO_steps No)) C in_MM hP 0 mw_0 rfl 26 (by decide) k_8_16 rfl rfl d_MM_step_5 ?_
  refine lv_iload_n hx hb d_MM_step_8 rfl (lv_at hl 1 rfl) ?_
  obtain ⟨g1, h⟩ := o_gd_some h
  refine o_iast (f := (NO_op No)) (w1 := (m_cw ad ca ky ty rt Ni Np (NO_mk (upd (NO_op No) (NO_steps No).toNatClampNeg x1) (NO_opA No) (NO_opB No) (NO_steps No)) Nx Nf Na Nh Nq Nj M0 M1)) C hP (hDD _ _ _ _ _ _ _ _ _ _ _ _) hS 12 11 mw_12 rfl g1 rfl d_MM_step_9 (fun H locs hP hS => ?_)
  refine lv_aload_n hx hb d_MM_step_10 rfl (lv_at hl 0 rfl) ?_
  refine o_get (v := .ref (ad 13)) C in_MM hP 0 mw_0 rfl 17 (by decide) k_8_7 rfl rfl d_MM_step_11 ?_
  refine lv_aload_n hx hb d_MM_step_14 rfl (lv_at hl 0 rfl) ?_
  refine o_get (v := .int (NO_steps No)) C in_MM hP 0 mw_0 rfl 26 (by decide) k_8_16 rfl rfl d_MM_step_15 ?_
  refine lv_iload_n hx hb d_MM_step_18 rfl (lv_at hl 2 rfl) ?_
  obtain ⟨g2, h⟩ := o_gd_some h
  refine o_iast (f := (NO_opA No)) (w1 := (m_cw ad ca ky ty rt Ni Np (NO_mk (upd (NO_op No) (NO_steps No).toNatClampNeg x1) (upd (NO_opA No) (NO_steps No).toNatClampNeg x2) (NO_opB No) (NO_steps No)) Nx Nf Na Nh Nq Nj M0 M1)) C hP (hDD _ _ _ _ _ _ _ _ _ _ _ _) hS 13 12 mw_13 rfl g2 rfl d_MM_step_19 (fun H locs hP hS => ?_)
  refine lv_aload_n hx hb d_MM_step_20 rfl (lv_at hl 0 rfl) ?_
  refine o_get (v := .ref (ad 14)) C in_MM hP 0 mw_0 rfl 18 (by decide) k_8_8 rfl rfl d_MM_step_21 ?_
  refine lv_aload_n hx hb d_MM_step_24 rfl (lv_at hl 0 rfl) ?_
  refine o_get (v := .int (NO_steps No)) C in_MM hP 0 mw_0 rfl 26 (by decide) k_8_16 rfl rfl d_MM_step_25 ?_
  refine lv_iload_n hx hb d_MM_step_28 rfl (lv_at hl 3 rfl) ?_
  obtain ⟨g3, h⟩ := o_gd_some h
  refine o_iast (f := (NO_opB No)) (w1 := (m_cw ad ca ky ty rt Ni Np (NO_mk (upd (NO_op No) (NO_steps No).toNatClampNeg x1) (upd (NO_opA No) (NO_steps No).toNatClampNeg x2) (upd (NO_opB No) (NO_steps No).toNatClampNeg x3) (NO_steps No)) Nx Nf Na Nh Nq Nj M0 M1)) C hP (hDD _ _ _ _ _ _ _ _ _ _ _ _) hS 14 13 mw_14 rfl g3 rfl d_MM_step_29 (fun H locs hP hS => ?_)
  refine lv_aload_n hx hb d_MM_step_30 rfl (lv_at hl 0 rfl) ?_
  refine lv_dup hx hb d_MM_step_31 rfl ?_
  refine o_get (v := .int (NO_steps No)) C in_MM hP 0 mw_0 rfl 26 (by decide) k_8_16 rfl rfl d_MM_step_32 ?_
  refine lv_dup_x1 hx hb d_MM_step_35 rfl rfl ?_
  refine lv_iconst (v := (1:Int32)) hx hb d_MM_step_36 (by decide) ?_
  refine lv_iadd hx hb d_MM_step_37 ?_
  refine o_put (v := .int ((NO_steps No) + (1:Int32))) (ty := .int) (w1 := (m_cw ad ca ky ty rt Ni Np (NO_mk (upd (NO_op No) (NO_steps No).toNatClampNeg x1) (upd (NO_opA No) (NO_steps No).toNatClampNeg x2) (upd (NO_opB No) (NO_steps No).toNatClampNeg x3) ((NO_steps No) + (1:Int32))) Nx Nf Na Nh Nq Nj M0 M1)) C in_MM t_MM t_MM_ok n_MM hP (hDD _ _ _ _ _ _ _ _ _ _ _ _) hS 0 mw_0 rfl 26 (by decide) k_8_16 rfl rfl (by decide +kernel) rfl rfl (Nat.le_of_ble_eq_true rfl) rfl d_MM_step_38 (fun H locs hP hS => ?_)
  cases h
  exact o_ri (v := (NO_steps No)) C hP hS d_MM_step_41
set_option maxHeartbeats 4000000 in
set_option maxRecDepth 100000 in
theorem f_MM_compile_b89 {E : (Nat → Prop) → State → Heap → Prop} {p : Program} {l : Launch} {e : Env} {s : State} {m : MethodId} {args : Array Value} {below : List Frame} {meth : Method} {c : Code} {D : va_G} {ad kd sd vd xd : Nat → Nat} {ca : Nat → ClassId} {A : Nat → Prop} {ky ty : Nat → Option Nat} {Q : State → Prop} (hE : o_EK E kd sd vd xd) (hKy : m_KY ky ty sd) (C : o_Cx E p s m args meth c D m_cls (m_tys ca) "SchemaJudgeModel" b_MM_compile none 5 cc_MM_compile A) (hDD : ∀ (rt : Nat) (Ni : SNI) (Np : SNP) (No : SNO) (Nx : SNX) (Nf : SNF) (Na : SNA) (Nh : SNH) (Nq : SNQ) (Nj : SNJ) (M0 : SMT) (M1 : SMT), va_D A (m_cw ad ca ky ty rt Ni Np No Nx Nf Na Nh Nq Nj M0 M1)) (d : Nat) (rec : Int32 → SNP → SNO → Option (SNO)) (hrec : ∀ (x1 : Int32) (Np : SNP) (No : SNO) (Ni : SNI) (Nx : SNX) (Nf : SNF) (Na : SNA) (Nh : SNH) (Nq : SNQ) (Nj : SNJ) (M0 : SMT) (M1 : SMT) (rt : Nat) (r : SNO), rec x1 Np No = some r → o_Cn E l D m_cls (m_tys ca) y_MM_compile cc_MM_compile (rm_MM_compile d) [.ref (ad 0), .int x1] (m_cw ad ca ky ty rt Ni Np No Nx Nf Na Nh Nq Nj M0 M1) (m_cw ad ca ky ty rt Ni Np r Nx Nf Na Nh Nq Nj M0 M1) none) (n : Nat) (u89_Np : SNP) (u89_Ni : SNI) (u89_Nx : SNX) (u89_Nf : SNF) (u89_Na : SNA) (u89_Nh : SNH) (u89_Nq : SNQ) (u89_Nj : SNJ) (u89_M0 : SMT) (u89_M1 : SMT) (u89_rt : Nat) (z : Int32 × SNO) (q : Nat × Int32 × SNO) (h : m_MM_compile_b89 n rec u89_Np z = some q) (h0 : q.1 = 0 → o_At p l e (rm_MM_compile (d + 1)) s m args below meth c Q m_cls D A 5 89 [] (m_cw ad ca ky ty u89_rt u89_Ni u89_Np q.2.2 u89_Nx u89_Nf u89_Na u89_Nh u89_Nq u89_Nj u89_M0 u89_M1) [(0, .ref (ad 0)), (2, .int q.2.1)]) (h1 : q.1 ≠ 0 → (o_At p l e (rm_MM_compile (d + 1)) s m args below meth c Q m_cls D A 5 108 [] (m_cw ad ca ky ty u89_rt u89_Ni u89_Np q.2.2 u89_Nx u89_Nf u89_Na u89_Nh u89_Nq u89_Nj u89_M0 u89_M1) [])) : o_At p l e (rm_MM_compile (d + 1)) s m args below meth c Q m_cls D A 5 89 [] (m_cw ad ca ky ty u89_rt u89_Ni u89_Np z.2 u89_Nx u89_Nf u89_Na u89_Nh u89_Nq u89_Nj u89_M0 u89_M1) [(0, .ref (ad 0)), (2, .int z.1)] := by
  unfold m_MM_compile_b89 at h
  intro H locs ls hP hS hl
  have C0 := C
  obtain ⟨hx, hb, -, -, -, hown, hts, hK, -, -⟩ := C0
  refine lv_iload_n hx hb d_MM_compile_89 rfl (lv_at hl 1 rfl) ?_
  refine lv_if_lt (tgt := 108) hx hb d_MM_compile_90 (by decide) (fun c8 => ?_) (fun c8 => ?_)
  · replace h := o_tt c8 h
    cases h
    exact h1 (Nat.succ_ne_zero 0) _ _ _ hP hS (lv_sub hl [] rfl)
  · replace h := o_ff c8 h
    refine lv_aload_n hx hb d_MM_compile_93 rfl (lv_at hl 0 rfl) ?_
    refine lv_iload_n hx hb d_MM_compile_94 rfl (lv_at hl 1 rfl) ?_
    obtain ⟨q4, hq4, h⟩ := o_bd_some h
    refine o_V (st1 := []) (w1 := (m_cw ad ca ky ty u89_rt u89_Ni u89_Np q4 u89_Nx u89_Nf u89_Na u89_Nh u89_Nq u89_Nj u89_M0 u89_M1)) hE.1 C (hrec z.1 u89_Np z.2 u89_Ni u89_Nx u89_Nf u89_Na u89_Nh u89_Nq u89_Nj u89_M0 u89_M1 u89_rt _ hq4) hP (hDD _ _ _ _ _ _ _ _ _ _ _ _) hS hl.1 rfl mw_0 k_9_141 k_9_143 k_s_104 k_1_12 k_9_144 hv_MM_compile rfl rfl ⟨(by dsimp only [rm_MM_compile, rm_MM_compile]; omega), (by dsimp only [rm_MM_compile, rm_MM_compile]; omega)⟩ rfl (Nat.le_of_ble_eq_true rfl) ⟨Nat.zero_le _, Nat.zero_le _⟩ rfl d_MM_compile_95 (fun H locs hP hS => ?_)
    refine lv_aload_n hx hb d_MM_compile_98 rfl (lv_at hl 0 rfl) ?_
    refine o_get (v := .ref (ad 6)) C in_MM hP 0 mw_0 rfl 10 (by decide) k_8_0 rfl rfl d_MM_compile_99 ?_
    refine lv_iload_n hx hb d_MM_compile_102 rfl (lv_at hl 1 rfl) ?_
    obtain ⟨g9, h⟩ := o_gd_some h
    refine o_iald (f := (NP_nodeNext u89_Np)) C hP 6 5 mw_6 rfl g9 d_MM_compile_103 ?_
    refine lv_topi (fun x2_104 ex2_104 => ?_)
    replace h := o_nm_at ex2_104 h
    refine lv_istore_n (lv' := [(2, .int x2_104), (0, .ref (ad 0))]) hx hb d_MM_compile_104 rfl hl (by decide) rfl (fun ls hl => ?_)
    refine lv_goto (tgt := 89) hx hb d_MM_compile_105 (by decide) ?_
    cases h
    exact h0 rfl _ _ _ hP hS (lv_sub hl [1, 0] rfl)
set_option maxHeartbeats 4000000 in
set_option maxRecDepth 100000 in
theorem f_MM_compile_b120 {E : (Nat → Prop) → State → Heap → Prop} {p : Program} {l : Launch} {e : Env} {s : State} {m : MethodId} {args : Array Value} {below : List Frame} {meth : Method} {c : Code} {D : va_G} {ad kd sd vd xd : Nat → Nat} {ca : Nat → ClassId} {A : Nat → Prop} {ky ty : Nat → Option Nat} {Q : State → Prop} (hE : o_EK E kd sd vd xd) (hKy : m_KY ky ty sd) (C : o_Cx E p s m args meth c D m_cls (m_tys ca) "SchemaJudgeModel" b_MM_compile none 5 cc_MM_compile A) (hDD : ∀ (rt : Nat) (Ni : SNI) (Np : SNP) (No : SNO) (Nx : SNX) (Nf : SNF) (Na : SNA) (Nh : SNH) (Nq : SNQ) (Nj : SNJ) (M0 : SMT) (M1 : SMT), va_D A (m_cw ad ca ky ty rt Ni Np No Nx Nf Na Nh Nq Nj M0 M1)) (d : Nat) (rec : Int32 → SNP → SNO → Option (SNO)) (hrec : ∀ (x1 : Int32) (Np : SNP) (No : SNO) (Ni : SNI) (Nx : SNX) (Nf : SNF) (Na : SNA) (Nh : SNH) (Nq : SNQ) (Nj : SNJ) (M0 : SMT) (M1 : SMT) (rt : Nat) (r : SNO), rec x1 Np No = some r → o_Cn E l D m_cls (m_tys ca) y_MM_compile cc_MM_compile (rm_MM_compile d) [.ref (ad 0), .int x1] (m_cw ad ca ky ty rt Ni Np No Nx Nf Na Nh Nq Nj M0 M1) (m_cw ad ca ky ty rt Ni Np r Nx Nf Na Nh Nq Nj M0 M1) none) (n : Nat) (u120_Np : SNP) (u120_Ni : SNI) (u120_Nx : SNX) (u120_Nf : SNF) (u120_Na : SNA) (u120_Nh : SNH) (u120_Nq : SNQ) (u120_Nj : SNJ) (u120_M0 : SMT) (u120_M1 : SMT) (u120_rt : Nat) (z : Int32 × Int32 × SNO) (q : Nat × Int32 × Int32 × SNO) (h : m_MM_compile_b120 n rec u120_Np z = some q) (h0 : q.1 = 0 → o_At p l e (rm_MM_compile (d + 1)) s m args below meth c Q m_cls D A 5 120 [] (m_cw ad ca ky ty u120_rt u120_Ni u120_Np q.2.2.2 u120_Nx u120_Nf u120_Na u120_Nh u120_Nq u120_Nj u120_M0 u120_M1) [(0, .ref (ad 0)), (2, .int q.2.1), (3, .int q.2.2.1)]) (h1 : q.1 ≠ 0 → (if q.1 = 1 then o_At p l e (rm_MM_compile (d + 1)) s m args below meth c Q m_cls D A 5 133 [] (m_cw ad ca ky ty u120_rt u120_Ni u120_Np q.2.2.2 u120_Nx u120_Nf u120_Na u120_Nh u120_Nq u120_Nj u120_M0 u120_M1) [(0, .ref (ad 0)), (2, .int q.2.1), (3, .int q.2.2.1)] else o_At p l e (rm_MM_compile (d + 1)) s m args below meth c Q m_cls D A 5 189 [] (m_cw ad ca ky ty u120_rt u120_Ni u120_Np q.2.2.2 u120_Nx u120_Nf u120_Na u120_Nh u120_Nq u120_Nj u120_M0 u120_M1) [(0, .ref (ad 0)), (2, .int q.2.1)])) : o_At p l e (rm_MM_compile (d + 1)) s m args below meth c Q m_cls D A 5 120 [] (m_cw ad ca ky ty u120_rt u120_Ni u120_Np z.2.2 u120_Nx u120_Nf u120_Na u120_Nh u120_Nq u120_Nj u120_M0 u120_M1) [(0, .ref (ad 0)), (2, .int z.1), (3, .int z.2.1)] := by
  unfold m_MM_compile_b120 at h
  intro H locs ls hP hS hl
  have C0 := C
  obtain ⟨hx, hb, -, -, -, hown, hts, hK, -, -⟩ := C0
  refine lv_iload_n hx hb d_MM_compile_120 rfl (lv_at hl 2 rfl) ?_
  refine lv_if_lt (tgt := 189) hx hb d_MM_compile_121 (by decide) (fun c12 => ?_) (fun c12 => ?_)
  · replace h := o_tt c12 h
    cases h
    exact h1 (Nat.succ_ne_zero 1) _ _ _ hP hS (lv_sub hl [0, 1] rfl)
  · replace h := o_ff c12 h
    refine lv_aload_n hx hb d_MM_compile_124 rfl (lv_at hl 0 rfl) ?_
    refine o_get (v := .ref (ad 6)) C in_MM hP 0 mw_0 rfl 10 (by decide) k_8_0 rfl rfl d_MM_compile_125 ?_
    refine lv_iload_n hx hb d_MM_compile_128 rfl (lv_at hl 2 rfl) ?_
    obtain ⟨g13, h⟩ := o_gd_some h
    refine o_iald (f := (NP_nodeNext u120_Np)) C hP 6 5 mw_6 rfl g13 d_MM_compile_129 ?_
    refine lv_if_ge (tgt := 141) hx hb d_MM_compile_130 (by decide) (fun c14 => ?_) (fun c14 => ?_)
    · replace h := o_tt c14 h
      refine lv_aload_n hx hb d_MM_compile_141 rfl (lv_at hl 0 rfl) ?_
      refine lv_iconst (v := (4:Int32)) hx hb d_MM_compile_142 (by decide) ?_
      refine lv_aload_n hx hb d_MM_compile_143 rfl (lv_at hl 0 rfl) ?_
      refine o_get (v := .int (NO_steps z.2.2)) C in_MM hP 0 mw_0 rfl 26 (by decide) k_8_16 rfl rfl d_MM_compile_144 ?_
      refine lv_iconst (v := (1:Int32)) hx hb d_MM_compile_147 (by decide) ?_
      refine lv_iadd hx hb d_MM_compile_148 ?_
      refine lv_iconst (v := (0:Int32)) hx hb d_MM_compile_149 (by decide) ?_
      obtain ⟨q6, hq6, h⟩ := o_bd_some h
      refine o_V (st1 := [.int q6.1]) (w1 := (m_cw ad ca ky ty u120_rt u120_Ni u120_Np q6.2 u120_Nx u120_Nf u120_Na u120_Nh u120_Nq u120_Nj u120_M0 u120_M1)) hE.1 C (e_MM_step hE hKy l (4:Int32) ((NO_steps z.2.2) + (1:Int32)) (0:Int32) z.2.2 u120_Ni u120_Np u120_Nx u120_Nf u120_Na u120_Nh u120_Nq u120_Nj u120_M0 u120_M1 u120_rt hq6) hP (hDD _ _ _ _ _ _ _ _ _ _ _ _) hS hl.1 rfl mw_0 k_9_145 k_9_147 k_s_105 k_1_12 k_9_148 hv_MM_step rfl rfl ⟨(by dsimp only [rm_MM_compile, rm_MM_step]; omega), (by dsimp only [rm_MM_compile, rm_MM_step]; omega)⟩ rfl (Nat.le_of_ble_eq_true rfl) ⟨Nat.zero_le _, Nat.zero_le _⟩ rfl d_MM_compile_150 (fun H locs hP hS => ?_)
      refine lv_istore (lv' := [(4, .int q6.1), (0, .ref (ad 0)), (2, .int z.1), (3, .int z.2.1)]) hx hb d_MM_compile_153 hl (by decide) rfl (fun ls hl => ?_)
      refine lv_aload_n hx hb d_MM_compile_155 rfl (lv_at hl 1 rfl) ?_
      refine lv_iload_n hx hb d_MM_compile_156 rfl (lv_at hl 3 rfl) ?_
      obtain ⟨q7, hq7, h⟩ := o_bd_some h
      refine o_V (st1 := []) (w1 := (m_cw ad ca ky ty u120_rt u120_Ni u120_Np q7 u120_Nx u120_Nf u120_Na u120_Nh u120_Nq u120_Nj u120_M0 u120_M1)) hE.1 C (hrec z.2.1 u120_Np q6.2 u120_Ni u120_Nx u120_Nf u120_Na u120_Nh u120_Nq u120_Nj u120_M0 u120_M1 u120_rt _ hq7) hP (hDD _ _ _ _ _ _ _ _ _ _ _ _) hS hl.1 rfl mw_0 k_9_141 k_9_143 k_s_104 k_1_12 k_9_144 hv_MM_compile rfl rfl ⟨(by dsimp only [rm_MM_compile, rm_MM_compile]; omega), (by dsimp only [rm_MM_compile, rm_MM_compile]; omega)⟩ rfl (Nat.le_of_ble_eq_true rfl) ⟨Nat.zero_le _, Nat.zero_le _⟩ rfl d_MM_compile_157 (fun H locs hP hS => ?_)
      refine lv_aload_n hx hb d_MM_compile_160 rfl (lv_at hl 1 rfl) ?_
      refine lv_iconst (v := (5:Int32)) hx hb d_MM_compile_161 (by decide) ?_
      refine lv_iload_n hx hb d_MM_compile_162 rfl (lv_at hl 2 rfl) ?_
      refine lv_iconst (v := (0:Int32)) hx hb d_MM_compile_163 (by decide) ?_
      obtain ⟨q8, hq8, h⟩ := o_bd_some h
      refine o_V (st1 := [.int q8.1]) (w1 := (m_cw ad ca ky ty u120_rt u120_Ni u120_Np q8.2 u120_Nx u120_Nf u120_Na u120_Nh u120_Nq u120_Nj u120_M0 u120_M1)) hE.1 C (e_MM_step hE hKy l (5:Int32) z.1 (0:Int32) q7 u120_Ni u120_Np u120_Nx u120_Nf u120_Na u120_Nh u120_Nq u120_Nj u120_M0 u120_M1 u120_rt hq8) hP (hDD _ _ _ _ _ _ _ _ _ _ _ _) hS hl.1 rfl mw_0 k_9_145 k_9_147 k_s_105 k_1_12 k_9_148 hv_MM_step rfl rfl ⟨(by dsimp only [rm_MM_compile, rm_MM_step]; omega), (by dsimp only [rm_MM_compile, rm_MM_step]; omega)⟩ rfl (Nat.le_of_ble_eq_true rfl) ⟨Nat.zero_le _, Nat.zero_le _⟩ rfl d_MM_compile_164 (fun H locs hP hS => ?_)
      refine lv_istore_n (lv' := [(2, .int q8.1), (4, .int q6.1), (0, .ref (ad 0)), (3, .int z.2.1)]) hx hb d_MM_compile_167 rfl hl (by decide) rfl (fun ls hl => ?_)
      refine lv_aload_n hx hb d_MM_compile_168 rfl (lv_at hl 2 rfl) ?_
      refine o_get (v := .ref (ad 14)) C in_MM hP 0 mw_0 rfl 18 (by decide) k_8_8 rfl rfl d_MM_compile_169 ?_
      refine lv_iload hx hb d_MM_compile_172 (lv_at hl 1 rfl) ?_
      refine lv_aload_n hx hb d_MM_compile_174 rfl (lv_at hl 2 rfl) ?_
      refine o_get (v := .int (NO_steps q8.2)) C in_MM hP 0 mw_0 rfl 26 (by decide) k_8_16 rfl rfl d_MM_compile_175 ?_
      obtain ⟨g15, h⟩ := o_gd_some h
      refine o_iast (f := (NO_opB q8.2)) (w1 := (m_cw ad ca ky ty u120_rt u120_Ni u120_Np (NO_mk (NO_op q8.2) (NO_opA q8.2) (upd (NO_opB q8.2) q6.1.toNatClampNeg (NO_steps q8.2)) (NO_steps q8.2)) u120_Nx u120_Nf u120_Na u120_Nh u120_Nq u120_Nj u120_M0 u120_M1)) C hP (hDD _ _ _ _ _ _ _ _ _ _ _ _) hS 14 13 mw_14 rfl g15 rfl d_MM_compile_178 (fun H locs hP hS => ?_)
      refine lv_aload_n hx hb d_MM_compile_179 rfl (lv_at hl 2 rfl) ?_
      refine o_get (v := .ref (ad 6)) C in_MM hP 0 mw_0 rfl 10 (by decide) k_8_0 rfl rfl d_MM_compile_180 ?_
      refine lv_iload_n hx hb d_MM_compile_183 rfl (lv_at hl 3 rfl) ?_
      obtain ⟨g16, h⟩ := o_gd_some h
      refine o_iald (f := (NP_nodeNext u120_Np)) C hP 6 5 mw_6 rfl g16 d_MM_compile_184 ?_
      refine lv_topi (fun x3_185 ex3_185 => ?_)
      replace h := o_nm_at ex3_185 h
      refine lv_istore_n (lv' := [(3, .int x3_185), (2, .int q8.1), (4, .int q6.1), (0, .ref (ad 0))]) hx hb d_MM_compile_185 rfl hl (by decide) rfl (fun ls hl => ?_)
      refine lv_goto (tgt := 120) hx hb d_MM_compile_186 (by decide) ?_
      cases h
      exact h0 rfl _ _ _ hP hS (lv_sub hl [3, 1, 0] rfl)
    · replace h := o_ff c14 h
      cases h
      exact h1 (Nat.succ_ne_zero 0) _ _ _ hP hS (lv_sub hl [0, 1, 2] rfl)
set_option maxHeartbeats 4000000 in
set_option maxRecDepth 100000 in
theorem f_MM_compile_b189 {E : (Nat → Prop) → State → Heap → Prop} {p : Program} {l : Launch} {e : Env} {s : State} {m : MethodId} {args : Array Value} {below : List Frame} {meth : Method} {c : Code} {D : va_G} {ad kd sd vd xd : Nat → Nat} {ca : Nat → ClassId} {A : Nat → Prop} {ky ty : Nat → Option Nat} {Q : State → Prop} (hE : o_EK E kd sd vd xd) (hKy : m_KY ky ty sd) (C : o_Cx E p s m args meth c D m_cls (m_tys ca) "SchemaJudgeModel" b_MM_compile none 5 cc_MM_compile A) (hDD : ∀ (rt : Nat) (Ni : SNI) (Np : SNP) (No : SNO) (Nx : SNX) (Nf : SNF) (Na : SNA) (Nh : SNH) (Nq : SNQ) (Nj : SNJ) (M0 : SMT) (M1 : SMT), va_D A (m_cw ad ca ky ty rt Ni Np No Nx Nf Na Nh Nq Nj M0 M1)) (d : Nat) (rec : Int32 → SNP → SNO → Option (SNO)) (hrec : ∀ (x1 : Int32) (Np : SNP) (No : SNO) (Ni : SNI) (Nx : SNX) (Nf : SNF) (Na : SNA) (Nh : SNH) (Nq : SNQ) (Nj : SNJ) (M0 : SMT) (M1 : SMT) (rt : Nat) (r : SNO), rec x1 Np No = some r → o_Cn E l D m_cls (m_tys ca) y_MM_compile cc_MM_compile (rm_MM_compile d) [.ref (ad 0), .int x1] (m_cw ad ca ky ty rt Ni Np No Nx Nf Na Nh Nq Nj M0 M1) (m_cw ad ca ky ty rt Ni Np r Nx Nf Na Nh Nq Nj M0 M1) none) (n : Nat) (u189_Np : SNP) (u189_Ni : SNI) (u189_Nx : SNX) (u189_Nf : SNF) (u189_Na : SNA) (u189_Nh : SNH) (u189_Nq : SNQ) (u189_Nj : SNJ) (u189_M0 : SMT) (u189_M1 : SMT) (u189_rt : Nat) (z : Int32 × SNO) (q : Nat × Int32 × SNO) (h : m_MM_compile_b189 n rec u189_Np z = some q) (h0 : q.1 = 0 → o_At p l e (rm_MM_compile (d + 1)) s m args below meth c Q m_cls D A 5 189 [] (m_cw ad ca ky ty u189_rt u189_Ni u189_Np q.2.2 u189_Nx u189_Nf u189_Na u189_Nh u189_Nq u189_Nj u189_M0 u189_M1) [(0, .ref (ad 0)), (2, .int q.2.1)]) (h1 : q.1 ≠ 0 → (o_At p l e (rm_MM_compile (d + 1)) s m args below meth c Q m_cls D A 5 377 [] (m_cw ad ca ky ty u189_rt u189_Ni u189_Np q.2.2 u189_Nx u189_Nf u189_Na u189_Nh u189_Nq u189_Nj u189_M0 u189_M1) [])) : o_At p l e (rm_MM_compile (d + 1)) s m args below meth c Q m_cls D A 5 189 [] (m_cw ad ca ky ty u189_rt u189_Ni u189_Np z.2 u189_Nx u189_Nf u189_Na u189_Nh u189_Nq u189_Nj u189_M0 u189_M1) [(0, .ref (ad 0)), (2, .int z.1)] := by
  unfold m_MM_compile_b189 at h
  intro H locs ls hP hS hl
  have C0 := C
  obtain ⟨hx, hb, -, -, -, hown, hts, hK, -, -⟩ := C0
  refine lv_iload_n hx hb d_MM_compile_189 rfl (lv_at hl 1 rfl) ?_
  refine lv_if_lt (tgt := 377) hx hb d_MM_compile_190 (by decide) (fun c17 => ?_) (fun c17 => ?_)
  · replace h := o_tt c17 h
    cases h
    exact h1 (Nat.succ_ne_zero 0) _ _ _ hP hS (lv_sub hl [] rfl)
  · replace h := o_ff c17 h
    refine lv_aload_n hx hb d_MM_compile_193 rfl (lv_at hl 0 rfl) ?_
    refine o_get (v := .ref (ad 13)) C in_MM hP 0 mw_0 rfl 17 (by decide) k_8_7 rfl rfl d_MM_compile_194 ?_
    refine lv_iload_n hx hb d_MM_compile_197 rfl (lv_at hl 1 rfl) ?_
    obtain ⟨g18, h⟩ := o_gd_some h
    refine o_iald (f := (NO_opA z.2)) C hP 13 12 mw_13 rfl g18 d_MM_compile_198 ?_
    refine lv_topi (fun x3_199 ex3_199 => ?_)
    replace h := o_nm_at ex3_199 h
    refine lv_istore_n (lv' := [(3, .int x3_199), (0, .ref (ad 0)), (2, .int z.1)]) hx hb d_MM_compile_199 rfl hl (by decide) rfl (fun ls hl => ?_)
    refine lv_aload_n hx hb d_MM_compile_200 rfl (lv_at hl 1 rfl) ?_
    refine o_get (v := .ref (ad 13)) C in_MM hP 0 mw_0 rfl 17 (by decide) k_8_7 rfl rfl d_MM_compile_201 ?_
    refine lv_iload_n hx hb d_MM_compile_204 rfl (lv_at hl 2 rfl) ?_
    refine lv_aload_n hx hb d_MM_compile_205 rfl (lv_at hl 1 rfl) ?_
    refine o_get (v := .int (NO_steps z.2)) C in_MM hP 0 mw_0 rfl 26 (by decide) k_8_16 rfl rfl d_MM_compile_206 ?_
    obtain ⟨g19, h⟩ := o_gd_some h
    refine o_iast (f := (NO_opA z.2)) (w1 := (m_cw ad ca ky ty u189_rt u189_Ni u189_Np (NO_mk (NO_op z.2) (upd (NO_opA z.2) z.1.toNatClampNeg (NO_steps z.2)) (NO_opB z.2) (NO_steps z.2)) u189_Nx u189_Nf u189_Na u189_Nh u189_Nq u189_Nj u189_M0 u189_M1)) C hP (hDD _ _ _ _ _ _ _ _ _ _ _ _) hS 13 12 mw_13 rfl g19 rfl d_MM_compile_209 (fun H locs hP hS => ?_)
    refine lv_iload_n hx hb d_MM_compile_210 rfl (lv_at hl 0 rfl) ?_
    refine lv_istore_n (lv' := [(2, .int x3_199), (3, .int x3_199), (0, .ref (ad 0))]) hx hb d_MM_compile_211 rfl hl (by decide) rfl (fun ls hl => ?_)
    refine lv_goto (tgt := 189) hx hb d_MM_compile_212 (by decide) ?_
    cases h
    exact h0 rfl _ _ _ hP hS (lv_sub hl [2, 0] rfl)
set_option maxHeartbeats 4000000 in
set_option maxRecDepth 100000 in
theorem f_MM_compile_b217 {E : (Nat → Prop) → State → Heap → Prop} {p : Program} {l : Launch} {e : Env} {s : State} {m : MethodId} {args : Array Value} {below : List Frame} {meth : Method} {c : Code} {D : va_G} {ad kd sd vd xd : Nat → Nat} {ca : Nat → ClassId} {A : Nat → Prop} {ky ty : Nat → Option Nat} {Q : State → Prop} (hE : o_EK E kd sd vd xd) (hKy : m_KY ky ty sd) (C : o_Cx E p s m args meth c D m_cls (m_tys ca) "SchemaJudgeModel" b_MM_compile none 5 cc_MM_compile A) (hDD : ∀ (rt : Nat) (Ni : SNI) (Np : SNP) (No : SNO) (Nx : SNX) (Nf : SNF) (Na : SNA) (Nh : SNH) (Nq : SNQ) (Nj : SNJ) (M0 : SMT) (M1 : SMT), va_D A (m_cw ad ca ky ty rt Ni Np No Nx Nf Na Nh Nq Nj M0 M1)) (d : Nat) (rec : Int32 → SNP → SNO → Option (SNO)) (hrec : ∀ (x1 : Int32) (Np : SNP) (No : SNO) (Ni : SNI) (Nx : SNX) (Nf : SNF) (Na : SNA) (Nh : SNH) (Nq : SNQ) (Nj : SNJ) (M0 : SMT) (M1 : SMT) (rt : Nat) (r : SNO), rec x1 Np No = some r → o_Cn E l D m_cls (m_tys ca) y_MM_compile cc_MM_compile (rm_MM_compile d) [.ref (ad 0), .int x1] (m_cw ad ca ky ty rt Ni Np No Nx Nf Na Nh Nq Nj M0 M1) (m_cw ad ca ky ty rt Ni Np r Nx Nf Na Nh Nq Nj M0 M1) none) (n : Nat) (u217_x1 : Int32) (u217_Np : SNP) (u217_Ni : SNI) (u217_Nx : SNX) (u217_Nf : SNF) (u217_Na : SNA) (u217_Nh : SNH) (u217_Nq : SNQ) (u217_Nj : SNJ) (u217_M0 : SMT) (u217_M1 : SMT) (u217_rt : Nat) (z : Int32 × SNO) (q : Nat × Int32 × SNO) (h : m_MM_compile_b217 n rec u217_x1 u217_Np z = some q) (h0 : q.1 = 0 → o_At p l e (rm_MM_compile (d + 1)) s m args below meth c Q m_cls D A 5 217 [] (m_cw ad ca ky ty u217_rt u217_Ni u217_Np q.2.2 u217_Nx u217_Nf u217_Na u217_Nh u217_Nq u217_Nj u217_M0 u217_M1) [(0, .ref (ad 0)), (1, .int u217_x1), (2, .int q.2.1)]) (h1 : q.1 ≠ 0 → (o_At p l e (rm_MM_compile (d + 1)) s m args below meth c Q m_cls D A 5 243 [] (m_cw ad ca ky ty u217_rt u217_Ni u217_Np q.2.2 u217_Nx u217_Nf u217_Na u217_Nh u217_Nq u217_Nj u217_M0 u217_M1) [(0, .ref (ad 0)), (1, .int u217_x1)])) : o_At p l e (rm_MM_compile (d + 1)) s m args below meth c Q m_cls D A 5 217 [] (m_cw ad ca ky ty u217_rt u217_Ni u217_Np z.2 u217_Nx u217_Nf u217_Na u217_Nh u217_Nq u217_Nj u217_M0 u217_M1) [(0, .ref (ad 0)), (1, .int u217_x1), (2, .int z.1)] := by
  unfold m_MM_compile_b217 at h
  intro H locs ls hP hS hl
  have C0 := C
  obtain ⟨hx, hb, -, -, -, hown, hts, hK, -, -⟩ := C0
  refine lv_iload_n hx hb d_MM_compile_217 rfl (lv_at hl 2 rfl) ?_
  refine lv_aload_n hx hb d_MM_compile_218 rfl (lv_at hl 0 rfl) ?_
  refine o_get (v := .ref (ad 4)) C in_MM hP 0 mw_0 rfl 8 (by decide) k_7_238 rfl rfl d_MM_compile_219 ?_
  refine lv_iload_n hx hb d_MM_compile_222 rfl (lv_at hl 1 rfl) ?_
  obtain ⟨g22, h⟩ := o_gd_some h
  refine o_iald (f := (NP_nodeB u217_Np)) C hP 4 3 mw_4 rfl g22 d_MM_compile_223 ?_
  refine lv_icmp_ge (tgt := 243) hx hb d_MM_compile_224 (by decide) (fun c23 => ?_) (fun c23 => ?_)
  · replace h := o_tt c23 h
    cases h
    exact h1 (Nat.succ_ne_zero 0) _ _ _ hP hS (lv_sub hl [0, 1] rfl)
  · replace h := o_ff c23 h
    refine lv_aload_n hx hb d_MM_compile_227 rfl (lv_at hl 0 rfl) ?_
    refine lv_aload_n hx hb d_MM_compile_228 rfl (lv_at hl 0 rfl) ?_
    refine o_get (v := .ref (ad 3)) C in_MM hP 0 mw_0 rfl 7 (by decide) k_7_237 rfl rfl d_MM_compile_229 ?_
    refine lv_iload_n hx hb d_MM_compile_232 rfl (lv_at hl 1 rfl) ?_
    obtain ⟨g24, h⟩ := o_gd_some h
    refine o_iald (f := (NP_nodeA u217_Np)) C hP 3 2 mw_3 rfl g24 d_MM_compile_233 ?_
    obtain ⟨q13, hq13, h⟩ := o_bd_some h
    refine o_V (st1 := []) (w1 := (m_cw ad ca ky ty u217_rt u217_Ni u217_Np q13 u217_Nx u217_Nf u217_Na u217_Nh u217_Nq u217_Nj u217_M0 u217_M1)) hE.1 C (hrec ((NP_nodeA u217_Np) u217_x1.toNatClampNeg) u217_Np z.2 u217_Ni u217_Nx u217_Nf u217_Na u217_Nh u217_Nq u217_Nj u217_M0 u217_M1 u217_rt _ hq13) hP (hDD _ _ _ _ _ _ _ _ _ _ _ _) hS hl.1 rfl mw_0 k_9_141 k_9_143 k_s_104 k_1_12 k_9_144 hv_MM_compile rfl rfl ⟨(by dsimp only [rm_MM_compile, rm_MM_compile]; omega), (by dsimp only [rm_MM_compile, rm_MM_compile]; omega)⟩ rfl (Nat.le_of_ble_eq_true rfl) ⟨Nat.zero_le _, Nat.zero_le _⟩ rfl d_MM_compile_234 (fun H locs hP hS => ?_)
    obtain ⟨x2_237, ex2_237⟩ : ∃ y : Int32, y = z.1 + (1:Int32) := ⟨_, rfl⟩
    replace h := o_nm_at ex2_237 h
    refine lv_iinc (v := x2_237) (lv' := [(2, .int x2_237), (0, .ref (ad 0)), (1, .int u217_x1)]) hx hb d_MM_compile_237 hl (k := 2) rfl (by rw [ex2_237]; rfl) (by decide) rfl (fun ls hl => ?_)
    refine lv_goto (tgt := 217) hx hb d_MM_compile_240 (by decide) ?_
    cases h
    exact h0 rfl _ _ _ hP hS (lv_sub hl [1, 2, 0] rfl)
set_option maxHeartbeats 4000000 in
set_option maxRecDepth 100000 in
theorem f_MM_compile_b305 {E : (Nat → Prop) → State → Heap → Prop} {p : Program} {l : Launch} {e : Env} {s : State} {m : MethodId} {args : Array Value} {below : List Frame} {meth : Method} {c : Code} {D : va_G} {ad kd sd vd xd : Nat → Nat} {ca : Nat → ClassId} {A : Nat → Prop} {ky ty : Nat → Option Nat} {Q : State → Prop} (hE : o_EK E kd sd vd xd) (hKy : m_KY ky ty sd) (C : o_Cx E p s m args meth c D m_cls (m_tys ca) "SchemaJudgeModel" b_MM_compile none 5 cc_MM_compile A) (hDD : ∀ (rt : Nat) (Ni : SNI) (Np : SNP) (No : SNO) (Nx : SNX) (Nf : SNF) (Na : SNA) (Nh : SNH) (Nq : SNQ) (Nj : SNJ) (M0 : SMT) (M1 : SMT), va_D A (m_cw ad ca ky ty rt Ni Np No Nx Nf Na Nh Nq Nj M0 M1)) (d : Nat) (rec : Int32 → SNP → SNO → Option (SNO)) (hrec : ∀ (x1 : Int32) (Np : SNP) (No : SNO) (Ni : SNI) (Nx : SNX) (Nf : SNF) (Na : SNA) (Nh : SNH) (Nq : SNQ) (Nj : SNJ) (M0 : SMT) (M1 : SMT) (rt : Nat) (r : SNO), rec x1 Np No = some r → o_Cn E l D m_cls (m_tys ca) y_MM_compile cc_MM_compile (rm_MM_compile d) [.ref (ad 0), .int x1] (m_cw ad ca ky ty rt Ni Np No Nx Nf Na Nh Nq Nj M0 M1) (m_cw ad ca ky ty rt Ni Np r Nx Nf Na Nh Nq Nj M0 M1) none) (n : Nat) (u305_x1 : Int32) (u305_Np : SNP) (u305_Ni : SNI) (u305_Nx : SNX) (u305_Nf : SNF) (u305_Na : SNA) (u305_Nh : SNH) (u305_Nq : SNQ) (u305_Nj : SNJ) (u305_M0 : SMT) (u305_M1 : SMT) (u305_rt : Nat) (z : Int32 × Int32 × SNO) (q : Nat × Int32 × Int32 × SNO) (h : m_MM_compile_b305 n rec u305_x1 u305_Np z = some q) (h0 : q.1 = 0 → o_At p l e (rm_MM_compile (d + 1)) s m args below meth c Q m_cls D A 5 305 [] (m_cw ad ca ky ty u305_rt u305_Ni u305_Np q.2.2.2 u305_Nx u305_Nf u305_Na u305_Nh u305_Nq u305_Nj u305_M0 u305_M1) [(0, .ref (ad 0)), (1, .int u305_x1), (2, .int q.2.1), (3, .int q.2.2.1)]) (h1 : q.1 ≠ 0 → (o_At p l e (rm_MM_compile (d + 1)) s m args below meth c Q m_cls D A 5 348 [] (m_cw ad ca ky ty u305_rt u305_Ni u305_Np q.2.2.2 u305_Nx u305_Nf u305_Na u305_Nh u305_Nq u305_Nj u305_M0 u305_M1) [(0, .ref (ad 0)), (2, .int q.2.1)])) : o_At p l e (rm_MM_compile (d + 1)) s m args below meth c Q m_cls D A 5 305 [] (m_cw ad ca ky ty u305_rt u305_Ni u305_Np z.2.2 u305_Nx u305_Nf u305_Na u305_Nh u305_Nq u305_Nj u305_M0 u305_M1) [(0, .ref (ad 0)), (1, .int u305_x1), (2, .int z.1), (3, .int z.2.1)] := by
  unfold m_MM_compile_b305 at h
  intro H locs ls hP hS hl
  have C0 := C
  obtain ⟨hx, hb, -, -, -, hown, hts, hK, -, -⟩ := C0
  refine lv_iload_n hx hb d_MM_compile_305 rfl (lv_at hl 3 rfl) ?_
  refine lv_aload_n hx hb d_MM_compile_306 rfl (lv_at hl 0 rfl) ?_
  refine o_get (v := .ref (ad 5)) C in_MM hP 0 mw_0 rfl 9 (by decide) k_7_239 rfl rfl d_MM_compile_307 ?_
  refine lv_iload_n hx hb d_MM_compile_310 rfl (lv_at hl 1 rfl) ?_
  obtain ⟨g28, h⟩ := o_gd_some h
  refine o_iald (f := (NP_nodeC u305_Np)) C hP 5 4 mw_5 rfl g28 d_MM_compile_311 ?_
  refine lv_icmp_ge (tgt := 348) hx hb d_MM_compile_312 (by decide) (fun c29 => ?_) (fun c29 => ?_)
  · replace h := o_tt c29 h
    cases h
    exact h1 (Nat.succ_ne_zero 0) _ _ _ hP hS (lv_sub hl [0, 2] rfl)
  · replace h := o_ff c29 h
    refine lv_aload_n hx hb d_MM_compile_315 rfl (lv_at hl 0 rfl) ?_
    refine lv_iconst (v := (4:Int32)) hx hb d_MM_compile_316 (by decide) ?_
    refine lv_aload_n hx hb d_MM_compile_317 rfl (lv_at hl 0 rfl) ?_
    refine o_get (v := .int (NO_steps z.2.2)) C in_MM hP 0 mw_0 rfl 26 (by decide) k_8_16 rfl rfl d_MM_compile_318 ?_
    refine lv_iconst (v := (1:Int32)) hx hb d_MM_compile_321 (by decide) ?_
    refine lv_iadd hx hb d_MM_compile_322 ?_
    refine lv_iload_n hx hb d_MM_compile_323 rfl (lv_at hl 2 rfl) ?_
    obtain ⟨q15, hq15, h⟩ := o_bd_some h
    refine o_V (st1 := [.int q15.1]) (w1 := (m_cw ad ca ky ty u305_rt u305_Ni u305_Np q15.2 u305_Nx u305_Nf u305_Na u305_Nh u305_Nq u305_Nj u305_M0 u305_M1)) hE.1 C (e_MM_step hE hKy l (4:Int32) ((NO_steps z.2.2) + (1:Int32)) z.1 z.2.2 u305_Ni u305_Np u305_Nx u305_Nf u305_Na u305_Nh u305_Nq u305_Nj u305_M0 u305_M1 u305_rt hq15) hP (hDD _ _ _ _ _ _ _ _ _ _ _ _) hS hl.1 rfl mw_0 k_9_145 k_9_147 k_s_105 k_1_12 k_9_148 hv_MM_step rfl rfl ⟨(by dsimp only [rm_MM_compile, rm_MM_step]; omega), (by dsimp only [rm_MM_compile, rm_MM_step]; omega)⟩ rfl (Nat.le_of_ble_eq_true rfl) ⟨Nat.zero_le _, Nat.zero_le _⟩ rfl d_MM_compile_324 (fun H locs hP hS => ?_)
    refine lv_istore (lv' := [(4, .int q15.1), (0, .ref (ad 0)), (1, .int u305_x1), (2, .int z.1), (3, .int z.2.1)]) hx hb d_MM_compile_327 hl (by decide) rfl (fun ls hl => ?_)
    refine lv_iload hx hb d_MM_compile_329 (lv_at hl 0 rfl) ?_
    refine lv_istore_n (lv' := [(2, .int q15.1), (4, .int q15.1), (0, .ref (ad 0)), (1, .int u305_x1), (3, .int z.2.1)]) hx hb d_MM_compile_331 rfl hl (by decide) rfl (fun ls hl => ?_)
    refine lv_aload_n hx hb d_MM_compile_332 rfl (lv_at hl 2 rfl) ?_
    refine lv_aload_n hx hb d_MM_compile_333 rfl (lv_at hl 2 rfl) ?_
    refine o_get (v := .ref (ad 3)) C in_MM hP 0 mw_0 rfl 7 (by decide) k_7_237 rfl rfl d_MM_compile_334 ?_
    refine lv_iload_n hx hb d_MM_compile_337 rfl (lv_at hl 3 rfl) ?_
    obtain ⟨g30, h⟩ := o_gd_some h
    refine o_iald (f := (NP_nodeA u305_Np)) C hP 3 2 mw_3 rfl g30 d_MM_compile_338 ?_
    obtain ⟨q16, hq16, h⟩ := o_bd_some h
    refine o_V (st1 := []) (w1 := (m_cw ad ca ky ty u305_rt u305_Ni u305_Np q16 u305_Nx u305_Nf u305_Na u305_Nh u305_Nq u305_Nj u305_M0 u305_M1)) hE.1 C (hrec ((NP_nodeA u305_Np) u305_x1.toNatClampNeg) u305_Np q15.2 u305_Ni u305_Nx u305_Nf u305_Na u305_Nh u305_Nq u305_Nj u305_M0 u305_M1 u305_rt _ hq16) hP (hDD _ _ _ _ _ _ _ _ _ _ _ _) hS hl.1 rfl mw_0 k_9_141 k_9_143 k_s_104 k_1_12 k_9_144 hv_MM_compile rfl rfl ⟨(by dsimp only [rm_MM_compile, rm_MM_compile]; omega), (by dsimp only [rm_MM_compile, rm_MM_compile]; omega)⟩ rfl (Nat.le_of_ble_eq_true rfl) ⟨Nat.zero_le _, Nat.zero_le _⟩ rfl d_MM_compile_339 (fun H locs hP hS => ?_)
    obtain ⟨x3_342, ex3_342⟩ : ∃ y : Int32, y = z.2.1 + (1:Int32) := ⟨_, rfl⟩
    replace h := o_nm_at ex3_342 h
    refine lv_iinc (v := x3_342) (lv' := [(3, .int x3_342), (2, .int q15.1), (4, .int q15.1), (0, .ref (ad 0)), (1, .int u305_x1)]) hx hb d_MM_compile_342 hl (k := 4) rfl (by rw [ex3_342]; rfl) (by decide) rfl (fun ls hl => ?_)
    refine lv_goto (tgt := 305) hx hb d_MM_compile_345 (by decide) ?_
    cases h
    exact h0 rfl _ _ _ hP hS (lv_sub hl [3, 4, 1, 0] rfl)
set_option maxHeartbeats 4000000 in
set_option maxRecDepth 100000 in
theorem f_MM_compile_b348 {E : (Nat → Prop) → State → Heap → Prop} {p : Program} {l : Launch} {e : Env} {s : State} {m : MethodId} {args : Array Value} {below : List Frame} {meth : Method} {c : Code} {D : va_G} {ad kd sd vd xd : Nat → Nat} {ca : Nat → ClassId} {A : Nat → Prop} {ky ty : Nat → Option Nat} {Q : State → Prop} (hE : o_EK E kd sd vd xd) (hKy : m_KY ky ty sd) (C : o_Cx E p s m args meth c D m_cls (m_tys ca) "SchemaJudgeModel" b_MM_compile none 5 cc_MM_compile A) (hDD : ∀ (rt : Nat) (Ni : SNI) (Np : SNP) (No : SNO) (Nx : SNX) (Nf : SNF) (Na : SNA) (Nh : SNH) (Nq : SNQ) (Nj : SNJ) (M0 : SMT) (M1 : SMT), va_D A (m_cw ad ca ky ty rt Ni Np No Nx Nf Na Nh Nq Nj M0 M1)) (d : Nat) (rec : Int32 → SNP → SNO → Option (SNO)) (hrec : ∀ (x1 : Int32) (Np : SNP) (No : SNO) (Ni : SNI) (Nx : SNX) (Nf : SNF) (Na : SNA) (Nh : SNH) (Nq : SNQ) (Nj : SNJ) (M0 : SMT) (M1 : SMT) (rt : Nat) (r : SNO), rec x1 Np No = some r → o_Cn E l D m_cls (m_tys ca) y_MM_compile cc_MM_compile (rm_MM_compile d) [.ref (ad 0), .int x1] (m_cw ad ca ky ty rt Ni Np No Nx Nf Na Nh Nq Nj M0 M1) (m_cw ad ca ky ty rt Ni Np r Nx Nf Na Nh Nq Nj M0 M1) none) (n : Nat) (u348_Np : SNP) (u348_Ni : SNI) (u348_Nx : SNX) (u348_Nf : SNF) (u348_Na : SNA) (u348_Nh : SNH) (u348_Nq : SNQ) (u348_Nj : SNJ) (u348_M0 : SMT) (u348_M1 : SMT) (u348_rt : Nat) (z : Int32 × SNO) (q : Nat × Int32 × SNO) (h : m_MM_compile_b348 n rec u348_Np z = some q) (h0 : q.1 = 0 → o_At p l e (rm_MM_compile (d + 1)) s m args below meth c Q m_cls D A 5 348 [] (m_cw ad ca ky ty u348_rt u348_Ni u348_Np q.2.2 u348_Nx u348_Nf u348_Na u348_Nh u348_Nq u348_Nj u348_M0 u348_M1) [(0, .ref (ad 0)), (2, .int q.2.1)]) (h1 : q.1 ≠ 0 → (o_At p l e (rm_MM_compile (d + 1)) s m args below meth c Q m_cls D A 5 374 [] (m_cw ad ca ky ty u348_rt u348_Ni u348_Np q.2.2 u348_Nx u348_Nf u348_Na u348_Nh u348_Nq u348_Nj u348_M0 u348_M1) [])) : o_At p l e (rm_MM_compile (d + 1)) s m args below meth c Q m_cls D A 5 348 [] (m_cw ad ca ky ty u348_rt u348_Ni u348_Np z.2 u348_Nx u348_Nf u348_Na u348_Nh u348_Nq u348_Nj u348_M0 u348_M1) [(0, .ref (ad 0)), (2, .int z.1)] := by
  unfold m_MM_compile_b348 at h
  intro H locs ls hP hS hl
  have C0 := C
  obtain ⟨hx, hb, -, -, -, hown, hts, hK, -, -⟩ := C0
  refine lv_iload_n hx hb d_MM_compile_348 rfl (lv_at hl 1 rfl) ?_
  refine lv_if_lt (tgt := 374) hx hb d_MM_compile_349 (by decide) (fun c31 => ?_) (fun c31 => ?_)
  · replace h := o_tt c31 h
    cases h
    exact h1 (Nat.succ_ne_zero 0) _ _ _ hP hS (lv_sub hl [] rfl)
  · replace h := o_ff c31 h
    refine lv_aload_n hx hb d_MM_compile_352 rfl (lv_at hl 0 rfl) ?_
    refine o_get (v := .ref (ad 14)) C in_MM hP 0 mw_0 rfl 18 (by decide) k_8_8 rfl rfl d_MM_compile_353 ?_
    refine lv_iload_n hx hb d_MM_compile_356 rfl (lv_at hl 1 rfl) ?_
    obtain ⟨g32, h⟩ := o_gd_some h
    refine o_iald (f := (NO_opB z.2)) C hP 14 13 mw_14 rfl g32 d_MM_compile_357 ?_
    refine lv_topi (fun x3_358 ex3_358 => ?_)
    replace h := o_nm_at ex3_358 h
    refine lv_istore_n (lv' := [(3, .int x3_358), (0, .ref (ad 0)), (2, .int z.1)]) hx hb d_MM_compile_358 rfl hl (by decide) rfl (fun ls hl => ?_)
    refine lv_aload_n hx hb d_MM_compile_359 rfl (lv_at hl 1 rfl) ?_
    refine o_get (v := .ref (ad 14)) C in_MM hP 0 mw_0 rfl 18 (by decide) k_8_8 rfl rfl d_MM_compile_360 ?_
    refine lv_iload_n hx hb d_MM_compile_363 rfl (lv_at hl 2 rfl) ?_
    refine lv_aload_n hx hb d_MM_compile_364 rfl (lv_at hl 1 rfl) ?_
    refine o_get (v := .int (NO_steps z.2)) C in_MM hP 0 mw_0 rfl 26 (by decide) k_8_16 rfl rfl d_MM_compile_365 ?_
    obtain ⟨g33, h⟩ := o_gd_some h
    refine o_iast (f := (NO_opB z.2)) (w1 := (m_cw ad ca ky ty u348_rt u348_Ni u348_Np (NO_mk (NO_op z.2) (NO_opA z.2) (upd (NO_opB z.2) z.1.toNatClampNeg (NO_steps z.2)) (NO_steps z.2)) u348_Nx u348_Nf u348_Na u348_Nh u348_Nq u348_Nj u348_M0 u348_M1)) C hP (hDD _ _ _ _ _ _ _ _ _ _ _ _) hS 14 13 mw_14 rfl g33 rfl d_MM_compile_368 (fun H locs hP hS => ?_)
    refine lv_iload_n hx hb d_MM_compile_369 rfl (lv_at hl 0 rfl) ?_
    refine lv_istore_n (lv' := [(2, .int x3_358), (3, .int x3_358), (0, .ref (ad 0))]) hx hb d_MM_compile_370 rfl hl (by decide) rfl (fun ls hl => ?_)
    refine lv_goto (tgt := 348) hx hb d_MM_compile_371 (by decide) ?_
    cases h
    exact h0 rfl _ _ _ hP hS (lv_sub hl [2, 0] rfl)
set_option maxHeartbeats 4000000 in
set_option maxRecDepth 100000 in
theorem e_MM_compile_F {E : (Nat → Prop) → State → Heap → Prop} {D : va_G} {ad kd sd vd xd : Nat → Nat} {ca : Nat → ClassId} {ky ty : Nat → Option Nat} (hE : o_EK E kd sd vd xd) (hKy : m_KY ky ty sd) (l : Launch) (n : Nat) (d : Nat) (rec : Int32 → SNP → SNO → Option (SNO)) (hrec : ∀ (x1 : Int32) (Np : SNP) (No : SNO) (Ni : SNI) (Nx : SNX) (Nf : SNF) (Na : SNA) (Nh : SNH) (Nq : SNQ) (Nj : SNJ) (M0 : SMT) (M1 : SMT) (rt : Nat) (r : SNO), rec x1 Np No = some r → o_Cn E l D m_cls (m_tys ca) y_MM_compile cc_MM_compile (rm_MM_compile d) [.ref (ad 0), .int x1] (m_cw ad ca ky ty rt Ni Np No Nx Nf Na Nh Nq Nj M0 M1) (m_cw ad ca ky ty rt Ni Np r Nx Nf Na Nh Nq Nj M0 M1) none) (x1 : Int32) (Np : SNP) (No : SNO) (Ni : SNI) (Nx : SNX) (Nf : SNF) (Na : SNA) (Nh : SNH) (Nq : SNQ) (Nj : SNJ) (M0 : SMT) (M1 : SMT) (rt : Nat) {r : SNO} (h : m_MM_compile_F n rec x1 Np No = some r) : o_Cn E l D m_cls (m_tys ca) y_MM_compile cc_MM_compile (rm_MM_compile (d + 1)) [.ref (ad 0), .int x1] (m_cw ad ca ky ty rt Ni Np No Nx Nf Na Nh Nq Nj M0 M1) (m_cw ad ca ky ty rt Ni Np r Nx Nf Na Nh Nq Nj M0 M1) none := by
  refine o_Cn_of (by decide) (Nat.le_of_ble_eq_true rfl) ?_
  intro p e s m below meth c A ls C hD hP hS hl
  have hDD : ∀ (rt : Nat) (Ni : SNI) (Np : SNP) (No : SNO) (Nx : SNX) (Nf : SNF) (Na : SNA) (Nh : SNH) (Nq : SNQ) (Nj : SNJ) (M0 : SMT) (M1 : SMT), va_D A (m_cw ad ca ky ty rt Ni Np No Nx Nf Na Nh Nq Nj M0 M1) := fun _ _ _ _ _ _ _ _ _ _ _ _ => o_D_map hD rfl
  have hl : lv_has ls 5 [(0, .ref (ad 0)), (1, .int x1)] := hl
  unfold m_MM_compile_F at h
  have C0 := C
  obtain ⟨hx, hb, -, -, -, hown, hts, hK, -, -⟩ := C0
  refine lv_aload_n hx hb d_MM_compile_0 rfl (lv_at hl 0 rfl) ?_
  refine o_get (v := .ref (ad 2)) C in_MM hP 0 mw_0 rfl 6 (by decide) k_7_236 rfl rfl d_MM_compile_1 ?_
  refine lv_iload_n hx hb d_MM_compile_4 rfl (lv_at hl 1 rfl) ?_
  obtain ⟨g1, h⟩ := o_gd_some h
  refine o_iald (f := (NP_nodeKind Np)) C hP 2 1 mw_2 rfl g1 d_MM_compile_5 ?_
  refine lv_topi (fun w6 ew6 => ?_)
  replace h := o_nm_at ew6 h
  by_cases c2 : w6 = (1:Int32)
  · replace h := o_tt c2 h
    refine lv_tableIn (off := 38) (tgt := 44) hx hb d_MM_compile_6 (by rw [c2]; decide) (by rw [c2]; decide) (by rw [c2]; rfl) (by decide) ?_
    refine lv_aload_n hx hb d_MM_compile_44 rfl (lv_at hl 0 rfl) ?_
    refine lv_iconst (v := (1:Int32)) hx hb d_MM_compile_45 (by decide) ?_
    refine lv_aload_n hx hb d_MM_compile_46 rfl (lv_at hl 0 rfl) ?_
    refine o_get (v := .ref (ad 3)) C in_MM hP 0 mw_0 rfl 7 (by decide) k_7_237 rfl rfl d_MM_compile_47 ?_
    refine lv_iload_n hx hb d_MM_compile_50 rfl (lv_at hl 1 rfl) ?_
    obtain ⟨g3, h⟩ := o_gd_some h
    refine o_iald (f := (NP_nodeA Np)) C hP 3 2 mw_3 rfl g3 d_MM_compile_51 ?_
    refine lv_iconst (v := (0:Int32)) hx hb d_MM_compile_52 (by decide) ?_
    obtain ⟨q1, hq1, h⟩ := o_bd_some h
    refine o_V (st1 := [.int q1.1]) (w1 := (m_cw ad ca ky ty rt Ni Np q1.2 Nx Nf Na Nh Nq Nj M0 M1)) hE.1 C (e_MM_step hE hKy l (1:Int32) ((NP_nodeA Np) x1.toNatClampNeg) (0:Int32) No Ni Np Nx Nf Na Nh Nq Nj M0 M1 rt hq1) hP (hDD _ _ _ _ _ _ _ _ _ _ _ _) hS hl.1 rfl mw_0 k_9_145 k_9_147 k_s_105 k_1_12 k_9_148 hv_MM_step rfl rfl ⟨(by dsimp only [rm_MM_compile, rm_MM_step]; omega), (by dsimp only [rm_MM_compile, rm_MM_step]; omega)⟩ rfl (Nat.le_of_ble_eq_true rfl) ⟨Nat.zero_le _, Nat.zero_le _⟩ rfl d_MM_compile_53 (fun H locs hP hS => ?_)
    refine lv_pop hx hb d_MM_compile_56 rfl ?_
    refine lv_goto (tgt := 377) hx hb d_MM_compile_57 (by decide) ?_
    cases h
    exact o_rv C hP hS d_MM_compile_377
  replace h := o_ff c2 h
  by_cases c4 : w6 = (2:Int32)
  · replace h := o_tt c4 h
    refine lv_tableIn (off := 54) (tgt := 60) hx hb d_MM_compile_6 (by rw [c4]; decide) (by rw [c4]; decide) (by rw [c4]; rfl) (by decide) ?_
    refine lv_aload_n hx hb d_MM_compile_60 rfl (lv_at hl 0 rfl) ?_
    refine lv_iconst (v := (2:Int32)) hx hb d_MM_compile_61 (by decide) ?_
    refine lv_iconst (v := (0:Int32)) hx hb d_MM_compile_62 (by decide) ?_
    refine lv_iconst (v := (0:Int32)) hx hb d_MM_compile_63 (by decide) ?_
    obtain ⟨q2, hq2, h⟩ := o_bd_some h
    refine o_V (st1 := [.int q2.1]) (w1 := (m_cw ad ca ky ty rt Ni Np q2.2 Nx Nf Na Nh Nq Nj M0 M1)) hE.1 C (e_MM_step hE hKy l (2:Int32) (0:Int32) (0:Int32) No Ni Np Nx Nf Na Nh Nq Nj M0 M1 rt hq2) hP (hDD _ _ _ _ _ _ _ _ _ _ _ _) hS hl.1 rfl mw_0 k_9_145 k_9_147 k_s_105 k_1_12 k_9_148 hv_MM_step rfl rfl ⟨(by dsimp only [rm_MM_compile, rm_MM_step]; omega), (by dsimp only [rm_MM_compile, rm_MM_step]; omega)⟩ rfl (Nat.le_of_ble_eq_true rfl) ⟨Nat.zero_le _, Nat.zero_le _⟩ rfl d_MM_compile_64 (fun H locs hP hS => ?_)
    refine lv_pop hx hb d_MM_compile_67 rfl ?_
    refine lv_goto (tgt := 377) hx hb d_MM_compile_68 (by decide) ?_
    cases h
    exact o_rv C hP hS d_MM_compile_377
  replace h := o_ff c4 h
  by_cases c5 : w6 = (3:Int32)
  · replace h := o_tt c5 h
    refine lv_tableIn (off := 65) (tgt := 71) hx hb d_MM_compile_6 (by rw [c5]; decide) (by rw [c5]; decide) (by rw [c5]; rfl) (by decide) ?_
    refine lv_aload_n hx hb d_MM_compile_71 rfl (lv_at hl 0 rfl) ?_
    refine lv_iconst (v := (3:Int32)) hx hb d_MM_compile_72 (by decide) ?_
    refine lv_iconst (v := (0:Int32)) hx hb d_MM_compile_73 (by decide) ?_
    refine lv_iconst (v := (0:Int32)) hx hb d_MM_compile_74 (by decide) ?_
    obtain ⟨q3, hq3, h⟩ := o_bd_some h
    refine o_V (st1 := [.int q3.1]) (w1 := (m_cw ad ca ky ty rt Ni Np q3.2 Nx Nf Na Nh Nq Nj M0 M1)) hE.1 C (e_MM_step hE hKy l (3:Int32) (0:Int32) (0:Int32) No Ni Np Nx Nf Na Nh Nq Nj M0 M1 rt hq3) hP (hDD _ _ _ _ _ _ _ _ _ _ _ _) hS hl.1 rfl mw_0 k_9_145 k_9_147 k_s_105 k_1_12 k_9_148 hv_MM_step rfl rfl ⟨(by dsimp only [rm_MM_compile, rm_MM_step]; omega), (by dsimp only [rm_MM_compile, rm_MM_step]; omega)⟩ rfl (Nat.le_of_ble_eq_true rfl) ⟨Nat.zero_le _, Nat.zero_le _⟩ rfl d_MM_compile_75 (fun H locs hP hS => ?_)
    refine lv_pop hx hb d_MM_compile_78 rfl ?_
    refine lv_goto (tgt := 377) hx hb d_MM_compile_79 (by decide) ?_
    cases h
    exact o_rv C hP hS d_MM_compile_377
  replace h := o_ff c5 h
  by_cases c6 : w6 = (4:Int32)
  · replace h := o_tt c6 h
    refine lv_tableIn (off := 76) (tgt := 82) hx hb d_MM_compile_6 (by rw [c6]; decide) (by rw [c6]; decide) (by rw [c6]; rfl) (by decide) ?_
    refine lv_aload_n hx hb d_MM_compile_82 rfl (lv_at hl 0 rfl) ?_
    refine o_get (v := .ref (ad 3)) C in_MM hP 0 mw_0 rfl 7 (by decide) k_7_237 rfl rfl d_MM_compile_83 ?_
    refine lv_iload_n hx hb d_MM_compile_86 rfl (lv_at hl 1 rfl) ?_
    obtain ⟨g7, h⟩ := o_gd_some h
    refine o_iald (f := (NP_nodeA Np)) C hP 3 2 mw_3 rfl g7 d_MM_compile_87 ?_
    refine lv_topi (fun x2_88 ex2_88 => ?_)
    replace h := o_nm_at ex2_88 h
    refine lv_istore_n (lv' := [(2, .int x2_88), (0, .ref (ad 0)), (1, .int x1)]) hx hb d_MM_compile_88 rfl hl (by decide) rfl (fun ls hl => ?_)
    obtain ⟨q5, hq5, h⟩ := o_bd_some h
    refine o_sim2 (AH := fun zz => o_At p l e (rm_MM_compile (d + 1)) s m _ below meth c _ m_cls D A 5 89 [] (m_cw ad ca ky ty rt Ni Np zz.2 Nx Nf Na Nh Nq Nj M0 M1) [(0, .ref (ad 0)), (2, .int zz.1)]) (AX := fun qq => o_At p l e (rm_MM_compile (d + 1)) s m _ below meth c _ m_cls D A 5 108 [] (m_cw ad ca ky ty rt Ni Np qq.2.2 Nx Nf Na Nh Nq Nj M0 M1) []) (fun zz qq h h0 h1 => f_MM_compile_b89 hE hKy C hDD d rec hrec n Np Ni Nx Nf Na Nh Nq Nj M0 M1 rt zz qq h h0 h1) n _ q5 hq5 ?_ _ _ _ hP hS (lv_sub hl [1, 0] rfl)
    intro H locs ls hP hS hl
    refine lv_goto (tgt := 377) hx hb d_MM_compile_108 (by decide) ?_
    cases h
    exact o_rv C hP hS d_MM_compile_377
  replace h := o_ff c6 h
  by_cases c10 : w6 = (5:Int32)
  · replace h := o_tt c10 h
    refine lv_tableIn (off := 105) (tgt := 111) hx hb d_MM_compile_6 (by rw [c10]; decide) (by rw [c10]; decide) (by rw [c10]; rfl) (by decide) ?_
    refine lv_iconst (v := (-1:Int32)) hx hb d_MM_compile_111 (by decide) ?_
    refine lv_istore_n (lv' := [(2, .int (-1:Int32)), (0, .ref (ad 0)), (1, .int x1)]) hx hb d_MM_compile_112 rfl hl (by decide) rfl (fun ls hl => ?_)
    refine lv_aload_n hx hb d_MM_compile_113 rfl (lv_at hl 1 rfl) ?_
    refine o_get (v := .ref (ad 3)) C in_MM hP 0 mw_0 rfl 7 (by decide) k_7_237 rfl rfl d_MM_compile_114 ?_
    refine lv_iload_n hx hb d_MM_compile_117 rfl (lv_at hl 2 rfl) ?_
    obtain ⟨g11, h⟩ := o_gd_some h
    refine o_iald (f := (NP_nodeA Np)) C hP 3 2 mw_3 rfl g11 d_MM_compile_118 ?_
    refine lv_topi (fun x3_119 ex3_119 => ?_)
    replace h := o_nm_at ex3_119 h
    refine lv_istore_n (lv' := [(3, .int x3_119), (2, .int (-1:Int32)), (0, .ref (ad 0)), (1, .int x1)]) hx hb d_MM_compile_119 rfl hl (by decide) rfl (fun ls hl => ?_)
    obtain ⟨q9, hq9, h⟩ := o_bd_some h
    refine o_sim2 (AH := fun zz => o_At p l e (rm_MM_compile (d + 1)) s m _ below meth c _ m_cls D A 5 120 [] (m_cw ad ca ky ty rt Ni Np zz.2.2 Nx Nf Na Nh Nq Nj M0 M1) [(0, .ref (ad 0)), (2, .int zz.1), (3, .int zz.2.1)]) (AX := fun qq => if qq.1 = 1 then o_At p l e (rm_MM_compile (d + 1)) s m _ below meth c _ m_cls D A 5 133 [] (m_cw ad ca ky ty rt Ni Np qq.2.2.2 Nx Nf Na Nh Nq Nj M0 M1) [(0, .ref (ad 0)), (2, .int qq.2.1), (3, .int qq.2.2.1)] else o_At p l e (rm_MM_compile (d + 1)) s m _ below meth c _ m_cls D A 5 189 [] (m_cw ad ca ky ty rt Ni Np qq.2.2.2 Nx Nf Na Nh Nq Nj M0 M1) [(0, .ref (ad 0)), (2, .int qq.2.1)]) (fun zz qq h h0 h1 => f_MM_compile_b120 hE hKy C hDD d rec hrec n Np Ni Nx Nf Na Nh Nq Nj M0 M1 rt zz qq h h0 h1) n _ q9 hq9 ?_ _ _ _ hP hS (lv_sub hl [2, 1, 0] rfl)
    by_cases c20 : q9.1 = 1
    · replace h := o_tt c20 h
      refine o_ip c20 ?_
      intro H locs ls hP hS hl
      refine lv_aload_n hx hb d_MM_compile_133 rfl (lv_at hl 0 rfl) ?_
      refine lv_iload_n hx hb d_MM_compile_134 rfl (lv_at hl 2 rfl) ?_
      obtain ⟨q10, hq10, h⟩ := o_bd_some h
      refine o_V (st1 := []) (w1 := (m_cw ad ca ky ty rt Ni Np q10 Nx Nf Na Nh Nq Nj M0 M1)) hE.1 C (hrec q9.2.2.1 Np q9.2.2.2 Ni Nx Nf Na Nh Nq Nj M0 M1 rt _ hq10) hP (hDD _ _ _ _ _ _ _ _ _ _ _ _) hS hl.1 rfl mw_0 k_9_141 k_9_143 k_s_104 k_1_12 k_9_144 hv_MM_compile rfl rfl ⟨(by dsimp only [rm_MM_compile, rm_MM_compile]; omega), (by dsimp only [rm_MM_compile, rm_MM_compile]; omega)⟩ rfl (Nat.le_of_ble_eq_true rfl) ⟨Nat.zero_le _, Nat.zero_le _⟩ rfl d_MM_compile_135 (fun H locs hP hS => ?_)
      refine lv_goto (tgt := 189) hx hb d_MM_compile_138 (by decide) ?_
      obtain ⟨q11, hq11, h⟩ := o_bd_some h
      refine o_sim2 (AH := fun zz => o_At p l e (rm_MM_compile (d + 1)) s m _ below meth c _ m_cls D A 5 189 [] (m_cw ad ca ky ty rt Ni Np zz.2 Nx Nf Na Nh Nq Nj M0 M1) [(0, .ref (ad 0)), (2, .int zz.1)]) (AX := fun qq => o_At p l e (rm_MM_compile (d + 1)) s m _ below meth c _ m_cls D A 5 377 [] (m_cw ad ca ky ty rt Ni Np qq.2.2 Nx Nf Na Nh Nq Nj M0 M1) []) (fun zz qq h h0 h1 => f_MM_compile_b189 hE hKy C hDD d rec hrec n Np Ni Nx Nf Na Nh Nq Nj M0 M1 rt zz qq h h0 h1) n _ q11 hq11 ?_ _ _ _ hP hS (lv_sub hl [0, 1] rfl)
      intro H locs ls hP hS hl
      cases h
      exact o_rv C hP hS d_MM_compile_377
    replace h := o_ff c20 h
    refine o_in_ c20 ?_
    intro H locs ls hP hS hl
    obtain ⟨q12, hq12, h⟩ := o_bd_some h
    refine o_sim2 (AH := fun zz => o_At p l e (rm_MM_compile (d + 1)) s m _ below meth c _ m_cls D A 5 189 [] (m_cw ad ca ky ty rt Ni Np zz.2 Nx Nf Na Nh Nq Nj M0 M1) [(0, .ref (ad 0)), (2, .int zz.1)]) (AX := fun qq => o_At p l e (rm_MM_compile (d + 1)) s m _ below meth c _ m_cls D A 5 377 [] (m_cw ad ca ky ty rt Ni Np qq.2.2 Nx Nf Na Nh Nq Nj M0 M1) []) (fun zz qq h h0 h1 => f_MM_compile_b189 hE hKy C hDD d rec hrec n Np Ni Nx Nf Na Nh Nq Nj M0 M1 rt zz qq h h0 h1) n _ q12 hq12 ?_ _ _ _ hP hS (lv_sub hl [0, 1] rfl)
    intro H locs ls hP hS hl
    cases h
    exact o_rv C hP hS d_MM_compile_377
  replace h := o_ff c10 h
  by_cases c21 : w6 = (6:Int32)
  · replace h := o_tt c21 h
    refine lv_tableIn (off := 209) (tgt := 215) hx hb d_MM_compile_6 (by rw [c21]; decide) (by rw [c21]; decide) (by rw [c21]; rfl) (by decide) ?_
    refine lv_iconst (v := (0:Int32)) hx hb d_MM_compile_215 (by decide) ?_
    refine lv_istore_n (lv' := [(2, .int (0:Int32)), (0, .ref (ad 0)), (1, .int x1)]) hx hb d_MM_compile_216 rfl hl (by decide) rfl (fun ls hl => ?_)
    obtain ⟨q14, hq14, h⟩ := o_bd_some h
    refine o_sim2 (AH := fun zz => o_At p l e (rm_MM_compile (d + 1)) s m _ below meth c _ m_cls D A 5 217 [] (m_cw ad ca ky ty rt Ni Np zz.2 Nx Nf Na Nh Nq Nj M0 M1) [(0, .ref (ad 0)), (1, .int x1), (2, .int zz.1)]) (AX := fun qq => o_At p l e (rm_MM_compile (d + 1)) s m _ below meth c _ m_cls D A 5 243 [] (m_cw ad ca ky ty rt Ni Np qq.2.2 Nx Nf Na Nh Nq Nj M0 M1) [(0, .ref (ad 0)), (1, .int x1)]) (fun zz qq h h0 h1 => f_MM_compile_b217 hE hKy C hDD d rec hrec n x1 Np Ni Nx Nf Na Nh Nq Nj M0 M1 rt zz qq h h0 h1) n _ q14 hq14 ?_ _ _ _ hP hS (lv_sub hl [1, 2, 0] rfl)
    intro H locs ls hP hS hl
    refine lv_aload_n hx hb d_MM_compile_243 rfl (lv_at hl 0 rfl) ?_
    refine o_get (v := .ref (ad 5)) C in_MM hP 0 mw_0 rfl 9 (by decide) k_7_239 rfl rfl d_MM_compile_244 ?_
    refine lv_iload_n hx hb d_MM_compile_247 rfl (lv_at hl 1 rfl) ?_
    obtain ⟨g25, h⟩ := o_gd_some h
    refine o_iald (f := (NP_nodeC Np)) C hP 5 4 mw_5 rfl g25 d_MM_compile_248 ?_
    refine lv_if_ge (tgt := 296) hx hb d_MM_compile_249 (by decide) (fun c26 => ?_) (fun c26 => ?_)
    · replace h := o_tt c26 h
      refine lv_iconst (v := (-1:Int32)) hx hb d_MM_compile_296 (by decide) ?_
      refine lv_istore_n (lv' := [(2, .int (-1:Int32)), (0, .ref (ad 0)), (1, .int x1)]) hx hb d_MM_compile_297 rfl hl (by decide) rfl (fun ls hl => ?_)
      refine lv_aload_n hx hb d_MM_compile_298 rfl (lv_at hl 1 rfl) ?_
      refine o_get (v := .ref (ad 4)) C in_MM hP 0 mw_0 rfl 8 (by decide) k_7_238 rfl rfl d_MM_compile_299 ?_
      refine lv_iload_n hx hb d_MM_compile_302 rfl (lv_at hl 2 rfl) ?_
      obtain ⟨g27, h⟩ := o_gd_some h
      refine o_iald (f := (NP_nodeB Np)) C hP 4 3 mw_4 rfl g27 d_MM_compile_303 ?_
      refine lv_topi (fun x3_304 ex3_304 => ?_)
      replace h := o_nm_at ex3_304 h
      refine lv_istore_n (lv' := [(3, .int x3_304), (2, .int (-1:Int32)), (0, .ref (ad 0)), (1, .int x1)]) hx hb d_MM_compile_304 rfl hl (by decide) rfl (fun ls hl => ?_)
      obtain ⟨q17, hq17, h⟩ := o_bd_some h
      refine o_sim2 (AH := fun zz => o_At p l e (rm_MM_compile (d + 1)) s m _ below meth c _ m_cls D A 5 305 [] (m_cw ad ca ky ty rt Ni Np zz.2.2 Nx Nf Na Nh Nq Nj M0 M1) [(0, .ref (ad 0)), (1, .int x1), (2, .int zz.1), (3, .int zz.2.1)]) (AX := fun qq => o_At p l e (rm_MM_compile (d + 1)) s m _ below meth c _ m_cls D A 5 348 [] (m_cw ad ca ky ty rt Ni Np qq.2.2.2 Nx Nf Na Nh Nq Nj M0 M1) [(0, .ref (ad 0)), (2, .int qq.2.1)]) (fun zz qq h h0 h1 => f_MM_compile_b305 hE hKy C hDD d rec hrec n x1 Np Ni Nx Nf Na Nh Nq Nj M0 M1 rt zz qq h h0 h1) n _ q17 hq17 ?_ _ _ _ hP hS (lv_sub hl [2, 3, 1, 0] rfl)
      intro H locs ls hP hS hl
      obtain ⟨q18, hq18, h⟩ := o_bd_some h
      refine o_sim2 (AH := fun zz => o_At p l e (rm_MM_compile (d + 1)) s m _ below meth c _ m_cls D A 5 348 [] (m_cw ad ca ky ty rt Ni Np zz.2 Nx Nf Na Nh Nq Nj M0 M1) [(0, .ref (ad 0)), (2, .int zz.1)]) (AX := fun qq => o_At p l e (rm_MM_compile (d + 1)) s m _ below meth c _ m_cls D A 5 374 [] (m_cw ad ca ky ty rt Ni Np qq.2.2 Nx Nf Na Nh Nq Nj M0 M1) []) (fun zz qq h h0 h1 => f_MM_compile_b348 hE hKy C hDD d rec hrec n Np Ni Nx Nf Na Nh Nq Nj M0 M1 rt zz qq h h0 h1) n _ q18 hq18 ?_ _ _ _ hP hS (lv_sub hl [0, 1] rfl)
      intro H locs ls hP hS hl
      refine lv_goto (tgt := 377) hx hb d_MM_compile_374 (by decide) ?_
      cases h
      exact o_rv C hP hS d_MM_compile_377
    · replace h := o_ff c26 h
      refine lv_aload_n hx hb d_MM_compile_252 rfl (lv_at hl 0 rfl) ?_
      refine lv_iconst (v := (4:Int32)) hx hb d_MM_compile_253 (by decide) ?_
      refine lv_aload_n hx hb d_MM_compile_254 rfl (lv_at hl 0 rfl) ?_
      refine o_get (v := .int (NO_steps q14.2.2)) C in_MM hP 0 mw_0 rfl 26 (by decide) k_8_16 rfl rfl d_MM_compile_255 ?_
      refine lv_iconst (v := (1:Int32)) hx hb d_MM_compile_258 (by decide) ?_
      refine lv_iadd hx hb d_MM_compile_259 ?_
      refine lv_iconst (v := (0:Int32)) hx hb d_MM_compile_260 (by decide) ?_
      obtain ⟨q19, hq19, h⟩ := o_bd_some h
      refine o_V (st1 := [.int q19.1]) (w1 := (m_cw ad ca ky ty rt Ni Np q19.2 Nx Nf Na Nh Nq Nj M0 M1)) hE.1 C (e_MM_step hE hKy l (4:Int32) ((NO_steps q14.2.2) + (1:Int32)) (0:Int32) q14.2.2 Ni Np Nx Nf Na Nh Nq Nj M0 M1 rt hq19) hP (hDD _ _ _ _ _ _ _ _ _ _ _ _) hS hl.1 rfl mw_0 k_9_145 k_9_147 k_s_105 k_1_12 k_9_148 hv_MM_step rfl rfl ⟨(by dsimp only [rm_MM_compile, rm_MM_step]; omega), (by dsimp only [rm_MM_compile, rm_MM_step]; omega)⟩ rfl (Nat.le_of_ble_eq_true rfl) ⟨Nat.zero_le _, Nat.zero_le _⟩ rfl d_MM_compile_261 (fun H locs hP hS => ?_)
      refine lv_istore_n (lv' := [(2, .int q19.1), (0, .ref (ad 0)), (1, .int x1)]) hx hb d_MM_compile_264 rfl hl (by decide) rfl (fun ls hl => ?_)
      refine lv_aload_n hx hb d_MM_compile_265 rfl (lv_at hl 1 rfl) ?_
      refine lv_aload_n hx hb d_MM_compile_266 rfl (lv_at hl 1 rfl) ?_
      refine o_get (v := .ref (ad 3)) C in_MM hP 0 mw_0 rfl 7 (by decide) k_7_237 rfl rfl d_MM_compile_267 ?_
      refine lv_iload_n hx hb d_MM_compile_270 rfl (lv_at hl 2 rfl) ?_
      obtain ⟨g34, h⟩ := o_gd_some h
      refine o_iald (f := (NP_nodeA Np)) C hP 3 2 mw_3 rfl g34 d_MM_compile_271 ?_
      obtain ⟨q20, hq20, h⟩ := o_bd_some h
      refine o_V (st1 := []) (w1 := (m_cw ad ca ky ty rt Ni Np q20 Nx Nf Na Nh Nq Nj M0 M1)) hE.1 C (hrec ((NP_nodeA Np) x1.toNatClampNeg) Np q19.2 Ni Nx Nf Na Nh Nq Nj M0 M1 rt _ hq20) hP (hDD _ _ _ _ _ _ _ _ _ _ _ _) hS hl.1 rfl mw_0 k_9_141 k_9_143 k_s_104 k_1_12 k_9_144 hv_MM_compile rfl rfl ⟨(by dsimp only [rm_MM_compile, rm_MM_compile]; omega), (by dsimp only [rm_MM_compile, rm_MM_compile]; omega)⟩ rfl (Nat.le_of_ble_eq_true rfl) ⟨Nat.zero_le _, Nat.zero_le _⟩ rfl d_MM_compile_272 (fun H locs hP hS => ?_)
      refine lv_aload_n hx hb d_MM_compile_275 rfl (lv_at hl 1 rfl) ?_
      refine lv_iconst (v := (5:Int32)) hx hb d_MM_compile_276 (by decide) ?_
      refine lv_iload_n hx hb d_MM_compile_277 rfl (lv_at hl 0 rfl) ?_
      refine lv_iconst (v := (0:Int32)) hx hb d_MM_compile_278 (by decide) ?_
      obtain ⟨q21, hq21, h⟩ := o_bd_some h
      refine o_V (st1 := [.int q21.1]) (w1 := (m_cw ad ca ky ty rt Ni Np q21.2 Nx Nf Na Nh Nq Nj M0 M1)) hE.1 C (e_MM_step hE hKy l (5:Int32) q19.1 (0:Int32) q20 Ni Np Nx Nf Na Nh Nq Nj M0 M1 rt hq21) hP (hDD _ _ _ _ _ _ _ _ _ _ _ _) hS hl.1 rfl mw_0 k_9_145 k_9_147 k_s_105 k_1_12 k_9_148 hv_MM_step rfl rfl ⟨(by dsimp only [rm_MM_compile, rm_MM_step]; omega), (by dsimp only [rm_MM_compile, rm_MM_step]; omega)⟩ rfl (Nat.le_of_ble_eq_true rfl) ⟨Nat.zero_le _, Nat.zero_le _⟩ rfl d_MM_compile_279 (fun H locs hP hS => ?_)
      refine lv_pop hx hb d_MM_compile_282 rfl ?_
      refine lv_aload_n hx hb d_MM_compile_283 rfl (lv_at hl 1 rfl) ?_
      refine o_get (v := .ref (ad 14)) C in_MM hP 0 mw_0 rfl 18 (by decide) k_8_8 rfl rfl d_MM_compile_284 ?_
      refine lv_iload_n hx hb d_MM_compile_287 rfl (lv_at hl 0 rfl) ?_
      refine lv_aload_n hx hb d_MM_compile_288 rfl (lv_at hl 1 rfl) ?_
      refine o_get (v := .int (NO_steps q21.2)) C in_MM hP 0 mw_0 rfl 26 (by decide) k_8_16 rfl rfl d_MM_compile_289 ?_
      obtain ⟨g35, h⟩ := o_gd_some h
      refine o_iast (f := (NO_opB q21.2)) (w1 := (m_cw ad ca ky ty rt Ni Np (NO_mk (NO_op q21.2) (NO_opA q21.2) (upd (NO_opB q21.2) q19.1.toNatClampNeg (NO_steps q21.2)) (NO_steps q21.2)) Nx Nf Na Nh Nq Nj M0 M1)) C hP (hDD _ _ _ _ _ _ _ _ _ _ _ _) hS 14 13 mw_14 rfl g35 rfl d_MM_compile_292 (fun H locs hP hS => ?_)
      refine lv_goto (tgt := 377) hx hb d_MM_compile_293 (by decide) ?_
      cases h
      exact o_rv C hP hS d_MM_compile_377
  replace h := o_ff c21 h
  refine lv_tableOut (tgt := 377) hx hb d_MM_compile_6 (by have ec2 := o_ne_i (n := 1) (by decide) c2; have ec4 := o_ne_i (n := 2) (by decide) c4; have ec5 := o_ne_i (n := 3) (by decide) c5; have ec6 := o_ne_i (n := 4) (by decide) c6; have ec10 := o_ne_i (n := 5) (by decide) c10; have ec21 := o_ne_i (n := 6) (by decide) c21; omega) (by decide) ?_
  cases h
  exact o_rv C hP hS d_MM_compile_377
set_option maxHeartbeats 4000000 in
set_option maxRecDepth 100000 in
theorem e_MM_compile {E : (Nat → Prop) → State → Heap → Prop} {D : va_G} {ad kd sd vd xd : Nat → Nat} {ca : Nat → ClassId} {ky ty : Nat → Option Nat} (hE : o_EK E kd sd vd xd) (hKy : m_KY ky ty sd) (l : Launch) (n : Nat) (d : Nat) (x1 : Int32) (Np : SNP) (No : SNO) (Ni : SNI) (Nx : SNX) (Nf : SNF) (Na : SNA) (Nh : SNH) (Nq : SNQ) (Nj : SNJ) (M0 : SMT) (M1 : SMT) (rt : Nat) {r : SNO} (h : m_MM_compile n d x1 Np No = some r) : o_Cn E l D m_cls (m_tys ca) y_MM_compile cc_MM_compile (rm_MM_compile d) [.ref (ad 0), .int x1] (m_cw ad ca ky ty rt Ni Np No Nx Nf Na Nh Nq Nj M0 M1) (m_cw ad ca ky ty rt Ni Np r Nx Nf Na Nh Nq Nj M0 M1) none := by
  induction d generalizing x1 Np No Ni Nx Nf Na Nh Nq Nj M0 M1 rt r with
  | zero => cases h
  | succ d ih =>
    exact e_MM_compile_F hE hKy l n d (m_MM_compile n d) (fun x1 Np No Ni Nx Nf Na Nh Nq Nj M0 M1 rt r h => ih x1 Np No Ni Nx Nf Na Nh Nq Nj M0 M1 rt h) _ _ _ _ _ _ _ _ _ _ _ _ _ h
set_option maxHeartbeats 4000000 in
set_option maxRecDepth 100000 in
theorem f_MM_has_1_b10 {E : (Nat → Prop) → State → Heap → Prop} {p : Program} {l : Launch} {e : Env} {s : State} {m : MethodId} {args : Array Value} {below : List Frame} {meth : Method} {c : Code} {D : va_G} {ad kd sd vd xd : Nat → Nat} {ca : Nat → ClassId} {A : Nat → Prop} {ky ty : Nat → Option Nat} {Q : State → Prop} (hE : o_EK E kd sd vd xd) (hKy : m_KY ky ty sd) (C : o_Cx E p s m args meth c D m_cls (m_tys ca) "SchemaJudgeModel" b_MM_has_1 (some .boolean) 5 cc_MM_has_1 A) (hDD : ∀ (rt : Nat) (Ni : SNI) (Np : SNP) (No : SNO) (Nx : SNX) (Nf : SNF) (Na : SNA) (Nh : SNH) (Nq : SNQ) (Nj : SNJ) (M0 : SMT) (M1 : SMT), va_D A (m_cw ad ca ky ty rt Ni Np No Nx Nf Na Nh Nq Nj M0 M1)) (n : Nat) (u10_x1 : Int32) (u10_x2 : Int32) (u10_Np : SNP) (u10_Ni : SNI) (u10_No : SNO) (u10_Nx : SNX) (u10_Nf : SNF) (u10_Na : SNA) (u10_Nh : SNH) (u10_Nq : SNQ) (u10_Nj : SNJ) (u10_M0 : SMT) (u10_M1 : SMT) (u10_rt : Nat) (z : Int32 × Int32) (q : Nat × Int32 × Int32) (h : m_MM_has_1_b10 n u10_x1 u10_x2 u10_Np z = some q) (h0 : q.1 = 0 → o_At p l e rm_MM_has_1 s m args below meth c Q m_cls D A 5 10 [] (m_cw ad ca ky ty u10_rt u10_Ni u10_Np u10_No u10_Nx u10_Nf u10_Na u10_Nh u10_Nq u10_Nj u10_M0 u10_M1) [(0, .ref (ad 0)), (1, .int u10_x1), (2, .int u10_x2), (3, .int q.2.1), (4, .int q.2.2)]) (h1 : q.1 ≠ 0 → (o_At p l e rm_MM_has_1 s m args below meth c Q m_cls D A 5 59 [] (m_cw ad ca ky ty u10_rt u10_Ni u10_Np u10_No u10_Nx u10_Nf u10_Na u10_Nh u10_Nq u10_Nj u10_M0 u10_M1) [(0, .ref (ad 0)), (1, .int u10_x1), (3, .int q.2.1)])) : o_At p l e rm_MM_has_1 s m args below meth c Q m_cls D A 5 10 [] (m_cw ad ca ky ty u10_rt u10_Ni u10_Np u10_No u10_Nx u10_Nf u10_Na u10_Nh u10_Nq u10_Nj u10_M0 u10_M1) [(0, .ref (ad 0)), (1, .int u10_x1), (2, .int u10_x2), (3, .int z.1), (4, .int z.2)] := by
  unfold m_MM_has_1_b10 at h
  intro H locs ls hP hS hl
  have C0 := C
  obtain ⟨hx, hb, -, -, -, hown, hts, hK, -, -⟩ := C0
  refine lv_iload hx hb d_MM_has_1_10 (lv_at hl 4 rfl) ?_
  refine lv_aload_n hx hb d_MM_has_1_12 rfl (lv_at hl 0 rfl) ?_
  refine o_get (v := .ref (ad 10)) C in_MM hP 0 mw_0 rfl 14 (by decide) k_8_4 rfl rfl d_MM_has_1_13 ?_
  refine lv_iload_n hx hb d_MM_has_1_16 rfl (lv_at hl 1 rfl) ?_
  obtain ⟨g2, h⟩ := o_gd_some h
  refine o_iald (f := (NP_setTo u10_Np)) C hP 10 9 mw_10 rfl g2 d_MM_has_1_17 ?_
  refine lv_icmp_ge (tgt := 59) hx hb d_MM_has_1_18 (by decide) (fun c3 => ?_) (fun c3 => ?_)
  · replace h := o_tt c3 h
    cases h
    exact h1 (Nat.succ_ne_zero 0) _ _ _ hP hS (lv_sub hl [0, 1, 3] rfl)
  · replace h := o_ff c3 h
    refine lv_iload_n hx hb d_MM_has_1_21 rfl (lv_at hl 3 rfl) ?_
    refine lv_if_ne (tgt := 59) hx hb d_MM_has_1_22 (by decide) (fun c4 => ?_) (fun c4 => ?_)
    · replace h := o_ff c4 h
      cases h
      exact h1 (Nat.succ_ne_zero 0) _ _ _ hP hS (lv_sub hl [0, 1, 3] rfl)
    · replace h := o_tt c4 h
      refine lv_iload_n hx hb d_MM_has_1_25 rfl (lv_at hl 2 rfl) ?_
      refine lv_aload_n hx hb d_MM_has_1_26 rfl (lv_at hl 0 rfl) ?_
      refine o_get (v := .ref (ad 7)) C in_MM hP 0 mw_0 rfl 11 (by decide) k_8_1 rfl rfl d_MM_has_1_27 ?_
      refine lv_iload hx hb d_MM_has_1_30 (lv_at hl 4 rfl) ?_
      obtain ⟨g5, h⟩ := o_gd_some h
      refine o_iald (f := (NP_low u10_Np)) C hP 7 6 mw_7 rfl g5 d_MM_has_1_32 ?_
      refine lv_icmp_lt (tgt := 51) hx hb d_MM_has_1_33 (by decide) (fun c6 => ?_) (fun c6 => ?_)
      · replace h := o_tt c6 h
        refine lv_iconst (v := (0:Int32)) hx hb d_MM_has_1_51 (by decide) ?_
        refine lv_istore_n (lv' := [(3, .int (0:Int32)), (0, .ref (ad 0)), (1, .int u10_x1), (2, .int u10_x2), (4, .int z.2)]) hx hb d_MM_has_1_52 rfl hl (by decide) rfl (fun ls hl => ?_)
        obtain ⟨x4_53, ex4_53⟩ : ∃ y : Int32, y = z.2 + (1:Int32) := ⟨_, rfl⟩
        replace h := o_nm_at ex4_53 h
        refine lv_iinc (v := x4_53) (lv' := [(4, .int x4_53), (3, .int (0:Int32)), (0, .ref (ad 0)), (1, .int u10_x1), (2, .int u10_x2)]) hx hb d_MM_has_1_53 hl (k := 4) rfl (by rw [ex4_53]; rfl) (by decide) rfl (fun ls hl => ?_)
        refine lv_goto (tgt := 10) hx hb d_MM_has_1_56 (by decide) ?_
        cases h
        exact h0 rfl _ _ _ hP hS (lv_sub hl [2, 3, 4, 1, 0] rfl)
      · replace h := o_ff c6 h
        refine lv_iload_n hx hb d_MM_has_1_36 rfl (lv_at hl 2 rfl) ?_
        refine lv_aload_n hx hb d_MM_has_1_37 rfl (lv_at hl 0 rfl) ?_
        refine o_get (v := .ref (ad 8)) C in_MM hP 0 mw_0 rfl 12 (by decide) k_8_2 rfl rfl d_MM_has_1_38 ?_
        refine lv_iload hx hb d_MM_has_1_41 (lv_at hl 4 rfl) ?_
        obtain ⟨g7, h⟩ := o_gd_some h
        refine o_iald (f := (NP_high u10_Np)) C hP 8 7 mw_8 rfl g7 d_MM_has_1_43 ?_
        refine lv_icmp_gt (tgt := 51) hx hb d_MM_has_1_44 (by decide) (fun c8 => ?_) (fun c8 => ?_)
        · replace h := o_tt c8 h
          refine lv_iconst (v := (0:Int32)) hx hb d_MM_has_1_51 (by decide) ?_
          refine lv_istore_n (lv' := [(3, .int (0:Int32)), (0, .ref (ad 0)), (1, .int u10_x1), (2, .int u10_x2), (4, .int z.2)]) hx hb d_MM_has_1_52 rfl hl (by decide) rfl (fun ls hl => ?_)
          obtain ⟨x4_53, ex4_53⟩ : ∃ y : Int32, y = z.2 + (1:Int32) := ⟨_, rfl⟩
          replace h := o_nm_at ex4_53 h
          refine lv_iinc (v := x4_53) (lv' := [(4, .int x4_53), (3, .int (0:Int32)), (0, .ref (ad 0)), (1, .int u10_x1), (2, .int u10_x2)]) hx hb d_MM_has_1_53 hl (k := 4) rfl (by rw [ex4_53]; rfl) (by decide) rfl (fun ls hl => ?_)
          refine lv_goto (tgt := 10) hx hb d_MM_has_1_56 (by decide) ?_
          cases h
          exact h0 rfl _ _ _ hP hS (lv_sub hl [2, 3, 4, 1, 0] rfl)
        · replace h := o_ff c8 h
          refine lv_iconst (v := (1:Int32)) hx hb d_MM_has_1_47 (by decide) ?_
          refine lv_goto (tgt := 52) hx hb d_MM_has_1_48 (by decide) ?_
          refine lv_istore_n (lv' := [(3, .int (1:Int32)), (0, .ref (ad 0)), (1, .int u10_x1), (2, .int u10_x2), (4, .int z.2)]) hx hb d_MM_has_1_52 rfl hl (by decide) rfl (fun ls hl => ?_)
          obtain ⟨x4_53, ex4_53⟩ : ∃ y : Int32, y = z.2 + (1:Int32) := ⟨_, rfl⟩
          replace h := o_nm_at ex4_53 h
          refine lv_iinc (v := x4_53) (lv' := [(4, .int x4_53), (3, .int (1:Int32)), (0, .ref (ad 0)), (1, .int u10_x1), (2, .int u10_x2)]) hx hb d_MM_has_1_53 hl (k := 4) rfl (by rw [ex4_53]; rfl) (by decide) rfl (fun ls hl => ?_)
          refine lv_goto (tgt := 10) hx hb d_MM_has_1_56 (by decide) ?_
          cases h
          exact h0 rfl _ _ _ hP hS (lv_sub hl [2, 3, 4, 1, 0] rfl)
set_option maxHeartbeats 4000000 in
set_option maxRecDepth 100000 in
theorem f_MM_has_1_j59 {E : (Nat → Prop) → State → Heap → Prop} {p : Program} {l : Launch} {e : Env} {s : State} {m : MethodId} {args : Array Value} {below : List Frame} {meth : Method} {c : Code} {D : va_G} {ad kd sd vd xd : Nat → Nat} {ca : Nat → ClassId} {A : Nat → Prop} {ky ty : Nat → Option Nat} (hE : o_EK E kd sd vd xd) (hKy : m_KY ky ty sd) (C : o_Cx E p s m args meth c D m_cls (m_tys ca) "SchemaJudgeModel" b_MM_has_1 (some .boolean) 5 cc_MM_has_1 A) (hDD : ∀ (rt : Nat) (Ni : SNI) (Np : SNP) (No : SNO) (Nx : SNX) (Nf : SNF) (Na : SNA) (Nh : SNH) (Nq : SNQ) (Nj : SNJ) (M0 : SMT) (M1 : SMT), va_D A (m_cw ad ca ky ty rt Ni Np No Nx Nf Na Nh Nq Nj M0 M1)) (n : Nat) (x1 : Int32) (x3 : Int32) (Np : SNP) (Ni : SNI) (No : SNO) (Nx : SNX) (Nf : SNF) (Na : SNA) (Nh : SNH) (Nq : SNQ) (Nj : SNJ) (M0 : SMT) (M1 : SMT) (rt : Nat) {r : Int32} (h : m_MM_has_1_j59 n x1 x3 Np = some r) : o_At p l e rm_MM_has_1 s m args below meth c (MQ below (o_Qx D m_cls (some (.int r)) (m_cw ad ca ky ty rt Ni Np No Nx Nf Na Nh Nq Nj M0 M1) A) args s 0 0 A) m_cls D A 5 59 [] (m_cw ad ca ky ty rt Ni Np No Nx Nf Na Nh Nq Nj M0 M1) [(0, .ref (ad 0)), (1, .int x1), (3, .int x3)] := by
  unfold m_MM_has_1_j59 at h
  intro H locs ls hP hS hl
  have C0 := C
  obtain ⟨hx, hb, -, -, -, hown, hts, hK, -, -⟩ := C0
  refine lv_iload_n hx hb d_MM_has_1_59 rfl (lv_at hl 2 rfl) ?_
  refine lv_aload_n hx hb d_MM_has_1_60 rfl (lv_at hl 0 rfl) ?_
  refine o_get (v := .ref (ad 11)) C in_MM hP 0 mw_0 rfl 15 (by decide) k_8_5 rfl rfl d_MM_has_1_61 ?_
  refine lv_iload_n hx hb d_MM_has_1_64 rfl (lv_at hl 1 rfl) ?_
  obtain ⟨g9, h⟩ := o_gd_some h
  refine o_zald (f := (NP_setNot Np)) C hP 11 10 mw_11 rfl g9 d_MM_has_1_65 ?_
  refine lv_icmp_eq (tgt := 73) hx hb d_MM_has_1_66 (by decide) (fun c10 => ?_) (fun c10 => ?_)
  · replace h := o_tt c10 h
    refine lv_iconst (v := (0:Int32)) hx hb d_MM_has_1_73 (by decide) ?_
    cases h
    exact o_rz (v := (0:Int32)) C o_nar0 hP hS d_MM_has_1_74
  · replace h := o_ff c10 h
    refine lv_iconst (v := (1:Int32)) hx hb d_MM_has_1_69 (by decide) ?_
    refine lv_goto (tgt := 74) hx hb d_MM_has_1_70 (by decide) ?_
    cases h
    exact o_rz (v := (1:Int32)) C o_nar1 hP hS d_MM_has_1_74
set_option maxHeartbeats 4000000 in
set_option maxRecDepth 100000 in
theorem e_MM_has_1 {E : (Nat → Prop) → State → Heap → Prop} {D : va_G} {ad kd sd vd xd : Nat → Nat} {ca : Nat → ClassId} {ky ty : Nat → Option Nat} (hE : o_EK E kd sd vd xd) (hKy : m_KY ky ty sd) (l : Launch) (n : Nat) (x1 : Int32) (x2 : Int32) (Np : SNP) (Ni : SNI) (No : SNO) (Nx : SNX) (Nf : SNF) (Na : SNA) (Nh : SNH) (Nq : SNQ) (Nj : SNJ) (M0 : SMT) (M1 : SMT) (rt : Nat) {r : Int32} (h : m_MM_has_1 n x1 x2 Np = some r) : o_Cn E l D m_cls (m_tys ca) y_MM_has_1 cc_MM_has_1 rm_MM_has_1 [.ref (ad 0), .int x1, .int x2] (m_cw ad ca ky ty rt Ni Np No Nx Nf Na Nh Nq Nj M0 M1) (m_cw ad ca ky ty rt Ni Np No Nx Nf Na Nh Nq Nj M0 M1) (some (.int r)) := by
  refine o_Cn_of (by decide) (Nat.le_of_ble_eq_true rfl) ?_
  intro p e s m below meth c A ls C hD hP hS hl
  have hDD : ∀ (rt : Nat) (Ni : SNI) (Np : SNP) (No : SNO) (Nx : SNX) (Nf : SNF) (Na : SNA) (Nh : SNH) (Nq : SNQ) (Nj : SNJ) (M0 : SMT) (M1 : SMT), va_D A (m_cw ad ca ky ty rt Ni Np No Nx Nf Na Nh Nq Nj M0 M1) := fun _ _ _ _ _ _ _ _ _ _ _ _ => o_D_map hD rfl
  have hl : lv_has ls 5 [(0, .ref (ad 0)), (1, .int x1), (2, .int x2)] := hl
  unfold m_MM_has_1 at h
  have C0 := C
  obtain ⟨hx, hb, -, -, -, hown, hts, hK, -, -⟩ := C0
  refine lv_iconst (v := (0:Int32)) hx hb d_MM_has_1_0 (by decide) ?_
  refine lv_istore_n (lv' := [(3, .int (0:Int32)), (0, .ref (ad 0)), (1, .int x1), (2, .int x2)]) hx hb d_MM_has_1_1 rfl hl (by decide) rfl (fun ls hl => ?_)
  refine lv_aload_n hx hb d_MM_has_1_2 rfl (lv_at hl 1 rfl) ?_
  refine o_get (v := .ref (ad 9)) C in_MM hP 0 mw_0 rfl 13 (by decide) k_8_3 rfl rfl d_MM_has_1_3 ?_
  refine lv_iload_n hx hb d_MM_has_1_6 rfl (lv_at hl 2 rfl) ?_
  obtain ⟨g1, h⟩ := o_gd_some h
  refine o_iald (f := (NP_setFrom Np)) C hP 9 8 mw_9 rfl g1 d_MM_has_1_7 ?_
  refine lv_topi (fun x4_8 ex4_8 => ?_)
  replace h := o_nm_at ex4_8 h
  refine lv_istore (lv' := [(4, .int x4_8), (3, .int (0:Int32)), (0, .ref (ad 0)), (1, .int x1), (2, .int x2)]) hx hb d_MM_has_1_8 hl (by decide) rfl (fun ls hl => ?_)
  obtain ⟨q1, hq1, h⟩ := o_bd_some h
  refine o_sim2 (AH := fun zz => o_At p l e rm_MM_has_1 s m _ below meth c _ m_cls D A 5 10 [] (m_cw ad ca ky ty rt Ni Np No Nx Nf Na Nh Nq Nj M0 M1) [(0, .ref (ad 0)), (1, .int x1), (2, .int x2), (3, .int zz.1), (4, .int zz.2)]) (AX := fun qq => o_At p l e rm_MM_has_1 s m _ below meth c _ m_cls D A 5 59 [] (m_cw ad ca ky ty rt Ni Np No Nx Nf Na Nh Nq Nj M0 M1) [(0, .ref (ad 0)), (1, .int x1), (3, .int qq.2.1)]) (fun zz qq h h0 h1 => f_MM_has_1_b10 hE hKy C hDD n x1 x2 Np Ni No Nx Nf Na Nh Nq Nj M0 M1 rt zz qq h h0 h1) n _ q1 hq1 ?_ _ _ _ hP hS (lv_sub hl [2, 3, 4, 1, 0] rfl)
  intro H locs ls hP hS hl
  exact f_MM_has_1_j59 hE hKy C hDD n x1 q1.2.1 Np Ni No Nx Nf Na Nh Nq Nj M0 M1 rt h _ _ _ hP hS (lv_sub hl [0, 1, 2] rfl)
