set_option maxHeartbeats 4000000 in
set_option maxRecDepth 100000 in
theorem f_MM_turn_b12 {E : (Nat → Prop) → State → Heap → Prop} {p : Program} {l : Launch} {e : Env} {s : State} {m : MethodId} {args : Array Value} {below : List Frame} {meth : Method} {c : Code} {D : va_G} {ad kd sd vd xd : Nat → Nat} {ca : Nat → ClassId} {A : Nat → Prop} {ky ty : Nat → Option Nat} {Q : State → Prop} (hE : o_EK E kd sd vd xd) (hKy : m_KY ky ty sd) (C : o_Cx E p s m args meth c D m_cls (m_tys ca) "SchemaJudgeModel" b_MM_turn none 2 cc_MM_turn A) (hDD : ∀ (rt : Nat) (Ni : SNI) (Np : SNP) (No : SNO) (Nx : SNX) (Nf : SNF) (Na : SNA) (Nh : SNH) (Nq : SNQ) (Nj : SNJ) (M0 : SMT) (M1 : SMT), va_D A (m_cw ad ca ky ty rt Ni Np No Nx Nf Na Nh Nq Nj M0 M1)) (n : Nat) (u12_Ni : SNI) (u12_Np : SNP) (u12_No : SNO) (u12_Nf : SNF) (u12_Na : SNA) (u12_Nh : SNH) (u12_Nq : SNQ) (u12_Nj : SNJ) (u12_M0 : SMT) (u12_M1 : SMT) (u12_rt : Nat) (z : Int32 × SNX) (q : Nat × Int32 × SNX) (h : m_MM_turn_b12 n z = some q) (h0 : q.1 = 0 → o_At p l e rm_MM_turn s m args below meth c Q m_cls D A 2 12 [] (m_cw ad ca ky ty u12_rt u12_Ni u12_Np u12_No q.2.2 u12_Nf u12_Na u12_Nh u12_Nq u12_Nj u12_M0 u12_M1) [(0, .ref (ad 0)), (1, .int q.2.1)]) (h1 : q.1 ≠ 0 → (o_At p l e rm_MM_turn s m args below meth c Q m_cls D A 2 32 [] (m_cw ad ca ky ty u12_rt u12_Ni u12_Np u12_No q.2.2 u12_Nf u12_Na u12_Nh u12_Nq u12_Nj u12_M0 u12_M1) [(0, .ref (ad 0))])) : o_At p l e rm_MM_turn s m args below meth c Q m_cls D A 2 12 [] (m_cw ad ca ky ty u12_rt u12_Ni u12_Np u12_No z.2 u12_Nf u12_Na u12_Nh u12_Nq u12_Nj u12_M0 u12_M1) [(0, .ref (ad 0)), (1, .int z.1)] := by
  unfold m_MM_turn_b12 at h
  intro H locs ls hP hS hl
  have C0 := C
  obtain ⟨hx, hb, -, -, -, hown, hts, hK, -, -⟩ := C0
  refine lv_iload_n hx hb d_MM_turn_12 rfl (lv_at hl 1 rfl) ?_
  refine lv_sipush (v := (25000:Int32)) hx hb d_MM_turn_13 (by decide) ?_
  refine lv_icmp_ge (tgt := 32) hx hb d_MM_turn_16 (by decide) (fun c2 => ?_) (fun c2 => ?_)
  · replace h := o_tt c2 h
    cases h
    exact h1 (Nat.succ_ne_zero 0) _ _ _ hP hS (lv_sub hl [0] rfl)
  · replace h := o_ff c2 h
    refine lv_aload_n hx hb d_MM_turn_19 rfl (lv_at hl 0 rfl) ?_
    refine o_get (v := .ref (ad 15)) C in_MM hP 0 mw_0 rfl 19 (by decide) k_8_9 rfl rfl d_MM_turn_20 ?_
    refine lv_iload_n hx hb d_MM_turn_23 rfl (lv_at hl 1 rfl) ?_
    refine lv_iconst (v := (0:Int32)) hx hb d_MM_turn_24 (by decide) ?_
    obtain ⟨g3, h⟩ := o_gd_some h
    refine o_iast (f := (NX_mark z.2)) (w1 := (m_cw ad ca ky ty u12_rt u12_Ni u12_Np u12_No (NX_mk (upd (NX_mark z.2) z.1.toNatClampNeg (0:Int32)) (NX_now z.2) (NX_then z.2) (NX_todo z.2) (NX_round z.2) (NX_many1 z.2)) u12_Nf u12_Na u12_Nh u12_Nq u12_Nj u12_M0 u12_M1)) C hP (hDD _ _ _ _ _ _ _ _ _ _ _ _) hS 15 14 mw_15 rfl g3 rfl d_MM_turn_25 (fun H locs hP hS => ?_)
    obtain ⟨x1_26, ex1_26⟩ : ∃ y : Int32, y = z.1 + (1:Int32) := ⟨_, rfl⟩
    replace h := o_nm_at ex1_26 h
    refine lv_iinc (v := x1_26) (lv' := [(1, .int x1_26), (0, .ref (ad 0))]) hx hb d_MM_turn_26 hl (k := 1) rfl (by rw [ex1_26]; rfl) (by decide) rfl (fun ls hl => ?_)
    refine lv_goto (tgt := 12) hx hb d_MM_turn_29 (by decide) ?_
    cases h
    exact h0 rfl _ _ _ hP hS (lv_sub hl [1, 0] rfl)
set_option maxHeartbeats 4000000 in
set_option maxRecDepth 100000 in
theorem e_MM_turn {E : (Nat → Prop) → State → Heap → Prop} {D : va_G} {ad kd sd vd xd : Nat → Nat} {ca : Nat → ClassId} {ky ty : Nat → Option Nat} (hE : o_EK E kd sd vd xd) (hKy : m_KY ky ty sd) (l : Launch) (n : Nat)  (Nx : SNX) (Ni : SNI) (Np : SNP) (No : SNO) (Nf : SNF) (Na : SNA) (Nh : SNH) (Nq : SNQ) (Nj : SNJ) (M0 : SMT) (M1 : SMT) (rt : Nat) {r : SNX} (h : m_MM_turn n Nx = some r) : o_Cn E l D m_cls (m_tys ca) y_MM_turn cc_MM_turn rm_MM_turn [.ref (ad 0)] (m_cw ad ca ky ty rt Ni Np No Nx Nf Na Nh Nq Nj M0 M1) (m_cw ad ca ky ty rt Ni Np No r Nf Na Nh Nq Nj M0 M1) none := by
  refine o_Cn_of (by decide) (Nat.le_of_ble_eq_true rfl) ?_
  intro p e s m below meth c A ls C hD hP hS hl
  have hDD : ∀ (rt : Nat) (Ni : SNI) (Np : SNP) (No : SNO) (Nx : SNX) (Nf : SNF) (Na : SNA) (Nh : SNH) (Nq : SNQ) (Nj : SNJ) (M0 : SMT) (M1 : SMT), va_D A (m_cw ad ca ky ty rt Ni Np No Nx Nf Na Nh Nq Nj M0 M1) := fun _ _ _ _ _ _ _ _ _ _ _ _ => o_D_map hD rfl
  have hl : lv_has ls 2 [(0, .ref (ad 0))] := hl
  unfold m_MM_turn at h
  have C0 := C
  obtain ⟨hx, hb, -, -, -, hown, hts, hK, -, -⟩ := C0
  refine lv_aload_n hx hb d_MM_turn_0 rfl (lv_at hl 0 rfl) ?_
  refine o_get (v := .int (NX_round Nx)) C in_MM hP 0 mw_0 rfl 29 (by decide) k_8_19 rfl rfl d_MM_turn_1 ?_
  refine lv_ldcw (v := (2147483647:Int32)) hx hb hown (hts _ k_10_42) d_MM_turn_4 ?_
  refine lv_icmp_ne (tgt := 37) hx hb d_MM_turn_7 (by decide) (fun c1 => ?_) (fun c1 => ?_)
  · replace h := o_ff c1 h
    refine lv_aload_n hx hb d_MM_turn_37 rfl (lv_at hl 0 rfl) ?_
    refine lv_dup hx hb d_MM_turn_38 rfl ?_
    refine o_get (v := .int (NX_round Nx)) C in_MM hP 0 mw_0 rfl 29 (by decide) k_8_19 rfl rfl d_MM_turn_39 ?_
    refine lv_iconst (v := (1:Int32)) hx hb d_MM_turn_42 (by decide) ?_
    refine lv_iadd hx hb d_MM_turn_43 ?_
    refine o_put (v := .int ((NX_round Nx) + (1:Int32))) (ty := .int) (w1 := (m_cw ad ca ky ty rt Ni Np No (NX_mk (NX_mark Nx) (NX_now Nx) (NX_then Nx) (NX_todo Nx) ((NX_round Nx) + (1:Int32)) (NX_many1 Nx)) Nf Na Nh Nq Nj M0 M1)) C in_MM t_MM t_MM_ok n_MM hP (hDD _ _ _ _ _ _ _ _ _ _ _ _) hS 0 mw_0 rfl 29 (by decide) k_8_19 rfl rfl (by decide +kernel) rfl rfl (Nat.le_of_ble_eq_true rfl) rfl d_MM_turn_44 (fun H locs hP hS => ?_)
    cases h
    exact o_rv C hP hS d_MM_turn_47
  · replace h := o_tt c1 h
    refine lv_iconst (v := (0:Int32)) hx hb d_MM_turn_10 (by decide) ?_
    refine lv_istore_n (lv' := [(1, .int (0:Int32)), (0, .ref (ad 0))]) hx hb d_MM_turn_11 rfl hl (by decide) rfl (fun ls hl => ?_)
    obtain ⟨q1, hq1, h⟩ := o_bd_some h
    refine o_sim2 (AH := fun zz => o_At p l e rm_MM_turn s m _ below meth c _ m_cls D A 2 12 [] (m_cw ad ca ky ty rt Ni Np No zz.2 Nf Na Nh Nq Nj M0 M1) [(0, .ref (ad 0)), (1, .int zz.1)]) (AX := fun qq => o_At p l e rm_MM_turn s m _ below meth c _ m_cls D A 2 32 [] (m_cw ad ca ky ty rt Ni Np No qq.2.2 Nf Na Nh Nq Nj M0 M1) [(0, .ref (ad 0))]) (fun zz qq h h0 h1 => f_MM_turn_b12 hE hKy C hDD n Ni Np No Nf Na Nh Nq Nj M0 M1 rt zz qq h h0 h1) n _ q1 hq1 ?_ _ _ _ hP hS (lv_sub hl [1, 0] rfl)
    intro H locs ls hP hS hl
    refine lv_aload_n hx hb d_MM_turn_32 rfl (lv_at hl 0 rfl) ?_
    refine lv_iconst (v := (0:Int32)) hx hb d_MM_turn_33 (by decide) ?_
    refine o_put (v := .int (0:Int32)) (ty := .int) (w1 := (m_cw ad ca ky ty rt Ni Np No (NX_mk (NX_mark q1.2.2) (NX_now q1.2.2) (NX_then q1.2.2) (NX_todo q1.2.2) (0:Int32) (NX_many1 q1.2.2)) Nf Na Nh Nq Nj M0 M1)) C in_MM t_MM t_MM_ok n_MM hP (hDD _ _ _ _ _ _ _ _ _ _ _ _) hS 0 mw_0 rfl 29 (by decide) k_8_19 rfl rfl (by decide +kernel) rfl rfl (Nat.le_of_ble_eq_true rfl) rfl d_MM_turn_34 (fun H locs hP hS => ?_)
    refine lv_aload_n hx hb d_MM_turn_37 rfl (lv_at hl 0 rfl) ?_
    refine lv_dup hx hb d_MM_turn_38 rfl ?_
    refine o_get (v := .int (0:Int32)) C in_MM hP 0 mw_0 rfl 29 (by decide) k_8_19 rfl rfl d_MM_turn_39 ?_
    refine lv_iconst (v := (1:Int32)) hx hb d_MM_turn_42 (by decide) ?_
    refine lv_iadd hx hb d_MM_turn_43 ?_
    refine o_put (v := .int ((0:Int32) + (1:Int32))) (ty := .int) (w1 := (m_cw ad ca ky ty rt Ni Np No (NX_mk (NX_mark q1.2.2) (NX_now q1.2.2) (NX_then q1.2.2) (NX_todo q1.2.2) ((0:Int32) + (1:Int32)) (NX_many1 q1.2.2)) Nf Na Nh Nq Nj M0 M1)) C in_MM t_MM t_MM_ok n_MM hP (hDD _ _ _ _ _ _ _ _ _ _ _ _) hS 0 mw_0 rfl 29 (by decide) k_8_19 rfl rfl (by decide +kernel) rfl rfl (Nat.le_of_ble_eq_true rfl) rfl d_MM_turn_44 (fun H locs hP hS => ?_)
    cases h
    exact o_rv C hP hS d_MM_turn_47
set_option maxHeartbeats 4000000 in
set_option maxRecDepth 100000 in
theorem f_MM_thread_now_b14 {E : (Nat → Prop) → State → Heap → Prop} {p : Program} {l : Launch} {e : Env} {s : State} {m : MethodId} {args : Array Value} {below : List Frame} {meth : Method} {c : Code} {D : va_G} {ad kd sd vd xd : Nat → Nat} {ca : Nat → ClassId} {A : Nat → Prop} {ky ty : Nat → Option Nat} {Q : State → Prop} (hE : o_EK E kd sd vd xd) (hKy : m_KY ky ty sd) (C : o_Cx E p s m args meth c D m_cls (m_tys ca) "SchemaJudgeModel" b_MM_thread (some .boolean) 7 cc_MM_thread A) (hDD : ∀ (rt : Nat) (Ni : SNI) (Np : SNP) (No : SNO) (Nx : SNX) (Nf : SNF) (Na : SNA) (Nh : SNH) (Nq : SNQ) (Nj : SNJ) (M0 : SMT) (M1 : SMT), va_D A (m_cw ad ca ky ty rt Ni Np No Nx Nf Na Nh Nq Nj M0 M1)) (n : Nat) (u14_x3 : Int32) (u14_x4 : Int32) (u14_No : SNO) (u14_Ni : SNI) (u14_Np : SNP) (u14_Nf : SNF) (u14_Na : SNA) (u14_Nh : SNH) (u14_Nq : SNQ) (u14_Nj : SNJ) (u14_M0 : SMT) (u14_M1 : SMT) (u14_rt : Nat) (z : Int32 × SNX) (q : Nat × Int32 × SNX) (h : m_MM_thread_now_b14 n u14_x3 u14_x4 u14_No z = some q) (h0 : q.1 = 0 → o_At p l e rm_MM_thread s m args below meth c Q m_cls D A 7 14 [] (m_cw ad ca ky ty u14_rt u14_Ni u14_Np u14_No q.2.2 u14_Nf u14_Na u14_Nh u14_Nq u14_Nj u14_M0 u14_M1) [(0, .ref (ad 0)), (1, .ref (ad 16)), (3, .int u14_x3), (4, .int u14_x4), (5, .int q.2.1)]) (h1 : q.1 ≠ 0 → (if q.1 = 1 then o_At p l e rm_MM_thread s m args below meth c Q m_cls D A 7 71 [] (m_cw ad ca ky ty u14_rt u14_Ni u14_Np u14_No q.2.2 u14_Nf u14_Na u14_Nh u14_Nq u14_Nj u14_M0 u14_M1) [] else o_At p l e rm_MM_thread s m args below meth c Q m_cls D A 7 235 [] (m_cw ad ca ky ty u14_rt u14_Ni u14_Np u14_No q.2.2 u14_Nf u14_Na u14_Nh u14_Nq u14_Nj u14_M0 u14_M1) [])) : o_At p l e rm_MM_thread s m args below meth c Q m_cls D A 7 14 [] (m_cw ad ca ky ty u14_rt u14_Ni u14_Np u14_No z.2 u14_Nf u14_Na u14_Nh u14_Nq u14_Nj u14_M0 u14_M1) [(0, .ref (ad 0)), (1, .ref (ad 16)), (3, .int u14_x3), (4, .int u14_x4), (5, .int z.1)] := by
  unfold m_MM_thread_now_b14 at h
  intro H locs ls hP hS hl
  have C0 := C
  obtain ⟨hx, hb, -, -, -, hown, hts, hK, -, -⟩ := C0
  refine lv_iload hx hb d_MM_thread_14 (lv_at hl 4 rfl) ?_
  refine lv_if_le (tgt := 235) hx hb d_MM_thread_16 (by decide) (fun c2 => ?_) (fun c2 => ?_)
  · replace h := o_tt c2 h
    cases h
    exact h1 (Nat.succ_ne_zero 1) _ _ _ hP hS (lv_sub hl [] rfl)
  · replace h := o_ff c2 h
    refine lv_aload_n hx hb d_MM_thread_19 rfl (lv_at hl 0 rfl) ?_
    refine o_get (v := .ref (ad 18)) C in_MM hP 0 mw_0 rfl 22 (by decide) k_8_12 rfl rfl d_MM_thread_20 ?_
    obtain ⟨x5_23, ex5_23⟩ : ∃ y : Int32, y = z.1 + (-1:Int32) := ⟨_, rfl⟩
    replace h := o_nm_at ex5_23 h
    refine lv_iinc (v := x5_23) (lv' := [(5, .int x5_23), (0, .ref (ad 0)), (1, .ref (ad 16)), (3, .int u14_x3), (4, .int u14_x4)]) hx hb d_MM_thread_23 hl (k := 4) rfl (by rw [ex5_23]; rfl) (by decide) rfl (fun ls hl => ?_)
    refine lv_iload hx hb d_MM_thread_26 (lv_at hl 0 rfl) ?_
    obtain ⟨g3, h⟩ := o_gd_some h
    refine o_iald (f := (NX_todo z.2)) C hP 18 17 mw_18 rfl g3 d_MM_thread_28 ?_
    refine lv_topi (fun x6_29 ex6_29 => ?_)
    replace h := o_nm_at ex6_29 h
    refine lv_istore (lv' := [(6, .int x6_29), (5, .int x5_23), (0, .ref (ad 0)), (1, .ref (ad 16)), (3, .int u14_x3), (4, .int u14_x4)]) hx hb d_MM_thread_29 hl (by decide) rfl (fun ls hl => ?_)
    refine lv_aload_n hx hb d_MM_thread_31 rfl (lv_at hl 2 rfl) ?_
    refine o_get (v := .ref (ad 15)) C in_MM hP 0 mw_0 rfl 19 (by decide) k_8_9 rfl rfl d_MM_thread_32 ?_
    refine lv_iload hx hb d_MM_thread_35 (lv_at hl 0 rfl) ?_
    obtain ⟨g4, h⟩ := o_gd_some h
    refine o_iald (f := (NX_mark z.2)) C hP 15 14 mw_15 rfl g4 d_MM_thread_37 ?_
    refine lv_aload_n hx hb d_MM_thread_38 rfl (lv_at hl 2 rfl) ?_
    refine o_get (v := .int (NX_round z.2)) C in_MM hP 0 mw_0 rfl 29 (by decide) k_8_19 rfl rfl d_MM_thread_39 ?_
    refine lv_icmp_ne (tgt := 48) hx hb d_MM_thread_42 (by decide) (fun c5 => ?_) (fun c5 => ?_)
    · replace h := o_ff c5 h
      refine lv_aload_n hx hb d_MM_thread_48 rfl (lv_at hl 2 rfl) ?_
      refine o_get (v := .ref (ad 15)) C in_MM hP 0 mw_0 rfl 19 (by decide) k_8_9 rfl rfl d_MM_thread_49 ?_
      refine lv_iload hx hb d_MM_thread_52 (lv_at hl 0 rfl) ?_
      refine lv_aload_n hx hb d_MM_thread_54 rfl (lv_at hl 2 rfl) ?_
      refine o_get (v := .int (NX_round z.2)) C in_MM hP 0 mw_0 rfl 29 (by decide) k_8_19 rfl rfl d_MM_thread_55 ?_
      obtain ⟨g6, h⟩ := o_gd_some h
      refine o_iast (f := (NX_mark z.2)) (w1 := (m_cw ad ca ky ty u14_rt u14_Ni u14_Np u14_No (NX_mk (upd (NX_mark z.2) x6_29.toNatClampNeg (NX_round z.2)) (NX_now z.2) (NX_then z.2) (NX_todo z.2) (NX_round z.2) (NX_many1 z.2)) u14_Nf u14_Na u14_Nh u14_Nq u14_Nj u14_M0 u14_M1)) C hP (hDD _ _ _ _ _ _ _ _ _ _ _ _) hS 15 14 mw_15 rfl g6 rfl d_MM_thread_58 (fun H locs hP hS => ?_)
      refine lv_aload_n hx hb d_MM_thread_59 rfl (lv_at hl 2 rfl) ?_
      refine o_get (v := .ref (ad 12)) C in_MM hP 0 mw_0 rfl 16 (by decide) k_8_6 rfl rfl d_MM_thread_60 ?_
      refine lv_iload hx hb d_MM_thread_63 (lv_at hl 0 rfl) ?_
      obtain ⟨g7, h⟩ := o_gd_some h
      refine o_iald (f := (NO_op u14_No)) C hP 12 11 mw_12 rfl g7 d_MM_thread_65 ?_
      refine lv_bipush (v := (9:Int32)) hx hb d_MM_thread_66 (by decide) ?_
      refine lv_icmp_ne (tgt := 73) hx hb d_MM_thread_68 (by decide) (fun c8 => ?_) (fun c8 => ?_)
      · replace h := o_ff c8 h
        refine lv_aload_n hx hb d_MM_thread_73 rfl (lv_at hl 2 rfl) ?_
        refine o_get (v := .ref (ad 12)) C in_MM hP 0 mw_0 rfl 16 (by decide) k_8_6 rfl rfl d_MM_thread_74 ?_
        refine lv_iload hx hb d_MM_thread_77 (lv_at hl 0 rfl) ?_
        obtain ⟨g9, h⟩ := o_gd_some h
        refine o_iald (f := (NO_op u14_No)) C hP 12 11 mw_12 rfl g9 d_MM_thread_79 ?_
        refine lv_iconst (v := (1:Int32)) hx hb d_MM_thread_80 (by decide) ?_
        refine lv_icmp_ne (tgt := 102) hx hb d_MM_thread_81 (by decide) (fun c10 => ?_) (fun c10 => ?_)
        · replace h := o_ff c10 h
          refine lv_aload_n hx hb d_MM_thread_102 rfl (lv_at hl 2 rfl) ?_
          refine o_get (v := .ref (ad 12)) C in_MM hP 0 mw_0 rfl 16 (by decide) k_8_6 rfl rfl d_MM_thread_103 ?_
          refine lv_iload hx hb d_MM_thread_106 (lv_at hl 0 rfl) ?_
          obtain ⟨g11, h⟩ := o_gd_some h
          refine o_iald (f := (NO_op u14_No)) C hP 12 11 mw_12 rfl g11 d_MM_thread_108 ?_
          refine lv_iconst (v := (2:Int32)) hx hb d_MM_thread_109 (by decide) ?_
          refine lv_icmp_ne (tgt := 134) hx hb d_MM_thread_110 (by decide) (fun c12 => ?_) (fun c12 => ?_)
          · replace h := o_ff c12 h
            refine lv_aload_n hx hb d_MM_thread_134 rfl (lv_at hl 2 rfl) ?_
            refine o_get (v := .ref (ad 12)) C in_MM hP 0 mw_0 rfl 16 (by decide) k_8_6 rfl rfl d_MM_thread_135 ?_
            refine lv_iload hx hb d_MM_thread_138 (lv_at hl 0 rfl) ?_
            obtain ⟨g13, h⟩ := o_gd_some h
            refine o_iald (f := (NO_op u14_No)) C hP 12 11 mw_12 rfl g13 d_MM_thread_140 ?_
            refine lv_iconst (v := (3:Int32)) hx hb d_MM_thread_141 (by decide) ?_
            refine lv_icmp_ne (tgt := 167) hx hb d_MM_thread_142 (by decide) (fun c14 => ?_) (fun c14 => ?_)
            · replace h := o_ff c14 h
              refine lv_aload_n hx hb d_MM_thread_167 rfl (lv_at hl 2 rfl) ?_
              refine o_get (v := .ref (ad 12)) C in_MM hP 0 mw_0 rfl 16 (by decide) k_8_6 rfl rfl d_MM_thread_168 ?_
              refine lv_iload hx hb d_MM_thread_171 (lv_at hl 0 rfl) ?_
              obtain ⟨g15, h⟩ := o_gd_some h
              refine o_iald (f := (NO_op u14_No)) C hP 12 11 mw_12 rfl g15 d_MM_thread_173 ?_
              refine lv_iconst (v := (5:Int32)) hx hb d_MM_thread_174 (by decide) ?_
              refine lv_icmp_ne (tgt := 198) hx hb d_MM_thread_175 (by decide) (fun c16 => ?_) (fun c16 => ?_)
              · replace h := o_ff c16 h
                refine lv_aload_n hx hb d_MM_thread_198 rfl (lv_at hl 2 rfl) ?_
                refine o_get (v := .ref (ad 18)) C in_MM hP 0 mw_0 rfl 22 (by decide) k_8_12 rfl rfl d_MM_thread_199 ?_
                refine lv_iload hx hb d_MM_thread_202 (lv_at hl 1 rfl) ?_
                obtain ⟨x5_204, ex5_204⟩ : ∃ y : Int32, y = x5_23 + (1:Int32) := ⟨_, rfl⟩
                replace h := o_nm_at ex5_204 h
                refine lv_iinc (v := x5_204) (lv' := [(5, .int x5_204), (6, .int x6_29), (0, .ref (ad 0)), (1, .ref (ad 16)), (3, .int u14_x3), (4, .int u14_x4)]) hx hb d_MM_thread_204 hl (k := 1) rfl (by rw [ex5_204]; rfl) (by decide) rfl (fun ls hl => ?_)
                refine lv_aload_n hx hb d_MM_thread_207 rfl (lv_at hl 2 rfl) ?_
                refine o_get (v := .ref (ad 13)) C in_MM hP 0 mw_0 rfl 17 (by decide) k_8_7 rfl rfl d_MM_thread_208 ?_
                refine lv_iload hx hb d_MM_thread_211 (lv_at hl 1 rfl) ?_
                obtain ⟨g17, h⟩ := o_gd_some h
                refine o_iald (f := (NO_opA u14_No)) C hP 13 12 mw_13 rfl g17 d_MM_thread_213 ?_
                obtain ⟨g18, h⟩ := o_gd_some h
                refine o_iast (f := (NX_todo z.2)) (w1 := (m_cw ad ca ky ty u14_rt u14_Ni u14_Np u14_No (NX_mk (upd (NX_mark z.2) x6_29.toNatClampNeg (NX_round z.2)) (NX_now z.2) (NX_then z.2) (upd (NX_todo z.2) x5_23.toNatClampNeg ((NO_opA u14_No) x6_29.toNatClampNeg)) (NX_round z.2) (NX_many1 z.2)) u14_Nf u14_Na u14_Nh u14_Nq u14_Nj u14_M0 u14_M1)) C hP (hDD _ _ _ _ _ _ _ _ _ _ _ _) hS 18 17 mw_18 rfl g18 rfl d_MM_thread_214 (fun H locs hP hS => ?_)
                refine lv_aload_n hx hb d_MM_thread_215 rfl (lv_at hl 2 rfl) ?_
                refine o_get (v := .ref (ad 18)) C in_MM hP 0 mw_0 rfl 22 (by decide) k_8_12 rfl rfl d_MM_thread_216 ?_
                refine lv_iload hx hb d_MM_thread_219 (lv_at hl 0 rfl) ?_
                obtain ⟨x5_221, ex5_221⟩ : ∃ y : Int32, y = x5_204 + (1:Int32) := ⟨_, rfl⟩
                replace h := o_nm_at ex5_221 h
                refine lv_iinc (v := x5_221) (lv' := [(5, .int x5_221), (6, .int x6_29), (0, .ref (ad 0)), (1, .ref (ad 16)), (3, .int u14_x3), (4, .int u14_x4)]) hx hb d_MM_thread_221 hl (k := 0) rfl (by rw [ex5_221]; rfl) (by decide) rfl (fun ls hl => ?_)
                refine lv_aload_n hx hb d_MM_thread_224 rfl (lv_at hl 2 rfl) ?_
                refine o_get (v := .ref (ad 14)) C in_MM hP 0 mw_0 rfl 18 (by decide) k_8_8 rfl rfl d_MM_thread_225 ?_
                refine lv_iload hx hb d_MM_thread_228 (lv_at hl 1 rfl) ?_
                obtain ⟨g19, h⟩ := o_gd_some h
                refine o_iald (f := (NO_opB u14_No)) C hP 14 13 mw_14 rfl g19 d_MM_thread_230 ?_
                obtain ⟨g20, h⟩ := o_gd_some h
                refine o_iast (f := (upd (NX_todo z.2) x5_23.toNatClampNeg ((NO_opA u14_No) x6_29.toNatClampNeg))) (w1 := (m_cw ad ca ky ty u14_rt u14_Ni u14_Np u14_No (NX_mk (upd (NX_mark z.2) x6_29.toNatClampNeg (NX_round z.2)) (NX_now z.2) (NX_then z.2) (upd (upd (NX_todo z.2) x5_23.toNatClampNeg ((NO_opA u14_No) x6_29.toNatClampNeg)) x5_204.toNatClampNeg ((NO_opB u14_No) x6_29.toNatClampNeg)) (NX_round z.2) (NX_many1 z.2)) u14_Nf u14_Na u14_Nh u14_Nq u14_Nj u14_M0 u14_M1)) C hP (hDD _ _ _ _ _ _ _ _ _ _ _ _) hS 18 17 mw_18 rfl g20 rfl d_MM_thread_231 (fun H locs hP hS => ?_)
                refine lv_goto (tgt := 14) hx hb d_MM_thread_232 (by decide) ?_
                cases h
                exact h0 rfl _ _ _ hP hS (lv_sub hl [2, 3, 4, 5, 0] rfl)
              · replace h := o_tt c16 h
                refine lv_aload_n hx hb d_MM_thread_178 rfl (lv_at hl 2 rfl) ?_
                refine o_get (v := .ref (ad 18)) C in_MM hP 0 mw_0 rfl 22 (by decide) k_8_12 rfl rfl d_MM_thread_179 ?_
                refine lv_iload hx hb d_MM_thread_182 (lv_at hl 1 rfl) ?_
                obtain ⟨x5_184, ex5_184⟩ : ∃ y : Int32, y = x5_23 + (1:Int32) := ⟨_, rfl⟩
                replace h := o_nm_at ex5_184 h
                refine lv_iinc (v := x5_184) (lv' := [(5, .int x5_184), (6, .int x6_29), (0, .ref (ad 0)), (1, .ref (ad 16)), (3, .int u14_x3), (4, .int u14_x4)]) hx hb d_MM_thread_184 hl (k := 1) rfl (by rw [ex5_184]; rfl) (by decide) rfl (fun ls hl => ?_)
                refine lv_aload_n hx hb d_MM_thread_187 rfl (lv_at hl 2 rfl) ?_
                refine o_get (v := .ref (ad 13)) C in_MM hP 0 mw_0 rfl 17 (by decide) k_8_7 rfl rfl d_MM_thread_188 ?_
                refine lv_iload hx hb d_MM_thread_191 (lv_at hl 1 rfl) ?_
                obtain ⟨g21, h⟩ := o_gd_some h
                refine o_iald (f := (NO_opA u14_No)) C hP 13 12 mw_13 rfl g21 d_MM_thread_193 ?_
                obtain ⟨g22, h⟩ := o_gd_some h
                refine o_iast (f := (NX_todo z.2)) (w1 := (m_cw ad ca ky ty u14_rt u14_Ni u14_Np u14_No (NX_mk (upd (NX_mark z.2) x6_29.toNatClampNeg (NX_round z.2)) (NX_now z.2) (NX_then z.2) (upd (NX_todo z.2) x5_23.toNatClampNeg ((NO_opA u14_No) x6_29.toNatClampNeg)) (NX_round z.2) (NX_many1 z.2)) u14_Nf u14_Na u14_Nh u14_Nq u14_Nj u14_M0 u14_M1)) C hP (hDD _ _ _ _ _ _ _ _ _ _ _ _) hS 18 17 mw_18 rfl g22 rfl d_MM_thread_194 (fun H locs hP hS => ?_)
                refine lv_goto (tgt := 232) hx hb d_MM_thread_195 (by decide) ?_
                refine lv_goto (tgt := 14) hx hb d_MM_thread_232 (by decide) ?_
                cases h
                exact h0 rfl _ _ _ hP hS (lv_sub hl [2, 3, 4, 5, 0] rfl)
            · replace h := o_tt c14 h
              refine lv_iload hx hb d_MM_thread_145 (lv_at hl 5 rfl) ?_
              refine lv_if_eq (tgt := 232) hx hb d_MM_thread_147 (by decide) (fun c23 => ?_) (fun c23 => ?_)
              · replace h := o_tt c23 h
                refine lv_goto (tgt := 14) hx hb d_MM_thread_232 (by decide) ?_
                cases h
                exact h0 rfl _ _ _ hP hS (lv_sub hl [2, 3, 4, 5, 1] rfl)
              · replace h := o_ff c23 h
                refine lv_aload_n hx hb d_MM_thread_150 rfl (lv_at hl 2 rfl) ?_
                refine o_get (v := .ref (ad 18)) C in_MM hP 0 mw_0 rfl 22 (by decide) k_8_12 rfl rfl d_MM_thread_151 ?_
                refine lv_iload hx hb d_MM_thread_154 (lv_at hl 1 rfl) ?_
                obtain ⟨x5_156, ex5_156⟩ : ∃ y : Int32, y = x5_23 + (1:Int32) := ⟨_, rfl⟩
                replace h := o_nm_at ex5_156 h
                refine lv_iinc (v := x5_156) (lv' := [(5, .int x5_156), (6, .int x6_29), (0, .ref (ad 0)), (1, .ref (ad 16)), (3, .int u14_x3), (4, .int u14_x4)]) hx hb d_MM_thread_156 hl (k := 1) rfl (by rw [ex5_156]; rfl) (by decide) rfl (fun ls hl => ?_)
                refine lv_iload hx hb d_MM_thread_159 (lv_at hl 1 rfl) ?_
                refine lv_iconst (v := (1:Int32)) hx hb d_MM_thread_161 (by decide) ?_
                refine lv_iadd hx hb d_MM_thread_162 ?_
                obtain ⟨g24, h⟩ := o_gd_some h
                refine o_iast (f := (NX_todo z.2)) (w1 := (m_cw ad ca ky ty u14_rt u14_Ni u14_Np u14_No (NX_mk (upd (NX_mark z.2) x6_29.toNatClampNeg (NX_round z.2)) (NX_now z.2) (NX_then z.2) (upd (NX_todo z.2) x5_23.toNatClampNeg (x6_29 + (1:Int32))) (NX_round z.2) (NX_many1 z.2)) u14_Nf u14_Na u14_Nh u14_Nq u14_Nj u14_M0 u14_M1)) C hP (hDD _ _ _ _ _ _ _ _ _ _ _ _) hS 18 17 mw_18 rfl g24 rfl d_MM_thread_163 (fun H locs hP hS => ?_)
                refine lv_goto (tgt := 232) hx hb d_MM_thread_164 (by decide) ?_
                refine lv_goto (tgt := 14) hx hb d_MM_thread_232 (by decide) ?_
                cases h
                exact h0 rfl _ _ _ hP hS (lv_sub hl [2, 3, 4, 5, 0] rfl)
          · replace h := o_tt c12 h
            refine lv_iload_n hx hb d_MM_thread_113 rfl (lv_at hl 4 rfl) ?_
            refine lv_if_eq (tgt := 232) hx hb d_MM_thread_114 (by decide) (fun c25 => ?_) (fun c25 => ?_)
            · replace h := o_tt c25 h
              refine lv_goto (tgt := 14) hx hb d_MM_thread_232 (by decide) ?_
              cases h
              exact h0 rfl _ _ _ hP hS (lv_sub hl [2, 3, 4, 5, 1] rfl)
            · replace h := o_ff c25 h
              refine lv_aload_n hx hb d_MM_thread_117 rfl (lv_at hl 2 rfl) ?_
              refine o_get (v := .ref (ad 18)) C in_MM hP 0 mw_0 rfl 22 (by decide) k_8_12 rfl rfl d_MM_thread_118 ?_
              refine lv_iload hx hb d_MM_thread_121 (lv_at hl 1 rfl) ?_
              obtain ⟨x5_123, ex5_123⟩ : ∃ y : Int32, y = x5_23 + (1:Int32) := ⟨_, rfl⟩
              replace h := o_nm_at ex5_123 h
              refine lv_iinc (v := x5_123) (lv' := [(5, .int x5_123), (6, .int x6_29), (0, .ref (ad 0)), (1, .ref (ad 16)), (3, .int u14_x3), (4, .int u14_x4)]) hx hb d_MM_thread_123 hl (k := 1) rfl (by rw [ex5_123]; rfl) (by decide) rfl (fun ls hl => ?_)
              refine lv_iload hx hb d_MM_thread_126 (lv_at hl 1 rfl) ?_
              refine lv_iconst (v := (1:Int32)) hx hb d_MM_thread_128 (by decide) ?_
              refine lv_iadd hx hb d_MM_thread_129 ?_
              obtain ⟨g26, h⟩ := o_gd_some h
              refine o_iast (f := (NX_todo z.2)) (w1 := (m_cw ad ca ky ty u14_rt u14_Ni u14_Np u14_No (NX_mk (upd (NX_mark z.2) x6_29.toNatClampNeg (NX_round z.2)) (NX_now z.2) (NX_then z.2) (upd (NX_todo z.2) x5_23.toNatClampNeg (x6_29 + (1:Int32))) (NX_round z.2) (NX_many1 z.2)) u14_Nf u14_Na u14_Nh u14_Nq u14_Nj u14_M0 u14_M1)) C hP (hDD _ _ _ _ _ _ _ _ _ _ _ _) hS 18 17 mw_18 rfl g26 rfl d_MM_thread_130 (fun H locs hP hS => ?_)
              refine lv_goto (tgt := 232) hx hb d_MM_thread_131 (by decide) ?_
              refine lv_goto (tgt := 14) hx hb d_MM_thread_232 (by decide) ?_
              cases h
              exact h0 rfl _ _ _ hP hS (lv_sub hl [2, 3, 4, 5, 0] rfl)
        · replace h := o_tt c10 h
          refine lv_aload_n hx hb d_MM_thread_84 rfl (lv_at hl 3 rfl) ?_
          refine lv_aload_n hx hb d_MM_thread_85 rfl (lv_at hl 2 rfl) ?_
          refine lv_dup hx hb d_MM_thread_86 rfl ?_
          refine o_get (v := .int (NX_many1 z.2)) C in_MM hP 0 mw_0 rfl 30 (by decide) k_8_20 rfl rfl d_MM_thread_87 ?_
          refine lv_dup_x1 hx hb d_MM_thread_90 rfl rfl ?_
          refine lv_iconst (v := (1:Int32)) hx hb d_MM_thread_91 (by decide) ?_
          refine lv_iadd hx hb d_MM_thread_92 ?_
          refine o_put (v := .int ((NX_many1 z.2) + (1:Int32))) (ty := .int) (w1 := (m_cw ad ca ky ty u14_rt u14_Ni u14_Np u14_No (NX_mk (upd (NX_mark z.2) x6_29.toNatClampNeg (NX_round z.2)) (NX_now z.2) (NX_then z.2) (NX_todo z.2) (NX_round z.2) ((NX_many1 z.2) + (1:Int32))) u14_Nf u14_Na u14_Nh u14_Nq u14_Nj u14_M0 u14_M1)) C in_MM t_MM t_MM_ok n_MM hP (hDD _ _ _ _ _ _ _ _ _ _ _ _) hS 0 mw_0 rfl 30 (by decide) k_8_20 rfl rfl (by decide +kernel) rfl rfl (Nat.le_of_ble_eq_true rfl) rfl d_MM_thread_93 (fun H locs hP hS => ?_)
          refine lv_iload hx hb d_MM_thread_96 (lv_at hl 0 rfl) ?_
          obtain ⟨g27, h⟩ := o_gd_some h
          refine o_iast (f := (NX_now z.2)) (w1 := (m_cw ad ca ky ty u14_rt u14_Ni u14_Np u14_No (NX_mk (upd (NX_mark z.2) x6_29.toNatClampNeg (NX_round z.2)) (upd (NX_now z.2) (NX_many1 z.2).toNatClampNeg x6_29) (NX_then z.2) (NX_todo z.2) (NX_round z.2) ((NX_many1 z.2) + (1:Int32))) u14_Nf u14_Na u14_Nh u14_Nq u14_Nj u14_M0 u14_M1)) C hP (hDD _ _ _ _ _ _ _ _ _ _ _ _) hS 16 15 mw_16 rfl g27 rfl d_MM_thread_98 (fun H locs hP hS => ?_)
          refine lv_goto (tgt := 232) hx hb d_MM_thread_99 (by decide) ?_
          refine lv_goto (tgt := 14) hx hb d_MM_thread_232 (by decide) ?_
          cases h
          exact h0 rfl _ _ _ hP hS (lv_sub hl [2, 3, 4, 5, 1] rfl)
      · replace h := o_tt c8 h
        cases h
        exact h1 (Nat.succ_ne_zero 0) _ _ _ hP hS (lv_sub hl [] rfl)
    · replace h := o_tt c5 h
      refine lv_goto (tgt := 14) hx hb d_MM_thread_45 (by decide) ?_
      cases h
      exact h0 rfl _ _ _ hP hS (lv_sub hl [2, 3, 4, 5, 1] rfl)
set_option maxHeartbeats 4000000 in
set_option maxRecDepth 100000 in
theorem e_MM_thread_now {E : (Nat → Prop) → State → Heap → Prop} {D : va_G} {ad kd sd vd xd : Nat → Nat} {ca : Nat → ClassId} {ky ty : Nat → Option Nat} (hE : o_EK E kd sd vd xd) (hKy : m_KY ky ty sd) (l : Launch) (n : Nat) (x2 : Int32) (x3 : Int32) (x4 : Int32) (No : SNO) (Nx : SNX) (Ni : SNI) (Np : SNP) (Nf : SNF) (Na : SNA) (Nh : SNH) (Nq : SNQ) (Nj : SNJ) (M0 : SMT) (M1 : SMT) (rt : Nat) {r : Int32 × SNX} (h : m_MM_thread_now n x2 x3 x4 No Nx = some r) : o_Cn E l D m_cls (m_tys ca) y_MM_thread cc_MM_thread rm_MM_thread [.ref (ad 0), .ref (ad 16), .int x2, .int x3, .int x4] (m_cw ad ca ky ty rt Ni Np No Nx Nf Na Nh Nq Nj M0 M1) (m_cw ad ca ky ty rt Ni Np No r.2 Nf Na Nh Nq Nj M0 M1) (some (.int r.1)) := by
  refine o_Cn_of (by decide) (Nat.le_of_ble_eq_true rfl) ?_
  intro p e s m below meth c A ls C hD hP hS hl
  have hDD : ∀ (rt : Nat) (Ni : SNI) (Np : SNP) (No : SNO) (Nx : SNX) (Nf : SNF) (Na : SNA) (Nh : SNH) (Nq : SNQ) (Nj : SNJ) (M0 : SMT) (M1 : SMT), va_D A (m_cw ad ca ky ty rt Ni Np No Nx Nf Na Nh Nq Nj M0 M1) := fun _ _ _ _ _ _ _ _ _ _ _ _ => o_D_map hD rfl
  have hl : lv_has ls 7 [(0, .ref (ad 0)), (1, .ref (ad 16)), (2, .int x2), (3, .int x3), (4, .int x4)] := hl
  unfold m_MM_thread_now at h
  have C0 := C
  obtain ⟨hx, hb, -, -, -, hown, hts, hK, -, -⟩ := C0
  refine lv_iconst (v := (0:Int32)) hx hb d_MM_thread_0 (by decide) ?_
  refine lv_istore (lv' := [(5, .int (0:Int32)), (0, .ref (ad 0)), (1, .ref (ad 16)), (2, .int x2), (3, .int x3), (4, .int x4)]) hx hb d_MM_thread_1 hl (by decide) rfl (fun ls hl => ?_)
  refine lv_aload_n hx hb d_MM_thread_3 rfl (lv_at hl 1 rfl) ?_
  refine o_get (v := .ref (ad 18)) C in_MM hP 0 mw_0 rfl 22 (by decide) k_8_12 rfl rfl d_MM_thread_4 ?_
  refine lv_iload hx hb d_MM_thread_7 (lv_at hl 0 rfl) ?_
  obtain ⟨x5_9, ex5_9⟩ : ∃ y : Int32, y = (0:Int32) + (1:Int32) := ⟨_, rfl⟩
  replace h := o_nm_at ex5_9 h
  refine lv_iinc (v := x5_9) (lv' := [(5, .int x5_9), (0, .ref (ad 0)), (1, .ref (ad 16)), (2, .int x2), (3, .int x3), (4, .int x4)]) hx hb d_MM_thread_9 hl (k := 0) rfl (by rw [ex5_9]; rfl) (by decide) rfl (fun ls hl => ?_)
  refine lv_iload_n hx hb d_MM_thread_12 rfl (lv_at hl 3 rfl) ?_
  obtain ⟨g1, h⟩ := o_gd_some h
  refine o_iast (f := (NX_todo Nx)) (w1 := (m_cw ad ca ky ty rt Ni Np No (NX_mk (NX_mark Nx) (NX_now Nx) (NX_then Nx) (upd (NX_todo Nx) (0:Int32).toNatClampNeg x2) (NX_round Nx) (NX_many1 Nx)) Nf Na Nh Nq Nj M0 M1)) C hP (hDD _ _ _ _ _ _ _ _ _ _ _ _) hS 18 17 mw_18 rfl g1 rfl d_MM_thread_13 (fun H locs hP hS => ?_)
  obtain ⟨q1, hq1, h⟩ := o_bd_some h
  refine o_sim2 (AH := fun zz => o_At p l e rm_MM_thread s m _ below meth c _ m_cls D A 7 14 [] (m_cw ad ca ky ty rt Ni Np No zz.2 Nf Na Nh Nq Nj M0 M1) [(0, .ref (ad 0)), (1, .ref (ad 16)), (3, .int x3), (4, .int x4), (5, .int zz.1)]) (AX := fun qq => if qq.1 = 1 then o_At p l e rm_MM_thread s m _ below meth c _ m_cls D A 7 71 [] (m_cw ad ca ky ty rt Ni Np No qq.2.2 Nf Na Nh Nq Nj M0 M1) [] else o_At p l e rm_MM_thread s m _ below meth c _ m_cls D A 7 235 [] (m_cw ad ca ky ty rt Ni Np No qq.2.2 Nf Na Nh Nq Nj M0 M1) []) (fun zz qq h h0 h1 => f_MM_thread_now_b14 hE hKy C hDD n x3 x4 No Ni Np Nf Na Nh Nq Nj M0 M1 rt zz qq h h0 h1) n _ q1 hq1 ?_ _ _ _ hP hS (lv_sub hl [1, 2, 4, 5, 0] rfl)
  by_cases c28 : q1.1 = 1
  · replace h := o_tt c28 h
    refine o_ip c28 ?_
    intro H locs ls hP hS hl
    refine lv_iconst (v := (1:Int32)) hx hb d_MM_thread_71 (by decide) ?_
    cases h
    exact o_rz (v := (1:Int32)) C o_nar1 hP hS d_MM_thread_72
  replace h := o_ff c28 h
  refine o_in_ c28 ?_
  intro H locs ls hP hS hl
  refine lv_iconst (v := (0:Int32)) hx hb d_MM_thread_235 (by decide) ?_
  cases h
  exact o_rz (v := (0:Int32)) C o_nar0 hP hS d_MM_thread_236
set_option maxHeartbeats 4000000 in
set_option maxRecDepth 100000 in
theorem f_MM_thread_then_b14 {E : (Nat → Prop) → State → Heap → Prop} {p : Program} {l : Launch} {e : Env} {s : State} {m : MethodId} {args : Array Value} {below : List Frame} {meth : Method} {c : Code} {D : va_G} {ad kd sd vd xd : Nat → Nat} {ca : Nat → ClassId} {A : Nat → Prop} {ky ty : Nat → Option Nat} {Q : State → Prop} (hE : o_EK E kd sd vd xd) (hKy : m_KY ky ty sd) (C : o_Cx E p s m args meth c D m_cls (m_tys ca) "SchemaJudgeModel" b_MM_thread (some .boolean) 7 cc_MM_thread A) (hDD : ∀ (rt : Nat) (Ni : SNI) (Np : SNP) (No : SNO) (Nx : SNX) (Nf : SNF) (Na : SNA) (Nh : SNH) (Nq : SNQ) (Nj : SNJ) (M0 : SMT) (M1 : SMT), va_D A (m_cw ad ca ky ty rt Ni Np No Nx Nf Na Nh Nq Nj M0 M1)) (n : Nat) (u14_x3 : Int32) (u14_x4 : Int32) (u14_No : SNO) (u14_Ni : SNI) (u14_Np : SNP) (u14_Nf : SNF) (u14_Na : SNA) (u14_Nh : SNH) (u14_Nq : SNQ) (u14_Nj : SNJ) (u14_M0 : SMT) (u14_M1 : SMT) (u14_rt : Nat) (z : Int32 × SNX) (q : Nat × Int32 × SNX) (h : m_MM_thread_then_b14 n u14_x3 u14_x4 u14_No z = some q) (h0 : q.1 = 0 → o_At p l e rm_MM_thread s m args below meth c Q m_cls D A 7 14 [] (m_cw ad ca ky ty u14_rt u14_Ni u14_Np u14_No q.2.2 u14_Nf u14_Na u14_Nh u14_Nq u14_Nj u14_M0 u14_M1) [(0, .ref (ad 0)), (1, .ref (ad 17)), (3, .int u14_x3), (4, .int u14_x4), (5, .int q.2.1)]) (h1 : q.1 ≠ 0 → (if q.1 = 1 then o_At p l e rm_MM_thread s m args below meth c Q m_cls D A 7 71 [] (m_cw ad ca ky ty u14_rt u14_Ni u14_Np u14_No q.2.2 u14_Nf u14_Na u14_Nh u14_Nq u14_Nj u14_M0 u14_M1) [] else o_At p l e rm_MM_thread s m args below meth c Q m_cls D A 7 235 [] (m_cw ad ca ky ty u14_rt u14_Ni u14_Np u14_No q.2.2 u14_Nf u14_Na u14_Nh u14_Nq u14_Nj u14_M0 u14_M1) [])) : o_At p l e rm_MM_thread s m args below meth c Q m_cls D A 7 14 [] (m_cw ad ca ky ty u14_rt u14_Ni u14_Np u14_No z.2 u14_Nf u14_Na u14_Nh u14_Nq u14_Nj u14_M0 u14_M1) [(0, .ref (ad 0)), (1, .ref (ad 17)), (3, .int u14_x3), (4, .int u14_x4), (5, .int z.1)] := by
  unfold m_MM_thread_then_b14 at h
  intro H locs ls hP hS hl
  have C0 := C
  obtain ⟨hx, hb, -, -, -, hown, hts, hK, -, -⟩ := C0
  refine lv_iload hx hb d_MM_thread_14 (lv_at hl 4 rfl) ?_
  refine lv_if_le (tgt := 235) hx hb d_MM_thread_16 (by decide) (fun c2 => ?_) (fun c2 => ?_)
  · replace h := o_tt c2 h
    cases h
    exact h1 (Nat.succ_ne_zero 1) _ _ _ hP hS (lv_sub hl [] rfl)
  · replace h := o_ff c2 h
    refine lv_aload_n hx hb d_MM_thread_19 rfl (lv_at hl 0 rfl) ?_
    refine o_get (v := .ref (ad 18)) C in_MM hP 0 mw_0 rfl 22 (by decide) k_8_12 rfl rfl d_MM_thread_20 ?_
    obtain ⟨x5_23, ex5_23⟩ : ∃ y : Int32, y = z.1 + (-1:Int32) := ⟨_, rfl⟩
    replace h := o_nm_at ex5_23 h
    refine lv_iinc (v := x5_23) (lv' := [(5, .int x5_23), (0, .ref (ad 0)), (1, .ref (ad 17)), (3, .int u14_x3), (4, .int u14_x4)]) hx hb d_MM_thread_23 hl (k := 4) rfl (by rw [ex5_23]; rfl) (by decide) rfl (fun ls hl => ?_)
    refine lv_iload hx hb d_MM_thread_26 (lv_at hl 0 rfl) ?_
    obtain ⟨g3, h⟩ := o_gd_some h
    refine o_iald (f := (NX_todo z.2)) C hP 18 17 mw_18 rfl g3 d_MM_thread_28 ?_
    refine lv_topi (fun x6_29 ex6_29 => ?_)
    replace h := o_nm_at ex6_29 h
    refine lv_istore (lv' := [(6, .int x6_29), (5, .int x5_23), (0, .ref (ad 0)), (1, .ref (ad 17)), (3, .int u14_x3), (4, .int u14_x4)]) hx hb d_MM_thread_29 hl (by decide) rfl (fun ls hl => ?_)
    refine lv_aload_n hx hb d_MM_thread_31 rfl (lv_at hl 2 rfl) ?_
    refine o_get (v := .ref (ad 15)) C in_MM hP 0 mw_0 rfl 19 (by decide) k_8_9 rfl rfl d_MM_thread_32 ?_
    refine lv_iload hx hb d_MM_thread_35 (lv_at hl 0 rfl) ?_
    obtain ⟨g4, h⟩ := o_gd_some h
    refine o_iald (f := (NX_mark z.2)) C hP 15 14 mw_15 rfl g4 d_MM_thread_37 ?_
    refine lv_aload_n hx hb d_MM_thread_38 rfl (lv_at hl 2 rfl) ?_
    refine o_get (v := .int (NX_round z.2)) C in_MM hP 0 mw_0 rfl 29 (by decide) k_8_19 rfl rfl d_MM_thread_39 ?_
    refine lv_icmp_ne (tgt := 48) hx hb d_MM_thread_42 (by decide) (fun c5 => ?_) (fun c5 => ?_)
    · replace h := o_ff c5 h
      refine lv_aload_n hx hb d_MM_thread_48 rfl (lv_at hl 2 rfl) ?_
      refine o_get (v := .ref (ad 15)) C in_MM hP 0 mw_0 rfl 19 (by decide) k_8_9 rfl rfl d_MM_thread_49 ?_
      refine lv_iload hx hb d_MM_thread_52 (lv_at hl 0 rfl) ?_
      refine lv_aload_n hx hb d_MM_thread_54 rfl (lv_at hl 2 rfl) ?_
      refine o_get (v := .int (NX_round z.2)) C in_MM hP 0 mw_0 rfl 29 (by decide) k_8_19 rfl rfl d_MM_thread_55 ?_
      obtain ⟨g6, h⟩ := o_gd_some h
      refine o_iast (f := (NX_mark z.2)) (w1 := (m_cw ad ca ky ty u14_rt u14_Ni u14_Np u14_No (NX_mk (upd (NX_mark z.2) x6_29.toNatClampNeg (NX_round z.2)) (NX_now z.2) (NX_then z.2) (NX_todo z.2) (NX_round z.2) (NX_many1 z.2)) u14_Nf u14_Na u14_Nh u14_Nq u14_Nj u14_M0 u14_M1)) C hP (hDD _ _ _ _ _ _ _ _ _ _ _ _) hS 15 14 mw_15 rfl g6 rfl d_MM_thread_58 (fun H locs hP hS => ?_)
      refine lv_aload_n hx hb d_MM_thread_59 rfl (lv_at hl 2 rfl) ?_
      refine o_get (v := .ref (ad 12)) C in_MM hP 0 mw_0 rfl 16 (by decide) k_8_6 rfl rfl d_MM_thread_60 ?_
      refine lv_iload hx hb d_MM_thread_63 (lv_at hl 0 rfl) ?_
      obtain ⟨g7, h⟩ := o_gd_some h
      refine o_iald (f := (NO_op u14_No)) C hP 12 11 mw_12 rfl g7 d_MM_thread_65 ?_
      refine lv_bipush (v := (9:Int32)) hx hb d_MM_thread_66 (by decide) ?_
      refine lv_icmp_ne (tgt := 73) hx hb d_MM_thread_68 (by decide) (fun c8 => ?_) (fun c8 => ?_)
      · replace h := o_ff c8 h
        refine lv_aload_n hx hb d_MM_thread_73 rfl (lv_at hl 2 rfl) ?_
        refine o_get (v := .ref (ad 12)) C in_MM hP 0 mw_0 rfl 16 (by decide) k_8_6 rfl rfl d_MM_thread_74 ?_
        refine lv_iload hx hb d_MM_thread_77 (lv_at hl 0 rfl) ?_
        obtain ⟨g9, h⟩ := o_gd_some h
        refine o_iald (f := (NO_op u14_No)) C hP 12 11 mw_12 rfl g9 d_MM_thread_79 ?_
        refine lv_iconst (v := (1:Int32)) hx hb d_MM_thread_80 (by decide) ?_
        refine lv_icmp_ne (tgt := 102) hx hb d_MM_thread_81 (by decide) (fun c10 => ?_) (fun c10 => ?_)
        · replace h := o_ff c10 h
          refine lv_aload_n hx hb d_MM_thread_102 rfl (lv_at hl 2 rfl) ?_
          refine o_get (v := .ref (ad 12)) C in_MM hP 0 mw_0 rfl 16 (by decide) k_8_6 rfl rfl d_MM_thread_103 ?_
          refine lv_iload hx hb d_MM_thread_106 (lv_at hl 0 rfl) ?_
          obtain ⟨g11, h⟩ := o_gd_some h
          refine o_iald (f := (NO_op u14_No)) C hP 12 11 mw_12 rfl g11 d_MM_thread_108 ?_
          refine lv_iconst (v := (2:Int32)) hx hb d_MM_thread_109 (by decide) ?_
          refine lv_icmp_ne (tgt := 134) hx hb d_MM_thread_110 (by decide) (fun c12 => ?_) (fun c12 => ?_)
          · replace h := o_ff c12 h
            refine lv_aload_n hx hb d_MM_thread_134 rfl (lv_at hl 2 rfl) ?_
            refine o_get (v := .ref (ad 12)) C in_MM hP 0 mw_0 rfl 16 (by decide) k_8_6 rfl rfl d_MM_thread_135 ?_
            refine lv_iload hx hb d_MM_thread_138 (lv_at hl 0 rfl) ?_
            obtain ⟨g13, h⟩ := o_gd_some h
            refine o_iald (f := (NO_op u14_No)) C hP 12 11 mw_12 rfl g13 d_MM_thread_140 ?_
            refine lv_iconst (v := (3:Int32)) hx hb d_MM_thread_141 (by decide) ?_
            refine lv_icmp_ne (tgt := 167) hx hb d_MM_thread_142 (by decide) (fun c14 => ?_) (fun c14 => ?_)
            · replace h := o_ff c14 h
              refine lv_aload_n hx hb d_MM_thread_167 rfl (lv_at hl 2 rfl) ?_
              refine o_get (v := .ref (ad 12)) C in_MM hP 0 mw_0 rfl 16 (by decide) k_8_6 rfl rfl d_MM_thread_168 ?_
              refine lv_iload hx hb d_MM_thread_171 (lv_at hl 0 rfl) ?_
              obtain ⟨g15, h⟩ := o_gd_some h
              refine o_iald (f := (NO_op u14_No)) C hP 12 11 mw_12 rfl g15 d_MM_thread_173 ?_
              refine lv_iconst (v := (5:Int32)) hx hb d_MM_thread_174 (by decide) ?_
              refine lv_icmp_ne (tgt := 198) hx hb d_MM_thread_175 (by decide) (fun c16 => ?_) (fun c16 => ?_)
              · replace h := o_ff c16 h
                refine lv_aload_n hx hb d_MM_thread_198 rfl (lv_at hl 2 rfl) ?_
                refine o_get (v := .ref (ad 18)) C in_MM hP 0 mw_0 rfl 22 (by decide) k_8_12 rfl rfl d_MM_thread_199 ?_
                refine lv_iload hx hb d_MM_thread_202 (lv_at hl 1 rfl) ?_
                obtain ⟨x5_204, ex5_204⟩ : ∃ y : Int32, y = x5_23 + (1:Int32) := ⟨_, rfl⟩
                replace h := o_nm_at ex5_204 h
                refine lv_iinc (v := x5_204) (lv' := [(5, .int x5_204), (6, .int x6_29), (0, .ref (ad 0)), (1, .ref (ad 17)), (3, .int u14_x3), (4, .int u14_x4)]) hx hb d_MM_thread_204 hl (k := 1) rfl (by rw [ex5_204]; rfl) (by decide) rfl (fun ls hl => ?_)
                refine lv_aload_n hx hb d_MM_thread_207 rfl (lv_at hl 2 rfl) ?_
                refine o_get (v := .ref (ad 13)) C in_MM hP 0 mw_0 rfl 17 (by decide) k_8_7 rfl rfl d_MM_thread_208 ?_
                refine lv_iload hx hb d_MM_thread_211 (lv_at hl 1 rfl) ?_
                obtain ⟨g17, h⟩ := o_gd_some h
                refine o_iald (f := (NO_opA u14_No)) C hP 13 12 mw_13 rfl g17 d_MM_thread_213 ?_
                obtain ⟨g18, h⟩ := o_gd_some h
                refine o_iast (f := (NX_todo z.2)) (w1 := (m_cw ad ca ky ty u14_rt u14_Ni u14_Np u14_No (NX_mk (upd (NX_mark z.2) x6_29.toNatClampNeg (NX_round z.2)) (NX_now z.2) (NX_then z.2) (upd (NX_todo z.2) x5_23.toNatClampNeg ((NO_opA u14_No) x6_29.toNatClampNeg)) (NX_round z.2) (NX_many1 z.2)) u14_Nf u14_Na u14_Nh u14_Nq u14_Nj u14_M0 u14_M1)) C hP (hDD _ _ _ _ _ _ _ _ _ _ _ _) hS 18 17 mw_18 rfl g18 rfl d_MM_thread_214 (fun H locs hP hS => ?_)
                refine lv_aload_n hx hb d_MM_thread_215 rfl (lv_at hl 2 rfl) ?_
                refine o_get (v := .ref (ad 18)) C in_MM hP 0 mw_0 rfl 22 (by decide) k_8_12 rfl rfl d_MM_thread_216 ?_
                refine lv_iload hx hb d_MM_thread_219 (lv_at hl 0 rfl) ?_
                obtain ⟨x5_221, ex5_221⟩ : ∃ y : Int32, y = x5_204 + (1:Int32) := ⟨_, rfl⟩
                replace h := o_nm_at ex5_221 h
                refine lv_iinc (v := x5_221) (lv' := [(5, .int x5_221), (6, .int x6_29), (0, .ref (ad 0)), (1, .ref (ad 17)), (3, .int u14_x3), (4, .int u14_x4)]) hx hb d_MM_thread_221 hl (k := 0) rfl (by rw [ex5_221]; rfl) (by decide) rfl (fun ls hl => ?_)
                refine lv_aload_n hx hb d_MM_thread_224 rfl (lv_at hl 2 rfl) ?_
                refine o_get (v := .ref (ad 14)) C in_MM hP 0 mw_0 rfl 18 (by decide) k_8_8 rfl rfl d_MM_thread_225 ?_
                refine lv_iload hx hb d_MM_thread_228 (lv_at hl 1 rfl) ?_
                obtain ⟨g19, h⟩ := o_gd_some h
                refine o_iald (f := (NO_opB u14_No)) C hP 14 13 mw_14 rfl g19 d_MM_thread_230 ?_
                obtain ⟨g20, h⟩ := o_gd_some h
                refine o_iast (f := (upd (NX_todo z.2) x5_23.toNatClampNeg ((NO_opA u14_No) x6_29.toNatClampNeg))) (w1 := (m_cw ad ca ky ty u14_rt u14_Ni u14_Np u14_No (NX_mk (upd (NX_mark z.2) x6_29.toNatClampNeg (NX_round z.2)) (NX_now z.2) (NX_then z.2) (upd (upd (NX_todo z.2) x5_23.toNatClampNeg ((NO_opA u14_No) x6_29.toNatClampNeg)) x5_204.toNatClampNeg ((NO_opB u14_No) x6_29.toNatClampNeg)) (NX_round z.2) (NX_many1 z.2)) u14_Nf u14_Na u14_Nh u14_Nq u14_Nj u14_M0 u14_M1)) C hP (hDD _ _ _ _ _ _ _ _ _ _ _ _) hS 18 17 mw_18 rfl g20 rfl d_MM_thread_231 (fun H locs hP hS => ?_)
                refine lv_goto (tgt := 14) hx hb d_MM_thread_232 (by decide) ?_
                cases h
                exact h0 rfl _ _ _ hP hS (lv_sub hl [2, 3, 4, 5, 0] rfl)
              · replace h := o_tt c16 h
                refine lv_aload_n hx hb d_MM_thread_178 rfl (lv_at hl 2 rfl) ?_
                refine o_get (v := .ref (ad 18)) C in_MM hP 0 mw_0 rfl 22 (by decide) k_8_12 rfl rfl d_MM_thread_179 ?_
                refine lv_iload hx hb d_MM_thread_182 (lv_at hl 1 rfl) ?_
                obtain ⟨x5_184, ex5_184⟩ : ∃ y : Int32, y = x5_23 + (1:Int32) := ⟨_, rfl⟩
                replace h := o_nm_at ex5_184 h
                refine lv_iinc (v := x5_184) (lv' := [(5, .int x5_184), (6, .int x6_29), (0, .ref (ad 0)), (1, .ref (ad 17)), (3, .int u14_x3), (4, .int u14_x4)]) hx hb d_MM_thread_184 hl (k := 1) rfl (by rw [ex5_184]; rfl) (by decide) rfl (fun ls hl => ?_)
                refine lv_aload_n hx hb d_MM_thread_187 rfl (lv_at hl 2 rfl) ?_
                refine o_get (v := .ref (ad 13)) C in_MM hP 0 mw_0 rfl 17 (by decide) k_8_7 rfl rfl d_MM_thread_188 ?_
                refine lv_iload hx hb d_MM_thread_191 (lv_at hl 1 rfl) ?_
                obtain ⟨g21, h⟩ := o_gd_some h
                refine o_iald (f := (NO_opA u14_No)) C hP 13 12 mw_13 rfl g21 d_MM_thread_193 ?_
                obtain ⟨g22, h⟩ := o_gd_some h
                refine o_iast (f := (NX_todo z.2)) (w1 := (m_cw ad ca ky ty u14_rt u14_Ni u14_Np u14_No (NX_mk (upd (NX_mark z.2) x6_29.toNatClampNeg (NX_round z.2)) (NX_now z.2) (NX_then z.2) (upd (NX_todo z.2) x5_23.toNatClampNeg ((NO_opA u14_No) x6_29.toNatClampNeg)) (NX_round z.2) (NX_many1 z.2)) u14_Nf u14_Na u14_Nh u14_Nq u14_Nj u14_M0 u14_M1)) C hP (hDD _ _ _ _ _ _ _ _ _ _ _ _) hS 18 17 mw_18 rfl g22 rfl d_MM_thread_194 (fun H locs hP hS => ?_)
                refine lv_goto (tgt := 232) hx hb d_MM_thread_195 (by decide) ?_
                refine lv_goto (tgt := 14) hx hb d_MM_thread_232 (by decide) ?_
                cases h
                exact h0 rfl _ _ _ hP hS (lv_sub hl [2, 3, 4, 5, 0] rfl)
            · replace h := o_tt c14 h
              refine lv_iload hx hb d_MM_thread_145 (lv_at hl 5 rfl) ?_
              refine lv_if_eq (tgt := 232) hx hb d_MM_thread_147 (by decide) (fun c23 => ?_) (fun c23 => ?_)
              · replace h := o_tt c23 h
                refine lv_goto (tgt := 14) hx hb d_MM_thread_232 (by decide) ?_
                cases h
                exact h0 rfl _ _ _ hP hS (lv_sub hl [2, 3, 4, 5, 1] rfl)
              · replace h := o_ff c23 h
                refine lv_aload_n hx hb d_MM_thread_150 rfl (lv_at hl 2 rfl) ?_
                refine o_get (v := .ref (ad 18)) C in_MM hP 0 mw_0 rfl 22 (by decide) k_8_12 rfl rfl d_MM_thread_151 ?_
                refine lv_iload hx hb d_MM_thread_154 (lv_at hl 1 rfl) ?_
                obtain ⟨x5_156, ex5_156⟩ : ∃ y : Int32, y = x5_23 + (1:Int32) := ⟨_, rfl⟩
                replace h := o_nm_at ex5_156 h
                refine lv_iinc (v := x5_156) (lv' := [(5, .int x5_156), (6, .int x6_29), (0, .ref (ad 0)), (1, .ref (ad 17)), (3, .int u14_x3), (4, .int u14_x4)]) hx hb d_MM_thread_156 hl (k := 1) rfl (by rw [ex5_156]; rfl) (by decide) rfl (fun ls hl => ?_)
                refine lv_iload hx hb d_MM_thread_159 (lv_at hl 1 rfl) ?_
                refine lv_iconst (v := (1:Int32)) hx hb d_MM_thread_161 (by decide) ?_
                refine lv_iadd hx hb d_MM_thread_162 ?_
                obtain ⟨g24, h⟩ := o_gd_some h
                refine o_iast (f := (NX_todo z.2)) (w1 := (m_cw ad ca ky ty u14_rt u14_Ni u14_Np u14_No (NX_mk (upd (NX_mark z.2) x6_29.toNatClampNeg (NX_round z.2)) (NX_now z.2) (NX_then z.2) (upd (NX_todo z.2) x5_23.toNatClampNeg (x6_29 + (1:Int32))) (NX_round z.2) (NX_many1 z.2)) u14_Nf u14_Na u14_Nh u14_Nq u14_Nj u14_M0 u14_M1)) C hP (hDD _ _ _ _ _ _ _ _ _ _ _ _) hS 18 17 mw_18 rfl g24 rfl d_MM_thread_163 (fun H locs hP hS => ?_)
                refine lv_goto (tgt := 232) hx hb d_MM_thread_164 (by decide) ?_
                refine lv_goto (tgt := 14) hx hb d_MM_thread_232 (by decide) ?_
                cases h
                exact h0 rfl _ _ _ hP hS (lv_sub hl [2, 3, 4, 5, 0] rfl)
          · replace h := o_tt c12 h
            refine lv_iload_n hx hb d_MM_thread_113 rfl (lv_at hl 4 rfl) ?_
            refine lv_if_eq (tgt := 232) hx hb d_MM_thread_114 (by decide) (fun c25 => ?_) (fun c25 => ?_)
            · replace h := o_tt c25 h
              refine lv_goto (tgt := 14) hx hb d_MM_thread_232 (by decide) ?_
              cases h
              exact h0 rfl _ _ _ hP hS (lv_sub hl [2, 3, 4, 5, 1] rfl)
            · replace h := o_ff c25 h
              refine lv_aload_n hx hb d_MM_thread_117 rfl (lv_at hl 2 rfl) ?_
              refine o_get (v := .ref (ad 18)) C in_MM hP 0 mw_0 rfl 22 (by decide) k_8_12 rfl rfl d_MM_thread_118 ?_
              refine lv_iload hx hb d_MM_thread_121 (lv_at hl 1 rfl) ?_
              obtain ⟨x5_123, ex5_123⟩ : ∃ y : Int32, y = x5_23 + (1:Int32) := ⟨_, rfl⟩
              replace h := o_nm_at ex5_123 h
              refine lv_iinc (v := x5_123) (lv' := [(5, .int x5_123), (6, .int x6_29), (0, .ref (ad 0)), (1, .ref (ad 17)), (3, .int u14_x3), (4, .int u14_x4)]) hx hb d_MM_thread_123 hl (k := 1) rfl (by rw [ex5_123]; rfl) (by decide) rfl (fun ls hl => ?_)
              refine lv_iload hx hb d_MM_thread_126 (lv_at hl 1 rfl) ?_
              refine lv_iconst (v := (1:Int32)) hx hb d_MM_thread_128 (by decide) ?_
              refine lv_iadd hx hb d_MM_thread_129 ?_
              obtain ⟨g26, h⟩ := o_gd_some h
              refine o_iast (f := (NX_todo z.2)) (w1 := (m_cw ad ca ky ty u14_rt u14_Ni u14_Np u14_No (NX_mk (upd (NX_mark z.2) x6_29.toNatClampNeg (NX_round z.2)) (NX_now z.2) (NX_then z.2) (upd (NX_todo z.2) x5_23.toNatClampNeg (x6_29 + (1:Int32))) (NX_round z.2) (NX_many1 z.2)) u14_Nf u14_Na u14_Nh u14_Nq u14_Nj u14_M0 u14_M1)) C hP (hDD _ _ _ _ _ _ _ _ _ _ _ _) hS 18 17 mw_18 rfl g26 rfl d_MM_thread_130 (fun H locs hP hS => ?_)
              refine lv_goto (tgt := 232) hx hb d_MM_thread_131 (by decide) ?_
              refine lv_goto (tgt := 14) hx hb d_MM_thread_232 (by decide) ?_
              cases h
              exact h0 rfl _ _ _ hP hS (lv_sub hl [2, 3, 4, 5, 0] rfl)
        · replace h := o_tt c10 h
          refine lv_aload_n hx hb d_MM_thread_84 rfl (lv_at hl 3 rfl) ?_
          refine lv_aload_n hx hb d_MM_thread_85 rfl (lv_at hl 2 rfl) ?_
          refine lv_dup hx hb d_MM_thread_86 rfl ?_
          refine o_get (v := .int (NX_many1 z.2)) C in_MM hP 0 mw_0 rfl 30 (by decide) k_8_20 rfl rfl d_MM_thread_87 ?_
          refine lv_dup_x1 hx hb d_MM_thread_90 rfl rfl ?_
          refine lv_iconst (v := (1:Int32)) hx hb d_MM_thread_91 (by decide) ?_
          refine lv_iadd hx hb d_MM_thread_92 ?_
          refine o_put (v := .int ((NX_many1 z.2) + (1:Int32))) (ty := .int) (w1 := (m_cw ad ca ky ty u14_rt u14_Ni u14_Np u14_No (NX_mk (upd (NX_mark z.2) x6_29.toNatClampNeg (NX_round z.2)) (NX_now z.2) (NX_then z.2) (NX_todo z.2) (NX_round z.2) ((NX_many1 z.2) + (1:Int32))) u14_Nf u14_Na u14_Nh u14_Nq u14_Nj u14_M0 u14_M1)) C in_MM t_MM t_MM_ok n_MM hP (hDD _ _ _ _ _ _ _ _ _ _ _ _) hS 0 mw_0 rfl 30 (by decide) k_8_20 rfl rfl (by decide +kernel) rfl rfl (Nat.le_of_ble_eq_true rfl) rfl d_MM_thread_93 (fun H locs hP hS => ?_)
          refine lv_iload hx hb d_MM_thread_96 (lv_at hl 0 rfl) ?_
          obtain ⟨g27, h⟩ := o_gd_some h
          refine o_iast (f := (NX_then z.2)) (w1 := (m_cw ad ca ky ty u14_rt u14_Ni u14_Np u14_No (NX_mk (upd (NX_mark z.2) x6_29.toNatClampNeg (NX_round z.2)) (NX_now z.2) (upd (NX_then z.2) (NX_many1 z.2).toNatClampNeg x6_29) (NX_todo z.2) (NX_round z.2) ((NX_many1 z.2) + (1:Int32))) u14_Nf u14_Na u14_Nh u14_Nq u14_Nj u14_M0 u14_M1)) C hP (hDD _ _ _ _ _ _ _ _ _ _ _ _) hS 17 16 mw_17 rfl g27 rfl d_MM_thread_98 (fun H locs hP hS => ?_)
          refine lv_goto (tgt := 232) hx hb d_MM_thread_99 (by decide) ?_
          refine lv_goto (tgt := 14) hx hb d_MM_thread_232 (by decide) ?_
          cases h
          exact h0 rfl _ _ _ hP hS (lv_sub hl [2, 3, 4, 5, 1] rfl)
      · replace h := o_tt c8 h
        cases h
        exact h1 (Nat.succ_ne_zero 0) _ _ _ hP hS (lv_sub hl [] rfl)
    · replace h := o_tt c5 h
      refine lv_goto (tgt := 14) hx hb d_MM_thread_45 (by decide) ?_
      cases h
      exact h0 rfl _ _ _ hP hS (lv_sub hl [2, 3, 4, 5, 1] rfl)
set_option maxHeartbeats 4000000 in
set_option maxRecDepth 100000 in
theorem e_MM_thread_then {E : (Nat → Prop) → State → Heap → Prop} {D : va_G} {ad kd sd vd xd : Nat → Nat} {ca : Nat → ClassId} {ky ty : Nat → Option Nat} (hE : o_EK E kd sd vd xd) (hKy : m_KY ky ty sd) (l : Launch) (n : Nat) (x2 : Int32) (x3 : Int32) (x4 : Int32) (No : SNO) (Nx : SNX) (Ni : SNI) (Np : SNP) (Nf : SNF) (Na : SNA) (Nh : SNH) (Nq : SNQ) (Nj : SNJ) (M0 : SMT) (M1 : SMT) (rt : Nat) {r : Int32 × SNX} (h : m_MM_thread_then n x2 x3 x4 No Nx = some r) : o_Cn E l D m_cls (m_tys ca) y_MM_thread cc_MM_thread rm_MM_thread [.ref (ad 0), .ref (ad 17), .int x2, .int x3, .int x4] (m_cw ad ca ky ty rt Ni Np No Nx Nf Na Nh Nq Nj M0 M1) (m_cw ad ca ky ty rt Ni Np No r.2 Nf Na Nh Nq Nj M0 M1) (some (.int r.1)) := by
  refine o_Cn_of (by decide) (Nat.le_of_ble_eq_true rfl) ?_
  intro p e s m below meth c A ls C hD hP hS hl
  have hDD : ∀ (rt : Nat) (Ni : SNI) (Np : SNP) (No : SNO) (Nx : SNX) (Nf : SNF) (Na : SNA) (Nh : SNH) (Nq : SNQ) (Nj : SNJ) (M0 : SMT) (M1 : SMT), va_D A (m_cw ad ca ky ty rt Ni Np No Nx Nf Na Nh Nq Nj M0 M1) := fun _ _ _ _ _ _ _ _ _ _ _ _ => o_D_map hD rfl
  have hl : lv_has ls 7 [(0, .ref (ad 0)), (1, .ref (ad 17)), (2, .int x2), (3, .int x3), (4, .int x4)] := hl
  unfold m_MM_thread_then at h
  have C0 := C
  obtain ⟨hx, hb, -, -, -, hown, hts, hK, -, -⟩ := C0
  refine lv_iconst (v := (0:Int32)) hx hb d_MM_thread_0 (by decide) ?_
  refine lv_istore (lv' := [(5, .int (0:Int32)), (0, .ref (ad 0)), (1, .ref (ad 17)), (2, .int x2), (3, .int x3), (4, .int x4)]) hx hb d_MM_thread_1 hl (by decide) rfl (fun ls hl => ?_)
  refine lv_aload_n hx hb d_MM_thread_3 rfl (lv_at hl 1 rfl) ?_
  refine o_get (v := .ref (ad 18)) C in_MM hP 0 mw_0 rfl 22 (by decide) k_8_12 rfl rfl d_MM_thread_4 ?_
  refine lv_iload hx hb d_MM_thread_7 (lv_at hl 0 rfl) ?_
  obtain ⟨x5_9, ex5_9⟩ : ∃ y : Int32, y = (0:Int32) + (1:Int32) := ⟨_, rfl⟩
  replace h := o_nm_at ex5_9 h
  refine lv_iinc (v := x5_9) (lv' := [(5, .int x5_9), (0, .ref (ad 0)), (1, .ref (ad 17)), (2, .int x2), (3, .int x3), (4, .int x4)]) hx hb d_MM_thread_9 hl (k := 0) rfl (by rw [ex5_9]; rfl) (by decide) rfl (fun ls hl => ?_)
  refine lv_iload_n hx hb d_MM_thread_12 rfl (lv_at hl 3 rfl) ?_
  obtain ⟨g1, h⟩ := o_gd_some h
  refine o_iast (f := (NX_todo Nx)) (w1 := (m_cw ad ca ky ty rt Ni Np No (NX_mk (NX_mark Nx) (NX_now Nx) (NX_then Nx) (upd (NX_todo Nx) (0:Int32).toNatClampNeg x2) (NX_round Nx) (NX_many1 Nx)) Nf Na Nh Nq Nj M0 M1)) C hP (hDD _ _ _ _ _ _ _ _ _ _ _ _) hS 18 17 mw_18 rfl g1 rfl d_MM_thread_13 (fun H locs hP hS => ?_)
  obtain ⟨q1, hq1, h⟩ := o_bd_some h
  refine o_sim2 (AH := fun zz => o_At p l e rm_MM_thread s m _ below meth c _ m_cls D A 7 14 [] (m_cw ad ca ky ty rt Ni Np No zz.2 Nf Na Nh Nq Nj M0 M1) [(0, .ref (ad 0)), (1, .ref (ad 17)), (3, .int x3), (4, .int x4), (5, .int zz.1)]) (AX := fun qq => if qq.1 = 1 then o_At p l e rm_MM_thread s m _ below meth c _ m_cls D A 7 71 [] (m_cw ad ca ky ty rt Ni Np No qq.2.2 Nf Na Nh Nq Nj M0 M1) [] else o_At p l e rm_MM_thread s m _ below meth c _ m_cls D A 7 235 [] (m_cw ad ca ky ty rt Ni Np No qq.2.2 Nf Na Nh Nq Nj M0 M1) []) (fun zz qq h h0 h1 => f_MM_thread_then_b14 hE hKy C hDD n x3 x4 No Ni Np Nf Na Nh Nq Nj M0 M1 rt zz qq h h0 h1) n _ q1 hq1 ?_ _ _ _ hP hS (lv_sub hl [1, 2, 4, 5, 0] rfl)
  by_cases c28 : q1.1 = 1
  · replace h := o_tt c28 h
    refine o_ip c28 ?_
    intro H locs ls hP hS hl
    refine lv_iconst (v := (1:Int32)) hx hb d_MM_thread_71 (by decide) ?_
    cases h
    exact o_rz (v := (1:Int32)) C o_nar1 hP hS d_MM_thread_72
  replace h := o_ff c28 h
  refine o_in_ c28 ?_
  intro H locs ls hP hS hl
  refine lv_iconst (v := (0:Int32)) hx hb d_MM_thread_235 (by decide) ?_
  cases h
  exact o_rz (v := (0:Int32)) C o_nar0 hP hS d_MM_thread_236
set_option maxHeartbeats 4000000 in
set_option maxRecDepth 100000 in
theorem e_MM_fault {E : (Nat → Prop) → State → Heap → Prop} {D : va_G} {ad kd sd vd xd : Nat → Nat} {ca : Nat → ClassId} {ky ty : Nat → Option Nat} (hE : o_EK E kd sd vd xd) (hKy : m_KY ky ty sd) (l : Launch) (x1 : Int32) (x2 : Int32) (Nf : SNF) (Ni : SNI) (Np : SNP) (No : SNO) (Nx : SNX) (Na : SNA) (Nh : SNH) (Nq : SNQ) (Nj : SNJ) (M0 : SMT) (M1 : SMT) (rt : Nat) {r : SNF} (h : m_MM_fault x1 x2 Nf = some r) : o_Cn E l D m_cls (m_tys ca) y_MM_fault cc_MM_fault rm_MM_fault [.ref (ad 0), .int x1, .int x2] (m_cw ad ca ky ty rt Ni Np No Nx Nf Na Nh Nq Nj M0 M1) (m_cw ad ca ky ty rt Ni Np No Nx r Na Nh Nq Nj M0 M1) none := by
  refine o_Cn_of (by decide) (Nat.le_of_ble_eq_true rfl) ?_
  intro p e s m below meth c A ls C hD hP hS hl
  have hDD : ∀ (rt : Nat) (Ni : SNI) (Np : SNP) (No : SNO) (Nx : SNX) (Nf : SNF) (Na : SNA) (Nh : SNH) (Nq : SNQ) (Nj : SNJ) (M0 : SMT) (M1 : SMT), va_D A (m_cw ad ca ky ty rt Ni Np No Nx Nf Na Nh Nq Nj M0 M1) := fun _ _ _ _ _ _ _ _ _ _ _ _ => o_D_map hD rfl
  have hl : lv_has ls 3 [(0, .ref (ad 0)), (1, .int x1), (2, .int x2)] := hl
  unfold m_MM_fault at h
  have C0 := C
  obtain ⟨hx, hb, -, -, -, hown, hts, hK, -, -⟩ := C0
  refine lv_aload_n hx hb d_MM_fault_0 rfl (lv_at hl 0 rfl) ?_
  refine o_get (v := .int (NF_faultKind Nf)) C in_MM hP 0 mw_0 rfl 36 (by decide) k_8_26 rfl rfl d_MM_fault_1 ?_
  refine lv_if_eq (tgt := 32) hx hb d_MM_fault_4 (by decide) (fun c1 => ?_) (fun c1 => ?_)
  · replace h := o_tt c1 h
    refine lv_aload_n hx hb d_MM_fault_32 rfl (lv_at hl 0 rfl) ?_
    refine lv_iload_n hx hb d_MM_fault_33 rfl (lv_at hl 1 rfl) ?_
    refine o_put (v := .int x1) (ty := .int) (w1 := (m_cw ad ca ky ty rt Ni Np No Nx (NF_mk (NF_checked Nf) x1 (NF_faultValue Nf) (NF_latestFault Nf)) Na Nh Nq Nj M0 M1)) C in_MM t_MM t_MM_ok n_MM hP (hDD _ _ _ _ _ _ _ _ _ _ _ _) hS 0 mw_0 rfl 36 (by decide) k_8_26 rfl rfl (by decide +kernel) rfl rfl (Nat.le_of_ble_eq_true rfl) rfl d_MM_fault_34 (fun H locs hP hS => ?_)
    refine lv_aload_n hx hb d_MM_fault_37 rfl (lv_at hl 0 rfl) ?_
    refine lv_iload_n hx hb d_MM_fault_38 rfl (lv_at hl 2 rfl) ?_
    refine o_put (v := .int x2) (ty := .int) (w1 := (m_cw ad ca ky ty rt Ni Np No Nx (NF_mk (NF_checked Nf) x1 x2 (NF_latestFault Nf)) Na Nh Nq Nj M0 M1)) C in_MM t_MM t_MM_ok n_MM hP (hDD _ _ _ _ _ _ _ _ _ _ _ _) hS 0 mw_0 rfl 37 (by decide) k_8_27 rfl rfl (by decide +kernel) rfl rfl (Nat.le_of_ble_eq_true rfl) rfl d_MM_fault_39 (fun H locs hP hS => ?_)
    cases h
    exact o_rv C hP hS d_MM_fault_42
  · replace h := o_ff c1 h
    refine lv_iload_n hx hb d_MM_fault_7 rfl (lv_at hl 2 rfl) ?_
    refine lv_aload_n hx hb d_MM_fault_8 rfl (lv_at hl 0 rfl) ?_
    refine o_get (v := .int (NF_faultValue Nf)) C in_MM hP 0 mw_0 rfl 37 (by decide) k_8_27 rfl rfl d_MM_fault_9 ?_
    refine lv_icmp_gt (tgt := 31) hx hb d_MM_fault_12 (by decide) (fun c2 => ?_) (fun c2 => ?_)
    · replace h := o_tt c2 h
      cases h
      exact o_rv C hP hS d_MM_fault_31
    · replace h := o_ff c2 h
      refine lv_iload_n hx hb d_MM_fault_15 rfl (lv_at hl 2 rfl) ?_
      refine lv_aload_n hx hb d_MM_fault_16 rfl (lv_at hl 0 rfl) ?_
      refine o_get (v := .int (NF_faultValue Nf)) C in_MM hP 0 mw_0 rfl 37 (by decide) k_8_27 rfl rfl d_MM_fault_17 ?_
      refine lv_icmp_ne (tgt := 32) hx hb d_MM_fault_20 (by decide) (fun c3 => ?_) (fun c3 => ?_)
      · replace h := o_ff c3 h
        refine lv_aload_n hx hb d_MM_fault_32 rfl (lv_at hl 0 rfl) ?_
        refine lv_iload_n hx hb d_MM_fault_33 rfl (lv_at hl 1 rfl) ?_
        refine o_put (v := .int x1) (ty := .int) (w1 := (m_cw ad ca ky ty rt Ni Np No Nx (NF_mk (NF_checked Nf) x1 (NF_faultValue Nf) (NF_latestFault Nf)) Na Nh Nq Nj M0 M1)) C in_MM t_MM t_MM_ok n_MM hP (hDD _ _ _ _ _ _ _ _ _ _ _ _) hS 0 mw_0 rfl 36 (by decide) k_8_26 rfl rfl (by decide +kernel) rfl rfl (Nat.le_of_ble_eq_true rfl) rfl d_MM_fault_34 (fun H locs hP hS => ?_)
        refine lv_aload_n hx hb d_MM_fault_37 rfl (lv_at hl 0 rfl) ?_
        refine lv_iload_n hx hb d_MM_fault_38 rfl (lv_at hl 2 rfl) ?_
        refine o_put (v := .int x2) (ty := .int) (w1 := (m_cw ad ca ky ty rt Ni Np No Nx (NF_mk (NF_checked Nf) x1 x2 (NF_latestFault Nf)) Na Nh Nq Nj M0 M1)) C in_MM t_MM t_MM_ok n_MM hP (hDD _ _ _ _ _ _ _ _ _ _ _ _) hS 0 mw_0 rfl 37 (by decide) k_8_27 rfl rfl (by decide +kernel) rfl rfl (Nat.le_of_ble_eq_true rfl) rfl d_MM_fault_39 (fun H locs hP hS => ?_)
        cases h
        exact o_rv C hP hS d_MM_fault_42
      · replace h := o_tt c3 h
        refine lv_iload_n hx hb d_MM_fault_23 rfl (lv_at hl 1 rfl) ?_
        refine lv_aload_n hx hb d_MM_fault_24 rfl (lv_at hl 0 rfl) ?_
        refine o_get (v := .int (NF_faultKind Nf)) C in_MM hP 0 mw_0 rfl 36 (by decide) k_8_26 rfl rfl d_MM_fault_25 ?_
        refine lv_icmp_lt (tgt := 32) hx hb d_MM_fault_28 (by decide) (fun c4 => ?_) (fun c4 => ?_)
        · replace h := o_tt c4 h
          refine lv_aload_n hx hb d_MM_fault_32 rfl (lv_at hl 0 rfl) ?_
          refine lv_iload_n hx hb d_MM_fault_33 rfl (lv_at hl 1 rfl) ?_
          refine o_put (v := .int x1) (ty := .int) (w1 := (m_cw ad ca ky ty rt Ni Np No Nx (NF_mk (NF_checked Nf) x1 (NF_faultValue Nf) (NF_latestFault Nf)) Na Nh Nq Nj M0 M1)) C in_MM t_MM t_MM_ok n_MM hP (hDD _ _ _ _ _ _ _ _ _ _ _ _) hS 0 mw_0 rfl 36 (by decide) k_8_26 rfl rfl (by decide +kernel) rfl rfl (Nat.le_of_ble_eq_true rfl) rfl d_MM_fault_34 (fun H locs hP hS => ?_)
          refine lv_aload_n hx hb d_MM_fault_37 rfl (lv_at hl 0 rfl) ?_
          refine lv_iload_n hx hb d_MM_fault_38 rfl (lv_at hl 2 rfl) ?_
          refine o_put (v := .int x2) (ty := .int) (w1 := (m_cw ad ca ky ty rt Ni Np No Nx (NF_mk (NF_checked Nf) x1 x2 (NF_latestFault Nf)) Na Nh Nq Nj M0 M1)) C in_MM t_MM t_MM_ok n_MM hP (hDD _ _ _ _ _ _ _ _ _ _ _ _) hS 0 mw_0 rfl 37 (by decide) k_8_27 rfl rfl (by decide +kernel) rfl rfl (Nat.le_of_ble_eq_true rfl) rfl d_MM_fault_39 (fun H locs hP hS => ?_)
          cases h
          exact o_rv C hP hS d_MM_fault_42
        · replace h := o_ff c4 h
          cases h
          exact o_rv C hP hS d_MM_fault_31
set_option maxHeartbeats 4000000 in
set_option maxRecDepth 100000 in
theorem f_MT_is_b17_a {E : (Nat → Prop) → State → Heap → Prop} {p : Program} {l : Launch} {e : Env} {s : State} {m : MethodId} {args : Array Value} {below : List Frame} {meth : Method} {c : Code} {D : va_G} {ad kd sd vd xd : Nat → Nat} {ca : Nat → ClassId} {A : Nat → Prop} {ky ty : Nat → Option Nat} {Q : State → Prop} (hE : o_EK E kd sd vd xd) (hKy : m_KY ky ty sd) (C : o_Cx E p s m args meth c D m_cls (m_tys ca) "SchemaJudgeModel$Text" b_MT_is (some .boolean) 4 cc_MT_is A) (hDD : ∀ (rt : Nat) (Ni : SNI) (Np : SNP) (No : SNO) (Nx : SNX) (Nf : SNF) (Na : SNA) (Nh : SNH) (Nq : SNQ) (Nj : SNJ) (M0 : SMT) (M1 : SMT), va_D A (m_cw ad ca ky ty rt Ni Np No Nx Nf Na Nh Nq Nj M0 M1)) (n : Nat) (u17_x1 : Int32) (u17_x2 : Nat) (gu17_x2 : o_sb u17_x2 = true) (u17_a0 : SMT) (u17_Ni : SNI) (u17_Np : SNP) (u17_No : SNO) (u17_Nx : SNX) (u17_Nf : SNF) (u17_Na : SNA) (u17_Nh : SNH) (u17_Nq : SNQ) (u17_Nj : SNJ) (u17_M1 : SMT) (u17_rt : Nat) (z : Int32) (q : Nat × Int32) (h : m_MT_is_b17 n u17_x1 u17_x2 u17_a0 z = some q) (h0 : q.1 = 0 → o_At p l e rm_MT_is s m args below meth c Q m_cls D A 4 17 [] (m_cw ad ca ky ty u17_rt u17_Ni u17_Np u17_No u17_Nx u17_Nf u17_Na u17_Nh u17_Nq u17_Nj u17_a0 u17_M1) [(0, .ref (ad 33)), (1, .int u17_x1), (2, .ref (sd u17_x2)), (3, .int q.2)]) (h1 : q.1 ≠ 0 → (if q.1 = 1 then o_At p l e rm_MT_is s m args below meth c Q m_cls D A 4 46 [] (m_cw ad ca ky ty u17_rt u17_Ni u17_Np u17_No u17_Nx u17_Nf u17_Na u17_Nh u17_Nq u17_Nj u17_a0 u17_M1) [] else o_At p l e rm_MT_is s m args below meth c Q m_cls D A 4 54 [] (m_cw ad ca ky ty u17_rt u17_Ni u17_Np u17_No u17_Nx u17_Nf u17_Na u17_Nh u17_Nq u17_Nj u17_a0 u17_M1) [])) : o_At p l e rm_MT_is s m args below meth c Q m_cls D A 4 17 [] (m_cw ad ca ky ty u17_rt u17_Ni u17_Np u17_No u17_Nx u17_Nf u17_Na u17_Nh u17_Nq u17_Nj u17_a0 u17_M1) [(0, .ref (ad 33)), (1, .int u17_x1), (2, .ref (sd u17_x2)), (3, .int z)] := by
  unfold m_MT_is_b17 at h
  intro H locs ls hP hS hl
  have C0 := C
  obtain ⟨hx, hb, -, -, -, hown, hts, hK, -, -⟩ := C0
  refine lv_iload_n hx hb d_MT_is_17 rfl (lv_at hl 3 rfl) ?_
  refine lv_aload_n hx hb d_MT_is_18 rfl (lv_at hl 2 rfl) ?_
  obtain ⟨q2, hq2, h⟩ := o_bd_some h
  refine o_VR (K := "java/lang/String") (st1 := [.int q2, .int z]) (w1 := (m_cw ad ca ky ty u17_rt u17_Ni u17_Np u17_No u17_Nx u17_Nf u17_Na u17_Nh u17_Nq u17_Nj u17_a0 u17_M1)) hE.1 C (e_JS_length hE hKy l u17_x2 gu17_x2 u17_Ni u17_Np u17_No u17_Nx u17_Nf u17_Na u17_Nh u17_Nq u17_Nj u17_a0 u17_M1 u17_rt hq2) hP (hDD _ _ _ _ _ _ _ _ _ _ _ _) hS hl.1 (o_rs hE C gu17_x2 hS) k_8_216 k_3_62 k_3_63 k_1_18 k_3_64 hv_JS_length rfl rfl ⟨(Nat.le_of_ble_eq_true rfl), (Nat.le_of_ble_eq_true rfl)⟩ rfl (Nat.le_of_ble_eq_true rfl) ⟨Nat.zero_le _, Nat.zero_le _⟩ rfl d_MT_is_19 (fun H locs hP hS => ?_)
  refine lv_icmp_ge (tgt := 54) hx hb d_MT_is_22 (by decide) (fun c3 => ?_) (fun c3 => ?_)
  · replace h := o_tt c3 h
    cases h
    exact h1 (Nat.succ_ne_zero 1) _ _ _ hP hS (lv_sub hl [] rfl)
  · replace h := o_ff c3 h
    refine lv_aload_n hx hb d_MT_is_25 rfl (lv_at hl 0 rfl) ?_
    refine o_get (v := .ref (ad 44)) C in_MT hP 33 mw_33 rfl 10 (by decide) k_7_120 rfl rfl d_MT_is_26 ?_
    refine lv_aload_n hx hb d_MT_is_29 rfl (lv_at hl 0 rfl) ?_
    refine o_get (v := .ref (ad 43)) C in_MT hP 33 mw_33 rfl 9 (by decide) k_7_118 rfl rfl d_MT_is_30 ?_
    refine lv_iload_n hx hb d_MT_is_33 rfl (lv_at hl 1 rfl) ?_
    obtain ⟨g4, h⟩ := o_gd_some h
    refine o_iald (f := (MT_from u17_a0)) C hP 43 41 mw_43 rfl g4 d_MT_is_34 ?_
    refine lv_iload_n hx hb d_MT_is_35 rfl (lv_at hl 3 rfl) ?_
    refine lv_iadd hx hb d_MT_is_36 ?_
    obtain ⟨g5, h⟩ := o_gd_some h
    refine o_iald (f := (MT_characters u17_a0)) C hP 44 42 mw_44 rfl g5 d_MT_is_37 ?_
    refine lv_aload_n hx hb d_MT_is_38 rfl (lv_at hl 2 rfl) ?_
    refine lv_iload_n hx hb d_MT_is_39 rfl (lv_at hl 3 rfl) ?_
    obtain ⟨q3, hq3, h⟩ := o_bd_some h
    refine o_VR (K := "java/lang/String") (st1 := [.int q3, .int ((MT_characters u17_a0) (((MT_from u17_a0) u17_x1.toNatClampNeg) + z).toNatClampNeg)]) (w1 := (m_cw ad ca ky ty u17_rt u17_Ni u17_Np u17_No u17_Nx u17_Nf u17_Na u17_Nh u17_Nq u17_Nj u17_a0 u17_M1)) hE.1 C (e_JS_charAt hE hKy l u17_x2 gu17_x2 z u17_Ni u17_Np u17_No u17_Nx u17_Nf u17_Na u17_Nh u17_Nq u17_Nj u17_a0 u17_M1 u17_rt hq3) hP (hDD _ _ _ _ _ _ _ _ _ _ _ _) hS hl.1 (o_rs hE C gu17_x2 hS) k_8_217 k_3_72 k_3_73 k_1_18 k_3_74 hv_JS_charAt rfl rfl ⟨(Nat.le_of_ble_eq_true rfl), (Nat.le_of_ble_eq_true rfl)⟩ rfl (Nat.le_of_ble_eq_true rfl) ⟨Nat.zero_le _, Nat.zero_le _⟩ rfl d_MT_is_40 (fun H locs hP hS => ?_)
    refine lv_icmp_eq (tgt := 48) hx hb d_MT_is_43 (by decide) (fun c6 => ?_) (fun c6 => ?_)
    · replace h := o_tt c6 h
      obtain ⟨x3_48, ex3_48⟩ : ∃ y : Int32, y = z + (1:Int32) := ⟨_, rfl⟩
      replace h := o_nm_at ex3_48 h
      refine lv_iinc (v := x3_48) (lv' := [(3, .int x3_48), (0, .ref (ad 33)), (1, .int u17_x1), (2, .ref (sd u17_x2))]) hx hb d_MT_is_48 hl (k := 3) rfl (by rw [ex3_48]; rfl) (by decide) rfl (fun ls hl => ?_)
      refine lv_goto (tgt := 17) hx hb d_MT_is_51 (by decide) ?_
      cases h
      exact h0 rfl _ _ _ hP hS (lv_sub hl [1, 2, 3, 0] rfl)
    · replace h := o_ff c6 h
      cases h
      exact h1 (Nat.succ_ne_zero 0) _ _ _ hP hS (lv_sub hl [] rfl)
set_option maxHeartbeats 4000000 in
set_option maxRecDepth 100000 in
theorem e_MT_is_a {E : (Nat → Prop) → State → Heap → Prop} {D : va_G} {ad kd sd vd xd : Nat → Nat} {ca : Nat → ClassId} {ky ty : Nat → Option Nat} (hE : o_EK E kd sd vd xd) (hKy : m_KY ky ty sd) (l : Launch) (n : Nat) (x1 : Int32) (x2 : Nat) (gx2 : o_sb x2 = true) (a0 : SMT) (Ni : SNI) (Np : SNP) (No : SNO) (Nx : SNX) (Nf : SNF) (Na : SNA) (Nh : SNH) (Nq : SNQ) (Nj : SNJ) (M1 : SMT) (rt : Nat) {r : Int32} (h : m_MT_is n x1 x2 a0 = some r) : o_Cn E l D m_cls (m_tys ca) y_MT_is cc_MT_is rm_MT_is [.ref (ad 33), .int x1, .ref (sd x2)] (m_cw ad ca ky ty rt Ni Np No Nx Nf Na Nh Nq Nj a0 M1) (m_cw ad ca ky ty rt Ni Np No Nx Nf Na Nh Nq Nj a0 M1) (some (.int r)) := by
  refine o_Cn_of (by decide) (Nat.le_of_ble_eq_true rfl) ?_
  intro p e s m below meth c A ls C hD hP hS hl
  have hDD : ∀ (rt : Nat) (Ni : SNI) (Np : SNP) (No : SNO) (Nx : SNX) (Nf : SNF) (Na : SNA) (Nh : SNH) (Nq : SNQ) (Nj : SNJ) (M0 : SMT) (M1 : SMT), va_D A (m_cw ad ca ky ty rt Ni Np No Nx Nf Na Nh Nq Nj M0 M1) := fun _ _ _ _ _ _ _ _ _ _ _ _ => o_D_map hD rfl
  have hl : lv_has ls 4 [(0, .ref (ad 33)), (1, .int x1), (2, .ref (sd x2))] := hl
  unfold m_MT_is at h
  have C0 := C
  obtain ⟨hx, hb, -, -, -, hown, hts, hK, -, -⟩ := C0
  refine lv_aload_n hx hb d_MT_is_0 rfl (lv_at hl 0 rfl) ?_
  refine o_get (v := .ref (ad 37)) C in_MT hP 33 mw_33 rfl 3 (by decide) k_7_106 rfl rfl d_MT_is_1 ?_
  refine lv_iload_n hx hb d_MT_is_4 rfl (lv_at hl 1 rfl) ?_
  obtain ⟨g1, h⟩ := o_gd_some h
  refine o_iald (f := (MT_many a0)) C hP 37 35 mw_37 rfl g1 d_MT_is_5 ?_
  refine lv_aload_n hx hb d_MT_is_6 rfl (lv_at hl 2 rfl) ?_
  obtain ⟨q1, hq1, h⟩ := o_bd_some h
  refine o_VR (K := "java/lang/String") (st1 := [.int q1, .int ((MT_many a0) x1.toNatClampNeg)]) (w1 := (m_cw ad ca ky ty rt Ni Np No Nx Nf Na Nh Nq Nj a0 M1)) hE.1 C (e_JS_length hE hKy l x2 gx2 Ni Np No Nx Nf Na Nh Nq Nj a0 M1 rt hq1) hP (hDD _ _ _ _ _ _ _ _ _ _ _ _) hS hl.1 (o_rs hE C gx2 hS) k_8_216 k_3_62 k_3_63 k_1_18 k_3_64 hv_JS_length rfl rfl ⟨(Nat.le_of_ble_eq_true rfl), (Nat.le_of_ble_eq_true rfl)⟩ rfl (Nat.le_of_ble_eq_true rfl) ⟨Nat.zero_le _, Nat.zero_le _⟩ rfl d_MT_is_7 (fun H locs hP hS => ?_)
  refine lv_icmp_eq (tgt := 15) hx hb d_MT_is_10 (by decide) (fun c2 => ?_) (fun c2 => ?_)
  · replace h := o_tt c2 h
    refine lv_iconst (v := (0:Int32)) hx hb d_MT_is_15 (by decide) ?_
    refine lv_istore_n (lv' := [(3, .int (0:Int32)), (0, .ref (ad 33)), (1, .int x1), (2, .ref (sd x2))]) hx hb d_MT_is_16 rfl hl (by decide) rfl (fun ls hl => ?_)
    obtain ⟨q4, hq4, h⟩ := o_bd_some h
    refine o_sim2 (AH := fun zz => o_At p l e rm_MT_is s m _ below meth c _ m_cls D A 4 17 [] (m_cw ad ca ky ty rt Ni Np No Nx Nf Na Nh Nq Nj a0 M1) [(0, .ref (ad 33)), (1, .int x1), (2, .ref (sd x2)), (3, .int zz)]) (AX := fun qq => if qq.1 = 1 then o_At p l e rm_MT_is s m _ below meth c _ m_cls D A 4 46 [] (m_cw ad ca ky ty rt Ni Np No Nx Nf Na Nh Nq Nj a0 M1) [] else o_At p l e rm_MT_is s m _ below meth c _ m_cls D A 4 54 [] (m_cw ad ca ky ty rt Ni Np No Nx Nf Na Nh Nq Nj a0 M1) []) (fun zz qq h h0 h1 => f_MT_is_b17_a hE hKy C hDD n x1 x2 gx2 a0 Ni Np No Nx Nf Na Nh Nq Nj M1 rt zz qq h h0 h1) n _ q4 hq4 ?_ _ _ _ hP hS (lv_sub hl [1, 2, 3, 0] rfl)
    by_cases c7 : q4.1 = 1
    · replace h := o_tt c7 h
      refine o_ip c7 ?_
      intro H locs ls hP hS hl
      refine lv_iconst (v := (0:Int32)) hx hb d_MT_is_46 (by decide) ?_
      cases h
      exact o_rz (v := (0:Int32)) C o_nar0 hP hS d_MT_is_47
    replace h := o_ff c7 h
    refine o_in_ c7 ?_
    intro H locs ls hP hS hl
    refine lv_iconst (v := (1:Int32)) hx hb d_MT_is_54 (by decide) ?_
    cases h
    exact o_rz (v := (1:Int32)) C o_nar1 hP hS d_MT_is_55
  · replace h := o_ff c2 h
    refine lv_iconst (v := (0:Int32)) hx hb d_MT_is_13 (by decide) ?_
    cases h
    exact o_rz (v := (0:Int32)) C o_nar0 hP hS d_MT_is_14
set_option maxHeartbeats 4000000 in
set_option maxRecDepth 100000 in
theorem f_MT_is_b17_b {E : (Nat → Prop) → State → Heap → Prop} {p : Program} {l : Launch} {e : Env} {s : State} {m : MethodId} {args : Array Value} {below : List Frame} {meth : Method} {c : Code} {D : va_G} {ad kd sd vd xd : Nat → Nat} {ca : Nat → ClassId} {A : Nat → Prop} {ky ty : Nat → Option Nat} {Q : State → Prop} (hE : o_EK E kd sd vd xd) (hKy : m_KY ky ty sd) (C : o_Cx E p s m args meth c D m_cls (m_tys ca) "SchemaJudgeModel$Text" b_MT_is (some .boolean) 4 cc_MT_is A) (hDD : ∀ (rt : Nat) (Ni : SNI) (Np : SNP) (No : SNO) (Nx : SNX) (Nf : SNF) (Na : SNA) (Nh : SNH) (Nq : SNQ) (Nj : SNJ) (M0 : SMT) (M1 : SMT), va_D A (m_cw ad ca ky ty rt Ni Np No Nx Nf Na Nh Nq Nj M0 M1)) (n : Nat) (u17_x1 : Int32) (u17_x2 : Nat) (gu17_x2 : o_sb u17_x2 = true) (u17_a0 : SMT) (u17_Ni : SNI) (u17_Np : SNP) (u17_No : SNO) (u17_Nx : SNX) (u17_Nf : SNF) (u17_Na : SNA) (u17_Nh : SNH) (u17_Nq : SNQ) (u17_Nj : SNJ) (u17_M0 : SMT) (u17_rt : Nat) (z : Int32) (q : Nat × Int32) (h : m_MT_is_b17 n u17_x1 u17_x2 u17_a0 z = some q) (h0 : q.1 = 0 → o_At p l e rm_MT_is s m args below meth c Q m_cls D A 4 17 [] (m_cw ad ca ky ty u17_rt u17_Ni u17_Np u17_No u17_Nx u17_Nf u17_Na u17_Nh u17_Nq u17_Nj u17_M0 u17_a0) [(0, .ref (ad 48)), (1, .int u17_x1), (2, .ref (sd u17_x2)), (3, .int q.2)]) (h1 : q.1 ≠ 0 → (if q.1 = 1 then o_At p l e rm_MT_is s m args below meth c Q m_cls D A 4 46 [] (m_cw ad ca ky ty u17_rt u17_Ni u17_Np u17_No u17_Nx u17_Nf u17_Na u17_Nh u17_Nq u17_Nj u17_M0 u17_a0) [] else o_At p l e rm_MT_is s m args below meth c Q m_cls D A 4 54 [] (m_cw ad ca ky ty u17_rt u17_Ni u17_Np u17_No u17_Nx u17_Nf u17_Na u17_Nh u17_Nq u17_Nj u17_M0 u17_a0) [])) : o_At p l e rm_MT_is s m args below meth c Q m_cls D A 4 17 [] (m_cw ad ca ky ty u17_rt u17_Ni u17_Np u17_No u17_Nx u17_Nf u17_Na u17_Nh u17_Nq u17_Nj u17_M0 u17_a0) [(0, .ref (ad 48)), (1, .int u17_x1), (2, .ref (sd u17_x2)), (3, .int z)] := by
  unfold m_MT_is_b17 at h
  intro H locs ls hP hS hl
  have C0 := C
  obtain ⟨hx, hb, -, -, -, hown, hts, hK, -, -⟩ := C0
  refine lv_iload_n hx hb d_MT_is_17 rfl (lv_at hl 3 rfl) ?_
  refine lv_aload_n hx hb d_MT_is_18 rfl (lv_at hl 2 rfl) ?_
  obtain ⟨q2, hq2, h⟩ := o_bd_some h
  refine o_VR (K := "java/lang/String") (st1 := [.int q2, .int z]) (w1 := (m_cw ad ca ky ty u17_rt u17_Ni u17_Np u17_No u17_Nx u17_Nf u17_Na u17_Nh u17_Nq u17_Nj u17_M0 u17_a0)) hE.1 C (e_JS_length hE hKy l u17_x2 gu17_x2 u17_Ni u17_Np u17_No u17_Nx u17_Nf u17_Na u17_Nh u17_Nq u17_Nj u17_M0 u17_a0 u17_rt hq2) hP (hDD _ _ _ _ _ _ _ _ _ _ _ _) hS hl.1 (o_rs hE C gu17_x2 hS) k_8_216 k_3_62 k_3_63 k_1_18 k_3_64 hv_JS_length rfl rfl ⟨(Nat.le_of_ble_eq_true rfl), (Nat.le_of_ble_eq_true rfl)⟩ rfl (Nat.le_of_ble_eq_true rfl) ⟨Nat.zero_le _, Nat.zero_le _⟩ rfl d_MT_is_19 (fun H locs hP hS => ?_)
  refine lv_icmp_ge (tgt := 54) hx hb d_MT_is_22 (by decide) (fun c3 => ?_) (fun c3 => ?_)
  · replace h := o_tt c3 h
    cases h
    exact h1 (Nat.succ_ne_zero 1) _ _ _ hP hS (lv_sub hl [] rfl)
  · replace h := o_ff c3 h
    refine lv_aload_n hx hb d_MT_is_25 rfl (lv_at hl 0 rfl) ?_
    refine o_get (v := .ref (ad 59)) C in_MT hP 48 mw_48 rfl 10 (by decide) k_7_120 rfl rfl d_MT_is_26 ?_
    refine lv_aload_n hx hb d_MT_is_29 rfl (lv_at hl 0 rfl) ?_
    refine o_get (v := .ref (ad 58)) C in_MT hP 48 mw_48 rfl 9 (by decide) k_7_118 rfl rfl d_MT_is_30 ?_
    refine lv_iload_n hx hb d_MT_is_33 rfl (lv_at hl 1 rfl) ?_
    obtain ⟨g4, h⟩ := o_gd_some h
    refine o_iald (f := (MT_from u17_a0)) C hP 58 55 mw_58 rfl g4 d_MT_is_34 ?_
    refine lv_iload_n hx hb d_MT_is_35 rfl (lv_at hl 3 rfl) ?_
    refine lv_iadd hx hb d_MT_is_36 ?_
    obtain ⟨g5, h⟩ := o_gd_some h
    refine o_iald (f := (MT_characters u17_a0)) C hP 59 56 mw_59 rfl g5 d_MT_is_37 ?_
    refine lv_aload_n hx hb d_MT_is_38 rfl (lv_at hl 2 rfl) ?_
    refine lv_iload_n hx hb d_MT_is_39 rfl (lv_at hl 3 rfl) ?_
    obtain ⟨q3, hq3, h⟩ := o_bd_some h
    refine o_VR (K := "java/lang/String") (st1 := [.int q3, .int ((MT_characters u17_a0) (((MT_from u17_a0) u17_x1.toNatClampNeg) + z).toNatClampNeg)]) (w1 := (m_cw ad ca ky ty u17_rt u17_Ni u17_Np u17_No u17_Nx u17_Nf u17_Na u17_Nh u17_Nq u17_Nj u17_M0 u17_a0)) hE.1 C (e_JS_charAt hE hKy l u17_x2 gu17_x2 z u17_Ni u17_Np u17_No u17_Nx u17_Nf u17_Na u17_Nh u17_Nq u17_Nj u17_M0 u17_a0 u17_rt hq3) hP (hDD _ _ _ _ _ _ _ _ _ _ _ _) hS hl.1 (o_rs hE C gu17_x2 hS) k_8_217 k_3_72 k_3_73 k_1_18 k_3_74 hv_JS_charAt rfl rfl ⟨(Nat.le_of_ble_eq_true rfl), (Nat.le_of_ble_eq_true rfl)⟩ rfl (Nat.le_of_ble_eq_true rfl) ⟨Nat.zero_le _, Nat.zero_le _⟩ rfl d_MT_is_40 (fun H locs hP hS => ?_)
    refine lv_icmp_eq (tgt := 48) hx hb d_MT_is_43 (by decide) (fun c6 => ?_) (fun c6 => ?_)
    · replace h := o_tt c6 h
      obtain ⟨x3_48, ex3_48⟩ : ∃ y : Int32, y = z + (1:Int32) := ⟨_, rfl⟩
      replace h := o_nm_at ex3_48 h
      refine lv_iinc (v := x3_48) (lv' := [(3, .int x3_48), (0, .ref (ad 48)), (1, .int u17_x1), (2, .ref (sd u17_x2))]) hx hb d_MT_is_48 hl (k := 3) rfl (by rw [ex3_48]; rfl) (by decide) rfl (fun ls hl => ?_)
      refine lv_goto (tgt := 17) hx hb d_MT_is_51 (by decide) ?_
      cases h
      exact h0 rfl _ _ _ hP hS (lv_sub hl [1, 2, 3, 0] rfl)
    · replace h := o_ff c6 h
      cases h
      exact h1 (Nat.succ_ne_zero 0) _ _ _ hP hS (lv_sub hl [] rfl)
set_option maxHeartbeats 4000000 in
set_option maxRecDepth 100000 in
theorem e_MT_is_b {E : (Nat → Prop) → State → Heap → Prop} {D : va_G} {ad kd sd vd xd : Nat → Nat} {ca : Nat → ClassId} {ky ty : Nat → Option Nat} (hE : o_EK E kd sd vd xd) (hKy : m_KY ky ty sd) (l : Launch) (n : Nat) (x1 : Int32) (x2 : Nat) (gx2 : o_sb x2 = true) (a0 : SMT) (Ni : SNI) (Np : SNP) (No : SNO) (Nx : SNX) (Nf : SNF) (Na : SNA) (Nh : SNH) (Nq : SNQ) (Nj : SNJ) (M0 : SMT) (rt : Nat) {r : Int32} (h : m_MT_is n x1 x2 a0 = some r) : o_Cn E l D m_cls (m_tys ca) y_MT_is cc_MT_is rm_MT_is [.ref (ad 48), .int x1, .ref (sd x2)] (m_cw ad ca ky ty rt Ni Np No Nx Nf Na Nh Nq Nj M0 a0) (m_cw ad ca ky ty rt Ni Np No Nx Nf Na Nh Nq Nj M0 a0) (some (.int r)) := by
  refine o_Cn_of (by decide) (Nat.le_of_ble_eq_true rfl) ?_
  intro p e s m below meth c A ls C hD hP hS hl
  have hDD : ∀ (rt : Nat) (Ni : SNI) (Np : SNP) (No : SNO) (Nx : SNX) (Nf : SNF) (Na : SNA) (Nh : SNH) (Nq : SNQ) (Nj : SNJ) (M0 : SMT) (M1 : SMT), va_D A (m_cw ad ca ky ty rt Ni Np No Nx Nf Na Nh Nq Nj M0 M1) := fun _ _ _ _ _ _ _ _ _ _ _ _ => o_D_map hD rfl
  have hl : lv_has ls 4 [(0, .ref (ad 48)), (1, .int x1), (2, .ref (sd x2))] := hl
  unfold m_MT_is at h
  have C0 := C
  obtain ⟨hx, hb, -, -, -, hown, hts, hK, -, -⟩ := C0
  refine lv_aload_n hx hb d_MT_is_0 rfl (lv_at hl 0 rfl) ?_
  refine o_get (v := .ref (ad 52)) C in_MT hP 48 mw_48 rfl 3 (by decide) k_7_106 rfl rfl d_MT_is_1 ?_
  refine lv_iload_n hx hb d_MT_is_4 rfl (lv_at hl 1 rfl) ?_
  obtain ⟨g1, h⟩ := o_gd_some h
  refine o_iald (f := (MT_many a0)) C hP 52 49 mw_52 rfl g1 d_MT_is_5 ?_
  refine lv_aload_n hx hb d_MT_is_6 rfl (lv_at hl 2 rfl) ?_
  obtain ⟨q1, hq1, h⟩ := o_bd_some h
  refine o_VR (K := "java/lang/String") (st1 := [.int q1, .int ((MT_many a0) x1.toNatClampNeg)]) (w1 := (m_cw ad ca ky ty rt Ni Np No Nx Nf Na Nh Nq Nj M0 a0)) hE.1 C (e_JS_length hE hKy l x2 gx2 Ni Np No Nx Nf Na Nh Nq Nj M0 a0 rt hq1) hP (hDD _ _ _ _ _ _ _ _ _ _ _ _) hS hl.1 (o_rs hE C gx2 hS) k_8_216 k_3_62 k_3_63 k_1_18 k_3_64 hv_JS_length rfl rfl ⟨(Nat.le_of_ble_eq_true rfl), (Nat.le_of_ble_eq_true rfl)⟩ rfl (Nat.le_of_ble_eq_true rfl) ⟨Nat.zero_le _, Nat.zero_le _⟩ rfl d_MT_is_7 (fun H locs hP hS => ?_)
  refine lv_icmp_eq (tgt := 15) hx hb d_MT_is_10 (by decide) (fun c2 => ?_) (fun c2 => ?_)
  · replace h := o_tt c2 h
    refine lv_iconst (v := (0:Int32)) hx hb d_MT_is_15 (by decide) ?_
    refine lv_istore_n (lv' := [(3, .int (0:Int32)), (0, .ref (ad 48)), (1, .int x1), (2, .ref (sd x2))]) hx hb d_MT_is_16 rfl hl (by decide) rfl (fun ls hl => ?_)
    obtain ⟨q4, hq4, h⟩ := o_bd_some h
    refine o_sim2 (AH := fun zz => o_At p l e rm_MT_is s m _ below meth c _ m_cls D A 4 17 [] (m_cw ad ca ky ty rt Ni Np No Nx Nf Na Nh Nq Nj M0 a0) [(0, .ref (ad 48)), (1, .int x1), (2, .ref (sd x2)), (3, .int zz)]) (AX := fun qq => if qq.1 = 1 then o_At p l e rm_MT_is s m _ below meth c _ m_cls D A 4 46 [] (m_cw ad ca ky ty rt Ni Np No Nx Nf Na Nh Nq Nj M0 a0) [] else o_At p l e rm_MT_is s m _ below meth c _ m_cls D A 4 54 [] (m_cw ad ca ky ty rt Ni Np No Nx Nf Na Nh Nq Nj M0 a0) []) (fun zz qq h h0 h1 => f_MT_is_b17_b hE hKy C hDD n x1 x2 gx2 a0 Ni Np No Nx Nf Na Nh Nq Nj M0 rt zz qq h h0 h1) n _ q4 hq4 ?_ _ _ _ hP hS (lv_sub hl [1, 2, 3, 0] rfl)
    by_cases c7 : q4.1 = 1
    · replace h := o_tt c7 h
      refine o_ip c7 ?_
      intro H locs ls hP hS hl
      refine lv_iconst (v := (0:Int32)) hx hb d_MT_is_46 (by decide) ?_
      cases h
      exact o_rz (v := (0:Int32)) C o_nar0 hP hS d_MT_is_47
    replace h := o_ff c7 h
    refine o_in_ c7 ?_
    intro H locs ls hP hS hl
    refine lv_iconst (v := (1:Int32)) hx hb d_MT_is_54 (by decide) ?_
    cases h
    exact o_rz (v := (1:Int32)) C o_nar1 hP hS d_MT_is_55
  · replace h := o_ff c2 h
    refine lv_iconst (v := (0:Int32)) hx hb d_MT_is_13 (by decide) ?_
    cases h
    exact o_rz (v := (0:Int32)) C o_nar0 hP hS d_MT_is_14
set_option maxHeartbeats 4000000 in
set_option maxRecDepth 100000 in
theorem e_MT_isWhole_a {E : (Nat → Prop) → State → Heap → Prop} {D : va_G} {ad kd sd vd xd : Nat → Nat} {ca : Nat → ClassId} {ky ty : Nat → Option Nat} (hE : o_EK E kd sd vd xd) (hKy : m_KY ky ty sd) (l : Launch) (x1 : Int32) (a0 : SMT) (Ni : SNI) (Np : SNP) (No : SNO) (Nx : SNX) (Nf : SNF) (Na : SNA) (Nh : SNH) (Nq : SNQ) (Nj : SNJ) (M1 : SMT) (rt : Nat) {r : Int32} (h : m_MT_isWhole x1 a0 = some r) : o_Cn E l D m_cls (m_tys ca) y_MT_isWhole cc_MT_isWhole rm_MT_isWhole [.ref (ad 33), .int x1] (m_cw ad ca ky ty rt Ni Np No Nx Nf Na Nh Nq Nj a0 M1) (m_cw ad ca ky ty rt Ni Np No Nx Nf Na Nh Nq Nj a0 M1) (some (.int r)) := by
  refine o_Cn_of (by decide) (Nat.le_of_ble_eq_true rfl) ?_
  intro p e s m below meth c A ls C hD hP hS hl
  have hDD : ∀ (rt : Nat) (Ni : SNI) (Np : SNP) (No : SNO) (Nx : SNX) (Nf : SNF) (Na : SNA) (Nh : SNH) (Nq : SNQ) (Nj : SNJ) (M0 : SMT) (M1 : SMT), va_D A (m_cw ad ca ky ty rt Ni Np No Nx Nf Na Nh Nq Nj M0 M1) := fun _ _ _ _ _ _ _ _ _ _ _ _ => o_D_map hD rfl
  have hl : lv_has ls 2 [(0, .ref (ad 33)), (1, .int x1)] := hl
  unfold m_MT_isWhole at h
  have C0 := C
  obtain ⟨hx, hb, -, -, -, hown, hts, hK, -, -⟩ := C0
  refine lv_aload_n hx hb d_MT_isWhole_0 rfl (lv_at hl 0 rfl) ?_
  refine o_get (v := .ref (ad 35)) C in_MT hP 33 mw_33 rfl 1 (by decide) k_7_102 rfl rfl d_MT_isWhole_1 ?_
  refine lv_iload_n hx hb d_MT_isWhole_4 rfl (lv_at hl 1 rfl) ?_
  obtain ⟨g1, h⟩ := o_gd_some h
  refine o_iald (f := (MT_kind a0)) C hP 35 33 mw_35 rfl g1 d_MT_isWhole_5 ?_
  refine lv_iconst (v := (3:Int32)) hx hb d_MT_isWhole_6 (by decide) ?_
  refine lv_icmp_ne (tgt := 23) hx hb d_MT_isWhole_7 (by decide) (fun c2 => ?_) (fun c2 => ?_)
  · replace h := o_ff c2 h
    refine lv_iconst (v := (0:Int32)) hx hb d_MT_isWhole_23 (by decide) ?_
    cases h
    exact o_rz (v := (0:Int32)) C o_nar0 hP hS d_MT_isWhole_24
  · replace h := o_tt c2 h
    refine lv_aload_n hx hb d_MT_isWhole_10 rfl (lv_at hl 0 rfl) ?_
    refine o_get (v := .ref (ad 39)) C in_MT hP 33 mw_33 rfl 5 (by decide) k_7_110 rfl rfl d_MT_isWhole_11 ?_
    refine lv_iload_n hx hb d_MT_isWhole_14 rfl (lv_at hl 1 rfl) ?_
    obtain ⟨g3, h⟩ := o_gd_some h
    refine o_iald (f := (MT_power a0)) C hP 39 37 mw_39 rfl g3 d_MT_isWhole_15 ?_
    refine lv_if_lt (tgt := 23) hx hb d_MT_isWhole_16 (by decide) (fun c4 => ?_) (fun c4 => ?_)
    · replace h := o_tt c4 h
      refine lv_iconst (v := (0:Int32)) hx hb d_MT_isWhole_23 (by decide) ?_
      cases h
      exact o_rz (v := (0:Int32)) C o_nar0 hP hS d_MT_isWhole_24
    · replace h := o_ff c4 h
      refine lv_iconst (v := (1:Int32)) hx hb d_MT_isWhole_19 (by decide) ?_
      refine lv_goto (tgt := 24) hx hb d_MT_isWhole_20 (by decide) ?_
      cases h
      exact o_rz (v := (1:Int32)) C o_nar1 hP hS d_MT_isWhole_24
set_option maxHeartbeats 4000000 in
set_option maxRecDepth 100000 in
theorem e_MT_isWhole_b {E : (Nat → Prop) → State → Heap → Prop} {D : va_G} {ad kd sd vd xd : Nat → Nat} {ca : Nat → ClassId} {ky ty : Nat → Option Nat} (hE : o_EK E kd sd vd xd) (hKy : m_KY ky ty sd) (l : Launch) (x1 : Int32) (a0 : SMT) (Ni : SNI) (Np : SNP) (No : SNO) (Nx : SNX) (Nf : SNF) (Na : SNA) (Nh : SNH) (Nq : SNQ) (Nj : SNJ) (M0 : SMT) (rt : Nat) {r : Int32} (h : m_MT_isWhole x1 a0 = some r) : o_Cn E l D m_cls (m_tys ca) y_MT_isWhole cc_MT_isWhole rm_MT_isWhole [.ref (ad 48), .int x1] (m_cw ad ca ky ty rt Ni Np No Nx Nf Na Nh Nq Nj M0 a0) (m_cw ad ca ky ty rt Ni Np No Nx Nf Na Nh Nq Nj M0 a0) (some (.int r)) := by
  refine o_Cn_of (by decide) (Nat.le_of_ble_eq_true rfl) ?_
  intro p e s m below meth c A ls C hD hP hS hl
  have hDD : ∀ (rt : Nat) (Ni : SNI) (Np : SNP) (No : SNO) (Nx : SNX) (Nf : SNF) (Na : SNA) (Nh : SNH) (Nq : SNQ) (Nj : SNJ) (M0 : SMT) (M1 : SMT), va_D A (m_cw ad ca ky ty rt Ni Np No Nx Nf Na Nh Nq Nj M0 M1) := fun _ _ _ _ _ _ _ _ _ _ _ _ => o_D_map hD rfl
  have hl : lv_has ls 2 [(0, .ref (ad 48)), (1, .int x1)] := hl
  unfold m_MT_isWhole at h
  have C0 := C
  obtain ⟨hx, hb, -, -, -, hown, hts, hK, -, -⟩ := C0
  refine lv_aload_n hx hb d_MT_isWhole_0 rfl (lv_at hl 0 rfl) ?_
  refine o_get (v := .ref (ad 50)) C in_MT hP 48 mw_48 rfl 1 (by decide) k_7_102 rfl rfl d_MT_isWhole_1 ?_
  refine lv_iload_n hx hb d_MT_isWhole_4 rfl (lv_at hl 1 rfl) ?_
  obtain ⟨g1, h⟩ := o_gd_some h
  refine o_iald (f := (MT_kind a0)) C hP 50 47 mw_50 rfl g1 d_MT_isWhole_5 ?_
  refine lv_iconst (v := (3:Int32)) hx hb d_MT_isWhole_6 (by decide) ?_
  refine lv_icmp_ne (tgt := 23) hx hb d_MT_isWhole_7 (by decide) (fun c2 => ?_) (fun c2 => ?_)
  · replace h := o_ff c2 h
    refine lv_iconst (v := (0:Int32)) hx hb d_MT_isWhole_23 (by decide) ?_
    cases h
    exact o_rz (v := (0:Int32)) C o_nar0 hP hS d_MT_isWhole_24
  · replace h := o_tt c2 h
    refine lv_aload_n hx hb d_MT_isWhole_10 rfl (lv_at hl 0 rfl) ?_
    refine o_get (v := .ref (ad 54)) C in_MT hP 48 mw_48 rfl 5 (by decide) k_7_110 rfl rfl d_MT_isWhole_11 ?_
    refine lv_iload_n hx hb d_MT_isWhole_14 rfl (lv_at hl 1 rfl) ?_
    obtain ⟨g3, h⟩ := o_gd_some h
    refine o_iald (f := (MT_power a0)) C hP 54 51 mw_54 rfl g3 d_MT_isWhole_15 ?_
    refine lv_if_lt (tgt := 23) hx hb d_MT_isWhole_16 (by decide) (fun c4 => ?_) (fun c4 => ?_)
    · replace h := o_tt c4 h
      refine lv_iconst (v := (0:Int32)) hx hb d_MT_isWhole_23 (by decide) ?_
      cases h
      exact o_rz (v := (0:Int32)) C o_nar0 hP hS d_MT_isWhole_24
    · replace h := o_ff c4 h
      refine lv_iconst (v := (1:Int32)) hx hb d_MT_isWhole_19 (by decide) ?_
      refine lv_goto (tgt := 24) hx hb d_MT_isWhole_20 (by decide) ?_
      cases h
      exact o_rz (v := (1:Int32)) C o_nar1 hP hS d_MT_isWhole_24
set_option maxHeartbeats 4000000 in
set_option maxRecDepth 100000 in
theorem f_MM_intOf_j95 {E : (Nat → Prop) → State → Heap → Prop} {p : Program} {l : Launch} {e : Env} {s : State} {m : MethodId} {args : Array Value} {below : List Frame} {meth : Method} {c : Code} {D : va_G} {ad kd sd vd xd : Nat → Nat} {ca : Nat → ClassId} {A : Nat → Prop} {ky ty : Nat → Option Nat} {Q : State → Prop} (hE : o_EK E kd sd vd xd) (hKy : m_KY ky ty sd) (C : o_Cx E p s m args meth c D m_cls (m_tys ca) "SchemaJudgeModel" b_MM_intOf (some .int) 4 cc_MM_intOf A) (hDD : ∀ (rt : Nat) (Ni : SNI) (Np : SNP) (No : SNO) (Nx : SNX) (Nf : SNF) (Na : SNA) (Nh : SNH) (Nq : SNQ) (Nj : SNJ) (M0 : SMT) (M1 : SMT), va_D A (m_cw ad ca ky ty rt Ni Np No Nx Nf Na Nh Nq Nj M0 M1)) (n : Nat) (u32_x1 : Int32) (u32_M0 : SMT) (u32_Ni : SNI) (u32_Np : SNP) (u32_No : SNO) (u32_Nx : SNX) (u32_Nf : SNF) (u32_Na : SNA) (u32_Nh : SNH) (u32_Nq : SNQ) (u32_Nj : SNJ) (u32_M1 : SMT) (u32_rt : Nat) (x3 : Int32) (y0 : Int32) (y1 : Int32) {q : Nat × Int32 × Int32} (h : m_MM_intOf_j95 n u32_x1 x3 y0 y1 u32_M0 = some q) (h0 : q.1 = 0 → o_At p l e rm_MM_intOf s m args below meth c Q m_cls D A 4 32 [] (m_cw ad ca ky ty u32_rt u32_Ni u32_Np u32_No u32_Nx u32_Nf u32_Na u32_Nh u32_Nq u32_Nj u32_M0 u32_M1) [(0, .ref (ad 0)), (1, .int u32_x1), (2, .int q.2.1), (3, .int q.2.2)]) (h1 : q.1 ≠ 0 → (o_At p l e rm_MM_intOf s m args below meth c Q m_cls D A 4 103 [] (m_cw ad ca ky ty u32_rt u32_Ni u32_Np u32_No u32_Nx u32_Nf u32_Na u32_Nh u32_Nq u32_Nj u32_M0 u32_M1) [(2, .int q.2.1)])) : o_At p l e rm_MM_intOf s m args below meth c Q m_cls D A 4 95 [.int y1, .int y0] (m_cw ad ca ky ty u32_rt u32_Ni u32_Np u32_No u32_Nx u32_Nf u32_Na u32_Nh u32_Nq u32_Nj u32_M0 u32_M1) [(0, .ref (ad 0)), (1, .int u32_x1), (3, .int x3)] := by
  unfold m_MM_intOf_j95 at h
  intro H locs ls hP hS hl
  have C0 := C
  obtain ⟨hx, hb, -, -, -, hown, hts, hK, -, -⟩ := C0
  refine lv_iadd hx hb d_MM_intOf_95 ?_
  refine lv_topi (fun x2_96 ex2_96 => ?_)
  replace h := o_nm_at ex2_96 h
  refine lv_istore_n (lv' := [(2, .int x2_96), (0, .ref (ad 0)), (1, .int u32_x1), (3, .int x3)]) hx hb d_MM_intOf_96 rfl hl (by decide) rfl (fun ls hl => ?_)
  obtain ⟨x3_97, ex3_97⟩ : ∃ y : Int32, y = x3 + (1:Int32) := ⟨_, rfl⟩
  replace h := o_nm_at ex3_97 h
  refine lv_iinc (v := x3_97) (lv' := [(3, .int x3_97), (2, .int x2_96), (0, .ref (ad 0)), (1, .int u32_x1)]) hx hb d_MM_intOf_97 hl (k := 3) rfl (by rw [ex3_97]; rfl) (by decide) rfl (fun ls hl => ?_)
  refine lv_goto (tgt := 32) hx hb d_MM_intOf_100 (by decide) ?_
  cases h
  exact h0 rfl _ _ _ hP hS (lv_sub hl [2, 3, 1, 0] rfl)
set_option maxHeartbeats 4000000 in
set_option maxRecDepth 100000 in
theorem f_MM_intOf_b32 {E : (Nat → Prop) → State → Heap → Prop} {p : Program} {l : Launch} {e : Env} {s : State} {m : MethodId} {args : Array Value} {below : List Frame} {meth : Method} {c : Code} {D : va_G} {ad kd sd vd xd : Nat → Nat} {ca : Nat → ClassId} {A : Nat → Prop} {ky ty : Nat → Option Nat} {Q : State → Prop} (hE : o_EK E kd sd vd xd) (hKy : m_KY ky ty sd) (C : o_Cx E p s m args meth c D m_cls (m_tys ca) "SchemaJudgeModel" b_MM_intOf (some .int) 4 cc_MM_intOf A) (hDD : ∀ (rt : Nat) (Ni : SNI) (Np : SNP) (No : SNO) (Nx : SNX) (Nf : SNF) (Na : SNA) (Nh : SNH) (Nq : SNQ) (Nj : SNJ) (M0 : SMT) (M1 : SMT), va_D A (m_cw ad ca ky ty rt Ni Np No Nx Nf Na Nh Nq Nj M0 M1)) (n : Nat) (u32_x1 : Int32) (u32_M0 : SMT) (u32_Ni : SNI) (u32_Np : SNP) (u32_No : SNO) (u32_Nx : SNX) (u32_Nf : SNF) (u32_Na : SNA) (u32_Nh : SNH) (u32_Nq : SNQ) (u32_Nj : SNJ) (u32_M1 : SMT) (u32_rt : Nat) (z : Int32 × Int32) (q : Nat × Int32 × Int32) (h : m_MM_intOf_b32 n u32_x1 u32_M0 z = some q) (h0 : q.1 = 0 → o_At p l e rm_MM_intOf s m args below meth c Q m_cls D A 4 32 [] (m_cw ad ca ky ty u32_rt u32_Ni u32_Np u32_No u32_Nx u32_Nf u32_Na u32_Nh u32_Nq u32_Nj u32_M0 u32_M1) [(0, .ref (ad 0)), (1, .int u32_x1), (2, .int q.2.1), (3, .int q.2.2)]) (h1 : q.1 ≠ 0 → (o_At p l e rm_MM_intOf s m args below meth c Q m_cls D A 4 103 [] (m_cw ad ca ky ty u32_rt u32_Ni u32_Np u32_No u32_Nx u32_Nf u32_Na u32_Nh u32_Nq u32_Nj u32_M0 u32_M1) [(2, .int q.2.1)])) : o_At p l e rm_MM_intOf s m args below meth c Q m_cls D A 4 32 [] (m_cw ad ca ky ty u32_rt u32_Ni u32_Np u32_No u32_Nx u32_Nf u32_Na u32_Nh u32_Nq u32_Nj u32_M0 u32_M1) [(0, .ref (ad 0)), (1, .int u32_x1), (2, .int z.1), (3, .int z.2)] := by
  unfold m_MM_intOf_b32 at h
  intro H locs ls hP hS hl
  have C0 := C
  obtain ⟨hx, hb, -, -, -, hown, hts, hK, -, -⟩ := C0
  refine lv_iload_n hx hb d_MM_intOf_32 rfl (lv_at hl 3 rfl) ?_
  refine lv_aload_n hx hb d_MM_intOf_33 rfl (lv_at hl 0 rfl) ?_
  refine o_get (v := .ref (ad 33)) C in_MM hP 0 mw_0 rfl 4 (by decide) k_7_234 rfl rfl d_MM_intOf_34 ?_
  refine o_get (v := .ref (ad 37)) C in_MT hP 33 mw_33 rfl 3 (by decide) k_7_107 rfl rfl d_MM_intOf_37 ?_
  refine lv_iload_n hx hb d_MM_intOf_40 rfl (lv_at hl 1 rfl) ?_
  obtain ⟨g4, h⟩ := o_gd_some h
  refine o_iald (f := (MT_many u32_M0)) C hP 37 35 mw_37 rfl g4 d_MM_intOf_41 ?_
  refine lv_aload_n hx hb d_MM_intOf_42 rfl (lv_at hl 0 rfl) ?_
  refine o_get (v := .ref (ad 33)) C in_MM hP 0 mw_0 rfl 4 (by decide) k_7_234 rfl rfl d_MM_intOf_43 ?_
  refine o_get (v := .ref (ad 39)) C in_MT hP 33 mw_33 rfl 5 (by decide) k_7_111 rfl rfl d_MM_intOf_46 ?_
  refine lv_iload_n hx hb d_MM_intOf_49 rfl (lv_at hl 1 rfl) ?_
  obtain ⟨g5, h⟩ := o_gd_some h
  refine o_iald (f := (MT_power u32_M0)) C hP 39 37 mw_39 rfl g5 d_MM_intOf_50 ?_
  refine lv_iadd hx hb d_MM_intOf_51 ?_
  refine lv_icmp_ge (tgt := 103) hx hb d_MM_intOf_52 (by decide) (fun c6 => ?_) (fun c6 => ?_)
  · replace h := o_tt c6 h
    cases h
    exact h1 (Nat.succ_ne_zero 0) _ _ _ hP hS (lv_sub hl [2] rfl)
  · replace h := o_ff c6 h
    refine lv_bipush (v := (10:Int32)) hx hb d_MM_intOf_55 (by decide) ?_
    refine lv_iload_n hx hb d_MM_intOf_57 rfl (lv_at hl 2 rfl) ?_
    refine lv_imul hx hb d_MM_intOf_58 ?_
    refine lv_iload_n hx hb d_MM_intOf_59 rfl (lv_at hl 3 rfl) ?_
    refine lv_aload_n hx hb d_MM_intOf_60 rfl (lv_at hl 0 rfl) ?_
    refine o_get (v := .ref (ad 33)) C in_MM hP 0 mw_0 rfl 4 (by decide) k_7_234 rfl rfl d_MM_intOf_61 ?_
    refine o_get (v := .ref (ad 37)) C in_MT hP 33 mw_33 rfl 3 (by decide) k_7_107 rfl rfl d_MM_intOf_64 ?_
    refine lv_iload_n hx hb d_MM_intOf_67 rfl (lv_at hl 1 rfl) ?_
    obtain ⟨g7, h⟩ := o_gd_some h
    refine o_iald (f := (MT_many u32_M0)) C hP 37 35 mw_37 rfl g7 d_MM_intOf_68 ?_
    refine lv_icmp_ge (tgt := 94) hx hb d_MM_intOf_69 (by decide) (fun c8 => ?_) (fun c8 => ?_)
    · replace h := o_tt c8 h
      refine lv_iconst (v := (0:Int32)) hx hb d_MM_intOf_94 (by decide) ?_
      exact f_MM_intOf_j95 hE hKy C hDD n u32_x1 u32_M0 u32_Ni u32_Np u32_No u32_Nx u32_Nf u32_Na u32_Nh u32_Nq u32_Nj u32_M1 u32_rt z.2 ((10:Int32) * z.1) (0:Int32) h h0 h1 _ _ _ hP hS (lv_sub hl [0, 1, 3] rfl)
    · replace h := o_ff c8 h
      refine lv_aload_n hx hb d_MM_intOf_72 rfl (lv_at hl 0 rfl) ?_
      refine o_get (v := .ref (ad 33)) C in_MM hP 0 mw_0 rfl 4 (by decide) k_7_234 rfl rfl d_MM_intOf_73 ?_
      refine o_get (v := .ref (ad 45)) C in_MT hP 33 mw_33 rfl 11 (by decide) k_7_123 rfl rfl d_MM_intOf_76 ?_
      refine lv_aload_n hx hb d_MM_intOf_79 rfl (lv_at hl 0 rfl) ?_
      refine o_get (v := .ref (ad 33)) C in_MM hP 0 mw_0 rfl 4 (by decide) k_7_234 rfl rfl d_MM_intOf_80 ?_
      refine o_get (v := .ref (ad 43)) C in_MT hP 33 mw_33 rfl 9 (by decide) k_7_119 rfl rfl d_MM_intOf_83 ?_
      refine lv_iload_n hx hb d_MM_intOf_86 rfl (lv_at hl 1 rfl) ?_
      obtain ⟨g9, h⟩ := o_gd_some h
      refine o_iald (f := (MT_from u32_M0)) C hP 43 41 mw_43 rfl g9 d_MM_intOf_87 ?_
      refine lv_iload_n hx hb d_MM_intOf_88 rfl (lv_at hl 3 rfl) ?_
      refine lv_iadd hx hb d_MM_intOf_89 ?_
      obtain ⟨g10, h⟩ := o_gd_some h
      refine o_iald (f := (MT_digits u32_M0)) C hP 45 43 mw_45 rfl g10 d_MM_intOf_90 ?_
      refine lv_goto (tgt := 95) hx hb d_MM_intOf_91 (by decide) ?_
      exact f_MM_intOf_j95 hE hKy C hDD n u32_x1 u32_M0 u32_Ni u32_Np u32_No u32_Nx u32_Nf u32_Na u32_Nh u32_Nq u32_Nj u32_M1 u32_rt z.2 ((10:Int32) * z.1) ((MT_digits u32_M0) (((MT_from u32_M0) u32_x1.toNatClampNeg) + z.2).toNatClampNeg) h h0 h1 _ _ _ hP hS (lv_sub hl [0, 1, 3] rfl)
set_option maxHeartbeats 4000000 in
set_option maxRecDepth 100000 in
theorem e_MM_intOf {E : (Nat → Prop) → State → Heap → Prop} {D : va_G} {ad kd sd vd xd : Nat → Nat} {ca : Nat → ClassId} {ky ty : Nat → Option Nat} (hE : o_EK E kd sd vd xd) (hKy : m_KY ky ty sd) (l : Launch) (n : Nat) (x1 : Int32) (M0 : SMT) (Ni : SNI) (Np : SNP) (No : SNO) (Nx : SNX) (Nf : SNF) (Na : SNA) (Nh : SNH) (Nq : SNQ) (Nj : SNJ) (M1 : SMT) (rt : Nat) {r : Int32} (h : m_MM_intOf n x1 M0 = some r) : o_Cn E l D m_cls (m_tys ca) y_MM_intOf cc_MM_intOf rm_MM_intOf [.ref (ad 0), .int x1] (m_cw ad ca ky ty rt Ni Np No Nx Nf Na Nh Nq Nj M0 M1) (m_cw ad ca ky ty rt Ni Np No Nx Nf Na Nh Nq Nj M0 M1) (some (.int r)) := by
  refine o_Cn_of (by decide) (Nat.le_of_ble_eq_true rfl) ?_
  intro p e s m below meth c A ls C hD hP hS hl
  have hDD : ∀ (rt : Nat) (Ni : SNI) (Np : SNP) (No : SNO) (Nx : SNX) (Nf : SNF) (Na : SNA) (Nh : SNH) (Nq : SNQ) (Nj : SNJ) (M0 : SMT) (M1 : SMT), va_D A (m_cw ad ca ky ty rt Ni Np No Nx Nf Na Nh Nq Nj M0 M1) := fun _ _ _ _ _ _ _ _ _ _ _ _ => o_D_map hD rfl
  have hl : lv_has ls 4 [(0, .ref (ad 0)), (1, .int x1)] := hl
  unfold m_MM_intOf at h
  have C0 := C
  obtain ⟨hx, hb, -, -, -, hown, hts, hK, -, -⟩ := C0
  refine lv_aload_n hx hb d_MM_intOf_0 rfl (lv_at hl 0 rfl) ?_
  refine o_get (v := .ref (ad 33)) C in_MM hP 0 mw_0 rfl 4 (by decide) k_7_234 rfl rfl d_MM_intOf_1 ?_
  refine o_get (v := .ref (ad 37)) C in_MT hP 33 mw_33 rfl 3 (by decide) k_7_107 rfl rfl d_MM_intOf_4 ?_
  refine lv_iload_n hx hb d_MM_intOf_7 rfl (lv_at hl 1 rfl) ?_
  obtain ⟨g1, h⟩ := o_gd_some h
  refine o_iald (f := (MT_many M0)) C hP 37 35 mw_37 rfl g1 d_MM_intOf_8 ?_
  refine lv_aload_n hx hb d_MM_intOf_9 rfl (lv_at hl 0 rfl) ?_
  refine o_get (v := .ref (ad 33)) C in_MM hP 0 mw_0 rfl 4 (by decide) k_7_234 rfl rfl d_MM_intOf_10 ?_
  refine o_get (v := .ref (ad 39)) C in_MT hP 33 mw_33 rfl 5 (by decide) k_7_111 rfl rfl d_MM_intOf_13 ?_
  refine lv_iload_n hx hb d_MM_intOf_16 rfl (lv_at hl 1 rfl) ?_
  obtain ⟨g2, h⟩ := o_gd_some h
  refine o_iald (f := (MT_power M0)) C hP 39 37 mw_39 rfl g2 d_MM_intOf_17 ?_
  refine lv_iadd hx hb d_MM_intOf_18 ?_
  refine lv_bipush (v := (7:Int32)) hx hb d_MM_intOf_19 (by decide) ?_
  refine lv_icmp_le (tgt := 28) hx hb d_MM_intOf_21 (by decide) (fun c3 => ?_) (fun c3 => ?_)
  · replace h := o_tt c3 h
    refine lv_iconst (v := (0:Int32)) hx hb d_MM_intOf_28 (by decide) ?_
    refine lv_istore_n (lv' := [(2, .int (0:Int32)), (0, .ref (ad 0)), (1, .int x1)]) hx hb d_MM_intOf_29 rfl hl (by decide) rfl (fun ls hl => ?_)
    refine lv_iconst (v := (0:Int32)) hx hb d_MM_intOf_30 (by decide) ?_
    refine lv_istore_n (lv' := [(3, .int (0:Int32)), (2, .int (0:Int32)), (0, .ref (ad 0)), (1, .int x1)]) hx hb d_MM_intOf_31 rfl hl (by decide) rfl (fun ls hl => ?_)
    obtain ⟨q1, hq1, h⟩ := o_bd_some h
    refine o_sim2 (AH := fun zz => o_At p l e rm_MM_intOf s m _ below meth c _ m_cls D A 4 32 [] (m_cw ad ca ky ty rt Ni Np No Nx Nf Na Nh Nq Nj M0 M1) [(0, .ref (ad 0)), (1, .int x1), (2, .int zz.1), (3, .int zz.2)]) (AX := fun qq => o_At p l e rm_MM_intOf s m _ below meth c _ m_cls D A 4 103 [] (m_cw ad ca ky ty rt Ni Np No Nx Nf Na Nh Nq Nj M0 M1) [(2, .int qq.2.1)]) (fun zz qq h h0 h1 => f_MM_intOf_b32 hE hKy C hDD n x1 M0 Ni Np No Nx Nf Na Nh Nq Nj M1 rt zz qq h h0 h1) n _ q1 hq1 ?_ _ _ _ hP hS (lv_sub hl [2, 3, 1, 0] rfl)
    intro H locs ls hP hS hl
    refine lv_iload_n hx hb d_MM_intOf_103 rfl (lv_at hl 0 rfl) ?_
    cases h
    exact o_ri C hP hS d_MM_intOf_104
  · replace h := o_ff c3 h
    refine lv_ldcw (v := (2000000:Int32)) hx hb hown (hts _ k_9_157) d_MM_intOf_24 ?_
    cases h
    exact o_ri (v := (2000000:Int32)) C hP hS d_MM_intOf_27
set_option maxHeartbeats 4000000 in
set_option maxRecDepth 100000 in
theorem e_MM_isName {E : (Nat → Prop) → State → Heap → Prop} {D : va_G} {ad kd sd vd xd : Nat → Nat} {ca : Nat → ClassId} {ky ty : Nat → Option Nat} (hE : o_EK E kd sd vd xd) (hKy : m_KY ky ty sd) (l : Launch) (x0 : Int32) (x1 : Int32) (Ni : SNI) (Np : SNP) (No : SNO) (Nx : SNX) (Nf : SNF) (Na : SNA) (Nh : SNH) (Nq : SNQ) (Nj : SNJ) (M0 : SMT) (M1 : SMT) (rt : Nat) {r : Int32} (h : m_MM_isName x0 x1 = some r) : o_Cn E l D m_cls (m_tys ca) y_MM_isName cc_MM_isName rm_MM_isName [.int x0, .int x1] (m_cw ad ca ky ty rt Ni Np No Nx Nf Na Nh Nq Nj M0 M1) (m_cw ad ca ky ty rt Ni Np No Nx Nf Na Nh Nq Nj M0 M1) (some (.int r)) := by
  refine o_Cn_of (by decide) (Nat.le_of_ble_eq_true rfl) ?_
  intro p e s m below meth c A ls C hD hP hS hl
  have hDD : ∀ (rt : Nat) (Ni : SNI) (Np : SNP) (No : SNO) (Nx : SNX) (Nf : SNF) (Na : SNA) (Nh : SNH) (Nq : SNQ) (Nj : SNJ) (M0 : SMT) (M1 : SMT), va_D A (m_cw ad ca ky ty rt Ni Np No Nx Nf Na Nh Nq Nj M0 M1) := fun _ _ _ _ _ _ _ _ _ _ _ _ => o_D_map hD rfl
  have hl : lv_has ls 2 [(0, .int x0), (1, .int x1)] := hl
  unfold m_MM_isName at h
  have C0 := C
  obtain ⟨hx, hb, -, -, -, hown, hts, hK, -, -⟩ := C0
  refine lv_iload_n hx hb d_MM_isName_0 rfl (lv_at hl 0 rfl) ?_
  refine lv_bipush (v := (97:Int32)) hx hb d_MM_isName_1 (by decide) ?_
  refine lv_bipush (v := (122:Int32)) hx hb d_MM_isName_3 (by decide) ?_
  obtain ⟨q1, hq1, h⟩ := o_bd_some h
  refine o_S (st1 := [.int q1]) (w1 := (m_cw ad ca ky ty rt Ni Np No Nx Nf Na Nh Nq Nj M0 M1)) hE.1 C (e_MM_in hE hKy l x0 (97:Int32) (122:Int32) Ni Np No Nx Nf Na Nh Nq Nj M0 M1 rt hq1) hP (hDD _ _ _ _ _ _ _ _ _ _ _ _) hS hl.1 k_9_41 k_8_201 k_1_12 k_8_202 hs_MM_in rfl rfl ⟨(Nat.le_of_ble_eq_true rfl), (Nat.le_of_ble_eq_true rfl)⟩ rfl (Nat.le_of_ble_eq_true rfl) ⟨Nat.zero_le _, Nat.zero_le _⟩ rfl d_MM_isName_5 (fun H locs hP hS => ?_)
  refine lv_if_ne (tgt := 55) hx hb d_MM_isName_8 (by decide) (fun c1 => ?_) (fun c1 => ?_)
  · replace h := o_ff c1 h
    refine lv_iconst (v := (1:Int32)) hx hb d_MM_isName_55 (by decide) ?_
    refine lv_goto (tgt := 60) hx hb d_MM_isName_56 (by decide) ?_
    cases h
    exact o_rz (v := (1:Int32)) C o_nar1 hP hS d_MM_isName_60
  · replace h := o_tt c1 h
    refine lv_iload_n hx hb d_MM_isName_11 rfl (lv_at hl 0 rfl) ?_
    refine lv_bipush (v := (65:Int32)) hx hb d_MM_isName_12 (by decide) ?_
    refine lv_bipush (v := (90:Int32)) hx hb d_MM_isName_14 (by decide) ?_
    obtain ⟨q2, hq2, h⟩ := o_bd_some h
    refine o_S (st1 := [.int q2]) (w1 := (m_cw ad ca ky ty rt Ni Np No Nx Nf Na Nh Nq Nj M0 M1)) hE.1 C (e_MM_in hE hKy l x0 (65:Int32) (90:Int32) Ni Np No Nx Nf Na Nh Nq Nj M0 M1 rt hq2) hP (hDD _ _ _ _ _ _ _ _ _ _ _ _) hS hl.1 k_9_41 k_8_201 k_1_12 k_8_202 hs_MM_in rfl rfl ⟨(Nat.le_of_ble_eq_true rfl), (Nat.le_of_ble_eq_true rfl)⟩ rfl (Nat.le_of_ble_eq_true rfl) ⟨Nat.zero_le _, Nat.zero_le _⟩ rfl d_MM_isName_16 (fun H locs hP hS => ?_)
    refine lv_if_ne (tgt := 55) hx hb d_MM_isName_19 (by decide) (fun c2 => ?_) (fun c2 => ?_)
    · replace h := o_ff c2 h
      refine lv_iconst (v := (1:Int32)) hx hb d_MM_isName_55 (by decide) ?_
      refine lv_goto (tgt := 60) hx hb d_MM_isName_56 (by decide) ?_
      cases h
      exact o_rz (v := (1:Int32)) C o_nar1 hP hS d_MM_isName_60
    · replace h := o_tt c2 h
      refine lv_iload_n hx hb d_MM_isName_22 rfl (lv_at hl 0 rfl) ?_
      refine lv_bipush (v := (95:Int32)) hx hb d_MM_isName_23 (by decide) ?_
      refine lv_icmp_eq (tgt := 55) hx hb d_MM_isName_25 (by decide) (fun c3 => ?_) (fun c3 => ?_)
      · replace h := o_tt c3 h
        refine lv_iconst (v := (1:Int32)) hx hb d_MM_isName_55 (by decide) ?_
        refine lv_goto (tgt := 60) hx hb d_MM_isName_56 (by decide) ?_
        cases h
        exact o_rz (v := (1:Int32)) C o_nar1 hP hS d_MM_isName_60
      · replace h := o_ff c3 h
        refine lv_iload_n hx hb d_MM_isName_28 rfl (lv_at hl 1 rfl) ?_
        refine lv_if_ne (tgt := 59) hx hb d_MM_isName_29 (by decide) (fun c4 => ?_) (fun c4 => ?_)
        · replace h := o_ff c4 h
          refine lv_iconst (v := (0:Int32)) hx hb d_MM_isName_59 (by decide) ?_
          cases h
          exact o_rz (v := (0:Int32)) C o_nar0 hP hS d_MM_isName_60
        · replace h := o_tt c4 h
          refine lv_iload_n hx hb d_MM_isName_32 rfl (lv_at hl 0 rfl) ?_
          refine lv_bipush (v := (48:Int32)) hx hb d_MM_isName_33 (by decide) ?_
          refine lv_bipush (v := (57:Int32)) hx hb d_MM_isName_35 (by decide) ?_
          obtain ⟨q3, hq3, h⟩ := o_bd_some h
          refine o_S (st1 := [.int q3]) (w1 := (m_cw ad ca ky ty rt Ni Np No Nx Nf Na Nh Nq Nj M0 M1)) hE.1 C (e_MM_in hE hKy l x0 (48:Int32) (57:Int32) Ni Np No Nx Nf Na Nh Nq Nj M0 M1 rt hq3) hP (hDD _ _ _ _ _ _ _ _ _ _ _ _) hS hl.1 k_9_41 k_8_201 k_1_12 k_8_202 hs_MM_in rfl rfl ⟨(Nat.le_of_ble_eq_true rfl), (Nat.le_of_ble_eq_true rfl)⟩ rfl (Nat.le_of_ble_eq_true rfl) ⟨Nat.zero_le _, Nat.zero_le _⟩ rfl d_MM_isName_37 (fun H locs hP hS => ?_)
          refine lv_if_ne (tgt := 55) hx hb d_MM_isName_40 (by decide) (fun c5 => ?_) (fun c5 => ?_)
          · replace h := o_ff c5 h
            refine lv_iconst (v := (1:Int32)) hx hb d_MM_isName_55 (by decide) ?_
            refine lv_goto (tgt := 60) hx hb d_MM_isName_56 (by decide) ?_
            cases h
            exact o_rz (v := (1:Int32)) C o_nar1 hP hS d_MM_isName_60
          · replace h := o_tt c5 h
            refine lv_iload_n hx hb d_MM_isName_43 rfl (lv_at hl 0 rfl) ?_
            refine lv_bipush (v := (45:Int32)) hx hb d_MM_isName_44 (by decide) ?_
            refine lv_icmp_eq (tgt := 55) hx hb d_MM_isName_46 (by decide) (fun c6 => ?_) (fun c6 => ?_)
            · replace h := o_tt c6 h
              refine lv_iconst (v := (1:Int32)) hx hb d_MM_isName_55 (by decide) ?_
              refine lv_goto (tgt := 60) hx hb d_MM_isName_56 (by decide) ?_
              cases h
              exact o_rz (v := (1:Int32)) C o_nar1 hP hS d_MM_isName_60
            · replace h := o_ff c6 h
              refine lv_iload_n hx hb d_MM_isName_49 rfl (lv_at hl 0 rfl) ?_
              refine lv_bipush (v := (46:Int32)) hx hb d_MM_isName_50 (by decide) ?_
              refine lv_icmp_ne (tgt := 59) hx hb d_MM_isName_52 (by decide) (fun c7 => ?_) (fun c7 => ?_)
              · replace h := o_ff c7 h
                refine lv_iconst (v := (0:Int32)) hx hb d_MM_isName_59 (by decide) ?_
                cases h
                exact o_rz (v := (0:Int32)) C o_nar0 hP hS d_MM_isName_60
              · replace h := o_tt c7 h
                refine lv_iconst (v := (1:Int32)) hx hb d_MM_isName_55 (by decide) ?_
                refine lv_goto (tgt := 60) hx hb d_MM_isName_56 (by decide) ?_
                cases h
                exact o_rz (v := (1:Int32)) C o_nar1 hP hS d_MM_isName_60
set_option maxHeartbeats 4000000 in
set_option maxRecDepth 100000 in
theorem f_MM_anchor_j82 {E : (Nat → Prop) → State → Heap → Prop} {p : Program} {l : Launch} {e : Env} {s : State} {m : MethodId} {args : Array Value} {below : List Frame} {meth : Method} {c : Code} {D : va_G} {ad kd sd vd xd : Nat → Nat} {ca : Nat → ClassId} {A : Nat → Prop} {ky ty : Nat → Option Nat} {Q : State → Prop} (hE : o_EK E kd sd vd xd) (hKy : m_KY ky ty sd) (C : o_Cx E p s m args meth c D m_cls (m_tys ca) "SchemaJudgeModel" b_MM_anchor none 5 cc_MM_anchor A) (hDD : ∀ (rt : Nat) (Ni : SNI) (Np : SNP) (No : SNO) (Nx : SNX) (Nf : SNF) (Na : SNA) (Nh : SNH) (Nq : SNQ) (Nj : SNJ) (M0 : SMT) (M1 : SMT), va_D A (m_cw ad ca ky ty rt Ni Np No Nx Nf Na Nh Nq Nj M0 M1)) (n : Nat) (u34_x1 : Int32) (u34_x2 : Int32) (u34_M0 : SMT) (u34_Nf : SNF) (u34_Na : SNA) (u34_Ni : SNI) (u34_Np : SNP) (u34_No : SNO) (u34_Nx : SNX) (u34_Nh : SNH) (u34_Nq : SNQ) (u34_Nj : SNJ) (u34_M1 : SMT) (u34_rt : Nat) (x4 : Int32) (y0 : Int32) (y1 : Int32) {q : Nat × Int32 × Int32} (h : m_MM_anchor_j82 n u34_x1 u34_x2 x4 y0 y1 u34_M0 u34_Nf u34_Na = some q) (h0 : q.1 = 0 → o_At p l e rm_MM_anchor s m args below meth c Q m_cls D A 5 34 [] (m_cw ad ca ky ty u34_rt u34_Ni u34_Np u34_No u34_Nx u34_Nf u34_Na u34_Nh u34_Nq u34_Nj u34_M0 u34_M1) [(0, .ref (ad 0)), (1, .int u34_x1), (2, .int u34_x2), (3, .int q.2.1), (4, .int q.2.2)]) (h1 : q.1 ≠ 0 → (o_At p l e rm_MM_anchor s m args below meth c Q m_cls D A 5 92 [] (m_cw ad ca ky ty u34_rt u34_Ni u34_Np u34_No u34_Nx u34_Nf u34_Na u34_Nh u34_Nq u34_Nj u34_M0 u34_M1) [(0, .ref (ad 0)), (1, .int u34_x1), (2, .int u34_x2), (3, .int q.2.1)])) : o_At p l e rm_MM_anchor s m args below meth c Q m_cls D A 5 82 [.int y1, .int y0] (m_cw ad ca ky ty u34_rt u34_Ni u34_Np u34_No u34_Nx u34_Nf u34_Na u34_Nh u34_Nq u34_Nj u34_M0 u34_M1) [(0, .ref (ad 0)), (1, .int u34_x1), (2, .int u34_x2), (4, .int x4)] := by
  unfold m_MM_anchor_j82 at h
  intro H locs ls hP hS hl
  have C0 := C
  obtain ⟨hx, hb, -, -, -, hown, hts, hK, -, -⟩ := C0
  obtain ⟨q1, hq1, h⟩ := o_bd_some h
  refine o_S (st1 := [.int q1]) (w1 := (m_cw ad ca ky ty u34_rt u34_Ni u34_Np u34_No u34_Nx u34_Nf u34_Na u34_Nh u34_Nq u34_Nj u34_M0 u34_M1)) hE.1 C (e_MM_isName hE hKy l y0 y1 u34_Ni u34_Np u34_No u34_Nx u34_Nf u34_Na u34_Nh u34_Nq u34_Nj u34_M0 u34_M1 u34_rt hq1) hP (hDD _ _ _ _ _ _ _ _ _ _ _ _) hS hl.1 k_9_163 k_9_164 k_1_12 k_9_165 hs_MM_isName rfl rfl ⟨(Nat.le_of_ble_eq_true rfl), (Nat.le_of_ble_eq_true rfl)⟩ rfl (Nat.le_of_ble_eq_true rfl) ⟨Nat.zero_le _, Nat.zero_le _⟩ rfl d_MM_anchor_82 (fun H locs hP hS => ?_)
  refine lv_istore_n (lv' := [(3, .int q1), (0, .ref (ad 0)), (1, .int u34_x1), (2, .int u34_x2), (4, .int x4)]) hx hb d_MM_anchor_85 rfl hl (by decide) rfl (fun ls hl => ?_)
  obtain ⟨x4_86, ex4_86⟩ : ∃ y : Int32, y = x4 + (1:Int32) := ⟨_, rfl⟩
  replace h := o_nm_at ex4_86 h
  refine lv_iinc (v := x4_86) (lv' := [(4, .int x4_86), (3, .int q1), (0, .ref (ad 0)), (1, .int u34_x1), (2, .int u34_x2)]) hx hb d_MM_anchor_86 hl (k := 4) rfl (by rw [ex4_86]; rfl) (by decide) rfl (fun ls hl => ?_)
  refine lv_goto (tgt := 34) hx hb d_MM_anchor_89 (by decide) ?_
  cases h
  exact h0 rfl _ _ _ hP hS (lv_sub hl [2, 3, 4, 1, 0] rfl)
set_option maxHeartbeats 4000000 in
set_option maxRecDepth 100000 in
theorem f_MM_anchor_b34 {E : (Nat → Prop) → State → Heap → Prop} {p : Program} {l : Launch} {e : Env} {s : State} {m : MethodId} {args : Array Value} {below : List Frame} {meth : Method} {c : Code} {D : va_G} {ad kd sd vd xd : Nat → Nat} {ca : Nat → ClassId} {A : Nat → Prop} {ky ty : Nat → Option Nat} {Q : State → Prop} (hE : o_EK E kd sd vd xd) (hKy : m_KY ky ty sd) (C : o_Cx E p s m args meth c D m_cls (m_tys ca) "SchemaJudgeModel" b_MM_anchor none 5 cc_MM_anchor A) (hDD : ∀ (rt : Nat) (Ni : SNI) (Np : SNP) (No : SNO) (Nx : SNX) (Nf : SNF) (Na : SNA) (Nh : SNH) (Nq : SNQ) (Nj : SNJ) (M0 : SMT) (M1 : SMT), va_D A (m_cw ad ca ky ty rt Ni Np No Nx Nf Na Nh Nq Nj M0 M1)) (n : Nat) (u34_x1 : Int32) (u34_x2 : Int32) (u34_M0 : SMT) (u34_Nf : SNF) (u34_Na : SNA) (u34_Ni : SNI) (u34_Np : SNP) (u34_No : SNO) (u34_Nx : SNX) (u34_Nh : SNH) (u34_Nq : SNQ) (u34_Nj : SNJ) (u34_M1 : SMT) (u34_rt : Nat) (z : Int32 × Int32) (q : Nat × Int32 × Int32) (h : m_MM_anchor_b34 n u34_x1 u34_x2 u34_M0 u34_Nf u34_Na z = some q) (h0 : q.1 = 0 → o_At p l e rm_MM_anchor s m args below meth c Q m_cls D A 5 34 [] (m_cw ad ca ky ty u34_rt u34_Ni u34_Np u34_No u34_Nx u34_Nf u34_Na u34_Nh u34_Nq u34_Nj u34_M0 u34_M1) [(0, .ref (ad 0)), (1, .int u34_x1), (2, .int u34_x2), (3, .int q.2.1), (4, .int q.2.2)]) (h1 : q.1 ≠ 0 → (o_At p l e rm_MM_anchor s m args below meth c Q m_cls D A 5 92 [] (m_cw ad ca ky ty u34_rt u34_Ni u34_Np u34_No u34_Nx u34_Nf u34_Na u34_Nh u34_Nq u34_Nj u34_M0 u34_M1) [(0, .ref (ad 0)), (1, .int u34_x1), (2, .int u34_x2), (3, .int q.2.1)])) : o_At p l e rm_MM_anchor s m args below meth c Q m_cls D A 5 34 [] (m_cw ad ca ky ty u34_rt u34_Ni u34_Np u34_No u34_Nx u34_Nf u34_Na u34_Nh u34_Nq u34_Nj u34_M0 u34_M1) [(0, .ref (ad 0)), (1, .int u34_x1), (2, .int u34_x2), (3, .int z.1), (4, .int z.2)] := by
  unfold m_MM_anchor_b34 at h
  intro H locs ls hP hS hl
  have C0 := C
  obtain ⟨hx, hb, -, -, -, hown, hts, hK, -, -⟩ := C0
  refine lv_iload_n hx hb d_MM_anchor_34 rfl (lv_at hl 3 rfl) ?_
  refine lv_if_eq (tgt := 92) hx hb d_MM_anchor_35 (by decide) (fun c3 => ?_) (fun c3 => ?_)
  · replace h := o_tt c3 h
    cases h
    exact h1 (Nat.succ_ne_zero 0) _ _ _ hP hS (lv_sub hl [0, 1, 2, 3] rfl)
  · replace h := o_ff c3 h
    refine lv_iload hx hb d_MM_anchor_38 (lv_at hl 4 rfl) ?_
    refine lv_aload_n hx hb d_MM_anchor_40 rfl (lv_at hl 0 rfl) ?_
    refine o_get (v := .ref (ad 33)) C in_MM hP 0 mw_0 rfl 4 (by decide) k_7_234 rfl rfl d_MM_anchor_41 ?_
    refine o_get (v := .ref (ad 37)) C in_MT hP 33 mw_33 rfl 3 (by decide) k_7_107 rfl rfl d_MM_anchor_44 ?_
    refine lv_iload_n hx hb d_MM_anchor_47 rfl (lv_at hl 1 rfl) ?_
    obtain ⟨g4, h⟩ := o_gd_some h
    refine o_iald (f := (MT_many u34_M0)) C hP 37 35 mw_37 rfl g4 d_MM_anchor_48 ?_
    refine lv_icmp_ge (tgt := 92) hx hb d_MM_anchor_49 (by decide) (fun c5 => ?_) (fun c5 => ?_)
    · replace h := o_tt c5 h
      cases h
      exact h1 (Nat.succ_ne_zero 0) _ _ _ hP hS (lv_sub hl [0, 1, 2, 3] rfl)
    · replace h := o_ff c5 h
      refine lv_aload_n hx hb d_MM_anchor_52 rfl (lv_at hl 0 rfl) ?_
      refine o_get (v := .ref (ad 33)) C in_MM hP 0 mw_0 rfl 4 (by decide) k_7_234 rfl rfl d_MM_anchor_53 ?_
      refine o_get (v := .ref (ad 44)) C in_MT hP 33 mw_33 rfl 10 (by decide) k_7_121 rfl rfl d_MM_anchor_56 ?_
      refine lv_aload_n hx hb d_MM_anchor_59 rfl (lv_at hl 0 rfl) ?_
      refine o_get (v := .ref (ad 33)) C in_MM hP 0 mw_0 rfl 4 (by decide) k_7_234 rfl rfl d_MM_anchor_60 ?_
      refine o_get (v := .ref (ad 43)) C in_MT hP 33 mw_33 rfl 9 (by decide) k_7_119 rfl rfl d_MM_anchor_63 ?_
      refine lv_iload_n hx hb d_MM_anchor_66 rfl (lv_at hl 1 rfl) ?_
      obtain ⟨g6, h⟩ := o_gd_some h
      refine o_iald (f := (MT_from u34_M0)) C hP 43 41 mw_43 rfl g6 d_MM_anchor_67 ?_
      refine lv_iload hx hb d_MM_anchor_68 (lv_at hl 4 rfl) ?_
      refine lv_iadd hx hb d_MM_anchor_70 ?_
      obtain ⟨g7, h⟩ := o_gd_some h
      refine o_iald (f := (MT_characters u34_M0)) C hP 44 42 mw_44 rfl g7 d_MM_anchor_71 ?_
      refine lv_iload hx hb d_MM_anchor_72 (lv_at hl 4 rfl) ?_
      refine lv_if_ne (tgt := 81) hx hb d_MM_anchor_74 (by decide) (fun c8 => ?_) (fun c8 => ?_)
      · replace h := o_ff c8 h
        refine lv_iconst (v := (0:Int32)) hx hb d_MM_anchor_81 (by decide) ?_
        exact f_MM_anchor_j82 hE hKy C hDD n u34_x1 u34_x2 u34_M0 u34_Nf u34_Na u34_Ni u34_Np u34_No u34_Nx u34_Nh u34_Nq u34_Nj u34_M1 u34_rt z.2 ((MT_characters u34_M0) (((MT_from u34_M0) u34_x1.toNatClampNeg) + z.2).toNatClampNeg) (0:Int32) h h0 h1 _ _ _ hP hS (lv_sub hl [0, 1, 2, 4] rfl)
      · replace h := o_tt c8 h
        refine lv_iconst (v := (1:Int32)) hx hb d_MM_anchor_77 (by decide) ?_
        refine lv_goto (tgt := 82) hx hb d_MM_anchor_78 (by decide) ?_
        exact f_MM_anchor_j82 hE hKy C hDD n u34_x1 u34_x2 u34_M0 u34_Nf u34_Na u34_Ni u34_Np u34_No u34_Nx u34_Nh u34_Nq u34_Nj u34_M1 u34_rt z.2 ((MT_characters u34_M0) (((MT_from u34_M0) u34_x1.toNatClampNeg) + z.2).toNatClampNeg) (1:Int32) h h0 h1 _ _ _ hP hS (lv_sub hl [0, 1, 2, 4] rfl)
set_option maxHeartbeats 4000000 in
set_option maxRecDepth 100000 in
theorem f_MM_anchor_b106 {E : (Nat → Prop) → State → Heap → Prop} {p : Program} {l : Launch} {e : Env} {s : State} {m : MethodId} {args : Array Value} {below : List Frame} {meth : Method} {c : Code} {D : va_G} {ad kd sd vd xd : Nat → Nat} {ca : Nat → ClassId} {A : Nat → Prop} {ky ty : Nat → Option Nat} {Q : State → Prop} (hE : o_EK E kd sd vd xd) (hKy : m_KY ky ty sd) (C : o_Cx E p s m args meth c D m_cls (m_tys ca) "SchemaJudgeModel" b_MM_anchor none 5 cc_MM_anchor A) (hDD : ∀ (rt : Nat) (Ni : SNI) (Np : SNP) (No : SNO) (Nx : SNX) (Nf : SNF) (Na : SNA) (Nh : SNH) (Nq : SNQ) (Nj : SNJ) (M0 : SMT) (M1 : SMT), va_D A (m_cw ad ca ky ty rt Ni Np No Nx Nf Na Nh Nq Nj M0 M1)) (n : Nat) (u106_x1 : Int32) (u106_x2 : Int32) (u106_M0 : SMT) (u106_Nf : SNF) (u106_Na : SNA) (u106_Ni : SNI) (u106_Np : SNP) (u106_No : SNO) (u106_Nx : SNX) (u106_Nh : SNH) (u106_Nq : SNQ) (u106_Nj : SNJ) (u106_M1 : SMT) (u106_rt : Nat) (z : Int32) (q : Nat × Int32) (h : m_MM_anchor_b106 n u106_x1 u106_x2 u106_M0 u106_Nf u106_Na z = some q) (h0 : q.1 = 0 → o_At p l e rm_MM_anchor s m args below meth c Q m_cls D A 5 106 [] (m_cw ad ca ky ty u106_rt u106_Ni u106_Np u106_No u106_Nx u106_Nf u106_Na u106_Nh u106_Nq u106_Nj u106_M0 u106_M1) [(0, .ref (ad 0)), (1, .int u106_x1), (2, .int u106_x2), (4, .int q.2)]) (h1 : q.1 ≠ 0 → (if q.1 = 1 then o_At p l e rm_MM_anchor s m args below meth c Q m_cls D A 5 137 [] (m_cw ad ca ky ty u106_rt u106_Ni u106_Np u106_No u106_Nx u106_Nf u106_Na u106_Nh u106_Nq u106_Nj u106_M0 u106_M1) [(0, .ref (ad 0)), (1, .int u106_x1)] else o_At p l e rm_MM_anchor s m args below meth c Q m_cls D A 5 150 [] (m_cw ad ca ky ty u106_rt u106_Ni u106_Np u106_No u106_Nx u106_Nf u106_Na u106_Nh u106_Nq u106_Nj u106_M0 u106_M1) [(0, .ref (ad 0)), (1, .int u106_x1), (2, .int u106_x2)])) : o_At p l e rm_MM_anchor s m args below meth c Q m_cls D A 5 106 [] (m_cw ad ca ky ty u106_rt u106_Ni u106_Np u106_No u106_Nx u106_Nf u106_Na u106_Nh u106_Nq u106_Nj u106_M0 u106_M1) [(0, .ref (ad 0)), (1, .int u106_x1), (2, .int u106_x2), (4, .int z)] := by
  unfold m_MM_anchor_b106 at h
  intro H locs ls hP hS hl
  have C0 := C
  obtain ⟨hx, hb, -, -, -, hown, hts, hK, -, -⟩ := C0
  refine lv_iload hx hb d_MM_anchor_106 (lv_at hl 3 rfl) ?_
  refine lv_aload_n hx hb d_MM_anchor_108 rfl (lv_at hl 0 rfl) ?_
  refine o_get (v := .int (NA_anchors u106_Na)) C in_MM hP 0 mw_0 rfl 39 (by decide) k_8_29 rfl rfl d_MM_anchor_109 ?_
  refine lv_icmp_ge (tgt := 150) hx hb d_MM_anchor_112 (by decide) (fun c10 => ?_) (fun c10 => ?_)
  · replace h := o_tt c10 h
    cases h
    exact h1 (Nat.succ_ne_zero 1) _ _ _ hP hS (lv_sub hl [0, 1, 2] rfl)
  · replace h := o_ff c10 h
    refine lv_aload_n hx hb d_MM_anchor_115 rfl (lv_at hl 0 rfl) ?_
    refine o_get (v := .ref (ad 33)) C in_MM hP 0 mw_0 rfl 4 (by decide) k_7_234 rfl rfl d_MM_anchor_116 ?_
    refine lv_iload_n hx hb d_MM_anchor_119 rfl (lv_at hl 1 rfl) ?_
    refine lv_aload_n hx hb d_MM_anchor_120 rfl (lv_at hl 0 rfl) ?_
    refine o_get (v := .ref (ad 33)) C in_MM hP 0 mw_0 rfl 4 (by decide) k_7_234 rfl rfl d_MM_anchor_121 ?_
    refine lv_aload_n hx hb d_MM_anchor_124 rfl (lv_at hl 0 rfl) ?_
    refine o_get (v := .ref (ad 23)) C in_MM hP 0 mw_0 rfl 42 (by decide) k_8_32 rfl rfl d_MM_anchor_125 ?_
    refine lv_iload hx hb d_MM_anchor_128 (lv_at hl 3 rfl) ?_
    obtain ⟨g11, h⟩ := o_gd_some h
    refine o_iald (f := (NA_anchorValue u106_Na)) C hP 23 22 mw_23 rfl g11 d_MM_anchor_130 ?_
    obtain ⟨q3, hq3, h⟩ := o_bd_some h
    refine o_V (st1 := [.int q3]) (w1 := (m_cw ad ca ky ty u106_rt u106_Ni u106_Np u106_No u106_Nx u106_Nf u106_Na u106_Nh u106_Nq u106_Nj u106_M0 u106_M1)) hE.1 C (e_MT_same_aa hE hKy l n u106_x1 ((NA_anchorValue u106_Na) z.toNatClampNeg) u106_M0 u106_Ni u106_Np u106_No u106_Nx u106_Nf u106_Na u106_Nh u106_Nq u106_Nj u106_M1 u106_rt hq3) hP (hDD _ _ _ _ _ _ _ _ _ _ _ _) hS hl.1 rfl mw_33 k_9_166 k_9_26 k_9_27 k_1_13 k_9_28 hv_MT_same rfl rfl ⟨(Nat.le_of_ble_eq_true rfl), (Nat.le_of_ble_eq_true rfl)⟩ rfl (Nat.le_of_ble_eq_true rfl) ⟨Nat.zero_le _, Nat.zero_le _⟩ rfl d_MM_anchor_131 (fun H locs hP hS => ?_)
    refine lv_if_eq (tgt := 144) hx hb d_MM_anchor_134 (by decide) (fun c12 => ?_) (fun c12 => ?_)
    · replace h := o_tt c12 h
      obtain ⟨x4_144, ex4_144⟩ : ∃ y : Int32, y = z + (1:Int32) := ⟨_, rfl⟩
      replace h := o_nm_at ex4_144 h
      refine lv_iinc (v := x4_144) (lv' := [(4, .int x4_144), (0, .ref (ad 0)), (1, .int u106_x1), (2, .int u106_x2)]) hx hb d_MM_anchor_144 hl (k := 3) rfl (by rw [ex4_144]; rfl) (by decide) rfl (fun ls hl => ?_)
      refine lv_goto (tgt := 106) hx hb d_MM_anchor_147 (by decide) ?_
      cases h
      exact h0 rfl _ _ _ hP hS (lv_sub hl [1, 2, 3, 0] rfl)
    · replace h := o_ff c12 h
      cases h
      exact h1 (Nat.succ_ne_zero 0) _ _ _ hP hS (lv_sub hl [0, 1] rfl)
set_option maxHeartbeats 4000000 in
set_option maxRecDepth 100000 in
theorem f_MM_anchor_j92 {E : (Nat → Prop) → State → Heap → Prop} {p : Program} {l : Launch} {e : Env} {s : State} {m : MethodId} {args : Array Value} {below : List Frame} {meth : Method} {c : Code} {D : va_G} {ad kd sd vd xd : Nat → Nat} {ca : Nat → ClassId} {A : Nat → Prop} {ky ty : Nat → Option Nat} (hE : o_EK E kd sd vd xd) (hKy : m_KY ky ty sd) (C : o_Cx E p s m args meth c D m_cls (m_tys ca) "SchemaJudgeModel" b_MM_anchor none 5 cc_MM_anchor A) (hDD : ∀ (rt : Nat) (Ni : SNI) (Np : SNP) (No : SNO) (Nx : SNX) (Nf : SNF) (Na : SNA) (Nh : SNH) (Nq : SNQ) (Nj : SNJ) (M0 : SMT) (M1 : SMT), va_D A (m_cw ad ca ky ty rt Ni Np No Nx Nf Na Nh Nq Nj M0 M1)) (n : Nat) (x1 : Int32) (x2 : Int32) (x3 : Int32) (M0 : SMT) (Nf : SNF) (Na : SNA) (Ni : SNI) (Np : SNP) (No : SNO) (Nx : SNX) (Nh : SNH) (Nq : SNQ) (Nj : SNJ) (M1 : SMT) (rt : Nat) {r : SNF × SNA} (h : m_MM_anchor_j92 n x1 x2 x3 M0 Nf Na = some r) : o_At p l e rm_MM_anchor s m args below meth c (MQ below (o_Qx D m_cls none (m_cw ad ca ky ty rt Ni Np No Nx r.1 r.2 Nh Nq Nj M0 M1) A) args s 0 0 A) m_cls D A 5 92 [] (m_cw ad ca ky ty rt Ni Np No Nx Nf Na Nh Nq Nj M0 M1) [(0, .ref (ad 0)), (1, .int x1), (2, .int x2), (3, .int x3)] := by
  unfold m_MM_anchor_j92 at h
  intro H locs ls hP hS hl
  have C0 := C
  obtain ⟨hx, hb, -, -, -, hown, hts, hK, -, -⟩ := C0
  refine lv_iload_n hx hb d_MM_anchor_92 rfl (lv_at hl 3 rfl) ?_
  refine lv_if_ne (tgt := 103) hx hb d_MM_anchor_93 (by decide) (fun c9 => ?_) (fun c9 => ?_)
  · replace h := o_ff c9 h
    refine lv_iconst (v := (0:Int32)) hx hb d_MM_anchor_103 (by decide) ?_
    refine lv_istore (lv' := [(4, .int (0:Int32)), (0, .ref (ad 0)), (1, .int x1), (2, .int x2), (3, .int x3)]) hx hb d_MM_anchor_104 hl (by decide) rfl (fun ls hl => ?_)
    obtain ⟨q4, hq4, h⟩ := o_bd_some h
    refine o_sim2 (AH := fun zz => o_At p l e rm_MM_anchor s m args below meth c _ m_cls D A 5 106 [] (m_cw ad ca ky ty rt Ni Np No Nx Nf Na Nh Nq Nj M0 M1) [(0, .ref (ad 0)), (1, .int x1), (2, .int x2), (4, .int zz)]) (AX := fun qq => if qq.1 = 1 then o_At p l e rm_MM_anchor s m args below meth c _ m_cls D A 5 137 [] (m_cw ad ca ky ty rt Ni Np No Nx Nf Na Nh Nq Nj M0 M1) [(0, .ref (ad 0)), (1, .int x1)] else o_At p l e rm_MM_anchor s m args below meth c _ m_cls D A 5 150 [] (m_cw ad ca ky ty rt Ni Np No Nx Nf Na Nh Nq Nj M0 M1) [(0, .ref (ad 0)), (1, .int x1), (2, .int x2)]) (fun zz qq h h0 h1 => f_MM_anchor_b106 hE hKy C hDD n x1 x2 M0 Nf Na Ni Np No Nx Nh Nq Nj M1 rt zz qq h h0 h1) n _ q4 hq4 ?_ _ _ _ hP hS (lv_sub hl [1, 2, 3, 0] rfl)
    by_cases c15 : q4.1 = 1
    · replace h := o_tt c15 h
      refine o_ip c15 ?_
      intro H locs ls hP hS hl
      refine lv_aload_n hx hb d_MM_anchor_137 rfl (lv_at hl 0 rfl) ?_
      refine lv_iconst (v := (3:Int32)) hx hb d_MM_anchor_138 (by decide) ?_
      refine lv_iload_n hx hb d_MM_anchor_139 rfl (lv_at hl 1 rfl) ?_
      obtain ⟨q5, hq5, h⟩ := o_bd_some h
      refine o_V (st1 := []) (w1 := (m_cw ad ca ky ty rt Ni Np No Nx q5 Na Nh Nq Nj M0 M1)) hE.1 C (e_MM_fault hE hKy l (3:Int32) x1 Nf Ni Np No Nx Na Nh Nq Nj M0 M1 rt hq5) hP (hDD _ _ _ _ _ _ _ _ _ _ _ _) hS hl.1 rfl mw_0 k_9_42 k_9_44 k_s_83 k_1_12 k_9_45 hv_MM_fault rfl rfl ⟨(Nat.le_of_ble_eq_true rfl), (Nat.le_of_ble_eq_true rfl)⟩ rfl (Nat.le_of_ble_eq_true rfl) ⟨Nat.zero_le _, Nat.zero_le _⟩ rfl d_MM_anchor_140 (fun H locs hP hS => ?_)
      cases h
      exact o_rv C hP hS d_MM_anchor_143
    replace h := o_ff c15 h
    refine o_in_ c15 ?_
    intro H locs ls hP hS hl
    refine lv_aload_n hx hb d_MM_anchor_150 rfl (lv_at hl 0 rfl) ?_
    refine o_get (v := .ref (ad 23)) C in_MM hP 0 mw_0 rfl 42 (by decide) k_8_32 rfl rfl d_MM_anchor_151 ?_
    refine lv_aload_n hx hb d_MM_anchor_154 rfl (lv_at hl 0 rfl) ?_
    refine o_get (v := .int (NA_anchors Na)) C in_MM hP 0 mw_0 rfl 39 (by decide) k_8_29 rfl rfl d_MM_anchor_155 ?_
    refine lv_iload_n hx hb d_MM_anchor_158 rfl (lv_at hl 1 rfl) ?_
    obtain ⟨g13, h⟩ := o_gd_some h
    refine o_iast (f := (NA_anchorValue Na)) (w1 := (m_cw ad ca ky ty rt Ni Np No Nx Nf (NA_mk (NA_anchors Na) (NA_key Na) (NA_target Na) (upd (NA_anchorValue Na) (NA_anchors Na).toNatClampNeg x1) (NA_anchorSchema Na) (NA_isSchema Na)) Nh Nq Nj M0 M1)) C hP (hDD _ _ _ _ _ _ _ _ _ _ _ _) hS 23 22 mw_23 rfl g13 rfl d_MM_anchor_159 (fun H locs hP hS => ?_)
    refine lv_aload_n hx hb d_MM_anchor_160 rfl (lv_at hl 0 rfl) ?_
    refine o_get (v := .ref (ad 24)) C in_MM hP 0 mw_0 rfl 43 (by decide) k_8_33 rfl rfl d_MM_anchor_161 ?_
    refine lv_aload_n hx hb d_MM_anchor_164 rfl (lv_at hl 0 rfl) ?_
    refine lv_dup hx hb d_MM_anchor_165 rfl ?_
    refine o_get (v := .int (NA_anchors Na)) C in_MM hP 0 mw_0 rfl 39 (by decide) k_8_29 rfl rfl d_MM_anchor_166 ?_
    refine lv_dup_x1 hx hb d_MM_anchor_169 rfl rfl ?_
    refine lv_iconst (v := (1:Int32)) hx hb d_MM_anchor_170 (by decide) ?_
    refine lv_iadd hx hb d_MM_anchor_171 ?_
    refine o_put (v := .int ((NA_anchors Na) + (1:Int32))) (ty := .int) (w1 := (m_cw ad ca ky ty rt Ni Np No Nx Nf (NA_mk ((NA_anchors Na) + (1:Int32)) (NA_key Na) (NA_target Na) (upd (NA_anchorValue Na) (NA_anchors Na).toNatClampNeg x1) (NA_anchorSchema Na) (NA_isSchema Na)) Nh Nq Nj M0 M1)) C in_MM t_MM t_MM_ok n_MM hP (hDD _ _ _ _ _ _ _ _ _ _ _ _) hS 0 mw_0 rfl 39 (by decide) k_8_29 rfl rfl (by decide +kernel) rfl rfl (Nat.le_of_ble_eq_true rfl) rfl d_MM_anchor_172 (fun H locs hP hS => ?_)
    refine lv_iload_n hx hb d_MM_anchor_175 rfl (lv_at hl 2 rfl) ?_
    obtain ⟨g14, h⟩ := o_gd_some h
    refine o_iast (f := (NA_anchorSchema Na)) (w1 := (m_cw ad ca ky ty rt Ni Np No Nx Nf (NA_mk ((NA_anchors Na) + (1:Int32)) (NA_key Na) (NA_target Na) (upd (NA_anchorValue Na) (NA_anchors Na).toNatClampNeg x1) (upd (NA_anchorSchema Na) (NA_anchors Na).toNatClampNeg x2) (NA_isSchema Na)) Nh Nq Nj M0 M1)) C hP (hDD _ _ _ _ _ _ _ _ _ _ _ _) hS 24 23 mw_24 rfl g14 rfl d_MM_anchor_176 (fun H locs hP hS => ?_)
    cases h
    exact o_rv C hP hS d_MM_anchor_177
  · replace h := o_tt c9 h
    refine lv_aload_n hx hb d_MM_anchor_96 rfl (lv_at hl 0 rfl) ?_
    refine lv_iconst (v := (1:Int32)) hx hb d_MM_anchor_97 (by decide) ?_
    refine lv_iload_n hx hb d_MM_anchor_98 rfl (lv_at hl 1 rfl) ?_
    obtain ⟨q6, hq6, h⟩ := o_bd_some h
    refine o_V (st1 := []) (w1 := (m_cw ad ca ky ty rt Ni Np No Nx q6 Na Nh Nq Nj M0 M1)) hE.1 C (e_MM_fault hE hKy l (1:Int32) x1 Nf Ni Np No Nx Na Nh Nq Nj M0 M1 rt hq6) hP (hDD _ _ _ _ _ _ _ _ _ _ _ _) hS hl.1 rfl mw_0 k_9_42 k_9_44 k_s_83 k_1_12 k_9_45 hv_MM_fault rfl rfl ⟨(Nat.le_of_ble_eq_true rfl), (Nat.le_of_ble_eq_true rfl)⟩ rfl (Nat.le_of_ble_eq_true rfl) ⟨Nat.zero_le _, Nat.zero_le _⟩ rfl d_MM_anchor_99 (fun H locs hP hS => ?_)
    cases h
    exact o_rv C hP hS d_MM_anchor_102
set_option maxHeartbeats 4000000 in
set_option maxRecDepth 100000 in
theorem e_MM_anchor {E : (Nat → Prop) → State → Heap → Prop} {D : va_G} {ad kd sd vd xd : Nat → Nat} {ca : Nat → ClassId} {ky ty : Nat → Option Nat} (hE : o_EK E kd sd vd xd) (hKy : m_KY ky ty sd) (l : Launch) (n : Nat) (x1 : Int32) (x2 : Int32) (M0 : SMT) (Nf : SNF) (Na : SNA) (Ni : SNI) (Np : SNP) (No : SNO) (Nx : SNX) (Nh : SNH) (Nq : SNQ) (Nj : SNJ) (M1 : SMT) (rt : Nat) {r : SNF × SNA} (h : m_MM_anchor n x1 x2 M0 Nf Na = some r) : o_Cn E l D m_cls (m_tys ca) y_MM_anchor cc_MM_anchor rm_MM_anchor [.ref (ad 0), .int x1, .int x2] (m_cw ad ca ky ty rt Ni Np No Nx Nf Na Nh Nq Nj M0 M1) (m_cw ad ca ky ty rt Ni Np No Nx r.1 r.2 Nh Nq Nj M0 M1) none := by
  refine o_Cn_of (by decide) (Nat.le_of_ble_eq_true rfl) ?_
  intro p e s m below meth c A ls C hD hP hS hl
  have hDD : ∀ (rt : Nat) (Ni : SNI) (Np : SNP) (No : SNO) (Nx : SNX) (Nf : SNF) (Na : SNA) (Nh : SNH) (Nq : SNQ) (Nj : SNJ) (M0 : SMT) (M1 : SMT), va_D A (m_cw ad ca ky ty rt Ni Np No Nx Nf Na Nh Nq Nj M0 M1) := fun _ _ _ _ _ _ _ _ _ _ _ _ => o_D_map hD rfl
  have hl : lv_has ls 5 [(0, .ref (ad 0)), (1, .int x1), (2, .int x2)] := hl
  unfold m_MM_anchor at h
  have C0 := C
  obtain ⟨hx, hb, -, -, -, hown, hts, hK, -, -⟩ := C0
  refine lv_aload_n hx hb d_MM_anchor_0 rfl (lv_at hl 0 rfl) ?_
  refine o_get (v := .ref (ad 33)) C in_MM hP 0 mw_0 rfl 4 (by decide) k_7_234 rfl rfl d_MM_anchor_1 ?_
  refine o_get (v := .ref (ad 35)) C in_MT hP 33 mw_33 rfl 1 (by decide) k_7_103 rfl rfl d_MM_anchor_4 ?_
  refine lv_iload_n hx hb d_MM_anchor_7 rfl (lv_at hl 1 rfl) ?_
  obtain ⟨g1, h⟩ := o_gd_some h
  refine o_iald (f := (MT_kind M0)) C hP 35 33 mw_35 rfl g1 d_MM_anchor_8 ?_
  refine lv_iconst (v := (4:Int32)) hx hb d_MM_anchor_9 (by decide) ?_
  refine lv_icmp_ne (tgt := 29) hx hb d_MM_anchor_10 (by decide) (fun c2 => ?_) (fun c2 => ?_)
  · replace h := o_ff c2 h
    refine lv_iconst (v := (0:Int32)) hx hb d_MM_anchor_29 (by decide) ?_
    refine lv_istore_n (lv' := [(3, .int (0:Int32)), (0, .ref (ad 0)), (1, .int x1), (2, .int x2)]) hx hb d_MM_anchor_30 rfl hl (by decide) rfl (fun ls hl => ?_)
    refine lv_iconst (v := (0:Int32)) hx hb d_MM_anchor_31 (by decide) ?_
    refine lv_istore (lv' := [(4, .int (0:Int32)), (3, .int (0:Int32)), (0, .ref (ad 0)), (1, .int x1), (2, .int x2)]) hx hb d_MM_anchor_32 hl (by decide) rfl (fun ls hl => ?_)
    obtain ⟨q2, hq2, h⟩ := o_bd_some h
    refine o_sim2 (AH := fun zz => o_At p l e rm_MM_anchor s m _ below meth c _ m_cls D A 5 34 [] (m_cw ad ca ky ty rt Ni Np No Nx Nf Na Nh Nq Nj M0 M1) [(0, .ref (ad 0)), (1, .int x1), (2, .int x2), (3, .int zz.1), (4, .int zz.2)]) (AX := fun qq => o_At p l e rm_MM_anchor s m _ below meth c _ m_cls D A 5 92 [] (m_cw ad ca ky ty rt Ni Np No Nx Nf Na Nh Nq Nj M0 M1) [(0, .ref (ad 0)), (1, .int x1), (2, .int x2), (3, .int qq.2.1)]) (fun zz qq h h0 h1 => f_MM_anchor_b34 hE hKy C hDD n x1 x2 M0 Nf Na Ni Np No Nx Nh Nq Nj M1 rt zz qq h h0 h1) n _ q2 hq2 ?_ _ _ _ hP hS (lv_sub hl [2, 3, 4, 1, 0] rfl)
    intro H locs ls hP hS hl
    exact f_MM_anchor_j92 hE hKy C hDD n x1 x2 q2.2.1 M0 Nf Na Ni Np No Nx Nh Nq Nj M1 rt h _ _ _ hP hS (lv_sub hl [0, 1, 2, 3] rfl)
  · replace h := o_tt c2 h
    refine lv_aload_n hx hb d_MM_anchor_13 rfl (lv_at hl 0 rfl) ?_
    refine o_get (v := .ref (ad 33)) C in_MM hP 0 mw_0 rfl 4 (by decide) k_7_234 rfl rfl d_MM_anchor_14 ?_
    refine o_get (v := .ref (ad 37)) C in_MT hP 33 mw_33 rfl 3 (by decide) k_7_107 rfl rfl d_MM_anchor_17 ?_
    refine lv_iload_n hx hb d_MM_anchor_20 rfl (lv_at hl 1 rfl) ?_
    obtain ⟨g16, h⟩ := o_gd_some h
    refine o_iald (f := (MT_many M0)) C hP 37 35 mw_37 rfl g16 d_MM_anchor_21 ?_
    refine lv_if_le (tgt := 29) hx hb d_MM_anchor_22 (by decide) (fun c17 => ?_) (fun c17 => ?_)
    · replace h := o_tt c17 h
      refine lv_iconst (v := (0:Int32)) hx hb d_MM_anchor_29 (by decide) ?_
      refine lv_istore_n (lv' := [(3, .int (0:Int32)), (0, .ref (ad 0)), (1, .int x1), (2, .int x2)]) hx hb d_MM_anchor_30 rfl hl (by decide) rfl (fun ls hl => ?_)
      refine lv_iconst (v := (0:Int32)) hx hb d_MM_anchor_31 (by decide) ?_
      refine lv_istore (lv' := [(4, .int (0:Int32)), (3, .int (0:Int32)), (0, .ref (ad 0)), (1, .int x1), (2, .int x2)]) hx hb d_MM_anchor_32 hl (by decide) rfl (fun ls hl => ?_)
      obtain ⟨q7, hq7, h⟩ := o_bd_some h
      refine o_sim2 (AH := fun zz => o_At p l e rm_MM_anchor s m _ below meth c _ m_cls D A 5 34 [] (m_cw ad ca ky ty rt Ni Np No Nx Nf Na Nh Nq Nj M0 M1) [(0, .ref (ad 0)), (1, .int x1), (2, .int x2), (3, .int zz.1), (4, .int zz.2)]) (AX := fun qq => o_At p l e rm_MM_anchor s m _ below meth c _ m_cls D A 5 92 [] (m_cw ad ca ky ty rt Ni Np No Nx Nf Na Nh Nq Nj M0 M1) [(0, .ref (ad 0)), (1, .int x1), (2, .int x2), (3, .int qq.2.1)]) (fun zz qq h h0 h1 => f_MM_anchor_b34 hE hKy C hDD n x1 x2 M0 Nf Na Ni Np No Nx Nh Nq Nj M1 rt zz qq h h0 h1) n _ q7 hq7 ?_ _ _ _ hP hS (lv_sub hl [2, 3, 4, 1, 0] rfl)
      intro H locs ls hP hS hl
      exact f_MM_anchor_j92 hE hKy C hDD n x1 x2 q7.2.1 M0 Nf Na Ni Np No Nx Nh Nq Nj M1 rt h _ _ _ hP hS (lv_sub hl [0, 1, 2, 3] rfl)
    · replace h := o_ff c17 h
      refine lv_iconst (v := (1:Int32)) hx hb d_MM_anchor_25 (by decide) ?_
      refine lv_goto (tgt := 30) hx hb d_MM_anchor_26 (by decide) ?_
      refine lv_istore_n (lv' := [(3, .int (1:Int32)), (0, .ref (ad 0)), (1, .int x1), (2, .int x2)]) hx hb d_MM_anchor_30 rfl hl (by decide) rfl (fun ls hl => ?_)
      refine lv_iconst (v := (0:Int32)) hx hb d_MM_anchor_31 (by decide) ?_
      refine lv_istore (lv' := [(4, .int (0:Int32)), (3, .int (1:Int32)), (0, .ref (ad 0)), (1, .int x1), (2, .int x2)]) hx hb d_MM_anchor_32 hl (by decide) rfl (fun ls hl => ?_)
      obtain ⟨q8, hq8, h⟩ := o_bd_some h
      refine o_sim2 (AH := fun zz => o_At p l e rm_MM_anchor s m _ below meth c _ m_cls D A 5 34 [] (m_cw ad ca ky ty rt Ni Np No Nx Nf Na Nh Nq Nj M0 M1) [(0, .ref (ad 0)), (1, .int x1), (2, .int x2), (3, .int zz.1), (4, .int zz.2)]) (AX := fun qq => o_At p l e rm_MM_anchor s m _ below meth c _ m_cls D A 5 92 [] (m_cw ad ca ky ty rt Ni Np No Nx Nf Na Nh Nq Nj M0 M1) [(0, .ref (ad 0)), (1, .int x1), (2, .int x2), (3, .int qq.2.1)]) (fun zz qq h h0 h1 => f_MM_anchor_b34 hE hKy C hDD n x1 x2 M0 Nf Na Ni Np No Nx Nh Nq Nj M1 rt zz qq h h0 h1) n _ q8 hq8 ?_ _ _ _ hP hS (lv_sub hl [2, 3, 4, 1, 0] rfl)
      intro H locs ls hP hS hl
      exact f_MM_anchor_j92 hE hKy C hDD n x1 x2 q8.2.1 M0 Nf Na Ni Np No Nx Nh Nq Nj M1 rt h _ _ _ hP hS (lv_sub hl [0, 1, 2, 3] rfl)
set_option maxHeartbeats 4000000 in
set_option maxRecDepth 100000 in
theorem f_MM_typeOf_b2 {E : (Nat → Prop) → State → Heap → Prop} {p : Program} {l : Launch} {e : Env} {s : State} {m : MethodId} {args : Array Value} {below : List Frame} {meth : Method} {c : Code} {D : va_G} {ad kd sd vd xd : Nat → Nat} {ca : Nat → ClassId} {A : Nat → Prop} {ky ty : Nat → Option Nat} {Q : State → Prop} (hE : o_EK E kd sd vd xd) (hKy : m_KY ky ty sd) (C : o_Cx E p s m args meth c D m_cls (m_tys ca) "SchemaJudgeModel" b_MM_typeOf (some .int) 3 cc_MM_typeOf A) (hDD : ∀ (rt : Nat) (Ni : SNI) (Np : SNP) (No : SNO) (Nx : SNX) (Nf : SNF) (Na : SNA) (Nh : SNH) (Nq : SNQ) (Nj : SNJ) (M0 : SMT) (M1 : SMT), va_D A (m_cw ad ca ky ty rt Ni Np No Nx Nf Na Nh Nq Nj M0 M1)) (n : Nat) (u2_x1 : Int32) (u2_M0 : SMT) (u2_Ni : SNI) (u2_Np : SNP) (u2_No : SNO) (u2_Nx : SNX) (u2_Nf : SNF) (u2_Na : SNA) (u2_Nh : SNH) (u2_Nq : SNQ) (u2_Nj : SNJ) (u2_M1 : SMT) (u2_rt : Nat) (z : Int32) (q : Nat × Int32) (h : m_MM_typeOf_b2 n u2_x1 u2_M0 z = some q) (h0 : q.1 = 0 → o_At p l e rm_MM_typeOf s m args below meth c Q m_cls D A 3 2 [] (m_cw ad ca ky ty u2_rt u2_Ni u2_Np u2_No u2_Nx u2_Nf u2_Na u2_Nh u2_Nq u2_Nj u2_M0 u2_M1) [(0, .ref (ad 0)), (1, .int u2_x1), (2, .int q.2)]) (h1 : q.1 ≠ 0 → (if q.1 = 1 then o_At p l e rm_MM_typeOf s m args below meth c Q m_cls D A 3 41 [] (m_cw ad ca ky ty u2_rt u2_Ni u2_Np u2_No u2_Nx u2_Nf u2_Na u2_Nh u2_Nq u2_Nj u2_M0 u2_M1) [(2, .int q.2)] else o_At p l e rm_MM_typeOf s m args below meth c Q m_cls D A 3 49 [] (m_cw ad ca ky ty u2_rt u2_Ni u2_Np u2_No u2_Nx u2_Nf u2_Na u2_Nh u2_Nq u2_Nj u2_M0 u2_M1) [])) : o_At p l e rm_MM_typeOf s m args below meth c Q m_cls D A 3 2 [] (m_cw ad ca ky ty u2_rt u2_Ni u2_Np u2_No u2_Nx u2_Nf u2_Na u2_Nh u2_Nq u2_Nj u2_M0 u2_M1) [(0, .ref (ad 0)), (1, .int u2_x1), (2, .int z)] := by
  unfold m_MM_typeOf_b2 at h
  intro H locs ls hP hS hl
  have C0 := C
  obtain ⟨hx, hb, -, -, -, hown, hts, hK, -, -⟩ := C0
  refine lv_iload_n hx hb d_MM_typeOf_2 rfl (lv_at hl 2 rfl) ?_
  refine lv_aload_n hx hb d_MM_typeOf_3 rfl (lv_at hl 0 rfl) ?_
  refine o_get (v := .ref (ad 20)) C in_MM hP 0 mw_0 rfl 34 (by decide) k_8_24 rfl rfl d_MM_typeOf_4 ?_
  refine va_alen (v := (7:Int32)) hx hb hK hP 20 19 mw_20 rfl rfl d_MM_typeOf_7 ?_
  refine lv_icmp_ge (tgt := 49) hx hb d_MM_typeOf_8 (by decide) (fun c1 => ?_) (fun c1 => ?_)
  · replace h := o_tt c1 h
    cases h
    exact h1 (Nat.succ_ne_zero 1) _ _ _ hP hS (lv_sub hl [] rfl)
  · replace h := o_ff c1 h
    refine lv_aload_n hx hb d_MM_typeOf_11 rfl (lv_at hl 0 rfl) ?_
    refine o_get (v := .ref (ad 33)) C in_MM hP 0 mw_0 rfl 4 (by decide) k_7_234 rfl rfl d_MM_typeOf_12 ?_
    refine o_get (v := .ref (ad 35)) C in_MT hP 33 mw_33 rfl 1 (by decide) k_7_103 rfl rfl d_MM_typeOf_15 ?_
    refine lv_iload_n hx hb d_MM_typeOf_18 rfl (lv_at hl 1 rfl) ?_
    obtain ⟨g2, h⟩ := o_gd_some h
    refine o_iald (f := (MT_kind u2_M0)) C hP 35 33 mw_35 rfl g2 d_MM_typeOf_19 ?_
    refine lv_iconst (v := (4:Int32)) hx hb d_MM_typeOf_20 (by decide) ?_
    refine lv_icmp_ne (tgt := 43) hx hb d_MM_typeOf_21 (by decide) (fun c3 => ?_) (fun c3 => ?_)
    · replace h := o_ff c3 h
      obtain ⟨x2_43, ex2_43⟩ : ∃ y : Int32, y = z + (1:Int32) := ⟨_, rfl⟩
      replace h := o_nm_at ex2_43 h
      refine lv_iinc (v := x2_43) (lv' := [(2, .int x2_43), (0, .ref (ad 0)), (1, .int u2_x1)]) hx hb d_MM_typeOf_43 hl (k := 2) rfl (by rw [ex2_43]; rfl) (by decide) rfl (fun ls hl => ?_)
      refine lv_goto (tgt := 2) hx hb d_MM_typeOf_46 (by decide) ?_
      cases h
      exact h0 rfl _ _ _ hP hS (lv_sub hl [1, 2, 0] rfl)
    · replace h := o_tt c3 h
      refine lv_aload_n hx hb d_MM_typeOf_24 rfl (lv_at hl 0 rfl) ?_
      refine o_get (v := .ref (ad 33)) C in_MM hP 0 mw_0 rfl 4 (by decide) k_7_234 rfl rfl d_MM_typeOf_25 ?_
      refine lv_iload_n hx hb d_MM_typeOf_28 rfl (lv_at hl 1 rfl) ?_
      refine lv_aload_n hx hb d_MM_typeOf_29 rfl (lv_at hl 0 rfl) ?_
      refine o_get (v := .ref (ad 20)) C in_MM hP 0 mw_0 rfl 34 (by decide) k_8_24 rfl rfl d_MM_typeOf_30 ?_
      refine lv_iload_n hx hb d_MM_typeOf_33 rfl (lv_at hl 2 rfl) ?_
      obtain ⟨g4, h⟩ := o_gd_some h
      refine o_aldS C hP 20 19 mw_20 rfl g4 (hKy.2 _ g4) d_MM_typeOf_34 ?_
      obtain ⟨q1, hq1, h⟩ := o_bd_some h
      refine o_V (st1 := [.int q1]) (w1 := (m_cw ad ca ky ty u2_rt u2_Ni u2_Np u2_No u2_Nx u2_Nf u2_Na u2_Nh u2_Nq u2_Nj u2_M0 u2_M1)) hE.1 C (e_MT_is_a hE hKy l n u2_x1 (mk_types z.toNatClampNeg) (mk_types_sb g4) u2_M0 u2_Ni u2_Np u2_No u2_Nx u2_Nf u2_Na u2_Nh u2_Nq u2_Nj u2_M1 u2_rt hq1) hP (hDD _ _ _ _ _ _ _ _ _ _ _ _) hS hl.1 rfl mw_33 k_9_46 k_9_47 k_9_48 k_1_13 k_9_49 hv_MT_is rfl rfl ⟨(Nat.le_of_ble_eq_true rfl), (Nat.le_of_ble_eq_true rfl)⟩ rfl (Nat.le_of_ble_eq_true rfl) ⟨Nat.zero_le _, Nat.zero_le _⟩ rfl d_MM_typeOf_35 (fun H locs hP hS => ?_)
      refine lv_if_eq (tgt := 43) hx hb d_MM_typeOf_38 (by decide) (fun c5 => ?_) (fun c5 => ?_)
      · replace h := o_tt c5 h
        obtain ⟨x2_43, ex2_43⟩ : ∃ y : Int32, y = z + (1:Int32) := ⟨_, rfl⟩
        replace h := o_nm_at ex2_43 h
        refine lv_iinc (v := x2_43) (lv' := [(2, .int x2_43), (0, .ref (ad 0)), (1, .int u2_x1)]) hx hb d_MM_typeOf_43 hl (k := 2) rfl (by rw [ex2_43]; rfl) (by decide) rfl (fun ls hl => ?_)
        refine lv_goto (tgt := 2) hx hb d_MM_typeOf_46 (by decide) ?_
        cases h
        exact h0 rfl _ _ _ hP hS (lv_sub hl [1, 2, 0] rfl)
      · replace h := o_ff c5 h
        cases h
        exact h1 (Nat.succ_ne_zero 0) _ _ _ hP hS (lv_sub hl [2] rfl)
set_option maxHeartbeats 4000000 in
set_option maxRecDepth 100000 in
theorem e_MM_typeOf {E : (Nat → Prop) → State → Heap → Prop} {D : va_G} {ad kd sd vd xd : Nat → Nat} {ca : Nat → ClassId} {ky ty : Nat → Option Nat} (hE : o_EK E kd sd vd xd) (hKy : m_KY ky ty sd) (l : Launch) (n : Nat) (x1 : Int32) (M0 : SMT) (Ni : SNI) (Np : SNP) (No : SNO) (Nx : SNX) (Nf : SNF) (Na : SNA) (Nh : SNH) (Nq : SNQ) (Nj : SNJ) (M1 : SMT) (rt : Nat) {r : Int32} (h : m_MM_typeOf n x1 M0 = some r) : o_Cn E l D m_cls (m_tys ca) y_MM_typeOf cc_MM_typeOf rm_MM_typeOf [.ref (ad 0), .int x1] (m_cw ad ca ky ty rt Ni Np No Nx Nf Na Nh Nq Nj M0 M1) (m_cw ad ca ky ty rt Ni Np No Nx Nf Na Nh Nq Nj M0 M1) (some (.int r)) := by
  refine o_Cn_of (by decide) (Nat.le_of_ble_eq_true rfl) ?_
  intro p e s m below meth c A ls C hD hP hS hl
  have hDD : ∀ (rt : Nat) (Ni : SNI) (Np : SNP) (No : SNO) (Nx : SNX) (Nf : SNF) (Na : SNA) (Nh : SNH) (Nq : SNQ) (Nj : SNJ) (M0 : SMT) (M1 : SMT), va_D A (m_cw ad ca ky ty rt Ni Np No Nx Nf Na Nh Nq Nj M0 M1) := fun _ _ _ _ _ _ _ _ _ _ _ _ => o_D_map hD rfl
  have hl : lv_has ls 3 [(0, .ref (ad 0)), (1, .int x1)] := hl
  unfold m_MM_typeOf at h
  have C0 := C
  obtain ⟨hx, hb, -, -, -, hown, hts, hK, -, -⟩ := C0
  refine lv_iconst (v := (0:Int32)) hx hb d_MM_typeOf_0 (by decide) ?_
  refine lv_istore_n (lv' := [(2, .int (0:Int32)), (0, .ref (ad 0)), (1, .int x1)]) hx hb d_MM_typeOf_1 rfl hl (by decide) rfl (fun ls hl => ?_)
  obtain ⟨q2, hq2, h⟩ := o_bd_some h
  refine o_sim2 (AH := fun zz => o_At p l e rm_MM_typeOf s m _ below meth c _ m_cls D A 3 2 [] (m_cw ad ca ky ty rt Ni Np No Nx Nf Na Nh Nq Nj M0 M1) [(0, .ref (ad 0)), (1, .int x1), (2, .int zz)]) (AX := fun qq => if qq.1 = 1 then o_At p l e rm_MM_typeOf s m _ below meth c _ m_cls D A 3 41 [] (m_cw ad ca ky ty rt Ni Np No Nx Nf Na Nh Nq Nj M0 M1) [(2, .int qq.2)] else o_At p l e rm_MM_typeOf s m _ below meth c _ m_cls D A 3 49 [] (m_cw ad ca ky ty rt Ni Np No Nx Nf Na Nh Nq Nj M0 M1) []) (fun zz qq h h0 h1 => f_MM_typeOf_b2 hE hKy C hDD n x1 M0 Ni Np No Nx Nf Na Nh Nq Nj M1 rt zz qq h h0 h1) n _ q2 hq2 ?_ _ _ _ hP hS (lv_sub hl [1, 2, 0] rfl)
  by_cases c6 : q2.1 = 1
  · replace h := o_tt c6 h
    refine o_ip c6 ?_
    intro H locs ls hP hS hl
    refine lv_iload_n hx hb d_MM_typeOf_41 rfl (lv_at hl 0 rfl) ?_
    cases h
    exact o_ri C hP hS d_MM_typeOf_42
  replace h := o_ff c6 h
  refine o_in_ c6 ?_
  intro H locs ls hP hS hl
  refine lv_iconst (v := (-1:Int32)) hx hb d_MM_typeOf_49 (by decide) ?_
  cases h
  exact o_ri (v := (-1:Int32)) C hP hS d_MM_typeOf_50
set_option maxHeartbeats 4000000 in
set_option maxRecDepth 100000 in
theorem f_MM_type_b86 {E : (Nat → Prop) → State → Heap → Prop} {p : Program} {l : Launch} {e : Env} {s : State} {m : MethodId} {args : Array Value} {below : List Frame} {meth : Method} {c : Code} {D : va_G} {ad kd sd vd xd : Nat → Nat} {ca : Nat → ClassId} {A : Nat → Prop} {ky ty : Nat → Option Nat} {Q : State → Prop} (hE : o_EK E kd sd vd xd) (hKy : m_KY ky ty sd) (C : o_Cx E p s m args meth c D m_cls (m_tys ca) "SchemaJudgeModel" b_MM_type none 4 cc_MM_type A) (hDD : ∀ (rt : Nat) (Ni : SNI) (Np : SNP) (No : SNO) (Nx : SNX) (Nf : SNF) (Na : SNA) (Nh : SNH) (Nq : SNQ) (Nj : SNJ) (M0 : SMT) (M1 : SMT), va_D A (m_cw ad ca ky ty rt Ni Np No Nx Nf Na Nh Nq Nj M0 M1)) (n : Nat) (u86_x1 : Int32) (u86_x2 : Int32) (u86_M0 : SMT) (u86_Nf : SNF) (u86_Ni : SNI) (u86_Np : SNP) (u86_No : SNO) (u86_Nx : SNX) (u86_Na : SNA) (u86_Nh : SNH) (u86_Nq : SNQ) (u86_Nj : SNJ) (u86_M1 : SMT) (u86_rt : Nat) (z : Int32) (q : Nat × Int32) (h : m_MM_type_b86 n u86_x1 u86_x2 u86_M0 u86_Nf z = some q) (h0 : q.1 = 0 → o_At p l e rm_MM_type s m args below meth c Q m_cls D A 4 86 [] (m_cw ad ca ky ty u86_rt u86_Ni u86_Np u86_No u86_Nx u86_Nf u86_Na u86_Nh u86_Nq u86_Nj u86_M0 u86_M1) [(0, .ref (ad 0)), (1, .int u86_x1), (2, .int u86_x2), (3, .int q.2)]) (h1 : q.1 ≠ 0 → (if q.1 = 1 then o_At p l e rm_MM_type s m args below meth c Q m_cls D A 4 104 [] (m_cw ad ca ky ty u86_rt u86_Ni u86_Np u86_No u86_Nx u86_Nf u86_Na u86_Nh u86_Nq u86_Nj u86_M0 u86_M1) [(0, .ref (ad 0)), (2, .int u86_x2)] else o_At p l e rm_MM_type s m args below meth c Q m_cls D A 4 124 [] (m_cw ad ca ky ty u86_rt u86_Ni u86_Np u86_No u86_Nx u86_Nf u86_Na u86_Nh u86_Nq u86_Nj u86_M0 u86_M1) [(0, .ref (ad 0)), (1, .int u86_x1), (2, .int u86_x2)])) : o_At p l e rm_MM_type s m args below meth c Q m_cls D A 4 86 [] (m_cw ad ca ky ty u86_rt u86_Ni u86_Np u86_No u86_Nx u86_Nf u86_Na u86_Nh u86_Nq u86_Nj u86_M0 u86_M1) [(0, .ref (ad 0)), (1, .int u86_x1), (2, .int u86_x2), (3, .int z)] := by
  unfold m_MM_type_b86 at h
  intro H locs ls hP hS hl
  have C0 := C
  obtain ⟨hx, hb, -, -, -, hown, hts, hK, -, -⟩ := C0
  refine lv_iload_n hx hb d_MM_type_86 rfl (lv_at hl 3 rfl) ?_
  refine lv_iload_n hx hb d_MM_type_87 rfl (lv_at hl 2 rfl) ?_
  refine lv_icmp_eq (tgt := 124) hx hb d_MM_type_88 (by decide) (fun c9 => ?_) (fun c9 => ?_)
  · replace h := o_tt c9 h
    cases h
    exact h1 (Nat.succ_ne_zero 1) _ _ _ hP hS (lv_sub hl [0, 1, 2] rfl)
  · replace h := o_ff c9 h
    refine lv_aload_n hx hb d_MM_type_91 rfl (lv_at hl 0 rfl) ?_
    refine lv_iload_n hx hb d_MM_type_92 rfl (lv_at hl 3 rfl) ?_
    obtain ⟨q2, hq2, h⟩ := o_bd_some h
    refine o_V (st1 := [.int q2]) (w1 := (m_cw ad ca ky ty u86_rt u86_Ni u86_Np u86_No u86_Nx u86_Nf u86_Na u86_Nh u86_Nq u86_Nj u86_M0 u86_M1)) hE.1 C (e_MM_typeOf hE hKy l n z u86_M0 u86_Ni u86_Np u86_No u86_Nx u86_Nf u86_Na u86_Nh u86_Nq u86_Nj u86_M1 u86_rt hq2) hP (hDD _ _ _ _ _ _ _ _ _ _ _ _) hS hl.1 rfl mw_0 k_9_171 k_9_173 k_s_109 k_1_12 k_9_174 hv_MM_typeOf rfl rfl ⟨(Nat.le_of_ble_eq_true rfl), (Nat.le_of_ble_eq_true rfl)⟩ rfl (Nat.le_of_ble_eq_true rfl) ⟨Nat.zero_le _, Nat.zero_le _⟩ rfl d_MM_type_93 (fun H locs hP hS => ?_)
    refine lv_aload_n hx hb d_MM_type_96 rfl (lv_at hl 0 rfl) ?_
    refine lv_iload_n hx hb d_MM_type_97 rfl (lv_at hl 2 rfl) ?_
    obtain ⟨q3, hq3, h⟩ := o_bd_some h
    refine o_V (st1 := [.int q3, .int q2]) (w1 := (m_cw ad ca ky ty u86_rt u86_Ni u86_Np u86_No u86_Nx u86_Nf u86_Na u86_Nh u86_Nq u86_Nj u86_M0 u86_M1)) hE.1 C (e_MM_typeOf hE hKy l n u86_x2 u86_M0 u86_Ni u86_Np u86_No u86_Nx u86_Nf u86_Na u86_Nh u86_Nq u86_Nj u86_M1 u86_rt hq3) hP (hDD _ _ _ _ _ _ _ _ _ _ _ _) hS hl.1 rfl mw_0 k_9_171 k_9_173 k_s_109 k_1_12 k_9_174 hv_MM_typeOf rfl rfl ⟨(Nat.le_of_ble_eq_true rfl), (Nat.le_of_ble_eq_true rfl)⟩ rfl (Nat.le_of_ble_eq_true rfl) ⟨Nat.zero_le _, Nat.zero_le _⟩ rfl d_MM_type_98 (fun H locs hP hS => ?_)
    refine lv_icmp_ne (tgt := 111) hx hb d_MM_type_101 (by decide) (fun c10 => ?_) (fun c10 => ?_)
    · replace h := o_ff c10 h
      refine lv_aload_n hx hb d_MM_type_111 rfl (lv_at hl 0 rfl) ?_
      refine o_get (v := .ref (ad 33)) C in_MM hP 0 mw_0 rfl 4 (by decide) k_7_234 rfl rfl d_MM_type_112 ?_
      refine o_get (v := .ref (ad 41)) C in_MT hP 33 mw_33 rfl 7 (by decide) k_7_115 rfl rfl d_MM_type_115 ?_
      refine lv_iload_n hx hb d_MM_type_118 rfl (lv_at hl 3 rfl) ?_
      obtain ⟨g11, h⟩ := o_gd_some h
      refine o_iald (f := (MT_next u86_M0)) C hP 41 39 mw_41 rfl g11 d_MM_type_119 ?_
      refine lv_topi (fun x3_120 ex3_120 => ?_)
      replace h := o_nm_at ex3_120 h
      refine lv_istore_n (lv' := [(3, .int x3_120), (0, .ref (ad 0)), (1, .int u86_x1), (2, .int u86_x2)]) hx hb d_MM_type_120 rfl hl (by decide) rfl (fun ls hl => ?_)
      refine lv_goto (tgt := 86) hx hb d_MM_type_121 (by decide) ?_
      cases h
      exact h0 rfl _ _ _ hP hS (lv_sub hl [1, 2, 3, 0] rfl)
    · replace h := o_tt c10 h
      cases h
      exact h1 (Nat.succ_ne_zero 0) _ _ _ hP hS (lv_sub hl [0, 2] rfl)
set_option maxHeartbeats 4000000 in
set_option maxRecDepth 100000 in
theorem f_MM_type_b57 {E : (Nat → Prop) → State → Heap → Prop} {p : Program} {l : Launch} {e : Env} {s : State} {m : MethodId} {args : Array Value} {below : List Frame} {meth : Method} {c : Code} {D : va_G} {ad kd sd vd xd : Nat → Nat} {ca : Nat → ClassId} {A : Nat → Prop} {ky ty : Nat → Option Nat} {Q : State → Prop} (hE : o_EK E kd sd vd xd) (hKy : m_KY ky ty sd) (C : o_Cx E p s m args meth c D m_cls (m_tys ca) "SchemaJudgeModel" b_MM_type none 4 cc_MM_type A) (hDD : ∀ (rt : Nat) (Ni : SNI) (Np : SNP) (No : SNO) (Nx : SNX) (Nf : SNF) (Na : SNA) (Nh : SNH) (Nq : SNQ) (Nj : SNJ) (M0 : SMT) (M1 : SMT), va_D A (m_cw ad ca ky ty rt Ni Np No Nx Nf Na Nh Nq Nj M0 M1)) (n : Nat) (u57_x1 : Int32) (u57_M0 : SMT) (u57_Nf : SNF) (u57_Ni : SNI) (u57_Np : SNP) (u57_No : SNO) (u57_Nx : SNX) (u57_Na : SNA) (u57_Nh : SNH) (u57_Nq : SNQ) (u57_Nj : SNJ) (u57_M1 : SMT) (u57_rt : Nat) (z : Int32) (q : Nat × Int32) (h : m_MM_type_b57 n u57_x1 u57_M0 u57_Nf z = some q) (h0 : q.1 = 0 → o_At p l e rm_MM_type s m args below meth c Q m_cls D A 4 57 [] (m_cw ad ca ky ty u57_rt u57_Ni u57_Np u57_No u57_Nx u57_Nf u57_Na u57_Nh u57_Nq u57_Nj u57_M0 u57_M1) [(0, .ref (ad 0)), (1, .int u57_x1), (2, .int q.2)]) (h1 : q.1 ≠ 0 → (if q.1 = 1 then o_At p l e rm_MM_type s m args below meth c Q m_cls D A 4 69 [] (m_cw ad ca ky ty u57_rt u57_Ni u57_Np u57_No u57_Nx u57_Nf u57_Na u57_Nh u57_Nq u57_Nj u57_M0 u57_M1) [(0, .ref (ad 0)), (2, .int q.2)] else if q.1 = 2 then o_At p l e rm_MM_type s m args below meth c Q m_cls D A 4 104 [] (m_cw ad ca ky ty u57_rt u57_Ni u57_Np u57_No u57_Nx u57_Nf u57_Na u57_Nh u57_Nq u57_Nj u57_M0 u57_M1) [(0, .ref (ad 0)), (2, .int q.2)] else o_At p l e rm_MM_type s m args below meth c Q m_cls D A 4 137 [] (m_cw ad ca ky ty u57_rt u57_Ni u57_Np u57_No u57_Nx u57_Nf u57_Na u57_Nh u57_Nq u57_Nj u57_M0 u57_M1) [])) : o_At p l e rm_MM_type s m args below meth c Q m_cls D A 4 57 [] (m_cw ad ca ky ty u57_rt u57_Ni u57_Np u57_No u57_Nx u57_Nf u57_Na u57_Nh u57_Nq u57_Nj u57_M0 u57_M1) [(0, .ref (ad 0)), (1, .int u57_x1), (2, .int z)] := by
  unfold m_MM_type_b57 at h
  intro H locs ls hP hS hl
  have C0 := C
  obtain ⟨hx, hb, -, -, -, hown, hts, hK, -, -⟩ := C0
  refine lv_iload_n hx hb d_MM_type_57 rfl (lv_at hl 2 rfl) ?_
  refine lv_if_lt (tgt := 137) hx hb d_MM_type_58 (by decide) (fun c6 => ?_) (fun c6 => ?_)
  · replace h := o_tt c6 h
    cases h
    exact h1 (Nat.succ_ne_zero 2) _ _ _ hP hS (lv_sub hl [] rfl)
  · replace h := o_ff c6 h
    refine lv_aload_n hx hb d_MM_type_61 rfl (lv_at hl 0 rfl) ?_
    refine lv_iload_n hx hb d_MM_type_62 rfl (lv_at hl 2 rfl) ?_
    obtain ⟨q1, hq1, h⟩ := o_bd_some h
    refine o_V (st1 := [.int q1]) (w1 := (m_cw ad ca ky ty u57_rt u57_Ni u57_Np u57_No u57_Nx u57_Nf u57_Na u57_Nh u57_Nq u57_Nj u57_M0 u57_M1)) hE.1 C (e_MM_typeOf hE hKy l n z u57_M0 u57_Ni u57_Np u57_No u57_Nx u57_Nf u57_Na u57_Nh u57_Nq u57_Nj u57_M1 u57_rt hq1) hP (hDD _ _ _ _ _ _ _ _ _ _ _ _) hS hl.1 rfl mw_0 k_9_171 k_9_173 k_s_109 k_1_12 k_9_174 hv_MM_typeOf rfl rfl ⟨(Nat.le_of_ble_eq_true rfl), (Nat.le_of_ble_eq_true rfl)⟩ rfl (Nat.le_of_ble_eq_true rfl) ⟨Nat.zero_le _, Nat.zero_le _⟩ rfl d_MM_type_63 (fun H locs hP hS => ?_)
    refine lv_if_ge (tgt := 76) hx hb d_MM_type_66 (by decide) (fun c7 => ?_) (fun c7 => ?_)
    · replace h := o_tt c7 h
      refine lv_aload_n hx hb d_MM_type_76 rfl (lv_at hl 0 rfl) ?_
      refine o_get (v := .ref (ad 33)) C in_MM hP 0 mw_0 rfl 4 (by decide) k_7_234 rfl rfl d_MM_type_77 ?_
      refine o_get (v := .ref (ad 40)) C in_MT hP 33 mw_33 rfl 6 (by decide) k_7_113 rfl rfl d_MM_type_80 ?_
      refine lv_iload_n hx hb d_MM_type_83 rfl (lv_at hl 1 rfl) ?_
      obtain ⟨g8, h⟩ := o_gd_some h
      refine o_iald (f := (MT_first u57_M0)) C hP 40 38 mw_40 rfl g8 d_MM_type_84 ?_
      refine lv_topi (fun x3_85 ex3_85 => ?_)
      replace h := o_nm_at ex3_85 h
      refine lv_istore_n (lv' := [(3, .int x3_85), (0, .ref (ad 0)), (1, .int u57_x1), (2, .int z)]) hx hb d_MM_type_85 rfl hl (by decide) rfl (fun ls hl => ?_)
      obtain ⟨q4, hq4, h⟩ := o_bd_some h
      refine o_sim2 (AH := fun zz => o_At p l e rm_MM_type s m args below meth c _ m_cls D A 4 86 [] (m_cw ad ca ky ty u57_rt u57_Ni u57_Np u57_No u57_Nx u57_Nf u57_Na u57_Nh u57_Nq u57_Nj u57_M0 u57_M1) [(0, .ref (ad 0)), (1, .int u57_x1), (2, .int z), (3, .int zz)]) (AX := fun qq => if qq.1 = 1 then o_At p l e rm_MM_type s m args below meth c _ m_cls D A 4 104 [] (m_cw ad ca ky ty u57_rt u57_Ni u57_Np u57_No u57_Nx u57_Nf u57_Na u57_Nh u57_Nq u57_Nj u57_M0 u57_M1) [(0, .ref (ad 0)), (2, .int z)] else o_At p l e rm_MM_type s m args below meth c _ m_cls D A 4 124 [] (m_cw ad ca ky ty u57_rt u57_Ni u57_Np u57_No u57_Nx u57_Nf u57_Na u57_Nh u57_Nq u57_Nj u57_M0 u57_M1) [(0, .ref (ad 0)), (1, .int u57_x1), (2, .int z)]) (fun zz qq h h0 h1 => f_MM_type_b86 hE hKy C hDD n u57_x1 z u57_M0 u57_Nf u57_Ni u57_Np u57_No u57_Nx u57_Na u57_Nh u57_Nq u57_Nj u57_M1 u57_rt zz qq h h0 h1) n _ q4 hq4 ?_ _ _ _ hP hS (lv_sub hl [1, 2, 3, 0] rfl)
      by_cases c13 : q4.1 = 1
      · replace h := o_tt c13 h
        refine o_ip c13 ?_
        intro H locs ls hP hS hl
        cases h
        exact h1 (Nat.succ_ne_zero 1) _ _ _ hP hS (lv_sub hl [0, 1] rfl)
      replace h := o_ff c13 h
      refine o_in_ c13 ?_
      intro H locs ls hP hS hl
      refine lv_aload_n hx hb d_MM_type_124 rfl (lv_at hl 0 rfl) ?_
      refine o_get (v := .ref (ad 33)) C in_MM hP 0 mw_0 rfl 4 (by decide) k_7_234 rfl rfl d_MM_type_125 ?_
      refine o_get (v := .ref (ad 41)) C in_MT hP 33 mw_33 rfl 7 (by decide) k_7_115 rfl rfl d_MM_type_128 ?_
      refine lv_iload_n hx hb d_MM_type_131 rfl (lv_at hl 2 rfl) ?_
      obtain ⟨g12, h⟩ := o_gd_some h
      refine o_iald (f := (MT_next u57_M0)) C hP 41 39 mw_41 rfl g12 d_MM_type_132 ?_
      refine lv_topi (fun x2_133 ex2_133 => ?_)
      replace h := o_nm_at ex2_133 h
      refine lv_istore_n (lv' := [(2, .int x2_133), (0, .ref (ad 0)), (1, .int u57_x1)]) hx hb d_MM_type_133 rfl hl (by decide) rfl (fun ls hl => ?_)
      refine lv_goto (tgt := 57) hx hb d_MM_type_134 (by decide) ?_
      cases h
      exact h0 rfl _ _ _ hP hS (lv_sub hl [1, 2, 0] rfl)
    · replace h := o_ff c7 h
      cases h
      exact h1 (Nat.succ_ne_zero 0) _ _ _ hP hS (lv_sub hl [0, 2] rfl)
set_option maxHeartbeats 4000000 in
set_option maxRecDepth 100000 in
theorem e_MM_type {E : (Nat → Prop) → State → Heap → Prop} {D : va_G} {ad kd sd vd xd : Nat → Nat} {ca : Nat → ClassId} {ky ty : Nat → Option Nat} (hE : o_EK E kd sd vd xd) (hKy : m_KY ky ty sd) (l : Launch) (n : Nat) (x1 : Int32) (M0 : SMT) (Nf : SNF) (Ni : SNI) (Np : SNP) (No : SNO) (Nx : SNX) (Na : SNA) (Nh : SNH) (Nq : SNQ) (Nj : SNJ) (M1 : SMT) (rt : Nat) {r : SNF} (h : m_MM_type n x1 M0 Nf = some r) : o_Cn E l D m_cls (m_tys ca) y_MM_type cc_MM_type rm_MM_type [.ref (ad 0), .int x1] (m_cw ad ca ky ty rt Ni Np No Nx Nf Na Nh Nq Nj M0 M1) (m_cw ad ca ky ty rt Ni Np No Nx r Na Nh Nq Nj M0 M1) none := by
  refine o_Cn_of (by decide) (Nat.le_of_ble_eq_true rfl) ?_
  intro p e s m below meth c A ls C hD hP hS hl
  have hDD : ∀ (rt : Nat) (Ni : SNI) (Np : SNP) (No : SNO) (Nx : SNX) (Nf : SNF) (Na : SNA) (Nh : SNH) (Nq : SNQ) (Nj : SNJ) (M0 : SMT) (M1 : SMT), va_D A (m_cw ad ca ky ty rt Ni Np No Nx Nf Na Nh Nq Nj M0 M1) := fun _ _ _ _ _ _ _ _ _ _ _ _ => o_D_map hD rfl
  have hl : lv_has ls 4 [(0, .ref (ad 0)), (1, .int x1)] := hl
  unfold m_MM_type at h
  have C0 := C
  obtain ⟨hx, hb, -, -, -, hown, hts, hK, -, -⟩ := C0
  refine lv_aload_n hx hb d_MM_type_0 rfl (lv_at hl 0 rfl) ?_
  refine o_get (v := .ref (ad 33)) C in_MM hP 0 mw_0 rfl 4 (by decide) k_7_234 rfl rfl d_MM_type_1 ?_
  refine o_get (v := .ref (ad 35)) C in_MT hP 33 mw_33 rfl 1 (by decide) k_7_103 rfl rfl d_MM_type_4 ?_
  refine lv_iload_n hx hb d_MM_type_7 rfl (lv_at hl 1 rfl) ?_
  obtain ⟨g1, h⟩ := o_gd_some h
  refine o_iald (f := (MT_kind M0)) C hP 35 33 mw_35 rfl g1 d_MM_type_8 ?_
  refine lv_iconst (v := (5:Int32)) hx hb d_MM_type_9 (by decide) ?_
  refine lv_icmp_eq (tgt := 28) hx hb d_MM_type_10 (by decide) (fun c2 => ?_) (fun c2 => ?_)
  · replace h := o_tt c2 h
    refine lv_aload_n hx hb d_MM_type_28 rfl (lv_at hl 0 rfl) ?_
    refine o_get (v := .ref (ad 33)) C in_MM hP 0 mw_0 rfl 4 (by decide) k_7_234 rfl rfl d_MM_type_29 ?_
    refine o_get (v := .ref (ad 37)) C in_MT hP 33 mw_33 rfl 3 (by decide) k_7_107 rfl rfl d_MM_type_32 ?_
    refine lv_iload_n hx hb d_MM_type_35 rfl (lv_at hl 1 rfl) ?_
    obtain ⟨g3, h⟩ := o_gd_some h
    refine o_iald (f := (MT_many M0)) C hP 37 35 mw_37 rfl g3 d_MM_type_36 ?_
    refine lv_if_ne (tgt := 47) hx hb d_MM_type_37 (by decide) (fun c4 => ?_) (fun c4 => ?_)
    · replace h := o_ff c4 h
      refine lv_aload_n hx hb d_MM_type_47 rfl (lv_at hl 0 rfl) ?_
      refine o_get (v := .ref (ad 33)) C in_MM hP 0 mw_0 rfl 4 (by decide) k_7_234 rfl rfl d_MM_type_48 ?_
      refine o_get (v := .ref (ad 40)) C in_MT hP 33 mw_33 rfl 6 (by decide) k_7_113 rfl rfl d_MM_type_51 ?_
      refine lv_iload_n hx hb d_MM_type_54 rfl (lv_at hl 1 rfl) ?_
      obtain ⟨g5, h⟩ := o_gd_some h
      refine o_iald (f := (MT_first M0)) C hP 40 38 mw_40 rfl g5 d_MM_type_55 ?_
      refine lv_topi (fun x2_56 ex2_56 => ?_)
      replace h := o_nm_at ex2_56 h
      refine lv_istore_n (lv' := [(2, .int x2_56), (0, .ref (ad 0)), (1, .int x1)]) hx hb d_MM_type_56 rfl hl (by decide) rfl (fun ls hl => ?_)
      obtain ⟨q5, hq5, h⟩ := o_bd_some h
      refine o_sim2 (AH := fun zz => o_At p l e rm_MM_type s m _ below meth c _ m_cls D A 4 57 [] (m_cw ad ca ky ty rt Ni Np No Nx Nf Na Nh Nq Nj M0 M1) [(0, .ref (ad 0)), (1, .int x1), (2, .int zz)]) (AX := fun qq => if qq.1 = 1 then o_At p l e rm_MM_type s m _ below meth c _ m_cls D A 4 69 [] (m_cw ad ca ky ty rt Ni Np No Nx Nf Na Nh Nq Nj M0 M1) [(0, .ref (ad 0)), (2, .int qq.2)] else if qq.1 = 2 then o_At p l e rm_MM_type s m _ below meth c _ m_cls D A 4 104 [] (m_cw ad ca ky ty rt Ni Np No Nx Nf Na Nh Nq Nj M0 M1) [(0, .ref (ad 0)), (2, .int qq.2)] else o_At p l e rm_MM_type s m _ below meth c _ m_cls D A 4 137 [] (m_cw ad ca ky ty rt Ni Np No Nx Nf Na Nh Nq Nj M0 M1) []) (fun zz qq h h0 h1 => f_MM_type_b57 hE hKy C hDD n x1 M0 Nf Ni Np No Nx Na Nh Nq Nj M1 rt zz qq h h0 h1) n _ q5 hq5 ?_ _ _ _ hP hS (lv_sub hl [1, 2, 0] rfl)
      by_cases c14 : q5.1 = 1
      · replace h := o_tt c14 h
        refine o_ip c14 ?_
        intro H locs ls hP hS hl
        refine lv_aload_n hx hb d_MM_type_69 rfl (lv_at hl 0 rfl) ?_
        refine lv_iconst (v := (1:Int32)) hx hb d_MM_type_70 (by decide) ?_
        refine lv_iload_n hx hb d_MM_type_71 rfl (lv_at hl 1 rfl) ?_
        obtain ⟨q6, hq6, h⟩ := o_bd_some h
        refine o_V (st1 := []) (w1 := (m_cw ad ca ky ty rt Ni Np No Nx q6 Na Nh Nq Nj M0 M1)) hE.1 C (e_MM_fault hE hKy l (1:Int32) q5.2 Nf Ni Np No Nx Na Nh Nq Nj M0 M1 rt hq6) hP (hDD _ _ _ _ _ _ _ _ _ _ _ _) hS hl.1 rfl mw_0 k_9_42 k_9_44 k_s_83 k_1_12 k_9_45 hv_MM_fault rfl rfl ⟨(Nat.le_of_ble_eq_true rfl), (Nat.le_of_ble_eq_true rfl)⟩ rfl (Nat.le_of_ble_eq_true rfl) ⟨Nat.zero_le _, Nat.zero_le _⟩ rfl d_MM_type_72 (fun H locs hP hS => ?_)
        cases h
        exact o_rv C hP hS d_MM_type_75
      replace h := o_ff c14 h
      refine o_in_ c14 ?_
      by_cases c15 : q5.1 = 2
      · replace h := o_tt c15 h
        refine o_ip c15 ?_
        intro H locs ls hP hS hl
        refine lv_aload_n hx hb d_MM_type_104 rfl (lv_at hl 0 rfl) ?_
        refine lv_iconst (v := (1:Int32)) hx hb d_MM_type_105 (by decide) ?_
        refine lv_iload_n hx hb d_MM_type_106 rfl (lv_at hl 1 rfl) ?_
        obtain ⟨q7, hq7, h⟩ := o_bd_some h
        refine o_V (st1 := []) (w1 := (m_cw ad ca ky ty rt Ni Np No Nx q7 Na Nh Nq Nj M0 M1)) hE.1 C (e_MM_fault hE hKy l (1:Int32) q5.2 Nf Ni Np No Nx Na Nh Nq Nj M0 M1 rt hq7) hP (hDD _ _ _ _ _ _ _ _ _ _ _ _) hS hl.1 rfl mw_0 k_9_42 k_9_44 k_s_83 k_1_12 k_9_45 hv_MM_fault rfl rfl ⟨(Nat.le_of_ble_eq_true rfl), (Nat.le_of_ble_eq_true rfl)⟩ rfl (Nat.le_of_ble_eq_true rfl) ⟨Nat.zero_le _, Nat.zero_le _⟩ rfl d_MM_type_107 (fun H locs hP hS => ?_)
        cases h
        exact o_rv C hP hS d_MM_type_110
      replace h := o_ff c15 h
      refine o_in_ c15 ?_
      intro H locs ls hP hS hl
      cases h
      exact o_rv C hP hS d_MM_type_137
    · replace h := o_tt c4 h
      refine lv_aload_n hx hb d_MM_type_40 rfl (lv_at hl 0 rfl) ?_
      refine lv_iconst (v := (1:Int32)) hx hb d_MM_type_41 (by decide) ?_
      refine lv_iload_n hx hb d_MM_type_42 rfl (lv_at hl 1 rfl) ?_
      obtain ⟨q8, hq8, h⟩ := o_bd_some h
      refine o_V (st1 := []) (w1 := (m_cw ad ca ky ty rt Ni Np No Nx q8 Na Nh Nq Nj M0 M1)) hE.1 C (e_MM_fault hE hKy l (1:Int32) x1 Nf Ni Np No Nx Na Nh Nq Nj M0 M1 rt hq8) hP (hDD _ _ _ _ _ _ _ _ _ _ _ _) hS hl.1 rfl mw_0 k_9_42 k_9_44 k_s_83 k_1_12 k_9_45 hv_MM_fault rfl rfl ⟨(Nat.le_of_ble_eq_true rfl), (Nat.le_of_ble_eq_true rfl)⟩ rfl (Nat.le_of_ble_eq_true rfl) ⟨Nat.zero_le _, Nat.zero_le _⟩ rfl d_MM_type_43 (fun H locs hP hS => ?_)
      cases h
      exact o_rv C hP hS d_MM_type_46
  · replace h := o_ff c2 h
    refine lv_aload_n hx hb d_MM_type_13 rfl (lv_at hl 0 rfl) ?_
    refine lv_iload_n hx hb d_MM_type_14 rfl (lv_at hl 1 rfl) ?_
    obtain ⟨q9, hq9, h⟩ := o_bd_some h
    refine o_V (st1 := [.int q9]) (w1 := (m_cw ad ca ky ty rt Ni Np No Nx Nf Na Nh Nq Nj M0 M1)) hE.1 C (e_MM_typeOf hE hKy l n x1 M0 Ni Np No Nx Nf Na Nh Nq Nj M1 rt hq9) hP (hDD _ _ _ _ _ _ _ _ _ _ _ _) hS hl.1 rfl mw_0 k_9_171 k_9_173 k_s_109 k_1_12 k_9_174 hv_MM_typeOf rfl rfl ⟨(Nat.le_of_ble_eq_true rfl), (Nat.le_of_ble_eq_true rfl)⟩ rfl (Nat.le_of_ble_eq_true rfl) ⟨Nat.zero_le _, Nat.zero_le _⟩ rfl d_MM_type_15 (fun H locs hP hS => ?_)
    refine lv_if_ge (tgt := 27) hx hb d_MM_type_18 (by decide) (fun c16 => ?_) (fun c16 => ?_)
    · replace h := o_tt c16 h
      cases h
      exact o_rv C hP hS d_MM_type_27
    · replace h := o_ff c16 h
      refine lv_aload_n hx hb d_MM_type_21 rfl (lv_at hl 0 rfl) ?_
      refine lv_iconst (v := (1:Int32)) hx hb d_MM_type_22 (by decide) ?_
      refine lv_iload_n hx hb d_MM_type_23 rfl (lv_at hl 1 rfl) ?_
      obtain ⟨q10, hq10, h⟩ := o_bd_some h
      refine o_V (st1 := []) (w1 := (m_cw ad ca ky ty rt Ni Np No Nx q10 Na Nh Nq Nj M0 M1)) hE.1 C (e_MM_fault hE hKy l (1:Int32) x1 Nf Ni Np No Nx Na Nh Nq Nj M0 M1 rt hq10) hP (hDD _ _ _ _ _ _ _ _ _ _ _ _) hS hl.1 rfl mw_0 k_9_42 k_9_44 k_s_83 k_1_12 k_9_45 hv_MM_fault rfl rfl ⟨(Nat.le_of_ble_eq_true rfl), (Nat.le_of_ble_eq_true rfl)⟩ rfl (Nat.le_of_ble_eq_true rfl) ⟨Nat.zero_le _, Nat.zero_le _⟩ rfl d_MM_type_24 (fun H locs hP hS => ?_)
      cases h
      exact o_rv C hP hS d_MM_type_27
set_option maxHeartbeats 4000000 in
set_option maxRecDepth 100000 in
theorem f_MM_strings_b64 {E : (Nat → Prop) → State → Heap → Prop} {p : Program} {l : Launch} {e : Env} {s : State} {m : MethodId} {args : Array Value} {below : List Frame} {meth : Method} {c : Code} {D : va_G} {ad kd sd vd xd : Nat → Nat} {ca : Nat → ClassId} {A : Nat → Prop} {ky ty : Nat → Option Nat} {Q : State → Prop} (hE : o_EK E kd sd vd xd) (hKy : m_KY ky ty sd) (C : o_Cx E p s m args meth c D m_cls (m_tys ca) "SchemaJudgeModel" b_MM_strings none 4 cc_MM_strings A) (hDD : ∀ (rt : Nat) (Ni : SNI) (Np : SNP) (No : SNO) (Nx : SNX) (Nf : SNF) (Na : SNA) (Nh : SNH) (Nq : SNQ) (Nj : SNJ) (M0 : SMT) (M1 : SMT), va_D A (m_cw ad ca ky ty rt Ni Np No Nx Nf Na Nh Nq Nj M0 M1)) (n : Nat) (u64_x1 : Int32) (u64_x2 : Int32) (u64_M0 : SMT) (u64_Nf : SNF) (u64_Ni : SNI) (u64_Np : SNP) (u64_No : SNO) (u64_Nx : SNX) (u64_Na : SNA) (u64_Nh : SNH) (u64_Nq : SNQ) (u64_Nj : SNJ) (u64_M1 : SMT) (u64_rt : Nat) (z : Int32) (q : Nat × Int32) (h : m_MM_strings_b64 n u64_x1 u64_x2 u64_M0 u64_Nf z = some q) (h0 : q.1 = 0 → o_At p l e rm_MM_strings s m args below meth c Q m_cls D A 4 64 [] (m_cw ad ca ky ty u64_rt u64_Ni u64_Np u64_No u64_Nx u64_Nf u64_Na u64_Nh u64_Nq u64_Nj u64_M0 u64_M1) [(0, .ref (ad 0)), (1, .int u64_x1), (2, .int u64_x2), (3, .int q.2)]) (h1 : q.1 ≠ 0 → (if q.1 = 1 then o_At p l e rm_MM_strings s m args below meth c Q m_cls D A 4 85 [] (m_cw ad ca ky ty u64_rt u64_Ni u64_Np u64_No u64_Nx u64_Nf u64_Na u64_Nh u64_Nq u64_Nj u64_M0 u64_M1) [(0, .ref (ad 0)), (2, .int u64_x2)] else o_At p l e rm_MM_strings s m args below meth c Q m_cls D A 4 105 [] (m_cw ad ca ky ty u64_rt u64_Ni u64_Np u64_No u64_Nx u64_Nf u64_Na u64_Nh u64_Nq u64_Nj u64_M0 u64_M1) [(0, .ref (ad 0)), (1, .int u64_x1), (2, .int u64_x2)])) : o_At p l e rm_MM_strings s m args below meth c Q m_cls D A 4 64 [] (m_cw ad ca ky ty u64_rt u64_Ni u64_Np u64_No u64_Nx u64_Nf u64_Na u64_Nh u64_Nq u64_Nj u64_M0 u64_M1) [(0, .ref (ad 0)), (1, .int u64_x1), (2, .int u64_x2), (3, .int z)] := by
  unfold m_MM_strings_b64 at h
  intro H locs ls hP hS hl
  have C0 := C
  obtain ⟨hx, hb, -, -, -, hown, hts, hK, -, -⟩ := C0
  refine lv_iload_n hx hb d_MM_strings_64 rfl (lv_at hl 3 rfl) ?_
  refine lv_iload_n hx hb d_MM_strings_65 rfl (lv_at hl 2 rfl) ?_
  refine lv_icmp_eq (tgt := 105) hx hb d_MM_strings_66 (by decide) (fun c8 => ?_) (fun c8 => ?_)
  · replace h := o_tt c8 h
    cases h
    exact h1 (Nat.succ_ne_zero 1) _ _ _ hP hS (lv_sub hl [0, 1, 2] rfl)
  · replace h := o_ff c8 h
    refine lv_aload_n hx hb d_MM_strings_69 rfl (lv_at hl 0 rfl) ?_
    refine o_get (v := .ref (ad 33)) C in_MM hP 0 mw_0 rfl 4 (by decide) k_7_234 rfl rfl d_MM_strings_70 ?_
    refine lv_iload_n hx hb d_MM_strings_73 rfl (lv_at hl 2 rfl) ?_
    refine lv_aload_n hx hb d_MM_strings_74 rfl (lv_at hl 0 rfl) ?_
    refine o_get (v := .ref (ad 33)) C in_MM hP 0 mw_0 rfl 4 (by decide) k_7_234 rfl rfl d_MM_strings_75 ?_
    refine lv_iload_n hx hb d_MM_strings_78 rfl (lv_at hl 3 rfl) ?_
    obtain ⟨q1, hq1, h⟩ := o_bd_some h
    refine o_V (st1 := [.int q1]) (w1 := (m_cw ad ca ky ty u64_rt u64_Ni u64_Np u64_No u64_Nx u64_Nf u64_Na u64_Nh u64_Nq u64_Nj u64_M0 u64_M1)) hE.1 C (e_MT_same_aa hE hKy l n u64_x2 z u64_M0 u64_Ni u64_Np u64_No u64_Nx u64_Nf u64_Na u64_Nh u64_Nq u64_Nj u64_M1 u64_rt hq1) hP (hDD _ _ _ _ _ _ _ _ _ _ _ _) hS hl.1 rfl mw_33 k_9_166 k_9_26 k_9_27 k_1_13 k_9_28 hv_MT_same rfl rfl ⟨(Nat.le_of_ble_eq_true rfl), (Nat.le_of_ble_eq_true rfl)⟩ rfl (Nat.le_of_ble_eq_true rfl) ⟨Nat.zero_le _, Nat.zero_le _⟩ rfl d_MM_strings_79 (fun H locs hP hS => ?_)
    refine lv_if_eq (tgt := 92) hx hb d_MM_strings_82 (by decide) (fun c9 => ?_) (fun c9 => ?_)
    · replace h := o_tt c9 h
      refine lv_aload_n hx hb d_MM_strings_92 rfl (lv_at hl 0 rfl) ?_
      refine o_get (v := .ref (ad 33)) C in_MM hP 0 mw_0 rfl 4 (by decide) k_7_234 rfl rfl d_MM_strings_93 ?_
      refine o_get (v := .ref (ad 41)) C in_MT hP 33 mw_33 rfl 7 (by decide) k_7_115 rfl rfl d_MM_strings_96 ?_
      refine lv_iload_n hx hb d_MM_strings_99 rfl (lv_at hl 3 rfl) ?_
      obtain ⟨g10, h⟩ := o_gd_some h
      refine o_iald (f := (MT_next u64_M0)) C hP 41 39 mw_41 rfl g10 d_MM_strings_100 ?_
      refine lv_topi (fun x3_101 ex3_101 => ?_)
      replace h := o_nm_at ex3_101 h
      refine lv_istore_n (lv' := [(3, .int x3_101), (0, .ref (ad 0)), (1, .int u64_x1), (2, .int u64_x2)]) hx hb d_MM_strings_101 rfl hl (by decide) rfl (fun ls hl => ?_)
      refine lv_goto (tgt := 64) hx hb d_MM_strings_102 (by decide) ?_
      cases h
      exact h0 rfl _ _ _ hP hS (lv_sub hl [1, 2, 3, 0] rfl)
    · replace h := o_ff c9 h
      cases h
      exact h1 (Nat.succ_ne_zero 0) _ _ _ hP hS (lv_sub hl [0, 2] rfl)
set_option maxHeartbeats 4000000 in
set_option maxRecDepth 100000 in
theorem f_MM_strings_b30 {E : (Nat → Prop) → State → Heap → Prop} {p : Program} {l : Launch} {e : Env} {s : State} {m : MethodId} {args : Array Value} {below : List Frame} {meth : Method} {c : Code} {D : va_G} {ad kd sd vd xd : Nat → Nat} {ca : Nat → ClassId} {A : Nat → Prop} {ky ty : Nat → Option Nat} {Q : State → Prop} (hE : o_EK E kd sd vd xd) (hKy : m_KY ky ty sd) (C : o_Cx E p s m args meth c D m_cls (m_tys ca) "SchemaJudgeModel" b_MM_strings none 4 cc_MM_strings A) (hDD : ∀ (rt : Nat) (Ni : SNI) (Np : SNP) (No : SNO) (Nx : SNX) (Nf : SNF) (Na : SNA) (Nh : SNH) (Nq : SNQ) (Nj : SNJ) (M0 : SMT) (M1 : SMT), va_D A (m_cw ad ca ky ty rt Ni Np No Nx Nf Na Nh Nq Nj M0 M1)) (n : Nat) (u30_x1 : Int32) (u30_M0 : SMT) (u30_Nf : SNF) (u30_Ni : SNI) (u30_Np : SNP) (u30_No : SNO) (u30_Nx : SNX) (u30_Na : SNA) (u30_Nh : SNH) (u30_Nq : SNQ) (u30_Nj : SNJ) (u30_M1 : SMT) (u30_rt : Nat) (z : Int32) (q : Nat × Int32) (h : m_MM_strings_b30 n u30_x1 u30_M0 u30_Nf z = some q) (h0 : q.1 = 0 → o_At p l e rm_MM_strings s m args below meth c Q m_cls D A 4 30 [] (m_cw ad ca ky ty u30_rt u30_Ni u30_Np u30_No u30_Nx u30_Nf u30_Na u30_Nh u30_Nq u30_Nj u30_M0 u30_M1) [(0, .ref (ad 0)), (1, .int u30_x1), (2, .int q.2)]) (h1 : q.1 ≠ 0 → (if q.1 = 1 then o_At p l e rm_MM_strings s m args below meth c Q m_cls D A 4 47 [] (m_cw ad ca ky ty u30_rt u30_Ni u30_Np u30_No u30_Nx u30_Nf u30_Na u30_Nh u30_Nq u30_Nj u30_M0 u30_M1) [(0, .ref (ad 0)), (2, .int q.2)] else if q.1 = 2 then o_At p l e rm_MM_strings s m args below meth c Q m_cls D A 4 85 [] (m_cw ad ca ky ty u30_rt u30_Ni u30_Np u30_No u30_Nx u30_Nf u30_Na u30_Nh u30_Nq u30_Nj u30_M0 u30_M1) [(0, .ref (ad 0)), (2, .int q.2)] else o_At p l e rm_MM_strings s m args below meth c Q m_cls D A 4 118 [] (m_cw ad ca ky ty u30_rt u30_Ni u30_Np u30_No u30_Nx u30_Nf u30_Na u30_Nh u30_Nq u30_Nj u30_M0 u30_M1) [])) : o_At p l e rm_MM_strings s m args below meth c Q m_cls D A 4 30 [] (m_cw ad ca ky ty u30_rt u30_Ni u30_Np u30_No u30_Nx u30_Nf u30_Na u30_Nh u30_Nq u30_Nj u30_M0 u30_M1) [(0, .ref (ad 0)), (1, .int u30_x1), (2, .int z)] := by
  unfold m_MM_strings_b30 at h
  intro H locs ls hP hS hl
  have C0 := C
  obtain ⟨hx, hb, -, -, -, hown, hts, hK, -, -⟩ := C0
  refine lv_iload_n hx hb d_MM_strings_30 rfl (lv_at hl 2 rfl) ?_
  refine lv_if_lt (tgt := 118) hx hb d_MM_strings_31 (by decide) (fun c4 => ?_) (fun c4 => ?_)
  · replace h := o_tt c4 h
    cases h
    exact h1 (Nat.succ_ne_zero 2) _ _ _ hP hS (lv_sub hl [] rfl)
  · replace h := o_ff c4 h
    refine lv_aload_n hx hb d_MM_strings_34 rfl (lv_at hl 0 rfl) ?_
    refine o_get (v := .ref (ad 33)) C in_MM hP 0 mw_0 rfl 4 (by decide) k_7_234 rfl rfl d_MM_strings_35 ?_
    refine o_get (v := .ref (ad 35)) C in_MT hP 33 mw_33 rfl 1 (by decide) k_7_103 rfl rfl d_MM_strings_38 ?_
    refine lv_iload_n hx hb d_MM_strings_41 rfl (lv_at hl 2 rfl) ?_
    obtain ⟨g5, h⟩ := o_gd_some h
    refine o_iald (f := (MT_kind u30_M0)) C hP 35 33 mw_35 rfl g5 d_MM_strings_42 ?_
    refine lv_iconst (v := (4:Int32)) hx hb d_MM_strings_43 (by decide) ?_
    refine lv_icmp_eq (tgt := 54) hx hb d_MM_strings_44 (by decide) (fun c6 => ?_) (fun c6 => ?_)
    · replace h := o_tt c6 h
      refine lv_aload_n hx hb d_MM_strings_54 rfl (lv_at hl 0 rfl) ?_
      refine o_get (v := .ref (ad 33)) C in_MM hP 0 mw_0 rfl 4 (by decide) k_7_234 rfl rfl d_MM_strings_55 ?_
      refine o_get (v := .ref (ad 40)) C in_MT hP 33 mw_33 rfl 6 (by decide) k_7_113 rfl rfl d_MM_strings_58 ?_
      refine lv_iload_n hx hb d_MM_strings_61 rfl (lv_at hl 1 rfl) ?_
      obtain ⟨g7, h⟩ := o_gd_some h
      refine o_iald (f := (MT_first u30_M0)) C hP 40 38 mw_40 rfl g7 d_MM_strings_62 ?_
      refine lv_topi (fun x3_63 ex3_63 => ?_)
      replace h := o_nm_at ex3_63 h
      refine lv_istore_n (lv' := [(3, .int x3_63), (0, .ref (ad 0)), (1, .int u30_x1), (2, .int z)]) hx hb d_MM_strings_63 rfl hl (by decide) rfl (fun ls hl => ?_)
      obtain ⟨q2, hq2, h⟩ := o_bd_some h
      refine o_sim2 (AH := fun zz => o_At p l e rm_MM_strings s m args below meth c _ m_cls D A 4 64 [] (m_cw ad ca ky ty u30_rt u30_Ni u30_Np u30_No u30_Nx u30_Nf u30_Na u30_Nh u30_Nq u30_Nj u30_M0 u30_M1) [(0, .ref (ad 0)), (1, .int u30_x1), (2, .int z), (3, .int zz)]) (AX := fun qq => if qq.1 = 1 then o_At p l e rm_MM_strings s m args below meth c _ m_cls D A 4 85 [] (m_cw ad ca ky ty u30_rt u30_Ni u30_Np u30_No u30_Nx u30_Nf u30_Na u30_Nh u30_Nq u30_Nj u30_M0 u30_M1) [(0, .ref (ad 0)), (2, .int z)] else o_At p l e rm_MM_strings s m args below meth c _ m_cls D A 4 105 [] (m_cw ad ca ky ty u30_rt u30_Ni u30_Np u30_No u30_Nx u30_Nf u30_Na u30_Nh u30_Nq u30_Nj u30_M0 u30_M1) [(0, .ref (ad 0)), (1, .int u30_x1), (2, .int z)]) (fun zz qq h h0 h1 => f_MM_strings_b64 hE hKy C hDD n u30_x1 z u30_M0 u30_Nf u30_Ni u30_Np u30_No u30_Nx u30_Na u30_Nh u30_Nq u30_Nj u30_M1 u30_rt zz qq h h0 h1) n _ q2 hq2 ?_ _ _ _ hP hS (lv_sub hl [1, 2, 3, 0] rfl)
      by_cases c12 : q2.1 = 1
      · replace h := o_tt c12 h
        refine o_ip c12 ?_
        intro H locs ls hP hS hl
        cases h
        exact h1 (Nat.succ_ne_zero 1) _ _ _ hP hS (lv_sub hl [0, 1] rfl)
      replace h := o_ff c12 h
      refine o_in_ c12 ?_
      intro H locs ls hP hS hl
      refine lv_aload_n hx hb d_MM_strings_105 rfl (lv_at hl 0 rfl) ?_
      refine o_get (v := .ref (ad 33)) C in_MM hP 0 mw_0 rfl 4 (by decide) k_7_234 rfl rfl d_MM_strings_106 ?_
      refine o_get (v := .ref (ad 41)) C in_MT hP 33 mw_33 rfl 7 (by decide) k_7_115 rfl rfl d_MM_strings_109 ?_
      refine lv_iload_n hx hb d_MM_strings_112 rfl (lv_at hl 2 rfl) ?_
      obtain ⟨g11, h⟩ := o_gd_some h
      refine o_iald (f := (MT_next u30_M0)) C hP 41 39 mw_41 rfl g11 d_MM_strings_113 ?_
      refine lv_topi (fun x2_114 ex2_114 => ?_)
      replace h := o_nm_at ex2_114 h
      refine lv_istore_n (lv' := [(2, .int x2_114), (0, .ref (ad 0)), (1, .int u30_x1)]) hx hb d_MM_strings_114 rfl hl (by decide) rfl (fun ls hl => ?_)
      refine lv_goto (tgt := 30) hx hb d_MM_strings_115 (by decide) ?_
      cases h
      exact h0 rfl _ _ _ hP hS (lv_sub hl [1, 2, 0] rfl)
    · replace h := o_ff c6 h
      cases h
      exact h1 (Nat.succ_ne_zero 0) _ _ _ hP hS (lv_sub hl [0, 2] rfl)
set_option maxHeartbeats 4000000 in
set_option maxRecDepth 100000 in
theorem e_MM_strings {E : (Nat → Prop) → State → Heap → Prop} {D : va_G} {ad kd sd vd xd : Nat → Nat} {ca : Nat → ClassId} {ky ty : Nat → Option Nat} (hE : o_EK E kd sd vd xd) (hKy : m_KY ky ty sd) (l : Launch) (n : Nat) (x1 : Int32) (M0 : SMT) (Nf : SNF) (Ni : SNI) (Np : SNP) (No : SNO) (Nx : SNX) (Na : SNA) (Nh : SNH) (Nq : SNQ) (Nj : SNJ) (M1 : SMT) (rt : Nat) {r : SNF} (h : m_MM_strings n x1 M0 Nf = some r) : o_Cn E l D m_cls (m_tys ca) y_MM_strings cc_MM_strings rm_MM_strings [.ref (ad 0), .int x1] (m_cw ad ca ky ty rt Ni Np No Nx Nf Na Nh Nq Nj M0 M1) (m_cw ad ca ky ty rt Ni Np No Nx r Na Nh Nq Nj M0 M1) none := by
  refine o_Cn_of (by decide) (Nat.le_of_ble_eq_true rfl) ?_
  intro p e s m below meth c A ls C hD hP hS hl
  have hDD : ∀ (rt : Nat) (Ni : SNI) (Np : SNP) (No : SNO) (Nx : SNX) (Nf : SNF) (Na : SNA) (Nh : SNH) (Nq : SNQ) (Nj : SNJ) (M0 : SMT) (M1 : SMT), va_D A (m_cw ad ca ky ty rt Ni Np No Nx Nf Na Nh Nq Nj M0 M1) := fun _ _ _ _ _ _ _ _ _ _ _ _ => o_D_map hD rfl
  have hl : lv_has ls 4 [(0, .ref (ad 0)), (1, .int x1)] := hl
  unfold m_MM_strings at h
  have C0 := C
  obtain ⟨hx, hb, -, -, -, hown, hts, hK, -, -⟩ := C0
  refine lv_aload_n hx hb d_MM_strings_0 rfl (lv_at hl 0 rfl) ?_
  refine o_get (v := .ref (ad 33)) C in_MM hP 0 mw_0 rfl 4 (by decide) k_7_234 rfl rfl d_MM_strings_1 ?_
  refine o_get (v := .ref (ad 35)) C in_MT hP 33 mw_33 rfl 1 (by decide) k_7_103 rfl rfl d_MM_strings_4 ?_
  refine lv_iload_n hx hb d_MM_strings_7 rfl (lv_at hl 1 rfl) ?_
  obtain ⟨g1, h⟩ := o_gd_some h
  refine o_iald (f := (MT_kind M0)) C hP 35 33 mw_35 rfl g1 d_MM_strings_8 ?_
  refine lv_iconst (v := (5:Int32)) hx hb d_MM_strings_9 (by decide) ?_
  refine lv_icmp_eq (tgt := 20) hx hb d_MM_strings_10 (by decide) (fun c2 => ?_) (fun c2 => ?_)
  · replace h := o_tt c2 h
    refine lv_aload_n hx hb d_MM_strings_20 rfl (lv_at hl 0 rfl) ?_
    refine o_get (v := .ref (ad 33)) C in_MM hP 0 mw_0 rfl 4 (by decide) k_7_234 rfl rfl d_MM_strings_21 ?_
    refine o_get (v := .ref (ad 40)) C in_MT hP 33 mw_33 rfl 6 (by decide) k_7_113 rfl rfl d_MM_strings_24 ?_
    refine lv_iload_n hx hb d_MM_strings_27 rfl (lv_at hl 1 rfl) ?_
    obtain ⟨g3, h⟩ := o_gd_some h
    refine o_iald (f := (MT_first M0)) C hP 40 38 mw_40 rfl g3 d_MM_strings_28 ?_
    refine lv_topi (fun x2_29 ex2_29 => ?_)
    replace h := o_nm_at ex2_29 h
    refine lv_istore_n (lv' := [(2, .int x2_29), (0, .ref (ad 0)), (1, .int x1)]) hx hb d_MM_strings_29 rfl hl (by decide) rfl (fun ls hl => ?_)
    obtain ⟨q3, hq3, h⟩ := o_bd_some h
    refine o_sim2 (AH := fun zz => o_At p l e rm_MM_strings s m _ below meth c _ m_cls D A 4 30 [] (m_cw ad ca ky ty rt Ni Np No Nx Nf Na Nh Nq Nj M0 M1) [(0, .ref (ad 0)), (1, .int x1), (2, .int zz)]) (AX := fun qq => if qq.1 = 1 then o_At p l e rm_MM_strings s m _ below meth c _ m_cls D A 4 47 [] (m_cw ad ca ky ty rt Ni Np No Nx Nf Na Nh Nq Nj M0 M1) [(0, .ref (ad 0)), (2, .int qq.2)] else if qq.1 = 2 then o_At p l e rm_MM_strings s m _ below meth c _ m_cls D A 4 85 [] (m_cw ad ca ky ty rt Ni Np No Nx Nf Na Nh Nq Nj M0 M1) [(0, .ref (ad 0)), (2, .int qq.2)] else o_At p l e rm_MM_strings s m _ below meth c _ m_cls D A 4 118 [] (m_cw ad ca ky ty rt Ni Np No Nx Nf Na Nh Nq Nj M0 M1) []) (fun zz qq h h0 h1 => f_MM_strings_b30 hE hKy C hDD n x1 M0 Nf Ni Np No Nx Na Nh Nq Nj M1 rt zz qq h h0 h1) n _ q3 hq3 ?_ _ _ _ hP hS (lv_sub hl [1, 2, 0] rfl)
    by_cases c13 : q3.1 = 1
    · replace h := o_tt c13 h
      refine o_ip c13 ?_
      intro H locs ls hP hS hl
      refine lv_aload_n hx hb d_MM_strings_47 rfl (lv_at hl 0 rfl) ?_
      refine lv_iconst (v := (1:Int32)) hx hb d_MM_strings_48 (by decide) ?_
      refine lv_iload_n hx hb d_MM_strings_49 rfl (lv_at hl 1 rfl) ?_
      obtain ⟨q4, hq4, h⟩ := o_bd_some h
      refine o_V (st1 := []) (w1 := (m_cw ad ca ky ty rt Ni Np No Nx q4 Na Nh Nq Nj M0 M1)) hE.1 C (e_MM_fault hE hKy l (1:Int32) q3.2 Nf Ni Np No Nx Na Nh Nq Nj M0 M1 rt hq4) hP (hDD _ _ _ _ _ _ _ _ _ _ _ _) hS hl.1 rfl mw_0 k_9_42 k_9_44 k_s_83 k_1_12 k_9_45 hv_MM_fault rfl rfl ⟨(Nat.le_of_ble_eq_true rfl), (Nat.le_of_ble_eq_true rfl)⟩ rfl (Nat.le_of_ble_eq_true rfl) ⟨Nat.zero_le _, Nat.zero_le _⟩ rfl d_MM_strings_50 (fun H locs hP hS => ?_)
      cases h
      exact o_rv C hP hS d_MM_strings_53
    replace h := o_ff c13 h
    refine o_in_ c13 ?_
    by_cases c14 : q3.1 = 2
    · replace h := o_tt c14 h
      refine o_ip c14 ?_
      intro H locs ls hP hS hl
      refine lv_aload_n hx hb d_MM_strings_85 rfl (lv_at hl 0 rfl) ?_
      refine lv_iconst (v := (1:Int32)) hx hb d_MM_strings_86 (by decide) ?_
      refine lv_iload_n hx hb d_MM_strings_87 rfl (lv_at hl 1 rfl) ?_
      obtain ⟨q5, hq5, h⟩ := o_bd_some h
      refine o_V (st1 := []) (w1 := (m_cw ad ca ky ty rt Ni Np No Nx q5 Na Nh Nq Nj M0 M1)) hE.1 C (e_MM_fault hE hKy l (1:Int32) q3.2 Nf Ni Np No Nx Na Nh Nq Nj M0 M1 rt hq5) hP (hDD _ _ _ _ _ _ _ _ _ _ _ _) hS hl.1 rfl mw_0 k_9_42 k_9_44 k_s_83 k_1_12 k_9_45 hv_MM_fault rfl rfl ⟨(Nat.le_of_ble_eq_true rfl), (Nat.le_of_ble_eq_true rfl)⟩ rfl (Nat.le_of_ble_eq_true rfl) ⟨Nat.zero_le _, Nat.zero_le _⟩ rfl d_MM_strings_88 (fun H locs hP hS => ?_)
      cases h
      exact o_rv C hP hS d_MM_strings_91
    replace h := o_ff c14 h
    refine o_in_ c14 ?_
    intro H locs ls hP hS hl
    cases h
    exact o_rv C hP hS d_MM_strings_118
  · replace h := o_ff c2 h
    refine lv_aload_n hx hb d_MM_strings_13 rfl (lv_at hl 0 rfl) ?_
    refine lv_iconst (v := (1:Int32)) hx hb d_MM_strings_14 (by decide) ?_
    refine lv_iload_n hx hb d_MM_strings_15 rfl (lv_at hl 1 rfl) ?_
    obtain ⟨q6, hq6, h⟩ := o_bd_some h
    refine o_V (st1 := []) (w1 := (m_cw ad ca ky ty rt Ni Np No Nx q6 Na Nh Nq Nj M0 M1)) hE.1 C (e_MM_fault hE hKy l (1:Int32) x1 Nf Ni Np No Nx Na Nh Nq Nj M0 M1 rt hq6) hP (hDD _ _ _ _ _ _ _ _ _ _ _ _) hS hl.1 rfl mw_0 k_9_42 k_9_44 k_s_83 k_1_12 k_9_45 hv_MM_fault rfl rfl ⟨(Nat.le_of_ble_eq_true rfl), (Nat.le_of_ble_eq_true rfl)⟩ rfl (Nat.le_of_ble_eq_true rfl) ⟨Nat.zero_le _, Nat.zero_le _⟩ rfl d_MM_strings_16 (fun H locs hP hS => ?_)
    cases h
    exact o_rv C hP hS d_MM_strings_19
set_option maxHeartbeats 4000000 in
set_option maxRecDepth 100000 in
theorem e_MM_isPattern_a {E : (Nat → Prop) → State → Heap → Prop} {D : va_G} {ad kd sd vd xd : Nat → Nat} {ca : Nat → ClassId} {ky ty : Nat → Option Nat} (hE : o_EK E kd sd vd xd) (hKy : m_KY ky ty sd) (l : Launch) (n : Nat) (x2 : Int32) (a1 : SMT) (Np : SNP) (No : SNO) (Ni : SNI) (Nx : SNX) (Nf : SNF) (Na : SNA) (Nh : SNH) (Nq : SNQ) (Nj : SNJ) (M1 : SMT) (rt : Nat) {r : Int32 × SNP × SNO} (h : m_MM_isPattern n x2 a1 Np No = some r) : o_Cn E l D m_cls (m_tys ca) y_MM_isPattern cc_MM_isPattern rm_MM_isPattern [.ref (ad 0), .ref (ad 33), .int x2] (m_cw ad ca ky ty rt Ni Np No Nx Nf Na Nh Nq Nj a1 M1) (m_cw ad ca ky ty 33 Ni r.2.1 r.2.2 Nx Nf Na Nh Nq Nj a1 M1) (some (.int r.1)) := by
  refine o_Cn_of (by decide) (Nat.le_of_ble_eq_true rfl) ?_
  intro p e s m below meth c A ls C hD hP hS hl
  have hDD : ∀ (rt : Nat) (Ni : SNI) (Np : SNP) (No : SNO) (Nx : SNX) (Nf : SNF) (Na : SNA) (Nh : SNH) (Nq : SNQ) (Nj : SNJ) (M0 : SMT) (M1 : SMT), va_D A (m_cw ad ca ky ty rt Ni Np No Nx Nf Na Nh Nq Nj M0 M1) := fun _ _ _ _ _ _ _ _ _ _ _ _ => o_D_map hD rfl
  have hl : lv_has ls 4 [(0, .ref (ad 0)), (1, .ref (ad 33)), (2, .int x2)] := hl
  unfold m_MM_isPattern at h
  have C0 := C
  obtain ⟨hx, hb, -, -, -, hown, hts, hK, -, -⟩ := C0
  refine lv_aload_n hx hb d_MM_isPattern_0 rfl (lv_at hl 0 rfl) ?_
  refine lv_aload_n hx hb d_MM_isPattern_1 rfl (lv_at hl 1 rfl) ?_
  refine o_put (v := .ref (ad 33)) (ty := (.object "SchemaJudgeModel$Text")) (w1 := (m_cw ad ca ky ty 33 Ni Np No Nx Nf Na Nh Nq Nj a1 M1)) C in_MM t_MM t_MM_ok n_MM hP (hDD _ _ _ _ _ _ _ _ _ _ _ _) hS 0 mw_0 rfl 31 (by decide) k_8_21 rfl rfl (by decide +kernel) rfl rfl (Nat.le_of_ble_eq_true rfl) rfl d_MM_isPattern_2 (fun H locs hP hS => ?_)
  refine lv_aload_n hx hb d_MM_isPattern_5 rfl (lv_at hl 0 rfl) ?_
  refine lv_aload_n hx hb d_MM_isPattern_6 rfl (lv_at hl 1 rfl) ?_
  refine o_get (v := .ref (ad 43)) C in_MT hP 33 mw_33 rfl 9 (by decide) k_7_119 rfl rfl d_MM_isPattern_7 ?_
  refine lv_iload_n hx hb d_MM_isPattern_10 rfl (lv_at hl 2 rfl) ?_
  obtain ⟨g1, h⟩ := o_gd_some h
  refine o_iald (f := (MT_from a1)) C hP 43 41 mw_43 rfl g1 d_MM_isPattern_11 ?_
  refine o_put (v := .int ((MT_from a1) x2.toNatClampNeg)) (ty := .int) (w1 := (m_cw ad ca ky ty 33 Ni (NP_mk (NP_nodeKind Np) (NP_nodeA Np) (NP_nodeB Np) (NP_nodeC Np) (NP_nodeNext Np) (NP_low Np) (NP_high Np) (NP_setFrom Np) (NP_setTo Np) (NP_setNot Np) (NP_nodes Np) (NP_sets Np) (NP_ranges Np) ((MT_from a1) x2.toNatClampNeg) (NP_patEnd Np) (NP_broken Np)) No Nx Nf Na Nh Nq Nj a1 M1)) C in_MM t_MM t_MM_ok n_MM hP (hDD _ _ _ _ _ _ _ _ _ _ _ _) hS 0 mw_0 rfl 27 (by decide) k_8_17 rfl rfl (by decide +kernel) rfl rfl (Nat.le_of_ble_eq_true rfl) rfl d_MM_isPattern_12 (fun H locs hP hS => ?_)
  refine lv_aload_n hx hb d_MM_isPattern_15 rfl (lv_at hl 0 rfl) ?_
  refine lv_aload_n hx hb d_MM_isPattern_16 rfl (lv_at hl 0 rfl) ?_
  refine o_get (v := .int ((MT_from a1) x2.toNatClampNeg)) C in_MM hP 0 mw_0 rfl 27 (by decide) k_8_17 rfl rfl d_MM_isPattern_17 ?_
  refine lv_aload_n hx hb d_MM_isPattern_20 rfl (lv_at hl 1 rfl) ?_
  refine o_get (v := .ref (ad 37)) C in_MT hP 33 mw_33 rfl 3 (by decide) k_7_107 rfl rfl d_MM_isPattern_21 ?_
  refine lv_iload_n hx hb d_MM_isPattern_24 rfl (lv_at hl 2 rfl) ?_
  obtain ⟨g2, h⟩ := o_gd_some h
  refine o_iald (f := (MT_many a1)) C hP 37 35 mw_37 rfl g2 d_MM_isPattern_25 ?_
  refine lv_iadd hx hb d_MM_isPattern_26 ?_
  refine o_put (v := .int (((MT_from a1) x2.toNatClampNeg) + ((MT_many a1) x2.toNatClampNeg))) (ty := .int) (w1 := (m_cw ad ca ky ty 33 Ni (NP_mk (NP_nodeKind Np) (NP_nodeA Np) (NP_nodeB Np) (NP_nodeC Np) (NP_nodeNext Np) (NP_low Np) (NP_high Np) (NP_setFrom Np) (NP_setTo Np) (NP_setNot Np) (NP_nodes Np) (NP_sets Np) (NP_ranges Np) ((MT_from a1) x2.toNatClampNeg) (((MT_from a1) x2.toNatClampNeg) + ((MT_many a1) x2.toNatClampNeg)) (NP_broken Np)) No Nx Nf Na Nh Nq Nj a1 M1)) C in_MM t_MM t_MM_ok n_MM hP (hDD _ _ _ _ _ _ _ _ _ _ _ _) hS 0 mw_0 rfl 28 (by decide) k_8_18 rfl rfl (by decide +kernel) rfl rfl (Nat.le_of_ble_eq_true rfl) rfl d_MM_isPattern_27 (fun H locs hP hS => ?_)
  refine lv_aload_n hx hb d_MM_isPattern_30 rfl (lv_at hl 0 rfl) ?_
  refine lv_iconst (v := (0:Int32)) hx hb d_MM_isPattern_31 (by decide) ?_
  refine o_put (v := .int (0:Int32)) (ty := .int) (w1 := (m_cw ad ca ky ty 33 Ni (NP_mk (NP_nodeKind Np) (NP_nodeA Np) (NP_nodeB Np) (NP_nodeC Np) (NP_nodeNext Np) (NP_low Np) (NP_high Np) (NP_setFrom Np) (NP_setTo Np) (NP_setNot Np) (0:Int32) (NP_sets Np) (NP_ranges Np) ((MT_from a1) x2.toNatClampNeg) (((MT_from a1) x2.toNatClampNeg) + ((MT_many a1) x2.toNatClampNeg)) (NP_broken Np)) No Nx Nf Na Nh Nq Nj a1 M1)) C in_MM t_MM t_MM_ok n_MM hP (hDD _ _ _ _ _ _ _ _ _ _ _ _) hS 0 mw_0 rfl 23 (by decide) k_8_13 rfl rfl (by decide +kernel) rfl rfl (Nat.le_of_ble_eq_true rfl) rfl d_MM_isPattern_32 (fun H locs hP hS => ?_)
  refine lv_aload_n hx hb d_MM_isPattern_35 rfl (lv_at hl 0 rfl) ?_
  refine lv_iconst (v := (0:Int32)) hx hb d_MM_isPattern_36 (by decide) ?_
  refine o_put (v := .int (0:Int32)) (ty := .int) (w1 := (m_cw ad ca ky ty 33 Ni (NP_mk (NP_nodeKind Np) (NP_nodeA Np) (NP_nodeB Np) (NP_nodeC Np) (NP_nodeNext Np) (NP_low Np) (NP_high Np) (NP_setFrom Np) (NP_setTo Np) (NP_setNot Np) (0:Int32) (0:Int32) (NP_ranges Np) ((MT_from a1) x2.toNatClampNeg) (((MT_from a1) x2.toNatClampNeg) + ((MT_many a1) x2.toNatClampNeg)) (NP_broken Np)) No Nx Nf Na Nh Nq Nj a1 M1)) C in_MM t_MM t_MM_ok n_MM hP (hDD _ _ _ _ _ _ _ _ _ _ _ _) hS 0 mw_0 rfl 24 (by decide) k_8_14 rfl rfl (by decide +kernel) rfl rfl (Nat.le_of_ble_eq_true rfl) rfl d_MM_isPattern_37 (fun H locs hP hS => ?_)
  refine lv_aload_n hx hb d_MM_isPattern_40 rfl (lv_at hl 0 rfl) ?_
  refine lv_iconst (v := (0:Int32)) hx hb d_MM_isPattern_41 (by decide) ?_
  refine o_put (v := .int (0:Int32)) (ty := .int) (w1 := (m_cw ad ca ky ty 33 Ni (NP_mk (NP_nodeKind Np) (NP_nodeA Np) (NP_nodeB Np) (NP_nodeC Np) (NP_nodeNext Np) (NP_low Np) (NP_high Np) (NP_setFrom Np) (NP_setTo Np) (NP_setNot Np) (0:Int32) (0:Int32) (0:Int32) ((MT_from a1) x2.toNatClampNeg) (((MT_from a1) x2.toNatClampNeg) + ((MT_many a1) x2.toNatClampNeg)) (NP_broken Np)) No Nx Nf Na Nh Nq Nj a1 M1)) C in_MM t_MM t_MM_ok n_MM hP (hDD _ _ _ _ _ _ _ _ _ _ _ _) hS 0 mw_0 rfl 25 (by decide) k_8_15 rfl rfl (by decide +kernel) rfl rfl (Nat.le_of_ble_eq_true rfl) rfl d_MM_isPattern_42 (fun H locs hP hS => ?_)
  refine lv_aload_n hx hb d_MM_isPattern_45 rfl (lv_at hl 0 rfl) ?_
  refine lv_iconst (v := (0:Int32)) hx hb d_MM_isPattern_46 (by decide) ?_
  refine o_put (v := .int (0:Int32)) (ty := .boolean) (w1 := (m_cw ad ca ky ty 33 Ni (NP_mk (NP_nodeKind Np) (NP_nodeA Np) (NP_nodeB Np) (NP_nodeC Np) (NP_nodeNext Np) (NP_low Np) (NP_high Np) (NP_setFrom Np) (NP_setTo Np) (NP_setNot Np) (0:Int32) (0:Int32) (0:Int32) ((MT_from a1) x2.toNatClampNeg) (((MT_from a1) x2.toNatClampNeg) + ((MT_many a1) x2.toNatClampNeg)) (0:Int32)) No Nx Nf Na Nh Nq Nj a1 M1)) C in_MM t_MM t_MM_ok n_MM hP (hDD _ _ _ _ _ _ _ _ _ _ _ _) hS 0 mw_0 rfl 32 (by decide) k_8_22 rfl rfl (by decide +kernel) rfl rfl (Nat.le_of_ble_eq_true rfl) rfl d_MM_isPattern_47 (fun H locs hP hS => ?_)
  refine lv_aload_n hx hb d_MM_isPattern_50 rfl (lv_at hl 0 rfl) ?_
  refine lv_iconst (v := (0:Int32)) hx hb d_MM_isPattern_51 (by decide) ?_
  obtain ⟨q1, hq1, h⟩ := o_bd_some h
  refine o_V (st1 := [.int q1.1]) (w1 := (m_cw ad ca ky ty 33 Ni q1.2 No Nx Nf Na Nh Nq Nj a1 M1)) hE.1 C (e_MM_ways_a hE hKy l n 33 (0:Int32) a1 (NP_mk (NP_nodeKind Np) (NP_nodeA Np) (NP_nodeB Np) (NP_nodeC Np) (NP_nodeNext Np) (NP_low Np) (NP_high Np) (NP_setFrom Np) (NP_setTo Np) (NP_setNot Np) (0:Int32) (0:Int32) (0:Int32) ((MT_from a1) x2.toNatClampNeg) (((MT_from a1) x2.toNatClampNeg) + ((MT_many a1) x2.toNatClampNeg)) (0:Int32)) Ni No Nx Nf Na Nh Nq Nj M1 hq1) hP (hDD _ _ _ _ _ _ _ _ _ _ _ _) hS hl.1 rfl mw_0 k_9_58 k_9_60 k_s_86 k_1_12 k_9_61 hv_MM_ways rfl rfl ⟨(Nat.le_of_ble_eq_true rfl), (Nat.le_of_ble_eq_true rfl)⟩ rfl (Nat.le_of_ble_eq_true rfl) ⟨Nat.zero_le _, Nat.zero_le _⟩ rfl d_MM_isPattern_52 (fun H locs hP hS => ?_)
  refine lv_istore_n (lv' := [(3, .int q1.1), (0, .ref (ad 0)), (1, .ref (ad 33)), (2, .int x2)]) hx hb d_MM_isPattern_55 rfl hl (by decide) rfl (fun ls hl => ?_)
  refine lv_aload_n hx hb d_MM_isPattern_56 rfl (lv_at hl 1 rfl) ?_
  refine o_get (v := .int (NP_broken q1.2)) C in_MM hP 0 mw_0 rfl 32 (by decide) k_8_22 rfl rfl d_MM_isPattern_57 ?_
  refine lv_if_ne (tgt := 86) hx hb d_MM_isPattern_60 (by decide) (fun c3 => ?_) (fun c3 => ?_)
  · replace h := o_ff c3 h
    refine lv_iconst (v := (0:Int32)) hx hb d_MM_isPattern_86 (by decide) ?_
    cases h
    exact o_rz (v := (0:Int32)) C o_nar0 hP hS d_MM_isPattern_87
  · replace h := o_tt c3 h
    refine lv_aload_n hx hb d_MM_isPattern_63 rfl (lv_at hl 1 rfl) ?_
    refine o_get (v := .int (NP_pat q1.2)) C in_MM hP 0 mw_0 rfl 27 (by decide) k_8_17 rfl rfl d_MM_isPattern_64 ?_
    refine lv_aload_n hx hb d_MM_isPattern_67 rfl (lv_at hl 1 rfl) ?_
    refine o_get (v := .int (NP_patEnd q1.2)) C in_MM hP 0 mw_0 rfl 28 (by decide) k_8_18 rfl rfl d_MM_isPattern_68 ?_
    refine lv_icmp_lt (tgt := 86) hx hb d_MM_isPattern_71 (by decide) (fun c4 => ?_) (fun c4 => ?_)
    · replace h := o_tt c4 h
      refine lv_iconst (v := (0:Int32)) hx hb d_MM_isPattern_86 (by decide) ?_
      cases h
      exact o_rz (v := (0:Int32)) C o_nar0 hP hS d_MM_isPattern_87
    · replace h := o_ff c4 h
      refine lv_aload_n hx hb d_MM_isPattern_74 rfl (lv_at hl 1 rfl) ?_
      refine lv_iload_n hx hb d_MM_isPattern_75 rfl (lv_at hl 0 rfl) ?_
      obtain ⟨q2, hq2, h⟩ := o_bd_some h
      refine o_V (st1 := [.long q2]) (w1 := (m_cw ad ca ky ty 33 Ni q1.2 No Nx Nf Na Nh Nq Nj a1 M1)) hE.1 C (e_MM_size hE hKy l n 110 q1.1 q1.2 Ni No Nx Nf Na Nh Nq Nj a1 M1 33 hq2) hP (hDD _ _ _ _ _ _ _ _ _ _ _ _) hS hl.1 rfl mw_0 k_9_129 k_9_131 k_s_103 k_1_12 k_9_132 hv_MM_size rfl rfl ⟨(Nat.le_of_ble_eq_true rfl), (Nat.le_of_ble_eq_true rfl)⟩ rfl (Nat.le_of_ble_eq_true rfl) ⟨Nat.zero_le _, Nat.zero_le _⟩ rfl d_MM_isPattern_76 (fun H locs hP hS => ?_)
      refine lv_ldc2 (v := (400:Int64)) hx hb hown (hts _ k_9_140) d_MM_isPattern_79 ?_
      refine W.lcmp hx hb d_MM_isPattern_82 ?_
      refine lv_if_le (tgt := 88) hx hb d_MM_isPattern_83 (by decide) (fun c5 => ?_) (fun c5 => ?_)
      · replace h := o_tt c5 h
        refine lv_aload_n hx hb d_MM_isPattern_88 rfl (lv_at hl 1 rfl) ?_
        refine lv_iconst (v := (0:Int32)) hx hb d_MM_isPattern_89 (by decide) ?_
        refine o_put (v := .int (0:Int32)) (ty := .int) (w1 := (m_cw ad ca ky ty 33 Ni q1.2 (NO_mk (NO_op No) (NO_opA No) (NO_opB No) (0:Int32)) Nx Nf Na Nh Nq Nj a1 M1)) C in_MM t_MM t_MM_ok n_MM hP (hDD _ _ _ _ _ _ _ _ _ _ _ _) hS 0 mw_0 rfl 26 (by decide) k_8_16 rfl rfl (by decide +kernel) rfl rfl (Nat.le_of_ble_eq_true rfl) rfl d_MM_isPattern_90 (fun H locs hP hS => ?_)
        refine lv_aload_n hx hb d_MM_isPattern_93 rfl (lv_at hl 1 rfl) ?_
        refine lv_iload_n hx hb d_MM_isPattern_94 rfl (lv_at hl 0 rfl) ?_
        obtain ⟨q3, hq3, h⟩ := o_bd_some h
        refine o_V (st1 := []) (w1 := (m_cw ad ca ky ty 33 Ni q1.2 q3 Nx Nf Na Nh Nq Nj a1 M1)) hE.1 C (e_MM_compile hE hKy l n 110 q1.1 q1.2 (NO_mk (NO_op No) (NO_opA No) (NO_opB No) (0:Int32)) Ni Nx Nf Na Nh Nq Nj a1 M1 33 hq3) hP (hDD _ _ _ _ _ _ _ _ _ _ _ _) hS hl.1 rfl mw_0 k_9_141 k_9_143 k_s_104 k_1_12 k_9_144 hv_MM_compile rfl rfl ⟨(Nat.le_of_ble_eq_true rfl), (Nat.le_of_ble_eq_true rfl)⟩ rfl (Nat.le_of_ble_eq_true rfl) ⟨Nat.zero_le _, Nat.zero_le _⟩ rfl d_MM_isPattern_95 (fun H locs hP hS => ?_)
        refine lv_aload_n hx hb d_MM_isPattern_98 rfl (lv_at hl 1 rfl) ?_
        refine lv_bipush (v := (9:Int32)) hx hb d_MM_isPattern_99 (by decide) ?_
        refine lv_iconst (v := (0:Int32)) hx hb d_MM_isPattern_101 (by decide) ?_
        refine lv_iconst (v := (0:Int32)) hx hb d_MM_isPattern_102 (by decide) ?_
        obtain ⟨q4, hq4, h⟩ := o_bd_some h
        refine o_V (st1 := [.int q4.1]) (w1 := (m_cw ad ca ky ty 33 Ni q1.2 q4.2 Nx Nf Na Nh Nq Nj a1 M1)) hE.1 C (e_MM_step hE hKy l (9:Int32) (0:Int32) (0:Int32) q3 Ni q1.2 Nx Nf Na Nh Nq Nj a1 M1 33 hq4) hP (hDD _ _ _ _ _ _ _ _ _ _ _ _) hS hl.1 rfl mw_0 k_9_145 k_9_147 k_s_105 k_1_12 k_9_148 hv_MM_step rfl rfl ⟨(Nat.le_of_ble_eq_true rfl), (Nat.le_of_ble_eq_true rfl)⟩ rfl (Nat.le_of_ble_eq_true rfl) ⟨Nat.zero_le _, Nat.zero_le _⟩ rfl d_MM_isPattern_103 (fun H locs hP hS => ?_)
        refine lv_pop hx hb d_MM_isPattern_106 rfl ?_
        refine lv_iconst (v := (1:Int32)) hx hb d_MM_isPattern_107 (by decide) ?_
        cases h
        exact o_rz (v := (1:Int32)) C o_nar1 hP hS d_MM_isPattern_108
      · replace h := o_ff c5 h
        refine lv_iconst (v := (0:Int32)) hx hb d_MM_isPattern_86 (by decide) ?_
        cases h
        exact o_rz (v := (0:Int32)) C o_nar0 hP hS d_MM_isPattern_87
set_option maxHeartbeats 4000000 in
set_option maxRecDepth 100000 in
theorem f_MM_keyword_b477 {E : (Nat → Prop) → State → Heap → Prop} {p : Program} {l : Launch} {e : Env} {s : State} {m : MethodId} {args : Array Value} {below : List Frame} {meth : Method} {c : Code} {D : va_G} {ad kd sd vd xd : Nat → Nat} {ca : Nat → ClassId} {A : Nat → Prop} {ky ty : Nat → Option Nat} {Q : State → Prop} (hE : o_EK E kd sd vd xd) (hKy : m_KY ky ty sd) (C : o_Cx E p s m args meth c D m_cls (m_tys ca) "SchemaJudgeModel" b_MM_keyword none 6 cc_MM_keyword A) (hDD : ∀ (rt : Nat) (Ni : SNI) (Np : SNP) (No : SNO) (Nx : SNX) (Nf : SNF) (Na : SNA) (Nh : SNH) (Nq : SNQ) (Nj : SNJ) (M0 : SMT) (M1 : SMT), va_D A (m_cw ad ca ky ty rt Ni Np No Nx Nf Na Nh Nq Nj M0 M1)) (d : Nat) (rec : Int32 → SMT → SNP → SNO → SNF → SNA → Nat → Option (SNP × SNO × SNF × SNA × Nat)) (hrec : ∀ (x1 : Int32) (M0 : SMT) (Np : SNP) (No : SNO) (Nf : SNF) (Na : SNA) (rt : Nat) (Ni : SNI) (Nx : SNX) (Nh : SNH) (Nq : SNQ) (Nj : SNJ) (M1 : SMT) (r : SNP × SNO × SNF × SNA × Nat), rec x1 M0 Np No Nf Na rt = some r → o_Cn E l D m_cls (m_tys ca) y_MM_visit cc_MM_visit (rm_MM_visit d) [.ref (ad 0), .int x1] (m_cw ad ca ky ty rt Ni Np No Nx Nf Na Nh Nq Nj M0 M1) (m_cw ad ca ky ty r.2.2.2.2 Ni r.1 r.2.1 Nx r.2.2.1 r.2.2.2.1 Nh Nq Nj M0 M1) none) (n : Nat) (u477_M0 : SMT) (u477_Np : SNP) (u477_No : SNO) (u477_Na : SNA) (u477_rt : Nat) (u477_Ni : SNI) (u477_Nx : SNX) (u477_Nh : SNH) (u477_Nq : SNQ) (u477_Nj : SNJ) (u477_M1 : SMT) (z : Int32 × SNF) (q : Nat × Int32 × SNF) (h : m_MM_keyword_b477 n rec u477_M0 u477_Np u477_No u477_Na u477_rt z = some q) (h0 : q.1 = 0 → o_At p l e (rm_MM_keyword d) s m args below meth c Q m_cls D A 6 477 [] (m_cw ad ca ky ty u477_rt u477_Ni u477_Np u477_No u477_Nx q.2.2 u477_Na u477_Nh u477_Nq u477_Nj u477_M0 u477_M1) [(0, .ref (ad 0)), (5, .int q.2.1)]) (h1 : q.1 ≠ 0 → (o_At p l e (rm_MM_keyword d) s m args below meth c Q m_cls D A 6 503 [] (m_cw ad ca ky ty u477_rt u477_Ni u477_Np u477_No u477_Nx q.2.2 u477_Na u477_Nh u477_Nq u477_Nj u477_M0 u477_M1) [])) : o_At p l e (rm_MM_keyword d) s m args below meth c Q m_cls D A 6 477 [] (m_cw ad ca ky ty u477_rt u477_Ni u477_Np u477_No u477_Nx z.2 u477_Na u477_Nh u477_Nq u477_Nj u477_M0 u477_M1) [(0, .ref (ad 0)), (5, .int z.1)] := by
  unfold m_MM_keyword_b477 at h
  intro H locs ls hP hS hl
  have C0 := C
  obtain ⟨hx, hb, -, -, -, hown, hts, hK, -, -⟩ := C0
  refine lv_iload hx hb d_MM_keyword_477 (lv_at hl 1 rfl) ?_
  refine lv_if_lt (tgt := 503) hx hb d_MM_keyword_479 (by decide) (fun c18 => ?_) (fun c18 => ?_)
  · replace h := o_tt c18 h
    cases h
    exact h1 (Nat.succ_ne_zero 0) _ _ _ hP hS (lv_sub hl [] rfl)
  · replace h := o_ff c18 h
    refine lv_aload_n hx hb d_MM_keyword_482 rfl (lv_at hl 0 rfl) ?_
    refine lv_iload hx hb d_MM_keyword_483 (lv_at hl 1 rfl) ?_
    obtain ⟨q2, hq2, h⟩ := o_bd_some h
    refine o_V (st1 := []) (w1 := (m_cw ad ca ky ty u477_rt u477_Ni u477_Np u477_No u477_Nx q2 u477_Na u477_Nh u477_Nq u477_Nj u477_M0 u477_M1)) hE.1 C (e_MM_strings hE hKy l n z.1 u477_M0 z.2 u477_Ni u477_Np u477_No u477_Nx u477_Na u477_Nh u477_Nq u477_Nj u477_M1 u477_rt hq2) hP (hDD _ _ _ _ _ _ _ _ _ _ _ _) hS hl.1 rfl mw_0 k_9_175 k_9_177 k_s_110 k_1_12 k_9_178 hv_MM_strings rfl rfl ⟨(by dsimp only [rm_MM_keyword, rm_MM_strings]; omega), (by dsimp only [rm_MM_keyword, rm_MM_strings]; omega)⟩ rfl (Nat.le_of_ble_eq_true rfl) ⟨Nat.zero_le _, Nat.zero_le _⟩ rfl d_MM_keyword_485 (fun H locs hP hS => ?_)
    refine lv_aload_n hx hb d_MM_keyword_488 rfl (lv_at hl 0 rfl) ?_
    refine o_get (v := .ref (ad 33)) C in_MM hP 0 mw_0 rfl 4 (by decide) k_7_234 rfl rfl d_MM_keyword_489 ?_
    refine o_get (v := .ref (ad 41)) C in_MT hP 33 mw_33 rfl 7 (by decide) k_7_115 rfl rfl d_MM_keyword_492 ?_
    refine lv_iload hx hb d_MM_keyword_495 (lv_at hl 1 rfl) ?_
    obtain ⟨g19, h⟩ := o_gd_some h
    refine o_iald (f := (MT_next u477_M0)) C hP 41 39 mw_41 rfl g19 d_MM_keyword_497 ?_
    refine lv_topi (fun x5_498 ex5_498 => ?_)
    replace h := o_nm_at ex5_498 h
    refine lv_istore (lv' := [(5, .int x5_498), (0, .ref (ad 0))]) hx hb d_MM_keyword_498 hl (by decide) rfl (fun ls hl => ?_)
    refine lv_goto (tgt := 477) hx hb d_MM_keyword_500 (by decide) ?_
    cases h
    exact h0 rfl _ _ _ hP hS (lv_sub hl [1, 0] rfl)
set_option maxHeartbeats 4000000 in
set_option maxRecDepth 100000 in
theorem f_MM_keyword_j283 {E : (Nat → Prop) → State → Heap → Prop} {p : Program} {l : Launch} {e : Env} {s : State} {m : MethodId} {args : Array Value} {below : List Frame} {meth : Method} {c : Code} {D : va_G} {ad kd sd vd xd : Nat → Nat} {ca : Nat → ClassId} {A : Nat → Prop} {ky ty : Nat → Option Nat} (hE : o_EK E kd sd vd xd) (hKy : m_KY ky ty sd) (C : o_Cx E p s m args meth c D m_cls (m_tys ca) "SchemaJudgeModel" b_MM_keyword none 6 cc_MM_keyword A) (hDD : ∀ (rt : Nat) (Ni : SNI) (Np : SNP) (No : SNO) (Nx : SNX) (Nf : SNF) (Na : SNA) (Nh : SNH) (Nq : SNQ) (Nj : SNJ) (M0 : SMT) (M1 : SMT), va_D A (m_cw ad ca ky ty rt Ni Np No Nx Nf Na Nh Nq Nj M0 M1)) (d : Nat) (rec : Int32 → SMT → SNP → SNO → SNF → SNA → Nat → Option (SNP × SNO × SNF × SNA × Nat)) (hrec : ∀ (x1 : Int32) (M0 : SMT) (Np : SNP) (No : SNO) (Nf : SNF) (Na : SNA) (rt : Nat) (Ni : SNI) (Nx : SNX) (Nh : SNH) (Nq : SNQ) (Nj : SNJ) (M1 : SMT) (r : SNP × SNO × SNF × SNA × Nat), rec x1 M0 Np No Nf Na rt = some r → o_Cn E l D m_cls (m_tys ca) y_MM_visit cc_MM_visit (rm_MM_visit d) [.ref (ad 0), .int x1] (m_cw ad ca ky ty rt Ni Np No Nx Nf Na Nh Nq Nj M0 M1) (m_cw ad ca ky ty r.2.2.2.2 Ni r.1 r.2.1 Nx r.2.2.1 r.2.2.2.1 Nh Nq Nj M0 M1) none) (n : Nat) (x2 : Int32) (M0 : SMT) (Np : SNP) (No : SNO) (Nf : SNF) (Na : SNA) (rt : Nat) (Ni : SNI) (Nx : SNX) (Nh : SNH) (Nq : SNQ) (Nj : SNJ) (M1 : SMT) {r : SNP × SNO × SNF × SNA × Nat} (h : m_MM_keyword_j283 n rec x2 M0 Np No Nf Na rt = some r) : o_At p l e (rm_MM_keyword d) s m args below meth c (MQ below (o_Qx D m_cls none (m_cw ad ca ky ty r.2.2.2.2 Ni r.1 r.2.1 Nx r.2.2.1 r.2.2.2.1 Nh Nq Nj M0 M1) A) args s 0 0 A) m_cls D A 6 283 [] (m_cw ad ca ky ty rt Ni Np No Nx Nf Na Nh Nq Nj M0 M1) [(0, .ref (ad 0)), (2, .int x2)] := by
  unfold m_MM_keyword_j283 at h
  intro H locs ls hP hS hl
  have C0 := C
  obtain ⟨hx, hb, -, -, -, hown, hts, hK, -, -⟩ := C0
  refine lv_aload_n hx hb d_MM_keyword_283 rfl (lv_at hl 0 rfl) ?_
  refine lv_iconst (v := (1:Int32)) hx hb d_MM_keyword_284 (by decide) ?_
  refine lv_iload_n hx hb d_MM_keyword_285 rfl (lv_at hl 1 rfl) ?_
  obtain ⟨q16, hq16, h⟩ := o_bd_some h
  refine o_V (st1 := []) (w1 := (m_cw ad ca ky ty rt Ni Np No Nx q16 Na Nh Nq Nj M0 M1)) hE.1 C (e_MM_fault hE hKy l (1:Int32) x2 Nf Ni Np No Nx Na Nh Nq Nj M0 M1 rt hq16) hP (hDD _ _ _ _ _ _ _ _ _ _ _ _) hS hl.1 rfl mw_0 k_9_42 k_9_44 k_s_83 k_1_12 k_9_45 hv_MM_fault rfl rfl ⟨(by dsimp only [rm_MM_keyword, rm_MM_fault]; omega), (by dsimp only [rm_MM_keyword, rm_MM_fault]; omega)⟩ rfl (Nat.le_of_ble_eq_true rfl) ⟨Nat.zero_le _, Nat.zero_le _⟩ rfl d_MM_keyword_286 (fun H locs hP hS => ?_)
  refine lv_goto (tgt := 518) hx hb d_MM_keyword_289 (by decide) ?_
  cases h
  exact o_rv C hP hS d_MM_keyword_518
set_option maxHeartbeats 4000000 in
set_option maxRecDepth 100000 in
theorem f_MM_keyword_j234 {E : (Nat → Prop) → State → Heap → Prop} {p : Program} {l : Launch} {e : Env} {s : State} {m : MethodId} {args : Array Value} {below : List Frame} {meth : Method} {c : Code} {D : va_G} {ad kd sd vd xd : Nat → Nat} {ca : Nat → ClassId} {A : Nat → Prop} {ky ty : Nat → Option Nat} (hE : o_EK E kd sd vd xd) (hKy : m_KY ky ty sd) (C : o_Cx E p s m args meth c D m_cls (m_tys ca) "SchemaJudgeModel" b_MM_keyword none 6 cc_MM_keyword A) (hDD : ∀ (rt : Nat) (Ni : SNI) (Np : SNP) (No : SNO) (Nx : SNX) (Nf : SNF) (Na : SNA) (Nh : SNH) (Nq : SNQ) (Nj : SNJ) (M0 : SMT) (M1 : SMT), va_D A (m_cw ad ca ky ty rt Ni Np No Nx Nf Na Nh Nq Nj M0 M1)) (d : Nat) (rec : Int32 → SMT → SNP → SNO → SNF → SNA → Nat → Option (SNP × SNO × SNF × SNA × Nat)) (hrec : ∀ (x1 : Int32) (M0 : SMT) (Np : SNP) (No : SNO) (Nf : SNF) (Na : SNA) (rt : Nat) (Ni : SNI) (Nx : SNX) (Nh : SNH) (Nq : SNQ) (Nj : SNJ) (M1 : SMT) (r : SNP × SNO × SNF × SNA × Nat), rec x1 M0 Np No Nf Na rt = some r → o_Cn E l D m_cls (m_tys ca) y_MM_visit cc_MM_visit (rm_MM_visit d) [.ref (ad 0), .int x1] (m_cw ad ca ky ty rt Ni Np No Nx Nf Na Nh Nq Nj M0 M1) (m_cw ad ca ky ty r.2.2.2.2 Ni r.1 r.2.1 Nx r.2.2.1 r.2.2.2.1 Nh Nq Nj M0 M1) none) (n : Nat) (x2 : Int32) (M0 : SMT) (Np : SNP) (No : SNO) (Nf : SNF) (Na : SNA) (rt : Nat) (Ni : SNI) (Nx : SNX) (Nh : SNH) (Nq : SNQ) (Nj : SNJ) (M1 : SMT) {r : SNP × SNO × SNF × SNA × Nat} (h : m_MM_keyword_j234 n rec x2 M0 Np No Nf Na rt = some r) : o_At p l e (rm_MM_keyword d) s m args below meth c (MQ below (o_Qx D m_cls none (m_cw ad ca ky ty r.2.2.2.2 Ni r.1 r.2.1 Nx r.2.2.1 r.2.2.2.1 Nh Nq Nj M0 M1) A) args s 0 0 A) m_cls D A 6 234 [] (m_cw ad ca ky ty rt Ni Np No Nx Nf Na Nh Nq Nj M0 M1) [(0, .ref (ad 0)), (2, .int x2)] := by
  unfold m_MM_keyword_j234 at h
  intro H locs ls hP hS hl
  have C0 := C
  obtain ⟨hx, hb, -, -, -, hown, hts, hK, -, -⟩ := C0
  refine lv_aload_n hx hb d_MM_keyword_234 rfl (lv_at hl 0 rfl) ?_
  refine lv_iconst (v := (1:Int32)) hx hb d_MM_keyword_235 (by decide) ?_
  refine lv_iload_n hx hb d_MM_keyword_236 rfl (lv_at hl 1 rfl) ?_
  obtain ⟨q18, hq18, h⟩ := o_bd_some h
  refine o_V (st1 := []) (w1 := (m_cw ad ca ky ty rt Ni Np No Nx q18 Na Nh Nq Nj M0 M1)) hE.1 C (e_MM_fault hE hKy l (1:Int32) x2 Nf Ni Np No Nx Na Nh Nq Nj M0 M1 rt hq18) hP (hDD _ _ _ _ _ _ _ _ _ _ _ _) hS hl.1 rfl mw_0 k_9_42 k_9_44 k_s_83 k_1_12 k_9_45 hv_MM_fault rfl rfl ⟨(by dsimp only [rm_MM_keyword, rm_MM_fault]; omega), (by dsimp only [rm_MM_keyword, rm_MM_fault]; omega)⟩ rfl (Nat.le_of_ble_eq_true rfl) ⟨Nat.zero_le _, Nat.zero_le _⟩ rfl d_MM_keyword_237 (fun H locs hP hS => ?_)
  refine lv_goto (tgt := 518) hx hb d_MM_keyword_240 (by decide) ?_
  cases h
  exact o_rv C hP hS d_MM_keyword_518
set_option maxHeartbeats 4000000 in
set_option maxRecDepth 100000 in
theorem f_MM_keyword_j168 {E : (Nat → Prop) → State → Heap → Prop} {p : Program} {l : Launch} {e : Env} {s : State} {m : MethodId} {args : Array Value} {below : List Frame} {meth : Method} {c : Code} {D : va_G} {ad kd sd vd xd : Nat → Nat} {ca : Nat → ClassId} {A : Nat → Prop} {ky ty : Nat → Option Nat} {Q : State → Prop} (hE : o_EK E kd sd vd xd) (hKy : m_KY ky ty sd) (C : o_Cx E p s m args meth c D m_cls (m_tys ca) "SchemaJudgeModel" b_MM_keyword none 6 cc_MM_keyword A) (hDD : ∀ (rt : Nat) (Ni : SNI) (Np : SNP) (No : SNO) (Nx : SNX) (Nf : SNF) (Na : SNA) (Nh : SNH) (Nq : SNQ) (Nj : SNJ) (M0 : SMT) (M1 : SMT), va_D A (m_cw ad ca ky ty rt Ni Np No Nx Nf Na Nh Nq Nj M0 M1)) (d : Nat) (rec : Int32 → SMT → SNP → SNO → SNF → SNA → Nat → Option (SNP × SNO × SNF × SNA × Nat)) (hrec : ∀ (x1 : Int32) (M0 : SMT) (Np : SNP) (No : SNO) (Nf : SNF) (Na : SNA) (rt : Nat) (Ni : SNI) (Nx : SNX) (Nh : SNH) (Nq : SNQ) (Nj : SNJ) (M1 : SMT) (r : SNP × SNO × SNF × SNA × Nat), rec x1 M0 Np No Nf Na rt = some r → o_Cn E l D m_cls (m_tys ca) y_MM_visit cc_MM_visit (rm_MM_visit d) [.ref (ad 0), .int x1] (m_cw ad ca ky ty rt Ni Np No Nx Nf Na Nh Nq Nj M0 M1) (m_cw ad ca ky ty r.2.2.2.2 Ni r.1 r.2.1 Nx r.2.2.1 r.2.2.2.1 Nh Nq Nj M0 M1) none) (n : Nat) (u129_x1 : Int32) (u129_M0 : SMT) (u129_Ni : SNI) (u129_Nx : SNX) (u129_Nh : SNH) (u129_Nq : SNQ) (u129_Nj : SNJ) (u129_M1 : SMT) (x5 : Int32) (Np : SNP) (No : SNO) (Nf : SNF) (Na : SNA) (rt : Nat) {q : Nat × Int32 × SNP × SNO × SNF × SNA × Nat} (h : m_MM_keyword_j168 n rec u129_x1 x5 u129_M0 Np No Nf Na rt = some q) (h0 : q.1 = 0 → o_At p l e (rm_MM_keyword d) s m args below meth c Q m_cls D A 6 129 [] (m_cw ad ca ky ty q.2.2.2.2.2.2 u129_Ni q.2.2.1 q.2.2.2.1 u129_Nx q.2.2.2.2.1 q.2.2.2.2.2.1 u129_Nh u129_Nq u129_Nj u129_M0 u129_M1) [(0, .ref (ad 0)), (1, .int u129_x1), (5, .int q.2.1)]) (h1 : q.1 ≠ 0 → (o_At p l e (rm_MM_keyword d) s m args below meth c Q m_cls D A 6 189 [] (m_cw ad ca ky ty q.2.2.2.2.2.2 u129_Ni q.2.2.1 q.2.2.2.1 u129_Nx q.2.2.2.2.1 q.2.2.2.2.2.1 u129_Nh u129_Nq u129_Nj u129_M0 u129_M1) [])) : o_At p l e (rm_MM_keyword d) s m args below meth c Q m_cls D A 6 168 [] (m_cw ad ca ky ty rt u129_Ni Np No u129_Nx Nf Na u129_Nh u129_Nq u129_Nj u129_M0 u129_M1) [(0, .ref (ad 0)), (1, .int u129_x1), (5, .int x5)] := by
  unfold m_MM_keyword_j168 at h
  intro H locs ls hP hS hl
  have C0 := C
  obtain ⟨hx, hb, -, -, -, hown, hts, hK, -, -⟩ := C0
  refine lv_aload_n hx hb d_MM_keyword_168 rfl (lv_at hl 0 rfl) ?_
  refine lv_iload hx hb d_MM_keyword_169 (lv_at hl 2 rfl) ?_
  obtain ⟨q19, hq19, h⟩ := o_bd_some h
  refine o_V (st1 := []) (w1 := (m_cw ad ca ky ty q19.2.2.2.2 u129_Ni q19.1 q19.2.1 u129_Nx q19.2.2.1 q19.2.2.2.1 u129_Nh u129_Nq u129_Nj u129_M0 u129_M1)) hE.1 C (hrec x5 u129_M0 Np No Nf Na rt u129_Ni u129_Nx u129_Nh u129_Nq u129_Nj u129_M1 _ hq19) hP (hDD _ _ _ _ _ _ _ _ _ _ _ _) hS hl.1 rfl mw_0 k_9_37 k_9_39 k_s_82 k_1_12 k_9_40 hv_MM_visit rfl rfl ⟨(by dsimp only [rm_MM_keyword, rm_MM_visit]; omega), (by dsimp only [rm_MM_keyword, rm_MM_visit]; omega)⟩ rfl (Nat.le_of_ble_eq_true rfl) ⟨Nat.zero_le _, Nat.zero_le _⟩ rfl d_MM_keyword_171 (fun H locs hP hS => ?_)
  refine lv_aload_n hx hb d_MM_keyword_174 rfl (lv_at hl 0 rfl) ?_
  refine o_get (v := .ref (ad 33)) C in_MM hP 0 mw_0 rfl 4 (by decide) k_7_234 rfl rfl d_MM_keyword_175 ?_
  refine o_get (v := .ref (ad 41)) C in_MT hP 33 mw_33 rfl 7 (by decide) k_7_115 rfl rfl d_MM_keyword_178 ?_
  refine lv_iload hx hb d_MM_keyword_181 (lv_at hl 2 rfl) ?_
  obtain ⟨g39, h⟩ := o_gd_some h
  refine o_iald (f := (MT_next u129_M0)) C hP 41 39 mw_41 rfl g39 d_MM_keyword_183 ?_
  refine lv_topi (fun x5_184 ex5_184 => ?_)
  replace h := o_nm_at ex5_184 h
  refine lv_istore (lv' := [(5, .int x5_184), (0, .ref (ad 0)), (1, .int u129_x1)]) hx hb d_MM_keyword_184 hl (by decide) rfl (fun ls hl => ?_)
  refine lv_goto (tgt := 129) hx hb d_MM_keyword_186 (by decide) ?_
  cases h
  exact h0 rfl _ _ _ hP hS (lv_sub hl [1, 2, 0] rfl)
set_option maxHeartbeats 4000000 in
set_option maxRecDepth 100000 in
theorem f_MM_keyword_b129 {E : (Nat → Prop) → State → Heap → Prop} {p : Program} {l : Launch} {e : Env} {s : State} {m : MethodId} {args : Array Value} {below : List Frame} {meth : Method} {c : Code} {D : va_G} {ad kd sd vd xd : Nat → Nat} {ca : Nat → ClassId} {A : Nat → Prop} {ky ty : Nat → Option Nat} {Q : State → Prop} (hE : o_EK E kd sd vd xd) (hKy : m_KY ky ty sd) (C : o_Cx E p s m args meth c D m_cls (m_tys ca) "SchemaJudgeModel" b_MM_keyword none 6 cc_MM_keyword A) (hDD : ∀ (rt : Nat) (Ni : SNI) (Np : SNP) (No : SNO) (Nx : SNX) (Nf : SNF) (Na : SNA) (Nh : SNH) (Nq : SNQ) (Nj : SNJ) (M0 : SMT) (M1 : SMT), va_D A (m_cw ad ca ky ty rt Ni Np No Nx Nf Na Nh Nq Nj M0 M1)) (d : Nat) (rec : Int32 → SMT → SNP → SNO → SNF → SNA → Nat → Option (SNP × SNO × SNF × SNA × Nat)) (hrec : ∀ (x1 : Int32) (M0 : SMT) (Np : SNP) (No : SNO) (Nf : SNF) (Na : SNA) (rt : Nat) (Ni : SNI) (Nx : SNX) (Nh : SNH) (Nq : SNQ) (Nj : SNJ) (M1 : SMT) (r : SNP × SNO × SNF × SNA × Nat), rec x1 M0 Np No Nf Na rt = some r → o_Cn E l D m_cls (m_tys ca) y_MM_visit cc_MM_visit (rm_MM_visit d) [.ref (ad 0), .int x1] (m_cw ad ca ky ty rt Ni Np No Nx Nf Na Nh Nq Nj M0 M1) (m_cw ad ca ky ty r.2.2.2.2 Ni r.1 r.2.1 Nx r.2.2.1 r.2.2.2.1 Nh Nq Nj M0 M1) none) (n : Nat) (u129_x1 : Int32) (u129_M0 : SMT) (u129_Ni : SNI) (u129_Nx : SNX) (u129_Nh : SNH) (u129_Nq : SNQ) (u129_Nj : SNJ) (u129_M1 : SMT) (z : Int32 × SNP × SNO × SNF × SNA × Nat) (q : Nat × Int32 × SNP × SNO × SNF × SNA × Nat) (h : m_MM_keyword_b129 n rec u129_x1 u129_M0 z = some q) (h0 : q.1 = 0 → o_At p l e (rm_MM_keyword d) s m args below meth c Q m_cls D A 6 129 [] (m_cw ad ca ky ty q.2.2.2.2.2.2 u129_Ni q.2.2.1 q.2.2.2.1 u129_Nx q.2.2.2.2.1 q.2.2.2.2.2.1 u129_Nh u129_Nq u129_Nj u129_M0 u129_M1) [(0, .ref (ad 0)), (1, .int u129_x1), (5, .int q.2.1)]) (h1 : q.1 ≠ 0 → (o_At p l e (rm_MM_keyword d) s m args below meth c Q m_cls D A 6 189 [] (m_cw ad ca ky ty q.2.2.2.2.2.2 u129_Ni q.2.2.1 q.2.2.2.1 u129_Nx q.2.2.2.2.1 q.2.2.2.2.2.1 u129_Nh u129_Nq u129_Nj u129_M0 u129_M1) [])) : o_At p l e (rm_MM_keyword d) s m args below meth c Q m_cls D A 6 129 [] (m_cw ad ca ky ty z.2.2.2.2.2 u129_Ni z.2.1 z.2.2.1 u129_Nx z.2.2.2.1 z.2.2.2.2.1 u129_Nh u129_Nq u129_Nj u129_M0 u129_M1) [(0, .ref (ad 0)), (1, .int u129_x1), (5, .int z.1)] := by
  unfold m_MM_keyword_b129 at h
  intro H locs ls hP hS hl
  have C0 := C
  obtain ⟨hx, hb, -, -, -, hown, hts, hK, -, -⟩ := C0
  refine lv_iload hx hb d_MM_keyword_129 (lv_at hl 2 rfl) ?_
  refine lv_if_lt (tgt := 189) hx hb d_MM_keyword_131 (by decide) (fun c37 => ?_) (fun c37 => ?_)
  · replace h := o_tt c37 h
    cases h
    exact h1 (Nat.succ_ne_zero 0) _ _ _ hP hS (lv_sub hl [] rfl)
  · replace h := o_ff c37 h
    refine lv_iload_n hx hb d_MM_keyword_134 rfl (lv_at hl 1 rfl) ?_
    refine lv_bipush (v := (16:Int32)) hx hb d_MM_keyword_135 (by decide) ?_
    refine lv_icmp_ne (tgt := 168) hx hb d_MM_keyword_137 (by decide) (fun c38 => ?_) (fun c38 => ?_)
    · replace h := o_ff c38 h
      exact f_MM_keyword_j168 hE hKy C hDD d rec hrec n u129_x1 u129_M0 u129_Ni u129_Nx u129_Nh u129_Nq u129_Nj u129_M1 z.1 z.2.1 z.2.2.1 z.2.2.2.1 z.2.2.2.2.1 z.2.2.2.2.2 h h0 h1 _ _ _ hP hS (lv_sub hl [0, 1, 2] rfl)
    · replace h := o_tt c38 h
      refine lv_aload_n hx hb d_MM_keyword_140 rfl (lv_at hl 0 rfl) ?_
      refine lv_aload_n hx hb d_MM_keyword_141 rfl (lv_at hl 0 rfl) ?_
      refine o_get (v := .ref (ad 33)) C in_MM hP 0 mw_0 rfl 4 (by decide) k_7_234 rfl rfl d_MM_keyword_142 ?_
      refine lv_aload_n hx hb d_MM_keyword_145 rfl (lv_at hl 0 rfl) ?_
      refine o_get (v := .ref (ad 33)) C in_MM hP 0 mw_0 rfl 4 (by decide) k_7_234 rfl rfl d_MM_keyword_146 ?_
      refine o_get (v := .ref (ad 42)) C in_MT hP 33 mw_33 rfl 8 (by decide) k_7_117 rfl rfl d_MM_keyword_149 ?_
      refine lv_iload hx hb d_MM_keyword_152 (lv_at hl 2 rfl) ?_
      obtain ⟨g40, h⟩ := o_gd_some h
      refine o_iald (f := (MT_name u129_M0)) C hP 42 40 mw_42 rfl g40 d_MM_keyword_154 ?_
      obtain ⟨q20, hq20, h⟩ := o_bd_some h
      refine o_V (st1 := [.int q20.1]) (w1 := (m_cw ad ca ky ty 33 u129_Ni q20.2.1 q20.2.2 u129_Nx z.2.2.2.1 z.2.2.2.2.1 u129_Nh u129_Nq u129_Nj u129_M0 u129_M1)) hE.1 C (e_MM_isPattern_a hE hKy l n ((MT_name u129_M0) z.1.toNatClampNeg) u129_M0 z.2.1 z.2.2.1 u129_Ni u129_Nx z.2.2.2.1 z.2.2.2.2.1 u129_Nh u129_Nq u129_Nj u129_M1 z.2.2.2.2.2 hq20) hP (hDD _ _ _ _ _ _ _ _ _ _ _ _) hS hl.1 rfl mw_0 k_9_54 k_9_56 k_s_85 k_1_12 k_9_57 hv_MM_isPattern rfl rfl ⟨(by dsimp only [rm_MM_keyword, rm_MM_isPattern]; omega), (by dsimp only [rm_MM_keyword, rm_MM_isPattern]; omega)⟩ rfl (Nat.le_of_ble_eq_true rfl) ⟨Nat.zero_le _, Nat.zero_le _⟩ rfl d_MM_keyword_155 (fun H locs hP hS => ?_)
      refine lv_if_ne (tgt := 168) hx hb d_MM_keyword_158 (by decide) (fun c41 => ?_) (fun c41 => ?_)
      · replace h := o_ff c41 h
        exact f_MM_keyword_j168 hE hKy C hDD d rec hrec n u129_x1 u129_M0 u129_Ni u129_Nx u129_Nh u129_Nq u129_Nj u129_M1 z.1 q20.2.1 q20.2.2 z.2.2.2.1 z.2.2.2.2.1 33 h h0 h1 _ _ _ hP hS (lv_sub hl [0, 1, 2] rfl)
      · replace h := o_tt c41 h
        refine lv_aload_n hx hb d_MM_keyword_161 rfl (lv_at hl 0 rfl) ?_
        refine lv_iconst (v := (4:Int32)) hx hb d_MM_keyword_162 (by decide) ?_
        refine lv_iload hx hb d_MM_keyword_163 (lv_at hl 2 rfl) ?_
        obtain ⟨q21, hq21, h⟩ := o_bd_some h
        refine o_V (st1 := []) (w1 := (m_cw ad ca ky ty 33 u129_Ni q20.2.1 q20.2.2 u129_Nx q21 z.2.2.2.2.1 u129_Nh u129_Nq u129_Nj u129_M0 u129_M1)) hE.1 C (e_MM_fault hE hKy l (4:Int32) z.1 z.2.2.2.1 u129_Ni q20.2.1 q20.2.2 u129_Nx z.2.2.2.2.1 u129_Nh u129_Nq u129_Nj u129_M0 u129_M1 33 hq21) hP (hDD _ _ _ _ _ _ _ _ _ _ _ _) hS hl.1 rfl mw_0 k_9_42 k_9_44 k_s_83 k_1_12 k_9_45 hv_MM_fault rfl rfl ⟨(by dsimp only [rm_MM_keyword, rm_MM_fault]; omega), (by dsimp only [rm_MM_keyword, rm_MM_fault]; omega)⟩ rfl (Nat.le_of_ble_eq_true rfl) ⟨Nat.zero_le _, Nat.zero_le _⟩ rfl d_MM_keyword_165 (fun H locs hP hS => ?_)
        exact f_MM_keyword_j168 hE hKy C hDD d rec hrec n u129_x1 u129_M0 u129_Ni u129_Nx u129_Nh u129_Nq u129_Nj u129_M1 z.1 q20.2.1 q20.2.2 q21 z.2.2.2.2.1 33 h h0 h1 _ _ _ hP hS (lv_sub hl [0, 1, 2] rfl)
set_option maxHeartbeats 4000000 in
set_option maxRecDepth 100000 in
theorem f_MM_keyword_j49 {E : (Nat → Prop) → State → Heap → Prop} {p : Program} {l : Launch} {e : Env} {s : State} {m : MethodId} {args : Array Value} {below : List Frame} {meth : Method} {c : Code} {D : va_G} {ad kd sd vd xd : Nat → Nat} {ca : Nat → ClassId} {A : Nat → Prop} {ky ty : Nat → Option Nat} (hE : o_EK E kd sd vd xd) (hKy : m_KY ky ty sd) (C : o_Cx E p s m args meth c D m_cls (m_tys ca) "SchemaJudgeModel" b_MM_keyword none 6 cc_MM_keyword A) (hDD : ∀ (rt : Nat) (Ni : SNI) (Np : SNP) (No : SNO) (Nx : SNX) (Nf : SNF) (Na : SNA) (Nh : SNH) (Nq : SNQ) (Nj : SNJ) (M0 : SMT) (M1 : SMT), va_D A (m_cw ad ca ky ty rt Ni Np No Nx Nf Na Nh Nq Nj M0 M1)) (d : Nat) (rec : Int32 → SMT → SNP → SNO → SNF → SNA → Nat → Option (SNP × SNO × SNF × SNA × Nat)) (hrec : ∀ (x1 : Int32) (M0 : SMT) (Np : SNP) (No : SNO) (Nf : SNF) (Na : SNA) (rt : Nat) (Ni : SNI) (Nx : SNX) (Nh : SNH) (Nq : SNQ) (Nj : SNJ) (M1 : SMT) (r : SNP × SNO × SNF × SNA × Nat), rec x1 M0 Np No Nf Na rt = some r → o_Cn E l D m_cls (m_tys ca) y_MM_visit cc_MM_visit (rm_MM_visit d) [.ref (ad 0), .int x1] (m_cw ad ca ky ty rt Ni Np No Nx Nf Na Nh Nq Nj M0 M1) (m_cw ad ca ky ty r.2.2.2.2 Ni r.1 r.2.1 Nx r.2.2.1 r.2.2.2.1 Nh Nq Nj M0 M1) none) (n : Nat) (x2 : Int32) (M0 : SMT) (Np : SNP) (No : SNO) (Nf : SNF) (Na : SNA) (rt : Nat) (Ni : SNI) (Nx : SNX) (Nh : SNH) (Nq : SNQ) (Nj : SNJ) (M1 : SMT) {r : SNP × SNO × SNF × SNA × Nat} (h : m_MM_keyword_j49 n rec x2 M0 Np No Nf Na rt = some r) : o_At p l e (rm_MM_keyword d) s m args below meth c (MQ below (o_Qx D m_cls none (m_cw ad ca ky ty r.2.2.2.2 Ni r.1 r.2.1 Nx r.2.2.1 r.2.2.2.1 Nh Nq Nj M0 M1) A) args s 0 0 A) m_cls D A 6 49 [] (m_cw ad ca ky ty rt Ni Np No Nx Nf Na Nh Nq Nj M0 M1) [(0, .ref (ad 0)), (2, .int x2)] := by
  unfold m_MM_keyword_j49 at h
  intro H locs ls hP hS hl
  have C0 := C
  obtain ⟨hx, hb, -, -, -, hown, hts, hK, -, -⟩ := C0
  refine lv_aload_n hx hb d_MM_keyword_49 rfl (lv_at hl 0 rfl) ?_
  refine lv_iconst (v := (1:Int32)) hx hb d_MM_keyword_50 (by decide) ?_
  refine lv_iload_n hx hb d_MM_keyword_51 rfl (lv_at hl 1 rfl) ?_
  obtain ⟨q24, hq24, h⟩ := o_bd_some h
  refine o_V (st1 := []) (w1 := (m_cw ad ca ky ty rt Ni Np No Nx q24 Na Nh Nq Nj M0 M1)) hE.1 C (e_MM_fault hE hKy l (1:Int32) x2 Nf Ni Np No Nx Na Nh Nq Nj M0 M1 rt hq24) hP (hDD _ _ _ _ _ _ _ _ _ _ _ _) hS hl.1 rfl mw_0 k_9_42 k_9_44 k_s_83 k_1_12 k_9_45 hv_MM_fault rfl rfl ⟨(by dsimp only [rm_MM_keyword, rm_MM_fault]; omega), (by dsimp only [rm_MM_keyword, rm_MM_fault]; omega)⟩ rfl (Nat.le_of_ble_eq_true rfl) ⟨Nat.zero_le _, Nat.zero_le _⟩ rfl d_MM_keyword_52 (fun H locs hP hS => ?_)
  refine lv_goto (tgt := 518) hx hb d_MM_keyword_55 (by decide) ?_
  cases h
  exact o_rv C hP hS d_MM_keyword_518
set_option maxHeartbeats 4000000 in
set_option maxRecDepth 100000 in
theorem f_MM_keyword_b69 {E : (Nat → Prop) → State → Heap → Prop} {p : Program} {l : Launch} {e : Env} {s : State} {m : MethodId} {args : Array Value} {below : List Frame} {meth : Method} {c : Code} {D : va_G} {ad kd sd vd xd : Nat → Nat} {ca : Nat → ClassId} {A : Nat → Prop} {ky ty : Nat → Option Nat} {Q : State → Prop} (hE : o_EK E kd sd vd xd) (hKy : m_KY ky ty sd) (C : o_Cx E p s m args meth c D m_cls (m_tys ca) "SchemaJudgeModel" b_MM_keyword none 6 cc_MM_keyword A) (hDD : ∀ (rt : Nat) (Ni : SNI) (Np : SNP) (No : SNO) (Nx : SNX) (Nf : SNF) (Na : SNA) (Nh : SNH) (Nq : SNQ) (Nj : SNJ) (M0 : SMT) (M1 : SMT), va_D A (m_cw ad ca ky ty rt Ni Np No Nx Nf Na Nh Nq Nj M0 M1)) (d : Nat) (rec : Int32 → SMT → SNP → SNO → SNF → SNA → Nat → Option (SNP × SNO × SNF × SNA × Nat)) (hrec : ∀ (x1 : Int32) (M0 : SMT) (Np : SNP) (No : SNO) (Nf : SNF) (Na : SNA) (rt : Nat) (Ni : SNI) (Nx : SNX) (Nh : SNH) (Nq : SNQ) (Nj : SNJ) (M1 : SMT) (r : SNP × SNO × SNF × SNA × Nat), rec x1 M0 Np No Nf Na rt = some r → o_Cn E l D m_cls (m_tys ca) y_MM_visit cc_MM_visit (rm_MM_visit d) [.ref (ad 0), .int x1] (m_cw ad ca ky ty rt Ni Np No Nx Nf Na Nh Nq Nj M0 M1) (m_cw ad ca ky ty r.2.2.2.2 Ni r.1 r.2.1 Nx r.2.2.1 r.2.2.2.1 Nh Nq Nj M0 M1) none) (n : Nat) (u69_M0 : SMT) (u69_Ni : SNI) (u69_Nx : SNX) (u69_Nh : SNH) (u69_Nq : SNQ) (u69_Nj : SNJ) (u69_M1 : SMT) (z : Int32 × SNP × SNO × SNF × SNA × Nat) (q : Nat × Int32 × SNP × SNO × SNF × SNA × Nat) (h : m_MM_keyword_b69 n rec u69_M0 z = some q) (h0 : q.1 = 0 → o_At p l e (rm_MM_keyword d) s m args below meth c Q m_cls D A 6 69 [] (m_cw ad ca ky ty q.2.2.2.2.2.2 u69_Ni q.2.2.1 q.2.2.2.1 u69_Nx q.2.2.2.2.1 q.2.2.2.2.2.1 u69_Nh u69_Nq u69_Nj u69_M0 u69_M1) [(0, .ref (ad 0)), (5, .int q.2.1)]) (h1 : q.1 ≠ 0 → (o_At p l e (rm_MM_keyword d) s m args below meth c Q m_cls D A 6 95 [] (m_cw ad ca ky ty q.2.2.2.2.2.2 u69_Ni q.2.2.1 q.2.2.2.1 u69_Nx q.2.2.2.2.1 q.2.2.2.2.2.1 u69_Nh u69_Nq u69_Nj u69_M0 u69_M1) [])) : o_At p l e (rm_MM_keyword d) s m args below meth c Q m_cls D A 6 69 [] (m_cw ad ca ky ty z.2.2.2.2.2 u69_Ni z.2.1 z.2.2.1 u69_Nx z.2.2.2.1 z.2.2.2.2.1 u69_Nh u69_Nq u69_Nj u69_M0 u69_M1) [(0, .ref (ad 0)), (5, .int z.1)] := by
  unfold m_MM_keyword_b69 at h
  intro H locs ls hP hS hl
  have C0 := C
  obtain ⟨hx, hb, -, -, -, hown, hts, hK, -, -⟩ := C0
  refine lv_iload hx hb d_MM_keyword_69 (lv_at hl 1 rfl) ?_
  refine lv_if_lt (tgt := 95) hx hb d_MM_keyword_71 (by decide) (fun c46 => ?_) (fun c46 => ?_)
  · replace h := o_tt c46 h
    cases h
    exact h1 (Nat.succ_ne_zero 0) _ _ _ hP hS (lv_sub hl [] rfl)
  · replace h := o_ff c46 h
    refine lv_aload_n hx hb d_MM_keyword_74 rfl (lv_at hl 0 rfl) ?_
    refine lv_iload hx hb d_MM_keyword_75 (lv_at hl 1 rfl) ?_
    obtain ⟨q25, hq25, h⟩ := o_bd_some h
    refine o_V (st1 := []) (w1 := (m_cw ad ca ky ty q25.2.2.2.2 u69_Ni q25.1 q25.2.1 u69_Nx q25.2.2.1 q25.2.2.2.1 u69_Nh u69_Nq u69_Nj u69_M0 u69_M1)) hE.1 C (hrec z.1 u69_M0 z.2.1 z.2.2.1 z.2.2.2.1 z.2.2.2.2.1 z.2.2.2.2.2 u69_Ni u69_Nx u69_Nh u69_Nq u69_Nj u69_M1 _ hq25) hP (hDD _ _ _ _ _ _ _ _ _ _ _ _) hS hl.1 rfl mw_0 k_9_37 k_9_39 k_s_82 k_1_12 k_9_40 hv_MM_visit rfl rfl ⟨(by dsimp only [rm_MM_keyword, rm_MM_visit]; omega), (by dsimp only [rm_MM_keyword, rm_MM_visit]; omega)⟩ rfl (Nat.le_of_ble_eq_true rfl) ⟨Nat.zero_le _, Nat.zero_le _⟩ rfl d_MM_keyword_77 (fun H locs hP hS => ?_)
    refine lv_aload_n hx hb d_MM_keyword_80 rfl (lv_at hl 0 rfl) ?_
    refine o_get (v := .ref (ad 33)) C in_MM hP 0 mw_0 rfl 4 (by decide) k_7_234 rfl rfl d_MM_keyword_81 ?_
    refine o_get (v := .ref (ad 41)) C in_MT hP 33 mw_33 rfl 7 (by decide) k_7_115 rfl rfl d_MM_keyword_84 ?_
    refine lv_iload hx hb d_MM_keyword_87 (lv_at hl 1 rfl) ?_
    obtain ⟨g47, h⟩ := o_gd_some h
    refine o_iald (f := (MT_next u69_M0)) C hP 41 39 mw_41 rfl g47 d_MM_keyword_89 ?_
    refine lv_topi (fun x5_90 ex5_90 => ?_)
    replace h := o_nm_at ex5_90 h
    refine lv_istore (lv' := [(5, .int x5_90), (0, .ref (ad 0))]) hx hb d_MM_keyword_90 hl (by decide) rfl (fun ls hl => ?_)
    refine lv_goto (tgt := 69) hx hb d_MM_keyword_92 (by decide) ?_
    cases h
    exact h0 rfl _ _ _ hP hS (lv_sub hl [1, 0] rfl)
set_option maxHeartbeats 4000000 in
set_option maxRecDepth 100000 in
theorem e_MM_keyword {E : (Nat → Prop) → State → Heap → Prop} {D : va_G} {ad kd sd vd xd : Nat → Nat} {ca : Nat → ClassId} {ky ty : Nat → Option Nat} (hE : o_EK E kd sd vd xd) (hKy : m_KY ky ty sd) (l : Launch) (n : Nat) (d : Nat) (rec : Int32 → SMT → SNP → SNO → SNF → SNA → Nat → Option (SNP × SNO × SNF × SNA × Nat)) (hrec : ∀ (x1 : Int32) (M0 : SMT) (Np : SNP) (No : SNO) (Nf : SNF) (Na : SNA) (rt : Nat) (Ni : SNI) (Nx : SNX) (Nh : SNH) (Nq : SNQ) (Nj : SNJ) (M1 : SMT) (r : SNP × SNO × SNF × SNA × Nat), rec x1 M0 Np No Nf Na rt = some r → o_Cn E l D m_cls (m_tys ca) y_MM_visit cc_MM_visit (rm_MM_visit d) [.ref (ad 0), .int x1] (m_cw ad ca ky ty rt Ni Np No Nx Nf Na Nh Nq Nj M0 M1) (m_cw ad ca ky ty r.2.2.2.2 Ni r.1 r.2.1 Nx r.2.2.1 r.2.2.2.1 Nh Nq Nj M0 M1) none) (x1 : Int32) (x2 : Int32) (x3 : Int32) (M0 : SMT) (Np : SNP) (No : SNO) (Nf : SNF) (Na : SNA) (rt : Nat) (Ni : SNI) (Nx : SNX) (Nh : SNH) (Nq : SNQ) (Nj : SNJ) (M1 : SMT) {r : SNP × SNO × SNF × SNA × Nat} (h : m_MM_keyword n rec x1 x2 x3 M0 Np No Nf Na rt = some r) : o_Cn E l D m_cls (m_tys ca) y_MM_keyword cc_MM_keyword (rm_MM_keyword d) [.ref (ad 0), .int x1, .int x2, .int x3] (m_cw ad ca ky ty rt Ni Np No Nx Nf Na Nh Nq Nj M0 M1) (m_cw ad ca ky ty r.2.2.2.2 Ni r.1 r.2.1 Nx r.2.2.1 r.2.2.2.1 Nh Nq Nj M0 M1) none := by
  refine o_Cn_of (by decide) (Nat.le_of_ble_eq_true rfl) ?_
  intro p e s m below meth c A ls C hD hP hS hl
  have hDD : ∀ (rt : Nat) (Ni : SNI) (Np : SNP) (No : SNO) (Nx : SNX) (Nf : SNF) (Na : SNA) (Nh : SNH) (Nq : SNQ) (Nj : SNJ) (M0 : SMT) (M1 : SMT), va_D A (m_cw ad ca ky ty rt Ni Np No Nx Nf Na Nh Nq Nj M0 M1) := fun _ _ _ _ _ _ _ _ _ _ _ _ => o_D_map hD rfl
  have hl : lv_has ls 6 [(0, .ref (ad 0)), (1, .int x1), (2, .int x2), (3, .int x3)] := hl
  unfold m_MM_keyword at h
  have C0 := C
  obtain ⟨hx, hb, -, -, -, hown, hts, hK, -, -⟩ := C0
  refine lv_aload_n hx hb d_MM_keyword_0 rfl (lv_at hl 0 rfl) ?_
  refine o_get (v := .ref (ad 33)) C in_MM hP 0 mw_0 rfl 4 (by decide) k_7_234 rfl rfl d_MM_keyword_1 ?_
  refine o_get (v := .ref (ad 35)) C in_MT hP 33 mw_33 rfl 1 (by decide) k_7_103 rfl rfl d_MM_keyword_4 ?_
  refine lv_iload_n hx hb d_MM_keyword_7 rfl (lv_at hl 2 rfl) ?_
  obtain ⟨g1, h⟩ := o_gd_some h
  refine o_iald (f := (MT_kind M0)) C hP 35 33 mw_35 rfl g1 d_MM_keyword_8 ?_
  refine lv_topi (fun x4_9 ex4_9 => ?_)
  replace h := o_nm_at ex4_9 h
  refine lv_istore (lv' := [(4, .int x4_9), (0, .ref (ad 0)), (1, .int x1), (2, .int x2), (3, .int x3)]) hx hb d_MM_keyword_9 hl (by decide) rfl (fun ls hl => ?_)
  refine lv_iload_n hx hb d_MM_keyword_11 rfl (lv_at hl 2 rfl) ?_
  refine lv_bipush (v := (10:Int32)) hx hb d_MM_keyword_12 (by decide) ?_
  refine lv_icmp_ge (tgt := 25) hx hb d_MM_keyword_14 (by decide) (fun c2 => ?_) (fun c2 => ?_)
  · replace h := o_tt c2 h
    refine lv_iload_n hx hb d_MM_keyword_25 rfl (lv_at hl 2 rfl) ?_
    refine lv_bipush (v := (14:Int32)) hx hb d_MM_keyword_26 (by decide) ?_
    refine lv_icmp_ge (tgt := 98) hx hb d_MM_keyword_28 (by decide) (fun c3 => ?_) (fun c3 => ?_)
    · replace h := o_tt c3 h
      refine lv_iload_n hx hb d_MM_keyword_98 rfl (lv_at hl 2 rfl) ?_
      refine lv_bipush (v := (18:Int32)) hx hb d_MM_keyword_99 (by decide) ?_
      refine lv_icmp_ge (tgt := 192) hx hb d_MM_keyword_101 (by decide) (fun c4 => ?_) (fun c4 => ?_)
      · replace h := o_tt c4 h
        refine lv_iload_n hx hb d_MM_keyword_192 rfl (lv_at hl 2 rfl) ?_
        refine lv_bipush (v := (23:Int32)) hx hb d_MM_keyword_193 (by decide) ?_
        refine lv_icmp_ge (tgt := 243) hx hb d_MM_keyword_195 (by decide) (fun c5 => ?_) (fun c5 => ?_)
        · replace h := o_tt c5 h
          refine lv_iload_n hx hb d_MM_keyword_243 rfl (lv_at hl 2 rfl) ?_
          refine lv_bipush (v := (31:Int32)) hx hb d_MM_keyword_244 (by decide) ?_
          refine lv_icmp_ge (tgt := 292) hx hb d_MM_keyword_246 (by decide) (fun c6 => ?_) (fun c6 => ?_)
          · replace h := o_tt c6 h
            refine lv_iload_n hx hb d_MM_keyword_292 rfl (lv_at hl 2 rfl) ?_
            refine lv_bipush (v := (31:Int32)) hx hb d_MM_keyword_293 (by decide) ?_
            refine lv_icmp_ne (tgt := 334) hx hb d_MM_keyword_295 (by decide) (fun c7 => ?_) (fun c7 => ?_)
            · replace h := o_ff c7 h
              refine lv_iload_n hx hb d_MM_keyword_334 rfl (lv_at hl 2 rfl) ?_
              refine lv_bipush (v := (32:Int32)) hx hb d_MM_keyword_335 (by decide) ?_
              refine lv_icmp_ne (tgt := 355) hx hb d_MM_keyword_337 (by decide) (fun c8 => ?_) (fun c8 => ?_)
              · replace h := o_ff c8 h
                refine lv_iload_n hx hb d_MM_keyword_355 rfl (lv_at hl 2 rfl) ?_
                refine lv_bipush (v := (33:Int32)) hx hb d_MM_keyword_356 (by decide) ?_
                refine lv_icmp_ne (tgt := 370) hx hb d_MM_keyword_358 (by decide) (fun c9 => ?_) (fun c9 => ?_)
                · replace h := o_ff c9 h
                  refine lv_iload_n hx hb d_MM_keyword_370 rfl (lv_at hl 2 rfl) ?_
                  refine lv_bipush (v := (34:Int32)) hx hb d_MM_keyword_371 (by decide) ?_
                  refine lv_icmp_ne (tgt := 384) hx hb d_MM_keyword_373 (by decide) (fun c10 => ?_) (fun c10 => ?_)
                  · replace h := o_ff c10 h
                    refine lv_iload_n hx hb d_MM_keyword_384 rfl (lv_at hl 2 rfl) ?_
                    refine lv_bipush (v := (35:Int32)) hx hb d_MM_keyword_385 (by decide) ?_
                    refine lv_icmp_ne (tgt := 405) hx hb d_MM_keyword_387 (by decide) (fun c11 => ?_) (fun c11 => ?_)
                    · replace h := o_ff c11 h
                      refine lv_iload_n hx hb d_MM_keyword_405 rfl (lv_at hl 2 rfl) ?_
                      refine lv_bipush (v := (37:Int32)) hx hb d_MM_keyword_406 (by decide) ?_
                      refine lv_icmp_ne (tgt := 430) hx hb d_MM_keyword_408 (by decide) (fun c12 => ?_) (fun c12 => ?_)
                      · replace h := o_ff c12 h
                        refine lv_iload_n hx hb d_MM_keyword_430 rfl (lv_at hl 2 rfl) ?_
                        refine lv_bipush (v := (38:Int32)) hx hb d_MM_keyword_431 (by decide) ?_
                        refine lv_icmp_ne (tgt := 444) hx hb d_MM_keyword_433 (by decide) (fun c13 => ?_) (fun c13 => ?_)
                        · replace h := o_ff c13 h
                          refine lv_iload_n hx hb d_MM_keyword_444 rfl (lv_at hl 2 rfl) ?_
                          refine lv_bipush (v := (39:Int32)) hx hb d_MM_keyword_445 (by decide) ?_
                          refine lv_icmp_ne (tgt := 506) hx hb d_MM_keyword_447 (by decide) (fun c14 => ?_) (fun c14 => ?_)
                          · replace h := o_ff c14 h
                            refine lv_iload_n hx hb d_MM_keyword_506 rfl (lv_at hl 2 rfl) ?_
                            refine lv_bipush (v := (40:Int32)) hx hb d_MM_keyword_507 (by decide) ?_
                            refine lv_icmp_lt (tgt := 518) hx hb d_MM_keyword_509 (by decide) (fun c15 => ?_) (fun c15 => ?_)
                            · replace h := o_tt c15 h
                              cases h
                              exact o_rv C hP hS d_MM_keyword_518
                            · replace h := o_ff c15 h
                              refine lv_aload_n hx hb d_MM_keyword_512 rfl (lv_at hl 1 rfl) ?_
                              refine lv_iconst (v := (2:Int32)) hx hb d_MM_keyword_513 (by decide) ?_
                              refine lv_iload_n hx hb d_MM_keyword_514 rfl (lv_at hl 3 rfl) ?_
                              obtain ⟨q1, hq1, h⟩ := o_bd_some h
                              refine o_V (st1 := []) (w1 := (m_cw ad ca ky ty rt Ni Np No Nx q1 Na Nh Nq Nj M0 M1)) hE.1 C (e_MM_fault hE hKy l (2:Int32) x2 Nf Ni Np No Nx Na Nh Nq Nj M0 M1 rt hq1) hP (hDD _ _ _ _ _ _ _ _ _ _ _ _) hS hl.1 rfl mw_0 k_9_42 k_9_44 k_s_83 k_1_12 k_9_45 hv_MM_fault rfl rfl ⟨(by dsimp only [rm_MM_keyword, rm_MM_fault]; omega), (by dsimp only [rm_MM_keyword, rm_MM_fault]; omega)⟩ rfl (Nat.le_of_ble_eq_true rfl) ⟨Nat.zero_le _, Nat.zero_le _⟩ rfl d_MM_keyword_515 (fun H locs hP hS => ?_)
                              cases h
                              exact o_rv C hP hS d_MM_keyword_518
                          · replace h := o_tt c14 h
                            refine lv_iload hx hb d_MM_keyword_450 (lv_at hl 0 rfl) ?_
                            refine lv_bipush (v := (6:Int32)) hx hb d_MM_keyword_452 (by decide) ?_
                            refine lv_icmp_eq (tgt := 466) hx hb d_MM_keyword_454 (by decide) (fun c16 => ?_) (fun c16 => ?_)
                            · replace h := o_tt c16 h
                              refine lv_aload_n hx hb d_MM_keyword_466 rfl (lv_at hl 1 rfl) ?_
                              refine o_get (v := .ref (ad 33)) C in_MM hP 0 mw_0 rfl 4 (by decide) k_7_234 rfl rfl d_MM_keyword_467 ?_
                              refine o_get (v := .ref (ad 40)) C in_MT hP 33 mw_33 rfl 6 (by decide) k_7_113 rfl rfl d_MM_keyword_470 ?_
                              refine lv_iload_n hx hb d_MM_keyword_473 rfl (lv_at hl 3 rfl) ?_
                              obtain ⟨g17, h⟩ := o_gd_some h
                              refine o_iald (f := (MT_first M0)) C hP 40 38 mw_40 rfl g17 d_MM_keyword_474 ?_
                              refine lv_topi (fun x5_475 ex5_475 => ?_)
                              replace h := o_nm_at ex5_475 h
                              refine lv_istore (lv' := [(5, .int x5_475), (4, .int x4_9), (0, .ref (ad 0)), (1, .int x1), (2, .int x2), (3, .int x3)]) hx hb d_MM_keyword_475 hl (by decide) rfl (fun ls hl => ?_)
                              obtain ⟨q3, hq3, h⟩ := o_bd_some h
                              refine o_sim2 (AH := fun zz => o_At p l e (rm_MM_keyword d) s m _ below meth c _ m_cls D A 6 477 [] (m_cw ad ca ky ty rt Ni Np No Nx zz.2 Na Nh Nq Nj M0 M1) [(0, .ref (ad 0)), (5, .int zz.1)]) (AX := fun qq => o_At p l e (rm_MM_keyword d) s m _ below meth c _ m_cls D A 6 503 [] (m_cw ad ca ky ty rt Ni Np No Nx qq.2.2 Na Nh Nq Nj M0 M1) []) (fun zz qq h h0 h1 => f_MM_keyword_b477 hE hKy C hDD d rec hrec n M0 Np No Na rt Ni Nx Nh Nq Nj M1 zz qq h h0 h1) n _ q3 hq3 ?_ _ _ _ hP hS (lv_sub hl [2, 0] rfl)
                              intro H locs ls hP hS hl
                              refine lv_goto (tgt := 518) hx hb d_MM_keyword_503 (by decide) ?_
                              cases h
                              exact o_rv C hP hS d_MM_keyword_518
                            · replace h := o_ff c16 h
                              refine lv_aload_n hx hb d_MM_keyword_457 rfl (lv_at hl 1 rfl) ?_
                              refine lv_iconst (v := (1:Int32)) hx hb d_MM_keyword_458 (by decide) ?_
                              refine lv_iload_n hx hb d_MM_keyword_459 rfl (lv_at hl 3 rfl) ?_
                              obtain ⟨q4, hq4, h⟩ := o_bd_some h
                              refine o_V (st1 := []) (w1 := (m_cw ad ca ky ty rt Ni Np No Nx q4 Na Nh Nq Nj M0 M1)) hE.1 C (e_MM_fault hE hKy l (1:Int32) x2 Nf Ni Np No Nx Na Nh Nq Nj M0 M1 rt hq4) hP (hDD _ _ _ _ _ _ _ _ _ _ _ _) hS hl.1 rfl mw_0 k_9_42 k_9_44 k_s_83 k_1_12 k_9_45 hv_MM_fault rfl rfl ⟨(by dsimp only [rm_MM_keyword, rm_MM_fault]; omega), (by dsimp only [rm_MM_keyword, rm_MM_fault]; omega)⟩ rfl (Nat.le_of_ble_eq_true rfl) ⟨Nat.zero_le _, Nat.zero_le _⟩ rfl d_MM_keyword_460 (fun H locs hP hS => ?_)
                              refine lv_goto (tgt := 518) hx hb d_MM_keyword_463 (by decide) ?_
                              cases h
                              exact o_rv C hP hS d_MM_keyword_518
                        · replace h := o_tt c13 h
                          refine lv_aload_n hx hb d_MM_keyword_436 rfl (lv_at hl 1 rfl) ?_
                          refine lv_iload_n hx hb d_MM_keyword_437 rfl (lv_at hl 3 rfl) ?_
                          obtain ⟨q5, hq5, h⟩ := o_bd_some h
                          refine o_V (st1 := []) (w1 := (m_cw ad ca ky ty rt Ni Np No Nx q5 Na Nh Nq Nj M0 M1)) hE.1 C (e_MM_strings hE hKy l n x2 M0 Nf Ni Np No Nx Na Nh Nq Nj M1 rt hq5) hP (hDD _ _ _ _ _ _ _ _ _ _ _ _) hS hl.1 rfl mw_0 k_9_175 k_9_177 k_s_110 k_1_12 k_9_178 hv_MM_strings rfl rfl ⟨(by dsimp only [rm_MM_keyword, rm_MM_strings]; omega), (by dsimp only [rm_MM_keyword, rm_MM_strings]; omega)⟩ rfl (Nat.le_of_ble_eq_true rfl) ⟨Nat.zero_le _, Nat.zero_le _⟩ rfl d_MM_keyword_438 (fun H locs hP hS => ?_)
                          refine lv_goto (tgt := 518) hx hb d_MM_keyword_441 (by decide) ?_
                          cases h
                          exact o_rv C hP hS d_MM_keyword_518
                      · replace h := o_tt c12 h
                        refine lv_iload hx hb d_MM_keyword_411 (lv_at hl 0 rfl) ?_
                        refine lv_iconst (v := (1:Int32)) hx hb d_MM_keyword_413 (by decide) ?_
                        refine lv_iconst (v := (2:Int32)) hx hb d_MM_keyword_414 (by decide) ?_
                        obtain ⟨q6, hq6, h⟩ := o_bd_some h
                        refine o_S (st1 := [.int q6]) (w1 := (m_cw ad ca ky ty rt Ni Np No Nx Nf Na Nh Nq Nj M0 M1)) hE.1 C (e_MM_in hE hKy l x4_9 (1:Int32) (2:Int32) Ni Np No Nx Nf Na Nh Nq Nj M0 M1 rt hq6) hP (hDD _ _ _ _ _ _ _ _ _ _ _ _) hS hl.1 k_9_41 k_8_201 k_1_12 k_8_202 hs_MM_in rfl rfl ⟨(by dsimp only [rm_MM_keyword, rm_MM_in]; omega), (by dsimp only [rm_MM_keyword, rm_MM_in]; omega)⟩ rfl (Nat.le_of_ble_eq_true rfl) ⟨Nat.zero_le _, Nat.zero_le _⟩ rfl d_MM_keyword_415 (fun H locs hP hS => ?_)
                        refine lv_if_ne (tgt := 518) hx hb d_MM_keyword_418 (by decide) (fun c20 => ?_) (fun c20 => ?_)
                        · replace h := o_ff c20 h
                          cases h
                          exact o_rv C hP hS d_MM_keyword_518
                        · replace h := o_tt c20 h
                          refine lv_aload_n hx hb d_MM_keyword_421 rfl (lv_at hl 1 rfl) ?_
                          refine lv_iconst (v := (1:Int32)) hx hb d_MM_keyword_422 (by decide) ?_
                          refine lv_iload_n hx hb d_MM_keyword_423 rfl (lv_at hl 3 rfl) ?_
                          obtain ⟨q7, hq7, h⟩ := o_bd_some h
                          refine o_V (st1 := []) (w1 := (m_cw ad ca ky ty rt Ni Np No Nx q7 Na Nh Nq Nj M0 M1)) hE.1 C (e_MM_fault hE hKy l (1:Int32) x2 Nf Ni Np No Nx Na Nh Nq Nj M0 M1 rt hq7) hP (hDD _ _ _ _ _ _ _ _ _ _ _ _) hS hl.1 rfl mw_0 k_9_42 k_9_44 k_s_83 k_1_12 k_9_45 hv_MM_fault rfl rfl ⟨(by dsimp only [rm_MM_keyword, rm_MM_fault]; omega), (by dsimp only [rm_MM_keyword, rm_MM_fault]; omega)⟩ rfl (Nat.le_of_ble_eq_true rfl) ⟨Nat.zero_le _, Nat.zero_le _⟩ rfl d_MM_keyword_424 (fun H locs hP hS => ?_)
                          refine lv_goto (tgt := 518) hx hb d_MM_keyword_427 (by decide) ?_
                          cases h
                          exact o_rv C hP hS d_MM_keyword_518
                    · replace h := o_tt c11 h
                      refine lv_iload hx hb d_MM_keyword_390 (lv_at hl 0 rfl) ?_
                      refine lv_iconst (v := (5:Int32)) hx hb d_MM_keyword_392 (by decide) ?_
                      refine lv_icmp_eq (tgt := 518) hx hb d_MM_keyword_393 (by decide) (fun c21 => ?_) (fun c21 => ?_)
                      · replace h := o_tt c21 h
                        cases h
                        exact o_rv C hP hS d_MM_keyword_518
                      · replace h := o_ff c21 h
                        refine lv_aload_n hx hb d_MM_keyword_396 rfl (lv_at hl 1 rfl) ?_
                        refine lv_iconst (v := (1:Int32)) hx hb d_MM_keyword_397 (by decide) ?_
                        refine lv_iload_n hx hb d_MM_keyword_398 rfl (lv_at hl 3 rfl) ?_
                        obtain ⟨q8, hq8, h⟩ := o_bd_some h
                        refine o_V (st1 := []) (w1 := (m_cw ad ca ky ty rt Ni Np No Nx q8 Na Nh Nq Nj M0 M1)) hE.1 C (e_MM_fault hE hKy l (1:Int32) x2 Nf Ni Np No Nx Na Nh Nq Nj M0 M1 rt hq8) hP (hDD _ _ _ _ _ _ _ _ _ _ _ _) hS hl.1 rfl mw_0 k_9_42 k_9_44 k_s_83 k_1_12 k_9_45 hv_MM_fault rfl rfl ⟨(by dsimp only [rm_MM_keyword, rm_MM_fault]; omega), (by dsimp only [rm_MM_keyword, rm_MM_fault]; omega)⟩ rfl (Nat.le_of_ble_eq_true rfl) ⟨Nat.zero_le _, Nat.zero_le _⟩ rfl d_MM_keyword_399 (fun H locs hP hS => ?_)
                        refine lv_goto (tgt := 518) hx hb d_MM_keyword_402 (by decide) ?_
                        cases h
                        exact o_rv C hP hS d_MM_keyword_518
                  · replace h := o_tt c10 h
                    refine lv_aload_n hx hb d_MM_keyword_376 rfl (lv_at hl 1 rfl) ?_
                    refine lv_iload_n hx hb d_MM_keyword_377 rfl (lv_at hl 3 rfl) ?_
                    obtain ⟨q9, hq9, h⟩ := o_bd_some h
                    refine o_V (st1 := []) (w1 := (m_cw ad ca ky ty rt Ni Np No Nx q9 Na Nh Nq Nj M0 M1)) hE.1 C (e_MM_type hE hKy l n x2 M0 Nf Ni Np No Nx Na Nh Nq Nj M1 rt hq9) hP (hDD _ _ _ _ _ _ _ _ _ _ _ _) hS hl.1 rfl mw_0 k_9_167 k_9_169 k_s_108 k_1_12 k_9_170 hv_MM_type rfl rfl ⟨(by dsimp only [rm_MM_keyword, rm_MM_type]; omega), (by dsimp only [rm_MM_keyword, rm_MM_type]; omega)⟩ rfl (Nat.le_of_ble_eq_true rfl) ⟨Nat.zero_le _, Nat.zero_le _⟩ rfl d_MM_keyword_378 (fun H locs hP hS => ?_)
                    refine lv_goto (tgt := 518) hx hb d_MM_keyword_381 (by decide) ?_
                    cases h
                    exact o_rv C hP hS d_MM_keyword_518
                · replace h := o_tt c9 h
                  refine lv_aload_n hx hb d_MM_keyword_361 rfl (lv_at hl 1 rfl) ?_
                  refine lv_iload_n hx hb d_MM_keyword_362 rfl (lv_at hl 3 rfl) ?_
                  refine lv_iload_n hx hb d_MM_keyword_363 rfl (lv_at hl 4 rfl) ?_
                  obtain ⟨q10, hq10, h⟩ := o_bd_some h
                  refine o_V (st1 := []) (w1 := (m_cw ad ca ky ty rt Ni Np No Nx q10.1 q10.2 Nh Nq Nj M0 M1)) hE.1 C (e_MM_anchor hE hKy l n x2 x3 M0 Nf Na Ni Np No Nx Nh Nq Nj M1 rt hq10) hP (hDD _ _ _ _ _ _ _ _ _ _ _ _) hS hl.1 rfl mw_0 k_9_159 k_9_161 k_s_107 k_1_12 k_9_162 hv_MM_anchor rfl rfl ⟨(by dsimp only [rm_MM_keyword, rm_MM_anchor]; omega), (by dsimp only [rm_MM_keyword, rm_MM_anchor]; omega)⟩ rfl (Nat.le_of_ble_eq_true rfl) ⟨Nat.zero_le _, Nat.zero_le _⟩ rfl d_MM_keyword_364 (fun H locs hP hS => ?_)
                  refine lv_goto (tgt := 518) hx hb d_MM_keyword_367 (by decide) ?_
                  cases h
                  exact o_rv C hP hS d_MM_keyword_518
              · replace h := o_tt c8 h
                refine lv_iload hx hb d_MM_keyword_340 (lv_at hl 0 rfl) ?_
                refine lv_iconst (v := (4:Int32)) hx hb d_MM_keyword_342 (by decide) ?_
                refine lv_icmp_eq (tgt := 518) hx hb d_MM_keyword_343 (by decide) (fun c22 => ?_) (fun c22 => ?_)
                · replace h := o_tt c22 h
                  cases h
                  exact o_rv C hP hS d_MM_keyword_518
                · replace h := o_ff c22 h
                  refine lv_aload_n hx hb d_MM_keyword_346 rfl (lv_at hl 1 rfl) ?_
                  refine lv_iconst (v := (1:Int32)) hx hb d_MM_keyword_347 (by decide) ?_
                  refine lv_iload_n hx hb d_MM_keyword_348 rfl (lv_at hl 3 rfl) ?_
                  obtain ⟨q11, hq11, h⟩ := o_bd_some h
                  refine o_V (st1 := []) (w1 := (m_cw ad ca ky ty rt Ni Np No Nx q11 Na Nh Nq Nj M0 M1)) hE.1 C (e_MM_fault hE hKy l (1:Int32) x2 Nf Ni Np No Nx Na Nh Nq Nj M0 M1 rt hq11) hP (hDD _ _ _ _ _ _ _ _ _ _ _ _) hS hl.1 rfl mw_0 k_9_42 k_9_44 k_s_83 k_1_12 k_9_45 hv_MM_fault rfl rfl ⟨(by dsimp only [rm_MM_keyword, rm_MM_fault]; omega), (by dsimp only [rm_MM_keyword, rm_MM_fault]; omega)⟩ rfl (Nat.le_of_ble_eq_true rfl) ⟨Nat.zero_le _, Nat.zero_le _⟩ rfl d_MM_keyword_349 (fun H locs hP hS => ?_)
                  refine lv_goto (tgt := 518) hx hb d_MM_keyword_352 (by decide) ?_
                  cases h
                  exact o_rv C hP hS d_MM_keyword_518
            · replace h := o_tt c7 h
              refine lv_iload hx hb d_MM_keyword_298 (lv_at hl 0 rfl) ?_
              refine lv_iconst (v := (4:Int32)) hx hb d_MM_keyword_300 (by decide) ?_
              refine lv_icmp_eq (tgt := 313) hx hb d_MM_keyword_301 (by decide) (fun c23 => ?_) (fun c23 => ?_)
              · replace h := o_tt c23 h
                refine lv_aload_n hx hb d_MM_keyword_313 rfl (lv_at hl 1 rfl) ?_
                refine lv_aload_n hx hb d_MM_keyword_314 rfl (lv_at hl 1 rfl) ?_
                refine o_get (v := .ref (ad 33)) C in_MM hP 0 mw_0 rfl 4 (by decide) k_7_234 rfl rfl d_MM_keyword_315 ?_
                refine lv_iload_n hx hb d_MM_keyword_318 rfl (lv_at hl 3 rfl) ?_
                obtain ⟨q12, hq12, h⟩ := o_bd_some h
                refine o_V (st1 := [.int q12.1]) (w1 := (m_cw ad ca ky ty 33 Ni q12.2.1 q12.2.2 Nx Nf Na Nh Nq Nj M0 M1)) hE.1 C (e_MM_isPattern_a hE hKy l n x2 M0 Np No Ni Nx Nf Na Nh Nq Nj M1 rt hq12) hP (hDD _ _ _ _ _ _ _ _ _ _ _ _) hS hl.1 rfl mw_0 k_9_54 k_9_56 k_s_85 k_1_12 k_9_57 hv_MM_isPattern rfl rfl ⟨(by dsimp only [rm_MM_keyword, rm_MM_isPattern]; omega), (by dsimp only [rm_MM_keyword, rm_MM_isPattern]; omega)⟩ rfl (Nat.le_of_ble_eq_true rfl) ⟨Nat.zero_le _, Nat.zero_le _⟩ rfl d_MM_keyword_319 (fun H locs hP hS => ?_)
                refine lv_if_ne (tgt := 518) hx hb d_MM_keyword_322 (by decide) (fun c24 => ?_) (fun c24 => ?_)
                · replace h := o_ff c24 h
                  cases h
                  exact o_rv C hP hS d_MM_keyword_518
                · replace h := o_tt c24 h
                  refine lv_aload_n hx hb d_MM_keyword_325 rfl (lv_at hl 1 rfl) ?_
                  refine lv_iconst (v := (4:Int32)) hx hb d_MM_keyword_326 (by decide) ?_
                  refine lv_iload_n hx hb d_MM_keyword_327 rfl (lv_at hl 3 rfl) ?_
                  obtain ⟨q13, hq13, h⟩ := o_bd_some h
                  refine o_V (st1 := []) (w1 := (m_cw ad ca ky ty 33 Ni q12.2.1 q12.2.2 Nx q13 Na Nh Nq Nj M0 M1)) hE.1 C (e_MM_fault hE hKy l (4:Int32) x2 Nf Ni q12.2.1 q12.2.2 Nx Na Nh Nq Nj M0 M1 33 hq13) hP (hDD _ _ _ _ _ _ _ _ _ _ _ _) hS hl.1 rfl mw_0 k_9_42 k_9_44 k_s_83 k_1_12 k_9_45 hv_MM_fault rfl rfl ⟨(by dsimp only [rm_MM_keyword, rm_MM_fault]; omega), (by dsimp only [rm_MM_keyword, rm_MM_fault]; omega)⟩ rfl (Nat.le_of_ble_eq_true rfl) ⟨Nat.zero_le _, Nat.zero_le _⟩ rfl d_MM_keyword_328 (fun H locs hP hS => ?_)
                  refine lv_goto (tgt := 518) hx hb d_MM_keyword_331 (by decide) ?_
                  cases h
                  exact o_rv C hP hS d_MM_keyword_518
              · replace h := o_ff c23 h
                refine lv_aload_n hx hb d_MM_keyword_304 rfl (lv_at hl 1 rfl) ?_
                refine lv_iconst (v := (1:Int32)) hx hb d_MM_keyword_305 (by decide) ?_
                refine lv_iload_n hx hb d_MM_keyword_306 rfl (lv_at hl 3 rfl) ?_
                obtain ⟨q14, hq14, h⟩ := o_bd_some h
                refine o_V (st1 := []) (w1 := (m_cw ad ca ky ty rt Ni Np No Nx q14 Na Nh Nq Nj M0 M1)) hE.1 C (e_MM_fault hE hKy l (1:Int32) x2 Nf Ni Np No Nx Na Nh Nq Nj M0 M1 rt hq14) hP (hDD _ _ _ _ _ _ _ _ _ _ _ _) hS hl.1 rfl mw_0 k_9_42 k_9_44 k_s_83 k_1_12 k_9_45 hv_MM_fault rfl rfl ⟨(by dsimp only [rm_MM_keyword, rm_MM_fault]; omega), (by dsimp only [rm_MM_keyword, rm_MM_fault]; omega)⟩ rfl (Nat.le_of_ble_eq_true rfl) ⟨Nat.zero_le _, Nat.zero_le _⟩ rfl d_MM_keyword_307 (fun H locs hP hS => ?_)
                refine lv_goto (tgt := 518) hx hb d_MM_keyword_310 (by decide) ?_
                cases h
                exact o_rv C hP hS d_MM_keyword_518
          · replace h := o_ff c6 h
            refine lv_aload_n hx hb d_MM_keyword_249 rfl (lv_at hl 1 rfl) ?_
            refine o_get (v := .ref (ad 33)) C in_MM hP 0 mw_0 rfl 4 (by decide) k_7_234 rfl rfl d_MM_keyword_250 ?_
            refine lv_iload_n hx hb d_MM_keyword_253 rfl (lv_at hl 3 rfl) ?_
            obtain ⟨q15, hq15, h⟩ := o_bd_some h
            refine o_V (st1 := [.int q15]) (w1 := (m_cw ad ca ky ty rt Ni Np No Nx Nf Na Nh Nq Nj M0 M1)) hE.1 C (e_MT_isWhole_a hE hKy l x2 M0 Ni Np No Nx Nf Na Nh Nq Nj M1 rt hq15) hP (hDD _ _ _ _ _ _ _ _ _ _ _ _) hS hl.1 rfl mw_33 k_9_149 k_9_150 k_9_151 k_1_13 k_9_152 hv_MT_isWhole rfl rfl ⟨(by dsimp only [rm_MM_keyword, rm_MT_isWhole]; omega), (by dsimp only [rm_MM_keyword, rm_MT_isWhole]; omega)⟩ rfl (Nat.le_of_ble_eq_true rfl) ⟨Nat.zero_le _, Nat.zero_le _⟩ rfl d_MM_keyword_254 (fun H locs hP hS => ?_)
            refine lv_if_eq (tgt := 283) hx hb d_MM_keyword_257 (by decide) (fun c25 => ?_) (fun c25 => ?_)
            · replace h := o_tt c25 h
              exact f_MM_keyword_j283 hE hKy C hDD d rec hrec n x2 M0 Np No Nf Na rt Ni Nx Nh Nq Nj M1 h _ _ _ hP hS (lv_sub hl [1, 3] rfl)
            · replace h := o_ff c25 h
              refine lv_aload_n hx hb d_MM_keyword_260 rfl (lv_at hl 1 rfl) ?_
              refine o_get (v := .ref (ad 33)) C in_MM hP 0 mw_0 rfl 4 (by decide) k_7_234 rfl rfl d_MM_keyword_261 ?_
              refine o_get (v := .ref (ad 46)) C in_MT hP 33 mw_33 rfl 12 (by decide) k_7_125 rfl rfl d_MM_keyword_264 ?_
              refine lv_iload_n hx hb d_MM_keyword_267 rfl (lv_at hl 3 rfl) ?_
              obtain ⟨g26, h⟩ := o_gd_some h
              refine o_zald (f := (MT_minus M0)) C hP 46 44 mw_46 rfl g26 d_MM_keyword_268 ?_
              refine lv_if_ne (tgt := 283) hx hb d_MM_keyword_269 (by decide) (fun c27 => ?_) (fun c27 => ?_)
              · replace h := o_ff c27 h
                exact f_MM_keyword_j283 hE hKy C hDD d rec hrec n x2 M0 Np No Nf Na rt Ni Nx Nh Nq Nj M1 h _ _ _ hP hS (lv_sub hl [1, 3] rfl)
              · replace h := o_tt c27 h
                refine lv_aload_n hx hb d_MM_keyword_272 rfl (lv_at hl 1 rfl) ?_
                refine lv_iload_n hx hb d_MM_keyword_273 rfl (lv_at hl 3 rfl) ?_
                obtain ⟨q17, hq17, h⟩ := o_bd_some h
                refine o_V (st1 := [.int q17]) (w1 := (m_cw ad ca ky ty rt Ni Np No Nx Nf Na Nh Nq Nj M0 M1)) hE.1 C (e_MM_intOf hE hKy l n x2 M0 Ni Np No Nx Nf Na Nh Nq Nj M1 rt hq17) hP (hDD _ _ _ _ _ _ _ _ _ _ _ _) hS hl.1 rfl mw_0 k_9_153 k_9_155 k_s_106 k_1_12 k_9_156 hv_MM_intOf rfl rfl ⟨(by dsimp only [rm_MM_keyword, rm_MM_intOf]; omega), (by dsimp only [rm_MM_keyword, rm_MM_intOf]; omega)⟩ rfl (Nat.le_of_ble_eq_true rfl) ⟨Nat.zero_le _, Nat.zero_le _⟩ rfl d_MM_keyword_274 (fun H locs hP hS => ?_)
                refine lv_ldcw (v := (1000000:Int32)) hx hb hown (hts _ k_9_158) d_MM_keyword_277 ?_
                refine lv_icmp_le (tgt := 518) hx hb d_MM_keyword_280 (by decide) (fun c28 => ?_) (fun c28 => ?_)
                · replace h := o_tt c28 h
                  cases h
                  exact o_rv C hP hS d_MM_keyword_518
                · replace h := o_ff c28 h
                  exact f_MM_keyword_j283 hE hKy C hDD d rec hrec n x2 M0 Np No Nf Na rt Ni Nx Nh Nq Nj M1 h _ _ _ hP hS (lv_sub hl [1, 3] rfl)
        · replace h := o_ff c5 h
          refine lv_iload hx hb d_MM_keyword_198 (lv_at hl 0 rfl) ?_
          refine lv_iconst (v := (3:Int32)) hx hb d_MM_keyword_200 (by decide) ?_
          refine lv_icmp_ne (tgt := 234) hx hb d_MM_keyword_201 (by decide) (fun c29 => ?_) (fun c29 => ?_)
          · replace h := o_ff c29 h
            exact f_MM_keyword_j234 hE hKy C hDD d rec hrec n x2 M0 Np No Nf Na rt Ni Nx Nh Nq Nj M1 h _ _ _ hP hS (lv_sub hl [1, 3] rfl)
          · replace h := o_tt c29 h
            refine lv_iload_n hx hb d_MM_keyword_204 rfl (lv_at hl 2 rfl) ?_
            refine lv_bipush (v := (22:Int32)) hx hb d_MM_keyword_205 (by decide) ?_
            refine lv_icmp_ne (tgt := 518) hx hb d_MM_keyword_207 (by decide) (fun c30 => ?_) (fun c30 => ?_)
            · replace h := o_ff c30 h
              cases h
              exact o_rv C hP hS d_MM_keyword_518
            · replace h := o_tt c30 h
              refine lv_aload_n hx hb d_MM_keyword_210 rfl (lv_at hl 1 rfl) ?_
              refine o_get (v := .ref (ad 33)) C in_MM hP 0 mw_0 rfl 4 (by decide) k_7_234 rfl rfl d_MM_keyword_211 ?_
              refine o_get (v := .ref (ad 37)) C in_MT hP 33 mw_33 rfl 3 (by decide) k_7_107 rfl rfl d_MM_keyword_214 ?_
              refine lv_iload_n hx hb d_MM_keyword_217 rfl (lv_at hl 3 rfl) ?_
              obtain ⟨g31, h⟩ := o_gd_some h
              refine o_iald (f := (MT_many M0)) C hP 37 35 mw_37 rfl g31 d_MM_keyword_218 ?_
              refine lv_if_eq (tgt := 234) hx hb d_MM_keyword_219 (by decide) (fun c32 => ?_) (fun c32 => ?_)
              · replace h := o_tt c32 h
                exact f_MM_keyword_j234 hE hKy C hDD d rec hrec n x2 M0 Np No Nf Na rt Ni Nx Nh Nq Nj M1 h _ _ _ hP hS (lv_sub hl [1, 3] rfl)
              · replace h := o_ff c32 h
                refine lv_aload_n hx hb d_MM_keyword_222 rfl (lv_at hl 1 rfl) ?_
                refine o_get (v := .ref (ad 33)) C in_MM hP 0 mw_0 rfl 4 (by decide) k_7_234 rfl rfl d_MM_keyword_223 ?_
                refine o_get (v := .ref (ad 46)) C in_MT hP 33 mw_33 rfl 12 (by decide) k_7_125 rfl rfl d_MM_keyword_226 ?_
                refine lv_iload_n hx hb d_MM_keyword_229 rfl (lv_at hl 3 rfl) ?_
                obtain ⟨g33, h⟩ := o_gd_some h
                refine o_zald (f := (MT_minus M0)) C hP 46 44 mw_46 rfl g33 d_MM_keyword_230 ?_
                refine lv_if_eq (tgt := 518) hx hb d_MM_keyword_231 (by decide) (fun c34 => ?_) (fun c34 => ?_)
                · replace h := o_tt c34 h
                  cases h
                  exact o_rv C hP hS d_MM_keyword_518
                · replace h := o_ff c34 h
                  exact f_MM_keyword_j234 hE hKy C hDD d rec hrec n x2 M0 Np No Nf Na rt Ni Nx Nh Nq Nj M1 h _ _ _ hP hS (lv_sub hl [1, 3] rfl)
      · replace h := o_ff c4 h
        refine lv_iload hx hb d_MM_keyword_104 (lv_at hl 0 rfl) ?_
        refine lv_bipush (v := (6:Int32)) hx hb d_MM_keyword_106 (by decide) ?_
        refine lv_icmp_eq (tgt := 118) hx hb d_MM_keyword_108 (by decide) (fun c35 => ?_) (fun c35 => ?_)
        · replace h := o_tt c35 h
          refine lv_aload_n hx hb d_MM_keyword_118 rfl (lv_at hl 1 rfl) ?_
          refine o_get (v := .ref (ad 33)) C in_MM hP 0 mw_0 rfl 4 (by decide) k_7_234 rfl rfl d_MM_keyword_119 ?_
          refine o_get (v := .ref (ad 40)) C in_MT hP 33 mw_33 rfl 6 (by decide) k_7_113 rfl rfl d_MM_keyword_122 ?_
          refine lv_iload_n hx hb d_MM_keyword_125 rfl (lv_at hl 3 rfl) ?_
          obtain ⟨g36, h⟩ := o_gd_some h
          refine o_iald (f := (MT_first M0)) C hP 40 38 mw_40 rfl g36 d_MM_keyword_126 ?_
          refine lv_topi (fun x5_127 ex5_127 => ?_)
          replace h := o_nm_at ex5_127 h
          refine lv_istore (lv' := [(5, .int x5_127), (4, .int x4_9), (0, .ref (ad 0)), (1, .int x1), (2, .int x2), (3, .int x3)]) hx hb d_MM_keyword_127 hl (by decide) rfl (fun ls hl => ?_)
          obtain ⟨q22, hq22, h⟩ := o_bd_some h
          refine o_sim2 (AH := fun zz => o_At p l e (rm_MM_keyword d) s m _ below meth c _ m_cls D A 6 129 [] (m_cw ad ca ky ty zz.2.2.2.2.2 Ni zz.2.1 zz.2.2.1 Nx zz.2.2.2.1 zz.2.2.2.2.1 Nh Nq Nj M0 M1) [(0, .ref (ad 0)), (1, .int x1), (5, .int zz.1)]) (AX := fun qq => o_At p l e (rm_MM_keyword d) s m _ below meth c _ m_cls D A 6 189 [] (m_cw ad ca ky ty qq.2.2.2.2.2.2 Ni qq.2.2.1 qq.2.2.2.1 Nx qq.2.2.2.2.1 qq.2.2.2.2.2.1 Nh Nq Nj M0 M1) []) (fun zz qq h h0 h1 => f_MM_keyword_b129 hE hKy C hDD d rec hrec n x1 M0 Ni Nx Nh Nq Nj M1 zz qq h h0 h1) n _ q22 hq22 ?_ _ _ _ hP hS (lv_sub hl [2, 3, 0] rfl)
          intro H locs ls hP hS hl
          refine lv_goto (tgt := 518) hx hb d_MM_keyword_189 (by decide) ?_
          cases h
          exact o_rv C hP hS d_MM_keyword_518
        · replace h := o_ff c35 h
          refine lv_aload_n hx hb d_MM_keyword_111 rfl (lv_at hl 1 rfl) ?_
          refine lv_iconst (v := (1:Int32)) hx hb d_MM_keyword_112 (by decide) ?_
          refine lv_iload_n hx hb d_MM_keyword_113 rfl (lv_at hl 3 rfl) ?_
          obtain ⟨q23, hq23, h⟩ := o_bd_some h
          refine o_V (st1 := []) (w1 := (m_cw ad ca ky ty rt Ni Np No Nx q23 Na Nh Nq Nj M0 M1)) hE.1 C (e_MM_fault hE hKy l (1:Int32) x2 Nf Ni Np No Nx Na Nh Nq Nj M0 M1 rt hq23) hP (hDD _ _ _ _ _ _ _ _ _ _ _ _) hS hl.1 rfl mw_0 k_9_42 k_9_44 k_s_83 k_1_12 k_9_45 hv_MM_fault rfl rfl ⟨(by dsimp only [rm_MM_keyword, rm_MM_fault]; omega), (by dsimp only [rm_MM_keyword, rm_MM_fault]; omega)⟩ rfl (Nat.le_of_ble_eq_true rfl) ⟨Nat.zero_le _, Nat.zero_le _⟩ rfl d_MM_keyword_114 (fun H locs hP hS => ?_)
          cases h
          exact o_rv C hP hS d_MM_keyword_117
    · replace h := o_ff c3 h
      refine lv_iload hx hb d_MM_keyword_31 (lv_at hl 0 rfl) ?_
      refine lv_iconst (v := (5:Int32)) hx hb d_MM_keyword_33 (by decide) ?_
      refine lv_icmp_ne (tgt := 49) hx hb d_MM_keyword_34 (by decide) (fun c42 => ?_) (fun c42 => ?_)
      · replace h := o_ff c42 h
        exact f_MM_keyword_j49 hE hKy C hDD d rec hrec n x2 M0 Np No Nf Na rt Ni Nx Nh Nq Nj M1 h _ _ _ hP hS (lv_sub hl [1, 3] rfl)
      · replace h := o_tt c42 h
        refine lv_aload_n hx hb d_MM_keyword_37 rfl (lv_at hl 1 rfl) ?_
        refine o_get (v := .ref (ad 33)) C in_MM hP 0 mw_0 rfl 4 (by decide) k_7_234 rfl rfl d_MM_keyword_38 ?_
        refine o_get (v := .ref (ad 37)) C in_MT hP 33 mw_33 rfl 3 (by decide) k_7_107 rfl rfl d_MM_keyword_41 ?_
        refine lv_iload_n hx hb d_MM_keyword_44 rfl (lv_at hl 3 rfl) ?_
        obtain ⟨g43, h⟩ := o_gd_some h
        refine o_iald (f := (MT_many M0)) C hP 37 35 mw_37 rfl g43 d_MM_keyword_45 ?_
        refine lv_if_ne (tgt := 58) hx hb d_MM_keyword_46 (by decide) (fun c44 => ?_) (fun c44 => ?_)
        · replace h := o_ff c44 h
          refine lv_aload_n hx hb d_MM_keyword_58 rfl (lv_at hl 1 rfl) ?_
          refine o_get (v := .ref (ad 33)) C in_MM hP 0 mw_0 rfl 4 (by decide) k_7_234 rfl rfl d_MM_keyword_59 ?_
          refine o_get (v := .ref (ad 40)) C in_MT hP 33 mw_33 rfl 6 (by decide) k_7_113 rfl rfl d_MM_keyword_62 ?_
          refine lv_iload_n hx hb d_MM_keyword_65 rfl (lv_at hl 3 rfl) ?_
          obtain ⟨g45, h⟩ := o_gd_some h
          refine o_iald (f := (MT_first M0)) C hP 40 38 mw_40 rfl g45 d_MM_keyword_66 ?_
          refine lv_topi (fun x5_67 ex5_67 => ?_)
          replace h := o_nm_at ex5_67 h
          refine lv_istore (lv' := [(5, .int x5_67), (4, .int x4_9), (0, .ref (ad 0)), (1, .int x1), (2, .int x2), (3, .int x3)]) hx hb d_MM_keyword_67 hl (by decide) rfl (fun ls hl => ?_)
          obtain ⟨q26, hq26, h⟩ := o_bd_some h
          refine o_sim2 (AH := fun zz => o_At p l e (rm_MM_keyword d) s m _ below meth c _ m_cls D A 6 69 [] (m_cw ad ca ky ty zz.2.2.2.2.2 Ni zz.2.1 zz.2.2.1 Nx zz.2.2.2.1 zz.2.2.2.2.1 Nh Nq Nj M0 M1) [(0, .ref (ad 0)), (5, .int zz.1)]) (AX := fun qq => o_At p l e (rm_MM_keyword d) s m _ below meth c _ m_cls D A 6 95 [] (m_cw ad ca ky ty qq.2.2.2.2.2.2 Ni qq.2.2.1 qq.2.2.2.1 Nx qq.2.2.2.2.1 qq.2.2.2.2.2.1 Nh Nq Nj M0 M1) []) (fun zz qq h h0 h1 => f_MM_keyword_b69 hE hKy C hDD d rec hrec n M0 Ni Nx Nh Nq Nj M1 zz qq h h0 h1) n _ q26 hq26 ?_ _ _ _ hP hS (lv_sub hl [2, 0] rfl)
          intro H locs ls hP hS hl
          refine lv_goto (tgt := 518) hx hb d_MM_keyword_95 (by decide) ?_
          cases h
          exact o_rv C hP hS d_MM_keyword_518
        · replace h := o_tt c44 h
          exact f_MM_keyword_j49 hE hKy C hDD d rec hrec n x2 M0 Np No Nf Na rt Ni Nx Nh Nq Nj M1 h _ _ _ hP hS (lv_sub hl [1, 3] rfl)
  · replace h := o_ff c2 h
    refine lv_aload_n hx hb d_MM_keyword_17 rfl (lv_at hl 1 rfl) ?_
    refine lv_iload_n hx hb d_MM_keyword_18 rfl (lv_at hl 3 rfl) ?_
    obtain ⟨q27, hq27, h⟩ := o_bd_some h
    refine o_V (st1 := []) (w1 := (m_cw ad ca ky ty q27.2.2.2.2 Ni q27.1 q27.2.1 Nx q27.2.2.1 q27.2.2.2.1 Nh Nq Nj M0 M1)) hE.1 C (hrec x2 M0 Np No Nf Na rt Ni Nx Nh Nq Nj M1 _ hq27) hP (hDD _ _ _ _ _ _ _ _ _ _ _ _) hS hl.1 rfl mw_0 k_9_37 k_9_39 k_s_82 k_1_12 k_9_40 hv_MM_visit rfl rfl ⟨(by dsimp only [rm_MM_keyword, rm_MM_visit]; omega), (by dsimp only [rm_MM_keyword, rm_MM_visit]; omega)⟩ rfl (Nat.le_of_ble_eq_true rfl) ⟨Nat.zero_le _, Nat.zero_le _⟩ rfl d_MM_keyword_19 (fun H locs hP hS => ?_)
    refine lv_goto (tgt := 518) hx hb d_MM_keyword_22 (by decide) ?_
    cases h
    exact o_rv C hP hS d_MM_keyword_518
