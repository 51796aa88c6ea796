set_option maxHeartbeats 4000000 in
set_option maxRecDepth 100000 in
theorem f_MT_reaches_b14_ba {E : (Nat → Prop) → State → Heap → Prop} {p : Program} {l : Launch} {e : Env} {s : State} {m : MethodId} {args : Array Value} {below : List Frame} {meth : Method} {c : Code} {D : va_G} {ad kd sd vd xd : Nat → Nat} {ca : Nat → ClassId} {A : Nat → Prop} {ky ty : Nat → Option Nat} {Q : State → Prop} (hE : o_EK E kd sd vd xd) (hKy : m_KY ky ty sd) (C : o_Cx E p s m args meth c D m_cls (m_tys ca) "SchemaJudgeModel$Text" b_MT_reaches (some .boolean) 6 cc_MT_reaches A) (hDD : ∀ (rt : Nat) (Ni : SNI) (Np : SNP) (No : SNO) (Nx : SNX) (Nf : SNF) (Na : SNA) (Nh : SNH) (Nq : SNQ) (Nj : SNJ) (M0 : SMT) (M1 : SMT), va_D A (m_cw ad ca ky ty rt Ni Np No Nx Nf Na Nh Nq Nj M0 M1)) (n : Nat) (u14_x2 : Int32) (u14_x3 : Int32) (u14_a0 : SMT) (u14_a1 : SMT) (u14_Ni : SNI) (u14_Np : SNP) (u14_No : SNO) (u14_Nx : SNX) (u14_Nf : SNF) (u14_Na : SNA) (u14_Nh : SNH) (u14_Nq : SNQ) (u14_Nj : SNJ) (u14_rt : Nat) (z : Int32 × Int32) (q : Nat × Int32 × Int32) (h : m_MT_reaches_b14 n u14_x2 u14_x3 u14_a0 u14_a1 z = some q) (h0 : q.1 = 0 → o_At p l e rm_MT_reaches s m args below meth c Q m_cls D A 6 14 [] (m_cw ad ca ky ty u14_rt u14_Ni u14_Np u14_No u14_Nx u14_Nf u14_Na u14_Nh u14_Nq u14_Nj u14_a1 u14_a0) [(0, .ref (ad 48)), (1, .ref (ad 33)), (2, .int u14_x2), (3, .int u14_x3), (4, .int q.2.1)]) (h1 : q.1 ≠ 0 → (if q.1 = 1 then o_At p l e rm_MT_reaches s m args below meth c Q m_cls D A 6 50 [] (m_cw ad ca ky ty u14_rt u14_Ni u14_Np u14_No u14_Nx u14_Nf u14_Na u14_Nh u14_Nq u14_Nj u14_a1 u14_a0) [(0, .ref (ad 48)), (4, .int q.2.1), (5, .int q.2.2)] else o_At p l e rm_MT_reaches s m args below meth c Q m_cls D A 6 76 [] (m_cw ad ca ky ty u14_rt u14_Ni u14_Np u14_No u14_Nx u14_Nf u14_Na u14_Nh u14_Nq u14_Nj u14_a1 u14_a0) [])) : o_At p l e rm_MT_reaches s m args below meth c Q m_cls D A 6 14 [] (m_cw ad ca ky ty u14_rt u14_Ni u14_Np u14_No u14_Nx u14_Nf u14_Na u14_Nh u14_Nq u14_Nj u14_a1 u14_a0) [(0, .ref (ad 48)), (1, .ref (ad 33)), (2, .int u14_x2), (3, .int u14_x3), (4, .int z.1)] := by
  unfold m_MT_reaches_b14 at h
  intro H locs ls hP hS hl
  have C0 := C
  obtain ⟨hx, hb, -, -, -, hown, hts, hK, -, -⟩ := C0
  refine lv_iload hx hb d_MT_reaches_14 (lv_at hl 4 rfl) ?_
  refine lv_iload_n hx hb d_MT_reaches_16 rfl (lv_at hl 3 rfl) ?_
  refine lv_icmp_ge (tgt := 76) hx hb d_MT_reaches_17 (by decide) (fun c3 => ?_) (fun c3 => ?_)
  · replace h := o_tt c3 h
    cases h
    exact h1 (Nat.succ_ne_zero 1) _ _ _ hP hS (lv_sub hl [] rfl)
  · replace h := o_ff c3 h
    refine lv_aload_n hx hb d_MT_reaches_20 rfl (lv_at hl 1 rfl) ?_
    refine o_get (v := .ref (ad 45)) C in_MT hP 33 mw_33 rfl 11 (by decide) k_7_122 rfl rfl d_MT_reaches_21 ?_
    refine lv_aload_n hx hb d_MT_reaches_24 rfl (lv_at hl 1 rfl) ?_
    refine o_get (v := .ref (ad 43)) C in_MT hP 33 mw_33 rfl 9 (by decide) k_7_118 rfl rfl d_MT_reaches_25 ?_
    refine lv_iload_n hx hb d_MT_reaches_28 rfl (lv_at hl 2 rfl) ?_
    obtain ⟨g4, h⟩ := o_gd_some h
    refine o_iald (f := (MT_from u14_a1)) C hP 43 41 mw_43 rfl g4 d_MT_reaches_29 ?_
    refine lv_iload hx hb d_MT_reaches_30 (lv_at hl 4 rfl) ?_
    refine lv_iadd hx hb d_MT_reaches_32 ?_
    obtain ⟨g5, h⟩ := o_gd_some h
    refine o_iald (f := (MT_digits u14_a1)) C hP 45 43 mw_45 rfl g5 d_MT_reaches_33 ?_
    refine lv_topi (fun x5_34 ex5_34 => ?_)
    replace h := o_nm_at ex5_34 h
    refine lv_istore (lv' := [(5, .int x5_34), (0, .ref (ad 48)), (1, .ref (ad 33)), (2, .int u14_x2), (3, .int u14_x3), (4, .int z.1)]) hx hb d_MT_reaches_34 hl (by decide) rfl (fun ls hl => ?_)
    refine lv_aload_n hx hb d_MT_reaches_36 rfl (lv_at hl 1 rfl) ?_
    refine o_get (v := .ref (ad 62)) C in_MT hP 48 mw_48 rfl 19 (by decide) k_7_133 rfl rfl d_MT_reaches_37 ?_
    refine lv_iload hx hb d_MT_reaches_40 (lv_at hl 5 rfl) ?_
    refine lv_iconst (v := (1:Int32)) hx hb d_MT_reaches_42 (by decide) ?_
    refine lv_iadd hx hb d_MT_reaches_43 ?_
    obtain ⟨g6, h⟩ := o_gd_some h
    refine o_iald (f := (MT_left u14_a0)) C hP 62 59 mw_62 rfl g6 d_MT_reaches_44 ?_
    refine lv_iload hx hb d_MT_reaches_45 (lv_at hl 0 rfl) ?_
    refine lv_icmp_eq (tgt := 70) hx hb d_MT_reaches_47 (by decide) (fun c7 => ?_) (fun c7 => ?_)
    · replace h := o_tt c7 h
      obtain ⟨x4_70, ex4_70⟩ : ∃ y : Int32, y = z.1 + (1:Int32) := ⟨_, rfl⟩
      replace h := o_nm_at ex4_70 h
      refine lv_iinc (v := x4_70) (lv' := [(4, .int x4_70), (5, .int x5_34), (0, .ref (ad 48)), (1, .ref (ad 33)), (2, .int u14_x2), (3, .int u14_x3)]) hx hb d_MT_reaches_70 hl (k := 5) rfl (by rw [ex4_70]; rfl) (by decide) rfl (fun ls hl => ?_)
      refine lv_goto (tgt := 14) hx hb d_MT_reaches_73 (by decide) ?_
      cases h
      exact h0 rfl _ _ _ hP hS (lv_sub hl [2, 3, 4, 5, 0] rfl)
    · replace h := o_ff c7 h
      cases h
      exact h1 (Nat.succ_ne_zero 0) _ _ _ hP hS (lv_sub hl [1, 5, 0] rfl)
set_option maxHeartbeats 4000000 in
set_option maxRecDepth 100000 in
theorem e_MT_reaches_ba {E : (Nat → Prop) → State → Heap → Prop} {D : va_G} {ad kd sd vd xd : Nat → Nat} {ca : Nat → ClassId} {ky ty : Nat → Option Nat} (hE : o_EK E kd sd vd xd) (hKy : m_KY ky ty sd) (l : Launch) (n : Nat) (x2 : Int32) (x3 : Int32) (a0 : SMT) (a1 : SMT) (Ni : SNI) (Np : SNP) (No : SNO) (Nx : SNX) (Nf : SNF) (Na : SNA) (Nh : SNH) (Nq : SNQ) (Nj : SNJ) (rt : Nat) {r : Int32} (h : m_MT_reaches n x2 x3 a0 a1 = some r) : o_Cn E l D m_cls (m_tys ca) y_MT_reaches cc_MT_reaches rm_MT_reaches [.ref (ad 48), .ref (ad 33), .int x2, .int x3] (m_cw ad ca ky ty rt Ni Np No Nx Nf Na Nh Nq Nj a1 a0) (m_cw ad ca ky ty rt Ni Np No Nx Nf Na Nh Nq Nj a1 a0) (some (.int r)) := by
  refine o_Cn_of (by decide) (Nat.le_of_ble_eq_true rfl) ?_
  intro p e s m below meth c A ls C hD hP hS hl
  have hDD : ∀ (rt : Nat) (Ni : SNI) (Np : SNP) (No : SNO) (Nx : SNX) (Nf : SNF) (Na : SNA) (Nh : SNH) (Nq : SNQ) (Nj : SNJ) (M0 : SMT) (M1 : SMT), va_D A (m_cw ad ca ky ty rt Ni Np No Nx Nf Na Nh Nq Nj M0 M1) := fun _ _ _ _ _ _ _ _ _ _ _ _ => o_D_map hD rfl
  have hl : lv_has ls 6 [(0, .ref (ad 48)), (1, .ref (ad 33)), (2, .int x2), (3, .int x3)] := hl
  unfold m_MT_reaches at h
  have C0 := C
  obtain ⟨hx, hb, -, -, -, hown, hts, hK, -, -⟩ := C0
  refine lv_aload_n hx hb d_MT_reaches_0 rfl (lv_at hl 0 rfl) ?_
  refine o_get (v := .ref (ad 62)) C in_MT hP 48 mw_48 rfl 19 (by decide) k_7_133 rfl rfl d_MT_reaches_1 ?_
  refine lv_iconst (v := (0:Int32)) hx hb d_MT_reaches_4 (by decide) ?_
  obtain ⟨g1, h⟩ := o_gd_some h
  refine o_iald (f := (MT_left a0)) C hP 62 59 mw_62 rfl g1 d_MT_reaches_5 ?_
  refine lv_if_le (tgt := 11) hx hb d_MT_reaches_6 (by decide) (fun c2 => ?_) (fun c2 => ?_)
  · replace h := o_tt c2 h
    refine lv_iconst (v := (0:Int32)) hx hb d_MT_reaches_11 (by decide) ?_
    refine lv_istore (lv' := [(4, .int (0:Int32)), (0, .ref (ad 48)), (1, .ref (ad 33)), (2, .int x2), (3, .int x3)]) hx hb d_MT_reaches_12 hl (by decide) rfl (fun ls hl => ?_)
    obtain ⟨q1, hq1, h⟩ := o_bd_some h
    refine o_sim2 (AH := fun zz => o_At p l e rm_MT_reaches s m _ below meth c _ m_cls D A 6 14 [] (m_cw ad ca ky ty rt Ni Np No Nx Nf Na Nh Nq Nj a1 a0) [(0, .ref (ad 48)), (1, .ref (ad 33)), (2, .int x2), (3, .int x3), (4, .int zz.1)]) (AX := fun qq => if qq.1 = 1 then o_At p l e rm_MT_reaches s m _ below meth c _ m_cls D A 6 50 [] (m_cw ad ca ky ty rt Ni Np No Nx Nf Na Nh Nq Nj a1 a0) [(0, .ref (ad 48)), (4, .int qq.2.1), (5, .int qq.2.2)] else o_At p l e rm_MT_reaches s m _ below meth c _ m_cls D A 6 76 [] (m_cw ad ca ky ty rt Ni Np No Nx Nf Na Nh Nq Nj a1 a0) []) (fun zz qq h h0 h1 => f_MT_reaches_b14_ba hE hKy C hDD n x2 x3 a0 a1 Ni Np No Nx Nf Na Nh Nq Nj rt zz qq h h0 h1) n _ q1 hq1 ?_ _ _ _ hP hS (lv_sub hl [1, 2, 3, 4, 0] rfl)
    by_cases c10 : q1.1 = 1
    · replace h := o_tt c10 h
      refine o_ip c10 ?_
      intro H locs ls hP hS hl
      refine lv_aload_n hx hb d_MT_reaches_50 rfl (lv_at hl 0 rfl) ?_
      refine o_get (v := .ref (ad 62)) C in_MT hP 48 mw_48 rfl 19 (by decide) k_7_133 rfl rfl d_MT_reaches_51 ?_
      refine lv_iload hx hb d_MT_reaches_54 (lv_at hl 1 rfl) ?_
      refine lv_iconst (v := (1:Int32)) hx hb d_MT_reaches_56 (by decide) ?_
      refine lv_iadd hx hb d_MT_reaches_57 ?_
      obtain ⟨g8, h⟩ := o_gd_some h
      refine o_iald (f := (MT_left a0)) C hP 62 59 mw_62 rfl g8 d_MT_reaches_58 ?_
      refine lv_iload hx hb d_MT_reaches_59 (lv_at hl 2 rfl) ?_
      refine lv_icmp_le (tgt := 68) hx hb d_MT_reaches_61 (by decide) (fun c9 => ?_) (fun c9 => ?_)
      · replace h := o_tt c9 h
        refine lv_iconst (v := (0:Int32)) hx hb d_MT_reaches_68 (by decide) ?_
        cases h
        exact o_rz (v := (0:Int32)) C o_nar0 hP hS d_MT_reaches_69
      · replace h := o_ff c9 h
        refine lv_iconst (v := (1:Int32)) hx hb d_MT_reaches_64 (by decide) ?_
        refine lv_goto (tgt := 69) hx hb d_MT_reaches_65 (by decide) ?_
        cases h
        exact o_rz (v := (1:Int32)) C o_nar1 hP hS d_MT_reaches_69
    replace h := o_ff c10 h
    refine o_in_ c10 ?_
    intro H locs ls hP hS hl
    refine lv_iconst (v := (1:Int32)) hx hb d_MT_reaches_76 (by decide) ?_
    cases h
    exact o_rz (v := (1:Int32)) C o_nar1 hP hS d_MT_reaches_77
  · replace h := o_ff c2 h
    refine lv_iconst (v := (1:Int32)) hx hb d_MT_reaches_9 (by decide) ?_
    cases h
    exact o_rz (v := (1:Int32)) C o_nar1 hP hS d_MT_reaches_10
set_option maxHeartbeats 4000000 in
set_option maxRecDepth 100000 in
theorem f_MT_isMultiple_b44_ba {E : (Nat → Prop) → State → Heap → Prop} {p : Program} {l : Launch} {e : Env} {s : State} {m : MethodId} {args : Array Value} {below : List Frame} {meth : Method} {c : Code} {D : va_G} {ad kd sd vd xd : Nat → Nat} {ca : Nat → ClassId} {A : Nat → Prop} {ky ty : Nat → Option Nat} {Q : State → Prop} (hE : o_EK E kd sd vd xd) (hKy : m_KY ky ty sd) (C : o_Cx E p s m args meth c D m_cls (m_tys ca) "SchemaJudgeModel$Text" b_MT_isMultiple (some .boolean) 10 cc_MT_isMultiple A) (hDD : ∀ (rt : Nat) (Ni : SNI) (Np : SNP) (No : SNO) (Nx : SNX) (Nf : SNF) (Na : SNA) (Nh : SNH) (Nq : SNQ) (Nj : SNJ) (M0 : SMT) (M1 : SMT), va_D A (m_cw ad ca ky ty rt Ni Np No Nx Nf Na Nh Nq Nj M0 M1)) (n : Nat) (u44_x1 : Int32) (u44_x3 : Int32) (u44_x4 : Int32) (u44_x5 : Int32) (u44_a2 : SMT) (u44_Ni : SNI) (u44_Np : SNP) (u44_No : SNO) (u44_Nx : SNX) (u44_Nf : SNF) (u44_Na : SNA) (u44_Nh : SNH) (u44_Nq : SNQ) (u44_Nj : SNJ) (u44_rt : Nat) (z : Int32 × SMT) (q : Nat × Int32 × SMT) (h : m_MT_isMultiple_b44 n u44_x1 u44_x3 u44_x4 u44_x5 u44_a2 z = some q) (h0 : q.1 = 0 → o_At p l e rm_MT_isMultiple s m args below meth c Q m_cls D A 10 44 [] (m_cw ad ca ky ty u44_rt u44_Ni u44_Np u44_No u44_Nx u44_Nf u44_Na u44_Nh u44_Nq u44_Nj u44_a2 q.2.2) [(0, .ref (ad 48)), (1, .int u44_x1), (2, .ref (ad 33)), (3, .int u44_x3), (4, .int u44_x4), (5, .int u44_x5), (6, .int q.2.1)]) (h1 : q.1 ≠ 0 → (o_At p l e rm_MT_isMultiple s m args below meth c Q m_cls D A 10 65 [] (m_cw ad ca ky ty u44_rt u44_Ni u44_Np u44_No u44_Nx u44_Nf u44_Na u44_Nh u44_Nq u44_Nj u44_a2 q.2.2) [(0, .ref (ad 48)), (1, .int u44_x1), (2, .ref (ad 33)), (3, .int u44_x3), (4, .int u44_x4), (5, .int u44_x5)])) : o_At p l e rm_MT_isMultiple s m args below meth c Q m_cls D A 10 44 [] (m_cw ad ca ky ty u44_rt u44_Ni u44_Np u44_No u44_Nx u44_Nf u44_Na u44_Nh u44_Nq u44_Nj u44_a2 z.2) [(0, .ref (ad 48)), (1, .int u44_x1), (2, .ref (ad 33)), (3, .int u44_x3), (4, .int u44_x4), (5, .int u44_x5), (6, .int z.1)] := by
  unfold m_MT_isMultiple_b44 at h
  intro H locs ls hP hS hl
  have C0 := C
  obtain ⟨hx, hb, -, -, -, hown, hts, hK, -, -⟩ := C0
  refine lv_iload hx hb d_MT_isMultiple_44 (lv_at hl 6 rfl) ?_
  refine lv_iload hx hb d_MT_isMultiple_46 (lv_at hl 5 rfl) ?_
  refine lv_icmp_gt (tgt := 65) hx hb d_MT_isMultiple_48 (by decide) (fun c7 => ?_) (fun c7 => ?_)
  · replace h := o_tt c7 h
    cases h
    exact h1 (Nat.succ_ne_zero 0) _ _ _ hP hS (lv_sub hl [0, 1, 2, 3, 4, 5] rfl)
  · replace h := o_ff c7 h
    refine lv_aload_n hx hb d_MT_isMultiple_51 rfl (lv_at hl 0 rfl) ?_
    refine o_get (v := .ref (ad 62)) C in_MT hP 48 mw_48 rfl 19 (by decide) k_7_133 rfl rfl d_MT_isMultiple_52 ?_
    refine lv_iload hx hb d_MT_isMultiple_55 (lv_at hl 6 rfl) ?_
    refine lv_iconst (v := (0:Int32)) hx hb d_MT_isMultiple_57 (by decide) ?_
    obtain ⟨g8, h⟩ := o_gd_some h
    refine o_iast (f := (MT_left z.2)) (w1 := (m_cw ad ca ky ty u44_rt u44_Ni u44_Np u44_No u44_Nx u44_Nf u44_Na u44_Nh u44_Nq u44_Nj u44_a2 (MT_mk (MT_text z.2) (MT_kind z.2) (MT_place z.2) (MT_many z.2) (MT_parent z.2) (MT_power z.2) (MT_first z.2) (MT_next z.2) (MT_name z.2) (MT_from z.2) (MT_characters z.2) (MT_digits z.2) (MT_minus z.2) (MT_values z.2) (MT_letters z.2) (MT_at z.2) (MT_wrong z.2) (MT_used z.2) (MT_written z.2) (upd (MT_left z.2) z.1.toNatClampNeg (0:Int32))))) C hP (hDD _ _ _ _ _ _ _ _ _ _ _ _) hS 62 59 mw_62 rfl g8 rfl d_MT_isMultiple_58 (fun H locs hP hS => ?_)
    obtain ⟨x6_59, ex6_59⟩ : ∃ y : Int32, y = z.1 + (1:Int32) := ⟨_, rfl⟩
    replace h := o_nm_at ex6_59 h
    refine lv_iinc (v := x6_59) (lv' := [(6, .int x6_59), (0, .ref (ad 48)), (1, .int u44_x1), (2, .ref (ad 33)), (3, .int u44_x3), (4, .int u44_x4), (5, .int u44_x5)]) hx hb d_MT_isMultiple_59 hl (k := 6) rfl (by rw [ex6_59]; rfl) (by decide) rfl (fun ls hl => ?_)
    refine lv_goto (tgt := 44) hx hb d_MT_isMultiple_62 (by decide) ?_
    cases h
    exact h0 rfl _ _ _ hP hS (lv_sub hl [1, 2, 3, 4, 5, 6, 0] rfl)
set_option maxHeartbeats 4000000 in
set_option maxRecDepth 100000 in
theorem f_MT_isMultiple_b85_ba {E : (Nat → Prop) → State → Heap → Prop} {p : Program} {l : Launch} {e : Env} {s : State} {m : MethodId} {args : Array Value} {below : List Frame} {meth : Method} {c : Code} {D : va_G} {ad kd sd vd xd : Nat → Nat} {ca : Nat → ClassId} {A : Nat → Prop} {ky ty : Nat → Option Nat} {Q : State → Prop} (hE : o_EK E kd sd vd xd) (hKy : m_KY ky ty sd) (C : o_Cx E p s m args meth c D m_cls (m_tys ca) "SchemaJudgeModel$Text" b_MT_isMultiple (some .boolean) 10 cc_MT_isMultiple A) (hDD : ∀ (rt : Nat) (Ni : SNI) (Np : SNP) (No : SNO) (Nx : SNX) (Nf : SNF) (Na : SNA) (Nh : SNH) (Nq : SNQ) (Nj : SNJ) (M0 : SMT) (M1 : SMT), va_D A (m_cw ad ca ky ty rt Ni Np No Nx Nf Na Nh Nq Nj M0 M1)) (n : Nat) (u85_x1 : Int32) (u85_x3 : Int32) (u85_x4 : Int32) (u85_x5 : Int32) (u85_x6 : Int32) (u85_a2 : SMT) (u85_Ni : SNI) (u85_Np : SNP) (u85_No : SNO) (u85_Nx : SNX) (u85_Nf : SNF) (u85_Na : SNA) (u85_Nh : SNH) (u85_Nq : SNQ) (u85_Nj : SNJ) (u85_rt : Nat) (z : Int32 × SMT) (q : Nat × Int32 × SMT) (h : m_MT_isMultiple_b85 n u85_x1 u85_x3 u85_x4 u85_x5 u85_x6 u85_a2 z = some q) (h0 : q.1 = 0 → o_At p l e rm_MT_isMultiple s m args below meth c Q m_cls D A 10 85 [] (m_cw ad ca ky ty u85_rt u85_Ni u85_Np u85_No u85_Nx u85_Nf u85_Na u85_Nh u85_Nq u85_Nj u85_a2 q.2.2) [(0, .ref (ad 48)), (1, .int u85_x1), (2, .ref (ad 33)), (3, .int u85_x3), (4, .int u85_x4), (5, .int u85_x5), (6, .int u85_x6), (7, .int q.2.1)]) (h1 : q.1 ≠ 0 → (o_At p l e rm_MT_isMultiple s m args below meth c Q m_cls D A 10 114 [] (m_cw ad ca ky ty u85_rt u85_Ni u85_Np u85_No u85_Nx u85_Nf u85_Na u85_Nh u85_Nq u85_Nj u85_a2 q.2.2) [(0, .ref (ad 48)), (1, .int u85_x1), (2, .ref (ad 33)), (3, .int u85_x3), (4, .int u85_x4), (5, .int u85_x5), (6, .int u85_x6)])) : o_At p l e rm_MT_isMultiple s m args below meth c Q m_cls D A 10 85 [] (m_cw ad ca ky ty u85_rt u85_Ni u85_Np u85_No u85_Nx u85_Nf u85_Na u85_Nh u85_Nq u85_Nj u85_a2 z.2) [(0, .ref (ad 48)), (1, .int u85_x1), (2, .ref (ad 33)), (3, .int u85_x3), (4, .int u85_x4), (5, .int u85_x5), (6, .int u85_x6), (7, .int z.1)] := by
  unfold m_MT_isMultiple_b85 at h
  intro H locs ls hP hS hl
  have C0 := C
  obtain ⟨hx, hb, -, -, -, hown, hts, hK, -, -⟩ := C0
  refine lv_iload hx hb d_MT_isMultiple_85 (lv_at hl 7 rfl) ?_
  refine lv_iload hx hb d_MT_isMultiple_87 (lv_at hl 5 rfl) ?_
  refine lv_icmp_ge (tgt := 114) hx hb d_MT_isMultiple_89 (by decide) (fun c11 => ?_) (fun c11 => ?_)
  · replace h := o_tt c11 h
    cases h
    exact h1 (Nat.succ_ne_zero 0) _ _ _ hP hS (lv_sub hl [0, 1, 2, 3, 4, 5, 6] rfl)
  · replace h := o_ff c11 h
    refine lv_aload_n hx hb d_MT_isMultiple_92 rfl (lv_at hl 0 rfl) ?_
    refine o_get (v := .ref (ad 62)) C in_MT hP 48 mw_48 rfl 19 (by decide) k_7_133 rfl rfl d_MT_isMultiple_93 ?_
    refine lv_iload hx hb d_MT_isMultiple_96 (lv_at hl 7 rfl) ?_
    refine lv_aload_n hx hb d_MT_isMultiple_98 rfl (lv_at hl 0 rfl) ?_
    refine o_get (v := .ref (ad 62)) C in_MT hP 48 mw_48 rfl 19 (by decide) k_7_133 rfl rfl d_MT_isMultiple_99 ?_
    refine lv_iload hx hb d_MT_isMultiple_102 (lv_at hl 7 rfl) ?_
    refine lv_iconst (v := (1:Int32)) hx hb d_MT_isMultiple_104 (by decide) ?_
    refine lv_iadd hx hb d_MT_isMultiple_105 ?_
    obtain ⟨g12, h⟩ := o_gd_some h
    refine o_iald (f := (MT_left z.2)) C hP 62 59 mw_62 rfl g12 d_MT_isMultiple_106 ?_
    obtain ⟨g13, h⟩ := o_gd_some h
    refine o_iast (f := (MT_left z.2)) (w1 := (m_cw ad ca ky ty u85_rt u85_Ni u85_Np u85_No u85_Nx u85_Nf u85_Na u85_Nh u85_Nq u85_Nj u85_a2 (MT_mk (MT_text z.2) (MT_kind z.2) (MT_place z.2) (MT_many z.2) (MT_parent z.2) (MT_power z.2) (MT_first z.2) (MT_next z.2) (MT_name z.2) (MT_from z.2) (MT_characters z.2) (MT_digits z.2) (MT_minus z.2) (MT_values z.2) (MT_letters z.2) (MT_at z.2) (MT_wrong z.2) (MT_used z.2) (MT_written z.2) (upd (MT_left z.2) z.1.toNatClampNeg ((MT_left z.2) (z.1 + (1:Int32)).toNatClampNeg))))) C hP (hDD _ _ _ _ _ _ _ _ _ _ _ _) hS 62 59 mw_62 rfl g13 rfl d_MT_isMultiple_107 (fun H locs hP hS => ?_)
    obtain ⟨x7_108, ex7_108⟩ : ∃ y : Int32, y = z.1 + (1:Int32) := ⟨_, rfl⟩
    replace h := o_nm_at ex7_108 h
    refine lv_iinc (v := x7_108) (lv' := [(7, .int x7_108), (0, .ref (ad 48)), (1, .int u85_x1), (2, .ref (ad 33)), (3, .int u85_x3), (4, .int u85_x4), (5, .int u85_x5), (6, .int u85_x6)]) hx hb d_MT_isMultiple_108 hl (k := 7) rfl (by rw [ex7_108]; rfl) (by decide) rfl (fun ls hl => ?_)
    refine lv_goto (tgt := 85) hx hb d_MT_isMultiple_111 (by decide) ?_
    cases h
    exact h0 rfl _ _ _ hP hS (lv_sub hl [1, 2, 3, 4, 5, 6, 7, 0] rfl)
set_option maxHeartbeats 4000000 in
set_option maxRecDepth 100000 in
theorem f_MT_isMultiple_j221_ba {E : (Nat → Prop) → State → Heap → Prop} {p : Program} {l : Launch} {e : Env} {s : State} {m : MethodId} {args : Array Value} {below : List Frame} {meth : Method} {c : Code} {D : va_G} {ad kd sd vd xd : Nat → Nat} {ca : Nat → ClassId} {A : Nat → Prop} {ky ty : Nat → Option Nat} {Q : State → Prop} (hE : o_EK E kd sd vd xd) (hKy : m_KY ky ty sd) (C : o_Cx E p s m args meth c D m_cls (m_tys ca) "SchemaJudgeModel$Text" b_MT_isMultiple (some .boolean) 10 cc_MT_isMultiple A) (hDD : ∀ (rt : Nat) (Ni : SNI) (Np : SNP) (No : SNO) (Nx : SNX) (Nf : SNF) (Na : SNA) (Nh : SNH) (Nq : SNQ) (Nj : SNJ) (M0 : SMT) (M1 : SMT), va_D A (m_cw ad ca ky ty rt Ni Np No Nx Nf Na Nh Nq Nj M0 M1)) (n : Nat) (u168_x1 : Int32) (u168_x3 : Int32) (u168_x4 : Int32) (u168_x5 : Int32) (u168_x6 : Int32) (u168_a2 : SMT) (u168_Ni : SNI) (u168_Np : SNP) (u168_No : SNO) (u168_Nx : SNX) (u168_Nf : SNF) (u168_Na : SNA) (u168_Nh : SNH) (u168_Nq : SNQ) (u168_Nj : SNJ) (u168_rt : Nat) (x8 : Int32) (x9 : Int32) (y0 : Int32) (a0 : SMT) {q : Nat × Int32 × Int32 × SMT} (h : m_MT_isMultiple_j221 n u168_x1 u168_x3 u168_x4 u168_x5 u168_x6 x8 x9 y0 a0 u168_a2 = some q) (h0 : q.1 = 0 → o_At p l e rm_MT_isMultiple s m args below meth c Q m_cls D A 10 168 [] (m_cw ad ca ky ty u168_rt u168_Ni u168_Np u168_No u168_Nx u168_Nf u168_Na u168_Nh u168_Nq u168_Nj u168_a2 q.2.2.2) [(0, .ref (ad 48)), (1, .int u168_x1), (2, .ref (ad 33)), (3, .int u168_x3), (4, .int u168_x4), (5, .int u168_x5), (6, .int u168_x6), (7, .int q.2.1), (8, .int q.2.2.1)]) (h1 : q.1 ≠ 0 → (o_At p l e rm_MT_isMultiple s m args below meth c Q m_cls D A 10 244 [] (m_cw ad ca ky ty u168_rt u168_Ni u168_Np u168_No u168_Nx u168_Nf u168_Na u168_Nh u168_Nq u168_Nj u168_a2 q.2.2.2) [(0, .ref (ad 48)), (1, .int u168_x1), (2, .ref (ad 33)), (3, .int u168_x3), (4, .int u168_x4), (5, .int u168_x5), (6, .int u168_x6)])) : o_At p l e rm_MT_isMultiple s m args below meth c Q m_cls D A 10 221 [.int y0] (m_cw ad ca ky ty u168_rt u168_Ni u168_Np u168_No u168_Nx u168_Nf u168_Na u168_Nh u168_Nq u168_Nj u168_a2 a0) [(0, .ref (ad 48)), (1, .int u168_x1), (2, .ref (ad 33)), (3, .int u168_x3), (4, .int u168_x4), (5, .int u168_x5), (6, .int u168_x6), (8, .int x8), (9, .int x9)] := by
  unfold m_MT_isMultiple_j221 at h
  intro H locs ls hP hS hl
  have C0 := C
  obtain ⟨hx, hb, -, -, -, hown, hts, hK, -, -⟩ := C0
  refine lv_istore (lv' := [(7, .int y0), (0, .ref (ad 48)), (1, .int u168_x1), (2, .ref (ad 33)), (3, .int u168_x3), (4, .int u168_x4), (5, .int u168_x5), (6, .int u168_x6), (8, .int x8), (9, .int x9)]) hx hb d_MT_isMultiple_221 hl (by decide) rfl (fun ls hl => ?_)
  refine lv_aload_n hx hb d_MT_isMultiple_223 rfl (lv_at hl 1 rfl) ?_
  refine o_get (v := .ref (ad 62)) C in_MT hP 48 mw_48 rfl 19 (by decide) k_7_133 rfl rfl d_MT_isMultiple_224 ?_
  refine lv_iload hx hb d_MT_isMultiple_227 (lv_at hl 8 rfl) ?_
  refine lv_iload hx hb d_MT_isMultiple_229 (lv_at hl 9 rfl) ?_
  refine lv_bipush (v := (10:Int32)) hx hb d_MT_isMultiple_231 (by decide) ?_
  refine lv_iload hx hb d_MT_isMultiple_233 (lv_at hl 0 rfl) ?_
  refine lv_imul hx hb d_MT_isMultiple_235 ?_
  refine lv_iadd hx hb d_MT_isMultiple_236 ?_
  obtain ⟨g22, h⟩ := o_gd_some h
  refine o_iast (f := (MT_left a0)) (w1 := (m_cw ad ca ky ty u168_rt u168_Ni u168_Np u168_No u168_Nx u168_Nf u168_Na u168_Nh u168_Nq u168_Nj u168_a2 (MT_mk (MT_text a0) (MT_kind a0) (MT_place a0) (MT_many a0) (MT_parent a0) (MT_power a0) (MT_first a0) (MT_next a0) (MT_name a0) (MT_from a0) (MT_characters a0) (MT_digits a0) (MT_minus a0) (MT_values a0) (MT_letters a0) (MT_at a0) (MT_wrong a0) (MT_used a0) (MT_written a0) (upd (MT_left a0) x8.toNatClampNeg (x9 + ((10:Int32) * y0)))))) C hP (hDD _ _ _ _ _ _ _ _ _ _ _ _) hS 62 59 mw_62 rfl g22 rfl d_MT_isMultiple_237 (fun H locs hP hS => ?_)
  obtain ⟨x8_238, ex8_238⟩ : ∃ y : Int32, y = x8 + (-1:Int32) := ⟨_, rfl⟩
  replace h := o_nm_at ex8_238 h
  refine lv_iinc (v := x8_238) (lv' := [(8, .int x8_238), (7, .int y0), (0, .ref (ad 48)), (1, .int u168_x1), (2, .ref (ad 33)), (3, .int u168_x3), (4, .int u168_x4), (5, .int u168_x5), (6, .int u168_x6), (9, .int x9)]) hx hb d_MT_isMultiple_238 hl (k := 8) rfl (by rw [ex8_238]; rfl) (by decide) rfl (fun ls hl => ?_)
  refine lv_goto (tgt := 168) hx hb d_MT_isMultiple_241 (by decide) ?_
  cases h
  exact h0 rfl _ _ _ hP hS (lv_sub hl [2, 3, 4, 5, 6, 7, 8, 1, 0] rfl)
set_option maxHeartbeats 4000000 in
set_option maxRecDepth 100000 in
theorem f_MT_isMultiple_j205_ba {E : (Nat → Prop) → State → Heap → Prop} {p : Program} {l : Launch} {e : Env} {s : State} {m : MethodId} {args : Array Value} {below : List Frame} {meth : Method} {c : Code} {D : va_G} {ad kd sd vd xd : Nat → Nat} {ca : Nat → ClassId} {A : Nat → Prop} {ky ty : Nat → Option Nat} {Q : State → Prop} (hE : o_EK E kd sd vd xd) (hKy : m_KY ky ty sd) (C : o_Cx E p s m args meth c D m_cls (m_tys ca) "SchemaJudgeModel$Text" b_MT_isMultiple (some .boolean) 10 cc_MT_isMultiple A) (hDD : ∀ (rt : Nat) (Ni : SNI) (Np : SNP) (No : SNO) (Nx : SNX) (Nf : SNF) (Na : SNA) (Nh : SNH) (Nq : SNQ) (Nj : SNJ) (M0 : SMT) (M1 : SMT), va_D A (m_cw ad ca ky ty rt Ni Np No Nx Nf Na Nh Nq Nj M0 M1)) (n : Nat) (u168_x1 : Int32) (u168_x3 : Int32) (u168_x4 : Int32) (u168_x5 : Int32) (u168_x6 : Int32) (u168_a2 : SMT) (u168_Ni : SNI) (u168_Np : SNP) (u168_No : SNO) (u168_Nx : SNX) (u168_Nf : SNF) (u168_Na : SNA) (u168_Nh : SNH) (u168_Nq : SNQ) (u168_Nj : SNJ) (u168_rt : Nat) (x7 : Int32) (x8 : Int32) (y0 : Int32) (y1 : Int32) (a0 : SMT) {q : Nat × Int32 × Int32 × SMT} (h : m_MT_isMultiple_j205 n u168_x1 u168_x3 u168_x4 u168_x5 u168_x6 x7 x8 y0 y1 a0 u168_a2 = some q) (h0 : q.1 = 0 → o_At p l e rm_MT_isMultiple s m args below meth c Q m_cls D A 10 168 [] (m_cw ad ca ky ty u168_rt u168_Ni u168_Np u168_No u168_Nx u168_Nf u168_Na u168_Nh u168_Nq u168_Nj u168_a2 q.2.2.2) [(0, .ref (ad 48)), (1, .int u168_x1), (2, .ref (ad 33)), (3, .int u168_x3), (4, .int u168_x4), (5, .int u168_x5), (6, .int u168_x6), (7, .int q.2.1), (8, .int q.2.2.1)]) (h1 : q.1 ≠ 0 → (o_At p l e rm_MT_isMultiple s m args below meth c Q m_cls D A 10 244 [] (m_cw ad ca ky ty u168_rt u168_Ni u168_Np u168_No u168_Nx u168_Nf u168_Na u168_Nh u168_Nq u168_Nj u168_a2 q.2.2.2) [(0, .ref (ad 48)), (1, .int u168_x1), (2, .ref (ad 33)), (3, .int u168_x3), (4, .int u168_x4), (5, .int u168_x5), (6, .int u168_x6)])) : o_At p l e rm_MT_isMultiple s m args below meth c Q m_cls D A 10 205 [.int y1, .int y0] (m_cw ad ca ky ty u168_rt u168_Ni u168_Np u168_No u168_Nx u168_Nf u168_Na u168_Nh u168_Nq u168_Nj u168_a2 a0) [(0, .ref (ad 48)), (1, .int u168_x1), (2, .ref (ad 33)), (3, .int u168_x3), (4, .int u168_x4), (5, .int u168_x5), (6, .int u168_x6), (7, .int x7), (8, .int x8)] := by
  unfold m_MT_isMultiple_j205 at h
  intro H locs ls hP hS hl
  have C0 := C
  obtain ⟨hx, hb, -, -, -, hown, hts, hK, -, -⟩ := C0
  refine lv_isub hx hb d_MT_isMultiple_205 ?_
  refine lv_iload hx hb d_MT_isMultiple_206 (lv_at hl 7 rfl) ?_
  refine lv_isub hx hb d_MT_isMultiple_208 ?_
  refine lv_topi (fun x9_209 ex9_209 => ?_)
  replace h := o_nm_at ex9_209 h
  refine lv_istore (lv' := [(9, .int x9_209), (0, .ref (ad 48)), (1, .int u168_x1), (2, .ref (ad 33)), (3, .int u168_x3), (4, .int u168_x4), (5, .int u168_x5), (6, .int u168_x6), (7, .int x7), (8, .int x8)]) hx hb d_MT_isMultiple_209 hl (by decide) rfl (fun ls hl => ?_)
  refine lv_iload hx hb d_MT_isMultiple_211 (lv_at hl 0 rfl) ?_
  refine lv_if_ge (tgt := 220) hx hb d_MT_isMultiple_213 (by decide) (fun c21 => ?_) (fun c21 => ?_)
  · replace h := o_tt c21 h
    refine lv_iconst (v := (0:Int32)) hx hb d_MT_isMultiple_220 (by decide) ?_
    exact f_MT_isMultiple_j221_ba hE hKy C hDD n u168_x1 u168_x3 u168_x4 u168_x5 u168_x6 u168_a2 u168_Ni u168_Np u168_No u168_Nx u168_Nf u168_Na u168_Nh u168_Nq u168_Nj u168_rt x8 x9_209 (0:Int32) a0 h h0 h1 _ _ _ hP hS (lv_sub hl [1, 2, 3, 4, 5, 6, 7, 9, 0] rfl)
  · replace h := o_ff c21 h
    refine lv_iconst (v := (1:Int32)) hx hb d_MT_isMultiple_216 (by decide) ?_
    refine lv_goto (tgt := 221) hx hb d_MT_isMultiple_217 (by decide) ?_
    exact f_MT_isMultiple_j221_ba hE hKy C hDD n u168_x1 u168_x3 u168_x4 u168_x5 u168_x6 u168_a2 u168_Ni u168_Np u168_No u168_Nx u168_Nf u168_Na u168_Nh u168_Nq u168_Nj u168_rt x8 x9_209 (1:Int32) a0 h h0 h1 _ _ _ hP hS (lv_sub hl [1, 2, 3, 4, 5, 6, 7, 9, 0] rfl)
set_option maxHeartbeats 4000000 in
set_option maxRecDepth 100000 in
theorem f_MT_isMultiple_b168_ba {E : (Nat → Prop) → State → Heap → Prop} {p : Program} {l : Launch} {e : Env} {s : State} {m : MethodId} {args : Array Value} {below : List Frame} {meth : Method} {c : Code} {D : va_G} {ad kd sd vd xd : Nat → Nat} {ca : Nat → ClassId} {A : Nat → Prop} {ky ty : Nat → Option Nat} {Q : State → Prop} (hE : o_EK E kd sd vd xd) (hKy : m_KY ky ty sd) (C : o_Cx E p s m args meth c D m_cls (m_tys ca) "SchemaJudgeModel$Text" b_MT_isMultiple (some .boolean) 10 cc_MT_isMultiple A) (hDD : ∀ (rt : Nat) (Ni : SNI) (Np : SNP) (No : SNO) (Nx : SNX) (Nf : SNF) (Na : SNA) (Nh : SNH) (Nq : SNQ) (Nj : SNJ) (M0 : SMT) (M1 : SMT), va_D A (m_cw ad ca ky ty rt Ni Np No Nx Nf Na Nh Nq Nj M0 M1)) (n : Nat) (u168_x1 : Int32) (u168_x3 : Int32) (u168_x4 : Int32) (u168_x5 : Int32) (u168_x6 : Int32) (u168_a2 : SMT) (u168_Ni : SNI) (u168_Np : SNP) (u168_No : SNO) (u168_Nx : SNX) (u168_Nf : SNF) (u168_Na : SNA) (u168_Nh : SNH) (u168_Nq : SNQ) (u168_Nj : SNJ) (u168_rt : Nat) (z : Int32 × Int32 × SMT) (q : Nat × Int32 × Int32 × SMT) (h : m_MT_isMultiple_b168 n u168_x1 u168_x3 u168_x4 u168_x5 u168_x6 u168_a2 z = some q) (h0 : q.1 = 0 → o_At p l e rm_MT_isMultiple s m args below meth c Q m_cls D A 10 168 [] (m_cw ad ca ky ty u168_rt u168_Ni u168_Np u168_No u168_Nx u168_Nf u168_Na u168_Nh u168_Nq u168_Nj u168_a2 q.2.2.2) [(0, .ref (ad 48)), (1, .int u168_x1), (2, .ref (ad 33)), (3, .int u168_x3), (4, .int u168_x4), (5, .int u168_x5), (6, .int u168_x6), (7, .int q.2.1), (8, .int q.2.2.1)]) (h1 : q.1 ≠ 0 → (o_At p l e rm_MT_isMultiple s m args below meth c Q m_cls D A 10 244 [] (m_cw ad ca ky ty u168_rt u168_Ni u168_Np u168_No u168_Nx u168_Nf u168_Na u168_Nh u168_Nq u168_Nj u168_a2 q.2.2.2) [(0, .ref (ad 48)), (1, .int u168_x1), (2, .ref (ad 33)), (3, .int u168_x3), (4, .int u168_x4), (5, .int u168_x5), (6, .int u168_x6)])) : o_At p l e rm_MT_isMultiple s m args below meth c Q m_cls D A 10 168 [] (m_cw ad ca ky ty u168_rt u168_Ni u168_Np u168_No u168_Nx u168_Nf u168_Na u168_Nh u168_Nq u168_Nj u168_a2 z.2.2) [(0, .ref (ad 48)), (1, .int u168_x1), (2, .ref (ad 33)), (3, .int u168_x3), (4, .int u168_x4), (5, .int u168_x5), (6, .int u168_x6), (7, .int z.1), (8, .int z.2.1)] := by
  unfold m_MT_isMultiple_b168 at h
  intro H locs ls hP hS hl
  have C0 := C
  obtain ⟨hx, hb, -, -, -, hown, hts, hK, -, -⟩ := C0
  refine lv_iload hx hb d_MT_isMultiple_168 (lv_at hl 8 rfl) ?_
  refine lv_if_lt (tgt := 244) hx hb d_MT_isMultiple_170 (by decide) (fun c18 => ?_) (fun c18 => ?_)
  · replace h := o_tt c18 h
    cases h
    exact h1 (Nat.succ_ne_zero 0) _ _ _ hP hS (lv_sub hl [0, 1, 2, 3, 4, 5, 6] rfl)
  · replace h := o_ff c18 h
    refine lv_aload_n hx hb d_MT_isMultiple_173 rfl (lv_at hl 0 rfl) ?_
    refine o_get (v := .ref (ad 62)) C in_MT hP 48 mw_48 rfl 19 (by decide) k_7_133 rfl rfl d_MT_isMultiple_174 ?_
    refine lv_iload hx hb d_MT_isMultiple_177 (lv_at hl 8 rfl) ?_
    obtain ⟨g19, h⟩ := o_gd_some h
    refine o_iald (f := (MT_left z.2.2)) C hP 62 59 mw_62 rfl g19 d_MT_isMultiple_179 ?_
    refine lv_iload hx hb d_MT_isMultiple_180 (lv_at hl 8 rfl) ?_
    refine lv_if_le (tgt := 204) hx hb d_MT_isMultiple_182 (by decide) (fun c20 => ?_) (fun c20 => ?_)
    · replace h := o_tt c20 h
      refine lv_iconst (v := (0:Int32)) hx hb d_MT_isMultiple_204 (by decide) ?_
      exact f_MT_isMultiple_j205_ba hE hKy C hDD n u168_x1 u168_x3 u168_x4 u168_x5 u168_x6 u168_a2 u168_Ni u168_Np u168_No u168_Nx u168_Nf u168_Na u168_Nh u168_Nq u168_Nj u168_rt z.1 z.2.1 ((MT_left z.2.2) z.2.1.toNatClampNeg) (0:Int32) z.2.2 h h0 h1 _ _ _ hP hS (lv_sub hl [0, 1, 2, 3, 4, 5, 6, 7, 8] rfl)
    · replace h := o_ff c20 h
      refine lv_aload_n hx hb d_MT_isMultiple_185 rfl (lv_at hl 2 rfl) ?_
      refine o_get (v := .ref (ad 45)) C in_MT hP 33 mw_33 rfl 11 (by decide) k_7_122 rfl rfl d_MT_isMultiple_186 ?_
      refine lv_aload_n hx hb d_MT_isMultiple_189 rfl (lv_at hl 2 rfl) ?_
      refine o_get (v := .ref (ad 43)) C in_MT hP 33 mw_33 rfl 9 (by decide) k_7_118 rfl rfl d_MT_isMultiple_190 ?_
      refine lv_iload_n hx hb d_MT_isMultiple_193 rfl (lv_at hl 3 rfl) ?_
      obtain ⟨g23, h⟩ := o_gd_some h
      refine o_iald (f := (MT_from u168_a2)) C hP 43 41 mw_43 rfl g23 d_MT_isMultiple_194 ?_
      refine lv_iload hx hb d_MT_isMultiple_195 (lv_at hl 8 rfl) ?_
      refine lv_iadd hx hb d_MT_isMultiple_197 ?_
      refine lv_iconst (v := (1:Int32)) hx hb d_MT_isMultiple_198 (by decide) ?_
      refine lv_isub hx hb d_MT_isMultiple_199 ?_
      obtain ⟨g24, h⟩ := o_gd_some h
      refine o_iald (f := (MT_digits u168_a2)) C hP 45 43 mw_45 rfl g24 d_MT_isMultiple_200 ?_
      refine lv_goto (tgt := 205) hx hb d_MT_isMultiple_201 (by decide) ?_
      exact f_MT_isMultiple_j205_ba hE hKy C hDD n u168_x1 u168_x3 u168_x4 u168_x5 u168_x6 u168_a2 u168_Ni u168_Np u168_No u168_Nx u168_Nf u168_Na u168_Nh u168_Nq u168_Nj u168_rt z.1 z.2.1 ((MT_left z.2.2) z.2.1.toNatClampNeg) ((MT_digits u168_a2) ((((MT_from u168_a2) u168_x3.toNatClampNeg) + z.2.1) - (1:Int32)).toNatClampNeg) z.2.2 h h0 h1 _ _ _ hP hS (lv_sub hl [0, 1, 2, 3, 4, 5, 6, 7, 8] rfl)
set_option maxHeartbeats 4000000 in
set_option maxRecDepth 100000 in
theorem f_MT_isMultiple_b150_ba {E : (Nat → Prop) → State → Heap → Prop} {p : Program} {l : Launch} {e : Env} {s : State} {m : MethodId} {args : Array Value} {below : List Frame} {meth : Method} {c : Code} {D : va_G} {ad kd sd vd xd : Nat → Nat} {ca : Nat → ClassId} {A : Nat → Prop} {ky ty : Nat → Option Nat} {Q : State → Prop} (hE : o_EK E kd sd vd xd) (hKy : m_KY ky ty sd) (C : o_Cx E p s m args meth c D m_cls (m_tys ca) "SchemaJudgeModel$Text" b_MT_isMultiple (some .boolean) 10 cc_MT_isMultiple A) (hDD : ∀ (rt : Nat) (Ni : SNI) (Np : SNP) (No : SNO) (Nx : SNX) (Nf : SNF) (Na : SNA) (Nh : SNH) (Nq : SNQ) (Nj : SNJ) (M0 : SMT) (M1 : SMT), va_D A (m_cw ad ca ky ty rt Ni Np No Nx Nf Na Nh Nq Nj M0 M1)) (n : Nat) (u150_x1 : Int32) (u150_x3 : Int32) (u150_x4 : Int32) (u150_x5 : Int32) (u150_x6 : Int32) (u150_a2 : SMT) (u150_Ni : SNI) (u150_Np : SNP) (u150_No : SNO) (u150_Nx : SNX) (u150_Nf : SNF) (u150_Na : SNA) (u150_Nh : SNH) (u150_Nq : SNQ) (u150_Nj : SNJ) (u150_rt : Nat) (z : SMT) (q : Nat × SMT) (h : m_MT_isMultiple_b150 n u150_x1 u150_x3 u150_x4 u150_x5 u150_x6 u150_a2 z = some q) (h0 : q.1 = 0 → o_At p l e rm_MT_isMultiple s m args below meth c Q m_cls D A 10 150 [] (m_cw ad ca ky ty u150_rt u150_Ni u150_Np u150_No u150_Nx u150_Nf u150_Na u150_Nh u150_Nq u150_Nj u150_a2 q.2) [(0, .ref (ad 48)), (1, .int u150_x1), (2, .ref (ad 33)), (3, .int u150_x3), (4, .int u150_x4), (5, .int u150_x5), (6, .int u150_x6)]) (h1 : q.1 ≠ 0 → (o_At p l e rm_MT_isMultiple s m args below meth c Q m_cls D A 10 247 [] (m_cw ad ca ky ty u150_rt u150_Ni u150_Np u150_No u150_Nx u150_Nf u150_Na u150_Nh u150_Nq u150_Nj u150_a2 q.2) [(0, .ref (ad 48)), (1, .int u150_x1), (2, .ref (ad 33)), (3, .int u150_x3), (4, .int u150_x4), (5, .int u150_x5), (6, .int u150_x6)])) : o_At p l e rm_MT_isMultiple s m args below meth c Q m_cls D A 10 150 [] (m_cw ad ca ky ty u150_rt u150_Ni u150_Np u150_No u150_Nx u150_Nf u150_Na u150_Nh u150_Nq u150_Nj u150_a2 z) [(0, .ref (ad 48)), (1, .int u150_x1), (2, .ref (ad 33)), (3, .int u150_x3), (4, .int u150_x4), (5, .int u150_x5), (6, .int u150_x6)] := by
  unfold m_MT_isMultiple_b150 at h
  intro H locs ls hP hS hl
  have C0 := C
  obtain ⟨hx, hb, -, -, -, hown, hts, hK, -, -⟩ := C0
  refine lv_aload_n hx hb d_MT_isMultiple_150 rfl (lv_at hl 0 rfl) ?_
  refine lv_aload_n hx hb d_MT_isMultiple_151 rfl (lv_at hl 2 rfl) ?_
  refine lv_iload_n hx hb d_MT_isMultiple_152 rfl (lv_at hl 3 rfl) ?_
  refine lv_iload hx hb d_MT_isMultiple_153 (lv_at hl 5 rfl) ?_
  obtain ⟨q3, hq3, h⟩ := o_bd_some h
  refine o_V (st1 := [.int q3]) (w1 := (m_cw ad ca ky ty u150_rt u150_Ni u150_Np u150_No u150_Nx u150_Nf u150_Na u150_Nh u150_Nq u150_Nj u150_a2 z)) hE.1 C (e_MT_reaches_ba hE hKy l n u150_x3 u150_x5 z u150_a2 u150_Ni u150_Np u150_No u150_Nx u150_Nf u150_Na u150_Nh u150_Nq u150_Nj u150_rt hq3) hP (hDD _ _ _ _ _ _ _ _ _ _ _ _) hS hl.1 rfl mw_48 k_10_11 k_10_13 k_s_123 k_1_13 k_10_14 hv_MT_reaches rfl rfl ⟨(Nat.le_of_ble_eq_true rfl), (Nat.le_of_ble_eq_true rfl)⟩ rfl (Nat.le_of_ble_eq_true rfl) ⟨Nat.zero_le _, Nat.zero_le _⟩ rfl d_MT_isMultiple_155 (fun H locs hP hS => ?_)
  refine lv_if_eq (tgt := 247) hx hb d_MT_isMultiple_158 (by decide) (fun c17 => ?_) (fun c17 => ?_)
  · replace h := o_tt c17 h
    cases h
    exact h1 (Nat.succ_ne_zero 0) _ _ _ hP hS (lv_sub hl [0, 1, 2, 3, 4, 5, 6] rfl)
  · replace h := o_ff c17 h
    refine lv_iconst (v := (0:Int32)) hx hb d_MT_isMultiple_161 (by decide) ?_
    refine lv_istore (lv' := [(7, .int (0:Int32)), (0, .ref (ad 48)), (1, .int u150_x1), (2, .ref (ad 33)), (3, .int u150_x3), (4, .int u150_x4), (5, .int u150_x5), (6, .int u150_x6)]) hx hb d_MT_isMultiple_162 hl (by decide) rfl (fun ls hl => ?_)
    refine lv_iload hx hb d_MT_isMultiple_164 (lv_at hl 6 rfl) ?_
    refine lv_istore (lv' := [(8, .int u150_x5), (7, .int (0:Int32)), (0, .ref (ad 48)), (1, .int u150_x1), (2, .ref (ad 33)), (3, .int u150_x3), (4, .int u150_x4), (5, .int u150_x5), (6, .int u150_x6)]) hx hb d_MT_isMultiple_166 hl (by decide) rfl (fun ls hl => ?_)
    obtain ⟨q4, hq4, h⟩ := o_bd_some h
    refine o_sim2 (AH := fun zz => o_At p l e rm_MT_isMultiple s m args below meth c _ m_cls D A 10 168 [] (m_cw ad ca ky ty u150_rt u150_Ni u150_Np u150_No u150_Nx u150_Nf u150_Na u150_Nh u150_Nq u150_Nj u150_a2 zz.2.2) [(0, .ref (ad 48)), (1, .int u150_x1), (2, .ref (ad 33)), (3, .int u150_x3), (4, .int u150_x4), (5, .int u150_x5), (6, .int u150_x6), (7, .int zz.1), (8, .int zz.2.1)]) (AX := fun qq => o_At p l e rm_MT_isMultiple s m args below meth c _ m_cls D A 10 244 [] (m_cw ad ca ky ty u150_rt u150_Ni u150_Np u150_No u150_Nx u150_Nf u150_Na u150_Nh u150_Nq u150_Nj u150_a2 qq.2.2.2) [(0, .ref (ad 48)), (1, .int u150_x1), (2, .ref (ad 33)), (3, .int u150_x3), (4, .int u150_x4), (5, .int u150_x5), (6, .int u150_x6)]) (fun zz qq h h0 h1 => f_MT_isMultiple_b168_ba hE hKy C hDD n u150_x1 u150_x3 u150_x4 u150_x5 u150_x6 u150_a2 u150_Ni u150_Np u150_No u150_Nx u150_Nf u150_Na u150_Nh u150_Nq u150_Nj u150_rt zz qq h h0 h1) n _ q4 hq4 ?_ _ _ _ hP hS (lv_sub hl [2, 3, 4, 5, 6, 7, 8, 1, 0] rfl)
    intro H locs ls hP hS hl
    refine lv_goto (tgt := 150) hx hb d_MT_isMultiple_244 (by decide) ?_
    cases h
    exact h0 rfl _ _ _ hP hS (lv_sub hl [0, 1, 2, 3, 4, 5, 6] rfl)
set_option maxHeartbeats 4000000 in
set_option maxRecDepth 100000 in
theorem f_MT_isMultiple_b68_ba {E : (Nat → Prop) → State → Heap → Prop} {p : Program} {l : Launch} {e : Env} {s : State} {m : MethodId} {args : Array Value} {below : List Frame} {meth : Method} {c : Code} {D : va_G} {ad kd sd vd xd : Nat → Nat} {ca : Nat → ClassId} {A : Nat → Prop} {ky ty : Nat → Option Nat} {Q : State → Prop} (hE : o_EK E kd sd vd xd) (hKy : m_KY ky ty sd) (C : o_Cx E p s m args meth c D m_cls (m_tys ca) "SchemaJudgeModel$Text" b_MT_isMultiple (some .boolean) 10 cc_MT_isMultiple A) (hDD : ∀ (rt : Nat) (Ni : SNI) (Np : SNP) (No : SNO) (Nx : SNX) (Nf : SNF) (Na : SNA) (Nh : SNH) (Nq : SNQ) (Nj : SNJ) (M0 : SMT) (M1 : SMT), va_D A (m_cw ad ca ky ty rt Ni Np No Nx Nf Na Nh Nq Nj M0 M1)) (n : Nat) (u68_x1 : Int32) (u68_x3 : Int32) (u68_x4 : Int32) (u68_x5 : Int32) (u68_a2 : SMT) (u68_Ni : SNI) (u68_Np : SNP) (u68_No : SNO) (u68_Nx : SNX) (u68_Nf : SNF) (u68_Na : SNA) (u68_Nh : SNH) (u68_Nq : SNQ) (u68_Nj : SNJ) (u68_rt : Nat) (z : Int32 × SMT) (q : Nat × Int32 × SMT) (h : m_MT_isMultiple_b68 n u68_x1 u68_x3 u68_x4 u68_x5 u68_a2 z = some q) (h0 : q.1 = 0 → o_At p l e rm_MT_isMultiple s m args below meth c Q m_cls D A 10 68 [] (m_cw ad ca ky ty u68_rt u68_Ni u68_Np u68_No u68_Nx u68_Nf u68_Na u68_Nh u68_Nq u68_Nj u68_a2 q.2.2) [(0, .ref (ad 48)), (1, .int u68_x1), (2, .ref (ad 33)), (3, .int u68_x3), (4, .int u68_x4), (5, .int u68_x5), (6, .int q.2.1)]) (h1 : q.1 ≠ 0 → (o_At p l e rm_MT_isMultiple s m args below meth c Q m_cls D A 10 253 [] (m_cw ad ca ky ty u68_rt u68_Ni u68_Np u68_No u68_Nx u68_Nf u68_Na u68_Nh u68_Nq u68_Nj u68_a2 q.2.2) [(0, .ref (ad 48)), (5, .int u68_x5)])) : o_At p l e rm_MT_isMultiple s m args below meth c Q m_cls D A 10 68 [] (m_cw ad ca ky ty u68_rt u68_Ni u68_Np u68_No u68_Nx u68_Nf u68_Na u68_Nh u68_Nq u68_Nj u68_a2 z.2) [(0, .ref (ad 48)), (1, .int u68_x1), (2, .ref (ad 33)), (3, .int u68_x3), (4, .int u68_x4), (5, .int u68_x5), (6, .int z.1)] := by
  unfold m_MT_isMultiple_b68 at h
  intro H locs ls hP hS hl
  have C0 := C
  obtain ⟨hx, hb, -, -, -, hown, hts, hK, -, -⟩ := C0
  refine lv_iload hx hb d_MT_isMultiple_68 (lv_at hl 6 rfl) ?_
  refine lv_aload_n hx hb d_MT_isMultiple_70 rfl (lv_at hl 0 rfl) ?_
  refine o_get (v := .ref (ad 52)) C in_MT hP 48 mw_48 rfl 3 (by decide) k_7_106 rfl rfl d_MT_isMultiple_71 ?_
  refine lv_iload_n hx hb d_MT_isMultiple_74 rfl (lv_at hl 1 rfl) ?_
  obtain ⟨g9, h⟩ := o_gd_some h
  refine o_iald (f := (MT_many z.2)) C hP 52 49 mw_52 rfl g9 d_MT_isMultiple_75 ?_
  refine lv_iload hx hb d_MT_isMultiple_76 (lv_at hl 4 rfl) ?_
  refine lv_iadd hx hb d_MT_isMultiple_78 ?_
  refine lv_icmp_ge (tgt := 253) hx hb d_MT_isMultiple_79 (by decide) (fun c10 => ?_) (fun c10 => ?_)
  · replace h := o_tt c10 h
    cases h
    exact h1 (Nat.succ_ne_zero 0) _ _ _ hP hS (lv_sub hl [0, 5] rfl)
  · replace h := o_ff c10 h
    refine lv_iconst (v := (0:Int32)) hx hb d_MT_isMultiple_82 (by decide) ?_
    refine lv_istore (lv' := [(7, .int (0:Int32)), (0, .ref (ad 48)), (1, .int u68_x1), (2, .ref (ad 33)), (3, .int u68_x3), (4, .int u68_x4), (5, .int u68_x5), (6, .int z.1)]) hx hb d_MT_isMultiple_83 hl (by decide) rfl (fun ls hl => ?_)
    obtain ⟨q2, hq2, h⟩ := o_bd_some h
    refine o_sim2 (AH := fun zz => o_At p l e rm_MT_isMultiple s m args below meth c _ m_cls D A 10 85 [] (m_cw ad ca ky ty u68_rt u68_Ni u68_Np u68_No u68_Nx u68_Nf u68_Na u68_Nh u68_Nq u68_Nj u68_a2 zz.2) [(0, .ref (ad 48)), (1, .int u68_x1), (2, .ref (ad 33)), (3, .int u68_x3), (4, .int u68_x4), (5, .int u68_x5), (6, .int z.1), (7, .int zz.1)]) (AX := fun qq => o_At p l e rm_MT_isMultiple s m args below meth c _ m_cls D A 10 114 [] (m_cw ad ca ky ty u68_rt u68_Ni u68_Np u68_No u68_Nx u68_Nf u68_Na u68_Nh u68_Nq u68_Nj u68_a2 qq.2.2) [(0, .ref (ad 48)), (1, .int u68_x1), (2, .ref (ad 33)), (3, .int u68_x3), (4, .int u68_x4), (5, .int u68_x5), (6, .int z.1)]) (fun zz qq h h0 h1 => f_MT_isMultiple_b85_ba hE hKy C hDD n u68_x1 u68_x3 u68_x4 u68_x5 z.1 u68_a2 u68_Ni u68_Np u68_No u68_Nx u68_Nf u68_Na u68_Nh u68_Nq u68_Nj u68_rt zz qq h h0 h1) n _ q2 hq2 ?_ _ _ _ hP hS (lv_sub hl [1, 2, 3, 4, 5, 6, 7, 0] rfl)
    intro H locs ls hP hS hl
    refine lv_aload_n hx hb d_MT_isMultiple_114 rfl (lv_at hl 0 rfl) ?_
    refine o_get (v := .ref (ad 62)) C in_MT hP 48 mw_48 rfl 19 (by decide) k_7_133 rfl rfl d_MT_isMultiple_115 ?_
    refine lv_iload hx hb d_MT_isMultiple_118 (lv_at hl 5 rfl) ?_
    refine lv_iload hx hb d_MT_isMultiple_120 (lv_at hl 6 rfl) ?_
    refine lv_aload_n hx hb d_MT_isMultiple_122 rfl (lv_at hl 0 rfl) ?_
    refine o_get (v := .ref (ad 52)) C in_MT hP 48 mw_48 rfl 3 (by decide) k_7_106 rfl rfl d_MT_isMultiple_123 ?_
    refine lv_iload_n hx hb d_MT_isMultiple_126 rfl (lv_at hl 1 rfl) ?_
    obtain ⟨g14, h⟩ := o_gd_some h
    refine o_iald (f := (MT_many q2.2.2)) C hP 52 49 mw_52 rfl g14 d_MT_isMultiple_127 ?_
    refine lv_icmp_ge (tgt := 148) hx hb d_MT_isMultiple_128 (by decide) (fun c15 => ?_) (fun c15 => ?_)
    · replace h := o_tt c15 h
      refine lv_iconst (v := (0:Int32)) hx hb d_MT_isMultiple_148 (by decide) ?_
      obtain ⟨g16, h⟩ := o_gd_some h
      refine o_iast (f := (MT_left q2.2.2)) (w1 := (m_cw ad ca ky ty u68_rt u68_Ni u68_Np u68_No u68_Nx u68_Nf u68_Na u68_Nh u68_Nq u68_Nj u68_a2 (MT_mk (MT_text q2.2.2) (MT_kind q2.2.2) (MT_place q2.2.2) (MT_many q2.2.2) (MT_parent q2.2.2) (MT_power q2.2.2) (MT_first q2.2.2) (MT_next q2.2.2) (MT_name q2.2.2) (MT_from q2.2.2) (MT_characters q2.2.2) (MT_digits q2.2.2) (MT_minus q2.2.2) (MT_values q2.2.2) (MT_letters q2.2.2) (MT_at q2.2.2) (MT_wrong q2.2.2) (MT_used q2.2.2) (MT_written q2.2.2) (upd (MT_left q2.2.2) u68_x5.toNatClampNeg (0:Int32))))) C hP (hDD _ _ _ _ _ _ _ _ _ _ _ _) hS 62 59 mw_62 rfl g16 rfl d_MT_isMultiple_149 (fun H locs hP hS => ?_)
      obtain ⟨q5, hq5, h⟩ := o_bd_some h
      refine o_sim2 (AH := fun zz => o_At p l e rm_MT_isMultiple s m args below meth c _ m_cls D A 10 150 [] (m_cw ad ca ky ty u68_rt u68_Ni u68_Np u68_No u68_Nx u68_Nf u68_Na u68_Nh u68_Nq u68_Nj u68_a2 zz) [(0, .ref (ad 48)), (1, .int u68_x1), (2, .ref (ad 33)), (3, .int u68_x3), (4, .int u68_x4), (5, .int u68_x5), (6, .int z.1)]) (AX := fun qq => o_At p l e rm_MT_isMultiple s m args below meth c _ m_cls D A 10 247 [] (m_cw ad ca ky ty u68_rt u68_Ni u68_Np u68_No u68_Nx u68_Nf u68_Na u68_Nh u68_Nq u68_Nj u68_a2 qq.2) [(0, .ref (ad 48)), (1, .int u68_x1), (2, .ref (ad 33)), (3, .int u68_x3), (4, .int u68_x4), (5, .int u68_x5), (6, .int z.1)]) (fun zz qq h h0 h1 => f_MT_isMultiple_b150_ba hE hKy C hDD n u68_x1 u68_x3 u68_x4 u68_x5 z.1 u68_a2 u68_Ni u68_Np u68_No u68_Nx u68_Nf u68_Na u68_Nh u68_Nq u68_Nj u68_rt zz qq h h0 h1) n _ q5 hq5 ?_ _ _ _ hP hS (lv_sub hl [0, 1, 2, 3, 4, 5, 6] rfl)
      intro H locs ls hP hS hl
      obtain ⟨x6_247, ex6_247⟩ : ∃ y : Int32, y = z.1 + (1:Int32) := ⟨_, rfl⟩
      replace h := o_nm_at ex6_247 h
      refine lv_iinc (v := x6_247) (lv' := [(6, .int x6_247), (0, .ref (ad 48)), (1, .int u68_x1), (2, .ref (ad 33)), (3, .int u68_x3), (4, .int u68_x4), (5, .int u68_x5)]) hx hb d_MT_isMultiple_247 hl (k := 6) rfl (by rw [ex6_247]; rfl) (by decide) rfl (fun ls hl => ?_)
      refine lv_goto (tgt := 68) hx hb d_MT_isMultiple_250 (by decide) ?_
      cases h
      exact h0 rfl _ _ _ hP hS (lv_sub hl [1, 2, 3, 4, 5, 6, 0] rfl)
    · replace h := o_ff c15 h
      refine lv_aload_n hx hb d_MT_isMultiple_131 rfl (lv_at hl 0 rfl) ?_
      refine o_get (v := .ref (ad 60)) C in_MT hP 48 mw_48 rfl 11 (by decide) k_7_122 rfl rfl d_MT_isMultiple_132 ?_
      refine lv_aload_n hx hb d_MT_isMultiple_135 rfl (lv_at hl 0 rfl) ?_
      refine o_get (v := .ref (ad 58)) C in_MT hP 48 mw_48 rfl 9 (by decide) k_7_118 rfl rfl d_MT_isMultiple_136 ?_
      refine lv_iload_n hx hb d_MT_isMultiple_139 rfl (lv_at hl 1 rfl) ?_
      obtain ⟨g25, h⟩ := o_gd_some h
      refine o_iald (f := (MT_from q2.2.2)) C hP 58 55 mw_58 rfl g25 d_MT_isMultiple_140 ?_
      refine lv_iload hx hb d_MT_isMultiple_141 (lv_at hl 6 rfl) ?_
      refine lv_iadd hx hb d_MT_isMultiple_143 ?_
      obtain ⟨g26, h⟩ := o_gd_some h
      refine o_iald (f := (MT_digits q2.2.2)) C hP 60 57 mw_60 rfl g26 d_MT_isMultiple_144 ?_
      refine lv_goto (tgt := 149) hx hb d_MT_isMultiple_145 (by decide) ?_
      obtain ⟨g27, h⟩ := o_gd_some h
      refine o_iast (f := (MT_left q2.2.2)) (w1 := (m_cw ad ca ky ty u68_rt u68_Ni u68_Np u68_No u68_Nx u68_Nf u68_Na u68_Nh u68_Nq u68_Nj u68_a2 (MT_mk (MT_text q2.2.2) (MT_kind q2.2.2) (MT_place q2.2.2) (MT_many q2.2.2) (MT_parent q2.2.2) (MT_power q2.2.2) (MT_first q2.2.2) (MT_next q2.2.2) (MT_name q2.2.2) (MT_from q2.2.2) (MT_characters q2.2.2) (MT_digits q2.2.2) (MT_minus q2.2.2) (MT_values q2.2.2) (MT_letters q2.2.2) (MT_at q2.2.2) (MT_wrong q2.2.2) (MT_used q2.2.2) (MT_written q2.2.2) (upd (MT_left q2.2.2) u68_x5.toNatClampNeg ((MT_digits q2.2.2) (((MT_from q2.2.2) u68_x1.toNatClampNeg) + z.1).toNatClampNeg))))) C hP (hDD _ _ _ _ _ _ _ _ _ _ _ _) hS 62 59 mw_62 rfl g27 rfl d_MT_isMultiple_149 (fun H locs hP hS => ?_)
      obtain ⟨q6, hq6, h⟩ := o_bd_some h
      refine o_sim2 (AH := fun zz => o_At p l e rm_MT_isMultiple s m args below meth c _ m_cls D A 10 150 [] (m_cw ad ca ky ty u68_rt u68_Ni u68_Np u68_No u68_Nx u68_Nf u68_Na u68_Nh u68_Nq u68_Nj u68_a2 zz) [(0, .ref (ad 48)), (1, .int u68_x1), (2, .ref (ad 33)), (3, .int u68_x3), (4, .int u68_x4), (5, .int u68_x5), (6, .int z.1)]) (AX := fun qq => o_At p l e rm_MT_isMultiple s m args below meth c _ m_cls D A 10 247 [] (m_cw ad ca ky ty u68_rt u68_Ni u68_Np u68_No u68_Nx u68_Nf u68_Na u68_Nh u68_Nq u68_Nj u68_a2 qq.2) [(0, .ref (ad 48)), (1, .int u68_x1), (2, .ref (ad 33)), (3, .int u68_x3), (4, .int u68_x4), (5, .int u68_x5), (6, .int z.1)]) (fun zz qq h h0 h1 => f_MT_isMultiple_b150_ba hE hKy C hDD n u68_x1 u68_x3 u68_x4 u68_x5 z.1 u68_a2 u68_Ni u68_Np u68_No u68_Nx u68_Nf u68_Na u68_Nh u68_Nq u68_Nj u68_rt zz qq h h0 h1) n _ q6 hq6 ?_ _ _ _ hP hS (lv_sub hl [0, 1, 2, 3, 4, 5, 6] rfl)
      intro H locs ls hP hS hl
      obtain ⟨x6_247, ex6_247⟩ : ∃ y : Int32, y = z.1 + (1:Int32) := ⟨_, rfl⟩
      replace h := o_nm_at ex6_247 h
      refine lv_iinc (v := x6_247) (lv' := [(6, .int x6_247), (0, .ref (ad 48)), (1, .int u68_x1), (2, .ref (ad 33)), (3, .int u68_x3), (4, .int u68_x4), (5, .int u68_x5)]) hx hb d_MT_isMultiple_247 hl (k := 6) rfl (by rw [ex6_247]; rfl) (by decide) rfl (fun ls hl => ?_)
      refine lv_goto (tgt := 68) hx hb d_MT_isMultiple_250 (by decide) ?_
      cases h
      exact h0 rfl _ _ _ hP hS (lv_sub hl [1, 2, 3, 4, 5, 6, 0] rfl)
set_option maxHeartbeats 4000000 in
set_option maxRecDepth 100000 in
theorem f_MT_isMultiple_b256_ba {E : (Nat → Prop) → State → Heap → Prop} {p : Program} {l : Launch} {e : Env} {s : State} {m : MethodId} {args : Array Value} {below : List Frame} {meth : Method} {c : Code} {D : va_G} {ad kd sd vd xd : Nat → Nat} {ca : Nat → ClassId} {A : Nat → Prop} {ky ty : Nat → Option Nat} {Q : State → Prop} (hE : o_EK E kd sd vd xd) (hKy : m_KY ky ty sd) (C : o_Cx E p s m args meth c D m_cls (m_tys ca) "SchemaJudgeModel$Text" b_MT_isMultiple (some .boolean) 10 cc_MT_isMultiple A) (hDD : ∀ (rt : Nat) (Ni : SNI) (Np : SNP) (No : SNO) (Nx : SNX) (Nf : SNF) (Na : SNA) (Nh : SNH) (Nq : SNQ) (Nj : SNJ) (M0 : SMT) (M1 : SMT), va_D A (m_cw ad ca ky ty rt Ni Np No Nx Nf Na Nh Nq Nj M0 M1)) (n : Nat) (u256_x5 : Int32) (u256_a0 : SMT) (u256_a2 : SMT) (u256_Ni : SNI) (u256_Np : SNP) (u256_No : SNO) (u256_Nx : SNX) (u256_Nf : SNF) (u256_Na : SNA) (u256_Nh : SNH) (u256_Nq : SNQ) (u256_Nj : SNJ) (u256_rt : Nat) (z : Int32) (q : Nat × Int32) (h : m_MT_isMultiple_b256 n u256_x5 u256_a0 u256_a2 z = some q) (h0 : q.1 = 0 → o_At p l e rm_MT_isMultiple s m args below meth c Q m_cls D A 10 256 [] (m_cw ad ca ky ty u256_rt u256_Ni u256_Np u256_No u256_Nx u256_Nf u256_Na u256_Nh u256_Nq u256_Nj u256_a2 u256_a0) [(0, .ref (ad 48)), (5, .int u256_x5), (6, .int q.2)]) (h1 : q.1 ≠ 0 → (if q.1 = 1 then o_At p l e rm_MT_isMultiple s m args below meth c Q m_cls D A 10 273 [] (m_cw ad ca ky ty u256_rt u256_Ni u256_Np u256_No u256_Nx u256_Nf u256_Na u256_Nh u256_Nq u256_Nj u256_a2 u256_a0) [] else o_At p l e rm_MT_isMultiple s m args below meth c Q m_cls D A 10 281 [] (m_cw ad ca ky ty u256_rt u256_Ni u256_Np u256_No u256_Nx u256_Nf u256_Na u256_Nh u256_Nq u256_Nj u256_a2 u256_a0) [])) : o_At p l e rm_MT_isMultiple s m args below meth c Q m_cls D A 10 256 [] (m_cw ad ca ky ty u256_rt u256_Ni u256_Np u256_No u256_Nx u256_Nf u256_Na u256_Nh u256_Nq u256_Nj u256_a2 u256_a0) [(0, .ref (ad 48)), (5, .int u256_x5), (6, .int z)] := by
  unfold m_MT_isMultiple_b256 at h
  intro H locs ls hP hS hl
  have C0 := C
  obtain ⟨hx, hb, -, -, -, hown, hts, hK, -, -⟩ := C0
  refine lv_iload hx hb d_MT_isMultiple_256 (lv_at hl 2 rfl) ?_
  refine lv_iload hx hb d_MT_isMultiple_258 (lv_at hl 1 rfl) ?_
  refine lv_icmp_gt (tgt := 281) hx hb d_MT_isMultiple_260 (by decide) (fun c28 => ?_) (fun c28 => ?_)
  · replace h := o_tt c28 h
    cases h
    exact h1 (Nat.succ_ne_zero 1) _ _ _ hP hS (lv_sub hl [] rfl)
  · replace h := o_ff c28 h
    refine lv_aload_n hx hb d_MT_isMultiple_263 rfl (lv_at hl 0 rfl) ?_
    refine o_get (v := .ref (ad 62)) C in_MT hP 48 mw_48 rfl 19 (by decide) k_7_133 rfl rfl d_MT_isMultiple_264 ?_
    refine lv_iload hx hb d_MT_isMultiple_267 (lv_at hl 2 rfl) ?_
    obtain ⟨g29, h⟩ := o_gd_some h
    refine o_iald (f := (MT_left u256_a0)) C hP 62 59 mw_62 rfl g29 d_MT_isMultiple_269 ?_
    refine lv_if_eq (tgt := 275) hx hb d_MT_isMultiple_270 (by decide) (fun c30 => ?_) (fun c30 => ?_)
    · replace h := o_tt c30 h
      obtain ⟨x6_275, ex6_275⟩ : ∃ y : Int32, y = z + (1:Int32) := ⟨_, rfl⟩
      replace h := o_nm_at ex6_275 h
      refine lv_iinc (v := x6_275) (lv' := [(6, .int x6_275), (0, .ref (ad 48)), (5, .int u256_x5)]) hx hb d_MT_isMultiple_275 hl (k := 2) rfl (by rw [ex6_275]; rfl) (by decide) rfl (fun ls hl => ?_)
      refine lv_goto (tgt := 256) hx hb d_MT_isMultiple_278 (by decide) ?_
      cases h
      exact h0 rfl _ _ _ hP hS (lv_sub hl [1, 2, 0] rfl)
    · replace h := o_ff c30 h
      cases h
      exact h1 (Nat.succ_ne_zero 0) _ _ _ hP hS (lv_sub hl [] rfl)
set_option maxHeartbeats 4000000 in
set_option maxRecDepth 100000 in
theorem e_MT_isMultiple_ba {E : (Nat → Prop) → State → Heap → Prop} {D : va_G} {ad kd sd vd xd : Nat → Nat} {ca : Nat → ClassId} {ky ty : Nat → Option Nat} (hE : o_EK E kd sd vd xd) (hKy : m_KY ky ty sd) (l : Launch) (n : Nat) (x1 : Int32) (x3 : Int32) (a0 : SMT) (a2 : SMT) (Ni : SNI) (Np : SNP) (No : SNO) (Nx : SNX) (Nf : SNF) (Na : SNA) (Nh : SNH) (Nq : SNQ) (Nj : SNJ) (rt : Nat) {r : Int32 × SMT} (h : m_MT_isMultiple n x1 x3 a0 a2 = some r) : o_Cn E l D m_cls (m_tys ca) y_MT_isMultiple cc_MT_isMultiple rm_MT_isMultiple [.ref (ad 48), .int x1, .ref (ad 33), .int x3] (m_cw ad ca ky ty rt Ni Np No Nx Nf Na Nh Nq Nj a2 a0) (m_cw ad ca ky ty rt Ni Np No Nx Nf Na Nh Nq Nj a2 r.2) (some (.int r.1)) := by
  refine o_Cn_of (by decide) (Nat.le_of_ble_eq_true rfl) ?_
  intro p e s m below meth c A ls C hD hP hS hl
  have hDD : ∀ (rt : Nat) (Ni : SNI) (Np : SNP) (No : SNO) (Nx : SNX) (Nf : SNF) (Na : SNA) (Nh : SNH) (Nq : SNQ) (Nj : SNJ) (M0 : SMT) (M1 : SMT), va_D A (m_cw ad ca ky ty rt Ni Np No Nx Nf Na Nh Nq Nj M0 M1) := fun _ _ _ _ _ _ _ _ _ _ _ _ => o_D_map hD rfl
  have hl : lv_has ls 10 [(0, .ref (ad 48)), (1, .int x1), (2, .ref (ad 33)), (3, .int x3)] := hl
  unfold m_MT_isMultiple at h
  have C0 := C
  obtain ⟨hx, hb, -, -, -, hown, hts, hK, -, -⟩ := C0
  refine lv_aload_n hx hb d_MT_isMultiple_0 rfl (lv_at hl 0 rfl) ?_
  refine o_get (v := .ref (ad 52)) C in_MT hP 48 mw_48 rfl 3 (by decide) k_7_106 rfl rfl d_MT_isMultiple_1 ?_
  refine lv_iload_n hx hb d_MT_isMultiple_4 rfl (lv_at hl 1 rfl) ?_
  obtain ⟨g1, h⟩ := o_gd_some h
  refine o_iald (f := (MT_many a0)) C hP 52 49 mw_52 rfl g1 d_MT_isMultiple_5 ?_
  refine lv_if_ne (tgt := 11) hx hb d_MT_isMultiple_6 (by decide) (fun c2 => ?_) (fun c2 => ?_)
  · replace h := o_ff c2 h
    refine lv_aload_n hx hb d_MT_isMultiple_11 rfl (lv_at hl 0 rfl) ?_
    refine o_get (v := .ref (ad 54)) C in_MT hP 48 mw_48 rfl 5 (by decide) k_7_110 rfl rfl d_MT_isMultiple_12 ?_
    refine lv_iload_n hx hb d_MT_isMultiple_15 rfl (lv_at hl 1 rfl) ?_
    obtain ⟨g3, h⟩ := o_gd_some h
    refine o_iald (f := (MT_power a0)) C hP 54 51 mw_54 rfl g3 d_MT_isMultiple_16 ?_
    refine lv_aload_n hx hb d_MT_isMultiple_17 rfl (lv_at hl 2 rfl) ?_
    refine o_get (v := .ref (ad 39)) C in_MT hP 33 mw_33 rfl 5 (by decide) k_7_110 rfl rfl d_MT_isMultiple_18 ?_
    refine lv_iload_n hx hb d_MT_isMultiple_21 rfl (lv_at hl 3 rfl) ?_
    obtain ⟨g4, h⟩ := o_gd_some h
    refine o_iald (f := (MT_power a2)) C hP 39 37 mw_39 rfl g4 d_MT_isMultiple_22 ?_
    refine lv_isub hx hb d_MT_isMultiple_23 ?_
    refine lv_topi (fun x4_24 ex4_24 => ?_)
    replace h := o_nm_at ex4_24 h
    refine lv_istore (lv' := [(4, .int x4_24), (0, .ref (ad 48)), (1, .int x1), (2, .ref (ad 33)), (3, .int x3)]) hx hb d_MT_isMultiple_24 hl (by decide) rfl (fun ls hl => ?_)
    refine lv_aload_n hx hb d_MT_isMultiple_26 rfl (lv_at hl 3 rfl) ?_
    refine o_get (v := .ref (ad 37)) C in_MT hP 33 mw_33 rfl 3 (by decide) k_7_106 rfl rfl d_MT_isMultiple_27 ?_
    refine lv_iload_n hx hb d_MT_isMultiple_30 rfl (lv_at hl 4 rfl) ?_
    obtain ⟨g5, h⟩ := o_gd_some h
    refine o_iald (f := (MT_many a2)) C hP 37 35 mw_37 rfl g5 d_MT_isMultiple_31 ?_
    refine lv_topi (fun x5_32 ex5_32 => ?_)
    replace h := o_nm_at ex5_32 h
    refine lv_istore (lv' := [(5, .int x5_32), (4, .int x4_24), (0, .ref (ad 48)), (1, .int x1), (2, .ref (ad 33)), (3, .int x3)]) hx hb d_MT_isMultiple_32 hl (by decide) rfl (fun ls hl => ?_)
    refine lv_iload hx hb d_MT_isMultiple_34 (lv_at hl 1 rfl) ?_
    refine lv_if_ge (tgt := 41) hx hb d_MT_isMultiple_36 (by decide) (fun c6 => ?_) (fun c6 => ?_)
    · replace h := o_tt c6 h
      refine lv_iconst (v := (0:Int32)) hx hb d_MT_isMultiple_41 (by decide) ?_
      refine lv_istore (lv' := [(6, .int (0:Int32)), (5, .int x5_32), (4, .int x4_24), (0, .ref (ad 48)), (1, .int x1), (2, .ref (ad 33)), (3, .int x3)]) hx hb d_MT_isMultiple_42 hl (by decide) rfl (fun ls hl => ?_)
      obtain ⟨q1, hq1, h⟩ := o_bd_some h
      refine o_sim2 (AH := fun zz => o_At p l e rm_MT_isMultiple s m _ below meth c _ m_cls D A 10 44 [] (m_cw ad ca ky ty rt Ni Np No Nx Nf Na Nh Nq Nj a2 zz.2) [(0, .ref (ad 48)), (1, .int x1), (2, .ref (ad 33)), (3, .int x3), (4, .int x4_24), (5, .int x5_32), (6, .int zz.1)]) (AX := fun qq => o_At p l e rm_MT_isMultiple s m _ below meth c _ m_cls D A 10 65 [] (m_cw ad ca ky ty rt Ni Np No Nx Nf Na Nh Nq Nj a2 qq.2.2) [(0, .ref (ad 48)), (1, .int x1), (2, .ref (ad 33)), (3, .int x3), (4, .int x4_24), (5, .int x5_32)]) (fun zz qq h h0 h1 => f_MT_isMultiple_b44_ba hE hKy C hDD n x1 x3 x4_24 x5_32 a2 Ni Np No Nx Nf Na Nh Nq Nj rt zz qq h h0 h1) n _ q1 hq1 ?_ _ _ _ hP hS (lv_sub hl [3, 4, 5, 6, 2, 1, 0] rfl)
      intro H locs ls hP hS hl
      refine lv_iconst (v := (0:Int32)) hx hb d_MT_isMultiple_65 (by decide) ?_
      refine lv_istore (lv' := [(6, .int (0:Int32)), (0, .ref (ad 48)), (1, .int x1), (2, .ref (ad 33)), (3, .int x3), (4, .int x4_24), (5, .int x5_32)]) hx hb d_MT_isMultiple_66 hl (by decide) rfl (fun ls hl => ?_)
      obtain ⟨q7, hq7, h⟩ := o_bd_some h
      refine o_sim2 (AH := fun zz => o_At p l e rm_MT_isMultiple s m _ below meth c _ m_cls D A 10 68 [] (m_cw ad ca ky ty rt Ni Np No Nx Nf Na Nh Nq Nj a2 zz.2) [(0, .ref (ad 48)), (1, .int x1), (2, .ref (ad 33)), (3, .int x3), (4, .int x4_24), (5, .int x5_32), (6, .int zz.1)]) (AX := fun qq => o_At p l e rm_MT_isMultiple s m _ below meth c _ m_cls D A 10 253 [] (m_cw ad ca ky ty rt Ni Np No Nx Nf Na Nh Nq Nj a2 qq.2.2) [(0, .ref (ad 48)), (5, .int x5_32)]) (fun zz qq h h0 h1 => f_MT_isMultiple_b68_ba hE hKy C hDD n x1 x3 x4_24 x5_32 a2 Ni Np No Nx Nf Na Nh Nq Nj rt zz qq h h0 h1) n _ q7 hq7 ?_ _ _ _ hP hS (lv_sub hl [1, 2, 3, 4, 5, 6, 0] rfl)
      intro H locs ls hP hS hl
      refine lv_iconst (v := (0:Int32)) hx hb d_MT_isMultiple_253 (by decide) ?_
      refine lv_istore (lv' := [(6, .int (0:Int32)), (0, .ref (ad 48)), (5, .int x5_32)]) hx hb d_MT_isMultiple_254 hl (by decide) rfl (fun ls hl => ?_)
      obtain ⟨q8, hq8, h⟩ := o_bd_some h
      refine o_sim2 (AH := fun zz => o_At p l e rm_MT_isMultiple s m _ below meth c _ m_cls D A 10 256 [] (m_cw ad ca ky ty rt Ni Np No Nx Nf Na Nh Nq Nj a2 q7.2.2) [(0, .ref (ad 48)), (5, .int x5_32), (6, .int zz)]) (AX := fun qq => if qq.1 = 1 then o_At p l e rm_MT_isMultiple s m _ below meth c _ m_cls D A 10 273 [] (m_cw ad ca ky ty rt Ni Np No Nx Nf Na Nh Nq Nj a2 q7.2.2) [] else o_At p l e rm_MT_isMultiple s m _ below meth c _ m_cls D A 10 281 [] (m_cw ad ca ky ty rt Ni Np No Nx Nf Na Nh Nq Nj a2 q7.2.2) []) (fun zz qq h h0 h1 => f_MT_isMultiple_b256_ba hE hKy C hDD n x5_32 q7.2.2 a2 Ni Np No Nx Nf Na Nh Nq Nj rt zz qq h h0 h1) n _ q8 hq8 ?_ _ _ _ hP hS (lv_sub hl [1, 2, 0] rfl)
      by_cases c31 : q8.1 = 1
      · replace h := o_tt c31 h
        refine o_ip c31 ?_
        intro H locs ls hP hS hl
        refine lv_iconst (v := (0:Int32)) hx hb d_MT_isMultiple_273 (by decide) ?_
        cases h
        exact o_rz (v := (0:Int32)) C o_nar0 hP hS d_MT_isMultiple_274
      replace h := o_ff c31 h
      refine o_in_ c31 ?_
      intro H locs ls hP hS hl
      refine lv_iconst (v := (1:Int32)) hx hb d_MT_isMultiple_281 (by decide) ?_
      cases h
      exact o_rz (v := (1:Int32)) C o_nar1 hP hS d_MT_isMultiple_282
    · replace h := o_ff c6 h
      refine lv_iconst (v := (0:Int32)) hx hb d_MT_isMultiple_39 (by decide) ?_
      cases h
      exact o_rz (v := (0:Int32)) C o_nar0 hP hS d_MT_isMultiple_40
  · replace h := o_tt c2 h
    refine lv_iconst (v := (1:Int32)) hx hb d_MT_isMultiple_9 (by decide) ?_
    cases h
    exact o_rz (v := (1:Int32)) C o_nar1 hP hS d_MT_isMultiple_10
set_option maxHeartbeats 4000000 in
set_option maxRecDepth 100000 in
theorem e_MM_number_1 {E : (Nat → Prop) → State → Heap → Prop} {D : va_G} {ad kd sd vd xd : Nat → Nat} {ca : Nat → ClassId} {ky ty : Nat → Option Nat} (hE : o_EK E kd sd vd xd) (hKy : m_KY ky ty sd) (l : Launch) (n : Nat) (x1 : Int32) (x2 : Int32) (x3 : Int32) (M0 : SMT) (M1 : SMT) (Ni : SNI) (Np : SNP) (No : SNO) (Nx : SNX) (Nf : SNF) (Na : SNA) (Nh : SNH) (Nq : SNQ) (Nj : SNJ) (rt : Nat) {r : Int32 × SMT} (h : m_MM_number_1 n x1 x2 x3 M0 M1 = some r) : o_Cn E l D m_cls (m_tys ca) y_MM_number_1 cc_MM_number_1 rm_MM_number_1 [.ref (ad 0), .int x1, .int x2, .int x3] (m_cw ad ca ky ty rt Ni Np No Nx Nf Na Nh Nq Nj M0 M1) (m_cw ad ca ky ty rt Ni Np No Nx Nf Na Nh Nq Nj M0 r.2) (some (.int r.1)) := by
  refine o_Cn_of (by decide) (Nat.le_of_ble_eq_true rfl) ?_
  intro p e s m below meth c A ls C hD hP hS hl
  have hDD : ∀ (rt : Nat) (Ni : SNI) (Np : SNP) (No : SNO) (Nx : SNX) (Nf : SNF) (Na : SNA) (Nh : SNH) (Nq : SNQ) (Nj : SNJ) (M0 : SMT) (M1 : SMT), va_D A (m_cw ad ca ky ty rt Ni Np No Nx Nf Na Nh Nq Nj M0 M1) := fun _ _ _ _ _ _ _ _ _ _ _ _ => o_D_map hD rfl
  have hl : lv_has ls 5 [(0, .ref (ad 0)), (1, .int x1), (2, .int x2), (3, .int x3)] := hl
  unfold m_MM_number_1 at h
  have C0 := C
  obtain ⟨hx, hb, -, -, -, hown, hts, hK, -, -⟩ := C0
  refine lv_iload_n hx hb d_MM_number_1_0 rfl (lv_at hl 1 rfl) ?_
  refine lv_bipush (v := (22:Int32)) hx hb d_MM_number_1_1 (by decide) ?_
  refine lv_icmp_ne (tgt := 20) hx hb d_MM_number_1_3 (by decide) (fun c1 => ?_) (fun c1 => ?_)
  · replace h := o_ff c1 h
    refine lv_aload_n hx hb d_MM_number_1_20 rfl (lv_at hl 0 rfl) ?_
    refine o_get (v := .ref (ad 48)) C in_MM hP 0 mw_0 rfl 5 (by decide) k_7_235 rfl rfl d_MM_number_1_21 ?_
    refine lv_iload_n hx hb d_MM_number_1_24 rfl (lv_at hl 3 rfl) ?_
    refine lv_aload_n hx hb d_MM_number_1_25 rfl (lv_at hl 0 rfl) ?_
    refine o_get (v := .ref (ad 33)) C in_MM hP 0 mw_0 rfl 4 (by decide) k_7_234 rfl rfl d_MM_number_1_26 ?_
    refine lv_iload_n hx hb d_MM_number_1_29 rfl (lv_at hl 2 rfl) ?_
    obtain ⟨q1, hq1, h⟩ := o_bd_some h
    refine o_V (st1 := [.int q1]) (w1 := (m_cw ad ca ky ty rt Ni Np No Nx Nf Na Nh Nq Nj M0 M1)) hE.1 C (e_MT_compare_ba hE hKy l n x3 x2 M1 M0 Ni Np No Nx Nf Na Nh Nq Nj rt hq1) hP (hDD _ _ _ _ _ _ _ _ _ _ _ _) hS hl.1 rfl mw_48 k_10_15 k_10_16 k_10_17 k_1_13 k_10_18 hv_MT_compare rfl rfl ⟨(Nat.le_of_ble_eq_true rfl), (Nat.le_of_ble_eq_true rfl)⟩ rfl (Nat.le_of_ble_eq_true rfl) ⟨Nat.zero_le _, Nat.zero_le _⟩ rfl d_MM_number_1_30 (fun H locs hP hS => ?_)
    refine lv_istore (lv' := [(4, .int q1), (0, .ref (ad 0)), (1, .int x1), (2, .int x2), (3, .int x3)]) hx hb d_MM_number_1_33 hl (by decide) rfl (fun ls hl => ?_)
    refine lv_iload_n hx hb d_MM_number_1_35 rfl (lv_at hl 2 rfl) ?_
    refine lv_bipush (v := (18:Int32)) hx hb d_MM_number_1_36 (by decide) ?_
    refine lv_icmp_ne (tgt := 54) hx hb d_MM_number_1_38 (by decide) (fun c2 => ?_) (fun c2 => ?_)
    · replace h := o_ff c2 h
      refine lv_iload_n hx hb d_MM_number_1_54 rfl (lv_at hl 2 rfl) ?_
      refine lv_bipush (v := (19:Int32)) hx hb d_MM_number_1_55 (by decide) ?_
      refine lv_icmp_ne (tgt := 73) hx hb d_MM_number_1_57 (by decide) (fun c3 => ?_) (fun c3 => ?_)
      · replace h := o_ff c3 h
        refine lv_iload_n hx hb d_MM_number_1_73 rfl (lv_at hl 2 rfl) ?_
        refine lv_bipush (v := (20:Int32)) hx hb d_MM_number_1_74 (by decide) ?_
        refine lv_icmp_ne (tgt := 92) hx hb d_MM_number_1_76 (by decide) (fun c4 => ?_) (fun c4 => ?_)
        · replace h := o_ff c4 h
          refine lv_iload hx hb d_MM_number_1_92 (lv_at hl 0 rfl) ?_
          refine lv_if_le (tgt := 101) hx hb d_MM_number_1_94 (by decide) (fun c5 => ?_) (fun c5 => ?_)
          · replace h := o_tt c5 h
            refine lv_iconst (v := (0:Int32)) hx hb d_MM_number_1_101 (by decide) ?_
            cases h
            exact o_rz (v := (0:Int32)) C o_nar0 hP hS d_MM_number_1_102
          · replace h := o_ff c5 h
            refine lv_iconst (v := (1:Int32)) hx hb d_MM_number_1_97 (by decide) ?_
            refine lv_goto (tgt := 102) hx hb d_MM_number_1_98 (by decide) ?_
            cases h
            exact o_rz (v := (1:Int32)) C o_nar1 hP hS d_MM_number_1_102
        · replace h := o_tt c4 h
          refine lv_iload hx hb d_MM_number_1_79 (lv_at hl 0 rfl) ?_
          refine lv_if_lt (tgt := 88) hx hb d_MM_number_1_81 (by decide) (fun c6 => ?_) (fun c6 => ?_)
          · replace h := o_tt c6 h
            refine lv_iconst (v := (0:Int32)) hx hb d_MM_number_1_88 (by decide) ?_
            refine lv_goto (tgt := 102) hx hb d_MM_number_1_89 (by decide) ?_
            cases h
            exact o_rz (v := (0:Int32)) C o_nar0 hP hS d_MM_number_1_102
          · replace h := o_ff c6 h
            refine lv_iconst (v := (1:Int32)) hx hb d_MM_number_1_84 (by decide) ?_
            refine lv_goto (tgt := 102) hx hb d_MM_number_1_85 (by decide) ?_
            cases h
            exact o_rz (v := (1:Int32)) C o_nar1 hP hS d_MM_number_1_102
      · replace h := o_tt c3 h
        refine lv_iload hx hb d_MM_number_1_60 (lv_at hl 0 rfl) ?_
        refine lv_if_ge (tgt := 69) hx hb d_MM_number_1_62 (by decide) (fun c7 => ?_) (fun c7 => ?_)
        · replace h := o_tt c7 h
          refine lv_iconst (v := (0:Int32)) hx hb d_MM_number_1_69 (by decide) ?_
          refine lv_goto (tgt := 102) hx hb d_MM_number_1_70 (by decide) ?_
          cases h
          exact o_rz (v := (0:Int32)) C o_nar0 hP hS d_MM_number_1_102
        · replace h := o_ff c7 h
          refine lv_iconst (v := (1:Int32)) hx hb d_MM_number_1_65 (by decide) ?_
          refine lv_goto (tgt := 102) hx hb d_MM_number_1_66 (by decide) ?_
          cases h
          exact o_rz (v := (1:Int32)) C o_nar1 hP hS d_MM_number_1_102
    · replace h := o_tt c2 h
      refine lv_iload hx hb d_MM_number_1_41 (lv_at hl 0 rfl) ?_
      refine lv_if_gt (tgt := 50) hx hb d_MM_number_1_43 (by decide) (fun c8 => ?_) (fun c8 => ?_)
      · replace h := o_tt c8 h
        refine lv_iconst (v := (0:Int32)) hx hb d_MM_number_1_50 (by decide) ?_
        refine lv_goto (tgt := 102) hx hb d_MM_number_1_51 (by decide) ?_
        cases h
        exact o_rz (v := (0:Int32)) C o_nar0 hP hS d_MM_number_1_102
      · replace h := o_ff c8 h
        refine lv_iconst (v := (1:Int32)) hx hb d_MM_number_1_46 (by decide) ?_
        refine lv_goto (tgt := 102) hx hb d_MM_number_1_47 (by decide) ?_
        cases h
        exact o_rz (v := (1:Int32)) C o_nar1 hP hS d_MM_number_1_102
  · replace h := o_tt c1 h
    refine lv_aload_n hx hb d_MM_number_1_6 rfl (lv_at hl 0 rfl) ?_
    refine o_get (v := .ref (ad 48)) C in_MM hP 0 mw_0 rfl 5 (by decide) k_7_235 rfl rfl d_MM_number_1_7 ?_
    refine lv_iload_n hx hb d_MM_number_1_10 rfl (lv_at hl 3 rfl) ?_
    refine lv_aload_n hx hb d_MM_number_1_11 rfl (lv_at hl 0 rfl) ?_
    refine o_get (v := .ref (ad 33)) C in_MM hP 0 mw_0 rfl 4 (by decide) k_7_234 rfl rfl d_MM_number_1_12 ?_
    refine lv_iload_n hx hb d_MM_number_1_15 rfl (lv_at hl 2 rfl) ?_
    obtain ⟨q2, hq2, h⟩ := o_bd_some h
    refine o_V (st1 := [.int q2.1]) (w1 := (m_cw ad ca ky ty rt Ni Np No Nx Nf Na Nh Nq Nj M0 q2.2)) hE.1 C (e_MT_isMultiple_ba hE hKy l n x3 x2 M1 M0 Ni Np No Nx Nf Na Nh Nq Nj rt hq2) hP (hDD _ _ _ _ _ _ _ _ _ _ _ _) hS hl.1 rfl mw_48 k_10_7 k_10_8 k_10_9 k_1_13 k_10_10 hv_MT_isMultiple rfl rfl ⟨(Nat.le_of_ble_eq_true rfl), (Nat.le_of_ble_eq_true rfl)⟩ rfl (Nat.le_of_ble_eq_true rfl) ⟨Nat.zero_le _, Nat.zero_le _⟩ rfl d_MM_number_1_16 (fun H locs hP hS => ?_)
    obtain ⟨g9, h⟩ := o_gd_some h
    cases h
    exact o_rz C (o_zb_nar g9) hP hS d_MM_number_1_19
set_option maxHeartbeats 4000000 in
set_option maxRecDepth 100000 in
theorem e_MM_has {E : (Nat → Prop) → State → Heap → Prop} {D : va_G} {ad kd sd vd xd : Nat → Nat} {ca : Nat → ClassId} {ky ty : Nat → Option Nat} (hE : o_EK E kd sd vd xd) (hKy : m_KY ky ty sd) (l : Launch) (n : Nat) (x1 : Int32) (x2 : Int32) (x3 : Int32) (M0 : SMT) (M1 : SMT) (Ni : SNI) (Np : SNP) (No : SNO) (Nx : SNX) (Nf : SNF) (Na : SNA) (Nh : SNH) (Nq : SNQ) (Nj : SNJ) (rt : Nat) {r : Int32} (h : m_MM_has n x1 x2 x3 M0 M1 = some r) : o_Cn E l D m_cls (m_tys ca) y_MM_has cc_MM_has rm_MM_has [.ref (ad 0), .int x1, .int x2, .int x3] (m_cw ad ca ky ty rt Ni Np No Nx Nf Na Nh Nq Nj M0 M1) (m_cw ad ca ky ty rt Ni Np No Nx Nf Na Nh Nq Nj M0 M1) (some (.int r)) := by
  refine o_Cn_of (by decide) (Nat.le_of_ble_eq_true rfl) ?_
  intro p e s m below meth c A ls C hD hP hS hl
  have hDD : ∀ (rt : Nat) (Ni : SNI) (Np : SNP) (No : SNO) (Nx : SNX) (Nf : SNF) (Na : SNA) (Nh : SNH) (Nq : SNQ) (Nj : SNJ) (M0 : SMT) (M1 : SMT), va_D A (m_cw ad ca ky ty rt Ni Np No Nx Nf Na Nh Nq Nj M0 M1) := fun _ _ _ _ _ _ _ _ _ _ _ _ => o_D_map hD rfl
  have hl : lv_has ls 5 [(0, .ref (ad 0)), (1, .int x1), (2, .int x2), (3, .int x3)] := hl
  unfold m_MM_has at h
  have C0 := C
  obtain ⟨hx, hb, -, -, -, hown, hts, hK, -, -⟩ := C0
  refine lv_aload_n hx hb d_MM_has_0 rfl (lv_at hl 0 rfl) ?_
  refine o_get (v := .ref (ad 48)) C in_MM hP 0 mw_0 rfl 5 (by decide) k_7_235 rfl rfl d_MM_has_1 ?_
  refine o_get (v := .ref (ad 50)) C in_MT hP 48 mw_48 rfl 1 (by decide) k_7_103 rfl rfl d_MM_has_4 ?_
  refine lv_iload_n hx hb d_MM_has_7 rfl (lv_at hl 2 rfl) ?_
  obtain ⟨g1, h⟩ := o_gd_some h
  refine o_iald (f := (MT_kind M1)) C hP 50 47 mw_50 rfl g1 d_MM_has_8 ?_
  refine lv_topi (fun x4_9 ex4_9 => ?_)
  replace h := o_nm_at ex4_9 h
  refine lv_istore (lv' := [(4, .int x4_9), (0, .ref (ad 0)), (1, .int x1), (2, .int x2), (3, .int x3)]) hx hb d_MM_has_9 hl (by decide) rfl (fun ls hl => ?_)
  refine lv_aload_n hx hb d_MM_has_11 rfl (lv_at hl 1 rfl) ?_
  refine lv_iload_n hx hb d_MM_has_12 rfl (lv_at hl 2 rfl) ?_
  obtain ⟨q1, hq1, h⟩ := o_bd_some h
  refine o_V (st1 := [.int q1]) (w1 := (m_cw ad ca ky ty rt Ni Np No Nx Nf Na Nh Nq Nj M0 M1)) hE.1 C (e_MM_typeOf hE hKy l n x1 M0 Ni Np No Nx Nf Na Nh Nq Nj M1 rt hq1) hP (hDD _ _ _ _ _ _ _ _ _ _ _ _) hS hl.1 rfl mw_0 k_9_171 k_9_173 k_s_109 k_1_12 k_9_174 hv_MM_typeOf rfl rfl ⟨(Nat.le_of_ble_eq_true rfl), (Nat.le_of_ble_eq_true rfl)⟩ rfl (Nat.le_of_ble_eq_true rfl) ⟨Nat.zero_le _, Nat.zero_le _⟩ rfl d_MM_has_13 (fun H locs hP hS => ?_)
  by_cases c2 : q1 = (0:Int32)
  · replace h := o_tt c2 h
    refine lv_tableIn (off := 40) (tgt := 56) hx hb d_MM_has_16 (by rw [c2]; decide) (by rw [c2]; decide) (by rw [c2]; rfl) (by decide) ?_
    refine lv_iload hx hb d_MM_has_56 (lv_at hl 0 rfl) ?_
    refine lv_if_ne (tgt := 65) hx hb d_MM_has_58 (by decide) (fun c3 => ?_) (fun c3 => ?_)
    · replace h := o_ff c3 h
      refine lv_iconst (v := (0:Int32)) hx hb d_MM_has_65 (by decide) ?_
      cases h
      exact o_rz (v := (0:Int32)) C o_nar0 hP hS d_MM_has_66
    · replace h := o_tt c3 h
      refine lv_iconst (v := (1:Int32)) hx hb d_MM_has_61 (by decide) ?_
      refine lv_goto (tgt := 66) hx hb d_MM_has_62 (by decide) ?_
      cases h
      exact o_rz (v := (1:Int32)) C o_nar1 hP hS d_MM_has_66
  replace h := o_ff c2 h
  by_cases c4 : q1 = (1:Int32)
  · replace h := o_tt c4 h
    refine lv_tableIn (off := 51) (tgt := 67) hx hb d_MM_has_16 (by rw [c4]; decide) (by rw [c4]; decide) (by rw [c4]; rfl) (by decide) ?_
    refine lv_iload hx hb d_MM_has_67 (lv_at hl 0 rfl) ?_
    refine lv_iconst (v := (1:Int32)) hx hb d_MM_has_69 (by decide) ?_
    refine lv_icmp_eq (tgt := 79) hx hb d_MM_has_70 (by decide) (fun c5 => ?_) (fun c5 => ?_)
    · replace h := o_tt c5 h
      refine lv_iconst (v := (1:Int32)) hx hb d_MM_has_79 (by decide) ?_
      refine lv_goto (tgt := 84) hx hb d_MM_has_80 (by decide) ?_
      cases h
      exact o_rz (v := (1:Int32)) C o_nar1 hP hS d_MM_has_84
    · replace h := o_ff c5 h
      refine lv_iload hx hb d_MM_has_73 (lv_at hl 0 rfl) ?_
      refine lv_iconst (v := (2:Int32)) hx hb d_MM_has_75 (by decide) ?_
      refine lv_icmp_ne (tgt := 83) hx hb d_MM_has_76 (by decide) (fun c6 => ?_) (fun c6 => ?_)
      · replace h := o_ff c6 h
        refine lv_iconst (v := (0:Int32)) hx hb d_MM_has_83 (by decide) ?_
        cases h
        exact o_rz (v := (0:Int32)) C o_nar0 hP hS d_MM_has_84
      · replace h := o_tt c6 h
        refine lv_iconst (v := (1:Int32)) hx hb d_MM_has_79 (by decide) ?_
        refine lv_goto (tgt := 84) hx hb d_MM_has_80 (by decide) ?_
        cases h
        exact o_rz (v := (1:Int32)) C o_nar1 hP hS d_MM_has_84
  replace h := o_ff c4 h
  by_cases c7 : q1 = (2:Int32)
  · replace h := o_tt c7 h
    refine lv_tableIn (off := 69) (tgt := 85) hx hb d_MM_has_16 (by rw [c7]; decide) (by rw [c7]; decide) (by rw [c7]; rfl) (by decide) ?_
    refine lv_iload hx hb d_MM_has_85 (lv_at hl 0 rfl) ?_
    refine lv_bipush (v := (6:Int32)) hx hb d_MM_has_87 (by decide) ?_
    refine lv_icmp_ne (tgt := 96) hx hb d_MM_has_89 (by decide) (fun c8 => ?_) (fun c8 => ?_)
    · replace h := o_ff c8 h
      refine lv_iconst (v := (0:Int32)) hx hb d_MM_has_96 (by decide) ?_
      cases h
      exact o_rz (v := (0:Int32)) C o_nar0 hP hS d_MM_has_97
    · replace h := o_tt c8 h
      refine lv_iconst (v := (1:Int32)) hx hb d_MM_has_92 (by decide) ?_
      refine lv_goto (tgt := 97) hx hb d_MM_has_93 (by decide) ?_
      cases h
      exact o_rz (v := (1:Int32)) C o_nar1 hP hS d_MM_has_97
  replace h := o_ff c7 h
  by_cases c9 : q1 = (3:Int32)
  · replace h := o_tt c9 h
    refine lv_tableIn (off := 82) (tgt := 98) hx hb d_MM_has_16 (by rw [c9]; decide) (by rw [c9]; decide) (by rw [c9]; rfl) (by decide) ?_
    refine lv_iload hx hb d_MM_has_98 (lv_at hl 0 rfl) ?_
    refine lv_iconst (v := (5:Int32)) hx hb d_MM_has_100 (by decide) ?_
    refine lv_icmp_ne (tgt := 108) hx hb d_MM_has_101 (by decide) (fun c10 => ?_) (fun c10 => ?_)
    · replace h := o_ff c10 h
      refine lv_iconst (v := (0:Int32)) hx hb d_MM_has_108 (by decide) ?_
      cases h
      exact o_rz (v := (0:Int32)) C o_nar0 hP hS d_MM_has_109
    · replace h := o_tt c10 h
      refine lv_iconst (v := (1:Int32)) hx hb d_MM_has_104 (by decide) ?_
      refine lv_goto (tgt := 109) hx hb d_MM_has_105 (by decide) ?_
      cases h
      exact o_rz (v := (1:Int32)) C o_nar1 hP hS d_MM_has_109
  replace h := o_ff c9 h
  by_cases c11 : q1 = (4:Int32)
  · replace h := o_tt c11 h
    refine lv_tableIn (off := 94) (tgt := 110) hx hb d_MM_has_16 (by rw [c11]; decide) (by rw [c11]; decide) (by rw [c11]; rfl) (by decide) ?_
    refine lv_iload hx hb d_MM_has_110 (lv_at hl 0 rfl) ?_
    refine lv_iconst (v := (3:Int32)) hx hb d_MM_has_112 (by decide) ?_
    refine lv_icmp_ne (tgt := 120) hx hb d_MM_has_113 (by decide) (fun c12 => ?_) (fun c12 => ?_)
    · replace h := o_ff c12 h
      refine lv_iconst (v := (0:Int32)) hx hb d_MM_has_120 (by decide) ?_
      cases h
      exact o_rz (v := (0:Int32)) C o_nar0 hP hS d_MM_has_121
    · replace h := o_tt c12 h
      refine lv_iconst (v := (1:Int32)) hx hb d_MM_has_116 (by decide) ?_
      refine lv_goto (tgt := 121) hx hb d_MM_has_117 (by decide) ?_
      cases h
      exact o_rz (v := (1:Int32)) C o_nar1 hP hS d_MM_has_121
  replace h := o_ff c11 h
  by_cases c13 : q1 = (5:Int32)
  · replace h := o_tt c13 h
    refine lv_tableIn (off := 106) (tgt := 122) hx hb d_MM_has_16 (by rw [c13]; decide) (by rw [c13]; decide) (by rw [c13]; rfl) (by decide) ?_
    refine lv_iload hx hb d_MM_has_122 (lv_at hl 0 rfl) ?_
    refine lv_iconst (v := (4:Int32)) hx hb d_MM_has_124 (by decide) ?_
    refine lv_icmp_ne (tgt := 132) hx hb d_MM_has_125 (by decide) (fun c14 => ?_) (fun c14 => ?_)
    · replace h := o_ff c14 h
      refine lv_iconst (v := (0:Int32)) hx hb d_MM_has_132 (by decide) ?_
      cases h
      exact o_rz (v := (0:Int32)) C o_nar0 hP hS d_MM_has_133
    · replace h := o_tt c14 h
      refine lv_iconst (v := (1:Int32)) hx hb d_MM_has_128 (by decide) ?_
      refine lv_goto (tgt := 133) hx hb d_MM_has_129 (by decide) ?_
      cases h
      exact o_rz (v := (1:Int32)) C o_nar1 hP hS d_MM_has_133
  replace h := o_ff c13 h
  refine lv_tableOut (tgt := 134) hx hb d_MM_has_16 (by have ec2 := o_ne_i (n := 0) (by decide) c2; have ec4 := o_ne_i (n := 1) (by decide) c4; have ec7 := o_ne_i (n := 2) (by decide) c7; have ec9 := o_ne_i (n := 3) (by decide) c9; have ec11 := o_ne_i (n := 4) (by decide) c11; have ec13 := o_ne_i (n := 5) (by decide) c13; omega) (by decide) ?_
  refine lv_aload_n hx hb d_MM_has_134 rfl (lv_at hl 1 rfl) ?_
  refine o_get (v := .ref (ad 48)) C in_MM hP 0 mw_0 rfl 5 (by decide) k_7_235 rfl rfl d_MM_has_135 ?_
  refine lv_iload_n hx hb d_MM_has_138 rfl (lv_at hl 3 rfl) ?_
  obtain ⟨q2, hq2, h⟩ := o_bd_some h
  refine o_V (st1 := [.int q2]) (w1 := (m_cw ad ca ky ty rt Ni Np No Nx Nf Na Nh Nq Nj M0 M1)) hE.1 C (e_MT_isWhole_b hE hKy l x2 M1 Ni Np No Nx Nf Na Nh Nq Nj M0 rt hq2) hP (hDD _ _ _ _ _ _ _ _ _ _ _ _) hS hl.1 rfl mw_48 k_9_149 k_9_150 k_9_151 k_1_13 k_9_152 hv_MT_isWhole rfl rfl ⟨(Nat.le_of_ble_eq_true rfl), (Nat.le_of_ble_eq_true rfl)⟩ rfl (Nat.le_of_ble_eq_true rfl) ⟨Nat.zero_le _, Nat.zero_le _⟩ rfl d_MM_has_139 (fun H locs hP hS => ?_)
  refine lv_if_eq (tgt := 153) hx hb d_MM_has_142 (by decide) (fun c15 => ?_) (fun c15 => ?_)
  · replace h := o_tt c15 h
    refine lv_iconst (v := (0:Int32)) hx hb d_MM_has_153 (by decide) ?_
    cases h
    exact o_rz (v := (0:Int32)) C o_nar0 hP hS d_MM_has_154
  · replace h := o_ff c15 h
    refine lv_iload_n hx hb d_MM_has_145 rfl (lv_at hl 4 rfl) ?_
    refine lv_if_eq (tgt := 153) hx hb d_MM_has_146 (by decide) (fun c16 => ?_) (fun c16 => ?_)
    · replace h := o_tt c16 h
      refine lv_iconst (v := (0:Int32)) hx hb d_MM_has_153 (by decide) ?_
      cases h
      exact o_rz (v := (0:Int32)) C o_nar0 hP hS d_MM_has_154
    · replace h := o_ff c16 h
      refine lv_iconst (v := (1:Int32)) hx hb d_MM_has_149 (by decide) ?_
      refine lv_goto (tgt := 154) hx hb d_MM_has_150 (by decide) ?_
      cases h
      exact o_rz (v := (1:Int32)) C o_nar1 hP hS d_MM_has_154
set_option maxHeartbeats 4000000 in
set_option maxRecDepth 100000 in
theorem f_MM_isType_b31 {E : (Nat → Prop) → State → Heap → Prop} {p : Program} {l : Launch} {e : Env} {s : State} {m : MethodId} {args : Array Value} {below : List Frame} {meth : Method} {c : Code} {D : va_G} {ad kd sd vd xd : Nat → Nat} {ca : Nat → ClassId} {A : Nat → Prop} {ky ty : Nat → Option Nat} {Q : State → Prop} (hE : o_EK E kd sd vd xd) (hKy : m_KY ky ty sd) (C : o_Cx E p s m args meth c D m_cls (m_tys ca) "SchemaJudgeModel" b_MM_isType (some .boolean) 4 cc_MM_isType A) (hDD : ∀ (rt : Nat) (Ni : SNI) (Np : SNP) (No : SNO) (Nx : SNX) (Nf : SNF) (Na : SNA) (Nh : SNH) (Nq : SNQ) (Nj : SNJ) (M0 : SMT) (M1 : SMT), va_D A (m_cw ad ca ky ty rt Ni Np No Nx Nf Na Nh Nq Nj M0 M1)) (n : Nat) (u31_x2 : Int32) (u31_M0 : SMT) (u31_M1 : SMT) (u31_Ni : SNI) (u31_Np : SNP) (u31_No : SNO) (u31_Nx : SNX) (u31_Nf : SNF) (u31_Na : SNA) (u31_Nh : SNH) (u31_Nq : SNQ) (u31_Nj : SNJ) (u31_rt : Nat) (z : Int32) (q : Nat × Int32) (h : m_MM_isType_b31 n u31_x2 u31_M0 u31_M1 z = some q) (h0 : q.1 = 0 → o_At p l e rm_MM_isType s m args below meth c Q m_cls D A 4 31 [] (m_cw ad ca ky ty u31_rt u31_Ni u31_Np u31_No u31_Nx u31_Nf u31_Na u31_Nh u31_Nq u31_Nj u31_M0 u31_M1) [(0, .ref (ad 0)), (2, .int u31_x2), (3, .int q.2)]) (h1 : q.1 ≠ 0 → (if q.1 = 1 then o_At p l e rm_MM_isType s m args below meth c Q m_cls D A 4 45 [] (m_cw ad ca ky ty u31_rt u31_Ni u31_Np u31_No u31_Nx u31_Nf u31_Na u31_Nh u31_Nq u31_Nj u31_M0 u31_M1) [] else o_At p l e rm_MM_isType s m args below meth c Q m_cls D A 4 60 [] (m_cw ad ca ky ty u31_rt u31_Ni u31_Np u31_No u31_Nx u31_Nf u31_Na u31_Nh u31_Nq u31_Nj u31_M0 u31_M1) [])) : o_At p l e rm_MM_isType s m args below meth c Q m_cls D A 4 31 [] (m_cw ad ca ky ty u31_rt u31_Ni u31_Np u31_No u31_Nx u31_Nf u31_Na u31_Nh u31_Nq u31_Nj u31_M0 u31_M1) [(0, .ref (ad 0)), (2, .int u31_x2), (3, .int z)] := by
  unfold m_MM_isType_b31 at h
  intro H locs ls hP hS hl
  have C0 := C
  obtain ⟨hx, hb, -, -, -, hown, hts, hK, -, -⟩ := C0
  refine lv_iload_n hx hb d_MM_isType_31 rfl (lv_at hl 2 rfl) ?_
  refine lv_if_lt (tgt := 60) hx hb d_MM_isType_32 (by decide) (fun c4 => ?_) (fun c4 => ?_)
  · replace h := o_tt c4 h
    cases h
    exact h1 (Nat.succ_ne_zero 1) _ _ _ hP hS (lv_sub hl [] rfl)
  · replace h := o_ff c4 h
    refine lv_aload_n hx hb d_MM_isType_35 rfl (lv_at hl 0 rfl) ?_
    refine lv_iload_n hx hb d_MM_isType_36 rfl (lv_at hl 2 rfl) ?_
    refine lv_iload_n hx hb d_MM_isType_37 rfl (lv_at hl 1 rfl) ?_
    refine lv_iconst (v := (1:Int32)) hx hb d_MM_isType_38 (by decide) ?_
    obtain ⟨q1, hq1, h⟩ := o_bd_some h
    refine o_V (st1 := [.int q1]) (w1 := (m_cw ad ca ky ty u31_rt u31_Ni u31_Np u31_No u31_Nx u31_Nf u31_Na u31_Nh u31_Nq u31_Nj u31_M0 u31_M1)) hE.1 C (e_MM_has hE hKy l n z u31_x2 (1:Int32) u31_M0 u31_M1 u31_Ni u31_Np u31_No u31_Nx u31_Nf u31_Na u31_Nh u31_Nq u31_Nj u31_rt hq1) hP (hDD _ _ _ _ _ _ _ _ _ _ _ _) hS hl.1 rfl mw_0 k_10_23 k_10_25 k_s_125 k_1_12 k_10_26 hv_MM_has rfl rfl ⟨(Nat.le_of_ble_eq_true rfl), (Nat.le_of_ble_eq_true rfl)⟩ rfl (Nat.le_of_ble_eq_true rfl) ⟨Nat.zero_le _, Nat.zero_le _⟩ rfl d_MM_isType_39 (fun H locs hP hS => ?_)
    refine lv_if_eq (tgt := 47) hx hb d_MM_isType_42 (by decide) (fun c5 => ?_) (fun c5 => ?_)
    · replace h := o_tt c5 h
      refine lv_aload_n hx hb d_MM_isType_47 rfl (lv_at hl 0 rfl) ?_
      refine o_get (v := .ref (ad 33)) C in_MM hP 0 mw_0 rfl 4 (by decide) k_7_234 rfl rfl d_MM_isType_48 ?_
      refine o_get (v := .ref (ad 41)) C in_MT hP 33 mw_33 rfl 7 (by decide) k_7_115 rfl rfl d_MM_isType_51 ?_
      refine lv_iload_n hx hb d_MM_isType_54 rfl (lv_at hl 2 rfl) ?_
      obtain ⟨g6, h⟩ := o_gd_some h
      refine o_iald (f := (MT_next u31_M0)) C hP 41 39 mw_41 rfl g6 d_MM_isType_55 ?_
      refine lv_topi (fun x3_56 ex3_56 => ?_)
      replace h := o_nm_at ex3_56 h
      refine lv_istore_n (lv' := [(3, .int x3_56), (0, .ref (ad 0)), (2, .int u31_x2)]) hx hb d_MM_isType_56 rfl hl (by decide) rfl (fun ls hl => ?_)
      refine lv_goto (tgt := 31) hx hb d_MM_isType_57 (by decide) ?_
      cases h
      exact h0 rfl _ _ _ hP hS (lv_sub hl [1, 2, 0] rfl)
    · replace h := o_ff c5 h
      cases h
      exact h1 (Nat.succ_ne_zero 0) _ _ _ hP hS (lv_sub hl [] rfl)
set_option maxHeartbeats 4000000 in
set_option maxRecDepth 100000 in
theorem e_MM_isType {E : (Nat → Prop) → State → Heap → Prop} {D : va_G} {ad kd sd vd xd : Nat → Nat} {ca : Nat → ClassId} {ky ty : Nat → Option Nat} (hE : o_EK E kd sd vd xd) (hKy : m_KY ky ty sd) (l : Launch) (n : Nat) (x1 : Int32) (x2 : Int32) (M0 : SMT) (M1 : SMT) (Ni : SNI) (Np : SNP) (No : SNO) (Nx : SNX) (Nf : SNF) (Na : SNA) (Nh : SNH) (Nq : SNQ) (Nj : SNJ) (rt : Nat) {r : Int32} (h : m_MM_isType n x1 x2 M0 M1 = some r) : o_Cn E l D m_cls (m_tys ca) y_MM_isType cc_MM_isType rm_MM_isType [.ref (ad 0), .int x1, .int x2] (m_cw ad ca ky ty rt Ni Np No Nx Nf Na Nh Nq Nj M0 M1) (m_cw ad ca ky ty rt Ni Np No Nx Nf Na Nh Nq Nj M0 M1) (some (.int r)) := by
  refine o_Cn_of (by decide) (Nat.le_of_ble_eq_true rfl) ?_
  intro p e s m below meth c A ls C hD hP hS hl
  have hDD : ∀ (rt : Nat) (Ni : SNI) (Np : SNP) (No : SNO) (Nx : SNX) (Nf : SNF) (Na : SNA) (Nh : SNH) (Nq : SNQ) (Nj : SNJ) (M0 : SMT) (M1 : SMT), va_D A (m_cw ad ca ky ty rt Ni Np No Nx Nf Na Nh Nq Nj M0 M1) := fun _ _ _ _ _ _ _ _ _ _ _ _ => o_D_map hD rfl
  have hl : lv_has ls 4 [(0, .ref (ad 0)), (1, .int x1), (2, .int x2)] := hl
  unfold m_MM_isType at h
  have C0 := C
  obtain ⟨hx, hb, -, -, -, hown, hts, hK, -, -⟩ := C0
  refine lv_aload_n hx hb d_MM_isType_0 rfl (lv_at hl 0 rfl) ?_
  refine o_get (v := .ref (ad 33)) C in_MM hP 0 mw_0 rfl 4 (by decide) k_7_234 rfl rfl d_MM_isType_1 ?_
  refine o_get (v := .ref (ad 35)) C in_MT hP 33 mw_33 rfl 1 (by decide) k_7_103 rfl rfl d_MM_isType_4 ?_
  refine lv_iload_n hx hb d_MM_isType_7 rfl (lv_at hl 1 rfl) ?_
  obtain ⟨g1, h⟩ := o_gd_some h
  refine o_iald (f := (MT_kind M0)) C hP 35 33 mw_35 rfl g1 d_MM_isType_8 ?_
  refine lv_iconst (v := (5:Int32)) hx hb d_MM_isType_9 (by decide) ?_
  refine lv_icmp_eq (tgt := 21) hx hb d_MM_isType_10 (by decide) (fun c2 => ?_) (fun c2 => ?_)
  · replace h := o_tt c2 h
    refine lv_aload_n hx hb d_MM_isType_21 rfl (lv_at hl 0 rfl) ?_
    refine o_get (v := .ref (ad 33)) C in_MM hP 0 mw_0 rfl 4 (by decide) k_7_234 rfl rfl d_MM_isType_22 ?_
    refine o_get (v := .ref (ad 40)) C in_MT hP 33 mw_33 rfl 6 (by decide) k_7_113 rfl rfl d_MM_isType_25 ?_
    refine lv_iload_n hx hb d_MM_isType_28 rfl (lv_at hl 1 rfl) ?_
    obtain ⟨g3, h⟩ := o_gd_some h
    refine o_iald (f := (MT_first M0)) C hP 40 38 mw_40 rfl g3 d_MM_isType_29 ?_
    refine lv_topi (fun x3_30 ex3_30 => ?_)
    replace h := o_nm_at ex3_30 h
    refine lv_istore_n (lv' := [(3, .int x3_30), (0, .ref (ad 0)), (1, .int x1), (2, .int x2)]) hx hb d_MM_isType_30 rfl hl (by decide) rfl (fun ls hl => ?_)
    obtain ⟨q2, hq2, h⟩ := o_bd_some h
    refine o_sim2 (AH := fun zz => o_At p l e rm_MM_isType s m _ below meth c _ m_cls D A 4 31 [] (m_cw ad ca ky ty rt Ni Np No Nx Nf Na Nh Nq Nj M0 M1) [(0, .ref (ad 0)), (2, .int x2), (3, .int zz)]) (AX := fun qq => if qq.1 = 1 then o_At p l e rm_MM_isType s m _ below meth c _ m_cls D A 4 45 [] (m_cw ad ca ky ty rt Ni Np No Nx Nf Na Nh Nq Nj M0 M1) [] else o_At p l e rm_MM_isType s m _ below meth c _ m_cls D A 4 60 [] (m_cw ad ca ky ty rt Ni Np No Nx Nf Na Nh Nq Nj M0 M1) []) (fun zz qq h h0 h1 => f_MM_isType_b31 hE hKy C hDD n x2 M0 M1 Ni Np No Nx Nf Na Nh Nq Nj rt zz qq h h0 h1) n _ q2 hq2 ?_ _ _ _ hP hS (lv_sub hl [1, 3, 0] rfl)
    by_cases c7 : q2.1 = 1
    · replace h := o_tt c7 h
      refine o_ip c7 ?_
      intro H locs ls hP hS hl
      refine lv_iconst (v := (1:Int32)) hx hb d_MM_isType_45 (by decide) ?_
      cases h
      exact o_rz (v := (1:Int32)) C o_nar1 hP hS d_MM_isType_46
    replace h := o_ff c7 h
    refine o_in_ c7 ?_
    intro H locs ls hP hS hl
    refine lv_iconst (v := (0:Int32)) hx hb d_MM_isType_60 (by decide) ?_
    cases h
    exact o_rz (v := (0:Int32)) C o_nar0 hP hS d_MM_isType_61
  · replace h := o_ff c2 h
    refine lv_aload_n hx hb d_MM_isType_13 rfl (lv_at hl 0 rfl) ?_
    refine lv_iload_n hx hb d_MM_isType_14 rfl (lv_at hl 1 rfl) ?_
    refine lv_iload_n hx hb d_MM_isType_15 rfl (lv_at hl 2 rfl) ?_
    refine lv_iconst (v := (1:Int32)) hx hb d_MM_isType_16 (by decide) ?_
    obtain ⟨q3, hq3, h⟩ := o_bd_some h
    refine o_V (st1 := [.int q3]) (w1 := (m_cw ad ca ky ty rt Ni Np No Nx Nf Na Nh Nq Nj M0 M1)) hE.1 C (e_MM_has hE hKy l n x1 x2 (1:Int32) M0 M1 Ni Np No Nx Nf Na Nh Nq Nj rt hq3) hP (hDD _ _ _ _ _ _ _ _ _ _ _ _) hS hl.1 rfl mw_0 k_10_23 k_10_25 k_s_125 k_1_12 k_10_26 hv_MM_has rfl rfl ⟨(Nat.le_of_ble_eq_true rfl), (Nat.le_of_ble_eq_true rfl)⟩ rfl (Nat.le_of_ble_eq_true rfl) ⟨Nat.zero_le _, Nat.zero_le _⟩ rfl d_MM_isType_17 (fun H locs hP hS => ?_)
    obtain ⟨g8, h⟩ := o_gd_some h
    cases h
    exact o_rz C (o_zb_nar g8) hP hS d_MM_isType_20
set_option maxHeartbeats 4000000 in
set_option maxRecDepth 100000 in
theorem f_MT_same_b20_ab {E : (Nat → Prop) → State → Heap → Prop} {p : Program} {l : Launch} {e : Env} {s : State} {m : MethodId} {args : Array Value} {below : List Frame} {meth : Method} {c : Code} {D : va_G} {ad kd sd vd xd : Nat → Nat} {ca : Nat → ClassId} {A : Nat → Prop} {ky ty : Nat → Option Nat} {Q : State → Prop} (hE : o_EK E kd sd vd xd) (hKy : m_KY ky ty sd) (C : o_Cx E p s m args meth c D m_cls (m_tys ca) "SchemaJudgeModel$Text" b_MT_same (some .boolean) 5 cc_MT_same A) (hDD : ∀ (rt : Nat) (Ni : SNI) (Np : SNP) (No : SNO) (Nx : SNX) (Nf : SNF) (Na : SNA) (Nh : SNH) (Nq : SNQ) (Nj : SNJ) (M0 : SMT) (M1 : SMT), va_D A (m_cw ad ca ky ty rt Ni Np No Nx Nf Na Nh Nq Nj M0 M1)) (n : Nat) (u20_x1 : Int32) (u20_x3 : Int32) (u20_a0 : SMT) (u20_a2 : SMT) (u20_Ni : SNI) (u20_Np : SNP) (u20_No : SNO) (u20_Nx : SNX) (u20_Nf : SNF) (u20_Na : SNA) (u20_Nh : SNH) (u20_Nq : SNQ) (u20_Nj : SNJ) (u20_rt : Nat) (z : Int32) (q : Nat × Int32) (h : m_MT_same_b20 n u20_x1 u20_x3 u20_a0 u20_a2 z = some q) (h0 : q.1 = 0 → o_At p l e rm_MT_same s m args below meth c Q m_cls D A 5 20 [] (m_cw ad ca ky ty u20_rt u20_Ni u20_Np u20_No u20_Nx u20_Nf u20_Na u20_Nh u20_Nq u20_Nj u20_a0 u20_a2) [(0, .ref (ad 33)), (1, .int u20_x1), (2, .ref (ad 48)), (3, .int u20_x3), (4, .int q.2)]) (h1 : q.1 ≠ 0 → (if q.1 = 1 then o_At p l e rm_MT_same s m args below meth c Q m_cls D A 5 62 [] (m_cw ad ca ky ty u20_rt u20_Ni u20_Np u20_No u20_Nx u20_Nf u20_Na u20_Nh u20_Nq u20_Nj u20_a0 u20_a2) [] else o_At p l e rm_MT_same s m args below meth c Q m_cls D A 5 70 [] (m_cw ad ca ky ty u20_rt u20_Ni u20_Np u20_No u20_Nx u20_Nf u20_Na u20_Nh u20_Nq u20_Nj u20_a0 u20_a2) [])) : o_At p l e rm_MT_same s m args below meth c Q m_cls D A 5 20 [] (m_cw ad ca ky ty u20_rt u20_Ni u20_Np u20_No u20_Nx u20_Nf u20_Na u20_Nh u20_Nq u20_Nj u20_a0 u20_a2) [(0, .ref (ad 33)), (1, .int u20_x1), (2, .ref (ad 48)), (3, .int u20_x3), (4, .int z)] := by
  unfold m_MT_same_b20 at h
  intro H locs ls hP hS hl
  have C0 := C
  obtain ⟨hx, hb, -, -, -, hown, hts, hK, -, -⟩ := C0
  refine lv_iload hx hb d_MT_same_20 (lv_at hl 4 rfl) ?_
  refine lv_aload_n hx hb d_MT_same_22 rfl (lv_at hl 0 rfl) ?_
  refine o_get (v := .ref (ad 37)) C in_MT hP 33 mw_33 rfl 3 (by decide) k_7_106 rfl rfl d_MT_same_23 ?_
  refine lv_iload_n hx hb d_MT_same_26 rfl (lv_at hl 1 rfl) ?_
  obtain ⟨g4, h⟩ := o_gd_some h
  refine o_iald (f := (MT_many u20_a0)) C hP 37 35 mw_37 rfl g4 d_MT_same_27 ?_
  refine lv_icmp_ge (tgt := 70) hx hb d_MT_same_28 (by decide) (fun c5 => ?_) (fun c5 => ?_)
  · replace h := o_tt c5 h
    cases h
    exact h1 (Nat.succ_ne_zero 1) _ _ _ hP hS (lv_sub hl [] rfl)
  · replace h := o_ff c5 h
    refine lv_aload_n hx hb d_MT_same_31 rfl (lv_at hl 0 rfl) ?_
    refine o_get (v := .ref (ad 44)) C in_MT hP 33 mw_33 rfl 10 (by decide) k_7_120 rfl rfl d_MT_same_32 ?_
    refine lv_aload_n hx hb d_MT_same_35 rfl (lv_at hl 0 rfl) ?_
    refine o_get (v := .ref (ad 43)) C in_MT hP 33 mw_33 rfl 9 (by decide) k_7_118 rfl rfl d_MT_same_36 ?_
    refine lv_iload_n hx hb d_MT_same_39 rfl (lv_at hl 1 rfl) ?_
    obtain ⟨g6, h⟩ := o_gd_some h
    refine o_iald (f := (MT_from u20_a0)) C hP 43 41 mw_43 rfl g6 d_MT_same_40 ?_
    refine lv_iload hx hb d_MT_same_41 (lv_at hl 4 rfl) ?_
    refine lv_iadd hx hb d_MT_same_43 ?_
    obtain ⟨g7, h⟩ := o_gd_some h
    refine o_iald (f := (MT_characters u20_a0)) C hP 44 42 mw_44 rfl g7 d_MT_same_44 ?_
    refine lv_aload_n hx hb d_MT_same_45 rfl (lv_at hl 2 rfl) ?_
    refine o_get (v := .ref (ad 59)) C in_MT hP 48 mw_48 rfl 10 (by decide) k_7_120 rfl rfl d_MT_same_46 ?_
    refine lv_aload_n hx hb d_MT_same_49 rfl (lv_at hl 2 rfl) ?_
    refine o_get (v := .ref (ad 58)) C in_MT hP 48 mw_48 rfl 9 (by decide) k_7_118 rfl rfl d_MT_same_50 ?_
    refine lv_iload_n hx hb d_MT_same_53 rfl (lv_at hl 3 rfl) ?_
    obtain ⟨g8, h⟩ := o_gd_some h
    refine o_iald (f := (MT_from u20_a2)) C hP 58 55 mw_58 rfl g8 d_MT_same_54 ?_
    refine lv_iload hx hb d_MT_same_55 (lv_at hl 4 rfl) ?_
    refine lv_iadd hx hb d_MT_same_57 ?_
    obtain ⟨g9, h⟩ := o_gd_some h
    refine o_iald (f := (MT_characters u20_a2)) C hP 59 56 mw_59 rfl g9 d_MT_same_58 ?_
    refine lv_icmp_eq (tgt := 64) hx hb d_MT_same_59 (by decide) (fun c10 => ?_) (fun c10 => ?_)
    · replace h := o_tt c10 h
      obtain ⟨x4_64, ex4_64⟩ : ∃ y : Int32, y = z + (1:Int32) := ⟨_, rfl⟩
      replace h := o_nm_at ex4_64 h
      refine lv_iinc (v := x4_64) (lv' := [(4, .int x4_64), (0, .ref (ad 33)), (1, .int u20_x1), (2, .ref (ad 48)), (3, .int u20_x3)]) hx hb d_MT_same_64 hl (k := 4) rfl (by rw [ex4_64]; rfl) (by decide) rfl (fun ls hl => ?_)
      refine lv_goto (tgt := 20) hx hb d_MT_same_67 (by decide) ?_
      cases h
      exact h0 rfl _ _ _ hP hS (lv_sub hl [1, 2, 3, 4, 0] rfl)
    · replace h := o_ff c10 h
      cases h
      exact h1 (Nat.succ_ne_zero 0) _ _ _ hP hS (lv_sub hl [] rfl)
set_option maxHeartbeats 4000000 in
set_option maxRecDepth 100000 in
theorem e_MT_same_ab {E : (Nat → Prop) → State → Heap → Prop} {D : va_G} {ad kd sd vd xd : Nat → Nat} {ca : Nat → ClassId} {ky ty : Nat → Option Nat} (hE : o_EK E kd sd vd xd) (hKy : m_KY ky ty sd) (l : Launch) (n : Nat) (x1 : Int32) (x3 : Int32) (a0 : SMT) (a2 : SMT) (Ni : SNI) (Np : SNP) (No : SNO) (Nx : SNX) (Nf : SNF) (Na : SNA) (Nh : SNH) (Nq : SNQ) (Nj : SNJ) (rt : Nat) {r : Int32} (h : m_MT_same n x1 x3 a0 a2 = some r) : o_Cn E l D m_cls (m_tys ca) y_MT_same cc_MT_same rm_MT_same [.ref (ad 33), .int x1, .ref (ad 48), .int x3] (m_cw ad ca ky ty rt Ni Np No Nx Nf Na Nh Nq Nj a0 a2) (m_cw ad ca ky ty rt Ni Np No Nx Nf Na Nh Nq Nj a0 a2) (some (.int r)) := by
  refine o_Cn_of (by decide) (Nat.le_of_ble_eq_true rfl) ?_
  intro p e s m below meth c A ls C hD hP hS hl
  have hDD : ∀ (rt : Nat) (Ni : SNI) (Np : SNP) (No : SNO) (Nx : SNX) (Nf : SNF) (Na : SNA) (Nh : SNH) (Nq : SNQ) (Nj : SNJ) (M0 : SMT) (M1 : SMT), va_D A (m_cw ad ca ky ty rt Ni Np No Nx Nf Na Nh Nq Nj M0 M1) := fun _ _ _ _ _ _ _ _ _ _ _ _ => o_D_map hD rfl
  have hl : lv_has ls 5 [(0, .ref (ad 33)), (1, .int x1), (2, .ref (ad 48)), (3, .int x3)] := hl
  unfold m_MT_same at h
  have C0 := C
  obtain ⟨hx, hb, -, -, -, hown, hts, hK, -, -⟩ := C0
  refine lv_aload_n hx hb d_MT_same_0 rfl (lv_at hl 0 rfl) ?_
  refine o_get (v := .ref (ad 37)) C in_MT hP 33 mw_33 rfl 3 (by decide) k_7_106 rfl rfl d_MT_same_1 ?_
  refine lv_iload_n hx hb d_MT_same_4 rfl (lv_at hl 1 rfl) ?_
  obtain ⟨g1, h⟩ := o_gd_some h
  refine o_iald (f := (MT_many a0)) C hP 37 35 mw_37 rfl g1 d_MT_same_5 ?_
  refine lv_aload_n hx hb d_MT_same_6 rfl (lv_at hl 2 rfl) ?_
  refine o_get (v := .ref (ad 52)) C in_MT hP 48 mw_48 rfl 3 (by decide) k_7_106 rfl rfl d_MT_same_7 ?_
  refine lv_iload_n hx hb d_MT_same_10 rfl (lv_at hl 3 rfl) ?_
  obtain ⟨g2, h⟩ := o_gd_some h
  refine o_iald (f := (MT_many a2)) C hP 52 49 mw_52 rfl g2 d_MT_same_11 ?_
  refine lv_icmp_eq (tgt := 17) hx hb d_MT_same_12 (by decide) (fun c3 => ?_) (fun c3 => ?_)
  · replace h := o_tt c3 h
    refine lv_iconst (v := (0:Int32)) hx hb d_MT_same_17 (by decide) ?_
    refine lv_istore (lv' := [(4, .int (0:Int32)), (0, .ref (ad 33)), (1, .int x1), (2, .ref (ad 48)), (3, .int x3)]) hx hb d_MT_same_18 hl (by decide) rfl (fun ls hl => ?_)
    obtain ⟨q1, hq1, h⟩ := o_bd_some h
    refine o_sim2 (AH := fun zz => o_At p l e rm_MT_same s m _ below meth c _ m_cls D A 5 20 [] (m_cw ad ca ky ty rt Ni Np No Nx Nf Na Nh Nq Nj a0 a2) [(0, .ref (ad 33)), (1, .int x1), (2, .ref (ad 48)), (3, .int x3), (4, .int zz)]) (AX := fun qq => if qq.1 = 1 then o_At p l e rm_MT_same s m _ below meth c _ m_cls D A 5 62 [] (m_cw ad ca ky ty rt Ni Np No Nx Nf Na Nh Nq Nj a0 a2) [] else o_At p l e rm_MT_same s m _ below meth c _ m_cls D A 5 70 [] (m_cw ad ca ky ty rt Ni Np No Nx Nf Na Nh Nq Nj a0 a2) []) (fun zz qq h h0 h1 => f_MT_same_b20_ab hE hKy C hDD n x1 x3 a0 a2 Ni Np No Nx Nf Na Nh Nq Nj rt zz qq h h0 h1) n _ q1 hq1 ?_ _ _ _ hP hS (lv_sub hl [1, 2, 3, 4, 0] rfl)
    by_cases c11 : q1.1 = 1
    · replace h := o_tt c11 h
      refine o_ip c11 ?_
      intro H locs ls hP hS hl
      refine lv_iconst (v := (0:Int32)) hx hb d_MT_same_62 (by decide) ?_
      cases h
      exact o_rz (v := (0:Int32)) C o_nar0 hP hS d_MT_same_63
    replace h := o_ff c11 h
    refine o_in_ c11 ?_
    intro H locs ls hP hS hl
    refine lv_iconst (v := (1:Int32)) hx hb d_MT_same_70 (by decide) ?_
    cases h
    exact o_rz (v := (1:Int32)) C o_nar1 hP hS d_MT_same_71
  · replace h := o_ff c3 h
    refine lv_iconst (v := (0:Int32)) hx hb d_MT_same_15 (by decide) ?_
    cases h
    exact o_rz (v := (0:Int32)) C o_nar0 hP hS d_MT_same_16
set_option maxHeartbeats 4000000 in
set_option maxRecDepth 100000 in
theorem f_MT_member_1_b8_ba {E : (Nat → Prop) → State → Heap → Prop} {p : Program} {l : Launch} {e : Env} {s : State} {m : MethodId} {args : Array Value} {below : List Frame} {meth : Method} {c : Code} {D : va_G} {ad kd sd vd xd : Nat → Nat} {ca : Nat → ClassId} {A : Nat → Prop} {ky ty : Nat → Option Nat} {Q : State → Prop} (hE : o_EK E kd sd vd xd) (hKy : m_KY ky ty sd) (C : o_Cx E p s m args meth c D m_cls (m_tys ca) "SchemaJudgeModel$Text" b_MT_member_1 (some .int) 5 cc_MT_member_1 A) (hDD : ∀ (rt : Nat) (Ni : SNI) (Np : SNP) (No : SNO) (Nx : SNX) (Nf : SNF) (Na : SNA) (Nh : SNH) (Nq : SNQ) (Nj : SNJ) (M0 : SMT) (M1 : SMT), va_D A (m_cw ad ca ky ty rt Ni Np No Nx Nf Na Nh Nq Nj M0 M1)) (n : Nat) (u8_x3 : Int32) (u8_a0 : SMT) (u8_a2 : SMT) (u8_Ni : SNI) (u8_Np : SNP) (u8_No : SNO) (u8_Nx : SNX) (u8_Nf : SNF) (u8_Na : SNA) (u8_Nh : SNH) (u8_Nq : SNQ) (u8_Nj : SNJ) (u8_rt : Nat) (z : Int32) (q : Nat × Int32) (h : m_MT_member_1_b8 n u8_x3 u8_a0 u8_a2 z = some q) (h0 : q.1 = 0 → o_At p l e rm_MT_member_1 s m args below meth c Q m_cls D A 5 8 [] (m_cw ad ca ky ty u8_rt u8_Ni u8_Np u8_No u8_Nx u8_Nf u8_Na u8_Nh u8_Nq u8_Nj u8_a2 u8_a0) [(0, .ref (ad 48)), (2, .ref (ad 33)), (3, .int u8_x3), (4, .int q.2)]) (h1 : q.1 ≠ 0 → (if q.1 = 1 then o_At p l e rm_MT_member_1 s m args below meth c Q m_cls D A 5 29 [] (m_cw ad ca ky ty u8_rt u8_Ni u8_Np u8_No u8_Nx u8_Nf u8_Na u8_Nh u8_Nq u8_Nj u8_a2 u8_a0) [(4, .int q.2)] else o_At p l e rm_MT_member_1 s m args below meth c Q m_cls D A 5 44 [] (m_cw ad ca ky ty u8_rt u8_Ni u8_Np u8_No u8_Nx u8_Nf u8_Na u8_Nh u8_Nq u8_Nj u8_a2 u8_a0) [])) : o_At p l e rm_MT_member_1 s m args below meth c Q m_cls D A 5 8 [] (m_cw ad ca ky ty u8_rt u8_Ni u8_Np u8_No u8_Nx u8_Nf u8_Na u8_Nh u8_Nq u8_Nj u8_a2 u8_a0) [(0, .ref (ad 48)), (2, .ref (ad 33)), (3, .int u8_x3), (4, .int z)] := by
  unfold m_MT_member_1_b8 at h
  intro H locs ls hP hS hl
  have C0 := C
  obtain ⟨hx, hb, -, -, -, hown, hts, hK, -, -⟩ := C0
  refine lv_iload hx hb d_MT_member_1_8 (lv_at hl 3 rfl) ?_
  refine lv_if_lt (tgt := 44) hx hb d_MT_member_1_10 (by decide) (fun c2 => ?_) (fun c2 => ?_)
  · replace h := o_tt c2 h
    cases h
    exact h1 (Nat.succ_ne_zero 1) _ _ _ hP hS (lv_sub hl [] rfl)
  · replace h := o_ff c2 h
    refine lv_aload_n hx hb d_MT_member_1_13 rfl (lv_at hl 1 rfl) ?_
    refine lv_iload_n hx hb d_MT_member_1_14 rfl (lv_at hl 2 rfl) ?_
    refine lv_aload_n hx hb d_MT_member_1_15 rfl (lv_at hl 0 rfl) ?_
    refine lv_aload_n hx hb d_MT_member_1_16 rfl (lv_at hl 0 rfl) ?_
    refine o_get (v := .ref (ad 57)) C in_MT hP 48 mw_48 rfl 8 (by decide) k_7_116 rfl rfl d_MT_member_1_17 ?_
    refine lv_iload hx hb d_MT_member_1_20 (lv_at hl 3 rfl) ?_
    obtain ⟨g3, h⟩ := o_gd_some h
    refine o_iald (f := (MT_name u8_a0)) C hP 57 54 mw_57 rfl g3 d_MT_member_1_22 ?_
    obtain ⟨q1, hq1, h⟩ := o_bd_some h
    refine o_V (st1 := [.int q1]) (w1 := (m_cw ad ca ky ty u8_rt u8_Ni u8_Np u8_No u8_Nx u8_Nf u8_Na u8_Nh u8_Nq u8_Nj u8_a2 u8_a0)) hE.1 C (e_MT_same_ab hE hKy l n u8_x3 ((MT_name u8_a0) z.toNatClampNeg) u8_a2 u8_a0 u8_Ni u8_Np u8_No u8_Nx u8_Nf u8_Na u8_Nh u8_Nq u8_Nj u8_rt hq1) hP (hDD _ _ _ _ _ _ _ _ _ _ _ _) hS hl.1 rfl mw_33 k_9_25 k_9_26 k_9_27 k_1_13 k_9_28 hv_MT_same rfl rfl ⟨(Nat.le_of_ble_eq_true rfl), (Nat.le_of_ble_eq_true rfl)⟩ rfl (Nat.le_of_ble_eq_true rfl) ⟨Nat.zero_le _, Nat.zero_le _⟩ rfl d_MT_member_1_23 (fun H locs hP hS => ?_)
    refine lv_if_eq (tgt := 32) hx hb d_MT_member_1_26 (by decide) (fun c4 => ?_) (fun c4 => ?_)
    · replace h := o_tt c4 h
      refine lv_aload_n hx hb d_MT_member_1_32 rfl (lv_at hl 0 rfl) ?_
      refine o_get (v := .ref (ad 56)) C in_MT hP 48 mw_48 rfl 7 (by decide) k_7_114 rfl rfl d_MT_member_1_33 ?_
      refine lv_iload hx hb d_MT_member_1_36 (lv_at hl 3 rfl) ?_
      obtain ⟨g5, h⟩ := o_gd_some h
      refine o_iald (f := (MT_next u8_a0)) C hP 56 53 mw_56 rfl g5 d_MT_member_1_38 ?_
      refine lv_topi (fun x4_39 ex4_39 => ?_)
      replace h := o_nm_at ex4_39 h
      refine lv_istore (lv' := [(4, .int x4_39), (0, .ref (ad 48)), (2, .ref (ad 33)), (3, .int u8_x3)]) hx hb d_MT_member_1_39 hl (by decide) rfl (fun ls hl => ?_)
      refine lv_goto (tgt := 8) hx hb d_MT_member_1_41 (by decide) ?_
      cases h
      exact h0 rfl _ _ _ hP hS (lv_sub hl [1, 2, 3, 0] rfl)
    · replace h := o_ff c4 h
      cases h
      exact h1 (Nat.succ_ne_zero 0) _ _ _ hP hS (lv_sub hl [3] rfl)
set_option maxHeartbeats 4000000 in
set_option maxRecDepth 100000 in
theorem e_MT_member_1_ba {E : (Nat → Prop) → State → Heap → Prop} {D : va_G} {ad kd sd vd xd : Nat → Nat} {ca : Nat → ClassId} {ky ty : Nat → Option Nat} (hE : o_EK E kd sd vd xd) (hKy : m_KY ky ty sd) (l : Launch) (n : Nat) (x1 : Int32) (x3 : Int32) (a0 : SMT) (a2 : SMT) (Ni : SNI) (Np : SNP) (No : SNO) (Nx : SNX) (Nf : SNF) (Na : SNA) (Nh : SNH) (Nq : SNQ) (Nj : SNJ) (rt : Nat) {r : Int32} (h : m_MT_member_1 n x1 x3 a0 a2 = some r) : o_Cn E l D m_cls (m_tys ca) y_MT_member_1 cc_MT_member_1 rm_MT_member_1 [.ref (ad 48), .int x1, .ref (ad 33), .int x3] (m_cw ad ca ky ty rt Ni Np No Nx Nf Na Nh Nq Nj a2 a0) (m_cw ad ca ky ty rt Ni Np No Nx Nf Na Nh Nq Nj a2 a0) (some (.int r)) := by
  refine o_Cn_of (by decide) (Nat.le_of_ble_eq_true rfl) ?_
  intro p e s m below meth c A ls C hD hP hS hl
  have hDD : ∀ (rt : Nat) (Ni : SNI) (Np : SNP) (No : SNO) (Nx : SNX) (Nf : SNF) (Na : SNA) (Nh : SNH) (Nq : SNQ) (Nj : SNJ) (M0 : SMT) (M1 : SMT), va_D A (m_cw ad ca ky ty rt Ni Np No Nx Nf Na Nh Nq Nj M0 M1) := fun _ _ _ _ _ _ _ _ _ _ _ _ => o_D_map hD rfl
  have hl : lv_has ls 5 [(0, .ref (ad 48)), (1, .int x1), (2, .ref (ad 33)), (3, .int x3)] := hl
  unfold m_MT_member_1 at h
  have C0 := C
  obtain ⟨hx, hb, -, -, -, hown, hts, hK, -, -⟩ := C0
  refine lv_aload_n hx hb d_MT_member_1_0 rfl (lv_at hl 0 rfl) ?_
  refine o_get (v := .ref (ad 55)) C in_MT hP 48 mw_48 rfl 6 (by decide) k_7_112 rfl rfl d_MT_member_1_1 ?_
  refine lv_iload_n hx hb d_MT_member_1_4 rfl (lv_at hl 1 rfl) ?_
  obtain ⟨g1, h⟩ := o_gd_some h
  refine o_iald (f := (MT_first a0)) C hP 55 52 mw_55 rfl g1 d_MT_member_1_5 ?_
  refine lv_topi (fun x4_6 ex4_6 => ?_)
  replace h := o_nm_at ex4_6 h
  refine lv_istore (lv' := [(4, .int x4_6), (0, .ref (ad 48)), (1, .int x1), (2, .ref (ad 33)), (3, .int x3)]) hx hb d_MT_member_1_6 hl (by decide) rfl (fun ls hl => ?_)
  obtain ⟨q2, hq2, h⟩ := o_bd_some h
  refine o_sim2 (AH := fun zz => o_At p l e rm_MT_member_1 s m _ below meth c _ m_cls D A 5 8 [] (m_cw ad ca ky ty rt Ni Np No Nx Nf Na Nh Nq Nj a2 a0) [(0, .ref (ad 48)), (2, .ref (ad 33)), (3, .int x3), (4, .int zz)]) (AX := fun qq => if qq.1 = 1 then o_At p l e rm_MT_member_1 s m _ below meth c _ m_cls D A 5 29 [] (m_cw ad ca ky ty rt Ni Np No Nx Nf Na Nh Nq Nj a2 a0) [(4, .int qq.2)] else o_At p l e rm_MT_member_1 s m _ below meth c _ m_cls D A 5 44 [] (m_cw ad ca ky ty rt Ni Np No Nx Nf Na Nh Nq Nj a2 a0) []) (fun zz qq h h0 h1 => f_MT_member_1_b8_ba hE hKy C hDD n x3 a0 a2 Ni Np No Nx Nf Na Nh Nq Nj rt zz qq h h0 h1) n _ q2 hq2 ?_ _ _ _ hP hS (lv_sub hl [1, 3, 4, 0] rfl)
  by_cases c6 : q2.1 = 1
  · replace h := o_tt c6 h
    refine o_ip c6 ?_
    intro H locs ls hP hS hl
    refine lv_iload hx hb d_MT_member_1_29 (lv_at hl 0 rfl) ?_
    cases h
    exact o_ri C hP hS d_MT_member_1_31
  replace h := o_ff c6 h
  refine o_in_ c6 ?_
  intro H locs ls hP hS hl
  refine lv_iconst (v := (-1:Int32)) hx hb d_MT_member_1_44 (by decide) ?_
  cases h
  exact o_ri (v := (-1:Int32)) C hP hS d_MT_member_1_45
set_option maxHeartbeats 4000000 in
set_option maxRecDepth 100000 in
theorem f_MM_requires_b10 {E : (Nat → Prop) → State → Heap → Prop} {p : Program} {l : Launch} {e : Env} {s : State} {m : MethodId} {args : Array Value} {below : List Frame} {meth : Method} {c : Code} {D : va_G} {ad kd sd vd xd : Nat → Nat} {ca : Nat → ClassId} {A : Nat → Prop} {ky ty : Nat → Option Nat} {Q : State → Prop} (hE : o_EK E kd sd vd xd) (hKy : m_KY ky ty sd) (C : o_Cx E p s m args meth c D m_cls (m_tys ca) "SchemaJudgeModel" b_MM_requires (some .boolean) 4 cc_MM_requires A) (hDD : ∀ (rt : Nat) (Ni : SNI) (Np : SNP) (No : SNO) (Nx : SNX) (Nf : SNF) (Na : SNA) (Nh : SNH) (Nq : SNQ) (Nj : SNJ) (M0 : SMT) (M1 : SMT), va_D A (m_cw ad ca ky ty rt Ni Np No Nx Nf Na Nh Nq Nj M0 M1)) (n : Nat) (u10_x2 : Int32) (u10_M0 : SMT) (u10_M1 : SMT) (u10_Ni : SNI) (u10_Np : SNP) (u10_No : SNO) (u10_Nx : SNX) (u10_Nf : SNF) (u10_Na : SNA) (u10_Nh : SNH) (u10_Nq : SNQ) (u10_Nj : SNJ) (u10_rt : Nat) (z : Int32) (q : Nat × Int32) (h : m_MM_requires_b10 n u10_x2 u10_M0 u10_M1 z = some q) (h0 : q.1 = 0 → o_At p l e rm_MM_requires s m args below meth c Q m_cls D A 4 10 [] (m_cw ad ca ky ty u10_rt u10_Ni u10_Np u10_No u10_Nx u10_Nf u10_Na u10_Nh u10_Nq u10_Nj u10_M0 u10_M1) [(0, .ref (ad 0)), (2, .int u10_x2), (3, .int q.2)]) (h1 : q.1 ≠ 0 → (if q.1 = 1 then o_At p l e rm_MM_requires s m args below meth c Q m_cls D A 4 30 [] (m_cw ad ca ky ty u10_rt u10_Ni u10_Np u10_No u10_Nx u10_Nf u10_Na u10_Nh u10_Nq u10_Nj u10_M0 u10_M1) [] else o_At p l e rm_MM_requires s m args below meth c Q m_cls D A 4 45 [] (m_cw ad ca ky ty u10_rt u10_Ni u10_Np u10_No u10_Nx u10_Nf u10_Na u10_Nh u10_Nq u10_Nj u10_M0 u10_M1) [])) : o_At p l e rm_MM_requires s m args below meth c Q m_cls D A 4 10 [] (m_cw ad ca ky ty u10_rt u10_Ni u10_Np u10_No u10_Nx u10_Nf u10_Na u10_Nh u10_Nq u10_Nj u10_M0 u10_M1) [(0, .ref (ad 0)), (2, .int u10_x2), (3, .int z)] := by
  unfold m_MM_requires_b10 at h
  intro H locs ls hP hS hl
  have C0 := C
  obtain ⟨hx, hb, -, -, -, hown, hts, hK, -, -⟩ := C0
  refine lv_iload_n hx hb d_MM_requires_10 rfl (lv_at hl 2 rfl) ?_
  refine lv_if_lt (tgt := 45) hx hb d_MM_requires_11 (by decide) (fun c2 => ?_) (fun c2 => ?_)
  · replace h := o_tt c2 h
    cases h
    exact h1 (Nat.succ_ne_zero 1) _ _ _ hP hS (lv_sub hl [] rfl)
  · replace h := o_ff c2 h
    refine lv_aload_n hx hb d_MM_requires_14 rfl (lv_at hl 0 rfl) ?_
    refine o_get (v := .ref (ad 48)) C in_MM hP 0 mw_0 rfl 5 (by decide) k_7_235 rfl rfl d_MM_requires_15 ?_
    refine lv_iload_n hx hb d_MM_requires_18 rfl (lv_at hl 1 rfl) ?_
    refine lv_aload_n hx hb d_MM_requires_19 rfl (lv_at hl 0 rfl) ?_
    refine o_get (v := .ref (ad 33)) C in_MM hP 0 mw_0 rfl 4 (by decide) k_7_234 rfl rfl d_MM_requires_20 ?_
    refine lv_iload_n hx hb d_MM_requires_23 rfl (lv_at hl 2 rfl) ?_
    obtain ⟨q1, hq1, h⟩ := o_bd_some h
    refine o_V (st1 := [.int q1]) (w1 := (m_cw ad ca ky ty u10_rt u10_Ni u10_Np u10_No u10_Nx u10_Nf u10_Na u10_Nh u10_Nq u10_Nj u10_M0 u10_M1)) hE.1 C (e_MT_member_1_ba hE hKy l n u10_x2 z u10_M1 u10_M0 u10_Ni u10_Np u10_No u10_Nx u10_Nf u10_Na u10_Nh u10_Nq u10_Nj u10_rt hq1) hP (hDD _ _ _ _ _ _ _ _ _ _ _ _) hS hl.1 rfl mw_48 k_9_239 k_10_0 k_10_1 k_1_13 k_10_2 hv_MT_member_1 rfl rfl ⟨(Nat.le_of_ble_eq_true rfl), (Nat.le_of_ble_eq_true rfl)⟩ rfl (Nat.le_of_ble_eq_true rfl) ⟨Nat.zero_le _, Nat.zero_le _⟩ rfl d_MM_requires_24 (fun H locs hP hS => ?_)
    refine lv_if_ge (tgt := 32) hx hb d_MM_requires_27 (by decide) (fun c3 => ?_) (fun c3 => ?_)
    · replace h := o_tt c3 h
      refine lv_aload_n hx hb d_MM_requires_32 rfl (lv_at hl 0 rfl) ?_
      refine o_get (v := .ref (ad 33)) C in_MM hP 0 mw_0 rfl 4 (by decide) k_7_234 rfl rfl d_MM_requires_33 ?_
      refine o_get (v := .ref (ad 41)) C in_MT hP 33 mw_33 rfl 7 (by decide) k_7_115 rfl rfl d_MM_requires_36 ?_
      refine lv_iload_n hx hb d_MM_requires_39 rfl (lv_at hl 2 rfl) ?_
      obtain ⟨g4, h⟩ := o_gd_some h
      refine o_iald (f := (MT_next u10_M0)) C hP 41 39 mw_41 rfl g4 d_MM_requires_40 ?_
      refine lv_topi (fun x3_41 ex3_41 => ?_)
      replace h := o_nm_at ex3_41 h
      refine lv_istore_n (lv' := [(3, .int x3_41), (0, .ref (ad 0)), (2, .int u10_x2)]) hx hb d_MM_requires_41 rfl hl (by decide) rfl (fun ls hl => ?_)
      refine lv_goto (tgt := 10) hx hb d_MM_requires_42 (by decide) ?_
      cases h
      exact h0 rfl _ _ _ hP hS (lv_sub hl [1, 2, 0] rfl)
    · replace h := o_ff c3 h
      cases h
      exact h1 (Nat.succ_ne_zero 0) _ _ _ hP hS (lv_sub hl [] rfl)
set_option maxHeartbeats 4000000 in
set_option maxRecDepth 100000 in
theorem e_MM_requires {E : (Nat → Prop) → State → Heap → Prop} {D : va_G} {ad kd sd vd xd : Nat → Nat} {ca : Nat → ClassId} {ky ty : Nat → Option Nat} (hE : o_EK E kd sd vd xd) (hKy : m_KY ky ty sd) (l : Launch) (n : Nat) (x1 : Int32) (x2 : Int32) (M0 : SMT) (M1 : SMT) (Ni : SNI) (Np : SNP) (No : SNO) (Nx : SNX) (Nf : SNF) (Na : SNA) (Nh : SNH) (Nq : SNQ) (Nj : SNJ) (rt : Nat) {r : Int32} (h : m_MM_requires n x1 x2 M0 M1 = some r) : o_Cn E l D m_cls (m_tys ca) y_MM_requires cc_MM_requires rm_MM_requires [.ref (ad 0), .int x1, .int x2] (m_cw ad ca ky ty rt Ni Np No Nx Nf Na Nh Nq Nj M0 M1) (m_cw ad ca ky ty rt Ni Np No Nx Nf Na Nh Nq Nj M0 M1) (some (.int r)) := by
  refine o_Cn_of (by decide) (Nat.le_of_ble_eq_true rfl) ?_
  intro p e s m below meth c A ls C hD hP hS hl
  have hDD : ∀ (rt : Nat) (Ni : SNI) (Np : SNP) (No : SNO) (Nx : SNX) (Nf : SNF) (Na : SNA) (Nh : SNH) (Nq : SNQ) (Nj : SNJ) (M0 : SMT) (M1 : SMT), va_D A (m_cw ad ca ky ty rt Ni Np No Nx Nf Na Nh Nq Nj M0 M1) := fun _ _ _ _ _ _ _ _ _ _ _ _ => o_D_map hD rfl
  have hl : lv_has ls 4 [(0, .ref (ad 0)), (1, .int x1), (2, .int x2)] := hl
  unfold m_MM_requires at h
  have C0 := C
  obtain ⟨hx, hb, -, -, -, hown, hts, hK, -, -⟩ := C0
  refine lv_aload_n hx hb d_MM_requires_0 rfl (lv_at hl 0 rfl) ?_
  refine o_get (v := .ref (ad 33)) C in_MM hP 0 mw_0 rfl 4 (by decide) k_7_234 rfl rfl d_MM_requires_1 ?_
  refine o_get (v := .ref (ad 40)) C in_MT hP 33 mw_33 rfl 6 (by decide) k_7_113 rfl rfl d_MM_requires_4 ?_
  refine lv_iload_n hx hb d_MM_requires_7 rfl (lv_at hl 1 rfl) ?_
  obtain ⟨g1, h⟩ := o_gd_some h
  refine o_iald (f := (MT_first M0)) C hP 40 38 mw_40 rfl g1 d_MM_requires_8 ?_
  refine lv_topi (fun x3_9 ex3_9 => ?_)
  replace h := o_nm_at ex3_9 h
  refine lv_istore_n (lv' := [(3, .int x3_9), (0, .ref (ad 0)), (1, .int x1), (2, .int x2)]) hx hb d_MM_requires_9 rfl hl (by decide) rfl (fun ls hl => ?_)
  obtain ⟨q2, hq2, h⟩ := o_bd_some h
  refine o_sim2 (AH := fun zz => o_At p l e rm_MM_requires s m _ below meth c _ m_cls D A 4 10 [] (m_cw ad ca ky ty rt Ni Np No Nx Nf Na Nh Nq Nj M0 M1) [(0, .ref (ad 0)), (2, .int x2), (3, .int zz)]) (AX := fun qq => if qq.1 = 1 then o_At p l e rm_MM_requires s m _ below meth c _ m_cls D A 4 30 [] (m_cw ad ca ky ty rt Ni Np No Nx Nf Na Nh Nq Nj M0 M1) [] else o_At p l e rm_MM_requires s m _ below meth c _ m_cls D A 4 45 [] (m_cw ad ca ky ty rt Ni Np No Nx Nf Na Nh Nq Nj M0 M1) []) (fun zz qq h h0 h1 => f_MM_requires_b10 hE hKy C hDD n x2 M0 M1 Ni Np No Nx Nf Na Nh Nq Nj rt zz qq h h0 h1) n _ q2 hq2 ?_ _ _ _ hP hS (lv_sub hl [1, 3, 0] rfl)
  by_cases c5 : q2.1 = 1
  · replace h := o_tt c5 h
    refine o_ip c5 ?_
    intro H locs ls hP hS hl
    refine lv_iconst (v := (0:Int32)) hx hb d_MM_requires_30 (by decide) ?_
    cases h
    exact o_rz (v := (0:Int32)) C o_nar0 hP hS d_MM_requires_31
  replace h := o_ff c5 h
  refine o_in_ c5 ?_
  intro H locs ls hP hS hl
  refine lv_iconst (v := (1:Int32)) hx hb d_MM_requires_45 (by decide) ?_
  cases h
  exact o_rz (v := (1:Int32)) C o_nar1 hP hS d_MM_requires_46
set_option maxHeartbeats 4000000 in
set_option maxRecDepth 100000 in
theorem f_MM_placeOf_b13 {E : (Nat → Prop) → State → Heap → Prop} {p : Program} {l : Launch} {e : Env} {s : State} {m : MethodId} {args : Array Value} {below : List Frame} {meth : Method} {c : Code} {D : va_G} {ad kd sd vd xd : Nat → Nat} {ca : Nat → ClassId} {A : Nat → Prop} {ky ty : Nat → Option Nat} {Q : State → Prop} (hE : o_EK E kd sd vd xd) (hKy : m_KY ky ty sd) (C : o_Cx E p s m args meth c D m_cls (m_tys ca) "SchemaJudgeModel" b_MM_placeOf (some .int) 5 cc_MM_placeOf A) (hDD : ∀ (rt : Nat) (Ni : SNI) (Np : SNP) (No : SNO) (Nx : SNX) (Nf : SNF) (Na : SNA) (Nh : SNH) (Nq : SNQ) (Nj : SNJ) (M0 : SMT) (M1 : SMT), va_D A (m_cw ad ca ky ty rt Ni Np No Nx Nf Na Nh Nq Nj M0 M1)) (n : Nat) (u13_x2 : Int32) (u13_M1 : SMT) (u13_Ni : SNI) (u13_Np : SNP) (u13_No : SNO) (u13_Nx : SNX) (u13_Nf : SNF) (u13_Na : SNA) (u13_Nh : SNH) (u13_Nq : SNQ) (u13_Nj : SNJ) (u13_M0 : SMT) (u13_rt : Nat) (z : Int32 × Int32) (q : Nat × Int32 × Int32) (h : m_MM_placeOf_b13 n u13_x2 u13_M1 z = some q) (h0 : q.1 = 0 → o_At p l e rm_MM_placeOf s m args below meth c Q m_cls D A 5 13 [] (m_cw ad ca ky ty u13_rt u13_Ni u13_Np u13_No u13_Nx u13_Nf u13_Na u13_Nh u13_Nq u13_Nj u13_M0 u13_M1) [(0, .ref (ad 0)), (2, .int u13_x2), (3, .int q.2.1), (4, .int q.2.2)]) (h1 : q.1 ≠ 0 → (o_At p l e rm_MM_placeOf s m args below meth c Q m_cls D A 5 37 [] (m_cw ad ca ky ty u13_rt u13_Ni u13_Np u13_No u13_Nx u13_Nf u13_Na u13_Nh u13_Nq u13_Nj u13_M0 u13_M1) [(3, .int q.2.1)])) : o_At p l e rm_MM_placeOf s m args below meth c Q m_cls D A 5 13 [] (m_cw ad ca ky ty u13_rt u13_Ni u13_Np u13_No u13_Nx u13_Nf u13_Na u13_Nh u13_Nq u13_Nj u13_M0 u13_M1) [(0, .ref (ad 0)), (2, .int u13_x2), (3, .int z.1), (4, .int z.2)] := by
  unfold m_MM_placeOf_b13 at h
  intro H locs ls hP hS hl
  have C0 := C
  obtain ⟨hx, hb, -, -, -, hown, hts, hK, -, -⟩ := C0
  refine lv_iload hx hb d_MM_placeOf_13 (lv_at hl 3 rfl) ?_
  refine lv_iload_n hx hb d_MM_placeOf_15 rfl (lv_at hl 1 rfl) ?_
  refine lv_icmp_eq (tgt := 37) hx hb d_MM_placeOf_16 (by decide) (fun c2 => ?_) (fun c2 => ?_)
  · replace h := o_tt c2 h
    cases h
    exact h1 (Nat.succ_ne_zero 0) _ _ _ hP hS (lv_sub hl [2] rfl)
  · replace h := o_ff c2 h
    obtain ⟨x3_19, ex3_19⟩ : ∃ y : Int32, y = z.1 + (1:Int32) := ⟨_, rfl⟩
    replace h := o_nm_at ex3_19 h
    refine lv_iinc (v := x3_19) (lv' := [(3, .int x3_19), (0, .ref (ad 0)), (2, .int u13_x2), (4, .int z.2)]) hx hb d_MM_placeOf_19 hl (k := 2) rfl (by rw [ex3_19]; rfl) (by decide) rfl (fun ls hl => ?_)
    refine lv_aload_n hx hb d_MM_placeOf_22 rfl (lv_at hl 1 rfl) ?_
    refine o_get (v := .ref (ad 48)) C in_MM hP 0 mw_0 rfl 5 (by decide) k_7_235 rfl rfl d_MM_placeOf_23 ?_
    refine o_get (v := .ref (ad 56)) C in_MT hP 48 mw_48 rfl 7 (by decide) k_7_115 rfl rfl d_MM_placeOf_26 ?_
    refine lv_iload hx hb d_MM_placeOf_29 (lv_at hl 3 rfl) ?_
    obtain ⟨g3, h⟩ := o_gd_some h
    refine o_iald (f := (MT_next u13_M1)) C hP 56 53 mw_56 rfl g3 d_MM_placeOf_31 ?_
    refine lv_topi (fun x4_32 ex4_32 => ?_)
    replace h := o_nm_at ex4_32 h
    refine lv_istore (lv' := [(4, .int x4_32), (3, .int x3_19), (0, .ref (ad 0)), (2, .int u13_x2)]) hx hb d_MM_placeOf_32 hl (by decide) rfl (fun ls hl => ?_)
    refine lv_goto (tgt := 13) hx hb d_MM_placeOf_34 (by decide) ?_
    cases h
    exact h0 rfl _ _ _ hP hS (lv_sub hl [2, 3, 1, 0] rfl)
set_option maxHeartbeats 4000000 in
set_option maxRecDepth 100000 in
theorem e_MM_placeOf {E : (Nat → Prop) → State → Heap → Prop} {D : va_G} {ad kd sd vd xd : Nat → Nat} {ca : Nat → ClassId} {ky ty : Nat → Option Nat} (hE : o_EK E kd sd vd xd) (hKy : m_KY ky ty sd) (l : Launch) (n : Nat) (x1 : Int32) (x2 : Int32) (M1 : SMT) (Ni : SNI) (Np : SNP) (No : SNO) (Nx : SNX) (Nf : SNF) (Na : SNA) (Nh : SNH) (Nq : SNQ) (Nj : SNJ) (M0 : SMT) (rt : Nat) {r : Int32} (h : m_MM_placeOf n x1 x2 M1 = some r) : o_Cn E l D m_cls (m_tys ca) y_MM_placeOf cc_MM_placeOf rm_MM_placeOf [.ref (ad 0), .int x1, .int x2] (m_cw ad ca ky ty rt Ni Np No Nx Nf Na Nh Nq Nj M0 M1) (m_cw ad ca ky ty rt Ni Np No Nx Nf Na Nh Nq Nj M0 M1) (some (.int r)) := by
  refine o_Cn_of (by decide) (Nat.le_of_ble_eq_true rfl) ?_
  intro p e s m below meth c A ls C hD hP hS hl
  have hDD : ∀ (rt : Nat) (Ni : SNI) (Np : SNP) (No : SNO) (Nx : SNX) (Nf : SNF) (Na : SNA) (Nh : SNH) (Nq : SNQ) (Nj : SNJ) (M0 : SMT) (M1 : SMT), va_D A (m_cw ad ca ky ty rt Ni Np No Nx Nf Na Nh Nq Nj M0 M1) := fun _ _ _ _ _ _ _ _ _ _ _ _ => o_D_map hD rfl
  have hl : lv_has ls 5 [(0, .ref (ad 0)), (1, .int x1), (2, .int x2)] := hl
  unfold m_MM_placeOf at h
  have C0 := C
  obtain ⟨hx, hb, -, -, -, hown, hts, hK, -, -⟩ := C0
  refine lv_iconst (v := (0:Int32)) hx hb d_MM_placeOf_0 (by decide) ?_
  refine lv_istore_n (lv' := [(3, .int (0:Int32)), (0, .ref (ad 0)), (1, .int x1), (2, .int x2)]) hx hb d_MM_placeOf_1 rfl hl (by decide) rfl (fun ls hl => ?_)
  refine lv_aload_n hx hb d_MM_placeOf_2 rfl (lv_at hl 1 rfl) ?_
  refine o_get (v := .ref (ad 48)) C in_MM hP 0 mw_0 rfl 5 (by decide) k_7_235 rfl rfl d_MM_placeOf_3 ?_
  refine o_get (v := .ref (ad 55)) C in_MT hP 48 mw_48 rfl 6 (by decide) k_7_113 rfl rfl d_MM_placeOf_6 ?_
  refine lv_iload_n hx hb d_MM_placeOf_9 rfl (lv_at hl 2 rfl) ?_
  obtain ⟨g1, h⟩ := o_gd_some h
  refine o_iald (f := (MT_first M1)) C hP 55 52 mw_55 rfl g1 d_MM_placeOf_10 ?_
  refine lv_topi (fun x4_11 ex4_11 => ?_)
  replace h := o_nm_at ex4_11 h
  refine lv_istore (lv' := [(4, .int x4_11), (3, .int (0:Int32)), (0, .ref (ad 0)), (1, .int x1), (2, .int x2)]) hx hb d_MM_placeOf_11 hl (by decide) rfl (fun ls hl => ?_)
  obtain ⟨q1, hq1, h⟩ := o_bd_some h
  refine o_sim2 (AH := fun zz => o_At p l e rm_MM_placeOf s m _ below meth c _ m_cls D A 5 13 [] (m_cw ad ca ky ty rt Ni Np No Nx Nf Na Nh Nq Nj M0 M1) [(0, .ref (ad 0)), (2, .int x2), (3, .int zz.1), (4, .int zz.2)]) (AX := fun qq => o_At p l e rm_MM_placeOf s m _ below meth c _ m_cls D A 5 37 [] (m_cw ad ca ky ty rt Ni Np No Nx Nf Na Nh Nq Nj M0 M1) [(3, .int qq.2.1)]) (fun zz qq h h0 h1 => f_MM_placeOf_b13 hE hKy C hDD n x2 M1 Ni Np No Nx Nf Na Nh Nq Nj M0 rt zz qq h h0 h1) n _ q1 hq1 ?_ _ _ _ hP hS (lv_sub hl [2, 4, 1, 0] rfl)
  intro H locs ls hP hS hl
  refine lv_iload_n hx hb d_MM_placeOf_37 rfl (lv_at hl 0 rfl) ?_
  cases h
  exact o_ri C hP hS d_MM_placeOf_38
set_option maxHeartbeats 4000000 in
set_option maxRecDepth 100000 in
theorem f_MM_matches_j166_b {E : (Nat → Prop) → State → Heap → Prop} {p : Program} {l : Launch} {e : Env} {s : State} {m : MethodId} {args : Array Value} {below : List Frame} {meth : Method} {c : Code} {D : va_G} {ad kd sd vd xd : Nat → Nat} {ca : Nat → ClassId} {A : Nat → Prop} {ky ty : Nat → Option Nat} {Q : State → Prop} (hE : o_EK E kd sd vd xd) (hKy : m_KY ky ty sd) (C : o_Cx E p s m args meth c D m_cls (m_tys ca) "SchemaJudgeModel" b_MM_matches (some .boolean) 8 cc_MM_matches A) (hDD : ∀ (rt : Nat) (Ni : SNI) (Np : SNP) (No : SNO) (Nx : SNX) (Nf : SNF) (Na : SNA) (Nh : SNH) (Nq : SNQ) (Nj : SNJ) (M0 : SMT) (M1 : SMT), va_D A (m_cw ad ca ky ty rt Ni Np No Nx Nf Na Nh Nq Nj M0 M1)) (n : Nat) (u110_x2 : Int32) (u110_x3 : Int32) (u110_x4 : Int32) (u110_x5 : Int32) (u110_x6 : Int32) (u110_a1 : SMT) (u110_Np : SNP) (u110_No : SNO) (u110_Ni : SNI) (u110_Nf : SNF) (u110_Na : SNA) (u110_Nh : SNH) (u110_Nq : SNQ) (u110_Nj : SNJ) (u110_M0 : SMT) (u110_rt : Nat) (x7 : Int32) (y2 : Int32) (y3 : Int32) (y4 : Int32) (Nx : SNX) {q : Nat × Int32 × SNX} (h : m_MM_matches_j166 n u110_x2 u110_x3 u110_x4 u110_x5 u110_x6 x7 y2 y3 y4 u110_a1 u110_Np u110_No Nx = some q) (h0 : q.1 = 0 → o_At p l e rm_MM_matches s m args below meth c Q m_cls D A 8 110 [] (m_cw ad ca ky ty u110_rt u110_Ni u110_Np u110_No q.2.2 u110_Nf u110_Na u110_Nh u110_Nq u110_Nj u110_M0 u110_a1) [(0, .ref (ad 0)), (1, .ref (ad 48)), (2, .int u110_x2), (3, .int u110_x3), (4, .int u110_x4), (5, .int u110_x5), (6, .int u110_x6), (7, .int q.2.1)]) (h1 : q.1 ≠ 0 → (if q.1 = 1 then o_At p l e rm_MM_matches s m args below meth c Q m_cls D A 8 172 [] (m_cw ad ca ky ty u110_rt u110_Ni u110_Np u110_No q.2.2 u110_Nf u110_Na u110_Nh u110_Nq u110_Nj u110_M0 u110_a1) [] else o_At p l e rm_MM_matches s m args below meth c Q m_cls D A 8 180 [] (m_cw ad ca ky ty u110_rt u110_Ni u110_Np u110_No q.2.2 u110_Nf u110_Na u110_Nh u110_Nq u110_Nj u110_M0 u110_a1) [(0, .ref (ad 0)), (1, .ref (ad 48)), (2, .int u110_x2), (3, .int u110_x3), (5, .int u110_x5)])) : o_At p l e rm_MM_matches s m args below meth c Q m_cls D A 8 166 [.int y4, .int y3, .int y2, .ref (ad 17), .ref (ad 0)] (m_cw ad ca ky ty u110_rt u110_Ni u110_Np u110_No Nx u110_Nf u110_Na u110_Nh u110_Nq u110_Nj u110_M0 u110_a1) [(0, .ref (ad 0)), (1, .ref (ad 48)), (2, .int u110_x2), (3, .int u110_x3), (4, .int u110_x4), (5, .int u110_x5), (6, .int u110_x6), (7, .int x7)] := by
  unfold m_MM_matches_j166 at h
  intro H locs ls hP hS hl
  have C0 := C
  obtain ⟨hx, hb, -, -, -, hown, hts, hK, -, -⟩ := C0
  obtain ⟨q4, hq4, h⟩ := o_bd_some h
  refine o_V (st1 := [.int q4.1]) (w1 := (m_cw ad ca ky ty u110_rt u110_Ni u110_Np u110_No q4.2 u110_Nf u110_Na u110_Nh u110_Nq u110_Nj u110_M0 u110_a1)) hE.1 C (e_MM_thread_then hE hKy l n y2 y3 y4 u110_No Nx u110_Ni u110_Np u110_Nf u110_Na u110_Nh u110_Nq u110_Nj u110_M0 u110_a1 u110_rt hq4) hP (hDD _ _ _ _ _ _ _ _ _ _ _ _) hS hl.1 rfl mw_0 k_10_43 k_10_45 k_s_128 k_1_12 k_10_46 hv_MM_thread rfl rfl ⟨(Nat.le_of_ble_eq_true rfl), (Nat.le_of_ble_eq_true rfl)⟩ rfl (Nat.le_of_ble_eq_true rfl) ⟨Nat.zero_le _, Nat.zero_le _⟩ rfl d_MM_matches_166 (fun H locs hP hS => ?_)
  refine lv_if_eq (tgt := 174) hx hb d_MM_matches_169 (by decide) (fun c16 => ?_) (fun c16 => ?_)
  · replace h := o_tt c16 h
    obtain ⟨x7_174, ex7_174⟩ : ∃ y : Int32, y = x7 + (1:Int32) := ⟨_, rfl⟩
    replace h := o_nm_at ex7_174 h
    refine lv_iinc (v := x7_174) (lv' := [(7, .int x7_174), (0, .ref (ad 0)), (1, .ref (ad 48)), (2, .int u110_x2), (3, .int u110_x3), (4, .int u110_x4), (5, .int u110_x5), (6, .int u110_x6)]) hx hb d_MM_matches_174 hl (k := 7) rfl (by rw [ex7_174]; rfl) (by decide) rfl (fun ls hl => ?_)
    refine lv_goto (tgt := 110) hx hb d_MM_matches_177 (by decide) ?_
    cases h
    exact h0 rfl _ _ _ hP hS (lv_sub hl [1, 2, 3, 4, 5, 6, 7, 0] rfl)
  · replace h := o_ff c16 h
    cases h
    exact h1 (Nat.succ_ne_zero 0) _ _ _ hP hS (lv_sub hl [] rfl)
set_option maxHeartbeats 4000000 in
set_option maxRecDepth 100000 in
theorem f_MM_matches_b110_b {E : (Nat → Prop) → State → Heap → Prop} {p : Program} {l : Launch} {e : Env} {s : State} {m : MethodId} {args : Array Value} {below : List Frame} {meth : Method} {c : Code} {D : va_G} {ad kd sd vd xd : Nat → Nat} {ca : Nat → ClassId} {A : Nat → Prop} {ky ty : Nat → Option Nat} {Q : State → Prop} (hE : o_EK E kd sd vd xd) (hKy : m_KY ky ty sd) (C : o_Cx E p s m args meth c D m_cls (m_tys ca) "SchemaJudgeModel" b_MM_matches (some .boolean) 8 cc_MM_matches A) (hDD : ∀ (rt : Nat) (Ni : SNI) (Np : SNP) (No : SNO) (Nx : SNX) (Nf : SNF) (Na : SNA) (Nh : SNH) (Nq : SNQ) (Nj : SNJ) (M0 : SMT) (M1 : SMT), va_D A (m_cw ad ca ky ty rt Ni Np No Nx Nf Na Nh Nq Nj M0 M1)) (n : Nat) (u110_x2 : Int32) (u110_x3 : Int32) (u110_x4 : Int32) (u110_x5 : Int32) (u110_x6 : Int32) (u110_a1 : SMT) (u110_Np : SNP) (u110_No : SNO) (u110_Ni : SNI) (u110_Nf : SNF) (u110_Na : SNA) (u110_Nh : SNH) (u110_Nq : SNQ) (u110_Nj : SNJ) (u110_M0 : SMT) (u110_rt : Nat) (z : Int32 × SNX) (q : Nat × Int32 × SNX) (h : m_MM_matches_b110 n u110_x2 u110_x3 u110_x4 u110_x5 u110_x6 u110_a1 u110_Np u110_No z = some q) (h0 : q.1 = 0 → o_At p l e rm_MM_matches s m args below meth c Q m_cls D A 8 110 [] (m_cw ad ca ky ty u110_rt u110_Ni u110_Np u110_No q.2.2 u110_Nf u110_Na u110_Nh u110_Nq u110_Nj u110_M0 u110_a1) [(0, .ref (ad 0)), (1, .ref (ad 48)), (2, .int u110_x2), (3, .int u110_x3), (4, .int u110_x4), (5, .int u110_x5), (6, .int u110_x6), (7, .int q.2.1)]) (h1 : q.1 ≠ 0 → (if q.1 = 1 then o_At p l e rm_MM_matches s m args below meth c Q m_cls D A 8 172 [] (m_cw ad ca ky ty u110_rt u110_Ni u110_Np u110_No q.2.2 u110_Nf u110_Na u110_Nh u110_Nq u110_Nj u110_M0 u110_a1) [] else o_At p l e rm_MM_matches s m args below meth c Q m_cls D A 8 180 [] (m_cw ad ca ky ty u110_rt u110_Ni u110_Np u110_No q.2.2 u110_Nf u110_Na u110_Nh u110_Nq u110_Nj u110_M0 u110_a1) [(0, .ref (ad 0)), (1, .ref (ad 48)), (2, .int u110_x2), (3, .int u110_x3), (5, .int u110_x5)])) : o_At p l e rm_MM_matches s m args below meth c Q m_cls D A 8 110 [] (m_cw ad ca ky ty u110_rt u110_Ni u110_Np u110_No z.2 u110_Nf u110_Na u110_Nh u110_Nq u110_Nj u110_M0 u110_a1) [(0, .ref (ad 0)), (1, .ref (ad 48)), (2, .int u110_x2), (3, .int u110_x3), (4, .int u110_x4), (5, .int u110_x5), (6, .int u110_x6), (7, .int z.1)] := by
  unfold m_MM_matches_b110 at h
  intro H locs ls hP hS hl
  have C0 := C
  obtain ⟨hx, hb, -, -, -, hown, hts, hK, -, -⟩ := C0
  refine lv_iload hx hb d_MM_matches_110 (lv_at hl 7 rfl) ?_
  refine lv_iload hx hb d_MM_matches_112 (lv_at hl 4 rfl) ?_
  refine lv_icmp_ge (tgt := 180) hx hb d_MM_matches_114 (by decide) (fun c10 => ?_) (fun c10 => ?_)
  · replace h := o_tt c10 h
    cases h
    exact h1 (Nat.succ_ne_zero 1) _ _ _ hP hS (lv_sub hl [0, 1, 2, 3, 5] rfl)
  · replace h := o_ff c10 h
    refine lv_aload_n hx hb d_MM_matches_117 rfl (lv_at hl 0 rfl) ?_
    refine lv_aload_n hx hb d_MM_matches_118 rfl (lv_at hl 0 rfl) ?_
    refine o_get (v := .ref (ad 13)) C in_MM hP 0 mw_0 rfl 17 (by decide) k_8_7 rfl rfl d_MM_matches_119 ?_
    refine lv_aload_n hx hb d_MM_matches_122 rfl (lv_at hl 0 rfl) ?_
    refine o_get (v := .ref (ad 16)) C in_MM hP 0 mw_0 rfl 20 (by decide) k_8_10 rfl rfl d_MM_matches_123 ?_
    refine lv_iload hx hb d_MM_matches_126 (lv_at hl 7 rfl) ?_
    obtain ⟨g11, h⟩ := o_gd_some h
    refine o_iald (f := (NX_now z.2)) C hP 16 15 mw_16 rfl g11 d_MM_matches_128 ?_
    obtain ⟨g12, h⟩ := o_gd_some h
    refine o_iald (f := (NO_opA u110_No)) C hP 13 12 mw_13 rfl g12 d_MM_matches_129 ?_
    refine lv_iload hx hb d_MM_matches_130 (lv_at hl 6 rfl) ?_
    obtain ⟨q3, hq3, h⟩ := o_bd_some h
    refine o_V (st1 := [.int q3]) (w1 := (m_cw ad ca ky ty u110_rt u110_Ni u110_Np u110_No z.2 u110_Nf u110_Na u110_Nh u110_Nq u110_Nj u110_M0 u110_a1)) hE.1 C (e_MM_has_1 hE hKy l n ((NO_opA u110_No) ((NX_now z.2) z.1.toNatClampNeg).toNatClampNeg) u110_x6 u110_Np u110_Ni u110_No z.2 u110_Nf u110_Na u110_Nh u110_Nq u110_Nj u110_M0 u110_a1 u110_rt hq3) hP (hDD _ _ _ _ _ _ _ _ _ _ _ _) hS hl.1 rfl mw_0 k_10_47 k_10_49 k_s_129 k_1_12 k_10_50 hv_MM_has_1 rfl rfl ⟨(Nat.le_of_ble_eq_true rfl), (Nat.le_of_ble_eq_true rfl)⟩ rfl (Nat.le_of_ble_eq_true rfl) ⟨Nat.zero_le _, Nat.zero_le _⟩ rfl d_MM_matches_132 (fun H locs hP hS => ?_)
    refine lv_if_eq (tgt := 174) hx hb d_MM_matches_135 (by decide) (fun c13 => ?_) (fun c13 => ?_)
    · replace h := o_tt c13 h
      obtain ⟨x7_174, ex7_174⟩ : ∃ y : Int32, y = z.1 + (1:Int32) := ⟨_, rfl⟩
      replace h := o_nm_at ex7_174 h
      refine lv_iinc (v := x7_174) (lv' := [(7, .int x7_174), (0, .ref (ad 0)), (1, .ref (ad 48)), (2, .int u110_x2), (3, .int u110_x3), (4, .int u110_x4), (5, .int u110_x5), (6, .int u110_x6)]) hx hb d_MM_matches_174 hl (k := 7) rfl (by rw [ex7_174]; rfl) (by decide) rfl (fun ls hl => ?_)
      refine lv_goto (tgt := 110) hx hb d_MM_matches_177 (by decide) ?_
      cases h
      exact h0 rfl _ _ _ hP hS (lv_sub hl [1, 2, 3, 4, 5, 6, 7, 0] rfl)
    · replace h := o_ff c13 h
      refine lv_aload_n hx hb d_MM_matches_138 rfl (lv_at hl 0 rfl) ?_
      refine lv_aload_n hx hb d_MM_matches_139 rfl (lv_at hl 0 rfl) ?_
      refine o_get (v := .ref (ad 17)) C in_MM hP 0 mw_0 rfl 21 (by decide) k_8_11 rfl rfl d_MM_matches_140 ?_
      refine lv_aload_n hx hb d_MM_matches_143 rfl (lv_at hl 0 rfl) ?_
      refine o_get (v := .ref (ad 16)) C in_MM hP 0 mw_0 rfl 20 (by decide) k_8_10 rfl rfl d_MM_matches_144 ?_
      refine lv_iload hx hb d_MM_matches_147 (lv_at hl 7 rfl) ?_
      obtain ⟨g14, h⟩ := o_gd_some h
      refine o_iald (f := (NX_now z.2)) C hP 16 15 mw_16 rfl g14 d_MM_matches_149 ?_
      refine lv_iconst (v := (1:Int32)) hx hb d_MM_matches_150 (by decide) ?_
      refine lv_iadd hx hb d_MM_matches_151 ?_
      refine lv_iconst (v := (0:Int32)) hx hb d_MM_matches_152 (by decide) ?_
      refine lv_iload hx hb d_MM_matches_153 (lv_at hl 5 rfl) ?_
      refine lv_iconst (v := (1:Int32)) hx hb d_MM_matches_155 (by decide) ?_
      refine lv_iadd hx hb d_MM_matches_156 ?_
      refine lv_iload_n hx hb d_MM_matches_157 rfl (lv_at hl 3 rfl) ?_
      refine lv_icmp_ne (tgt := 165) hx hb d_MM_matches_158 (by decide) (fun c15 => ?_) (fun c15 => ?_)
      · replace h := o_ff c15 h
        refine lv_iconst (v := (0:Int32)) hx hb d_MM_matches_165 (by decide) ?_
        exact f_MM_matches_j166_b hE hKy C hDD n u110_x2 u110_x3 u110_x4 u110_x5 u110_x6 u110_a1 u110_Np u110_No u110_Ni u110_Nf u110_Na u110_Nh u110_Nq u110_Nj u110_M0 u110_rt z.1 (((NX_now z.2) z.1.toNatClampNeg) + (1:Int32)) (0:Int32) (0:Int32) z.2 h h0 h1 _ _ _ hP hS (lv_sub hl [0, 1, 2, 3, 4, 5, 6, 7] rfl)
      · replace h := o_tt c15 h
        refine lv_iconst (v := (1:Int32)) hx hb d_MM_matches_161 (by decide) ?_
        refine lv_goto (tgt := 166) hx hb d_MM_matches_162 (by decide) ?_
        exact f_MM_matches_j166_b hE hKy C hDD n u110_x2 u110_x3 u110_x4 u110_x5 u110_x6 u110_a1 u110_Np u110_No u110_Ni u110_Nf u110_Na u110_Nh u110_Nq u110_Nj u110_M0 u110_rt z.1 (((NX_now z.2) z.1.toNatClampNeg) + (1:Int32)) (0:Int32) (1:Int32) z.2 h h0 h1 _ _ _ hP hS (lv_sub hl [0, 1, 2, 3, 4, 5, 6, 7] rfl)
set_option maxHeartbeats 4000000 in
set_option maxRecDepth 100000 in
theorem f_MM_matches_b183_b {E : (Nat → Prop) → State → Heap → Prop} {p : Program} {l : Launch} {e : Env} {s : State} {m : MethodId} {args : Array Value} {below : List Frame} {meth : Method} {c : Code} {D : va_G} {ad kd sd vd xd : Nat → Nat} {ca : Nat → ClassId} {A : Nat → Prop} {ky ty : Nat → Option Nat} {Q : State → Prop} (hE : o_EK E kd sd vd xd) (hKy : m_KY ky ty sd) (C : o_Cx E p s m args meth c D m_cls (m_tys ca) "SchemaJudgeModel" b_MM_matches (some .boolean) 8 cc_MM_matches A) (hDD : ∀ (rt : Nat) (Ni : SNI) (Np : SNP) (No : SNO) (Nx : SNX) (Nf : SNF) (Na : SNA) (Nh : SNH) (Nq : SNQ) (Nj : SNJ) (M0 : SMT) (M1 : SMT), va_D A (m_cw ad ca ky ty rt Ni Np No Nx Nf Na Nh Nq Nj M0 M1)) (n : Nat) (u183_x2 : Int32) (u183_x3 : Int32) (u183_x5 : Int32) (u183_a1 : SMT) (u183_Np : SNP) (u183_No : SNO) (u183_Ni : SNI) (u183_Nf : SNF) (u183_Na : SNA) (u183_Nh : SNH) (u183_Nq : SNQ) (u183_Nj : SNJ) (u183_M0 : SMT) (u183_rt : Nat) (z : Int32 × SNX) (q : Nat × Int32 × SNX) (h : m_MM_matches_b183 n u183_x2 u183_x3 u183_x5 u183_a1 u183_Np u183_No z = some q) (h0 : q.1 = 0 → o_At p l e rm_MM_matches s m args below meth c Q m_cls D A 8 183 [] (m_cw ad ca ky ty u183_rt u183_Ni u183_Np u183_No q.2.2 u183_Nf u183_Na u183_Nh u183_Nq u183_Nj u183_M0 u183_a1) [(0, .ref (ad 0)), (1, .ref (ad 48)), (2, .int u183_x2), (3, .int u183_x3), (5, .int u183_x5), (7, .int q.2.1)]) (h1 : q.1 ≠ 0 → (o_At p l e rm_MM_matches s m args below meth c Q m_cls D A 8 212 [] (m_cw ad ca ky ty u183_rt u183_Ni u183_Np u183_No q.2.2 u183_Nf u183_Na u183_Nh u183_Nq u183_Nj u183_M0 u183_a1) [(0, .ref (ad 0)), (1, .ref (ad 48)), (2, .int u183_x2), (3, .int u183_x3), (5, .int u183_x5)])) : o_At p l e rm_MM_matches s m args below meth c Q m_cls D A 8 183 [] (m_cw ad ca ky ty u183_rt u183_Ni u183_Np u183_No z.2 u183_Nf u183_Na u183_Nh u183_Nq u183_Nj u183_M0 u183_a1) [(0, .ref (ad 0)), (1, .ref (ad 48)), (2, .int u183_x2), (3, .int u183_x3), (5, .int u183_x5), (7, .int z.1)] := by
  unfold m_MM_matches_b183 at h
  intro H locs ls hP hS hl
  have C0 := C
  obtain ⟨hx, hb, -, -, -, hown, hts, hK, -, -⟩ := C0
  refine lv_iload hx hb d_MM_matches_183 (lv_at hl 5 rfl) ?_
  refine lv_aload_n hx hb d_MM_matches_185 rfl (lv_at hl 0 rfl) ?_
  refine o_get (v := .int (NX_many1 z.2)) C in_MM hP 0 mw_0 rfl 30 (by decide) k_8_20 rfl rfl d_MM_matches_186 ?_
  refine lv_icmp_ge (tgt := 212) hx hb d_MM_matches_189 (by decide) (fun c17 => ?_) (fun c17 => ?_)
  · replace h := o_tt c17 h
    cases h
    exact h1 (Nat.succ_ne_zero 0) _ _ _ hP hS (lv_sub hl [0, 1, 2, 3, 4] rfl)
  · replace h := o_ff c17 h
    refine lv_aload_n hx hb d_MM_matches_192 rfl (lv_at hl 0 rfl) ?_
    refine o_get (v := .ref (ad 16)) C in_MM hP 0 mw_0 rfl 20 (by decide) k_8_10 rfl rfl d_MM_matches_193 ?_
    refine lv_iload hx hb d_MM_matches_196 (lv_at hl 5 rfl) ?_
    refine lv_aload_n hx hb d_MM_matches_198 rfl (lv_at hl 0 rfl) ?_
    refine o_get (v := .ref (ad 17)) C in_MM hP 0 mw_0 rfl 21 (by decide) k_8_11 rfl rfl d_MM_matches_199 ?_
    refine lv_iload hx hb d_MM_matches_202 (lv_at hl 5 rfl) ?_
    obtain ⟨g18, h⟩ := o_gd_some h
    refine o_iald (f := (NX_then z.2)) C hP 17 16 mw_17 rfl g18 d_MM_matches_204 ?_
    obtain ⟨g19, h⟩ := o_gd_some h
    refine o_iast (f := (NX_now z.2)) (w1 := (m_cw ad ca ky ty u183_rt u183_Ni u183_Np u183_No (NX_mk (NX_mark z.2) (upd (NX_now z.2) z.1.toNatClampNeg ((NX_then z.2) z.1.toNatClampNeg)) (NX_then z.2) (NX_todo z.2) (NX_round z.2) (NX_many1 z.2)) u183_Nf u183_Na u183_Nh u183_Nq u183_Nj u183_M0 u183_a1)) C hP (hDD _ _ _ _ _ _ _ _ _ _ _ _) hS 16 15 mw_16 rfl g19 rfl d_MM_matches_205 (fun H locs hP hS => ?_)
    obtain ⟨x7_206, ex7_206⟩ : ∃ y : Int32, y = z.1 + (1:Int32) := ⟨_, rfl⟩
    replace h := o_nm_at ex7_206 h
    refine lv_iinc (v := x7_206) (lv' := [(7, .int x7_206), (0, .ref (ad 0)), (1, .ref (ad 48)), (2, .int u183_x2), (3, .int u183_x3), (5, .int u183_x5)]) hx hb d_MM_matches_206 hl (k := 5) rfl (by rw [ex7_206]; rfl) (by decide) rfl (fun ls hl => ?_)
    refine lv_goto (tgt := 183) hx hb d_MM_matches_209 (by decide) ?_
    cases h
    exact h0 rfl _ _ _ hP hS (lv_sub hl [1, 2, 3, 4, 5, 0] rfl)
set_option maxHeartbeats 4000000 in
set_option maxRecDepth 100000 in
theorem f_MM_matches_j60_b {E : (Nat → Prop) → State → Heap → Prop} {p : Program} {l : Launch} {e : Env} {s : State} {m : MethodId} {args : Array Value} {below : List Frame} {meth : Method} {c : Code} {D : va_G} {ad kd sd vd xd : Nat → Nat} {ca : Nat → ClassId} {A : Nat → Prop} {ky ty : Nat → Option Nat} {Q : State → Prop} (hE : o_EK E kd sd vd xd) (hKy : m_KY ky ty sd) (C : o_Cx E p s m args meth c D m_cls (m_tys ca) "SchemaJudgeModel" b_MM_matches (some .boolean) 8 cc_MM_matches A) (hDD : ∀ (rt : Nat) (Ni : SNI) (Np : SNP) (No : SNO) (Nx : SNX) (Nf : SNF) (Na : SNA) (Nh : SNH) (Nq : SNQ) (Nj : SNJ) (M0 : SMT) (M1 : SMT), va_D A (m_cw ad ca ky ty rt Ni Np No Nx Nf Na Nh Nq Nj M0 M1)) (n : Nat) (u13_x2 : Int32) (u13_x3 : Int32) (u13_a1 : SMT) (u13_Np : SNP) (u13_No : SNO) (u13_Ni : SNI) (u13_Nf : SNF) (u13_Na : SNA) (u13_Nh : SNH) (u13_Nq : SNQ) (u13_Nj : SNJ) (u13_M0 : SMT) (u13_rt : Nat) (x5 : Int32) (y2 : Int32) (y3 : Int32) (y4 : Int32) (Nx : SNX) {q : Nat × Int32 × SNX} (h : m_MM_matches_j60 n u13_x2 u13_x3 x5 y2 y3 y4 u13_a1 u13_Np u13_No Nx = some q) (h0 : q.1 = 0 → o_At p l e rm_MM_matches s m args below meth c Q m_cls D A 8 13 [] (m_cw ad ca ky ty u13_rt u13_Ni u13_Np u13_No q.2.2 u13_Nf u13_Na u13_Nh u13_Nq u13_Nj u13_M0 u13_a1) [(0, .ref (ad 0)), (1, .ref (ad 48)), (2, .int u13_x2), (3, .int u13_x3), (5, .int q.2.1)]) (h1 : q.1 ≠ 0 → (if q.1 = 1 then o_At p l e rm_MM_matches s m args below meth c Q m_cls D A 8 66 [] (m_cw ad ca ky ty u13_rt u13_Ni u13_Np u13_No q.2.2 u13_Nf u13_Na u13_Nh u13_Nq u13_Nj u13_M0 u13_a1) [] else if q.1 = 2 then o_At p l e rm_MM_matches s m args below meth c Q m_cls D A 8 80 [] (m_cw ad ca ky ty u13_rt u13_Ni u13_Np u13_No q.2.2 u13_Nf u13_Na u13_Nh u13_Nq u13_Nj u13_M0 u13_a1) [] else if q.1 = 3 then o_At p l e rm_MM_matches s m args below meth c Q m_cls D A 8 172 [] (m_cw ad ca ky ty u13_rt u13_Ni u13_Np u13_No q.2.2 u13_Nf u13_Na u13_Nh u13_Nq u13_Nj u13_M0 u13_a1) [] else o_At p l e rm_MM_matches s m args below meth c Q m_cls D A 8 218 [] (m_cw ad ca ky ty u13_rt u13_Ni u13_Np u13_No q.2.2 u13_Nf u13_Na u13_Nh u13_Nq u13_Nj u13_M0 u13_a1) [])) : o_At p l e rm_MM_matches s m args below meth c Q m_cls D A 8 60 [.int y4, .int y3, .int y2, .ref (ad 16), .ref (ad 0)] (m_cw ad ca ky ty u13_rt u13_Ni u13_Np u13_No Nx u13_Nf u13_Na u13_Nh u13_Nq u13_Nj u13_M0 u13_a1) [(0, .ref (ad 0)), (1, .ref (ad 48)), (2, .int u13_x2), (3, .int u13_x3), (5, .int x5)] := by
  unfold m_MM_matches_j60 at h
  intro H locs ls hP hS hl
  have C0 := C
  obtain ⟨hx, hb, -, -, -, hown, hts, hK, -, -⟩ := C0
  obtain ⟨q1, hq1, h⟩ := o_bd_some h
  refine o_V (st1 := [.int q1.1]) (w1 := (m_cw ad ca ky ty u13_rt u13_Ni u13_Np u13_No q1.2 u13_Nf u13_Na u13_Nh u13_Nq u13_Nj u13_M0 u13_a1)) hE.1 C (e_MM_thread_now hE hKy l n y2 y3 y4 u13_No Nx u13_Ni u13_Np u13_Nf u13_Na u13_Nh u13_Nq u13_Nj u13_M0 u13_a1 u13_rt hq1) hP (hDD _ _ _ _ _ _ _ _ _ _ _ _) hS hl.1 rfl mw_0 k_10_43 k_10_45 k_s_128 k_1_12 k_10_46 hv_MM_thread rfl rfl ⟨(Nat.le_of_ble_eq_true rfl), (Nat.le_of_ble_eq_true rfl)⟩ rfl (Nat.le_of_ble_eq_true rfl) ⟨Nat.zero_le _, Nat.zero_le _⟩ rfl d_MM_matches_60 (fun H locs hP hS => ?_)
  refine lv_if_eq (tgt := 68) hx hb d_MM_matches_63 (by decide) (fun c6 => ?_) (fun c6 => ?_)
  · replace h := o_tt c6 h
    refine lv_aload_n hx hb d_MM_matches_68 rfl (lv_at hl 0 rfl) ?_
    refine o_get (v := .int (NX_many1 q1.2)) C in_MM hP 0 mw_0 rfl 30 (by decide) k_8_20 rfl rfl d_MM_matches_69 ?_
    refine lv_topi (fun x4_72 ex4_72 => ?_)
    replace h := o_nm_at ex4_72 h
    refine lv_istore (lv' := [(4, .int x4_72), (0, .ref (ad 0)), (1, .ref (ad 48)), (2, .int u13_x2), (3, .int u13_x3), (5, .int x5)]) hx hb d_MM_matches_72 hl (by decide) rfl (fun ls hl => ?_)
    refine lv_iload hx hb d_MM_matches_74 (lv_at hl 5 rfl) ?_
    refine lv_iload_n hx hb d_MM_matches_76 rfl (lv_at hl 4 rfl) ?_
    refine lv_icmp_ne (tgt := 82) hx hb d_MM_matches_77 (by decide) (fun c7 => ?_) (fun c7 => ?_)
    · replace h := o_ff c7 h
      refine lv_aload_n hx hb d_MM_matches_82 rfl (lv_at hl 2 rfl) ?_
      refine o_get (v := .ref (ad 59)) C in_MT hP 48 mw_48 rfl 10 (by decide) k_7_121 rfl rfl d_MM_matches_83 ?_
      refine lv_aload_n hx hb d_MM_matches_86 rfl (lv_at hl 2 rfl) ?_
      refine o_get (v := .ref (ad 58)) C in_MT hP 48 mw_48 rfl 9 (by decide) k_7_119 rfl rfl d_MM_matches_87 ?_
      refine lv_iload_n hx hb d_MM_matches_90 rfl (lv_at hl 3 rfl) ?_
      obtain ⟨g8, h⟩ := o_gd_some h
      refine o_iald (f := (MT_from u13_a1)) C hP 58 55 mw_58 rfl g8 d_MM_matches_91 ?_
      refine lv_iload hx hb d_MM_matches_92 (lv_at hl 5 rfl) ?_
      refine lv_iadd hx hb d_MM_matches_94 ?_
      obtain ⟨g9, h⟩ := o_gd_some h
      refine o_iald (f := (MT_characters u13_a1)) C hP 59 56 mw_59 rfl g9 d_MM_matches_95 ?_
      refine lv_topi (fun x6_96 ex6_96 => ?_)
      replace h := o_nm_at ex6_96 h
      refine lv_istore (lv' := [(6, .int x6_96), (4, .int x4_72), (0, .ref (ad 0)), (1, .ref (ad 48)), (2, .int u13_x2), (3, .int u13_x3), (5, .int x5)]) hx hb d_MM_matches_96 hl (by decide) rfl (fun ls hl => ?_)
      refine lv_aload_n hx hb d_MM_matches_98 rfl (lv_at hl 2 rfl) ?_
      obtain ⟨q2, hq2, h⟩ := o_bd_some h
      refine o_V (st1 := []) (w1 := (m_cw ad ca ky ty u13_rt u13_Ni u13_Np u13_No q2 u13_Nf u13_Na u13_Nh u13_Nq u13_Nj u13_M0 u13_a1)) hE.1 C (e_MM_turn hE hKy l n q1.2 u13_Ni u13_Np u13_No u13_Nf u13_Na u13_Nh u13_Nq u13_Nj u13_M0 u13_a1 u13_rt hq2) hP (hDD _ _ _ _ _ _ _ _ _ _ _ _) hS hl.1 rfl mw_0 k_10_38 k_10_40 k_s_127 k_1_12 k_10_41 hv_MM_turn rfl rfl ⟨(Nat.le_of_ble_eq_true rfl), (Nat.le_of_ble_eq_true rfl)⟩ rfl (Nat.le_of_ble_eq_true rfl) ⟨Nat.zero_le _, Nat.zero_le _⟩ rfl d_MM_matches_99 (fun H locs hP hS => ?_)
      refine lv_aload_n hx hb d_MM_matches_102 rfl (lv_at hl 2 rfl) ?_
      refine lv_iconst (v := (0:Int32)) hx hb d_MM_matches_103 (by decide) ?_
      refine o_put (v := .int (0:Int32)) (ty := .int) (w1 := (m_cw ad ca ky ty u13_rt u13_Ni u13_Np u13_No (NX_mk (NX_mark q2) (NX_now q2) (NX_then q2) (NX_todo q2) (NX_round q2) (0:Int32)) u13_Nf u13_Na u13_Nh u13_Nq u13_Nj u13_M0 u13_a1)) C in_MM t_MM t_MM_ok n_MM hP (hDD _ _ _ _ _ _ _ _ _ _ _ _) hS 0 mw_0 rfl 30 (by decide) k_8_20 rfl rfl (by decide +kernel) rfl rfl (Nat.le_of_ble_eq_true rfl) rfl d_MM_matches_104 (fun H locs hP hS => ?_)
      refine lv_iconst (v := (0:Int32)) hx hb d_MM_matches_107 (by decide) ?_
      refine lv_istore (lv' := [(7, .int (0:Int32)), (6, .int x6_96), (4, .int x4_72), (0, .ref (ad 0)), (1, .ref (ad 48)), (2, .int u13_x2), (3, .int u13_x3), (5, .int x5)]) hx hb d_MM_matches_108 hl (by decide) rfl (fun ls hl => ?_)
      obtain ⟨q5, hq5, h⟩ := o_bd_some h
      refine o_sim2 (AH := fun zz => o_At p l e rm_MM_matches s m args below meth c _ m_cls D A 8 110 [] (m_cw ad ca ky ty u13_rt u13_Ni u13_Np u13_No zz.2 u13_Nf u13_Na u13_Nh u13_Nq u13_Nj u13_M0 u13_a1) [(0, .ref (ad 0)), (1, .ref (ad 48)), (2, .int u13_x2), (3, .int u13_x3), (4, .int x4_72), (5, .int x5), (6, .int x6_96), (7, .int zz.1)]) (AX := fun qq => if qq.1 = 1 then o_At p l e rm_MM_matches s m args below meth c _ m_cls D A 8 172 [] (m_cw ad ca ky ty u13_rt u13_Ni u13_Np u13_No qq.2.2 u13_Nf u13_Na u13_Nh u13_Nq u13_Nj u13_M0 u13_a1) [] else o_At p l e rm_MM_matches s m args below meth c _ m_cls D A 8 180 [] (m_cw ad ca ky ty u13_rt u13_Ni u13_Np u13_No qq.2.2 u13_Nf u13_Na u13_Nh u13_Nq u13_Nj u13_M0 u13_a1) [(0, .ref (ad 0)), (1, .ref (ad 48)), (2, .int u13_x2), (3, .int u13_x3), (5, .int x5)]) (fun zz qq h h0 h1 => f_MM_matches_b110_b hE hKy C hDD n u13_x2 u13_x3 x4_72 x5 x6_96 u13_a1 u13_Np u13_No u13_Ni u13_Nf u13_Na u13_Nh u13_Nq u13_Nj u13_M0 u13_rt zz qq h h0 h1) n _ q5 hq5 ?_ _ _ _ hP hS (lv_sub hl [3, 4, 5, 6, 2, 7, 1, 0] rfl)
      by_cases c20 : q5.1 = 1
      · replace h := o_tt c20 h
        refine o_ip c20 ?_
        intro H locs ls hP hS hl
        cases h
        exact h1 (Nat.succ_ne_zero 2) _ _ _ hP hS (lv_sub hl [] rfl)
      replace h := o_ff c20 h
      refine o_in_ c20 ?_
      intro H locs ls hP hS hl
      refine lv_iconst (v := (0:Int32)) hx hb d_MM_matches_180 (by decide) ?_
      refine lv_istore (lv' := [(7, .int (0:Int32)), (0, .ref (ad 0)), (1, .ref (ad 48)), (2, .int u13_x2), (3, .int u13_x3), (5, .int x5)]) hx hb d_MM_matches_181 hl (by decide) rfl (fun ls hl => ?_)
      obtain ⟨q6, hq6, h⟩ := o_bd_some h
      refine o_sim2 (AH := fun zz => o_At p l e rm_MM_matches s m args below meth c _ m_cls D A 8 183 [] (m_cw ad ca ky ty u13_rt u13_Ni u13_Np u13_No zz.2 u13_Nf u13_Na u13_Nh u13_Nq u13_Nj u13_M0 u13_a1) [(0, .ref (ad 0)), (1, .ref (ad 48)), (2, .int u13_x2), (3, .int u13_x3), (5, .int x5), (7, .int zz.1)]) (AX := fun qq => o_At p l e rm_MM_matches s m args below meth c _ m_cls D A 8 212 [] (m_cw ad ca ky ty u13_rt u13_Ni u13_Np u13_No qq.2.2 u13_Nf u13_Na u13_Nh u13_Nq u13_Nj u13_M0 u13_a1) [(0, .ref (ad 0)), (1, .ref (ad 48)), (2, .int u13_x2), (3, .int u13_x3), (5, .int x5)]) (fun zz qq h h0 h1 => f_MM_matches_b183_b hE hKy C hDD n u13_x2 u13_x3 x5 u13_a1 u13_Np u13_No u13_Ni u13_Nf u13_Na u13_Nh u13_Nq u13_Nj u13_M0 u13_rt zz qq h h0 h1) n _ q6 hq6 ?_ _ _ _ hP hS (lv_sub hl [1, 2, 3, 4, 5, 0] rfl)
      intro H locs ls hP hS hl
      obtain ⟨x5_212, ex5_212⟩ : ∃ y : Int32, y = x5 + (1:Int32) := ⟨_, rfl⟩
      replace h := o_nm_at ex5_212 h
      refine lv_iinc (v := x5_212) (lv' := [(5, .int x5_212), (0, .ref (ad 0)), (1, .ref (ad 48)), (2, .int u13_x2), (3, .int u13_x3)]) hx hb d_MM_matches_212 hl (k := 4) rfl (by rw [ex5_212]; rfl) (by decide) rfl (fun ls hl => ?_)
      refine lv_goto (tgt := 13) hx hb d_MM_matches_215 (by decide) ?_
      cases h
      exact h0 rfl _ _ _ hP hS (lv_sub hl [1, 2, 3, 4, 0] rfl)
    · replace h := o_tt c7 h
      cases h
      exact h1 (Nat.succ_ne_zero 1) _ _ _ hP hS (lv_sub hl [] rfl)
  · replace h := o_ff c6 h
    cases h
    exact h1 (Nat.succ_ne_zero 0) _ _ _ hP hS (lv_sub hl [] rfl)
set_option maxHeartbeats 4000000 in
set_option maxRecDepth 100000 in
theorem f_MM_matches_j49_b {E : (Nat → Prop) → State → Heap → Prop} {p : Program} {l : Launch} {e : Env} {s : State} {m : MethodId} {args : Array Value} {below : List Frame} {meth : Method} {c : Code} {D : va_G} {ad kd sd vd xd : Nat → Nat} {ca : Nat → ClassId} {A : Nat → Prop} {ky ty : Nat → Option Nat} {Q : State → Prop} (hE : o_EK E kd sd vd xd) (hKy : m_KY ky ty sd) (C : o_Cx E p s m args meth c D m_cls (m_tys ca) "SchemaJudgeModel" b_MM_matches (some .boolean) 8 cc_MM_matches A) (hDD : ∀ (rt : Nat) (Ni : SNI) (Np : SNP) (No : SNO) (Nx : SNX) (Nf : SNF) (Na : SNA) (Nh : SNH) (Nq : SNQ) (Nj : SNJ) (M0 : SMT) (M1 : SMT), va_D A (m_cw ad ca ky ty rt Ni Np No Nx Nf Na Nh Nq Nj M0 M1)) (n : Nat) (u13_x2 : Int32) (u13_x3 : Int32) (u13_a1 : SMT) (u13_Np : SNP) (u13_No : SNO) (u13_Ni : SNI) (u13_Nf : SNF) (u13_Na : SNA) (u13_Nh : SNH) (u13_Nq : SNQ) (u13_Nj : SNJ) (u13_M0 : SMT) (u13_rt : Nat) (x5 : Int32) (y2 : Int32) (y3 : Int32) (Nx : SNX) {q : Nat × Int32 × SNX} (h : m_MM_matches_j49 n u13_x2 u13_x3 x5 y2 y3 u13_a1 u13_Np u13_No Nx = some q) (h0 : q.1 = 0 → o_At p l e rm_MM_matches s m args below meth c Q m_cls D A 8 13 [] (m_cw ad ca ky ty u13_rt u13_Ni u13_Np u13_No q.2.2 u13_Nf u13_Na u13_Nh u13_Nq u13_Nj u13_M0 u13_a1) [(0, .ref (ad 0)), (1, .ref (ad 48)), (2, .int u13_x2), (3, .int u13_x3), (5, .int q.2.1)]) (h1 : q.1 ≠ 0 → (if q.1 = 1 then o_At p l e rm_MM_matches s m args below meth c Q m_cls D A 8 66 [] (m_cw ad ca ky ty u13_rt u13_Ni u13_Np u13_No q.2.2 u13_Nf u13_Na u13_Nh u13_Nq u13_Nj u13_M0 u13_a1) [] else if q.1 = 2 then o_At p l e rm_MM_matches s m args below meth c Q m_cls D A 8 80 [] (m_cw ad ca ky ty u13_rt u13_Ni u13_Np u13_No q.2.2 u13_Nf u13_Na u13_Nh u13_Nq u13_Nj u13_M0 u13_a1) [] else if q.1 = 3 then o_At p l e rm_MM_matches s m args below meth c Q m_cls D A 8 172 [] (m_cw ad ca ky ty u13_rt u13_Ni u13_Np u13_No q.2.2 u13_Nf u13_Na u13_Nh u13_Nq u13_Nj u13_M0 u13_a1) [] else o_At p l e rm_MM_matches s m args below meth c Q m_cls D A 8 218 [] (m_cw ad ca ky ty u13_rt u13_Ni u13_Np u13_No q.2.2 u13_Nf u13_Na u13_Nh u13_Nq u13_Nj u13_M0 u13_a1) [])) : o_At p l e rm_MM_matches s m args below meth c Q m_cls D A 8 49 [.int y3, .int y2, .ref (ad 16), .ref (ad 0)] (m_cw ad ca ky ty u13_rt u13_Ni u13_Np u13_No Nx u13_Nf u13_Na u13_Nh u13_Nq u13_Nj u13_M0 u13_a1) [(0, .ref (ad 0)), (1, .ref (ad 48)), (2, .int u13_x2), (3, .int u13_x3), (5, .int x5)] := by
  unfold m_MM_matches_j49 at h
  intro H locs ls hP hS hl
  have C0 := C
  obtain ⟨hx, hb, -, -, -, hown, hts, hK, -, -⟩ := C0
  refine lv_iload hx hb d_MM_matches_49 (lv_at hl 4 rfl) ?_
  refine lv_iload_n hx hb d_MM_matches_51 rfl (lv_at hl 3 rfl) ?_
  refine lv_icmp_ne (tgt := 59) hx hb d_MM_matches_52 (by decide) (fun c5 => ?_) (fun c5 => ?_)
  · replace h := o_ff c5 h
    refine lv_iconst (v := (0:Int32)) hx hb d_MM_matches_59 (by decide) ?_
    exact f_MM_matches_j60_b hE hKy C hDD n u13_x2 u13_x3 u13_a1 u13_Np u13_No u13_Ni u13_Nf u13_Na u13_Nh u13_Nq u13_Nj u13_M0 u13_rt x5 y2 y3 (0:Int32) Nx h h0 h1 _ _ _ hP hS (lv_sub hl [0, 1, 2, 3, 4] rfl)
  · replace h := o_tt c5 h
    refine lv_iconst (v := (1:Int32)) hx hb d_MM_matches_55 (by decide) ?_
    refine lv_goto (tgt := 60) hx hb d_MM_matches_56 (by decide) ?_
    exact f_MM_matches_j60_b hE hKy C hDD n u13_x2 u13_x3 u13_a1 u13_Np u13_No u13_Ni u13_Nf u13_Na u13_Nh u13_Nq u13_Nj u13_M0 u13_rt x5 y2 y3 (1:Int32) Nx h h0 h1 _ _ _ hP hS (lv_sub hl [0, 1, 2, 3, 4] rfl)
set_option maxHeartbeats 4000000 in
set_option maxRecDepth 100000 in
theorem f_MM_matches_j33_b {E : (Nat → Prop) → State → Heap → Prop} {p : Program} {l : Launch} {e : Env} {s : State} {m : MethodId} {args : Array Value} {below : List Frame} {meth : Method} {c : Code} {D : va_G} {ad kd sd vd xd : Nat → Nat} {ca : Nat → ClassId} {A : Nat → Prop} {ky ty : Nat → Option Nat} {Q : State → Prop} (hE : o_EK E kd sd vd xd) (hKy : m_KY ky ty sd) (C : o_Cx E p s m args meth c D m_cls (m_tys ca) "SchemaJudgeModel" b_MM_matches (some .boolean) 8 cc_MM_matches A) (hDD : ∀ (rt : Nat) (Ni : SNI) (Np : SNP) (No : SNO) (Nx : SNX) (Nf : SNF) (Na : SNA) (Nh : SNH) (Nq : SNQ) (Nj : SNJ) (M0 : SMT) (M1 : SMT), va_D A (m_cw ad ca ky ty rt Ni Np No Nx Nf Na Nh Nq Nj M0 M1)) (n : Nat) (u13_x2 : Int32) (u13_x3 : Int32) (u13_a1 : SMT) (u13_Np : SNP) (u13_No : SNO) (u13_Ni : SNI) (u13_Nf : SNF) (u13_Na : SNA) (u13_Nh : SNH) (u13_Nq : SNQ) (u13_Nj : SNJ) (u13_M0 : SMT) (u13_rt : Nat) (x5 : Int32) (Nx : SNX) {q : Nat × Int32 × SNX} (h : m_MM_matches_j33 n u13_x2 u13_x3 x5 u13_a1 u13_Np u13_No Nx = some q) (h0 : q.1 = 0 → o_At p l e rm_MM_matches s m args below meth c Q m_cls D A 8 13 [] (m_cw ad ca ky ty u13_rt u13_Ni u13_Np u13_No q.2.2 u13_Nf u13_Na u13_Nh u13_Nq u13_Nj u13_M0 u13_a1) [(0, .ref (ad 0)), (1, .ref (ad 48)), (2, .int u13_x2), (3, .int u13_x3), (5, .int q.2.1)]) (h1 : q.1 ≠ 0 → (if q.1 = 1 then o_At p l e rm_MM_matches s m args below meth c Q m_cls D A 8 66 [] (m_cw ad ca ky ty u13_rt u13_Ni u13_Np u13_No q.2.2 u13_Nf u13_Na u13_Nh u13_Nq u13_Nj u13_M0 u13_a1) [] else if q.1 = 2 then o_At p l e rm_MM_matches s m args below meth c Q m_cls D A 8 80 [] (m_cw ad ca ky ty u13_rt u13_Ni u13_Np u13_No q.2.2 u13_Nf u13_Na u13_Nh u13_Nq u13_Nj u13_M0 u13_a1) [] else if q.1 = 3 then o_At p l e rm_MM_matches s m args below meth c Q m_cls D A 8 172 [] (m_cw ad ca ky ty u13_rt u13_Ni u13_Np u13_No q.2.2 u13_Nf u13_Na u13_Nh u13_Nq u13_Nj u13_M0 u13_a1) [] else o_At p l e rm_MM_matches s m args below meth c Q m_cls D A 8 218 [] (m_cw ad ca ky ty u13_rt u13_Ni u13_Np u13_No q.2.2 u13_Nf u13_Na u13_Nh u13_Nq u13_Nj u13_M0 u13_a1) [])) : o_At p l e rm_MM_matches s m args below meth c Q m_cls D A 8 33 [] (m_cw ad ca ky ty u13_rt u13_Ni u13_Np u13_No Nx u13_Nf u13_Na u13_Nh u13_Nq u13_Nj u13_M0 u13_a1) [(0, .ref (ad 0)), (1, .ref (ad 48)), (2, .int u13_x2), (3, .int u13_x3), (5, .int x5)] := by
  unfold m_MM_matches_j33 at h
  intro H locs ls hP hS hl
  have C0 := C
  obtain ⟨hx, hb, -, -, -, hown, hts, hK, -, -⟩ := C0
  refine lv_aload_n hx hb d_MM_matches_33 rfl (lv_at hl 0 rfl) ?_
  refine lv_aload_n hx hb d_MM_matches_34 rfl (lv_at hl 0 rfl) ?_
  refine o_get (v := .ref (ad 16)) C in_MM hP 0 mw_0 rfl 20 (by decide) k_8_10 rfl rfl d_MM_matches_35 ?_
  refine lv_iconst (v := (0:Int32)) hx hb d_MM_matches_38 (by decide) ?_
  refine lv_iload hx hb d_MM_matches_39 (lv_at hl 4 rfl) ?_
  refine lv_if_ne (tgt := 48) hx hb d_MM_matches_41 (by decide) (fun c4 => ?_) (fun c4 => ?_)
  · replace h := o_ff c4 h
    refine lv_iconst (v := (0:Int32)) hx hb d_MM_matches_48 (by decide) ?_
    exact f_MM_matches_j49_b hE hKy C hDD n u13_x2 u13_x3 u13_a1 u13_Np u13_No u13_Ni u13_Nf u13_Na u13_Nh u13_Nq u13_Nj u13_M0 u13_rt x5 (0:Int32) (0:Int32) Nx h h0 h1 _ _ _ hP hS (lv_sub hl [0, 1, 2, 3, 4] rfl)
  · replace h := o_tt c4 h
    refine lv_iconst (v := (1:Int32)) hx hb d_MM_matches_44 (by decide) ?_
    refine lv_goto (tgt := 49) hx hb d_MM_matches_45 (by decide) ?_
    exact f_MM_matches_j49_b hE hKy C hDD n u13_x2 u13_x3 u13_a1 u13_Np u13_No u13_Ni u13_Nf u13_Na u13_Nh u13_Nq u13_Nj u13_M0 u13_rt x5 (0:Int32) (1:Int32) Nx h h0 h1 _ _ _ hP hS (lv_sub hl [0, 1, 2, 3, 4] rfl)
set_option maxHeartbeats 4000000 in
set_option maxRecDepth 100000 in
theorem f_MM_matches_b13_b {E : (Nat → Prop) → State → Heap → Prop} {p : Program} {l : Launch} {e : Env} {s : State} {m : MethodId} {args : Array Value} {below : List Frame} {meth : Method} {c : Code} {D : va_G} {ad kd sd vd xd : Nat → Nat} {ca : Nat → ClassId} {A : Nat → Prop} {ky ty : Nat → Option Nat} {Q : State → Prop} (hE : o_EK E kd sd vd xd) (hKy : m_KY ky ty sd) (C : o_Cx E p s m args meth c D m_cls (m_tys ca) "SchemaJudgeModel" b_MM_matches (some .boolean) 8 cc_MM_matches A) (hDD : ∀ (rt : Nat) (Ni : SNI) (Np : SNP) (No : SNO) (Nx : SNX) (Nf : SNF) (Na : SNA) (Nh : SNH) (Nq : SNQ) (Nj : SNJ) (M0 : SMT) (M1 : SMT), va_D A (m_cw ad ca ky ty rt Ni Np No Nx Nf Na Nh Nq Nj M0 M1)) (n : Nat) (u13_x2 : Int32) (u13_x3 : Int32) (u13_a1 : SMT) (u13_Np : SNP) (u13_No : SNO) (u13_Ni : SNI) (u13_Nf : SNF) (u13_Na : SNA) (u13_Nh : SNH) (u13_Nq : SNQ) (u13_Nj : SNJ) (u13_M0 : SMT) (u13_rt : Nat) (z : Int32 × SNX) (q : Nat × Int32 × SNX) (h : m_MM_matches_b13 n u13_x2 u13_x3 u13_a1 u13_Np u13_No z = some q) (h0 : q.1 = 0 → o_At p l e rm_MM_matches s m args below meth c Q m_cls D A 8 13 [] (m_cw ad ca ky ty u13_rt u13_Ni u13_Np u13_No q.2.2 u13_Nf u13_Na u13_Nh u13_Nq u13_Nj u13_M0 u13_a1) [(0, .ref (ad 0)), (1, .ref (ad 48)), (2, .int u13_x2), (3, .int u13_x3), (5, .int q.2.1)]) (h1 : q.1 ≠ 0 → (if q.1 = 1 then o_At p l e rm_MM_matches s m args below meth c Q m_cls D A 8 66 [] (m_cw ad ca ky ty u13_rt u13_Ni u13_Np u13_No q.2.2 u13_Nf u13_Na u13_Nh u13_Nq u13_Nj u13_M0 u13_a1) [] else if q.1 = 2 then o_At p l e rm_MM_matches s m args below meth c Q m_cls D A 8 80 [] (m_cw ad ca ky ty u13_rt u13_Ni u13_Np u13_No q.2.2 u13_Nf u13_Na u13_Nh u13_Nq u13_Nj u13_M0 u13_a1) [] else if q.1 = 3 then o_At p l e rm_MM_matches s m args below meth c Q m_cls D A 8 172 [] (m_cw ad ca ky ty u13_rt u13_Ni u13_Np u13_No q.2.2 u13_Nf u13_Na u13_Nh u13_Nq u13_Nj u13_M0 u13_a1) [] else o_At p l e rm_MM_matches s m args below meth c Q m_cls D A 8 218 [] (m_cw ad ca ky ty u13_rt u13_Ni u13_Np u13_No q.2.2 u13_Nf u13_Na u13_Nh u13_Nq u13_Nj u13_M0 u13_a1) [])) : o_At p l e rm_MM_matches s m args below meth c Q m_cls D A 8 13 [] (m_cw ad ca ky ty u13_rt u13_Ni u13_Np u13_No z.2 u13_Nf u13_Na u13_Nh u13_Nq u13_Nj u13_M0 u13_a1) [(0, .ref (ad 0)), (1, .ref (ad 48)), (2, .int u13_x2), (3, .int u13_x3), (5, .int z.1)] := by
  unfold m_MM_matches_b13 at h
  intro H locs ls hP hS hl
  have C0 := C
  obtain ⟨hx, hb, -, -, -, hown, hts, hK, -, -⟩ := C0
  refine lv_iload hx hb d_MM_matches_13 (lv_at hl 4 rfl) ?_
  refine lv_iload_n hx hb d_MM_matches_15 rfl (lv_at hl 3 rfl) ?_
  refine lv_icmp_gt (tgt := 218) hx hb d_MM_matches_16 (by decide) (fun c2 => ?_) (fun c2 => ?_)
  · replace h := o_tt c2 h
    cases h
    exact h1 (Nat.succ_ne_zero 3) _ _ _ hP hS (lv_sub hl [] rfl)
  · replace h := o_ff c2 h
    refine lv_iload hx hb d_MM_matches_19 (lv_at hl 4 rfl) ?_
    refine lv_if_ne (tgt := 33) hx hb d_MM_matches_21 (by decide) (fun c3 => ?_) (fun c3 => ?_)
    · replace h := o_ff c3 h
      exact f_MM_matches_j33_b hE hKy C hDD n u13_x2 u13_x3 u13_a1 u13_Np u13_No u13_Ni u13_Nf u13_Na u13_Nh u13_Nq u13_Nj u13_M0 u13_rt z.1 z.2 h h0 h1 _ _ _ hP hS (lv_sub hl [0, 1, 2, 3, 4] rfl)
    · replace h := o_tt c3 h
      refine lv_aload_n hx hb d_MM_matches_24 rfl (lv_at hl 0 rfl) ?_
      obtain ⟨q7, hq7, h⟩ := o_bd_some h
      refine o_V (st1 := []) (w1 := (m_cw ad ca ky ty u13_rt u13_Ni u13_Np u13_No q7 u13_Nf u13_Na u13_Nh u13_Nq u13_Nj u13_M0 u13_a1)) hE.1 C (e_MM_turn hE hKy l n z.2 u13_Ni u13_Np u13_No u13_Nf u13_Na u13_Nh u13_Nq u13_Nj u13_M0 u13_a1 u13_rt hq7) hP (hDD _ _ _ _ _ _ _ _ _ _ _ _) hS hl.1 rfl mw_0 k_10_38 k_10_40 k_s_127 k_1_12 k_10_41 hv_MM_turn rfl rfl ⟨(Nat.le_of_ble_eq_true rfl), (Nat.le_of_ble_eq_true rfl)⟩ rfl (Nat.le_of_ble_eq_true rfl) ⟨Nat.zero_le _, Nat.zero_le _⟩ rfl d_MM_matches_25 (fun H locs hP hS => ?_)
      refine lv_aload_n hx hb d_MM_matches_28 rfl (lv_at hl 0 rfl) ?_
      refine lv_iconst (v := (0:Int32)) hx hb d_MM_matches_29 (by decide) ?_
      refine o_put (v := .int (0:Int32)) (ty := .int) (w1 := (m_cw ad ca ky ty u13_rt u13_Ni u13_Np u13_No (NX_mk (NX_mark q7) (NX_now q7) (NX_then q7) (NX_todo q7) (NX_round q7) (0:Int32)) u13_Nf u13_Na u13_Nh u13_Nq u13_Nj u13_M0 u13_a1)) C in_MM t_MM t_MM_ok n_MM hP (hDD _ _ _ _ _ _ _ _ _ _ _ _) hS 0 mw_0 rfl 30 (by decide) k_8_20 rfl rfl (by decide +kernel) rfl rfl (Nat.le_of_ble_eq_true rfl) rfl d_MM_matches_30 (fun H locs hP hS => ?_)
      exact f_MM_matches_j33_b hE hKy C hDD n u13_x2 u13_x3 u13_a1 u13_Np u13_No u13_Ni u13_Nf u13_Na u13_Nh u13_Nq u13_Nj u13_M0 u13_rt z.1 (NX_mk (NX_mark q7) (NX_now q7) (NX_then q7) (NX_todo q7) (NX_round q7) (0:Int32)) h h0 h1 _ _ _ hP hS (lv_sub hl [0, 1, 2, 3, 4] rfl)
set_option maxHeartbeats 4000000 in
set_option maxRecDepth 100000 in
theorem e_MM_matches_b {E : (Nat → Prop) → State → Heap → Prop} {D : va_G} {ad kd sd vd xd : Nat → Nat} {ca : Nat → ClassId} {ky ty : Nat → Option Nat} (hE : o_EK E kd sd vd xd) (hKy : m_KY ky ty sd) (l : Launch) (n : Nat) (x2 : Int32) (a1 : SMT) (Np : SNP) (No : SNO) (Nx : SNX) (Ni : SNI) (Nf : SNF) (Na : SNA) (Nh : SNH) (Nq : SNQ) (Nj : SNJ) (M0 : SMT) (rt : Nat) {r : Int32 × SNX} (h : m_MM_matches n x2 a1 Np No Nx = some r) : o_Cn E l D m_cls (m_tys ca) y_MM_matches cc_MM_matches rm_MM_matches [.ref (ad 0), .ref (ad 48), .int x2] (m_cw ad ca ky ty rt Ni Np No Nx Nf Na Nh Nq Nj M0 a1) (m_cw ad ca ky ty rt Ni Np No r.2 Nf Na Nh Nq Nj M0 a1) (some (.int r.1)) := by
  refine o_Cn_of (by decide) (Nat.le_of_ble_eq_true rfl) ?_
  intro p e s m below meth c A ls C hD hP hS hl
  have hDD : ∀ (rt : Nat) (Ni : SNI) (Np : SNP) (No : SNO) (Nx : SNX) (Nf : SNF) (Na : SNA) (Nh : SNH) (Nq : SNQ) (Nj : SNJ) (M0 : SMT) (M1 : SMT), va_D A (m_cw ad ca ky ty rt Ni Np No Nx Nf Na Nh Nq Nj M0 M1) := fun _ _ _ _ _ _ _ _ _ _ _ _ => o_D_map hD rfl
  have hl : lv_has ls 8 [(0, .ref (ad 0)), (1, .ref (ad 48)), (2, .int x2)] := hl
  unfold m_MM_matches at h
  have C0 := C
  obtain ⟨hx, hb, -, -, -, hown, hts, hK, -, -⟩ := C0
  refine lv_aload_n hx hb d_MM_matches_0 rfl (lv_at hl 1 rfl) ?_
  refine o_get (v := .ref (ad 52)) C in_MT hP 48 mw_48 rfl 3 (by decide) k_7_107 rfl rfl d_MM_matches_1 ?_
  refine lv_iload_n hx hb d_MM_matches_4 rfl (lv_at hl 2 rfl) ?_
  obtain ⟨g1, h⟩ := o_gd_some h
  refine o_iald (f := (MT_many a1)) C hP 52 49 mw_52 rfl g1 d_MM_matches_5 ?_
  refine lv_topi (fun x3_6 ex3_6 => ?_)
  replace h := o_nm_at ex3_6 h
  refine lv_istore_n (lv' := [(3, .int x3_6), (0, .ref (ad 0)), (1, .ref (ad 48)), (2, .int x2)]) hx hb d_MM_matches_6 rfl hl (by decide) rfl (fun ls hl => ?_)
  refine lv_iconst (v := (0:Int32)) hx hb d_MM_matches_7 (by decide) ?_
  refine lv_istore (lv' := [(4, .int (0:Int32)), (3, .int x3_6), (0, .ref (ad 0)), (1, .ref (ad 48)), (2, .int x2)]) hx hb d_MM_matches_8 hl (by decide) rfl (fun ls hl => ?_)
  refine lv_iconst (v := (0:Int32)) hx hb d_MM_matches_10 (by decide) ?_
  refine lv_istore (lv' := [(5, .int (0:Int32)), (4, .int (0:Int32)), (3, .int x3_6), (0, .ref (ad 0)), (1, .ref (ad 48)), (2, .int x2)]) hx hb d_MM_matches_11 hl (by decide) rfl (fun ls hl => ?_)
  obtain ⟨q8, hq8, h⟩ := o_bd_some h
  refine o_sim2 (AH := fun zz => o_At p l e rm_MM_matches s m _ below meth c _ m_cls D A 8 13 [] (m_cw ad ca ky ty rt Ni Np No zz.2 Nf Na Nh Nq Nj M0 a1) [(0, .ref (ad 0)), (1, .ref (ad 48)), (2, .int x2), (3, .int x3_6), (5, .int zz.1)]) (AX := fun qq => if qq.1 = 1 then o_At p l e rm_MM_matches s m _ below meth c _ m_cls D A 8 66 [] (m_cw ad ca ky ty rt Ni Np No qq.2.2 Nf Na Nh Nq Nj M0 a1) [] else if qq.1 = 2 then o_At p l e rm_MM_matches s m _ below meth c _ m_cls D A 8 80 [] (m_cw ad ca ky ty rt Ni Np No qq.2.2 Nf Na Nh Nq Nj M0 a1) [] else if qq.1 = 3 then o_At p l e rm_MM_matches s m _ below meth c _ m_cls D A 8 172 [] (m_cw ad ca ky ty rt Ni Np No qq.2.2 Nf Na Nh Nq Nj M0 a1) [] else o_At p l e rm_MM_matches s m _ below meth c _ m_cls D A 8 218 [] (m_cw ad ca ky ty rt Ni Np No qq.2.2 Nf Na Nh Nq Nj M0 a1) []) (fun zz qq h h0 h1 => f_MM_matches_b13_b hE hKy C hDD n x2 x3_6 a1 Np No Ni Nf Na Nh Nq Nj M0 rt zz qq h h0 h1) n _ q8 hq8 ?_ _ _ _ hP hS (lv_sub hl [3, 4, 5, 2, 0] rfl)
  by_cases c21 : q8.1 = 1
  · replace h := o_tt c21 h
    refine o_ip c21 ?_
    intro H locs ls hP hS hl
    refine lv_iconst (v := (1:Int32)) hx hb d_MM_matches_66 (by decide) ?_
    cases h
    exact o_rz (v := (1:Int32)) C o_nar1 hP hS d_MM_matches_67
  replace h := o_ff c21 h
  refine o_in_ c21 ?_
  by_cases c22 : q8.1 = 2
  · replace h := o_tt c22 h
    refine o_ip c22 ?_
    intro H locs ls hP hS hl
    refine lv_iconst (v := (0:Int32)) hx hb d_MM_matches_80 (by decide) ?_
    cases h
    exact o_rz (v := (0:Int32)) C o_nar0 hP hS d_MM_matches_81
  replace h := o_ff c22 h
  refine o_in_ c22 ?_
  by_cases c23 : q8.1 = 3
  · replace h := o_tt c23 h
    refine o_ip c23 ?_
    intro H locs ls hP hS hl
    refine lv_iconst (v := (1:Int32)) hx hb d_MM_matches_172 (by decide) ?_
    cases h
    exact o_rz (v := (1:Int32)) C o_nar1 hP hS d_MM_matches_173
  replace h := o_ff c23 h
  refine o_in_ c23 ?_
  intro H locs ls hP hS hl
  refine lv_iconst (v := (0:Int32)) hx hb d_MM_matches_218 (by decide) ?_
  cases h
  exact o_rz (v := (0:Int32)) C o_nar0 hP hS d_MM_matches_219
set_option maxHeartbeats 4000000 in
set_option maxRecDepth 100000 in
theorem f_MT_same_b20_ba {E : (Nat → Prop) → State → Heap → Prop} {p : Program} {l : Launch} {e : Env} {s : State} {m : MethodId} {args : Array Value} {below : List Frame} {meth : Method} {c : Code} {D : va_G} {ad kd sd vd xd : Nat → Nat} {ca : Nat → ClassId} {A : Nat → Prop} {ky ty : Nat → Option Nat} {Q : State → Prop} (hE : o_EK E kd sd vd xd) (hKy : m_KY ky ty sd) (C : o_Cx E p s m args meth c D m_cls (m_tys ca) "SchemaJudgeModel$Text" b_MT_same (some .boolean) 5 cc_MT_same A) (hDD : ∀ (rt : Nat) (Ni : SNI) (Np : SNP) (No : SNO) (Nx : SNX) (Nf : SNF) (Na : SNA) (Nh : SNH) (Nq : SNQ) (Nj : SNJ) (M0 : SMT) (M1 : SMT), va_D A (m_cw ad ca ky ty rt Ni Np No Nx Nf Na Nh Nq Nj M0 M1)) (n : Nat) (u20_x1 : Int32) (u20_x3 : Int32) (u20_a0 : SMT) (u20_a2 : SMT) (u20_Ni : SNI) (u20_Np : SNP) (u20_No : SNO) (u20_Nx : SNX) (u20_Nf : SNF) (u20_Na : SNA) (u20_Nh : SNH) (u20_Nq : SNQ) (u20_Nj : SNJ) (u20_rt : Nat) (z : Int32) (q : Nat × Int32) (h : m_MT_same_b20 n u20_x1 u20_x3 u20_a0 u20_a2 z = some q) (h0 : q.1 = 0 → o_At p l e rm_MT_same s m args below meth c Q m_cls D A 5 20 [] (m_cw ad ca ky ty u20_rt u20_Ni u20_Np u20_No u20_Nx u20_Nf u20_Na u20_Nh u20_Nq u20_Nj u20_a2 u20_a0) [(0, .ref (ad 48)), (1, .int u20_x1), (2, .ref (ad 33)), (3, .int u20_x3), (4, .int q.2)]) (h1 : q.1 ≠ 0 → (if q.1 = 1 then o_At p l e rm_MT_same s m args below meth c Q m_cls D A 5 62 [] (m_cw ad ca ky ty u20_rt u20_Ni u20_Np u20_No u20_Nx u20_Nf u20_Na u20_Nh u20_Nq u20_Nj u20_a2 u20_a0) [] else o_At p l e rm_MT_same s m args below meth c Q m_cls D A 5 70 [] (m_cw ad ca ky ty u20_rt u20_Ni u20_Np u20_No u20_Nx u20_Nf u20_Na u20_Nh u20_Nq u20_Nj u20_a2 u20_a0) [])) : o_At p l e rm_MT_same s m args below meth c Q m_cls D A 5 20 [] (m_cw ad ca ky ty u20_rt u20_Ni u20_Np u20_No u20_Nx u20_Nf u20_Na u20_Nh u20_Nq u20_Nj u20_a2 u20_a0) [(0, .ref (ad 48)), (1, .int u20_x1), (2, .ref (ad 33)), (3, .int u20_x3), (4, .int z)] := by
  unfold m_MT_same_b20 at h
  intro H locs ls hP hS hl
  have C0 := C
  obtain ⟨hx, hb, -, -, -, hown, hts, hK, -, -⟩ := C0
  refine lv_iload hx hb d_MT_same_20 (lv_at hl 4 rfl) ?_
  refine lv_aload_n hx hb d_MT_same_22 rfl (lv_at hl 0 rfl) ?_
  refine o_get (v := .ref (ad 52)) C in_MT hP 48 mw_48 rfl 3 (by decide) k_7_106 rfl rfl d_MT_same_23 ?_
  refine lv_iload_n hx hb d_MT_same_26 rfl (lv_at hl 1 rfl) ?_
  obtain ⟨g4, h⟩ := o_gd_some h
  refine o_iald (f := (MT_many u20_a0)) C hP 52 49 mw_52 rfl g4 d_MT_same_27 ?_
  refine lv_icmp_ge (tgt := 70) hx hb d_MT_same_28 (by decide) (fun c5 => ?_) (fun c5 => ?_)
  · replace h := o_tt c5 h
    cases h
    exact h1 (Nat.succ_ne_zero 1) _ _ _ hP hS (lv_sub hl [] rfl)
  · replace h := o_ff c5 h
    refine lv_aload_n hx hb d_MT_same_31 rfl (lv_at hl 0 rfl) ?_
    refine o_get (v := .ref (ad 59)) C in_MT hP 48 mw_48 rfl 10 (by decide) k_7_120 rfl rfl d_MT_same_32 ?_
    refine lv_aload_n hx hb d_MT_same_35 rfl (lv_at hl 0 rfl) ?_
    refine o_get (v := .ref (ad 58)) C in_MT hP 48 mw_48 rfl 9 (by decide) k_7_118 rfl rfl d_MT_same_36 ?_
    refine lv_iload_n hx hb d_MT_same_39 rfl (lv_at hl 1 rfl) ?_
    obtain ⟨g6, h⟩ := o_gd_some h
    refine o_iald (f := (MT_from u20_a0)) C hP 58 55 mw_58 rfl g6 d_MT_same_40 ?_
    refine lv_iload hx hb d_MT_same_41 (lv_at hl 4 rfl) ?_
    refine lv_iadd hx hb d_MT_same_43 ?_
    obtain ⟨g7, h⟩ := o_gd_some h
    refine o_iald (f := (MT_characters u20_a0)) C hP 59 56 mw_59 rfl g7 d_MT_same_44 ?_
    refine lv_aload_n hx hb d_MT_same_45 rfl (lv_at hl 2 rfl) ?_
    refine o_get (v := .ref (ad 44)) C in_MT hP 33 mw_33 rfl 10 (by decide) k_7_120 rfl rfl d_MT_same_46 ?_
    refine lv_aload_n hx hb d_MT_same_49 rfl (lv_at hl 2 rfl) ?_
    refine o_get (v := .ref (ad 43)) C in_MT hP 33 mw_33 rfl 9 (by decide) k_7_118 rfl rfl d_MT_same_50 ?_
    refine lv_iload_n hx hb d_MT_same_53 rfl (lv_at hl 3 rfl) ?_
    obtain ⟨g8, h⟩ := o_gd_some h
    refine o_iald (f := (MT_from u20_a2)) C hP 43 41 mw_43 rfl g8 d_MT_same_54 ?_
    refine lv_iload hx hb d_MT_same_55 (lv_at hl 4 rfl) ?_
    refine lv_iadd hx hb d_MT_same_57 ?_
    obtain ⟨g9, h⟩ := o_gd_some h
    refine o_iald (f := (MT_characters u20_a2)) C hP 44 42 mw_44 rfl g9 d_MT_same_58 ?_
    refine lv_icmp_eq (tgt := 64) hx hb d_MT_same_59 (by decide) (fun c10 => ?_) (fun c10 => ?_)
    · replace h := o_tt c10 h
      obtain ⟨x4_64, ex4_64⟩ : ∃ y : Int32, y = z + (1:Int32) := ⟨_, rfl⟩
      replace h := o_nm_at ex4_64 h
      refine lv_iinc (v := x4_64) (lv' := [(4, .int x4_64), (0, .ref (ad 48)), (1, .int u20_x1), (2, .ref (ad 33)), (3, .int u20_x3)]) hx hb d_MT_same_64 hl (k := 4) rfl (by rw [ex4_64]; rfl) (by decide) rfl (fun ls hl => ?_)
      refine lv_goto (tgt := 20) hx hb d_MT_same_67 (by decide) ?_
      cases h
      exact h0 rfl _ _ _ hP hS (lv_sub hl [1, 2, 3, 4, 0] rfl)
    · replace h := o_ff c10 h
      cases h
      exact h1 (Nat.succ_ne_zero 0) _ _ _ hP hS (lv_sub hl [] rfl)
set_option maxHeartbeats 4000000 in
set_option maxRecDepth 100000 in
theorem e_MT_same_ba {E : (Nat → Prop) → State → Heap → Prop} {D : va_G} {ad kd sd vd xd : Nat → Nat} {ca : Nat → ClassId} {ky ty : Nat → Option Nat} (hE : o_EK E kd sd vd xd) (hKy : m_KY ky ty sd) (l : Launch) (n : Nat) (x1 : Int32) (x3 : Int32) (a0 : SMT) (a2 : SMT) (Ni : SNI) (Np : SNP) (No : SNO) (Nx : SNX) (Nf : SNF) (Na : SNA) (Nh : SNH) (Nq : SNQ) (Nj : SNJ) (rt : Nat) {r : Int32} (h : m_MT_same n x1 x3 a0 a2 = some r) : o_Cn E l D m_cls (m_tys ca) y_MT_same cc_MT_same rm_MT_same [.ref (ad 48), .int x1, .ref (ad 33), .int x3] (m_cw ad ca ky ty rt Ni Np No Nx Nf Na Nh Nq Nj a2 a0) (m_cw ad ca ky ty rt Ni Np No Nx Nf Na Nh Nq Nj a2 a0) (some (.int r)) := by
  refine o_Cn_of (by decide) (Nat.le_of_ble_eq_true rfl) ?_
  intro p e s m below meth c A ls C hD hP hS hl
  have hDD : ∀ (rt : Nat) (Ni : SNI) (Np : SNP) (No : SNO) (Nx : SNX) (Nf : SNF) (Na : SNA) (Nh : SNH) (Nq : SNQ) (Nj : SNJ) (M0 : SMT) (M1 : SMT), va_D A (m_cw ad ca ky ty rt Ni Np No Nx Nf Na Nh Nq Nj M0 M1) := fun _ _ _ _ _ _ _ _ _ _ _ _ => o_D_map hD rfl
  have hl : lv_has ls 5 [(0, .ref (ad 48)), (1, .int x1), (2, .ref (ad 33)), (3, .int x3)] := hl
  unfold m_MT_same at h
  have C0 := C
  obtain ⟨hx, hb, -, -, -, hown, hts, hK, -, -⟩ := C0
  refine lv_aload_n hx hb d_MT_same_0 rfl (lv_at hl 0 rfl) ?_
  refine o_get (v := .ref (ad 52)) C in_MT hP 48 mw_48 rfl 3 (by decide) k_7_106 rfl rfl d_MT_same_1 ?_
  refine lv_iload_n hx hb d_MT_same_4 rfl (lv_at hl 1 rfl) ?_
  obtain ⟨g1, h⟩ := o_gd_some h
  refine o_iald (f := (MT_many a0)) C hP 52 49 mw_52 rfl g1 d_MT_same_5 ?_
  refine lv_aload_n hx hb d_MT_same_6 rfl (lv_at hl 2 rfl) ?_
  refine o_get (v := .ref (ad 37)) C in_MT hP 33 mw_33 rfl 3 (by decide) k_7_106 rfl rfl d_MT_same_7 ?_
  refine lv_iload_n hx hb d_MT_same_10 rfl (lv_at hl 3 rfl) ?_
  obtain ⟨g2, h⟩ := o_gd_some h
  refine o_iald (f := (MT_many a2)) C hP 37 35 mw_37 rfl g2 d_MT_same_11 ?_
  refine lv_icmp_eq (tgt := 17) hx hb d_MT_same_12 (by decide) (fun c3 => ?_) (fun c3 => ?_)
  · replace h := o_tt c3 h
    refine lv_iconst (v := (0:Int32)) hx hb d_MT_same_17 (by decide) ?_
    refine lv_istore (lv' := [(4, .int (0:Int32)), (0, .ref (ad 48)), (1, .int x1), (2, .ref (ad 33)), (3, .int x3)]) hx hb d_MT_same_18 hl (by decide) rfl (fun ls hl => ?_)
    obtain ⟨q1, hq1, h⟩ := o_bd_some h
    refine o_sim2 (AH := fun zz => o_At p l e rm_MT_same s m _ below meth c _ m_cls D A 5 20 [] (m_cw ad ca ky ty rt Ni Np No Nx Nf Na Nh Nq Nj a2 a0) [(0, .ref (ad 48)), (1, .int x1), (2, .ref (ad 33)), (3, .int x3), (4, .int zz)]) (AX := fun qq => if qq.1 = 1 then o_At p l e rm_MT_same s m _ below meth c _ m_cls D A 5 62 [] (m_cw ad ca ky ty rt Ni Np No Nx Nf Na Nh Nq Nj a2 a0) [] else o_At p l e rm_MT_same s m _ below meth c _ m_cls D A 5 70 [] (m_cw ad ca ky ty rt Ni Np No Nx Nf Na Nh Nq Nj a2 a0) []) (fun zz qq h h0 h1 => f_MT_same_b20_ba hE hKy C hDD n x1 x3 a0 a2 Ni Np No Nx Nf Na Nh Nq Nj rt zz qq h h0 h1) n _ q1 hq1 ?_ _ _ _ hP hS (lv_sub hl [1, 2, 3, 4, 0] rfl)
    by_cases c11 : q1.1 = 1
    · replace h := o_tt c11 h
      refine o_ip c11 ?_
      intro H locs ls hP hS hl
      refine lv_iconst (v := (0:Int32)) hx hb d_MT_same_62 (by decide) ?_
      cases h
      exact o_rz (v := (0:Int32)) C o_nar0 hP hS d_MT_same_63
    replace h := o_ff c11 h
    refine o_in_ c11 ?_
    intro H locs ls hP hS hl
    refine lv_iconst (v := (1:Int32)) hx hb d_MT_same_70 (by decide) ?_
    cases h
    exact o_rz (v := (1:Int32)) C o_nar1 hP hS d_MT_same_71
  · replace h := o_ff c3 h
    refine lv_iconst (v := (0:Int32)) hx hb d_MT_same_15 (by decide) ?_
    cases h
    exact o_rz (v := (0:Int32)) C o_nar0 hP hS d_MT_same_16
set_option maxHeartbeats 4000000 in
set_option maxRecDepth 100000 in
theorem f_MT_member_1_b8_ab {E : (Nat → Prop) → State → Heap → Prop} {p : Program} {l : Launch} {e : Env} {s : State} {m : MethodId} {args : Array Value} {below : List Frame} {meth : Method} {c : Code} {D : va_G} {ad kd sd vd xd : Nat → Nat} {ca : Nat → ClassId} {A : Nat → Prop} {ky ty : Nat → Option Nat} {Q : State → Prop} (hE : o_EK E kd sd vd xd) (hKy : m_KY ky ty sd) (C : o_Cx E p s m args meth c D m_cls (m_tys ca) "SchemaJudgeModel$Text" b_MT_member_1 (some .int) 5 cc_MT_member_1 A) (hDD : ∀ (rt : Nat) (Ni : SNI) (Np : SNP) (No : SNO) (Nx : SNX) (Nf : SNF) (Na : SNA) (Nh : SNH) (Nq : SNQ) (Nj : SNJ) (M0 : SMT) (M1 : SMT), va_D A (m_cw ad ca ky ty rt Ni Np No Nx Nf Na Nh Nq Nj M0 M1)) (n : Nat) (u8_x3 : Int32) (u8_a0 : SMT) (u8_a2 : SMT) (u8_Ni : SNI) (u8_Np : SNP) (u8_No : SNO) (u8_Nx : SNX) (u8_Nf : SNF) (u8_Na : SNA) (u8_Nh : SNH) (u8_Nq : SNQ) (u8_Nj : SNJ) (u8_rt : Nat) (z : Int32) (q : Nat × Int32) (h : m_MT_member_1_b8 n u8_x3 u8_a0 u8_a2 z = some q) (h0 : q.1 = 0 → o_At p l e rm_MT_member_1 s m args below meth c Q m_cls D A 5 8 [] (m_cw ad ca ky ty u8_rt u8_Ni u8_Np u8_No u8_Nx u8_Nf u8_Na u8_Nh u8_Nq u8_Nj u8_a0 u8_a2) [(0, .ref (ad 33)), (2, .ref (ad 48)), (3, .int u8_x3), (4, .int q.2)]) (h1 : q.1 ≠ 0 → (if q.1 = 1 then o_At p l e rm_MT_member_1 s m args below meth c Q m_cls D A 5 29 [] (m_cw ad ca ky ty u8_rt u8_Ni u8_Np u8_No u8_Nx u8_Nf u8_Na u8_Nh u8_Nq u8_Nj u8_a0 u8_a2) [(4, .int q.2)] else o_At p l e rm_MT_member_1 s m args below meth c Q m_cls D A 5 44 [] (m_cw ad ca ky ty u8_rt u8_Ni u8_Np u8_No u8_Nx u8_Nf u8_Na u8_Nh u8_Nq u8_Nj u8_a0 u8_a2) [])) : o_At p l e rm_MT_member_1 s m args below meth c Q m_cls D A 5 8 [] (m_cw ad ca ky ty u8_rt u8_Ni u8_Np u8_No u8_Nx u8_Nf u8_Na u8_Nh u8_Nq u8_Nj u8_a0 u8_a2) [(0, .ref (ad 33)), (2, .ref (ad 48)), (3, .int u8_x3), (4, .int z)] := by
  unfold m_MT_member_1_b8 at h
  intro H locs ls hP hS hl
  have C0 := C
  obtain ⟨hx, hb, -, -, -, hown, hts, hK, -, -⟩ := C0
  refine lv_iload hx hb d_MT_member_1_8 (lv_at hl 3 rfl) ?_
  refine lv_if_lt (tgt := 44) hx hb d_MT_member_1_10 (by decide) (fun c2 => ?_) (fun c2 => ?_)
  · replace h := o_tt c2 h
    cases h
    exact h1 (Nat.succ_ne_zero 1) _ _ _ hP hS (lv_sub hl [] rfl)
  · replace h := o_ff c2 h
    refine lv_aload_n hx hb d_MT_member_1_13 rfl (lv_at hl 1 rfl) ?_
    refine lv_iload_n hx hb d_MT_member_1_14 rfl (lv_at hl 2 rfl) ?_
    refine lv_aload_n hx hb d_MT_member_1_15 rfl (lv_at hl 0 rfl) ?_
    refine lv_aload_n hx hb d_MT_member_1_16 rfl (lv_at hl 0 rfl) ?_
    refine o_get (v := .ref (ad 42)) C in_MT hP 33 mw_33 rfl 8 (by decide) k_7_116 rfl rfl d_MT_member_1_17 ?_
    refine lv_iload hx hb d_MT_member_1_20 (lv_at hl 3 rfl) ?_
    obtain ⟨g3, h⟩ := o_gd_some h
    refine o_iald (f := (MT_name u8_a0)) C hP 42 40 mw_42 rfl g3 d_MT_member_1_22 ?_
    obtain ⟨q1, hq1, h⟩ := o_bd_some h
    refine o_V (st1 := [.int q1]) (w1 := (m_cw ad ca ky ty u8_rt u8_Ni u8_Np u8_No u8_Nx u8_Nf u8_Na u8_Nh u8_Nq u8_Nj u8_a0 u8_a2)) hE.1 C (e_MT_same_ba hE hKy l n u8_x3 ((MT_name u8_a0) z.toNatClampNeg) u8_a2 u8_a0 u8_Ni u8_Np u8_No u8_Nx u8_Nf u8_Na u8_Nh u8_Nq u8_Nj u8_rt hq1) hP (hDD _ _ _ _ _ _ _ _ _ _ _ _) hS hl.1 rfl mw_48 k_9_25 k_9_26 k_9_27 k_1_13 k_9_28 hv_MT_same rfl rfl ⟨(Nat.le_of_ble_eq_true rfl), (Nat.le_of_ble_eq_true rfl)⟩ rfl (Nat.le_of_ble_eq_true rfl) ⟨Nat.zero_le _, Nat.zero_le _⟩ rfl d_MT_member_1_23 (fun H locs hP hS => ?_)
    refine lv_if_eq (tgt := 32) hx hb d_MT_member_1_26 (by decide) (fun c4 => ?_) (fun c4 => ?_)
    · replace h := o_tt c4 h
      refine lv_aload_n hx hb d_MT_member_1_32 rfl (lv_at hl 0 rfl) ?_
      refine o_get (v := .ref (ad 41)) C in_MT hP 33 mw_33 rfl 7 (by decide) k_7_114 rfl rfl d_MT_member_1_33 ?_
      refine lv_iload hx hb d_MT_member_1_36 (lv_at hl 3 rfl) ?_
      obtain ⟨g5, h⟩ := o_gd_some h
      refine o_iald (f := (MT_next u8_a0)) C hP 41 39 mw_41 rfl g5 d_MT_member_1_38 ?_
      refine lv_topi (fun x4_39 ex4_39 => ?_)
      replace h := o_nm_at ex4_39 h
      refine lv_istore (lv' := [(4, .int x4_39), (0, .ref (ad 33)), (2, .ref (ad 48)), (3, .int u8_x3)]) hx hb d_MT_member_1_39 hl (by decide) rfl (fun ls hl => ?_)
      refine lv_goto (tgt := 8) hx hb d_MT_member_1_41 (by decide) ?_
      cases h
      exact h0 rfl _ _ _ hP hS (lv_sub hl [1, 2, 3, 0] rfl)
    · replace h := o_ff c4 h
      cases h
      exact h1 (Nat.succ_ne_zero 0) _ _ _ hP hS (lv_sub hl [3] rfl)
set_option maxHeartbeats 4000000 in
set_option maxRecDepth 100000 in
theorem e_MT_member_1_ab {E : (Nat → Prop) → State → Heap → Prop} {D : va_G} {ad kd sd vd xd : Nat → Nat} {ca : Nat → ClassId} {ky ty : Nat → Option Nat} (hE : o_EK E kd sd vd xd) (hKy : m_KY ky ty sd) (l : Launch) (n : Nat) (x1 : Int32) (x3 : Int32) (a0 : SMT) (a2 : SMT) (Ni : SNI) (Np : SNP) (No : SNO) (Nx : SNX) (Nf : SNF) (Na : SNA) (Nh : SNH) (Nq : SNQ) (Nj : SNJ) (rt : Nat) {r : Int32} (h : m_MT_member_1 n x1 x3 a0 a2 = some r) : o_Cn E l D m_cls (m_tys ca) y_MT_member_1 cc_MT_member_1 rm_MT_member_1 [.ref (ad 33), .int x1, .ref (ad 48), .int x3] (m_cw ad ca ky ty rt Ni Np No Nx Nf Na Nh Nq Nj a0 a2) (m_cw ad ca ky ty rt Ni Np No Nx Nf Na Nh Nq Nj a0 a2) (some (.int r)) := by
  refine o_Cn_of (by decide) (Nat.le_of_ble_eq_true rfl) ?_
  intro p e s m below meth c A ls C hD hP hS hl
  have hDD : ∀ (rt : Nat) (Ni : SNI) (Np : SNP) (No : SNO) (Nx : SNX) (Nf : SNF) (Na : SNA) (Nh : SNH) (Nq : SNQ) (Nj : SNJ) (M0 : SMT) (M1 : SMT), va_D A (m_cw ad ca ky ty rt Ni Np No Nx Nf Na Nh Nq Nj M0 M1) := fun _ _ _ _ _ _ _ _ _ _ _ _ => o_D_map hD rfl
  have hl : lv_has ls 5 [(0, .ref (ad 33)), (1, .int x1), (2, .ref (ad 48)), (3, .int x3)] := hl
  unfold m_MT_member_1 at h
  have C0 := C
  obtain ⟨hx, hb, -, -, -, hown, hts, hK, -, -⟩ := C0
  refine lv_aload_n hx hb d_MT_member_1_0 rfl (lv_at hl 0 rfl) ?_
  refine o_get (v := .ref (ad 40)) C in_MT hP 33 mw_33 rfl 6 (by decide) k_7_112 rfl rfl d_MT_member_1_1 ?_
  refine lv_iload_n hx hb d_MT_member_1_4 rfl (lv_at hl 1 rfl) ?_
  obtain ⟨g1, h⟩ := o_gd_some h
  refine o_iald (f := (MT_first a0)) C hP 40 38 mw_40 rfl g1 d_MT_member_1_5 ?_
  refine lv_topi (fun x4_6 ex4_6 => ?_)
  replace h := o_nm_at ex4_6 h
  refine lv_istore (lv' := [(4, .int x4_6), (0, .ref (ad 33)), (1, .int x1), (2, .ref (ad 48)), (3, .int x3)]) hx hb d_MT_member_1_6 hl (by decide) rfl (fun ls hl => ?_)
  obtain ⟨q2, hq2, h⟩ := o_bd_some h
  refine o_sim2 (AH := fun zz => o_At p l e rm_MT_member_1 s m _ below meth c _ m_cls D A 5 8 [] (m_cw ad ca ky ty rt Ni Np No Nx Nf Na Nh Nq Nj a0 a2) [(0, .ref (ad 33)), (2, .ref (ad 48)), (3, .int x3), (4, .int zz)]) (AX := fun qq => if qq.1 = 1 then o_At p l e rm_MT_member_1 s m _ below meth c _ m_cls D A 5 29 [] (m_cw ad ca ky ty rt Ni Np No Nx Nf Na Nh Nq Nj a0 a2) [(4, .int qq.2)] else o_At p l e rm_MT_member_1 s m _ below meth c _ m_cls D A 5 44 [] (m_cw ad ca ky ty rt Ni Np No Nx Nf Na Nh Nq Nj a0 a2) []) (fun zz qq h h0 h1 => f_MT_member_1_b8_ab hE hKy C hDD n x3 a0 a2 Ni Np No Nx Nf Na Nh Nq Nj rt zz qq h h0 h1) n _ q2 hq2 ?_ _ _ _ hP hS (lv_sub hl [1, 3, 4, 0] rfl)
  by_cases c6 : q2.1 = 1
  · replace h := o_tt c6 h
    refine o_ip c6 ?_
    intro H locs ls hP hS hl
    refine lv_iload hx hb d_MT_member_1_29 (lv_at hl 0 rfl) ?_
    cases h
    exact o_ri C hP hS d_MT_member_1_31
  replace h := o_ff c6 h
  refine o_in_ c6 ?_
  intro H locs ls hP hS hl
  refine lv_iconst (v := (-1:Int32)) hx hb d_MT_member_1_44 (by decide) ?_
  cases h
  exact o_ri (v := (-1:Int32)) C hP hS d_MT_member_1_45
set_option maxHeartbeats 4000000 in
set_option maxRecDepth 100000 in
theorem f_MM_isIn_j102 {E : (Nat → Prop) → State → Heap → Prop} {p : Program} {l : Launch} {e : Env} {s : State} {m : MethodId} {args : Array Value} {below : List Frame} {meth : Method} {c : Code} {D : va_G} {ad kd sd vd xd : Nat → Nat} {ca : Nat → ClassId} {A : Nat → Prop} {ky ty : Nat → Option Nat} {Q : State → Prop} (hE : o_EK E kd sd vd xd) (hKy : m_KY ky ty sd) (C : o_Cx E p s m args meth c D m_cls (m_tys ca) "SchemaJudgeModel" b_MM_isIn (some .boolean) 6 cc_MM_isIn A) (hDD : ∀ (rt : Nat) (Ni : SNI) (Np : SNP) (No : SNO) (Nx : SNX) (Nf : SNF) (Na : SNA) (Nh : SNH) (Nq : SNQ) (Nj : SNJ) (M0 : SMT) (M1 : SMT), va_D A (m_cw ad ca ky ty rt Ni Np No Nx Nf Na Nh Nq Nj M0 M1)) (n : Nat) (u62_x2 : Int32) (u62_M0 : SMT) (u62_M1 : SMT) (u62_Ni : SNI) (u62_Nf : SNF) (u62_Na : SNA) (u62_Nh : SNH) (u62_Nq : SNQ) (u62_Nj : SNJ) (x5 : Int32) (Np : SNP) (No : SNO) (Nx : SNX) (rt : Nat) {q : Nat × Int32 × SNP × SNO × SNX × Nat} (h : m_MM_isIn_j102 n u62_x2 x5 u62_M0 u62_M1 Np No Nx rt = some q) (h0 : q.1 = 0 → o_At p l e rm_MM_isIn s m args below meth c Q m_cls D A 6 62 [] (m_cw ad ca ky ty q.2.2.2.2.2 u62_Ni q.2.2.1 q.2.2.2.1 q.2.2.2.2.1 u62_Nf u62_Na u62_Nh u62_Nq u62_Nj u62_M0 u62_M1) [(0, .ref (ad 0)), (2, .int u62_x2), (5, .int q.2.1)]) (h1 : q.1 ≠ 0 → (if q.1 = 1 then o_At p l e rm_MM_isIn s m args below meth c Q m_cls D A 6 100 [] (m_cw ad ca ky ty q.2.2.2.2.2 u62_Ni q.2.2.1 q.2.2.2.1 q.2.2.2.2.1 u62_Nf u62_Na u62_Nh u62_Nq u62_Nj u62_M0 u62_M1) [] else o_At p l e rm_MM_isIn s m args below meth c Q m_cls D A 6 117 [] (m_cw ad ca ky ty q.2.2.2.2.2 u62_Ni q.2.2.1 q.2.2.2.1 q.2.2.2.2.1 u62_Nf u62_Na u62_Nh u62_Nq u62_Nj u62_M0 u62_M1) [])) : o_At p l e rm_MM_isIn s m args below meth c Q m_cls D A 6 102 [] (m_cw ad ca ky ty rt u62_Ni Np No Nx u62_Nf u62_Na u62_Nh u62_Nq u62_Nj u62_M0 u62_M1) [(0, .ref (ad 0)), (2, .int u62_x2), (5, .int x5)] := by
  unfold m_MM_isIn_j102 at h
  intro H locs ls hP hS hl
  have C0 := C
  obtain ⟨hx, hb, -, -, -, hown, hts, hK, -, -⟩ := C0
  refine lv_aload_n hx hb d_MM_isIn_102 rfl (lv_at hl 0 rfl) ?_
  refine o_get (v := .ref (ad 33)) C in_MM hP 0 mw_0 rfl 4 (by decide) k_7_234 rfl rfl d_MM_isIn_103 ?_
  refine o_get (v := .ref (ad 41)) C in_MT hP 33 mw_33 rfl 7 (by decide) k_7_115 rfl rfl d_MM_isIn_106 ?_
  refine lv_iload hx hb d_MM_isIn_109 (lv_at hl 2 rfl) ?_
  obtain ⟨g7, h⟩ := o_gd_some h
  refine o_iald (f := (MT_next u62_M0)) C hP 41 39 mw_41 rfl g7 d_MM_isIn_111 ?_
  refine lv_topi (fun x5_112 ex5_112 => ?_)
  replace h := o_nm_at ex5_112 h
  refine lv_istore (lv' := [(5, .int x5_112), (0, .ref (ad 0)), (2, .int u62_x2)]) hx hb d_MM_isIn_112 hl (by decide) rfl (fun ls hl => ?_)
  refine lv_goto (tgt := 62) hx hb d_MM_isIn_114 (by decide) ?_
  cases h
  exact h0 rfl _ _ _ hP hS (lv_sub hl [1, 2, 0] rfl)
set_option maxHeartbeats 4000000 in
set_option maxRecDepth 100000 in
theorem f_MM_isIn_b62 {E : (Nat → Prop) → State → Heap → Prop} {p : Program} {l : Launch} {e : Env} {s : State} {m : MethodId} {args : Array Value} {below : List Frame} {meth : Method} {c : Code} {D : va_G} {ad kd sd vd xd : Nat → Nat} {ca : Nat → ClassId} {A : Nat → Prop} {ky ty : Nat → Option Nat} {Q : State → Prop} (hE : o_EK E kd sd vd xd) (hKy : m_KY ky ty sd) (C : o_Cx E p s m args meth c D m_cls (m_tys ca) "SchemaJudgeModel" b_MM_isIn (some .boolean) 6 cc_MM_isIn A) (hDD : ∀ (rt : Nat) (Ni : SNI) (Np : SNP) (No : SNO) (Nx : SNX) (Nf : SNF) (Na : SNA) (Nh : SNH) (Nq : SNQ) (Nj : SNJ) (M0 : SMT) (M1 : SMT), va_D A (m_cw ad ca ky ty rt Ni Np No Nx Nf Na Nh Nq Nj M0 M1)) (n : Nat) (u62_x2 : Int32) (u62_M0 : SMT) (u62_M1 : SMT) (u62_Ni : SNI) (u62_Nf : SNF) (u62_Na : SNA) (u62_Nh : SNH) (u62_Nq : SNQ) (u62_Nj : SNJ) (z : Int32 × SNP × SNO × SNX × Nat) (q : Nat × Int32 × SNP × SNO × SNX × Nat) (h : m_MM_isIn_b62 n u62_x2 u62_M0 u62_M1 z = some q) (h0 : q.1 = 0 → o_At p l e rm_MM_isIn s m args below meth c Q m_cls D A 6 62 [] (m_cw ad ca ky ty q.2.2.2.2.2 u62_Ni q.2.2.1 q.2.2.2.1 q.2.2.2.2.1 u62_Nf u62_Na u62_Nh u62_Nq u62_Nj u62_M0 u62_M1) [(0, .ref (ad 0)), (2, .int u62_x2), (5, .int q.2.1)]) (h1 : q.1 ≠ 0 → (if q.1 = 1 then o_At p l e rm_MM_isIn s m args below meth c Q m_cls D A 6 100 [] (m_cw ad ca ky ty q.2.2.2.2.2 u62_Ni q.2.2.1 q.2.2.2.1 q.2.2.2.2.1 u62_Nf u62_Na u62_Nh u62_Nq u62_Nj u62_M0 u62_M1) [] else o_At p l e rm_MM_isIn s m args below meth c Q m_cls D A 6 117 [] (m_cw ad ca ky ty q.2.2.2.2.2 u62_Ni q.2.2.1 q.2.2.2.1 q.2.2.2.2.1 u62_Nf u62_Na u62_Nh u62_Nq u62_Nj u62_M0 u62_M1) [])) : o_At p l e rm_MM_isIn s m args below meth c Q m_cls D A 6 62 [] (m_cw ad ca ky ty z.2.2.2.2 u62_Ni z.2.1 z.2.2.1 z.2.2.2.1 u62_Nf u62_Na u62_Nh u62_Nq u62_Nj u62_M0 u62_M1) [(0, .ref (ad 0)), (2, .int u62_x2), (5, .int z.1)] := by
  unfold m_MM_isIn_b62 at h
  intro H locs ls hP hS hl
  have C0 := C
  obtain ⟨hx, hb, -, -, -, hown, hts, hK, -, -⟩ := C0
  refine lv_iload hx hb d_MM_isIn_62 (lv_at hl 2 rfl) ?_
  refine lv_if_lt (tgt := 117) hx hb d_MM_isIn_64 (by decide) (fun c4 => ?_) (fun c4 => ?_)
  · replace h := o_tt c4 h
    cases h
    exact h1 (Nat.succ_ne_zero 1) _ _ _ hP hS (lv_sub hl [] rfl)
  · replace h := o_ff c4 h
    refine lv_aload_n hx hb d_MM_isIn_67 rfl (lv_at hl 0 rfl) ?_
    refine lv_aload_n hx hb d_MM_isIn_68 rfl (lv_at hl 0 rfl) ?_
    refine o_get (v := .ref (ad 33)) C in_MM hP 0 mw_0 rfl 4 (by decide) k_7_234 rfl rfl d_MM_isIn_69 ?_
    refine lv_aload_n hx hb d_MM_isIn_72 rfl (lv_at hl 0 rfl) ?_
    refine o_get (v := .ref (ad 33)) C in_MM hP 0 mw_0 rfl 4 (by decide) k_7_234 rfl rfl d_MM_isIn_73 ?_
    refine o_get (v := .ref (ad 42)) C in_MT hP 33 mw_33 rfl 8 (by decide) k_7_117 rfl rfl d_MM_isIn_76 ?_
    refine lv_iload hx hb d_MM_isIn_79 (lv_at hl 2 rfl) ?_
    obtain ⟨g5, h⟩ := o_gd_some h
    refine o_iald (f := (MT_name u62_M0)) C hP 42 40 mw_42 rfl g5 d_MM_isIn_81 ?_
    obtain ⟨q3, hq3, h⟩ := o_bd_some h
    refine o_V (st1 := [.int q3.1]) (w1 := (m_cw ad ca ky ty 33 u62_Ni q3.2.1 q3.2.2 z.2.2.2.1 u62_Nf u62_Na u62_Nh u62_Nq u62_Nj u62_M0 u62_M1)) hE.1 C (e_MM_isPattern_a hE hKy l n ((MT_name u62_M0) z.1.toNatClampNeg) u62_M0 z.2.1 z.2.2.1 u62_Ni z.2.2.2.1 u62_Nf u62_Na u62_Nh u62_Nq u62_Nj u62_M1 z.2.2.2.2 hq3) hP (hDD _ _ _ _ _ _ _ _ _ _ _ _) hS hl.1 rfl mw_0 k_9_54 k_9_56 k_s_85 k_1_12 k_9_57 hv_MM_isPattern rfl rfl ⟨(Nat.le_of_ble_eq_true rfl), (Nat.le_of_ble_eq_true rfl)⟩ rfl (Nat.le_of_ble_eq_true rfl) ⟨Nat.zero_le _, Nat.zero_le _⟩ rfl d_MM_isIn_82 (fun H locs hP hS => ?_)
    refine lv_if_eq (tgt := 102) hx hb d_MM_isIn_85 (by decide) (fun c6 => ?_) (fun c6 => ?_)
    · replace h := o_tt c6 h
      exact f_MM_isIn_j102 hE hKy C hDD n u62_x2 u62_M0 u62_M1 u62_Ni u62_Nf u62_Na u62_Nh u62_Nq u62_Nj z.1 q3.2.1 q3.2.2 z.2.2.2.1 33 h h0 h1 _ _ _ hP hS (lv_sub hl [0, 1, 2] rfl)
    · replace h := o_ff c6 h
      refine lv_aload_n hx hb d_MM_isIn_88 rfl (lv_at hl 0 rfl) ?_
      refine lv_aload_n hx hb d_MM_isIn_89 rfl (lv_at hl 0 rfl) ?_
      refine o_get (v := .ref (ad 48)) C in_MM hP 0 mw_0 rfl 5 (by decide) k_7_235 rfl rfl d_MM_isIn_90 ?_
      refine lv_iload_n hx hb d_MM_isIn_93 rfl (lv_at hl 1 rfl) ?_
      obtain ⟨q4, hq4, h⟩ := o_bd_some h
      refine o_V (st1 := [.int q4.1]) (w1 := (m_cw ad ca ky ty 33 u62_Ni q3.2.1 q3.2.2 q4.2 u62_Nf u62_Na u62_Nh u62_Nq u62_Nj u62_M0 u62_M1)) hE.1 C (e_MM_matches_b hE hKy l n u62_x2 u62_M1 q3.2.1 q3.2.2 z.2.2.2.1 u62_Ni u62_Nf u62_Na u62_Nh u62_Nq u62_Nj u62_M0 33 hq4) hP (hDD _ _ _ _ _ _ _ _ _ _ _ _) hS hl.1 rfl mw_0 k_10_34 k_10_36 k_s_126 k_1_12 k_10_37 hv_MM_matches rfl rfl ⟨(Nat.le_of_ble_eq_true rfl), (Nat.le_of_ble_eq_true rfl)⟩ rfl (Nat.le_of_ble_eq_true rfl) ⟨Nat.zero_le _, Nat.zero_le _⟩ rfl d_MM_isIn_94 (fun H locs hP hS => ?_)
      refine lv_if_eq (tgt := 102) hx hb d_MM_isIn_97 (by decide) (fun c8 => ?_) (fun c8 => ?_)
      · replace h := o_tt c8 h
        exact f_MM_isIn_j102 hE hKy C hDD n u62_x2 u62_M0 u62_M1 u62_Ni u62_Nf u62_Na u62_Nh u62_Nq u62_Nj z.1 q3.2.1 q3.2.2 q4.2 33 h h0 h1 _ _ _ hP hS (lv_sub hl [0, 1, 2] rfl)
      · replace h := o_ff c8 h
        cases h
        exact h1 (Nat.succ_ne_zero 0) _ _ _ hP hS (lv_sub hl [] rfl)
set_option maxHeartbeats 4000000 in
set_option maxRecDepth 100000 in
theorem f_MM_isIn_j45 {E : (Nat → Prop) → State → Heap → Prop} {p : Program} {l : Launch} {e : Env} {s : State} {m : MethodId} {args : Array Value} {below : List Frame} {meth : Method} {c : Code} {D : va_G} {ad kd sd vd xd : Nat → Nat} {ca : Nat → ClassId} {A : Nat → Prop} {ky ty : Nat → Option Nat} (hE : o_EK E kd sd vd xd) (hKy : m_KY ky ty sd) (C : o_Cx E p s m args meth c D m_cls (m_tys ca) "SchemaJudgeModel" b_MM_isIn (some .boolean) 6 cc_MM_isIn A) (hDD : ∀ (rt : Nat) (Ni : SNI) (Np : SNP) (No : SNO) (Nx : SNX) (Nf : SNF) (Na : SNA) (Nh : SNH) (Nq : SNQ) (Nj : SNJ) (M0 : SMT) (M1 : SMT), va_D A (m_cw ad ca ky ty rt Ni Np No Nx Nf Na Nh Nq Nj M0 M1)) (n : Nat) (x2 : Int32) (x4 : Int32) (M0 : SMT) (M1 : SMT) (Np : SNP) (No : SNO) (Nx : SNX) (rt : Nat) (Ni : SNI) (Nf : SNF) (Na : SNA) (Nh : SNH) (Nq : SNQ) (Nj : SNJ) {r : Int32 × SNP × SNO × SNX × Nat} (h : m_MM_isIn_j45 n x2 x4 M0 M1 Np No Nx rt = some r) : o_At p l e rm_MM_isIn s m args below meth c (MQ below (o_Qx D m_cls (some (.int r.1)) (m_cw ad ca ky ty r.2.2.2.2 Ni r.2.1 r.2.2.1 r.2.2.2.1 Nf Na Nh Nq Nj M0 M1) A) args s 0 0 A) m_cls D A 6 45 [] (m_cw ad ca ky ty rt Ni Np No Nx Nf Na Nh Nq Nj M0 M1) [(0, .ref (ad 0)), (2, .int x2), (4, .int x4)] := by
  unfold m_MM_isIn_j45 at h
  intro H locs ls hP hS hl
  have C0 := C
  obtain ⟨hx, hb, -, -, -, hown, hts, hK, -, -⟩ := C0
  refine lv_iload hx hb d_MM_isIn_45 (lv_at hl 2 rfl) ?_
  refine lv_if_lt (tgt := 117) hx hb d_MM_isIn_47 (by decide) (fun c2 => ?_) (fun c2 => ?_)
  · replace h := o_tt c2 h
    refine lv_iconst (v := (0:Int32)) hx hb d_MM_isIn_117 (by decide) ?_
    cases h
    exact o_rz (v := (0:Int32)) C o_nar0 hP hS d_MM_isIn_118
  · replace h := o_ff c2 h
    refine lv_aload_n hx hb d_MM_isIn_50 rfl (lv_at hl 0 rfl) ?_
    refine o_get (v := .ref (ad 33)) C in_MM hP 0 mw_0 rfl 4 (by decide) k_7_234 rfl rfl d_MM_isIn_51 ?_
    refine o_get (v := .ref (ad 40)) C in_MT hP 33 mw_33 rfl 6 (by decide) k_7_113 rfl rfl d_MM_isIn_54 ?_
    refine lv_iload hx hb d_MM_isIn_57 (lv_at hl 2 rfl) ?_
    obtain ⟨g3, h⟩ := o_gd_some h
    refine o_iald (f := (MT_first M0)) C hP 40 38 mw_40 rfl g3 d_MM_isIn_59 ?_
    refine lv_topi (fun x5_60 ex5_60 => ?_)
    replace h := o_nm_at ex5_60 h
    refine lv_istore (lv' := [(5, .int x5_60), (0, .ref (ad 0)), (2, .int x2), (4, .int x4)]) hx hb d_MM_isIn_60 hl (by decide) rfl (fun ls hl => ?_)
    obtain ⟨q5, hq5, h⟩ := o_bd_some h
    refine o_sim2 (AH := fun zz => o_At p l e rm_MM_isIn s m args below meth c _ m_cls D A 6 62 [] (m_cw ad ca ky ty zz.2.2.2.2 Ni zz.2.1 zz.2.2.1 zz.2.2.2.1 Nf Na Nh Nq Nj M0 M1) [(0, .ref (ad 0)), (2, .int x2), (5, .int zz.1)]) (AX := fun qq => if qq.1 = 1 then o_At p l e rm_MM_isIn s m args below meth c _ m_cls D A 6 100 [] (m_cw ad ca ky ty qq.2.2.2.2.2 Ni qq.2.2.1 qq.2.2.2.1 qq.2.2.2.2.1 Nf Na Nh Nq Nj M0 M1) [] else o_At p l e rm_MM_isIn s m args below meth c _ m_cls D A 6 117 [] (m_cw ad ca ky ty qq.2.2.2.2.2 Ni qq.2.2.1 qq.2.2.2.1 qq.2.2.2.2.1 Nf Na Nh Nq Nj M0 M1) []) (fun zz qq h h0 h1 => f_MM_isIn_b62 hE hKy C hDD n x2 M0 M1 Ni Nf Na Nh Nq Nj zz qq h h0 h1) n _ q5 hq5 ?_ _ _ _ hP hS (lv_sub hl [1, 2, 0] rfl)
    by_cases c9 : q5.1 = 1
    · replace h := o_tt c9 h
      refine o_ip c9 ?_
      intro H locs ls hP hS hl
      refine lv_iconst (v := (1:Int32)) hx hb d_MM_isIn_100 (by decide) ?_
      cases h
      exact o_rz (v := (1:Int32)) C o_nar1 hP hS d_MM_isIn_101
    replace h := o_ff c9 h
    refine o_in_ c9 ?_
    intro H locs ls hP hS hl
    refine lv_iconst (v := (0:Int32)) hx hb d_MM_isIn_117 (by decide) ?_
    cases h
    exact o_rz (v := (0:Int32)) C o_nar0 hP hS d_MM_isIn_118
set_option maxHeartbeats 4000000 in
set_option maxRecDepth 100000 in
theorem e_MM_isIn {E : (Nat → Prop) → State → Heap → Prop} {D : va_G} {ad kd sd vd xd : Nat → Nat} {ca : Nat → ClassId} {ky ty : Nat → Option Nat} (hE : o_EK E kd sd vd xd) (hKy : m_KY ky ty sd) (l : Launch) (n : Nat) (x1 : Int32) (x2 : Int32) (M0 : SMT) (M1 : SMT) (Np : SNP) (No : SNO) (Nx : SNX) (rt : Nat) (Ni : SNI) (Nf : SNF) (Na : SNA) (Nh : SNH) (Nq : SNQ) (Nj : SNJ) {r : Int32 × SNP × SNO × SNX × Nat} (h : m_MM_isIn n x1 x2 M0 M1 Np No Nx rt = some r) : o_Cn E l D m_cls (m_tys ca) y_MM_isIn cc_MM_isIn rm_MM_isIn [.ref (ad 0), .int x1, .int x2] (m_cw ad ca ky ty rt Ni Np No Nx Nf Na Nh Nq Nj M0 M1) (m_cw ad ca ky ty r.2.2.2.2 Ni r.2.1 r.2.2.1 r.2.2.2.1 Nf Na Nh Nq Nj M0 M1) (some (.int r.1)) := by
  refine o_Cn_of (by decide) (Nat.le_of_ble_eq_true rfl) ?_
  intro p e s m below meth c A ls C hD hP hS hl
  have hDD : ∀ (rt : Nat) (Ni : SNI) (Np : SNP) (No : SNO) (Nx : SNX) (Nf : SNF) (Na : SNA) (Nh : SNH) (Nq : SNQ) (Nj : SNJ) (M0 : SMT) (M1 : SMT), va_D A (m_cw ad ca ky ty rt Ni Np No Nx Nf Na Nh Nq Nj M0 M1) := fun _ _ _ _ _ _ _ _ _ _ _ _ => o_D_map hD rfl
  have hl : lv_has ls 6 [(0, .ref (ad 0)), (1, .int x1), (2, .int x2)] := hl
  unfold m_MM_isIn at h
  have C0 := C
  obtain ⟨hx, hb, -, -, -, hown, hts, hK, -, -⟩ := C0
  refine lv_aload_n hx hb d_MM_isIn_0 rfl (lv_at hl 0 rfl) ?_
  refine o_get (v := .ref (ad 33)) C in_MM hP 0 mw_0 rfl 4 (by decide) k_7_234 rfl rfl d_MM_isIn_1 ?_
  refine lv_iload_n hx hb d_MM_isIn_4 rfl (lv_at hl 1 rfl) ?_
  refine va_ldcS (q := sd 40) hx hb hown (hE.2.2.2.2.2.1 _ _ _ C.2.2.2.2.2.2.2.2.2 ("SchemaJudgeModel", 112, "properties", 40) (List.mem_of_getElem? (i := 48) rfl)) d_MM_isIn_5 ?_
  obtain ⟨q1, hq1, h⟩ := o_bd_some h
  refine o_V (st1 := [.int q1]) (w1 := (m_cw ad ca ky ty rt Ni Np No Nx Nf Na Nh Nq Nj M0 M1)) hE.1 C (e_MT_member_a hE hKy l n x1 40 rfl M0 Ni Np No Nx Nf Na Nh Nq Nj M1 rt hq1) hP (hDD _ _ _ _ _ _ _ _ _ _ _ _) hS hl.1 rfl mw_33 k_9_226 k_9_227 k_9_228 k_1_13 k_9_229 hv_MT_member rfl rfl ⟨(Nat.le_of_ble_eq_true rfl), (Nat.le_of_ble_eq_true rfl)⟩ rfl (Nat.le_of_ble_eq_true rfl) ⟨Nat.zero_le _, Nat.zero_le _⟩ rfl d_MM_isIn_7 (fun H locs hP hS => ?_)
  refine lv_istore_n (lv' := [(3, .int q1), (0, .ref (ad 0)), (1, .int x1), (2, .int x2)]) hx hb d_MM_isIn_10 rfl hl (by decide) rfl (fun ls hl => ?_)
  refine lv_aload_n hx hb d_MM_isIn_11 rfl (lv_at hl 1 rfl) ?_
  refine o_get (v := .ref (ad 33)) C in_MM hP 0 mw_0 rfl 4 (by decide) k_7_234 rfl rfl d_MM_isIn_12 ?_
  refine lv_iload_n hx hb d_MM_isIn_15 rfl (lv_at hl 2 rfl) ?_
  refine va_ldcS (q := sd 41) hx hb hown (hE.2.2.2.2.2.1 _ _ _ C.2.2.2.2.2.2.2.2.2 ("SchemaJudgeModel", 114, "patternProperties", 41) (List.mem_of_getElem? (i := 49) rfl)) d_MM_isIn_16 ?_
  obtain ⟨q2, hq2, h⟩ := o_bd_some h
  refine o_V (st1 := [.int q2]) (w1 := (m_cw ad ca ky ty rt Ni Np No Nx Nf Na Nh Nq Nj M0 M1)) hE.1 C (e_MT_member_a hE hKy l n x1 41 rfl M0 Ni Np No Nx Nf Na Nh Nq Nj M1 rt hq2) hP (hDD _ _ _ _ _ _ _ _ _ _ _ _) hS hl.1 rfl mw_33 k_9_226 k_9_227 k_9_228 k_1_13 k_9_229 hv_MT_member rfl rfl ⟨(Nat.le_of_ble_eq_true rfl), (Nat.le_of_ble_eq_true rfl)⟩ rfl (Nat.le_of_ble_eq_true rfl) ⟨Nat.zero_le _, Nat.zero_le _⟩ rfl d_MM_isIn_18 (fun H locs hP hS => ?_)
  refine lv_istore (lv' := [(4, .int q2), (3, .int q1), (0, .ref (ad 0)), (1, .int x1), (2, .int x2)]) hx hb d_MM_isIn_21 hl (by decide) rfl (fun ls hl => ?_)
  refine lv_iload_n hx hb d_MM_isIn_23 rfl (lv_at hl 1 rfl) ?_
  refine lv_if_lt (tgt := 45) hx hb d_MM_isIn_24 (by decide) (fun c1 => ?_) (fun c1 => ?_)
  · replace h := o_tt c1 h
    exact f_MM_isIn_j45 hE hKy C hDD n x2 q2 M0 M1 Np No Nx rt Ni Nf Na Nh Nq Nj h _ _ _ hP hS (lv_sub hl [2, 4, 0] rfl)
  · replace h := o_ff c1 h
    refine lv_aload_n hx hb d_MM_isIn_27 rfl (lv_at hl 2 rfl) ?_
    refine o_get (v := .ref (ad 33)) C in_MM hP 0 mw_0 rfl 4 (by decide) k_7_234 rfl rfl d_MM_isIn_28 ?_
    refine lv_iload_n hx hb d_MM_isIn_31 rfl (lv_at hl 1 rfl) ?_
    refine lv_aload_n hx hb d_MM_isIn_32 rfl (lv_at hl 2 rfl) ?_
    refine o_get (v := .ref (ad 48)) C in_MM hP 0 mw_0 rfl 5 (by decide) k_7_235 rfl rfl d_MM_isIn_33 ?_
    refine lv_iload_n hx hb d_MM_isIn_36 rfl (lv_at hl 4 rfl) ?_
    obtain ⟨q6, hq6, h⟩ := o_bd_some h
    refine o_V (st1 := [.int q6]) (w1 := (m_cw ad ca ky ty rt Ni Np No Nx Nf Na Nh Nq Nj M0 M1)) hE.1 C (e_MT_member_1_ab hE hKy l n q1 x2 M0 M1 Ni Np No Nx Nf Na Nh Nq Nj rt hq6) hP (hDD _ _ _ _ _ _ _ _ _ _ _ _) hS hl.1 rfl mw_33 k_9_239 k_10_0 k_10_1 k_1_13 k_10_2 hv_MT_member_1 rfl rfl ⟨(Nat.le_of_ble_eq_true rfl), (Nat.le_of_ble_eq_true rfl)⟩ rfl (Nat.le_of_ble_eq_true rfl) ⟨Nat.zero_le _, Nat.zero_le _⟩ rfl d_MM_isIn_37 (fun H locs hP hS => ?_)
    refine lv_if_lt (tgt := 45) hx hb d_MM_isIn_40 (by decide) (fun c10 => ?_) (fun c10 => ?_)
    · replace h := o_tt c10 h
      exact f_MM_isIn_j45 hE hKy C hDD n x2 q2 M0 M1 Np No Nx rt Ni Nf Na Nh Nq Nj h _ _ _ hP hS (lv_sub hl [2, 4, 0] rfl)
    · replace h := o_ff c10 h
      refine lv_iconst (v := (1:Int32)) hx hb d_MM_isIn_43 (by decide) ?_
      cases h
      exact o_rz (v := (1:Int32)) C o_nar1 hP hS d_MM_isIn_44
