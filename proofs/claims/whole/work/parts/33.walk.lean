set_option maxHeartbeats 4000000 in
set_option maxRecDepth 100000 in
theorem w_Lk_resolve_j60 {E : (Nat → Prop) → State → Heap → Prop} {p : Program} {l : Launch} {e : Env} {s : State} {m : MethodId} {args : Array Value} {below : List Frame} {meth : Method} {c : Code} {D : va_G} {ad kd sd vd xd : Nat → Nat} {ca : Nat → ClassId} {A : Nat → Prop} (hE : o_EK E kd sd vd xd) (C : o_Cx E p s m args meth c D o_cls (o_tys ca) "SchemaJudge$Links" b_Lk_resolve (some .int) 3 cc_Lk_resolve A) (hDD : ∀ (rt : Nat) (Sj : SSJ) (T0 : STx) (T1 : STx) (Rd : SRd) (Pg : SPg) (Pt : SPt) (Mk : SMk) (Lk : SLk) (Ck : SCk) (Jd : SJd) (Ld : SLd) (Pr : SPr), va_D A (o_cw ad ca rt Sj T0 T1 Rd Pg Pt Mk Lk Ck Jd Ld Pr)) (n : Nat) (y0 : Int32) (T0 : STx) (Mk : SMk) (Lk : SLk) (Sj : SSJ) (T1 : STx) (Rd : SRd) (Pg : SPg) (Pt : SPt) (Ck : SCk) (Jd : SJd) (Ld : SLd) (Pr : SPr) (rt : Nat) {r : Int32 × SLk} (h : m_Lk_resolve_j60 n y0 T0 Mk Lk = some r) : o_At p l e rm_Lk_resolve s m args below meth c (MQ below (o_Qx D o_cls (some (.int r.1)) (o_cw ad ca rt Sj T0 T1 Rd Pg Pt Mk r.2 Ck Jd Ld Pr) A) args s 0 0 A) o_cls D A 3 60 [.int y0] (o_cw ad ca rt Sj T0 T1 Rd Pg Pt Mk Lk Ck Jd Ld Pr) [(0, .ref (ad 43))] := by
  unfold m_Lk_resolve_j60 at h
  intro H locs ls hP hS hl
  have C0 := C
  obtain ⟨hx, hb, -, -, -, hown, hts, hK, -, -⟩ := C0
  refine lv_istore_n (lv' := [(2, .int y0), (0, .ref (ad 43))]) hx hb d_Lk_resolve_60 rfl hl (by decide) rfl (fun ls hl => ?_)
  refine lv_aload_n hx hb d_Lk_resolve_61 rfl (lv_at hl 1 rfl) ?_
  refine o_get (v := .ref (ad 39)) C in_Lk hP 43 cw_43 rfl 1 (by decide) k_1_232 rfl rfl d_Lk_resolve_62 ?_
  refine lv_iload_n hx hb d_Lk_resolve_65 rfl (lv_at hl 0 rfl) ?_
  obtain ⟨q3, hq3, h⟩ := o_bd_some h
  refine o_V (st1 := [.int q3]) (w1 := (o_cw ad ca rt Sj T0 T1 Rd Pg Pt Mk Lk Ck Jd Ld Pr)) hE.1 C (c_Mk_isSchema hE l y0 Mk Sj T0 T1 Rd Pg Pt Lk Ck Jd Ld Pr rt hq3) hP (hDD _ _ _ _ _ _ _ _ _ _ _ _ _) hS hl.1 rfl cw_39 k_5_199 k_4_63 k_4_64 k_1_6 k_4_65 hv_Mk_isSchema rfl rfl ⟨(Nat.le_of_ble_eq_true rfl), (Nat.le_of_ble_eq_true rfl)⟩ rfl (Nat.le_of_ble_eq_true rfl) ⟨Nat.zero_le _, Nat.zero_le _⟩ rfl d_Lk_resolve_66 (fun H locs hP hS => ?_)
  refine lv_if_eq (tgt := 76) hx hb d_Lk_resolve_69 (by decide) (fun c8 => ?_) (fun c8 => ?_)
  · replace h := o_tt c8 h
    refine lv_iconst (v := (-1:Int32)) hx hb d_Lk_resolve_76 (by decide) ?_
    cases h
    exact o_ri (v := (-1:Int32)) C hP hS d_Lk_resolve_77
  · replace h := o_ff c8 h
    refine lv_iload_n hx hb d_Lk_resolve_72 rfl (lv_at hl 0 rfl) ?_
    refine lv_goto (tgt := 77) hx hb d_Lk_resolve_73 (by decide) ?_
    cases h
    exact o_ri C hP hS d_Lk_resolve_77
set_option maxHeartbeats 4000000 in
set_option maxRecDepth 100000 in
theorem c_Lk_resolve {E : (Nat → Prop) → State → Heap → Prop} {D : va_G} {ad kd sd vd xd : Nat → Nat} {ca : Nat → ClassId} (hE : o_EK E kd sd vd xd) (l : Launch) (n : Nat) (x1 : Int32) (T0 : STx) (Mk : SMk) (Lk : SLk) (Sj : SSJ) (T1 : STx) (Rd : SRd) (Pg : SPg) (Pt : SPt) (Ck : SCk) (Jd : SJd) (Ld : SLd) (Pr : SPr) (rt : Nat) {r : Int32 × SLk} (h : m_Lk_resolve n x1 T0 Mk Lk = some r) : o_Cn E l D o_cls (o_tys ca) y_Lk_resolve cc_Lk_resolve rm_Lk_resolve [.ref (ad 43), .int x1] (o_cw ad ca rt Sj T0 T1 Rd Pg Pt Mk Lk Ck Jd Ld Pr) (o_cw ad ca rt Sj T0 T1 Rd Pg Pt Mk r.2 Ck Jd Ld Pr) (some (.int r.1)) := by
  refine o_Cn_of (by decide) (Nat.le_of_ble_eq_true rfl) ?_
  intro p e s m below meth c A ls C hD hP hS hl
  have hDD : ∀ (rt : Nat) (Sj : SSJ) (T0 : STx) (T1 : STx) (Rd : SRd) (Pg : SPg) (Pt : SPt) (Mk : SMk) (Lk : SLk) (Ck : SCk) (Jd : SJd) (Ld : SLd) (Pr : SPr), va_D A (o_cw ad ca rt Sj T0 T1 Rd Pg Pt Mk Lk Ck Jd Ld Pr) := fun _ _ _ _ _ _ _ _ _ _ _ _ _ => o_D_map hD rfl
  have hl : lv_has ls 3 [(0, .ref (ad 43)), (1, .int x1)] := hl
  unfold m_Lk_resolve at h
  have C0 := C
  obtain ⟨hx, hb, -, -, -, hown, hts, hK, -, -⟩ := C0
  refine lv_aload_n hx hb d_Lk_resolve_0 rfl (lv_at hl 0 rfl) ?_
  refine lv_iload_n hx hb d_Lk_resolve_1 rfl (lv_at hl 1 rfl) ?_
  obtain ⟨q1, hq1, h⟩ := o_bd_some h
  refine o_V (st1 := [.int q1.1]) (w1 := (o_cw ad ca rt Sj T0 T1 Rd Pg Pt Mk q1.2 Ck Jd Ld Pr)) hE.1 C (c_Lk_decode hE l n x1 T0 Lk Sj T1 Rd Pg Pt Mk Ck Jd Ld Pr rt hq1) hP (hDD _ _ _ _ _ _ _ _ _ _ _ _ _) hS hl.1 rfl cw_43 k_5_145 k_5_147 k_s_47 k_1_8 k_5_148 hv_Lk_decode rfl rfl ⟨(Nat.le_of_ble_eq_true rfl), (Nat.le_of_ble_eq_true rfl)⟩ rfl (Nat.le_of_ble_eq_true rfl) ⟨Nat.zero_le _, Nat.zero_le _⟩ rfl d_Lk_resolve_2 (fun H locs hP hS => ?_)
  refine lv_if_eq (tgt := 26) hx hb d_Lk_resolve_5 (by decide) (fun c1 => ?_) (fun c1 => ?_)
  · replace h := o_tt c1 h
    refine lv_iconst (v := (-1:Int32)) hx hb d_Lk_resolve_26 (by decide) ?_
    cases h
    exact o_ri (v := (-1:Int32)) C hP hS d_Lk_resolve_27
  · replace h := o_ff c1 h
    refine lv_aload_n hx hb d_Lk_resolve_8 rfl (lv_at hl 0 rfl) ?_
    refine o_get (v := .int (Lk_length q1.2)) C in_Lk hP 43 cw_43 rfl 3 (by decide) k_1_234 rfl rfl d_Lk_resolve_9 ?_
    refine lv_if_eq (tgt := 26) hx hb d_Lk_resolve_12 (by decide) (fun c2 => ?_) (fun c2 => ?_)
    · replace h := o_tt c2 h
      refine lv_iconst (v := (-1:Int32)) hx hb d_Lk_resolve_26 (by decide) ?_
      cases h
      exact o_ri (v := (-1:Int32)) C hP hS d_Lk_resolve_27
    · replace h := o_ff c2 h
      refine lv_aload_n hx hb d_Lk_resolve_15 rfl (lv_at hl 0 rfl) ?_
      refine o_get (v := .ref (ad 44)) C in_Lk hP 43 cw_43 rfl 2 (by decide) k_1_233 rfl rfl d_Lk_resolve_16 ?_
      refine lv_iconst (v := (0:Int32)) hx hb d_Lk_resolve_19 (by decide) ?_
      obtain ⟨g3, h⟩ := o_gd_some h
      refine o_iald (f := (Lk_characters q1.2)) C hP 44 36 cw_44 rfl g3 d_Lk_resolve_20 ?_
      refine lv_bipush (v := (35:Int32)) hx hb d_Lk_resolve_21 (by decide) ?_
      refine lv_icmp_eq (tgt := 28) hx hb d_Lk_resolve_23 (by decide) (fun c4 => ?_) (fun c4 => ?_)
      · replace h := o_tt c4 h
        refine lv_aload_n hx hb d_Lk_resolve_28 rfl (lv_at hl 0 rfl) ?_
        refine o_get (v := .int (Lk_length q1.2)) C in_Lk hP 43 cw_43 rfl 3 (by decide) k_1_234 rfl rfl d_Lk_resolve_29 ?_
        refine lv_iconst (v := (1:Int32)) hx hb d_Lk_resolve_32 (by decide) ?_
        refine lv_icmp_ne (tgt := 38) hx hb d_Lk_resolve_33 (by decide) (fun c5 => ?_) (fun c5 => ?_)
        · replace h := o_ff c5 h
          refine lv_aload_n hx hb d_Lk_resolve_38 rfl (lv_at hl 0 rfl) ?_
          refine o_get (v := .ref (ad 44)) C in_Lk hP 43 cw_43 rfl 2 (by decide) k_1_233 rfl rfl d_Lk_resolve_39 ?_
          refine lv_iconst (v := (1:Int32)) hx hb d_Lk_resolve_42 (by decide) ?_
          obtain ⟨g6, h⟩ := o_gd_some h
          refine o_iald (f := (Lk_characters q1.2)) C hP 44 36 cw_44 rfl g6 d_Lk_resolve_43 ?_
          refine lv_bipush (v := (47:Int32)) hx hb d_Lk_resolve_44 (by decide) ?_
          refine lv_icmp_ne (tgt := 56) hx hb d_Lk_resolve_46 (by decide) (fun c7 => ?_) (fun c7 => ?_)
          · replace h := o_ff c7 h
            refine lv_aload_n hx hb d_Lk_resolve_56 rfl (lv_at hl 0 rfl) ?_
            obtain ⟨q2, hq2, h⟩ := o_bd_some h
            refine o_V (st1 := [.int q2]) (w1 := (o_cw ad ca rt Sj T0 T1 Rd Pg Pt Mk q1.2 Ck Jd Ld Pr)) hE.1 C (c_Lk_anchored hE l n T0 Mk q1.2 Sj T1 Rd Pg Pt Ck Jd Ld Pr rt hq2) hP (hDD _ _ _ _ _ _ _ _ _ _ _ _ _) hS hl.1 rfl cw_43 k_5_188 k_5_190 k_s_54 k_1_8 k_5_191 hv_Lk_anchored rfl rfl ⟨(Nat.le_of_ble_eq_true rfl), (Nat.le_of_ble_eq_true rfl)⟩ rfl (Nat.le_of_ble_eq_true rfl) ⟨Nat.zero_le _, Nat.zero_le _⟩ rfl d_Lk_resolve_57 (fun H locs hP hS => ?_)
            exact w_Lk_resolve_j60 hE C hDD n q2 T0 Mk q1.2 Sj T1 Rd Pg Pt Ck Jd Ld Pr rt h _ _ _ hP hS (lv_sub hl [0] rfl)
          · replace h := o_tt c7 h
            refine lv_aload_n hx hb d_Lk_resolve_49 rfl (lv_at hl 0 rfl) ?_
            obtain ⟨q4, hq4, h⟩ := o_bd_some h
            refine o_V (st1 := [.int q4]) (w1 := (o_cw ad ca rt Sj T0 T1 Rd Pg Pt Mk q1.2 Ck Jd Ld Pr)) hE.1 C (c_Lk_walk hE l n T0 q1.2 Sj T1 Rd Pg Pt Mk Ck Jd Ld Pr rt hq4) hP (hDD _ _ _ _ _ _ _ _ _ _ _ _ _) hS hl.1 rfl cw_43 k_5_164 k_5_166 k_s_50 k_1_8 k_5_167 hv_Lk_walk rfl rfl ⟨(Nat.le_of_ble_eq_true rfl), (Nat.le_of_ble_eq_true rfl)⟩ rfl (Nat.le_of_ble_eq_true rfl) ⟨Nat.zero_le _, Nat.zero_le _⟩ rfl d_Lk_resolve_50 (fun H locs hP hS => ?_)
            refine lv_goto (tgt := 60) hx hb d_Lk_resolve_53 (by decide) ?_
            exact w_Lk_resolve_j60 hE C hDD n q4 T0 Mk q1.2 Sj T1 Rd Pg Pt Ck Jd Ld Pr rt h _ _ _ hP hS (lv_sub hl [0] rfl)
        · replace h := o_tt c5 h
          refine lv_iconst (v := (0:Int32)) hx hb d_Lk_resolve_36 (by decide) ?_
          cases h
          exact o_ri (v := (0:Int32)) C hP hS d_Lk_resolve_37
      · replace h := o_ff c4 h
        refine lv_iconst (v := (-1:Int32)) hx hb d_Lk_resolve_26 (by decide) ?_
        cases h
        exact o_ri (v := (-1:Int32)) C hP hS d_Lk_resolve_27
set_option maxHeartbeats 4000000 in
set_option maxRecDepth 100000 in
theorem c_Mk_setTarget {E : (Nat → Prop) → State → Heap → Prop} {D : va_G} {ad kd sd vd xd : Nat → Nat} {ca : Nat → ClassId} (hE : o_EK E kd sd vd xd) (l : Launch) (x1 : Int32) (x2 : Int32) (Mk : SMk) (Sj : SSJ) (T0 : STx) (T1 : STx) (Rd : SRd) (Pg : SPg) (Pt : SPt) (Lk : SLk) (Ck : SCk) (Jd : SJd) (Ld : SLd) (Pr : SPr) (rt : Nat) {r : SMk} (h : m_Mk_setTarget x1 x2 Mk = some r) : o_Cn E l D o_cls (o_tys ca) y_Mk_setTarget cc_Mk_setTarget rm_Mk_setTarget [.ref (ad 39), .int x1, .int x2] (o_cw ad ca rt Sj T0 T1 Rd Pg Pt Mk Lk Ck Jd Ld Pr) (o_cw ad ca rt Sj T0 T1 Rd Pg Pt r Lk Ck Jd Ld Pr) none := by
  refine o_Cn_of (by decide) (Nat.le_of_ble_eq_true rfl) ?_
  intro p e s m below meth c A ls C hD hP hS hl
  have hDD : ∀ (rt : Nat) (Sj : SSJ) (T0 : STx) (T1 : STx) (Rd : SRd) (Pg : SPg) (Pt : SPt) (Mk : SMk) (Lk : SLk) (Ck : SCk) (Jd : SJd) (Ld : SLd) (Pr : SPr), va_D A (o_cw ad ca rt Sj T0 T1 Rd Pg Pt Mk Lk Ck Jd Ld Pr) := fun _ _ _ _ _ _ _ _ _ _ _ _ _ => o_D_map hD rfl
  have hl : lv_has ls 3 [(0, .ref (ad 39)), (1, .int x1), (2, .int x2)] := hl
  unfold m_Mk_setTarget at h
  have C0 := C
  obtain ⟨hx, hb, -, -, -, hown, hts, hK, -, -⟩ := C0
  refine lv_iload_n hx hb d_Mk_setTarget_0 rfl (lv_at hl 1 rfl) ?_
  refine lv_if_lt (tgt := 18) hx hb d_Mk_setTarget_1 (by decide) (fun c1 => ?_) (fun c1 => ?_)
  · replace h := o_tt c1 h
    cases h
    exact o_rv C hP hS d_Mk_setTarget_18
  · replace h := o_ff c1 h
    refine lv_iload_n hx hb d_Mk_setTarget_4 rfl (lv_at hl 1 rfl) ?_
    refine lv_sipush (v := (1000:Int32)) hx hb d_Mk_setTarget_5 (by decide) ?_
    refine lv_icmp_ge (tgt := 18) hx hb d_Mk_setTarget_8 (by decide) (fun c2 => ?_) (fun c2 => ?_)
    · replace h := o_tt c2 h
      cases h
      exact o_rv C hP hS d_Mk_setTarget_18
    · replace h := o_ff c2 h
      refine lv_aload_n hx hb d_Mk_setTarget_11 rfl (lv_at hl 0 rfl) ?_
      refine o_get (v := .ref (ad 42)) C in_Mk hP 39 cw_39 rfl 3 (by decide) k_1_209 rfl rfl d_Mk_setTarget_12 ?_
      refine lv_iload_n hx hb d_Mk_setTarget_15 rfl (lv_at hl 1 rfl) ?_
      refine lv_iload_n hx hb d_Mk_setTarget_16 rfl (lv_at hl 2 rfl) ?_
      obtain ⟨g3, h⟩ := o_gd_some h
      refine o_iast (f := (Mk_targets Mk)) (w1 := (o_cw ad ca rt Sj T0 T1 Rd Pg Pt (Mk_mk (Mk_keywords Mk) (Mk_schemas Mk) (upd (Mk_targets Mk) x1.toNatClampNeg x2)) Lk Ck Jd Ld Pr)) C hP (hDD _ _ _ _ _ _ _ _ _ _ _ _ _) hS 42 35 cw_42 rfl g3 rfl d_Mk_setTarget_17 (fun H locs hP hS => ?_)
      cases h
      exact o_rv C hP hS d_Mk_setTarget_18
set_option maxHeartbeats 4000000 in
set_option maxRecDepth 100000 in
theorem w_Mk_schemaCount_j16 {E : (Nat → Prop) → State → Heap → Prop} {p : Program} {l : Launch} {e : Env} {s : State} {m : MethodId} {args : Array Value} {below : List Frame} {meth : Method} {c : Code} {D : va_G} {ad kd sd vd xd : Nat → Nat} {ca : Nat → ClassId} {A : Nat → Prop} (hE : o_EK E kd sd vd xd) (C : o_Cx E p s m args meth c D o_cls (o_tys ca) "SchemaJudge$Marks" b_Mk_schemaCount (some .int) 3 cc_Mk_schemaCount A) (hDD : ∀ (rt : Nat) (Sj : SSJ) (T0 : STx) (T1 : STx) (Rd : SRd) (Pg : SPg) (Pt : SPt) (Mk : SMk) (Lk : SLk) (Ck : SCk) (Jd : SJd) (Ld : SLd) (Pr : SPr), va_D A (o_cw ad ca rt Sj T0 T1 Rd Pg Pt Mk Lk Ck Jd Ld Pr)) (x2 : Int32) (T0 : STx) (Sj : SSJ) (T1 : STx) (Rd : SRd) (Pg : SPg) (Pt : SPt) (Mk : SMk) (Lk : SLk) (Ck : SCk) (Jd : SJd) (Ld : SLd) (Pr : SPr) (rt : Nat) {r : Int32} (h : m_Mk_schemaCount_j16 x2 T0 = some r) : o_At p l e rm_Mk_schemaCount s m args below meth c (MQ below (o_Qx D o_cls (some (.int r)) (o_cw ad ca rt Sj T0 T1 Rd Pg Pt Mk Lk Ck Jd Ld Pr) A) args s 0 0 A) o_cls D A 3 16 [] (o_cw ad ca rt Sj T0 T1 Rd Pg Pt Mk Lk Ck Jd Ld Pr) [(0, .ref (ad 39)), (2, .int x2)] := by
  unfold m_Mk_schemaCount_j16 at h
  intro H locs ls hP hS hl
  have C0 := C
  obtain ⟨hx, hb, -, -, -, hown, hts, hK, -, -⟩ := C0
  refine lv_aload_n hx hb d_Mk_schemaCount_16 rfl (lv_at hl 0 rfl) ?_
  refine o_get (v := .ref (ad 1)) C in_Mk hP 39 cw_39 rfl 0 (by decide) k_1_206 rfl rfl d_Mk_schemaCount_17 ?_
  refine lv_iload_n hx hb d_Mk_schemaCount_20 rfl (lv_at hl 1 rfl) ?_
  obtain ⟨q1, hq1, h⟩ := o_bd_some h
  refine o_V (st1 := [.int q1]) (w1 := (o_cw ad ca rt Sj T0 T1 Rd Pg Pt Mk Lk Ck Jd Ld Pr)) hE.1 C (c_Tx_size_0 hE l x2 T0 Sj T1 Rd Pg Pt Mk Lk Ck Jd Ld Pr rt hq1) hP (hDD _ _ _ _ _ _ _ _ _ _ _ _ _) hS hl.1 rfl cw_1 k_5_220 k_3_215 k_3_216 k_1_2 k_3_217 hv_Tx_size rfl rfl ⟨(Nat.le_of_ble_eq_true rfl), (Nat.le_of_ble_eq_true rfl)⟩ rfl (Nat.le_of_ble_eq_true rfl) ⟨Nat.zero_le _, Nat.zero_le _⟩ rfl d_Mk_schemaCount_21 (fun H locs hP hS => ?_)
  refine lv_goto (tgt := 28) hx hb d_Mk_schemaCount_24 (by decide) ?_
  cases h
  exact o_ri C hP hS d_Mk_schemaCount_28
set_option maxHeartbeats 4000000 in
set_option maxRecDepth 100000 in
theorem c_Mk_schemaCount {E : (Nat → Prop) → State → Heap → Prop} {D : va_G} {ad kd sd vd xd : Nat → Nat} {ca : Nat → ClassId} (hE : o_EK E kd sd vd xd) (l : Launch) (x1 : Nat) (gx1 : o_kb x1 = true) (x2 : Int32) (T0 : STx) (Sj : SSJ) (T1 : STx) (Rd : SRd) (Pg : SPg) (Pt : SPt) (Mk : SMk) (Lk : SLk) (Ck : SCk) (Jd : SJd) (Ld : SLd) (Pr : SPr) (rt : Nat) {r : Int32} (h : m_Mk_schemaCount x1 x2 T0 = some r) : o_Cn E l D o_cls (o_tys ca) y_Mk_schemaCount cc_Mk_schemaCount rm_Mk_schemaCount [.ref (ad 39), .ref (kd x1), .int x2] (o_cw ad ca rt Sj T0 T1 Rd Pg Pt Mk Lk Ck Jd Ld Pr) (o_cw ad ca rt Sj T0 T1 Rd Pg Pt Mk Lk Ck Jd Ld Pr) (some (.int r)) := by
  refine o_Cn_of (by decide) (Nat.le_of_ble_eq_true rfl) ?_
  intro p e s m below meth c A ls C hD hP hS hl
  have hDD : ∀ (rt : Nat) (Sj : SSJ) (T0 : STx) (T1 : STx) (Rd : SRd) (Pg : SPg) (Pt : SPt) (Mk : SMk) (Lk : SLk) (Ck : SCk) (Jd : SJd) (Ld : SLd) (Pr : SPr), va_D A (o_cw ad ca rt Sj T0 T1 Rd Pg Pt Mk Lk Ck Jd Ld Pr) := fun _ _ _ _ _ _ _ _ _ _ _ _ _ => o_D_map hD rfl
  have hl : lv_has ls 3 [(0, .ref (ad 39)), (1, .ref (kd x1)), (2, .int x2)] := hl
  unfold m_Mk_schemaCount at h
  have C0 := C
  obtain ⟨hx, hb, -, -, -, hown, hts, hK, -, -⟩ := C0
  refine lv_aload_n hx hb d_Mk_schemaCount_0 rfl (lv_at hl 1 rfl) ?_
  refine o_gkN (fi := 1) (v := (kw_form x1)) hE C gx1 hS rfl rfl nw_24 d_Mk_schemaCount_1 ?_
  refine lv_iconst (v := (2:Int32)) hx hb d_Mk_schemaCount_4 (by decide) ?_
  refine lv_icmp_eq (tgt := 16) hx hb d_Mk_schemaCount_5 (by decide) (fun c1 => ?_) (fun c1 => ?_)
  · replace h := o_tt c1 h
    exact w_Mk_schemaCount_j16 hE C hDD x2 T0 Sj T1 Rd Pg Pt Mk Lk Ck Jd Ld Pr rt h _ _ _ hP hS (lv_sub hl [0, 2] rfl)
  · replace h := o_ff c1 h
    refine lv_aload_n hx hb d_Mk_schemaCount_8 rfl (lv_at hl 1 rfl) ?_
    refine o_gkN (fi := 1) (v := (kw_form x1)) hE C gx1 hS rfl rfl nw_24 d_Mk_schemaCount_9 ?_
    refine lv_iconst (v := (3:Int32)) hx hb d_Mk_schemaCount_12 (by decide) ?_
    refine lv_icmp_ne (tgt := 27) hx hb d_Mk_schemaCount_13 (by decide) (fun c2 => ?_) (fun c2 => ?_)
    · replace h := o_ff c2 h
      refine lv_iconst (v := (1:Int32)) hx hb d_Mk_schemaCount_27 (by decide) ?_
      cases h
      exact o_ri (v := (1:Int32)) C hP hS d_Mk_schemaCount_28
    · replace h := o_tt c2 h
      exact w_Mk_schemaCount_j16 hE C hDD x2 T0 Sj T1 Rd Pg Pt Mk Lk Ck Jd Ld Pr rt h _ _ _ hP hS (lv_sub hl [0, 2] rfl)
set_option maxHeartbeats 4000000 in
set_option maxRecDepth 100000 in
theorem w_Mk_firstSchema_j16 {E : (Nat → Prop) → State → Heap → Prop} {p : Program} {l : Launch} {e : Env} {s : State} {m : MethodId} {args : Array Value} {below : List Frame} {meth : Method} {c : Code} {D : va_G} {ad kd sd vd xd : Nat → Nat} {ca : Nat → ClassId} {A : Nat → Prop} (hE : o_EK E kd sd vd xd) (C : o_Cx E p s m args meth c D o_cls (o_tys ca) "SchemaJudge$Marks" b_Mk_firstSchema (some .int) 3 cc_Mk_firstSchema A) (hDD : ∀ (rt : Nat) (Sj : SSJ) (T0 : STx) (T1 : STx) (Rd : SRd) (Pg : SPg) (Pt : SPt) (Mk : SMk) (Lk : SLk) (Ck : SCk) (Jd : SJd) (Ld : SLd) (Pr : SPr), va_D A (o_cw ad ca rt Sj T0 T1 Rd Pg Pt Mk Lk Ck Jd Ld Pr)) (x2 : Int32) (T0 : STx) (Mk : SMk) (Sj : SSJ) (T1 : STx) (Rd : SRd) (Pg : SPg) (Pt : SPt) (Lk : SLk) (Ck : SCk) (Jd : SJd) (Ld : SLd) (Pr : SPr) (rt : Nat) {r : Int32} (h : m_Mk_firstSchema_j16 x2 T0 Mk = some r) : o_At p l e rm_Mk_firstSchema s m args below meth c (MQ below (o_Qx D o_cls (some (.int r)) (o_cw ad ca rt Sj T0 T1 Rd Pg Pt Mk Lk Ck Jd Ld Pr) A) args s 0 0 A) o_cls D A 3 16 [] (o_cw ad ca rt Sj T0 T1 Rd Pg Pt Mk Lk Ck Jd Ld Pr) [(0, .ref (ad 39)), (2, .int x2)] := by
  unfold m_Mk_firstSchema_j16 at h
  intro H locs ls hP hS hl
  have C0 := C
  obtain ⟨hx, hb, -, -, -, hown, hts, hK, -, -⟩ := C0
  refine lv_aload_n hx hb d_Mk_firstSchema_16 rfl (lv_at hl 0 rfl) ?_
  refine o_get (v := .ref (ad 1)) C in_Mk hP 39 cw_39 rfl 0 (by decide) k_1_206 rfl rfl d_Mk_firstSchema_17 ?_
  refine lv_iload_n hx hb d_Mk_firstSchema_20 rfl (lv_at hl 1 rfl) ?_
  obtain ⟨q1, hq1, h⟩ := o_bd_some h
  refine o_V (st1 := [.int q1]) (w1 := (o_cw ad ca rt Sj T0 T1 Rd Pg Pt Mk Lk Ck Jd Ld Pr)) hE.1 C (c_Tx_firstChild_0 hE l x2 T0 Sj T1 Rd Pg Pt Mk Lk Ck Jd Ld Pr rt hq1) hP (hDD _ _ _ _ _ _ _ _ _ _ _ _ _) hS hl.1 rfl cw_1 k_5_225 k_3_211 k_3_212 k_1_2 k_3_213 hv_Tx_firstChild rfl rfl ⟨(Nat.le_of_ble_eq_true rfl), (Nat.le_of_ble_eq_true rfl)⟩ rfl (Nat.le_of_ble_eq_true rfl) ⟨Nat.zero_le _, Nat.zero_le _⟩ rfl d_Mk_firstSchema_21 (fun H locs hP hS => ?_)
  cases h
  exact o_ri C hP hS d_Mk_firstSchema_24
set_option maxHeartbeats 4000000 in
set_option maxRecDepth 100000 in
theorem c_Mk_firstSchema {E : (Nat → Prop) → State → Heap → Prop} {D : va_G} {ad kd sd vd xd : Nat → Nat} {ca : Nat → ClassId} (hE : o_EK E kd sd vd xd) (l : Launch) (x1 : Nat) (gx1 : o_kb x1 = true) (x2 : Int32) (T0 : STx) (Mk : SMk) (Sj : SSJ) (T1 : STx) (Rd : SRd) (Pg : SPg) (Pt : SPt) (Lk : SLk) (Ck : SCk) (Jd : SJd) (Ld : SLd) (Pr : SPr) (rt : Nat) {r : Int32} (h : m_Mk_firstSchema x1 x2 T0 Mk = some r) : o_Cn E l D o_cls (o_tys ca) y_Mk_firstSchema cc_Mk_firstSchema rm_Mk_firstSchema [.ref (ad 39), .ref (kd x1), .int x2] (o_cw ad ca rt Sj T0 T1 Rd Pg Pt Mk Lk Ck Jd Ld Pr) (o_cw ad ca rt Sj T0 T1 Rd Pg Pt Mk Lk Ck Jd Ld Pr) (some (.int r)) := by
  refine o_Cn_of (by decide) (Nat.le_of_ble_eq_true rfl) ?_
  intro p e s m below meth c A ls C hD hP hS hl
  have hDD : ∀ (rt : Nat) (Sj : SSJ) (T0 : STx) (T1 : STx) (Rd : SRd) (Pg : SPg) (Pt : SPt) (Mk : SMk) (Lk : SLk) (Ck : SCk) (Jd : SJd) (Ld : SLd) (Pr : SPr), va_D A (o_cw ad ca rt Sj T0 T1 Rd Pg Pt Mk Lk Ck Jd Ld Pr) := fun _ _ _ _ _ _ _ _ _ _ _ _ _ => o_D_map hD rfl
  have hl : lv_has ls 3 [(0, .ref (ad 39)), (1, .ref (kd x1)), (2, .int x2)] := hl
  unfold m_Mk_firstSchema at h
  have C0 := C
  obtain ⟨hx, hb, -, -, -, hown, hts, hK, -, -⟩ := C0
  refine lv_aload_n hx hb d_Mk_firstSchema_0 rfl (lv_at hl 1 rfl) ?_
  refine o_gkN (fi := 1) (v := (kw_form x1)) hE C gx1 hS rfl rfl nw_24 d_Mk_firstSchema_1 ?_
  refine lv_iconst (v := (2:Int32)) hx hb d_Mk_firstSchema_4 (by decide) ?_
  refine lv_icmp_eq (tgt := 16) hx hb d_Mk_firstSchema_5 (by decide) (fun c1 => ?_) (fun c1 => ?_)
  · replace h := o_tt c1 h
    exact w_Mk_firstSchema_j16 hE C hDD x2 T0 Mk Sj T1 Rd Pg Pt Lk Ck Jd Ld Pr rt h _ _ _ hP hS (lv_sub hl [0, 2] rfl)
  · replace h := o_ff c1 h
    refine lv_aload_n hx hb d_Mk_firstSchema_8 rfl (lv_at hl 1 rfl) ?_
    refine o_gkN (fi := 1) (v := (kw_form x1)) hE C gx1 hS rfl rfl nw_24 d_Mk_firstSchema_9 ?_
    refine lv_iconst (v := (3:Int32)) hx hb d_Mk_firstSchema_12 (by decide) ?_
    refine lv_icmp_ne (tgt := 25) hx hb d_Mk_firstSchema_13 (by decide) (fun c2 => ?_) (fun c2 => ?_)
    · replace h := o_ff c2 h
      refine lv_aload_n hx hb d_Mk_firstSchema_25 rfl (lv_at hl 1 rfl) ?_
      refine o_gkN (fi := 1) (v := (kw_form x1)) hE C gx1 hS rfl rfl nw_24 d_Mk_firstSchema_26 ?_
      refine lv_bipush (v := (8:Int32)) hx hb d_Mk_firstSchema_29 (by decide) ?_
      refine lv_icmp_ne (tgt := 56) hx hb d_Mk_firstSchema_31 (by decide) (fun c3 => ?_) (fun c3 => ?_)
      · replace h := o_ff c3 h
        refine lv_iload_n hx hb d_Mk_firstSchema_56 rfl (lv_at hl 2 rfl) ?_
        cases h
        exact o_ri C hP hS d_Mk_firstSchema_57
      · replace h := o_tt c3 h
        refine lv_iload_n hx hb d_Mk_firstSchema_34 rfl (lv_at hl 2 rfl) ?_
        refine lv_if_lt (tgt := 54) hx hb d_Mk_firstSchema_35 (by decide) (fun c4 => ?_) (fun c4 => ?_)
        · replace h := o_tt c4 h
          refine lv_iconst (v := (-1:Int32)) hx hb d_Mk_firstSchema_54 (by decide) ?_
          cases h
          exact o_ri (v := (-1:Int32)) C hP hS d_Mk_firstSchema_55
        · replace h := o_ff c4 h
          refine lv_iload_n hx hb d_Mk_firstSchema_38 rfl (lv_at hl 2 rfl) ?_
          refine lv_sipush (v := (1000:Int32)) hx hb d_Mk_firstSchema_39 (by decide) ?_
          refine lv_icmp_ge (tgt := 54) hx hb d_Mk_firstSchema_42 (by decide) (fun c5 => ?_) (fun c5 => ?_)
          · replace h := o_tt c5 h
            refine lv_iconst (v := (-1:Int32)) hx hb d_Mk_firstSchema_54 (by decide) ?_
            cases h
            exact o_ri (v := (-1:Int32)) C hP hS d_Mk_firstSchema_55
          · replace h := o_ff c5 h
            refine lv_aload_n hx hb d_Mk_firstSchema_45 rfl (lv_at hl 0 rfl) ?_
            refine o_get (v := .ref (ad 42)) C in_Mk hP 39 cw_39 rfl 3 (by decide) k_1_209 rfl rfl d_Mk_firstSchema_46 ?_
            refine lv_iload_n hx hb d_Mk_firstSchema_49 rfl (lv_at hl 2 rfl) ?_
            obtain ⟨g6, h⟩ := o_gd_some h
            refine o_iald (f := (Mk_targets Mk)) C hP 42 35 cw_42 rfl g6 d_Mk_firstSchema_50 ?_
            refine lv_goto (tgt := 55) hx hb d_Mk_firstSchema_51 (by decide) ?_
            cases h
            exact o_ri (v := ((Mk_targets Mk) x2.toNatClampNeg)) C hP hS d_Mk_firstSchema_55
    · replace h := o_tt c2 h
      exact w_Mk_firstSchema_j16 hE C hDD x2 T0 Mk Sj T1 Rd Pg Pt Lk Ck Jd Ld Pr rt h _ _ _ hP hS (lv_sub hl [0, 2] rfl)
set_option maxHeartbeats 4000000 in
set_option maxRecDepth 100000 in
theorem w_Ck_spread_j145 {E : (Nat → Prop) → State → Heap → Prop} {p : Program} {l : Launch} {e : Env} {s : State} {m : MethodId} {args : Array Value} {below : List Frame} {meth : Method} {c : Code} {D : va_G} {ad kd sd vd xd : Nat → Nat} {ca : Nat → ClassId} {A : Nat → Prop} {Q : State → Prop} (hE : o_EK E kd sd vd xd) (C : o_Cx E p s m args meth c D o_cls (o_tys ca) "SchemaJudge$Checker" b_Ck_spread none 9 cc_Ck_spread A) (hDD : ∀ (rt : Nat) (Sj : SSJ) (T0 : STx) (T1 : STx) (Rd : SRd) (Pg : SPg) (Pt : SPt) (Mk : SMk) (Lk : SLk) (Ck : SCk) (Jd : SJd) (Ld : SLd) (Pr : SPr), va_D A (o_cw ad ca rt Sj T0 T1 Rd Pg Pt Mk Lk Ck Jd Ld Pr)) (n : Nat) (u75_x1 : Int32) (u75_x2 : Int32) (u75_x3 : Int32) (u75_x4 : Int32) (u75_x6 : Int32) (u75_T0 : STx) (u75_Mk : SMk) (u75_Sj : SSJ) (u75_T1 : STx) (u75_Rd : SRd) (u75_Pg : SPg) (u75_Pt : SPt) (u75_Lk : SLk) (u75_Jd : SJd) (u75_Ld : SLd) (u75_Pr : SPr) (u75_rt : Nat) (x7 : Int32) (x8 : Int32) (Ck : SCk) {q : Nat × Int32 × Int32 × SCk} (h : m_Ck_spread_j145 n u75_x1 u75_x2 u75_x3 u75_x4 u75_x6 x7 x8 u75_T0 u75_Mk Ck = some q) (h0 : q.1 = 0 → o_At p l e rm_Ck_spread s m args below meth c Q o_cls D A 9 75 [] (o_cw ad ca u75_rt u75_Sj u75_T0 u75_T1 u75_Rd u75_Pg u75_Pt u75_Mk u75_Lk q.2.2.2 u75_Jd u75_Ld u75_Pr) [(0, .ref (ad 45)), (1, .int u75_x1), (2, .int u75_x2), (3, .int u75_x3), (4, .int u75_x4), (6, .int u75_x6), (7, .int q.2.1), (8, .int q.2.2.1)]) (h1 : q.1 ≠ 0 → (o_At p l e rm_Ck_spread s m args below meth c Q o_cls D A 9 162 [] (o_cw ad ca u75_rt u75_Sj u75_T0 u75_T1 u75_Rd u75_Pg u75_Pt u75_Mk u75_Lk q.2.2.2 u75_Jd u75_Ld u75_Pr) [(0, .ref (ad 45)), (1, .int u75_x1), (2, .int u75_x2), (3, .int u75_x3), (4, .int u75_x4)])) : o_At p l e rm_Ck_spread s m args below meth c Q o_cls D A 9 145 [] (o_cw ad ca u75_rt u75_Sj u75_T0 u75_T1 u75_Rd u75_Pg u75_Pt u75_Mk u75_Lk Ck u75_Jd u75_Ld u75_Pr) [(0, .ref (ad 45)), (1, .int u75_x1), (2, .int u75_x2), (3, .int u75_x3), (4, .int u75_x4), (6, .int u75_x6), (7, .int x7), (8, .int x8)] := by
  unfold m_Ck_spread_j145 at h
  intro H locs ls hP hS hl
  have C0 := C
  obtain ⟨hx, hb, -, -, -, hown, hts, hK, -, -⟩ := C0
  refine lv_aload_n hx hb d_Ck_spread_145 rfl (lv_at hl 0 rfl) ?_
  refine o_get (v := .ref (ad 1)) C in_Ck hP 45 cw_45 rfl 0 (by decide) k_2_7 rfl rfl d_Ck_spread_146 ?_
  refine lv_iload hx hb d_Ck_spread_149 (lv_at hl 6 rfl) ?_
  obtain ⟨q5, hq5, h⟩ := o_bd_some h
  refine o_V (st1 := [.int q5]) (w1 := (o_cw ad ca u75_rt u75_Sj u75_T0 u75_T1 u75_Rd u75_Pg u75_Pt u75_Mk u75_Lk Ck u75_Jd u75_Ld u75_Pr)) hE.1 C (c_Tx_nextChild_0 hE l x7 u75_T0 u75_Sj u75_T1 u75_Rd u75_Pg u75_Pt u75_Mk u75_Lk Ck u75_Jd u75_Ld u75_Pr u75_rt hq5) hP (hDD _ _ _ _ _ _ _ _ _ _ _ _ _) hS hl.1 rfl cw_1 k_4_101 k_3_222 k_3_223 k_1_2 k_3_224 hv_Tx_nextChild rfl rfl ⟨(Nat.le_of_ble_eq_true rfl), (Nat.le_of_ble_eq_true rfl)⟩ rfl (Nat.le_of_ble_eq_true rfl) ⟨Nat.zero_le _, Nat.zero_le _⟩ rfl d_Ck_spread_151 (fun H locs hP hS => ?_)
  refine lv_istore (lv' := [(7, .int q5), (0, .ref (ad 45)), (1, .int u75_x1), (2, .int u75_x2), (3, .int u75_x3), (4, .int u75_x4), (6, .int u75_x6), (8, .int x8)]) hx hb d_Ck_spread_154 hl (by decide) rfl (fun ls hl => ?_)
  obtain ⟨x8_156, ex8_156⟩ : ∃ y : Int32, y = x8 + (1:Int32) := ⟨_, rfl⟩
  replace h := o_nm_at ex8_156 h
  refine lv_iinc (v := x8_156) (lv' := [(8, .int x8_156), (7, .int q5), (0, .ref (ad 45)), (1, .int u75_x1), (2, .int u75_x2), (3, .int u75_x3), (4, .int u75_x4), (6, .int u75_x6)]) hx hb d_Ck_spread_156 hl (k := 7) rfl (by rw [ex8_156]; rfl) (by decide) rfl (fun ls hl => ?_)
  refine lv_goto (tgt := 75) hx hb d_Ck_spread_159 (by decide) ?_
  cases h
  exact h0 rfl _ _ _ hP hS (lv_sub hl [2, 3, 4, 5, 6, 7, 1, 0] rfl)
set_option maxHeartbeats 4000000 in
set_option maxRecDepth 100000 in
theorem w_Ck_spread_b75 {E : (Nat → Prop) → State → Heap → Prop} {p : Program} {l : Launch} {e : Env} {s : State} {m : MethodId} {args : Array Value} {below : List Frame} {meth : Method} {c : Code} {D : va_G} {ad kd sd vd xd : Nat → Nat} {ca : Nat → ClassId} {A : Nat → Prop} {Q : State → Prop} (hE : o_EK E kd sd vd xd) (C : o_Cx E p s m args meth c D o_cls (o_tys ca) "SchemaJudge$Checker" b_Ck_spread none 9 cc_Ck_spread A) (hDD : ∀ (rt : Nat) (Sj : SSJ) (T0 : STx) (T1 : STx) (Rd : SRd) (Pg : SPg) (Pt : SPt) (Mk : SMk) (Lk : SLk) (Ck : SCk) (Jd : SJd) (Ld : SLd) (Pr : SPr), va_D A (o_cw ad ca rt Sj T0 T1 Rd Pg Pt Mk Lk Ck Jd Ld Pr)) (n : Nat) (u75_x1 : Int32) (u75_x2 : Int32) (u75_x3 : Int32) (u75_x4 : Int32) (u75_x6 : Int32) (u75_T0 : STx) (u75_Mk : SMk) (u75_Sj : SSJ) (u75_T1 : STx) (u75_Rd : SRd) (u75_Pg : SPg) (u75_Pt : SPt) (u75_Lk : SLk) (u75_Jd : SJd) (u75_Ld : SLd) (u75_Pr : SPr) (u75_rt : Nat) (z : Int32 × Int32 × SCk) (q : Nat × Int32 × Int32 × SCk) (h : m_Ck_spread_b75 n u75_x1 u75_x2 u75_x3 u75_x4 u75_x6 u75_T0 u75_Mk z = some q) (h0 : q.1 = 0 → o_At p l e rm_Ck_spread s m args below meth c Q o_cls D A 9 75 [] (o_cw ad ca u75_rt u75_Sj u75_T0 u75_T1 u75_Rd u75_Pg u75_Pt u75_Mk u75_Lk q.2.2.2 u75_Jd u75_Ld u75_Pr) [(0, .ref (ad 45)), (1, .int u75_x1), (2, .int u75_x2), (3, .int u75_x3), (4, .int u75_x4), (6, .int u75_x6), (7, .int q.2.1), (8, .int q.2.2.1)]) (h1 : q.1 ≠ 0 → (o_At p l e rm_Ck_spread s m args below meth c Q o_cls D A 9 162 [] (o_cw ad ca u75_rt u75_Sj u75_T0 u75_T1 u75_Rd u75_Pg u75_Pt u75_Mk u75_Lk q.2.2.2 u75_Jd u75_Ld u75_Pr) [(0, .ref (ad 45)), (1, .int u75_x1), (2, .int u75_x2), (3, .int u75_x3), (4, .int u75_x4)])) : o_At p l e rm_Ck_spread s m args below meth c Q o_cls D A 9 75 [] (o_cw ad ca u75_rt u75_Sj u75_T0 u75_T1 u75_Rd u75_Pg u75_Pt u75_Mk u75_Lk z.2.2 u75_Jd u75_Ld u75_Pr) [(0, .ref (ad 45)), (1, .int u75_x1), (2, .int u75_x2), (3, .int u75_x3), (4, .int u75_x4), (6, .int u75_x6), (7, .int z.1), (8, .int z.2.1)] := by
  unfold m_Ck_spread_b75 at h
  intro H locs ls hP hS hl
  have C0 := C
  obtain ⟨hx, hb, -, -, -, hown, hts, hK, -, -⟩ := C0
  refine lv_iload hx hb d_Ck_spread_75 (lv_at hl 7 rfl) ?_
  refine lv_iload hx hb d_Ck_spread_77 (lv_at hl 5 rfl) ?_
  refine lv_icmp_ge (tgt := 162) hx hb d_Ck_spread_79 (by decide) (fun c4 => ?_) (fun c4 => ?_)
  · replace h := o_tt c4 h
    cases h
    exact h1 (Nat.succ_ne_zero 0) _ _ _ hP hS (lv_sub hl [0, 1, 2, 3, 4] rfl)
  · replace h := o_ff c4 h
    refine lv_iload hx hb d_Ck_spread_82 (lv_at hl 6 rfl) ?_
    refine lv_if_lt (tgt := 145) hx hb d_Ck_spread_84 (by decide) (fun c5 => ?_) (fun c5 => ?_)
    · replace h := o_tt c5 h
      exact w_Ck_spread_j145 hE C hDD n u75_x1 u75_x2 u75_x3 u75_x4 u75_x6 u75_T0 u75_Mk u75_Sj u75_T1 u75_Rd u75_Pg u75_Pt u75_Lk u75_Jd u75_Ld u75_Pr u75_rt z.1 z.2.1 z.2.2 h h0 h1 _ _ _ hP hS (lv_sub hl [0, 1, 2, 3, 4, 5, 6, 7] rfl)
    · replace h := o_ff c5 h
      refine lv_iload hx hb d_Ck_spread_87 (lv_at hl 6 rfl) ?_
      refine lv_sipush (v := (1000:Int32)) hx hb d_Ck_spread_89 (by decide) ?_
      refine lv_icmp_ge (tgt := 145) hx hb d_Ck_spread_92 (by decide) (fun c6 => ?_) (fun c6 => ?_)
      · replace h := o_tt c6 h
        exact w_Ck_spread_j145 hE C hDD n u75_x1 u75_x2 u75_x3 u75_x4 u75_x6 u75_T0 u75_Mk u75_Sj u75_T1 u75_Rd u75_Pg u75_Pt u75_Lk u75_Jd u75_Ld u75_Pr u75_rt z.1 z.2.1 z.2.2 h h0 h1 _ _ _ hP hS (lv_sub hl [0, 1, 2, 3, 4, 5, 6, 7] rfl)
      · replace h := o_ff c6 h
        refine lv_aload_n hx hb d_Ck_spread_95 rfl (lv_at hl 0 rfl) ?_
        refine o_get (v := .ref (ad 48)) C in_Ck hP 45 cw_45 rfl 6 (by decide) k_2_13 rfl rfl d_Ck_spread_96 ?_
        refine lv_iload hx hb d_Ck_spread_99 (lv_at hl 6 rfl) ?_
        obtain ⟨g7, h⟩ := o_gd_some h
        refine o_iald (f := (Ck_reachedFrom z.2.2)) C hP 48 39 cw_48 rfl g7 d_Ck_spread_101 ?_
        refine lv_iload_n hx hb d_Ck_spread_102 rfl (lv_at hl 2 rfl) ?_
        refine lv_icmp_eq (tgt := 145) hx hb d_Ck_spread_103 (by decide) (fun c8 => ?_) (fun c8 => ?_)
        · replace h := o_tt c8 h
          exact w_Ck_spread_j145 hE C hDD n u75_x1 u75_x2 u75_x3 u75_x4 u75_x6 u75_T0 u75_Mk u75_Sj u75_T1 u75_Rd u75_Pg u75_Pt u75_Lk u75_Jd u75_Ld u75_Pr u75_rt z.1 z.2.1 z.2.2 h h0 h1 _ _ _ hP hS (lv_sub hl [0, 1, 2, 3, 4, 5, 6, 7] rfl)
        · replace h := o_ff c8 h
          refine lv_aload_n hx hb d_Ck_spread_106 rfl (lv_at hl 0 rfl) ?_
          refine o_get (v := .int (Ck_reachedCount z.2.2)) C in_Ck hP 45 cw_45 rfl 7 (by decide) k_2_14 rfl rfl d_Ck_spread_107 ?_
          refine lv_sipush (v := (1000:Int32)) hx hb d_Ck_spread_110 (by decide) ?_
          refine lv_icmp_ge (tgt := 145) hx hb d_Ck_spread_113 (by decide) (fun c9 => ?_) (fun c9 => ?_)
          · replace h := o_tt c9 h
            exact w_Ck_spread_j145 hE C hDD n u75_x1 u75_x2 u75_x3 u75_x4 u75_x6 u75_T0 u75_Mk u75_Sj u75_T1 u75_Rd u75_Pg u75_Pt u75_Lk u75_Jd u75_Ld u75_Pr u75_rt z.1 z.2.1 z.2.2 h h0 h1 _ _ _ hP hS (lv_sub hl [0, 1, 2, 3, 4, 5, 6, 7] rfl)
          · replace h := o_ff c9 h
            refine lv_aload_n hx hb d_Ck_spread_116 rfl (lv_at hl 0 rfl) ?_
            refine o_get (v := .ref (ad 48)) C in_Ck hP 45 cw_45 rfl 6 (by decide) k_2_13 rfl rfl d_Ck_spread_117 ?_
            refine lv_iload hx hb d_Ck_spread_120 (lv_at hl 6 rfl) ?_
            refine lv_iload_n hx hb d_Ck_spread_122 rfl (lv_at hl 2 rfl) ?_
            obtain ⟨g10, h⟩ := o_gd_some h
            refine o_iast (f := (Ck_reachedFrom z.2.2)) (w1 := (o_cw ad ca u75_rt u75_Sj u75_T0 u75_T1 u75_Rd u75_Pg u75_Pt u75_Mk u75_Lk (Ck_mk (Ck_aimedAt z.2.2) (Ck_reached z.2.2) (upd (Ck_reachedFrom z.2.2) z.1.toNatClampNeg u75_x2) (Ck_reachedCount z.2.2) (Ck_found z.2.2) (Ck_foundAt z.2.2)) u75_Jd u75_Ld u75_Pr)) C hP (hDD _ _ _ _ _ _ _ _ _ _ _ _ _) hS 48 39 cw_48 rfl g10 rfl d_Ck_spread_123 (fun H locs hP hS => ?_)
            refine lv_aload_n hx hb d_Ck_spread_124 rfl (lv_at hl 0 rfl) ?_
            refine o_get (v := .ref (ad 47)) C in_Ck hP 45 cw_45 rfl 5 (by decide) k_2_12 rfl rfl d_Ck_spread_125 ?_
            refine lv_aload_n hx hb d_Ck_spread_128 rfl (lv_at hl 0 rfl) ?_
            refine o_get (v := .int (Ck_reachedCount z.2.2)) C in_Ck hP 45 cw_45 rfl 7 (by decide) k_2_14 rfl rfl d_Ck_spread_129 ?_
            refine lv_iload hx hb d_Ck_spread_132 (lv_at hl 6 rfl) ?_
            obtain ⟨g11, h⟩ := o_gd_some h
            refine o_iast (f := (Ck_reached z.2.2)) (w1 := (o_cw ad ca u75_rt u75_Sj u75_T0 u75_T1 u75_Rd u75_Pg u75_Pt u75_Mk u75_Lk (Ck_mk (Ck_aimedAt z.2.2) (upd (Ck_reached z.2.2) (Ck_reachedCount z.2.2).toNatClampNeg z.1) (upd (Ck_reachedFrom z.2.2) z.1.toNatClampNeg u75_x2) (Ck_reachedCount z.2.2) (Ck_found z.2.2) (Ck_foundAt z.2.2)) u75_Jd u75_Ld u75_Pr)) C hP (hDD _ _ _ _ _ _ _ _ _ _ _ _ _) hS 47 38 cw_47 rfl g11 rfl d_Ck_spread_134 (fun H locs hP hS => ?_)
            refine lv_aload_n hx hb d_Ck_spread_135 rfl (lv_at hl 0 rfl) ?_
            refine lv_dup hx hb d_Ck_spread_136 rfl ?_
            refine o_get (v := .int (Ck_reachedCount z.2.2)) C in_Ck hP 45 cw_45 rfl 7 (by decide) k_2_14 rfl rfl d_Ck_spread_137 ?_
            refine lv_iconst (v := (1:Int32)) hx hb d_Ck_spread_140 (by decide) ?_
            refine lv_iadd hx hb d_Ck_spread_141 ?_
            refine o_put (v := .int ((Ck_reachedCount z.2.2) + (1:Int32))) (ty := .int) (w1 := (o_cw ad ca u75_rt u75_Sj u75_T0 u75_T1 u75_Rd u75_Pg u75_Pt u75_Mk u75_Lk (Ck_mk (Ck_aimedAt z.2.2) (upd (Ck_reached z.2.2) (Ck_reachedCount z.2.2).toNatClampNeg z.1) (upd (Ck_reachedFrom z.2.2) z.1.toNatClampNeg u75_x2) ((Ck_reachedCount z.2.2) + (1:Int32)) (Ck_found z.2.2) (Ck_foundAt z.2.2)) u75_Jd u75_Ld u75_Pr)) C in_Ck t_Ck t_Ck_ok n_Ck hP (hDD _ _ _ _ _ _ _ _ _ _ _ _ _) hS 45 cw_45 rfl 7 (by decide) k_2_14 rfl rfl (by decide +kernel) rfl rfl (Nat.le_of_ble_eq_true rfl) rfl d_Ck_spread_142 (fun H locs hP hS => ?_)
            exact w_Ck_spread_j145 hE C hDD n u75_x1 u75_x2 u75_x3 u75_x4 u75_x6 u75_T0 u75_Mk u75_Sj u75_T1 u75_Rd u75_Pg u75_Pt u75_Lk u75_Jd u75_Ld u75_Pr u75_rt z.1 z.2.1 (Ck_mk (Ck_aimedAt z.2.2) (upd (Ck_reached z.2.2) (Ck_reachedCount z.2.2).toNatClampNeg z.1) (upd (Ck_reachedFrom z.2.2) z.1.toNatClampNeg u75_x2) ((Ck_reachedCount z.2.2) + (1:Int32)) (Ck_found z.2.2) (Ck_foundAt z.2.2)) h h0 h1 _ _ _ hP hS (lv_sub hl [0, 1, 2, 3, 4, 5, 6, 7] rfl)
set_option maxHeartbeats 4000000 in
set_option maxRecDepth 100000 in
theorem w_Ck_spread_j58 {E : (Nat → Prop) → State → Heap → Prop} {p : Program} {l : Launch} {e : Env} {s : State} {m : MethodId} {args : Array Value} {below : List Frame} {meth : Method} {c : Code} {D : va_G} {ad kd sd vd xd : Nat → Nat} {ca : Nat → ClassId} {A : Nat → Prop} {Q : State → Prop} (hE : o_EK E kd sd vd xd) (C : o_Cx E p s m args meth c D o_cls (o_tys ca) "SchemaJudge$Checker" b_Ck_spread none 9 cc_Ck_spread A) (hDD : ∀ (rt : Nat) (Sj : SSJ) (T0 : STx) (T1 : STx) (Rd : SRd) (Pg : SPg) (Pt : SPt) (Mk : SMk) (Lk : SLk) (Ck : SCk) (Jd : SJd) (Ld : SLd) (Pr : SPr), va_D A (o_cw ad ca rt Sj T0 T1 Rd Pg Pt Mk Lk Ck Jd Ld Pr)) (n : Nat) (u12_x1 : Int32) (u12_x2 : Int32) (u12_T0 : STx) (u12_Mk : SMk) (u12_Sj : SSJ) (u12_T1 : STx) (u12_Rd : SRd) (u12_Pg : SPg) (u12_Pt : SPt) (u12_Lk : SLk) (u12_Jd : SJd) (u12_Ld : SLd) (u12_Pr : SPr) (u12_rt : Nat) (x3 : Int32) (x4 : Int32) (x5 : Nat) (gx5 : o_kb x5 = true) (y0 : Int32) (Ck : SCk) {q : Nat × Int32 × Int32 × SCk} (h : m_Ck_spread_j58 n u12_x1 u12_x2 x3 x4 x5 y0 u12_T0 u12_Mk Ck = some q) (h0 : q.1 = 0 → o_At p l e rm_Ck_spread s m args below meth c Q o_cls D A 9 12 [] (o_cw ad ca u12_rt u12_Sj u12_T0 u12_T1 u12_Rd u12_Pg u12_Pt u12_Mk u12_Lk q.2.2.2 u12_Jd u12_Ld u12_Pr) [(0, .ref (ad 45)), (1, .int u12_x1), (2, .int u12_x2), (3, .int q.2.1), (4, .int q.2.2.1)]) (h1 : q.1 ≠ 0 → (o_At p l e rm_Ck_spread s m args below meth c Q o_cls D A 9 177 [] (o_cw ad ca u12_rt u12_Sj u12_T0 u12_T1 u12_Rd u12_Pg u12_Pt u12_Mk u12_Lk q.2.2.2 u12_Jd u12_Ld u12_Pr) [])) : o_At p l e rm_Ck_spread s m args below meth c Q o_cls D A 9 58 [.int y0] (o_cw ad ca u12_rt u12_Sj u12_T0 u12_T1 u12_Rd u12_Pg u12_Pt u12_Mk u12_Lk Ck u12_Jd u12_Ld u12_Pr) [(0, .ref (ad 45)), (1, .int u12_x1), (2, .int u12_x2), (3, .int x3), (4, .int x4), (5, .ref (kd x5))] := by
  unfold m_Ck_spread_j58 at h
  intro H locs ls hP hS hl
  have C0 := C
  obtain ⟨hx, hb, -, -, -, hown, hts, hK, -, -⟩ := C0
  refine lv_istore (lv' := [(6, .int y0), (0, .ref (ad 45)), (1, .int u12_x1), (2, .int u12_x2), (3, .int x3), (4, .int x4), (5, .ref (kd x5))]) hx hb d_Ck_spread_58 hl (by decide) rfl (fun ls hl => ?_)
  refine lv_aload_n hx hb d_Ck_spread_60 rfl (lv_at hl 1 rfl) ?_
  refine o_get (v := .ref (ad 39)) C in_Ck hP 45 cw_45 rfl 1 (by decide) k_2_8 rfl rfl d_Ck_spread_61 ?_
  refine lv_aload hx hb d_Ck_spread_64 (lv_at hl 6 rfl) ?_
  refine lv_iload_n hx hb d_Ck_spread_66 rfl (lv_at hl 4 rfl) ?_
  obtain ⟨q4, hq4, h⟩ := o_bd_some h
  refine o_V (st1 := [.int q4]) (w1 := (o_cw ad ca u12_rt u12_Sj u12_T0 u12_T1 u12_Rd u12_Pg u12_Pt u12_Mk u12_Lk Ck u12_Jd u12_Ld u12_Pr)) hE.1 C (c_Mk_firstSchema hE l x5 gx5 x3 u12_T0 u12_Mk u12_Sj u12_T1 u12_Rd u12_Pg u12_Pt u12_Lk Ck u12_Jd u12_Ld u12_Pr u12_rt hq4) hP (hDD _ _ _ _ _ _ _ _ _ _ _ _ _) hS hl.1 rfl cw_39 k_5_221 k_5_222 k_5_223 k_1_6 k_5_224 hv_Mk_firstSchema rfl rfl ⟨(Nat.le_of_ble_eq_true rfl), (Nat.le_of_ble_eq_true rfl)⟩ rfl (Nat.le_of_ble_eq_true rfl) ⟨Nat.zero_le _, Nat.zero_le _⟩ rfl d_Ck_spread_67 (fun H locs hP hS => ?_)
  refine lv_istore (lv' := [(7, .int q4), (6, .int y0), (0, .ref (ad 45)), (1, .int u12_x1), (2, .int u12_x2), (3, .int x3), (4, .int x4), (5, .ref (kd x5))]) hx hb d_Ck_spread_70 hl (by decide) rfl (fun ls hl => ?_)
  refine lv_iconst (v := (0:Int32)) hx hb d_Ck_spread_72 (by decide) ?_
  refine lv_istore (lv' := [(8, .int (0:Int32)), (7, .int q4), (6, .int y0), (0, .ref (ad 45)), (1, .int u12_x1), (2, .int u12_x2), (3, .int x3), (4, .int x4), (5, .ref (kd x5))]) hx hb d_Ck_spread_73 hl (by decide) rfl (fun ls hl => ?_)
  obtain ⟨q6, hq6, h⟩ := o_bd_some h
  refine o_sim2 (AH := fun zz => o_At p l e rm_Ck_spread s m args below meth c _ o_cls D A 9 75 [] (o_cw ad ca u12_rt u12_Sj u12_T0 u12_T1 u12_Rd u12_Pg u12_Pt u12_Mk u12_Lk zz.2.2 u12_Jd u12_Ld u12_Pr) [(0, .ref (ad 45)), (1, .int u12_x1), (2, .int u12_x2), (3, .int x3), (4, .int x4), (6, .int y0), (7, .int zz.1), (8, .int zz.2.1)]) (AX := fun qq => o_At p l e rm_Ck_spread s m args below meth c _ o_cls D A 9 162 [] (o_cw ad ca u12_rt u12_Sj u12_T0 u12_T1 u12_Rd u12_Pg u12_Pt u12_Mk u12_Lk qq.2.2.2 u12_Jd u12_Ld u12_Pr) [(0, .ref (ad 45)), (1, .int u12_x1), (2, .int u12_x2), (3, .int x3), (4, .int x4)]) (fun zz qq h h0 h1 => w_Ck_spread_b75 hE C hDD n u12_x1 u12_x2 x3 x4 y0 u12_T0 u12_Mk u12_Sj u12_T1 u12_Rd u12_Pg u12_Pt u12_Lk u12_Jd u12_Ld u12_Pr u12_rt zz qq h h0 h1) n _ q6 hq6 ?_ _ _ _ hP hS (lv_sub hl [3, 4, 5, 6, 7, 2, 1, 0] rfl)
  intro H locs ls hP hS hl
  refine lv_aload_n hx hb d_Ck_spread_162 rfl (lv_at hl 0 rfl) ?_
  refine o_get (v := .ref (ad 1)) C in_Ck hP 45 cw_45 rfl 0 (by decide) k_2_7 rfl rfl d_Ck_spread_163 ?_
  refine lv_iload_n hx hb d_Ck_spread_166 rfl (lv_at hl 3 rfl) ?_
  obtain ⟨q7, hq7, h⟩ := o_bd_some h
  refine o_V (st1 := [.int q7]) (w1 := (o_cw ad ca u12_rt u12_Sj u12_T0 u12_T1 u12_Rd u12_Pg u12_Pt u12_Mk u12_Lk q6.2.2.2 u12_Jd u12_Ld u12_Pr)) hE.1 C (c_Tx_nextChild_0 hE l x3 u12_T0 u12_Sj u12_T1 u12_Rd u12_Pg u12_Pt u12_Mk u12_Lk q6.2.2.2 u12_Jd u12_Ld u12_Pr u12_rt hq7) hP (hDD _ _ _ _ _ _ _ _ _ _ _ _ _) hS hl.1 rfl cw_1 k_4_101 k_3_222 k_3_223 k_1_2 k_3_224 hv_Tx_nextChild rfl rfl ⟨(Nat.le_of_ble_eq_true rfl), (Nat.le_of_ble_eq_true rfl)⟩ rfl (Nat.le_of_ble_eq_true rfl) ⟨Nat.zero_le _, Nat.zero_le _⟩ rfl d_Ck_spread_167 (fun H locs hP hS => ?_)
  refine lv_istore_n (lv' := [(3, .int q7), (0, .ref (ad 45)), (1, .int u12_x1), (2, .int u12_x2), (4, .int x4)]) hx hb d_Ck_spread_170 rfl hl (by decide) rfl (fun ls hl => ?_)
  obtain ⟨x4_171, ex4_171⟩ : ∃ y : Int32, y = x4 + (1:Int32) := ⟨_, rfl⟩
  replace h := o_nm_at ex4_171 h
  refine lv_iinc (v := x4_171) (lv' := [(4, .int x4_171), (3, .int q7), (0, .ref (ad 45)), (1, .int u12_x1), (2, .int u12_x2)]) hx hb d_Ck_spread_171 hl (k := 4) rfl (by rw [ex4_171]; rfl) (by decide) rfl (fun ls hl => ?_)
  refine lv_goto (tgt := 12) hx hb d_Ck_spread_174 (by decide) ?_
  cases h
  exact h0 rfl _ _ _ hP hS (lv_sub hl [2, 3, 4, 1, 0] rfl)
set_option maxHeartbeats 4000000 in
set_option maxRecDepth 100000 in
theorem w_Ck_spread_b12 {E : (Nat → Prop) → State → Heap → Prop} {p : Program} {l : Launch} {e : Env} {s : State} {m : MethodId} {args : Array Value} {below : List Frame} {meth : Method} {c : Code} {D : va_G} {ad kd sd vd xd : Nat → Nat} {ca : Nat → ClassId} {A : Nat → Prop} {Q : State → Prop} (hE : o_EK E kd sd vd xd) (C : o_Cx E p s m args meth c D o_cls (o_tys ca) "SchemaJudge$Checker" b_Ck_spread none 9 cc_Ck_spread A) (hDD : ∀ (rt : Nat) (Sj : SSJ) (T0 : STx) (T1 : STx) (Rd : SRd) (Pg : SPg) (Pt : SPt) (Mk : SMk) (Lk : SLk) (Ck : SCk) (Jd : SJd) (Ld : SLd) (Pr : SPr), va_D A (o_cw ad ca rt Sj T0 T1 Rd Pg Pt Mk Lk Ck Jd Ld Pr)) (n : Nat) (u12_x1 : Int32) (u12_x2 : Int32) (u12_T0 : STx) (u12_Mk : SMk) (u12_Sj : SSJ) (u12_T1 : STx) (u12_Rd : SRd) (u12_Pg : SPg) (u12_Pt : SPt) (u12_Lk : SLk) (u12_Jd : SJd) (u12_Ld : SLd) (u12_Pr : SPr) (u12_rt : Nat) (z : Int32 × Int32 × SCk) (q : Nat × Int32 × Int32 × SCk) (h : m_Ck_spread_b12 n u12_x1 u12_x2 u12_T0 u12_Mk z = some q) (h0 : q.1 = 0 → o_At p l e rm_Ck_spread s m args below meth c Q o_cls D A 9 12 [] (o_cw ad ca u12_rt u12_Sj u12_T0 u12_T1 u12_Rd u12_Pg u12_Pt u12_Mk u12_Lk q.2.2.2 u12_Jd u12_Ld u12_Pr) [(0, .ref (ad 45)), (1, .int u12_x1), (2, .int u12_x2), (3, .int q.2.1), (4, .int q.2.2.1)]) (h1 : q.1 ≠ 0 → (o_At p l e rm_Ck_spread s m args below meth c Q o_cls D A 9 177 [] (o_cw ad ca u12_rt u12_Sj u12_T0 u12_T1 u12_Rd u12_Pg u12_Pt u12_Mk u12_Lk q.2.2.2 u12_Jd u12_Ld u12_Pr) [])) : o_At p l e rm_Ck_spread s m args below meth c Q o_cls D A 9 12 [] (o_cw ad ca u12_rt u12_Sj u12_T0 u12_T1 u12_Rd u12_Pg u12_Pt u12_Mk u12_Lk z.2.2 u12_Jd u12_Ld u12_Pr) [(0, .ref (ad 45)), (1, .int u12_x1), (2, .int u12_x2), (3, .int z.1), (4, .int z.2.1)] := by
  unfold m_Ck_spread_b12 at h
  intro H locs ls hP hS hl
  have C0 := C
  obtain ⟨hx, hb, -, -, -, hown, hts, hK, -, -⟩ := C0
  refine lv_iload hx hb d_Ck_spread_12 (lv_at hl 4 rfl) ?_
  refine lv_aload_n hx hb d_Ck_spread_14 rfl (lv_at hl 0 rfl) ?_
  refine o_get (v := .ref (ad 1)) C in_Ck hP 45 cw_45 rfl 0 (by decide) k_2_7 rfl rfl d_Ck_spread_15 ?_
  refine lv_iload_n hx hb d_Ck_spread_18 rfl (lv_at hl 1 rfl) ?_
  obtain ⟨q2, hq2, h⟩ := o_bd_some h
  refine o_V (st1 := [.int q2, .int z.2.1]) (w1 := (o_cw ad ca u12_rt u12_Sj u12_T0 u12_T1 u12_Rd u12_Pg u12_Pt u12_Mk u12_Lk z.2.2 u12_Jd u12_Ld u12_Pr)) hE.1 C (c_Tx_size_0 hE l u12_x1 u12_T0 u12_Sj u12_T1 u12_Rd u12_Pg u12_Pt u12_Mk u12_Lk z.2.2 u12_Jd u12_Ld u12_Pr u12_rt hq2) hP (hDD _ _ _ _ _ _ _ _ _ _ _ _ _) hS hl.1 rfl cw_1 k_4_71 k_3_215 k_3_216 k_1_2 k_3_217 hv_Tx_size rfl rfl ⟨(Nat.le_of_ble_eq_true rfl), (Nat.le_of_ble_eq_true rfl)⟩ rfl (Nat.le_of_ble_eq_true rfl) ⟨Nat.zero_le _, Nat.zero_le _⟩ rfl d_Ck_spread_19 (fun H locs hP hS => ?_)
  refine lv_icmp_ge (tgt := 177) hx hb d_Ck_spread_22 (by decide) (fun c1 => ?_) (fun c1 => ?_)
  · replace h := o_tt c1 h
    cases h
    exact h1 (Nat.succ_ne_zero 0) _ _ _ hP hS (lv_sub hl [] rfl)
  · replace h := o_ff c1 h
    refine lv_aload_n hx hb d_Ck_spread_25 rfl (lv_at hl 0 rfl) ?_
    refine o_get (v := .ref (ad 39)) C in_Ck hP 45 cw_45 rfl 1 (by decide) k_2_8 rfl rfl d_Ck_spread_26 ?_
    refine lv_iload_n hx hb d_Ck_spread_29 rfl (lv_at hl 3 rfl) ?_
    obtain ⟨q3, hq3, h⟩ := o_bd_some h
    obtain ⟨g2, h⟩ := o_gd_some h
    refine o_V (st1 := [.ref (kd q3)]) (w1 := (o_cw ad ca u12_rt u12_Sj u12_T0 u12_T1 u12_Rd u12_Pg u12_Pt u12_Mk u12_Lk z.2.2 u12_Jd u12_Ld u12_Pr)) hE.1 C (c_Mk_keyword hE l z.1 u12_Mk u12_Sj u12_T0 u12_T1 u12_Rd u12_Pg u12_Pt u12_Lk z.2.2 u12_Jd u12_Ld u12_Pr u12_rt hq3) hP (hDD _ _ _ _ _ _ _ _ _ _ _ _ _) hS hl.1 rfl cw_39 k_5_122 k_5_123 k_5_124 k_1_6 k_5_125 hv_Mk_keyword rfl rfl ⟨(Nat.le_of_ble_eq_true rfl), (Nat.le_of_ble_eq_true rfl)⟩ rfl (Nat.le_of_ble_eq_true rfl) ⟨Nat.zero_le _, Nat.zero_le _⟩ rfl d_Ck_spread_30 (fun H locs hP hS => ?_)
    refine lv_astore (lv' := [(5, .ref (kd q3)), (0, .ref (ad 45)), (1, .int u12_x1), (2, .int u12_x2), (3, .int z.1), (4, .int z.2.1)]) hx hb d_Ck_spread_33 hl (by decide) rfl (fun ls hl => ?_)
    refine lv_aload hx hb d_Ck_spread_35 (lv_at hl 0 rfl) ?_
    refine o_gkN (fi := 3) (v := (kw_reach q3)) hE C g2 hS rfl rfl nw_23 d_Ck_spread_37 ?_
    refine lv_iconst (v := (2:Int32)) hx hb d_Ck_spread_40 (by decide) ?_
    refine lv_icmp_ne (tgt := 57) hx hb d_Ck_spread_41 (by decide) (fun c3 => ?_) (fun c3 => ?_)
    · replace h := o_ff c3 h
      refine lv_iconst (v := (0:Int32)) hx hb d_Ck_spread_57 (by decide) ?_
      exact w_Ck_spread_j58 hE C hDD n u12_x1 u12_x2 u12_T0 u12_Mk u12_Sj u12_T1 u12_Rd u12_Pg u12_Pt u12_Lk u12_Jd u12_Ld u12_Pr u12_rt z.1 z.2.1 q3 g2 (0:Int32) z.2.2 h h0 h1 _ _ _ hP hS (lv_sub hl [1, 2, 3, 4, 5, 0] rfl)
    · replace h := o_tt c3 h
      refine lv_aload_n hx hb d_Ck_spread_44 rfl (lv_at hl 1 rfl) ?_
      refine o_get (v := .ref (ad 39)) C in_Ck hP 45 cw_45 rfl 1 (by decide) k_2_8 rfl rfl d_Ck_spread_45 ?_
      refine lv_aload hx hb d_Ck_spread_48 (lv_at hl 0 rfl) ?_
      refine lv_iload_n hx hb d_Ck_spread_50 rfl (lv_at hl 4 rfl) ?_
      obtain ⟨q8, hq8, h⟩ := o_bd_some h
      refine o_V (st1 := [.int q8]) (w1 := (o_cw ad ca u12_rt u12_Sj u12_T0 u12_T1 u12_Rd u12_Pg u12_Pt u12_Mk u12_Lk z.2.2 u12_Jd u12_Ld u12_Pr)) hE.1 C (c_Mk_schemaCount hE l q3 g2 z.1 u12_T0 u12_Sj u12_T1 u12_Rd u12_Pg u12_Pt u12_Mk u12_Lk z.2.2 u12_Jd u12_Ld u12_Pr u12_rt hq8) hP (hDD _ _ _ _ _ _ _ _ _ _ _ _ _) hS hl.1 rfl cw_39 k_5_216 k_5_217 k_5_218 k_1_6 k_5_219 hv_Mk_schemaCount rfl rfl ⟨(Nat.le_of_ble_eq_true rfl), (Nat.le_of_ble_eq_true rfl)⟩ rfl (Nat.le_of_ble_eq_true rfl) ⟨Nat.zero_le _, Nat.zero_le _⟩ rfl d_Ck_spread_51 (fun H locs hP hS => ?_)
      refine lv_goto (tgt := 58) hx hb d_Ck_spread_54 (by decide) ?_
      exact w_Ck_spread_j58 hE C hDD n u12_x1 u12_x2 u12_T0 u12_Mk u12_Sj u12_T1 u12_Rd u12_Pg u12_Pt u12_Lk u12_Jd u12_Ld u12_Pr u12_rt z.1 z.2.1 q3 g2 q8 z.2.2 h h0 h1 _ _ _ hP hS (lv_sub hl [1, 2, 3, 4, 5, 0] rfl)
set_option maxHeartbeats 4000000 in
set_option maxRecDepth 100000 in
theorem c_Ck_spread {E : (Nat → Prop) → State → Heap → Prop} {D : va_G} {ad kd sd vd xd : Nat → Nat} {ca : Nat → ClassId} (hE : o_EK E kd sd vd xd) (l : Launch) (n : Nat) (x1 : Int32) (x2 : Int32) (T0 : STx) (Mk : SMk) (Ck : SCk) (Sj : SSJ) (T1 : STx) (Rd : SRd) (Pg : SPg) (Pt : SPt) (Lk : SLk) (Jd : SJd) (Ld : SLd) (Pr : SPr) (rt : Nat) {r : SCk} (h : m_Ck_spread n x1 x2 T0 Mk Ck = some r) : o_Cn E l D o_cls (o_tys ca) y_Ck_spread cc_Ck_spread rm_Ck_spread [.ref (ad 45), .int x1, .int x2] (o_cw ad ca rt Sj T0 T1 Rd Pg Pt Mk Lk Ck Jd Ld Pr) (o_cw ad ca rt Sj T0 T1 Rd Pg Pt Mk Lk r Jd Ld Pr) none := by
  refine o_Cn_of (by decide) (Nat.le_of_ble_eq_true rfl) ?_
  intro p e s m below meth c A ls C hD hP hS hl
  have hDD : ∀ (rt : Nat) (Sj : SSJ) (T0 : STx) (T1 : STx) (Rd : SRd) (Pg : SPg) (Pt : SPt) (Mk : SMk) (Lk : SLk) (Ck : SCk) (Jd : SJd) (Ld : SLd) (Pr : SPr), va_D A (o_cw ad ca rt Sj T0 T1 Rd Pg Pt Mk Lk Ck Jd Ld Pr) := fun _ _ _ _ _ _ _ _ _ _ _ _ _ => o_D_map hD rfl
  have hl : lv_has ls 9 [(0, .ref (ad 45)), (1, .int x1), (2, .int x2)] := hl
  unfold m_Ck_spread at h
  have C0 := C
  obtain ⟨hx, hb, -, -, -, hown, hts, hK, -, -⟩ := C0
  refine lv_aload_n hx hb d_Ck_spread_0 rfl (lv_at hl 0 rfl) ?_
  refine o_get (v := .ref (ad 1)) C in_Ck hP 45 cw_45 rfl 0 (by decide) k_2_7 rfl rfl d_Ck_spread_1 ?_
  refine lv_iload_n hx hb d_Ck_spread_4 rfl (lv_at hl 1 rfl) ?_
  obtain ⟨q1, hq1, h⟩ := o_bd_some h
  refine o_V (st1 := [.int q1]) (w1 := (o_cw ad ca rt Sj T0 T1 Rd Pg Pt Mk Lk Ck Jd Ld Pr)) hE.1 C (c_Tx_firstChild_0 hE l x1 T0 Sj T1 Rd Pg Pt Mk Lk Ck Jd Ld Pr rt hq1) hP (hDD _ _ _ _ _ _ _ _ _ _ _ _ _) hS hl.1 rfl cw_1 k_4_70 k_3_211 k_3_212 k_1_2 k_3_213 hv_Tx_firstChild rfl rfl ⟨(Nat.le_of_ble_eq_true rfl), (Nat.le_of_ble_eq_true rfl)⟩ rfl (Nat.le_of_ble_eq_true rfl) ⟨Nat.zero_le _, Nat.zero_le _⟩ rfl d_Ck_spread_5 (fun H locs hP hS => ?_)
  refine lv_istore_n (lv' := [(3, .int q1), (0, .ref (ad 45)), (1, .int x1), (2, .int x2)]) hx hb d_Ck_spread_8 rfl hl (by decide) rfl (fun ls hl => ?_)
  refine lv_iconst (v := (0:Int32)) hx hb d_Ck_spread_9 (by decide) ?_
  refine lv_istore (lv' := [(4, .int (0:Int32)), (3, .int q1), (0, .ref (ad 45)), (1, .int x1), (2, .int x2)]) hx hb d_Ck_spread_10 hl (by decide) rfl (fun ls hl => ?_)
  obtain ⟨q9, hq9, h⟩ := o_bd_some h
  refine o_sim2 (AH := fun zz => o_At p l e rm_Ck_spread s m _ below meth c _ o_cls D A 9 12 [] (o_cw ad ca rt Sj T0 T1 Rd Pg Pt Mk Lk zz.2.2 Jd Ld Pr) [(0, .ref (ad 45)), (1, .int x1), (2, .int x2), (3, .int zz.1), (4, .int zz.2.1)]) (AX := fun qq => o_At p l e rm_Ck_spread s m _ below meth c _ o_cls D A 9 177 [] (o_cw ad ca rt Sj T0 T1 Rd Pg Pt Mk Lk qq.2.2.2 Jd Ld Pr) []) (fun zz qq h h0 h1 => w_Ck_spread_b12 hE C hDD n x1 x2 T0 Mk Sj T1 Rd Pg Pt Lk Jd Ld Pr rt zz qq h h0 h1) n _ q9 hq9 ?_ _ _ _ hP hS (lv_sub hl [2, 3, 4, 1, 0] rfl)
  intro H locs ls hP hS hl
  cases h
  exact o_rv C hP hS d_Ck_spread_177
set_option maxHeartbeats 4000000 in
set_option maxRecDepth 100000 in
theorem w_Ck_leadsBack_b13 {E : (Nat → Prop) → State → Heap → Prop} {p : Program} {l : Launch} {e : Env} {s : State} {m : MethodId} {args : Array Value} {below : List Frame} {meth : Method} {c : Code} {D : va_G} {ad kd sd vd xd : Nat → Nat} {ca : Nat → ClassId} {A : Nat → Prop} {Q : State → Prop} (hE : o_EK E kd sd vd xd) (C : o_Cx E p s m args meth c D o_cls (o_tys ca) "SchemaJudge$Checker" b_Ck_leadsBack (some .boolean) 3 cc_Ck_leadsBack A) (hDD : ∀ (rt : Nat) (Sj : SSJ) (T0 : STx) (T1 : STx) (Rd : SRd) (Pg : SPg) (Pt : SPt) (Mk : SMk) (Lk : SLk) (Ck : SCk) (Jd : SJd) (Ld : SLd) (Pr : SPr), va_D A (o_cw ad ca rt Sj T0 T1 Rd Pg Pt Mk Lk Ck Jd Ld Pr)) (n : Nat) (u13_x1 : Int32) (u13_T0 : STx) (u13_Mk : SMk) (u13_Sj : SSJ) (u13_T1 : STx) (u13_Rd : SRd) (u13_Pg : SPg) (u13_Pt : SPt) (u13_Lk : SLk) (u13_Jd : SJd) (u13_Ld : SLd) (u13_Pr : SPr) (u13_rt : Nat) (z : Int32 × SCk) (q : Nat × Int32 × SCk) (h : m_Ck_leadsBack_b13 n u13_x1 u13_T0 u13_Mk z = some q) (h0 : q.1 = 0 → o_At p l e rm_Ck_leadsBack s m args below meth c Q o_cls D A 3 13 [] (o_cw ad ca u13_rt u13_Sj u13_T0 u13_T1 u13_Rd u13_Pg u13_Pt u13_Mk u13_Lk q.2.2 u13_Jd u13_Ld u13_Pr) [(0, .ref (ad 45)), (1, .int u13_x1), (2, .int q.2.1)]) (h1 : q.1 ≠ 0 → (if q.1 = 1 then o_At p l e rm_Ck_leadsBack s m args below meth c Q o_cls D A 3 31 [] (o_cw ad ca u13_rt u13_Sj u13_T0 u13_T1 u13_Rd u13_Pg u13_Pt u13_Mk u13_Lk q.2.2 u13_Jd u13_Ld u13_Pr) [] else o_At p l e rm_Ck_leadsBack s m args below meth c Q o_cls D A 3 50 [] (o_cw ad ca u13_rt u13_Sj u13_T0 u13_T1 u13_Rd u13_Pg u13_Pt u13_Mk u13_Lk q.2.2 u13_Jd u13_Ld u13_Pr) [])) : o_At p l e rm_Ck_leadsBack s m args below meth c Q o_cls D A 3 13 [] (o_cw ad ca u13_rt u13_Sj u13_T0 u13_T1 u13_Rd u13_Pg u13_Pt u13_Mk u13_Lk z.2 u13_Jd u13_Ld u13_Pr) [(0, .ref (ad 45)), (1, .int u13_x1), (2, .int z.1)] := by
  unfold m_Ck_leadsBack_b13 at h
  intro H locs ls hP hS hl
  have C0 := C
  obtain ⟨hx, hb, -, -, -, hown, hts, hK, -, -⟩ := C0
  refine lv_iload_n hx hb d_Ck_leadsBack_13 rfl (lv_at hl 2 rfl) ?_
  refine lv_aload_n hx hb d_Ck_leadsBack_14 rfl (lv_at hl 0 rfl) ?_
  refine o_get (v := .int (Ck_reachedCount z.2)) C in_Ck hP 45 cw_45 rfl 7 (by decide) k_2_14 rfl rfl d_Ck_leadsBack_15 ?_
  refine lv_icmp_ge (tgt := 50) hx hb d_Ck_leadsBack_18 (by decide) (fun c1 => ?_) (fun c1 => ?_)
  · replace h := o_tt c1 h
    cases h
    exact h1 (Nat.succ_ne_zero 1) _ _ _ hP hS (lv_sub hl [] rfl)
  · replace h := o_ff c1 h
    refine lv_aload_n hx hb d_Ck_leadsBack_21 rfl (lv_at hl 0 rfl) ?_
    refine o_get (v := .ref (ad 47)) C in_Ck hP 45 cw_45 rfl 5 (by decide) k_2_12 rfl rfl d_Ck_leadsBack_22 ?_
    refine lv_iload_n hx hb d_Ck_leadsBack_25 rfl (lv_at hl 2 rfl) ?_
    obtain ⟨g2, h⟩ := o_gd_some h
    refine o_iald (f := (Ck_reached z.2)) C hP 47 38 cw_47 rfl g2 d_Ck_leadsBack_26 ?_
    refine lv_iload_n hx hb d_Ck_leadsBack_27 rfl (lv_at hl 1 rfl) ?_
    refine lv_icmp_ne (tgt := 33) hx hb d_Ck_leadsBack_28 (by decide) (fun c3 => ?_) (fun c3 => ?_)
    · replace h := o_ff c3 h
      refine lv_aload_n hx hb d_Ck_leadsBack_33 rfl (lv_at hl 0 rfl) ?_
      refine lv_aload_n hx hb d_Ck_leadsBack_34 rfl (lv_at hl 0 rfl) ?_
      refine o_get (v := .ref (ad 47)) C in_Ck hP 45 cw_45 rfl 5 (by decide) k_2_12 rfl rfl d_Ck_leadsBack_35 ?_
      refine lv_iload_n hx hb d_Ck_leadsBack_38 rfl (lv_at hl 2 rfl) ?_
      obtain ⟨g4, h⟩ := o_gd_some h
      refine o_iald (f := (Ck_reached z.2)) C hP 47 38 cw_47 rfl g4 d_Ck_leadsBack_39 ?_
      refine lv_iload_n hx hb d_Ck_leadsBack_40 rfl (lv_at hl 1 rfl) ?_
      obtain ⟨q2, hq2, h⟩ := o_bd_some h
      refine o_V (st1 := []) (w1 := (o_cw ad ca u13_rt u13_Sj u13_T0 u13_T1 u13_Rd u13_Pg u13_Pt u13_Mk u13_Lk q2 u13_Jd u13_Ld u13_Pr)) hE.1 C (c_Ck_spread hE l n ((Ck_reached z.2) z.1.toNatClampNeg) u13_x1 u13_T0 u13_Mk z.2 u13_Sj u13_T1 u13_Rd u13_Pg u13_Pt u13_Lk u13_Jd u13_Ld u13_Pr u13_rt hq2) hP (hDD _ _ _ _ _ _ _ _ _ _ _ _ _) hS hl.1 rfl cw_45 k_5_212 k_5_214 k_s_57 k_1_7 k_5_215 hv_Ck_spread rfl rfl ⟨(Nat.le_of_ble_eq_true rfl), (Nat.le_of_ble_eq_true rfl)⟩ rfl (Nat.le_of_ble_eq_true rfl) ⟨Nat.zero_le _, Nat.zero_le _⟩ rfl d_Ck_leadsBack_41 (fun H locs hP hS => ?_)
      obtain ⟨x2_44, ex2_44⟩ : ∃ y : Int32, y = z.1 + (1:Int32) := ⟨_, rfl⟩
      replace h := o_nm_at ex2_44 h
      refine lv_iinc (v := x2_44) (lv' := [(2, .int x2_44), (0, .ref (ad 45)), (1, .int u13_x1)]) hx hb d_Ck_leadsBack_44 hl (k := 2) rfl (by rw [ex2_44]; rfl) (by decide) rfl (fun ls hl => ?_)
      refine lv_goto (tgt := 13) hx hb d_Ck_leadsBack_47 (by decide) ?_
      cases h
      exact h0 rfl _ _ _ hP hS (lv_sub hl [1, 2, 0] rfl)
    · replace h := o_tt c3 h
      cases h
      exact h1 (Nat.succ_ne_zero 0) _ _ _ hP hS (lv_sub hl [] rfl)
set_option maxHeartbeats 4000000 in
set_option maxRecDepth 100000 in
theorem c_Ck_leadsBack {E : (Nat → Prop) → State → Heap → Prop} {D : va_G} {ad kd sd vd xd : Nat → Nat} {ca : Nat → ClassId} (hE : o_EK E kd sd vd xd) (l : Launch) (n : Nat) (x1 : Int32) (T0 : STx) (Mk : SMk) (Ck : SCk) (Sj : SSJ) (T1 : STx) (Rd : SRd) (Pg : SPg) (Pt : SPt) (Lk : SLk) (Jd : SJd) (Ld : SLd) (Pr : SPr) (rt : Nat) {r : Int32 × SCk} (h : m_Ck_leadsBack n x1 T0 Mk Ck = some r) : o_Cn E l D o_cls (o_tys ca) y_Ck_leadsBack cc_Ck_leadsBack rm_Ck_leadsBack [.ref (ad 45), .int x1] (o_cw ad ca rt Sj T0 T1 Rd Pg Pt Mk Lk Ck Jd Ld Pr) (o_cw ad ca rt Sj T0 T1 Rd Pg Pt Mk Lk r.2 Jd Ld Pr) (some (.int r.1)) := by
  refine o_Cn_of (by decide) (Nat.le_of_ble_eq_true rfl) ?_
  intro p e s m below meth c A ls C hD hP hS hl
  have hDD : ∀ (rt : Nat) (Sj : SSJ) (T0 : STx) (T1 : STx) (Rd : SRd) (Pg : SPg) (Pt : SPt) (Mk : SMk) (Lk : SLk) (Ck : SCk) (Jd : SJd) (Ld : SLd) (Pr : SPr), va_D A (o_cw ad ca rt Sj T0 T1 Rd Pg Pt Mk Lk Ck Jd Ld Pr) := fun _ _ _ _ _ _ _ _ _ _ _ _ _ => o_D_map hD rfl
  have hl : lv_has ls 3 [(0, .ref (ad 45)), (1, .int x1)] := hl
  unfold m_Ck_leadsBack at h
  have C0 := C
  obtain ⟨hx, hb, -, -, -, hown, hts, hK, -, -⟩ := C0
  refine lv_aload_n hx hb d_Ck_leadsBack_0 rfl (lv_at hl 0 rfl) ?_
  refine lv_iconst (v := (0:Int32)) hx hb d_Ck_leadsBack_1 (by decide) ?_
  refine o_put (v := .int (0:Int32)) (ty := .int) (w1 := (o_cw ad ca rt Sj T0 T1 Rd Pg Pt Mk Lk (Ck_mk (Ck_aimedAt Ck) (Ck_reached Ck) (Ck_reachedFrom Ck) (0:Int32) (Ck_found Ck) (Ck_foundAt Ck)) Jd Ld Pr)) C in_Ck t_Ck t_Ck_ok n_Ck hP (hDD _ _ _ _ _ _ _ _ _ _ _ _ _) hS 45 cw_45 rfl 7 (by decide) k_2_14 rfl rfl (by decide +kernel) rfl rfl (Nat.le_of_ble_eq_true rfl) rfl d_Ck_leadsBack_2 (fun H locs hP hS => ?_)
  refine lv_aload_n hx hb d_Ck_leadsBack_5 rfl (lv_at hl 0 rfl) ?_
  refine lv_iload_n hx hb d_Ck_leadsBack_6 rfl (lv_at hl 1 rfl) ?_
  refine lv_iload_n hx hb d_Ck_leadsBack_7 rfl (lv_at hl 1 rfl) ?_
  obtain ⟨q1, hq1, h⟩ := o_bd_some h
  refine o_V (st1 := []) (w1 := (o_cw ad ca rt Sj T0 T1 Rd Pg Pt Mk Lk q1 Jd Ld Pr)) hE.1 C (c_Ck_spread hE l n x1 x1 T0 Mk (Ck_mk (Ck_aimedAt Ck) (Ck_reached Ck) (Ck_reachedFrom Ck) (0:Int32) (Ck_found Ck) (Ck_foundAt Ck)) Sj T1 Rd Pg Pt Lk Jd Ld Pr rt hq1) hP (hDD _ _ _ _ _ _ _ _ _ _ _ _ _) hS hl.1 rfl cw_45 k_5_212 k_5_214 k_s_57 k_1_7 k_5_215 hv_Ck_spread rfl rfl ⟨(Nat.le_of_ble_eq_true rfl), (Nat.le_of_ble_eq_true rfl)⟩ rfl (Nat.le_of_ble_eq_true rfl) ⟨Nat.zero_le _, Nat.zero_le _⟩ rfl d_Ck_leadsBack_8 (fun H locs hP hS => ?_)
  refine lv_iconst (v := (0:Int32)) hx hb d_Ck_leadsBack_11 (by decide) ?_
  refine lv_istore_n (lv' := [(2, .int (0:Int32)), (0, .ref (ad 45)), (1, .int x1)]) hx hb d_Ck_leadsBack_12 rfl hl (by decide) rfl (fun ls hl => ?_)
  obtain ⟨q3, hq3, h⟩ := o_bd_some h
  refine o_sim2 (AH := fun zz => o_At p l e rm_Ck_leadsBack s m _ below meth c _ o_cls D A 3 13 [] (o_cw ad ca rt Sj T0 T1 Rd Pg Pt Mk Lk zz.2 Jd Ld Pr) [(0, .ref (ad 45)), (1, .int x1), (2, .int zz.1)]) (AX := fun qq => if qq.1 = 1 then o_At p l e rm_Ck_leadsBack s m _ below meth c _ o_cls D A 3 31 [] (o_cw ad ca rt Sj T0 T1 Rd Pg Pt Mk Lk qq.2.2 Jd Ld Pr) [] else o_At p l e rm_Ck_leadsBack s m _ below meth c _ o_cls D A 3 50 [] (o_cw ad ca rt Sj T0 T1 Rd Pg Pt Mk Lk qq.2.2 Jd Ld Pr) []) (fun zz qq h h0 h1 => w_Ck_leadsBack_b13 hE C hDD n x1 T0 Mk Sj T1 Rd Pg Pt Lk Jd Ld Pr rt zz qq h h0 h1) n _ q3 hq3 ?_ _ _ _ hP hS (lv_sub hl [1, 2, 0] rfl)
  by_cases c5 : q3.1 = 1
  · replace h := o_tt c5 h
    refine o_ip c5 ?_
    intro H locs ls hP hS hl
    refine lv_iconst (v := (1:Int32)) hx hb d_Ck_leadsBack_31 (by decide) ?_
    cases h
    exact o_rz (v := (1:Int32)) C o_nar1 hP hS d_Ck_leadsBack_32
  replace h := o_ff c5 h
  refine o_in_ c5 ?_
  intro H locs ls hP hS hl
  refine lv_iconst (v := (0:Int32)) hx hb d_Ck_leadsBack_50 (by decide) ?_
  cases h
  exact o_rz (v := (0:Int32)) C o_nar0 hP hS d_Ck_leadsBack_51
set_option maxHeartbeats 4000000 in
set_option maxRecDepth 100000 in
theorem w_Ck_findCircle_b2 {E : (Nat → Prop) → State → Heap → Prop} {p : Program} {l : Launch} {e : Env} {s : State} {m : MethodId} {args : Array Value} {below : List Frame} {meth : Method} {c : Code} {D : va_G} {ad kd sd vd xd : Nat → Nat} {ca : Nat → ClassId} {A : Nat → Prop} {Q : State → Prop} (hE : o_EK E kd sd vd xd) (C : o_Cx E p s m args meth c D o_cls (o_tys ca) "SchemaJudge$Checker" b_Ck_findCircle none 2 cc_Ck_findCircle A) (hDD : ∀ (rt : Nat) (Sj : SSJ) (T0 : STx) (T1 : STx) (Rd : SRd) (Pg : SPg) (Pt : SPt) (Mk : SMk) (Lk : SLk) (Ck : SCk) (Jd : SJd) (Ld : SLd) (Pr : SPr), va_D A (o_cw ad ca rt Sj T0 T1 Rd Pg Pt Mk Lk Ck Jd Ld Pr)) (n : Nat) (u2_T0 : STx) (u2_Mk : SMk) (u2_Sj : SSJ) (u2_T1 : STx) (u2_Rd : SRd) (u2_Pg : SPg) (u2_Pt : SPt) (u2_Lk : SLk) (u2_Jd : SJd) (u2_Ld : SLd) (u2_Pr : SPr) (u2_rt : Nat) (z : Int32 × SCk) (q : Nat × Int32 × SCk) (h : m_Ck_findCircle_b2 n u2_T0 u2_Mk z = some q) (h0 : q.1 = 0 → o_At p l e rm_Ck_findCircle s m args below meth c Q o_cls D A 2 2 [] (o_cw ad ca u2_rt u2_Sj u2_T0 u2_T1 u2_Rd u2_Pg u2_Pt u2_Mk u2_Lk q.2.2 u2_Jd u2_Ld u2_Pr) [(0, .ref (ad 45)), (1, .int q.2.1)]) (h1 : q.1 ≠ 0 → (o_At p l e rm_Ck_findCircle s m args below meth c Q o_cls D A 2 50 [] (o_cw ad ca u2_rt u2_Sj u2_T0 u2_T1 u2_Rd u2_Pg u2_Pt u2_Mk u2_Lk q.2.2 u2_Jd u2_Ld u2_Pr) [])) : o_At p l e rm_Ck_findCircle s m args below meth c Q o_cls D A 2 2 [] (o_cw ad ca u2_rt u2_Sj u2_T0 u2_T1 u2_Rd u2_Pg u2_Pt u2_Mk u2_Lk z.2 u2_Jd u2_Ld u2_Pr) [(0, .ref (ad 45)), (1, .int z.1)] := by
  unfold m_Ck_findCircle_b2 at h
  intro H locs ls hP hS hl
  have C0 := C
  obtain ⟨hx, hb, -, -, -, hown, hts, hK, -, -⟩ := C0
  refine lv_iload_n hx hb d_Ck_findCircle_2 rfl (lv_at hl 1 rfl) ?_
  refine lv_aload_n hx hb d_Ck_findCircle_3 rfl (lv_at hl 0 rfl) ?_
  refine o_get (v := .ref (ad 1)) C in_Ck hP 45 cw_45 rfl 0 (by decide) k_2_7 rfl rfl d_Ck_findCircle_4 ?_
  obtain ⟨q1, hq1, h⟩ := o_bd_some h
  refine o_V (st1 := [.int q1, .int z.1]) (w1 := (o_cw ad ca u2_rt u2_Sj u2_T0 u2_T1 u2_Rd u2_Pg u2_Pt u2_Mk u2_Lk z.2 u2_Jd u2_Ld u2_Pr)) hE.1 C (c_Tx_total_0 hE l u2_T0 u2_Sj u2_T1 u2_Rd u2_Pg u2_Pt u2_Mk u2_Lk z.2 u2_Jd u2_Ld u2_Pr u2_rt hq1) hP (hDD _ _ _ _ _ _ _ _ _ _ _ _ _) hS hl.1 rfl cw_1 k_4_61 k_4_6 k_4_7 k_1_2 k_4_8 hv_Tx_total rfl rfl ⟨(Nat.le_of_ble_eq_true rfl), (Nat.le_of_ble_eq_true rfl)⟩ rfl (Nat.le_of_ble_eq_true rfl) ⟨Nat.zero_le _, Nat.zero_le _⟩ rfl d_Ck_findCircle_7 (fun H locs hP hS => ?_)
  refine lv_icmp_ge (tgt := 50) hx hb d_Ck_findCircle_10 (by decide) (fun c1 => ?_) (fun c1 => ?_)
  · replace h := o_tt c1 h
    cases h
    exact h1 (Nat.succ_ne_zero 0) _ _ _ hP hS (lv_sub hl [] rfl)
  · replace h := o_ff c1 h
    refine lv_aload_n hx hb d_Ck_findCircle_13 rfl (lv_at hl 0 rfl) ?_
    refine o_get (v := .int (Ck_found z.2)) C in_Ck hP 45 cw_45 rfl 8 (by decide) k_2_15 rfl rfl d_Ck_findCircle_14 ?_
    refine lv_if_ne (tgt := 50) hx hb d_Ck_findCircle_17 (by decide) (fun c2 => ?_) (fun c2 => ?_)
    · replace h := o_ff c2 h
      cases h
      exact h1 (Nat.succ_ne_zero 0) _ _ _ hP hS (lv_sub hl [] rfl)
    · replace h := o_tt c2 h
      refine lv_aload_n hx hb d_Ck_findCircle_20 rfl (lv_at hl 0 rfl) ?_
      refine o_get (v := .ref (ad 46)) C in_Ck hP 45 cw_45 rfl 4 (by decide) k_2_11 rfl rfl d_Ck_findCircle_21 ?_
      refine lv_iload_n hx hb d_Ck_findCircle_24 rfl (lv_at hl 1 rfl) ?_
      obtain ⟨g3, h⟩ := o_gd_some h
      refine o_zald (f := (Ck_aimedAt z.2)) C hP 46 37 cw_46 rfl g3 d_Ck_findCircle_25 ?_
      refine lv_if_eq (tgt := 44) hx hb d_Ck_findCircle_26 (by decide) (fun c4 => ?_) (fun c4 => ?_)
      · replace h := o_tt c4 h
        obtain ⟨x1_44, ex1_44⟩ : ∃ y : Int32, y = z.1 + (1:Int32) := ⟨_, rfl⟩
        replace h := o_nm_at ex1_44 h
        refine lv_iinc (v := x1_44) (lv' := [(1, .int x1_44), (0, .ref (ad 45))]) hx hb d_Ck_findCircle_44 hl (k := 1) rfl (by rw [ex1_44]; rfl) (by decide) rfl (fun ls hl => ?_)
        refine lv_goto (tgt := 2) hx hb d_Ck_findCircle_47 (by decide) ?_
        cases h
        exact h0 rfl _ _ _ hP hS (lv_sub hl [1, 0] rfl)
      · replace h := o_ff c4 h
        refine lv_aload_n hx hb d_Ck_findCircle_29 rfl (lv_at hl 0 rfl) ?_
        refine lv_iload_n hx hb d_Ck_findCircle_30 rfl (lv_at hl 1 rfl) ?_
        obtain ⟨q2, hq2, h⟩ := o_bd_some h
        refine o_V (st1 := [.int q2.1]) (w1 := (o_cw ad ca u2_rt u2_Sj u2_T0 u2_T1 u2_Rd u2_Pg u2_Pt u2_Mk u2_Lk q2.2 u2_Jd u2_Ld u2_Pr)) hE.1 C (c_Ck_leadsBack hE l n z.1 u2_T0 u2_Mk z.2 u2_Sj u2_T1 u2_Rd u2_Pg u2_Pt u2_Lk u2_Jd u2_Ld u2_Pr u2_rt hq2) hP (hDD _ _ _ _ _ _ _ _ _ _ _ _ _) hS hl.1 rfl cw_45 k_5_208 k_5_210 k_s_56 k_1_7 k_5_211 hv_Ck_leadsBack rfl rfl ⟨(Nat.le_of_ble_eq_true rfl), (Nat.le_of_ble_eq_true rfl)⟩ rfl (Nat.le_of_ble_eq_true rfl) ⟨Nat.zero_le _, Nat.zero_le _⟩ rfl d_Ck_findCircle_31 (fun H locs hP hS => ?_)
        refine lv_if_eq (tgt := 44) hx hb d_Ck_findCircle_34 (by decide) (fun c5 => ?_) (fun c5 => ?_)
        · replace h := o_tt c5 h
          obtain ⟨x1_44, ex1_44⟩ : ∃ y : Int32, y = z.1 + (1:Int32) := ⟨_, rfl⟩
          replace h := o_nm_at ex1_44 h
          refine lv_iinc (v := x1_44) (lv' := [(1, .int x1_44), (0, .ref (ad 45))]) hx hb d_Ck_findCircle_44 hl (k := 1) rfl (by rw [ex1_44]; rfl) (by decide) rfl (fun ls hl => ?_)
          refine lv_goto (tgt := 2) hx hb d_Ck_findCircle_47 (by decide) ?_
          cases h
          exact h0 rfl _ _ _ hP hS (lv_sub hl [1, 0] rfl)
        · replace h := o_ff c5 h
          refine lv_aload_n hx hb d_Ck_findCircle_37 rfl (lv_at hl 0 rfl) ?_
          refine lv_bipush (v := (6:Int32)) hx hb d_Ck_findCircle_38 (by decide) ?_
          refine lv_iload_n hx hb d_Ck_findCircle_40 rfl (lv_at hl 1 rfl) ?_
          obtain ⟨q3, hq3, h⟩ := o_bd_some h
          refine o_V (st1 := []) (w1 := (o_cw ad ca u2_rt u2_Sj u2_T0 u2_T1 u2_Rd u2_Pg u2_Pt u2_Mk u2_Lk q3 u2_Jd u2_Ld u2_Pr)) hE.1 C (c_Ck_report hE l (6:Int32) z.1 q2.2 u2_Sj u2_T0 u2_T1 u2_Rd u2_Pg u2_Pt u2_Mk u2_Lk u2_Jd u2_Ld u2_Pr u2_rt hq3) hP (hDD _ _ _ _ _ _ _ _ _ _ _ _ _) hS hl.1 rfl cw_45 k_4_57 k_4_59 k_s_20 k_1_7 k_4_60 hv_Ck_report rfl rfl ⟨(Nat.le_of_ble_eq_true rfl), (Nat.le_of_ble_eq_true rfl)⟩ rfl (Nat.le_of_ble_eq_true rfl) ⟨Nat.zero_le _, Nat.zero_le _⟩ rfl d_Ck_findCircle_41 (fun H locs hP hS => ?_)
          obtain ⟨x1_44, ex1_44⟩ : ∃ y : Int32, y = z.1 + (1:Int32) := ⟨_, rfl⟩
          replace h := o_nm_at ex1_44 h
          refine lv_iinc (v := x1_44) (lv' := [(1, .int x1_44), (0, .ref (ad 45))]) hx hb d_Ck_findCircle_44 hl (k := 1) rfl (by rw [ex1_44]; rfl) (by decide) rfl (fun ls hl => ?_)
          refine lv_goto (tgt := 2) hx hb d_Ck_findCircle_47 (by decide) ?_
          cases h
          exact h0 rfl _ _ _ hP hS (lv_sub hl [1, 0] rfl)
set_option maxHeartbeats 4000000 in
set_option maxRecDepth 100000 in
theorem c_Ck_findCircle {E : (Nat → Prop) → State → Heap → Prop} {D : va_G} {ad kd sd vd xd : Nat → Nat} {ca : Nat → ClassId} (hE : o_EK E kd sd vd xd) (l : Launch) (n : Nat)  (T0 : STx) (Mk : SMk) (Ck : SCk) (Sj : SSJ) (T1 : STx) (Rd : SRd) (Pg : SPg) (Pt : SPt) (Lk : SLk) (Jd : SJd) (Ld : SLd) (Pr : SPr) (rt : Nat) {r : SCk} (h : m_Ck_findCircle n T0 Mk Ck = some r) : o_Cn E l D o_cls (o_tys ca) y_Ck_findCircle cc_Ck_findCircle rm_Ck_findCircle [.ref (ad 45)] (o_cw ad ca rt Sj T0 T1 Rd Pg Pt Mk Lk Ck Jd Ld Pr) (o_cw ad ca rt Sj T0 T1 Rd Pg Pt Mk Lk r Jd Ld Pr) none := by
  refine o_Cn_of (by decide) (Nat.le_of_ble_eq_true rfl) ?_
  intro p e s m below meth c A ls C hD hP hS hl
  have hDD : ∀ (rt : Nat) (Sj : SSJ) (T0 : STx) (T1 : STx) (Rd : SRd) (Pg : SPg) (Pt : SPt) (Mk : SMk) (Lk : SLk) (Ck : SCk) (Jd : SJd) (Ld : SLd) (Pr : SPr), va_D A (o_cw ad ca rt Sj T0 T1 Rd Pg Pt Mk Lk Ck Jd Ld Pr) := fun _ _ _ _ _ _ _ _ _ _ _ _ _ => o_D_map hD rfl
  have hl : lv_has ls 2 [(0, .ref (ad 45))] := hl
  unfold m_Ck_findCircle at h
  have C0 := C
  obtain ⟨hx, hb, -, -, -, hown, hts, hK, -, -⟩ := C0
  refine lv_iconst (v := (0:Int32)) hx hb d_Ck_findCircle_0 (by decide) ?_
  refine lv_istore_n (lv' := [(1, .int (0:Int32)), (0, .ref (ad 45))]) hx hb d_Ck_findCircle_1 rfl hl (by decide) rfl (fun ls hl => ?_)
  obtain ⟨q4, hq4, h⟩ := o_bd_some h
  refine o_sim2 (AH := fun zz => o_At p l e rm_Ck_findCircle s m _ below meth c _ o_cls D A 2 2 [] (o_cw ad ca rt Sj T0 T1 Rd Pg Pt Mk Lk zz.2 Jd Ld Pr) [(0, .ref (ad 45)), (1, .int zz.1)]) (AX := fun qq => o_At p l e rm_Ck_findCircle s m _ below meth c _ o_cls D A 2 50 [] (o_cw ad ca rt Sj T0 T1 Rd Pg Pt Mk Lk qq.2.2 Jd Ld Pr) []) (fun zz qq h h0 h1 => w_Ck_findCircle_b2 hE C hDD n T0 Mk Sj T1 Rd Pg Pt Lk Jd Ld Pr rt zz qq h h0 h1) n _ q4 hq4 ?_ _ _ _ hP hS (lv_sub hl [1, 0] rfl)
  intro H locs ls hP hS hl
  cases h
  exact o_rv C hP hS d_Ck_findCircle_50
set_option maxHeartbeats 4000000 in
set_option maxRecDepth 100000 in
theorem c_Ck_faultyValue {E : (Nat → Prop) → State → Heap → Prop} {D : va_G} {ad kd sd vd xd : Nat → Nat} {ca : Nat → ClassId} (hE : o_EK E kd sd vd xd) (l : Launch)  (Ck : SCk) (Sj : SSJ) (T0 : STx) (T1 : STx) (Rd : SRd) (Pg : SPg) (Pt : SPt) (Mk : SMk) (Lk : SLk) (Jd : SJd) (Ld : SLd) (Pr : SPr) (rt : Nat) {r : Int32} (h : m_Ck_faultyValue Ck = some r) : o_Cn E l D o_cls (o_tys ca) y_Ck_faultyValue cc_Ck_faultyValue rm_Ck_faultyValue [.ref (ad 45)] (o_cw ad ca rt Sj T0 T1 Rd Pg Pt Mk Lk Ck Jd Ld Pr) (o_cw ad ca rt Sj T0 T1 Rd Pg Pt Mk Lk Ck Jd Ld Pr) (some (.int r)) := by
  refine o_Cn_of (by decide) (Nat.le_of_ble_eq_true rfl) ?_
  intro p e s m below meth c A ls C hD hP hS hl
  have hDD : ∀ (rt : Nat) (Sj : SSJ) (T0 : STx) (T1 : STx) (Rd : SRd) (Pg : SPg) (Pt : SPt) (Mk : SMk) (Lk : SLk) (Ck : SCk) (Jd : SJd) (Ld : SLd) (Pr : SPr), va_D A (o_cw ad ca rt Sj T0 T1 Rd Pg Pt Mk Lk Ck Jd Ld Pr) := fun _ _ _ _ _ _ _ _ _ _ _ _ _ => o_D_map hD rfl
  have hl : lv_has ls 1 [(0, .ref (ad 45))] := hl
  unfold m_Ck_faultyValue at h
  have C0 := C
  obtain ⟨hx, hb, -, -, -, hown, hts, hK, -, -⟩ := C0
  refine lv_aload_n hx hb d_Ck_faultyValue_0 rfl (lv_at hl 0 rfl) ?_
  refine o_get (v := .int (Ck_foundAt Ck)) C in_Ck hP 45 cw_45 rfl 9 (by decide) k_2_16 rfl rfl d_Ck_faultyValue_1 ?_
  cases h
  exact o_ri (v := (Ck_foundAt Ck)) C hP hS d_Ck_faultyValue_4
set_option maxHeartbeats 4000000 in
set_option maxRecDepth 100000 in
theorem c_Ck_passed {E : (Nat → Prop) → State → Heap → Prop} {D : va_G} {ad kd sd vd xd : Nat → Nat} {ca : Nat → ClassId} (hE : o_EK E kd sd vd xd) (l : Launch)  (Ck : SCk) (Sj : SSJ) (T0 : STx) (T1 : STx) (Rd : SRd) (Pg : SPg) (Pt : SPt) (Mk : SMk) (Lk : SLk) (Jd : SJd) (Ld : SLd) (Pr : SPr) (rt : Nat) {r : Int32} (h : m_Ck_passed Ck = some r) : o_Cn E l D o_cls (o_tys ca) y_Ck_passed cc_Ck_passed rm_Ck_passed [.ref (ad 45)] (o_cw ad ca rt Sj T0 T1 Rd Pg Pt Mk Lk Ck Jd Ld Pr) (o_cw ad ca rt Sj T0 T1 Rd Pg Pt Mk Lk Ck Jd Ld Pr) (some (.int r)) := by
  refine o_Cn_of (by decide) (Nat.le_of_ble_eq_true rfl) ?_
  intro p e s m below meth c A ls C hD hP hS hl
  have hDD : ∀ (rt : Nat) (Sj : SSJ) (T0 : STx) (T1 : STx) (Rd : SRd) (Pg : SPg) (Pt : SPt) (Mk : SMk) (Lk : SLk) (Ck : SCk) (Jd : SJd) (Ld : SLd) (Pr : SPr), va_D A (o_cw ad ca rt Sj T0 T1 Rd Pg Pt Mk Lk Ck Jd Ld Pr) := fun _ _ _ _ _ _ _ _ _ _ _ _ _ => o_D_map hD rfl
  have hl : lv_has ls 1 [(0, .ref (ad 45))] := hl
  unfold m_Ck_passed at h
  have C0 := C
  obtain ⟨hx, hb, -, -, -, hown, hts, hK, -, -⟩ := C0
  refine lv_aload_n hx hb d_Ck_passed_0 rfl (lv_at hl 0 rfl) ?_
  refine o_get (v := .int (Ck_found Ck)) C in_Ck hP 45 cw_45 rfl 8 (by decide) k_2_15 rfl rfl d_Ck_passed_1 ?_
  refine lv_if_ne (tgt := 11) hx hb d_Ck_passed_4 (by decide) (fun c1 => ?_) (fun c1 => ?_)
  · replace h := o_ff c1 h
    refine lv_iconst (v := (0:Int32)) hx hb d_Ck_passed_11 (by decide) ?_
    cases h
    exact o_rz (v := (0:Int32)) C o_nar0 hP hS d_Ck_passed_12
  · replace h := o_tt c1 h
    refine lv_iconst (v := (1:Int32)) hx hb d_Ck_passed_7 (by decide) ?_
    refine lv_goto (tgt := 12) hx hb d_Ck_passed_8 (by decide) ?_
    cases h
    exact o_rz (v := (1:Int32)) C o_nar1 hP hS d_Ck_passed_12
set_option maxHeartbeats 4000000 in
set_option maxRecDepth 100000 in
theorem c_Pr_cut {E : (Nat → Prop) → State → Heap → Prop} {D : va_G} {ad kd sd vd xd : Nat → Nat} {ca : Nat → ClassId} (hE : o_EK E kd sd vd xd) (l : Launch) (x1 : Int32) (Pr : SPr) (Sj : SSJ) (T0 : STx) (T1 : STx) (Rd : SRd) (Pg : SPg) (Pt : SPt) (Mk : SMk) (Lk : SLk) (Ck : SCk) (Jd : SJd) (Ld : SLd) (rt : Nat) {r : SPr} (h : m_Pr_cut x1 Pr = some r) : o_Cn E l D o_cls (o_tys ca) y_Pr_cut cc_Pr_cut rm_Pr_cut [.ref (ad 54), .int x1] (o_cw ad ca rt Sj T0 T1 Rd Pg Pt Mk Lk Ck Jd Ld Pr) (o_cw ad ca rt Sj T0 T1 Rd Pg Pt Mk Lk Ck Jd Ld r) none := by
  refine o_Cn_of (by decide) (Nat.le_of_ble_eq_true rfl) ?_
  intro p e s m below meth c A ls C hD hP hS hl
  have hDD : ∀ (rt : Nat) (Sj : SSJ) (T0 : STx) (T1 : STx) (Rd : SRd) (Pg : SPg) (Pt : SPt) (Mk : SMk) (Lk : SLk) (Ck : SCk) (Jd : SJd) (Ld : SLd) (Pr : SPr), va_D A (o_cw ad ca rt Sj T0 T1 Rd Pg Pt Mk Lk Ck Jd Ld Pr) := fun _ _ _ _ _ _ _ _ _ _ _ _ _ => o_D_map hD rfl
  have hl : lv_has ls 2 [(0, .ref (ad 54)), (1, .int x1)] := hl
  unfold m_Pr_cut at h
  have C0 := C
  obtain ⟨hx, hb, -, -, -, hown, hts, hK, -, -⟩ := C0
  refine lv_iload_n hx hb d_Pr_cut_0 rfl (lv_at hl 1 rfl) ?_
  refine lv_if_lt (tgt := 17) hx hb d_Pr_cut_1 (by decide) (fun c1 => ?_) (fun c1 => ?_)
  · replace h := o_tt c1 h
    cases h
    exact o_rv C hP hS d_Pr_cut_17
  · replace h := o_ff c1 h
    refine lv_iload_n hx hb d_Pr_cut_4 rfl (lv_at hl 1 rfl) ?_
    refine lv_aload_n hx hb d_Pr_cut_5 rfl (lv_at hl 0 rfl) ?_
    refine o_get (v := .int (Pr_size Pr)) C in_Pr hP 54 cw_54 rfl 2 (by decide) k_2_66 rfl rfl d_Pr_cut_6 ?_
    refine lv_icmp_ge (tgt := 17) hx hb d_Pr_cut_9 (by decide) (fun c2 => ?_) (fun c2 => ?_)
    · replace h := o_tt c2 h
      cases h
      exact o_rv C hP hS d_Pr_cut_17
    · replace h := o_ff c2 h
      refine lv_aload_n hx hb d_Pr_cut_12 rfl (lv_at hl 0 rfl) ?_
      refine lv_iload_n hx hb d_Pr_cut_13 rfl (lv_at hl 1 rfl) ?_
      refine o_put (v := .int x1) (ty := .int) (w1 := (o_cw ad ca rt Sj T0 T1 Rd Pg Pt Mk Lk Ck Jd Ld (Pr_mk (Pr_values Pr) (Pr_keywords Pr) x1))) C in_Pr t_Pr t_Pr_ok n_Pr hP (hDD _ _ _ _ _ _ _ _ _ _ _ _ _) hS 54 cw_54 rfl 2 (by decide) k_2_66 rfl rfl (by decide +kernel) rfl rfl (Nat.le_of_ble_eq_true rfl) rfl d_Pr_cut_14 (fun H locs hP hS => ?_)
      cases h
      exact o_rv C hP hS d_Pr_cut_17
set_option maxHeartbeats 4000000 in
set_option maxRecDepth 100000 in
theorem c_Jd_begin {E : (Nat → Prop) → State → Heap → Prop} {D : va_G} {ad kd sd vd xd : Nat → Nat} {ca : Nat → ClassId} (hE : o_EK E kd sd vd xd) (l : Launch)  (Pr : SPr) (Jd : SJd) (Sj : SSJ) (T0 : STx) (T1 : STx) (Rd : SRd) (Pg : SPg) (Pt : SPt) (Mk : SMk) (Lk : SLk) (Ck : SCk) (Ld : SLd) (rt : Nat) {r : SPr × SJd} (h : m_Jd_begin Pr Jd = some r) : o_Cn E l D o_cls (o_tys ca) y_Jd_begin cc_Jd_begin rm_Jd_begin [.ref (ad 49)] (o_cw ad ca rt Sj T0 T1 Rd Pg Pt Mk Lk Ck Jd Ld Pr) (o_cw ad ca rt Sj T0 T1 Rd Pg Pt Mk Lk Ck r.2 Ld r.1) none := by
  refine o_Cn_of (by decide) (Nat.le_of_ble_eq_true rfl) ?_
  intro p e s m below meth c A ls C hD hP hS hl
  have hDD : ∀ (rt : Nat) (Sj : SSJ) (T0 : STx) (T1 : STx) (Rd : SRd) (Pg : SPg) (Pt : SPt) (Mk : SMk) (Lk : SLk) (Ck : SCk) (Jd : SJd) (Ld : SLd) (Pr : SPr), va_D A (o_cw ad ca rt Sj T0 T1 Rd Pg Pt Mk Lk Ck Jd Ld Pr) := fun _ _ _ _ _ _ _ _ _ _ _ _ _ => o_D_map hD rfl
  have hl : lv_has ls 1 [(0, .ref (ad 49))] := hl
  unfold m_Jd_begin at h
  have C0 := C
  obtain ⟨hx, hb, -, -, -, hown, hts, hK, -, -⟩ := C0
  refine lv_aload_n hx hb d_Jd_begin_0 rfl (lv_at hl 0 rfl) ?_
  refine o_get (v := .ref (ad 54)) C in_Jd hP 49 cw_49 rfl 6 (by decide) k_2_80 rfl rfl d_Jd_begin_1 ?_
  refine lv_iconst (v := (0:Int32)) hx hb d_Jd_begin_4 (by decide) ?_
  obtain ⟨q1, hq1, h⟩ := o_bd_some h
  refine o_V (st1 := []) (w1 := (o_cw ad ca rt Sj T0 T1 Rd Pg Pt Mk Lk Ck Jd Ld q1)) hE.1 C (c_Pr_cut hE l (0:Int32) Pr Sj T0 T1 Rd Pg Pt Mk Lk Ck Jd Ld rt hq1) hP (hDD _ _ _ _ _ _ _ _ _ _ _ _ _) hS hl.1 rfl cw_54 k_6_3 k_6_4 k_6_5 k_1_11 k_6_6 hv_Pr_cut rfl rfl ⟨(Nat.le_of_ble_eq_true rfl), (Nat.le_of_ble_eq_true rfl)⟩ rfl (Nat.le_of_ble_eq_true rfl) ⟨Nat.zero_le _, Nat.zero_le _⟩ rfl d_Jd_begin_5 (fun H locs hP hS => ?_)
  refine lv_aload_n hx hb d_Jd_begin_8 rfl (lv_at hl 0 rfl) ?_
  refine lv_iconst (v := (0:Int32)) hx hb d_Jd_begin_9 (by decide) ?_
  refine o_put (v := .int (0:Int32)) (ty := .int) (w1 := (o_cw ad ca rt Sj T0 T1 Rd Pg Pt Mk Lk Ck (Jd_mk (Jd_evaluated Jd) (0:Int32) (Jd_over Jd) (Jd_schemas Jd) (Jd_deepest Jd)) Ld q1)) C in_Jd t_Jd t_Jd_ok n_Jd hP (hDD _ _ _ _ _ _ _ _ _ _ _ _ _) hS 49 cw_49 rfl 8 (by decide) k_2_82 rfl rfl (by decide +kernel) rfl rfl (Nat.le_of_ble_eq_true rfl) rfl d_Jd_begin_10 (fun H locs hP hS => ?_)
  refine lv_aload_n hx hb d_Jd_begin_13 rfl (lv_at hl 0 rfl) ?_
  refine lv_iconst (v := (0:Int32)) hx hb d_Jd_begin_14 (by decide) ?_
  refine o_put (v := .int (0:Int32)) (ty := .boolean) (w1 := (o_cw ad ca rt Sj T0 T1 Rd Pg Pt Mk Lk Ck (Jd_mk (Jd_evaluated Jd) (0:Int32) (0:Int32) (Jd_schemas Jd) (Jd_deepest Jd)) Ld q1)) C in_Jd t_Jd t_Jd_ok n_Jd hP (hDD _ _ _ _ _ _ _ _ _ _ _ _ _) hS 49 cw_49 rfl 9 (by decide) k_2_83 rfl rfl (by decide +kernel) rfl rfl (Nat.le_of_ble_eq_true rfl) rfl d_Jd_begin_15 (fun H locs hP hS => ?_)
  refine lv_aload_n hx hb d_Jd_begin_18 rfl (lv_at hl 0 rfl) ?_
  refine lv_iconst (v := (0:Int32)) hx hb d_Jd_begin_19 (by decide) ?_
  refine o_put (v := .int (0:Int32)) (ty := .int) (w1 := (o_cw ad ca rt Sj T0 T1 Rd Pg Pt Mk Lk Ck (Jd_mk (Jd_evaluated Jd) (0:Int32) (0:Int32) (0:Int32) (Jd_deepest Jd)) Ld q1)) C in_Jd t_Jd t_Jd_ok n_Jd hP (hDD _ _ _ _ _ _ _ _ _ _ _ _ _) hS 49 cw_49 rfl 10 (by decide) k_2_84 rfl rfl (by decide +kernel) rfl rfl (Nat.le_of_ble_eq_true rfl) rfl d_Jd_begin_20 (fun H locs hP hS => ?_)
  refine lv_aload_n hx hb d_Jd_begin_23 rfl (lv_at hl 0 rfl) ?_
  refine lv_iconst (v := (0:Int32)) hx hb d_Jd_begin_24 (by decide) ?_
  refine o_put (v := .int (0:Int32)) (ty := .int) (w1 := (o_cw ad ca rt Sj T0 T1 Rd Pg Pt Mk Lk Ck (Jd_mk (Jd_evaluated Jd) (0:Int32) (0:Int32) (0:Int32) (0:Int32)) Ld q1)) C in_Jd t_Jd t_Jd_ok n_Jd hP (hDD _ _ _ _ _ _ _ _ _ _ _ _ _) hS 49 cw_49 rfl 11 (by decide) k_2_85 rfl rfl (by decide +kernel) rfl rfl (Nat.le_of_ble_eq_true rfl) rfl d_Jd_begin_25 (fun H locs hP hS => ?_)
  cases h
  exact o_rv C hP hS d_Jd_begin_28
set_option maxHeartbeats 4000000 in
set_option maxRecDepth 100000 in
theorem c_Jd_enter {E : (Nat → Prop) → State → Heap → Prop} {D : va_G} {ad kd sd vd xd : Nat → Nat} {ca : Nat → ClassId} (hE : o_EK E kd sd vd xd) (l : Launch) (x1 : Int32) (Jd : SJd) (Sj : SSJ) (T0 : STx) (T1 : STx) (Rd : SRd) (Pg : SPg) (Pt : SPt) (Mk : SMk) (Lk : SLk) (Ck : SCk) (Ld : SLd) (Pr : SPr) (rt : Nat) {r : Int32 × SJd} (h : m_Jd_enter x1 Jd = some r) : o_Cn E l D o_cls (o_tys ca) y_Jd_enter cc_Jd_enter rm_Jd_enter [.ref (ad 49), .int x1] (o_cw ad ca rt Sj T0 T1 Rd Pg Pt Mk Lk Ck Jd Ld Pr) (o_cw ad ca rt Sj T0 T1 Rd Pg Pt Mk Lk Ck r.2 Ld Pr) (some (.int r.1)) := by
  refine o_Cn_of (by decide) (Nat.le_of_ble_eq_true rfl) ?_
  intro p e s m below meth c A ls C hD hP hS hl
  have hDD : ∀ (rt : Nat) (Sj : SSJ) (T0 : STx) (T1 : STx) (Rd : SRd) (Pg : SPg) (Pt : SPt) (Mk : SMk) (Lk : SLk) (Ck : SCk) (Jd : SJd) (Ld : SLd) (Pr : SPr), va_D A (o_cw ad ca rt Sj T0 T1 Rd Pg Pt Mk Lk Ck Jd Ld Pr) := fun _ _ _ _ _ _ _ _ _ _ _ _ _ => o_D_map hD rfl
  have hl : lv_has ls 2 [(0, .ref (ad 49)), (1, .int x1)] := hl
  unfold m_Jd_enter at h
  have C0 := C
  obtain ⟨hx, hb, -, -, -, hown, hts, hK, -, -⟩ := C0
  refine lv_aload_n hx hb d_Jd_enter_0 rfl (lv_at hl 0 rfl) ?_
  refine lv_dup hx hb d_Jd_enter_1 rfl ?_
  refine o_get (v := .int (Jd_schemas Jd)) C in_Jd hP 49 cw_49 rfl 10 (by decide) k_2_84 rfl rfl d_Jd_enter_2 ?_
  refine lv_iconst (v := (1:Int32)) hx hb d_Jd_enter_5 (by decide) ?_
  refine lv_iadd hx hb d_Jd_enter_6 ?_
  refine o_put (v := .int ((Jd_schemas Jd) + (1:Int32))) (ty := .int) (w1 := (o_cw ad ca rt Sj T0 T1 Rd Pg Pt Mk Lk Ck (Jd_mk (Jd_evaluated Jd) (Jd_silences Jd) (Jd_over Jd) ((Jd_schemas Jd) + (1:Int32)) (Jd_deepest Jd)) Ld Pr)) C in_Jd t_Jd t_Jd_ok n_Jd hP (hDD _ _ _ _ _ _ _ _ _ _ _ _ _) hS 49 cw_49 rfl 10 (by decide) k_2_84 rfl rfl (by decide +kernel) rfl rfl (Nat.le_of_ble_eq_true rfl) rfl d_Jd_enter_7 (fun H locs hP hS => ?_)
  refine lv_iload_n hx hb d_Jd_enter_10 rfl (lv_at hl 1 rfl) ?_
  refine lv_iconst (v := (1:Int32)) hx hb d_Jd_enter_11 (by decide) ?_
  refine lv_icmp_lt (tgt := 31) hx hb d_Jd_enter_12 (by decide) (fun c1 => ?_) (fun c1 => ?_)
  · replace h := o_tt c1 h
    refine lv_aload_n hx hb d_Jd_enter_31 rfl (lv_at hl 0 rfl) ?_
    refine lv_iconst (v := (1:Int32)) hx hb d_Jd_enter_32 (by decide) ?_
    refine o_put (v := .int (1:Int32)) (ty := .boolean) (w1 := (o_cw ad ca rt Sj T0 T1 Rd Pg Pt Mk Lk Ck (Jd_mk (Jd_evaluated Jd) (Jd_silences Jd) (1:Int32) ((Jd_schemas Jd) + (1:Int32)) (Jd_deepest Jd)) Ld Pr)) C in_Jd t_Jd t_Jd_ok n_Jd hP (hDD _ _ _ _ _ _ _ _ _ _ _ _ _) hS 49 cw_49 rfl 9 (by decide) k_2_83 rfl rfl (by decide +kernel) rfl rfl (Nat.le_of_ble_eq_true rfl) rfl d_Jd_enter_33 (fun H locs hP hS => ?_)
    refine lv_iconst (v := (0:Int32)) hx hb d_Jd_enter_36 (by decide) ?_
    cases h
    exact o_rz (v := (0:Int32)) C o_nar0 hP hS d_Jd_enter_37
  · replace h := o_ff c1 h
    refine lv_iload_n hx hb d_Jd_enter_15 rfl (lv_at hl 1 rfl) ?_
    refine lv_bipush (v := (100:Int32)) hx hb d_Jd_enter_16 (by decide) ?_
    refine lv_icmp_gt (tgt := 31) hx hb d_Jd_enter_18 (by decide) (fun c2 => ?_) (fun c2 => ?_)
    · replace h := o_tt c2 h
      refine lv_aload_n hx hb d_Jd_enter_31 rfl (lv_at hl 0 rfl) ?_
      refine lv_iconst (v := (1:Int32)) hx hb d_Jd_enter_32 (by decide) ?_
      refine o_put (v := .int (1:Int32)) (ty := .boolean) (w1 := (o_cw ad ca rt Sj T0 T1 Rd Pg Pt Mk Lk Ck (Jd_mk (Jd_evaluated Jd) (Jd_silences Jd) (1:Int32) ((Jd_schemas Jd) + (1:Int32)) (Jd_deepest Jd)) Ld Pr)) C in_Jd t_Jd t_Jd_ok n_Jd hP (hDD _ _ _ _ _ _ _ _ _ _ _ _ _) hS 49 cw_49 rfl 9 (by decide) k_2_83 rfl rfl (by decide +kernel) rfl rfl (Nat.le_of_ble_eq_true rfl) rfl d_Jd_enter_33 (fun H locs hP hS => ?_)
      refine lv_iconst (v := (0:Int32)) hx hb d_Jd_enter_36 (by decide) ?_
      cases h
      exact o_rz (v := (0:Int32)) C o_nar0 hP hS d_Jd_enter_37
    · replace h := o_ff c2 h
      refine lv_aload_n hx hb d_Jd_enter_21 rfl (lv_at hl 0 rfl) ?_
      refine o_get (v := .int ((Jd_schemas Jd) + (1:Int32))) C in_Jd hP 49 cw_49 rfl 10 (by decide) k_2_84 rfl rfl d_Jd_enter_22 ?_
      refine lv_sipush (v := (20000:Int32)) hx hb d_Jd_enter_25 (by decide) ?_
      refine lv_icmp_le (tgt := 38) hx hb d_Jd_enter_28 (by decide) (fun c3 => ?_) (fun c3 => ?_)
      · replace h := o_tt c3 h
        refine lv_aload_n hx hb d_Jd_enter_38 rfl (lv_at hl 0 rfl) ?_
        refine lv_aload_n hx hb d_Jd_enter_39 rfl (lv_at hl 0 rfl) ?_
        refine o_get (v := .int (Jd_deepest Jd)) C in_Jd hP 49 cw_49 rfl 11 (by decide) k_2_85 rfl rfl d_Jd_enter_40 ?_
        refine lv_iload_n hx hb d_Jd_enter_43 rfl (lv_at hl 1 rfl) ?_
        refine va_mmax hx hb (C.2.2.2.2.1.trans hl.1.symm) hown (hts _ k_6_15) (hts _ k_4_152) (hts _ k_1_26) (hts _ k_4_153) (Nat.le_of_ble_eq_true rfl) (Nat.le_of_ble_eq_true rfl) (Nat.zero_le _) (Nat.zero_le _) d_Jd_enter_44 ?_
        refine o_put (v := .int (if (Jd_deepest Jd) < x1 then x1 else (Jd_deepest Jd))) (ty := .int) (w1 := (o_cw ad ca rt Sj T0 T1 Rd Pg Pt Mk Lk Ck (Jd_mk (Jd_evaluated Jd) (Jd_silences Jd) (Jd_over Jd) ((Jd_schemas Jd) + (1:Int32)) (if (Jd_deepest Jd) < x1 then x1 else (Jd_deepest Jd))) Ld Pr)) C in_Jd t_Jd t_Jd_ok n_Jd hP (hDD _ _ _ _ _ _ _ _ _ _ _ _ _) hS 49 cw_49 rfl 11 (by decide) k_2_85 rfl rfl (by decide +kernel) rfl rfl (Nat.le_of_ble_eq_true rfl) rfl d_Jd_enter_47 (fun H locs hP hS => ?_)
        refine lv_aload_n hx hb d_Jd_enter_50 rfl (lv_at hl 0 rfl) ?_
        refine o_get (v := .ref (ad 50)) C in_Jd hP 49 cw_49 rfl 7 (by decide) k_2_81 rfl rfl d_Jd_enter_51 ?_
        refine lv_iload_n hx hb d_Jd_enter_54 rfl (lv_at hl 1 rfl) ?_
        refine lv_lconst (v := (0:Int64)) hx hb d_Jd_enter_55 (by decide) ?_
        obtain ⟨g4, h⟩ := o_gd_some h
        refine o_last (f := (Jd_evaluated Jd)) (w1 := (o_cw ad ca rt Sj T0 T1 Rd Pg Pt Mk Lk Ck (Jd_mk (vp_updL (Jd_evaluated Jd) x1.toNatClampNeg (0:Int64)) (Jd_silences Jd) (Jd_over Jd) ((Jd_schemas Jd) + (1:Int32)) (if (Jd_deepest Jd) < x1 then x1 else (Jd_deepest Jd))) Ld Pr)) C hP (hDD _ _ _ _ _ _ _ _ _ _ _ _ _) hS 50 40 cw_50 rfl g4 rfl d_Jd_enter_56 (fun H locs hP hS => ?_)
        refine lv_iconst (v := (1:Int32)) hx hb d_Jd_enter_57 (by decide) ?_
        cases h
        exact o_rz (v := (1:Int32)) C o_nar1 hP hS d_Jd_enter_58
      · replace h := o_ff c3 h
        refine lv_aload_n hx hb d_Jd_enter_31 rfl (lv_at hl 0 rfl) ?_
        refine lv_iconst (v := (1:Int32)) hx hb d_Jd_enter_32 (by decide) ?_
        refine o_put (v := .int (1:Int32)) (ty := .boolean) (w1 := (o_cw ad ca rt Sj T0 T1 Rd Pg Pt Mk Lk Ck (Jd_mk (Jd_evaluated Jd) (Jd_silences Jd) (1:Int32) ((Jd_schemas Jd) + (1:Int32)) (Jd_deepest Jd)) Ld Pr)) C in_Jd t_Jd t_Jd_ok n_Jd hP (hDD _ _ _ _ _ _ _ _ _ _ _ _ _) hS 49 cw_49 rfl 9 (by decide) k_2_83 rfl rfl (by decide +kernel) rfl rfl (Nat.le_of_ble_eq_true rfl) rfl d_Jd_enter_33 (fun H locs hP hS => ?_)
        refine lv_iconst (v := (0:Int32)) hx hb d_Jd_enter_36 (by decide) ?_
        cases h
        exact o_rz (v := (0:Int32)) C o_nar0 hP hS d_Jd_enter_37
set_option maxHeartbeats 4000000 in
set_option maxRecDepth 100000 in
theorem w_Pr_add_b13 {E : (Nat → Prop) → State → Heap → Prop} {p : Program} {l : Launch} {e : Env} {s : State} {m : MethodId} {args : Array Value} {below : List Frame} {meth : Method} {c : Code} {D : va_G} {ad kd sd vd xd : Nat → Nat} {ca : Nat → ClassId} {A : Nat → Prop} {Q : State → Prop} (hE : o_EK E kd sd vd xd) (C : o_Cx E p s m args meth c D o_cls (o_tys ca) "SchemaJudge$Pairs" b_Pr_add none 4 cc_Pr_add A) (hDD : ∀ (rt : Nat) (Sj : SSJ) (T0 : STx) (T1 : STx) (Rd : SRd) (Pg : SPg) (Pt : SPt) (Mk : SMk) (Lk : SLk) (Ck : SCk) (Jd : SJd) (Ld : SLd) (Pr : SPr), va_D A (o_cw ad ca rt Sj T0 T1 Rd Pg Pt Mk Lk Ck Jd Ld Pr)) (n : Nat) (u13_x1 : Int32) (u13_x2 : Int32) (u13_Pr : SPr) (u13_Sj : SSJ) (u13_T0 : STx) (u13_T1 : STx) (u13_Rd : SRd) (u13_Pg : SPg) (u13_Pt : SPt) (u13_Mk : SMk) (u13_Lk : SLk) (u13_Ck : SCk) (u13_Jd : SJd) (u13_Ld : SLd) (u13_rt : Nat) (z : Int32) (q : Nat × Int32) (h : m_Pr_add_b13 n u13_x1 u13_x2 u13_Pr z = some q) (h0 : q.1 = 0 → o_At p l e rm_Pr_add s m args below meth c Q o_cls D A 4 13 [] (o_cw ad ca u13_rt u13_Sj u13_T0 u13_T1 u13_Rd u13_Pg u13_Pt u13_Mk u13_Lk u13_Ck u13_Jd u13_Ld u13_Pr) [(0, .ref (ad 54)), (1, .int u13_x1), (2, .int u13_x2), (3, .int q.2)]) (h1 : q.1 ≠ 0 → (if q.1 = 1 then o_At p l e rm_Pr_add s m args below meth c Q o_cls D A 4 41 [] (o_cw ad ca u13_rt u13_Sj u13_T0 u13_T1 u13_Rd u13_Pg u13_Pt u13_Mk u13_Lk u13_Ck u13_Jd u13_Ld u13_Pr) [] else o_At p l e rm_Pr_add s m args below meth c Q o_cls D A 4 48 [] (o_cw ad ca u13_rt u13_Sj u13_T0 u13_T1 u13_Rd u13_Pg u13_Pt u13_Mk u13_Lk u13_Ck u13_Jd u13_Ld u13_Pr) [(0, .ref (ad 54)), (1, .int u13_x1), (2, .int u13_x2)])) : o_At p l e rm_Pr_add s m args below meth c Q o_cls D A 4 13 [] (o_cw ad ca u13_rt u13_Sj u13_T0 u13_T1 u13_Rd u13_Pg u13_Pt u13_Mk u13_Lk u13_Ck u13_Jd u13_Ld u13_Pr) [(0, .ref (ad 54)), (1, .int u13_x1), (2, .int u13_x2), (3, .int z)] := by
  unfold m_Pr_add_b13 at h
  intro H locs ls hP hS hl
  have C0 := C
  obtain ⟨hx, hb, -, -, -, hown, hts, hK, -, -⟩ := C0
  refine lv_iload_n hx hb d_Pr_add_13 rfl (lv_at hl 3 rfl) ?_
  refine lv_aload_n hx hb d_Pr_add_14 rfl (lv_at hl 0 rfl) ?_
  refine o_get (v := .int (Pr_size u13_Pr)) C in_Pr hP 54 cw_54 rfl 2 (by decide) k_2_66 rfl rfl d_Pr_add_15 ?_
  refine lv_icmp_ge (tgt := 48) hx hb d_Pr_add_18 (by decide) (fun c2 => ?_) (fun c2 => ?_)
  · replace h := o_tt c2 h
    cases h
    exact h1 (Nat.succ_ne_zero 1) _ _ _ hP hS (lv_sub hl [0, 1, 2] rfl)
  · replace h := o_ff c2 h
    refine lv_aload_n hx hb d_Pr_add_21 rfl (lv_at hl 0 rfl) ?_
    refine o_get (v := .ref (ad 55)) C in_Pr hP 54 cw_54 rfl 0 (by decide) k_2_64 rfl rfl d_Pr_add_22 ?_
    refine lv_iload_n hx hb d_Pr_add_25 rfl (lv_at hl 3 rfl) ?_
    obtain ⟨g3, h⟩ := o_gd_some h
    refine o_iald (f := (Pr_values u13_Pr)) C hP 55 43 cw_55 rfl g3 d_Pr_add_26 ?_
    refine lv_iload_n hx hb d_Pr_add_27 rfl (lv_at hl 1 rfl) ?_
    refine lv_icmp_ne (tgt := 42) hx hb d_Pr_add_28 (by decide) (fun c4 => ?_) (fun c4 => ?_)
    · replace h := o_ff c4 h
      obtain ⟨x3_42, ex3_42⟩ : ∃ y : Int32, y = z + (1:Int32) := ⟨_, rfl⟩
      replace h := o_nm_at ex3_42 h
      refine lv_iinc (v := x3_42) (lv' := [(3, .int x3_42), (0, .ref (ad 54)), (1, .int u13_x1), (2, .int u13_x2)]) hx hb d_Pr_add_42 hl (k := 3) rfl (by rw [ex3_42]; rfl) (by decide) rfl (fun ls hl => ?_)
      refine lv_goto (tgt := 13) hx hb d_Pr_add_45 (by decide) ?_
      cases h
      exact h0 rfl _ _ _ hP hS (lv_sub hl [1, 2, 3, 0] rfl)
    · replace h := o_tt c4 h
      refine lv_aload_n hx hb d_Pr_add_31 rfl (lv_at hl 0 rfl) ?_
      refine o_get (v := .ref (ad 56)) C in_Pr hP 54 cw_54 rfl 1 (by decide) k_2_65 rfl rfl d_Pr_add_32 ?_
      refine lv_iload_n hx hb d_Pr_add_35 rfl (lv_at hl 3 rfl) ?_
      obtain ⟨g5, h⟩ := o_gd_some h
      refine o_iald (f := (Pr_keywords u13_Pr)) C hP 56 44 cw_56 rfl g5 d_Pr_add_36 ?_
      refine lv_iload_n hx hb d_Pr_add_37 rfl (lv_at hl 2 rfl) ?_
      refine lv_icmp_ne (tgt := 42) hx hb d_Pr_add_38 (by decide) (fun c6 => ?_) (fun c6 => ?_)
      · replace h := o_ff c6 h
        obtain ⟨x3_42, ex3_42⟩ : ∃ y : Int32, y = z + (1:Int32) := ⟨_, rfl⟩
        replace h := o_nm_at ex3_42 h
        refine lv_iinc (v := x3_42) (lv' := [(3, .int x3_42), (0, .ref (ad 54)), (1, .int u13_x1), (2, .int u13_x2)]) hx hb d_Pr_add_42 hl (k := 3) rfl (by rw [ex3_42]; rfl) (by decide) rfl (fun ls hl => ?_)
        refine lv_goto (tgt := 13) hx hb d_Pr_add_45 (by decide) ?_
        cases h
        exact h0 rfl _ _ _ hP hS (lv_sub hl [1, 2, 3, 0] rfl)
      · replace h := o_tt c6 h
        cases h
        exact h1 (Nat.succ_ne_zero 0) _ _ _ hP hS (lv_sub hl [] rfl)
set_option maxHeartbeats 4000000 in
set_option maxRecDepth 100000 in
theorem c_Pr_add {E : (Nat → Prop) → State → Heap → Prop} {D : va_G} {ad kd sd vd xd : Nat → Nat} {ca : Nat → ClassId} (hE : o_EK E kd sd vd xd) (l : Launch) (n : Nat) (x1 : Int32) (x2 : Int32) (Pr : SPr) (Sj : SSJ) (T0 : STx) (T1 : STx) (Rd : SRd) (Pg : SPg) (Pt : SPt) (Mk : SMk) (Lk : SLk) (Ck : SCk) (Jd : SJd) (Ld : SLd) (rt : Nat) {r : SPr} (h : m_Pr_add n x1 x2 Pr = some r) : o_Cn E l D o_cls (o_tys ca) y_Pr_add cc_Pr_add rm_Pr_add [.ref (ad 54), .int x1, .int x2] (o_cw ad ca rt Sj T0 T1 Rd Pg Pt Mk Lk Ck Jd Ld Pr) (o_cw ad ca rt Sj T0 T1 Rd Pg Pt Mk Lk Ck Jd Ld r) none := by
  refine o_Cn_of (by decide) (Nat.le_of_ble_eq_true rfl) ?_
  intro p e s m below meth c A ls C hD hP hS hl
  have hDD : ∀ (rt : Nat) (Sj : SSJ) (T0 : STx) (T1 : STx) (Rd : SRd) (Pg : SPg) (Pt : SPt) (Mk : SMk) (Lk : SLk) (Ck : SCk) (Jd : SJd) (Ld : SLd) (Pr : SPr), va_D A (o_cw ad ca rt Sj T0 T1 Rd Pg Pt Mk Lk Ck Jd Ld Pr) := fun _ _ _ _ _ _ _ _ _ _ _ _ _ => o_D_map hD rfl
  have hl : lv_has ls 4 [(0, .ref (ad 54)), (1, .int x1), (2, .int x2)] := hl
  unfold m_Pr_add at h
  have C0 := C
  obtain ⟨hx, hb, -, -, -, hown, hts, hK, -, -⟩ := C0
  refine lv_aload_n hx hb d_Pr_add_0 rfl (lv_at hl 0 rfl) ?_
  refine o_get (v := .int (Pr_size Pr)) C in_Pr hP 54 cw_54 rfl 2 (by decide) k_2_66 rfl rfl d_Pr_add_1 ?_
  refine lv_sipush (v := (300:Int32)) hx hb d_Pr_add_4 (by decide) ?_
  refine lv_icmp_lt (tgt := 11) hx hb d_Pr_add_7 (by decide) (fun c1 => ?_) (fun c1 => ?_)
  · replace h := o_tt c1 h
    refine lv_iconst (v := (0:Int32)) hx hb d_Pr_add_11 (by decide) ?_
    refine lv_istore_n (lv' := [(3, .int (0:Int32)), (0, .ref (ad 54)), (1, .int x1), (2, .int x2)]) hx hb d_Pr_add_12 rfl hl (by decide) rfl (fun ls hl => ?_)
    obtain ⟨q1, hq1, h⟩ := o_bd_some h
    refine o_sim2 (AH := fun zz => o_At p l e rm_Pr_add s m _ below meth c _ o_cls D A 4 13 [] (o_cw ad ca rt Sj T0 T1 Rd Pg Pt Mk Lk Ck Jd Ld Pr) [(0, .ref (ad 54)), (1, .int x1), (2, .int x2), (3, .int zz)]) (AX := fun qq => if qq.1 = 1 then o_At p l e rm_Pr_add s m _ below meth c _ o_cls D A 4 41 [] (o_cw ad ca rt Sj T0 T1 Rd Pg Pt Mk Lk Ck Jd Ld Pr) [] else o_At p l e rm_Pr_add s m _ below meth c _ o_cls D A 4 48 [] (o_cw ad ca rt Sj T0 T1 Rd Pg Pt Mk Lk Ck Jd Ld Pr) [(0, .ref (ad 54)), (1, .int x1), (2, .int x2)]) (fun zz qq h h0 h1 => w_Pr_add_b13 hE C hDD n x1 x2 Pr Sj T0 T1 Rd Pg Pt Mk Lk Ck Jd Ld rt zz qq h h0 h1) n _ q1 hq1 ?_ _ _ _ hP hS (lv_sub hl [1, 2, 3, 0] rfl)
    by_cases c9 : q1.1 = 1
    · replace h := o_tt c9 h
      refine o_ip c9 ?_
      intro H locs ls hP hS hl
      cases h
      exact o_rv C hP hS d_Pr_add_41
    replace h := o_ff c9 h
    refine o_in_ c9 ?_
    intro H locs ls hP hS hl
    refine lv_aload_n hx hb d_Pr_add_48 rfl (lv_at hl 0 rfl) ?_
    refine o_get (v := .ref (ad 55)) C in_Pr hP 54 cw_54 rfl 0 (by decide) k_2_64 rfl rfl d_Pr_add_49 ?_
    refine lv_aload_n hx hb d_Pr_add_52 rfl (lv_at hl 0 rfl) ?_
    refine o_get (v := .int (Pr_size Pr)) C in_Pr hP 54 cw_54 rfl 2 (by decide) k_2_66 rfl rfl d_Pr_add_53 ?_
    refine lv_iload_n hx hb d_Pr_add_56 rfl (lv_at hl 1 rfl) ?_
    obtain ⟨g7, h⟩ := o_gd_some h
    refine o_iast (f := (Pr_values Pr)) (w1 := (o_cw ad ca rt Sj T0 T1 Rd Pg Pt Mk Lk Ck Jd Ld (Pr_mk (upd (Pr_values Pr) (Pr_size Pr).toNatClampNeg x1) (Pr_keywords Pr) (Pr_size Pr)))) C hP (hDD _ _ _ _ _ _ _ _ _ _ _ _ _) hS 55 43 cw_55 rfl g7 rfl d_Pr_add_57 (fun H locs hP hS => ?_)
    refine lv_aload_n hx hb d_Pr_add_58 rfl (lv_at hl 0 rfl) ?_
    refine o_get (v := .ref (ad 56)) C in_Pr hP 54 cw_54 rfl 1 (by decide) k_2_65 rfl rfl d_Pr_add_59 ?_
    refine lv_aload_n hx hb d_Pr_add_62 rfl (lv_at hl 0 rfl) ?_
    refine o_get (v := .int (Pr_size Pr)) C in_Pr hP 54 cw_54 rfl 2 (by decide) k_2_66 rfl rfl d_Pr_add_63 ?_
    refine lv_iload_n hx hb d_Pr_add_66 rfl (lv_at hl 2 rfl) ?_
    obtain ⟨g8, h⟩ := o_gd_some h
    refine o_iast (f := (Pr_keywords Pr)) (w1 := (o_cw ad ca rt Sj T0 T1 Rd Pg Pt Mk Lk Ck Jd Ld (Pr_mk (upd (Pr_values Pr) (Pr_size Pr).toNatClampNeg x1) (upd (Pr_keywords Pr) (Pr_size Pr).toNatClampNeg x2) (Pr_size Pr)))) C hP (hDD _ _ _ _ _ _ _ _ _ _ _ _ _) hS 56 44 cw_56 rfl g8 rfl d_Pr_add_67 (fun H locs hP hS => ?_)
    refine lv_aload_n hx hb d_Pr_add_68 rfl (lv_at hl 0 rfl) ?_
    refine lv_dup hx hb d_Pr_add_69 rfl ?_
    refine o_get (v := .int (Pr_size Pr)) C in_Pr hP 54 cw_54 rfl 2 (by decide) k_2_66 rfl rfl d_Pr_add_70 ?_
    refine lv_iconst (v := (1:Int32)) hx hb d_Pr_add_73 (by decide) ?_
    refine lv_iadd hx hb d_Pr_add_74 ?_
    refine o_put (v := .int ((Pr_size Pr) + (1:Int32))) (ty := .int) (w1 := (o_cw ad ca rt Sj T0 T1 Rd Pg Pt Mk Lk Ck Jd Ld (Pr_mk (upd (Pr_values Pr) (Pr_size Pr).toNatClampNeg x1) (upd (Pr_keywords Pr) (Pr_size Pr).toNatClampNeg x2) ((Pr_size Pr) + (1:Int32))))) C in_Pr t_Pr t_Pr_ok n_Pr hP (hDD _ _ _ _ _ _ _ _ _ _ _ _ _) hS 54 cw_54 rfl 2 (by decide) k_2_66 rfl rfl (by decide +kernel) rfl rfl (Nat.le_of_ble_eq_true rfl) rfl d_Pr_add_75 (fun H locs hP hS => ?_)
    cases h
    exact o_rv C hP hS d_Pr_add_78
  · replace h := o_ff c1 h
    cases h
    exact o_rv C hP hS d_Pr_add_10
set_option maxHeartbeats 4000000 in
set_option maxRecDepth 100000 in
theorem c_Jd_tell {E : (Nat → Prop) → State → Heap → Prop} {D : va_G} {ad kd sd vd xd : Nat → Nat} {ca : Nat → ClassId} (hE : o_EK E kd sd vd xd) (l : Launch) (n : Nat) (x1 : Int32) (x2 : Int32) (Pr : SPr) (Jd : SJd) (Sj : SSJ) (T0 : STx) (T1 : STx) (Rd : SRd) (Pg : SPg) (Pt : SPt) (Mk : SMk) (Lk : SLk) (Ck : SCk) (Ld : SLd) (rt : Nat) {r : SPr} (h : m_Jd_tell n x1 x2 Pr Jd = some r) : o_Cn E l D o_cls (o_tys ca) y_Jd_tell cc_Jd_tell rm_Jd_tell [.ref (ad 49), .int x1, .int x2] (o_cw ad ca rt Sj T0 T1 Rd Pg Pt Mk Lk Ck Jd Ld Pr) (o_cw ad ca rt Sj T0 T1 Rd Pg Pt Mk Lk Ck Jd Ld r) none := by
  refine o_Cn_of (by decide) (Nat.le_of_ble_eq_true rfl) ?_
  intro p e s m below meth c A ls C hD hP hS hl
  have hDD : ∀ (rt : Nat) (Sj : SSJ) (T0 : STx) (T1 : STx) (Rd : SRd) (Pg : SPg) (Pt : SPt) (Mk : SMk) (Lk : SLk) (Ck : SCk) (Jd : SJd) (Ld : SLd) (Pr : SPr), va_D A (o_cw ad ca rt Sj T0 T1 Rd Pg Pt Mk Lk Ck Jd Ld Pr) := fun _ _ _ _ _ _ _ _ _ _ _ _ _ => o_D_map hD rfl
  have hl : lv_has ls 3 [(0, .ref (ad 49)), (1, .int x1), (2, .int x2)] := hl
  unfold m_Jd_tell at h
  have C0 := C
  obtain ⟨hx, hb, -, -, -, hown, hts, hK, -, -⟩ := C0
  refine lv_aload_n hx hb d_Jd_tell_0 rfl (lv_at hl 0 rfl) ?_
  refine o_get (v := .int (Jd_silences Jd)) C in_Jd hP 49 cw_49 rfl 8 (by decide) k_2_82 rfl rfl d_Jd_tell_1 ?_
  refine lv_if_ne (tgt := 16) hx hb d_Jd_tell_4 (by decide) (fun c1 => ?_) (fun c1 => ?_)
  · replace h := o_ff c1 h
    cases h
    exact o_rv C hP hS d_Jd_tell_16
  · replace h := o_tt c1 h
    refine lv_aload_n hx hb d_Jd_tell_7 rfl (lv_at hl 0 rfl) ?_
    refine o_get (v := .ref (ad 54)) C in_Jd hP 49 cw_49 rfl 6 (by decide) k_2_80 rfl rfl d_Jd_tell_8 ?_
    refine lv_iload_n hx hb d_Jd_tell_11 rfl (lv_at hl 1 rfl) ?_
    refine lv_iload_n hx hb d_Jd_tell_12 rfl (lv_at hl 2 rfl) ?_
    obtain ⟨q1, hq1, h⟩ := o_bd_some h
    refine o_V (st1 := []) (w1 := (o_cw ad ca rt Sj T0 T1 Rd Pg Pt Mk Lk Ck Jd Ld q1)) hE.1 C (c_Pr_add hE l n x1 x2 Pr Sj T0 T1 Rd Pg Pt Mk Lk Ck Jd Ld rt hq1) hP (hDD _ _ _ _ _ _ _ _ _ _ _ _ _) hS hl.1 rfl cw_54 k_6_21 k_6_22 k_6_23 k_1_11 k_6_24 hv_Pr_add rfl rfl ⟨(Nat.le_of_ble_eq_true rfl), (Nat.le_of_ble_eq_true rfl)⟩ rfl (Nat.le_of_ble_eq_true rfl) ⟨Nat.zero_le _, Nat.zero_le _⟩ rfl d_Jd_tell_13 (fun H locs hP hS => ?_)
    cases h
    exact o_rv C hP hS d_Jd_tell_16
set_option maxHeartbeats 4000000 in
set_option maxRecDepth 100000 in
theorem c_Kw_comesLast {E : (Nat → Prop) → State → Heap → Prop} {D : va_G} {ad kd sd vd xd : Nat → Nat} {ca : Nat → ClassId} (hE : o_EK E kd sd vd xd) (l : Launch) (x0 : Nat) (gx0 : o_kb x0 = true) (Sj : SSJ) (T0 : STx) (T1 : STx) (Rd : SRd) (Pg : SPg) (Pt : SPt) (Mk : SMk) (Lk : SLk) (Ck : SCk) (Jd : SJd) (Ld : SLd) (Pr : SPr) (rt : Nat) {r : Int32} (h : m_Kw_comesLast x0 = some r) : o_Cn E l D o_cls (o_tys ca) y_Kw_comesLast cc_Kw_comesLast rm_Kw_comesLast [.ref (kd x0)] (o_cw ad ca rt Sj T0 T1 Rd Pg Pt Mk Lk Ck Jd Ld Pr) (o_cw ad ca rt Sj T0 T1 Rd Pg Pt Mk Lk Ck Jd Ld Pr) (some (.int r)) := by
  refine o_Cn_of (by decide) (Nat.le_of_ble_eq_true rfl) ?_
  intro p e s m below meth c A ls C hD hP hS hl
  have hDD : ∀ (rt : Nat) (Sj : SSJ) (T0 : STx) (T1 : STx) (Rd : SRd) (Pg : SPg) (Pt : SPt) (Mk : SMk) (Lk : SLk) (Ck : SCk) (Jd : SJd) (Ld : SLd) (Pr : SPr), va_D A (o_cw ad ca rt Sj T0 T1 Rd Pg Pt Mk Lk Ck Jd Ld Pr) := fun _ _ _ _ _ _ _ _ _ _ _ _ _ => o_D_map hD rfl
  have hl : lv_has ls 1 [(0, .ref (kd x0))] := hl
  unfold m_Kw_comesLast at h
  have C0 := C
  obtain ⟨hx, hb, -, -, -, hown, hts, hK, -, -⟩ := C0
  refine lv_aload_n hx hb d_Kw_comesLast_0 rfl (lv_at hl 0 rfl) ?_
  refine va_gets (v := .ref (kd 9)) hx hb ((hE.2.2.1 _ _ _ C.2.2.2.2.2.2.2.2.2).1 9 (by decide)).1 hS hown (hts _ k_6_33) (fun _ h9 => h9) d_Kw_comesLast_1 ?_
  refine lv_acmp_eq (rx := some (kd x0)) (ry := some (kd 9)) (tgt := 14) hx hb d_Kw_comesLast_4 (by decide) (fun c1 => ?_) (fun c1 => ?_)
  · replace h := o_tt (o_ki hE C gx0 rfl c1) h
    refine lv_iconst (v := (1:Int32)) hx hb d_Kw_comesLast_14 (by decide) ?_
    refine lv_goto (tgt := 19) hx hb d_Kw_comesLast_15 (by decide) ?_
    cases h
    exact o_rz (v := (1:Int32)) C o_nar1 hP hS d_Kw_comesLast_19
  · replace h := o_ff (o_kn_ c1) h
    refine lv_aload_n hx hb d_Kw_comesLast_7 rfl (lv_at hl 0 rfl) ?_
    refine va_gets (v := .ref (kd 10)) hx hb ((hE.2.2.1 _ _ _ C.2.2.2.2.2.2.2.2.2).1 10 (by decide)).1 hS hown (hts _ k_6_35) (fun _ h9 => h9) d_Kw_comesLast_8 ?_
    refine lv_acmp_ne (rx := some (kd x0)) (ry := some (kd 10)) (tgt := 18) hx hb d_Kw_comesLast_11 (by decide) (fun c2 => ?_) (fun c2 => ?_)
    · replace h := o_ff (o_kn_ c2) h
      refine lv_iconst (v := (0:Int32)) hx hb d_Kw_comesLast_18 (by decide) ?_
      cases h
      exact o_rz (v := (0:Int32)) C o_nar0 hP hS d_Kw_comesLast_19
    · replace h := o_tt (o_ki hE C gx0 rfl c2) h
      refine lv_iconst (v := (1:Int32)) hx hb d_Kw_comesLast_14 (by decide) ?_
      refine lv_goto (tgt := 19) hx hb d_Kw_comesLast_15 (by decide) ?_
      cases h
      exact o_rz (v := (1:Int32)) C o_nar1 hP hS d_Kw_comesLast_19
set_option maxHeartbeats 4000000 in
set_option maxRecDepth 100000 in
theorem c_Pr_size {E : (Nat → Prop) → State → Heap → Prop} {D : va_G} {ad kd sd vd xd : Nat → Nat} {ca : Nat → ClassId} (hE : o_EK E kd sd vd xd) (l : Launch)  (Pr : SPr) (Sj : SSJ) (T0 : STx) (T1 : STx) (Rd : SRd) (Pg : SPg) (Pt : SPt) (Mk : SMk) (Lk : SLk) (Ck : SCk) (Jd : SJd) (Ld : SLd) (rt : Nat) {r : Int32} (h : m_Pr_size Pr = some r) : o_Cn E l D o_cls (o_tys ca) y_Pr_size cc_Pr_size rm_Pr_size [.ref (ad 54)] (o_cw ad ca rt Sj T0 T1 Rd Pg Pt Mk Lk Ck Jd Ld Pr) (o_cw ad ca rt Sj T0 T1 Rd Pg Pt Mk Lk Ck Jd Ld Pr) (some (.int r)) := by
  refine o_Cn_of (by decide) (Nat.le_of_ble_eq_true rfl) ?_
  intro p e s m below meth c A ls C hD hP hS hl
  have hDD : ∀ (rt : Nat) (Sj : SSJ) (T0 : STx) (T1 : STx) (Rd : SRd) (Pg : SPg) (Pt : SPt) (Mk : SMk) (Lk : SLk) (Ck : SCk) (Jd : SJd) (Ld : SLd) (Pr : SPr), va_D A (o_cw ad ca rt Sj T0 T1 Rd Pg Pt Mk Lk Ck Jd Ld Pr) := fun _ _ _ _ _ _ _ _ _ _ _ _ _ => o_D_map hD rfl
  have hl : lv_has ls 1 [(0, .ref (ad 54))] := hl
  unfold m_Pr_size at h
  have C0 := C
  obtain ⟨hx, hb, -, -, -, hown, hts, hK, -, -⟩ := C0
  refine lv_aload_n hx hb d_Pr_size_0 rfl (lv_at hl 0 rfl) ?_
  refine o_get (v := .int (Pr_size Pr)) C in_Pr hP 54 cw_54 rfl 2 (by decide) k_2_66 rfl rfl d_Pr_size_1 ?_
  cases h
  exact o_ri (v := (Pr_size Pr)) C hP hS d_Pr_size_4
set_option maxHeartbeats 4000000 in
set_option maxRecDepth 100000 in
theorem c_Kw_isSilent {E : (Nat → Prop) → State → Heap → Prop} {D : va_G} {ad kd sd vd xd : Nat → Nat} {ca : Nat → ClassId} (hE : o_EK E kd sd vd xd) (l : Launch) (x0 : Nat) (gx0 : o_kb x0 = true) (Sj : SSJ) (T0 : STx) (T1 : STx) (Rd : SRd) (Pg : SPg) (Pt : SPt) (Mk : SMk) (Lk : SLk) (Ck : SCk) (Jd : SJd) (Ld : SLd) (Pr : SPr) (rt : Nat) {r : Int32} (h : m_Kw_isSilent x0 = some r) : o_Cn E l D o_cls (o_tys ca) y_Kw_isSilent cc_Kw_isSilent rm_Kw_isSilent [.ref (kd x0)] (o_cw ad ca rt Sj T0 T1 Rd Pg Pt Mk Lk Ck Jd Ld Pr) (o_cw ad ca rt Sj T0 T1 Rd Pg Pt Mk Lk Ck Jd Ld Pr) (some (.int r)) := by
  refine o_Cn_of (by decide) (Nat.le_of_ble_eq_true rfl) ?_
  intro p e s m below meth c A ls C hD hP hS hl
  have hDD : ∀ (rt : Nat) (Sj : SSJ) (T0 : STx) (T1 : STx) (Rd : SRd) (Pg : SPg) (Pt : SPt) (Mk : SMk) (Lk : SLk) (Ck : SCk) (Jd : SJd) (Ld : SLd) (Pr : SPr), va_D A (o_cw ad ca rt Sj T0 T1 Rd Pg Pt Mk Lk Ck Jd Ld Pr) := fun _ _ _ _ _ _ _ _ _ _ _ _ _ => o_D_map hD rfl
  have hl : lv_has ls 1 [(0, .ref (kd x0))] := hl
  unfold m_Kw_isSilent at h
  have C0 := C
  obtain ⟨hx, hb, -, -, -, hown, hts, hK, -, -⟩ := C0
  refine lv_aload_n hx hb d_Kw_isSilent_0 rfl (lv_at hl 0 rfl) ?_
  refine va_gets (v := .ref (kd 1)) hx hb ((hE.2.2.1 _ _ _ C.2.2.2.2.2.2.2.2.2).1 1 (by decide)).1 hS hown (hts _ k_6_51) (fun _ h9 => h9) d_Kw_isSilent_1 ?_
  refine lv_acmp_eq (rx := some (kd x0)) (ry := some (kd 1)) (tgt := 21) hx hb d_Kw_isSilent_4 (by decide) (fun c1 => ?_) (fun c1 => ?_)
  · replace h := o_tt (o_ki hE C gx0 rfl c1) h
    refine lv_iconst (v := (1:Int32)) hx hb d_Kw_isSilent_21 (by decide) ?_
    refine lv_goto (tgt := 26) hx hb d_Kw_isSilent_22 (by decide) ?_
    cases h
    exact o_rz (v := (1:Int32)) C o_nar1 hP hS d_Kw_isSilent_26
  · replace h := o_ff (o_kn_ c1) h
    refine lv_aload_n hx hb d_Kw_isSilent_7 rfl (lv_at hl 0 rfl) ?_
    refine va_gets (v := .ref (kd 2)) hx hb ((hE.2.2.1 _ _ _ C.2.2.2.2.2.2.2.2.2).1 2 (by decide)).1 hS hown (hts _ k_6_53) (fun _ h9 => h9) d_Kw_isSilent_8 ?_
    refine lv_acmp_eq (rx := some (kd x0)) (ry := some (kd 2)) (tgt := 21) hx hb d_Kw_isSilent_11 (by decide) (fun c2 => ?_) (fun c2 => ?_)
    · replace h := o_tt (o_ki hE C gx0 rfl c2) h
      refine lv_iconst (v := (1:Int32)) hx hb d_Kw_isSilent_21 (by decide) ?_
      refine lv_goto (tgt := 26) hx hb d_Kw_isSilent_22 (by decide) ?_
      cases h
      exact o_rz (v := (1:Int32)) C o_nar1 hP hS d_Kw_isSilent_26
    · replace h := o_ff (o_kn_ c2) h
      refine lv_aload_n hx hb d_Kw_isSilent_14 rfl (lv_at hl 0 rfl) ?_
      refine va_gets (v := .ref (kd 6)) hx hb ((hE.2.2.1 _ _ _ C.2.2.2.2.2.2.2.2.2).1 6 (by decide)).1 hS hown (hts _ k_6_54) (fun _ h9 => h9) d_Kw_isSilent_15 ?_
      refine lv_acmp_ne (rx := some (kd x0)) (ry := some (kd 6)) (tgt := 25) hx hb d_Kw_isSilent_18 (by decide) (fun c3 => ?_) (fun c3 => ?_)
      · replace h := o_ff (o_kn_ c3) h
        refine lv_iconst (v := (0:Int32)) hx hb d_Kw_isSilent_25 (by decide) ?_
        cases h
        exact o_rz (v := (0:Int32)) C o_nar0 hP hS d_Kw_isSilent_26
      · replace h := o_tt (o_ki hE C gx0 rfl c3) h
        refine lv_iconst (v := (1:Int32)) hx hb d_Kw_isSilent_21 (by decide) ?_
        refine lv_goto (tgt := 26) hx hb d_Kw_isSilent_22 (by decide) ?_
        cases h
        exact o_rz (v := (1:Int32)) C o_nar1 hP hS d_Kw_isSilent_26
set_option maxHeartbeats 4000000 in
set_option maxRecDepth 100000 in
theorem w_Mk_find_b12 {E : (Nat → Prop) → State → Heap → Prop} {p : Program} {l : Launch} {e : Env} {s : State} {m : MethodId} {args : Array Value} {below : List Frame} {meth : Method} {c : Code} {D : va_G} {ad kd sd vd xd : Nat → Nat} {ca : Nat → ClassId} {A : Nat → Prop} {Q : State → Prop} (hE : o_EK E kd sd vd xd) (C : o_Cx E p s m args meth c D o_cls (o_tys ca) "SchemaJudge$Marks" b_Mk_find (some .int) 5 cc_Mk_find A) (hDD : ∀ (rt : Nat) (Sj : SSJ) (T0 : STx) (T1 : STx) (Rd : SRd) (Pg : SPg) (Pt : SPt) (Mk : SMk) (Lk : SLk) (Ck : SCk) (Jd : SJd) (Ld : SLd) (Pr : SPr), va_D A (o_cw ad ca rt Sj T0 T1 Rd Pg Pt Mk Lk Ck Jd Ld Pr)) (n : Nat) (u12_x1 : Int32) (u12_x2 : Nat) (gu12_x2 : o_kb u12_x2 = true) (u12_T0 : STx) (u12_Mk : SMk) (u12_Sj : SSJ) (u12_T1 : STx) (u12_Rd : SRd) (u12_Pg : SPg) (u12_Pt : SPt) (u12_Lk : SLk) (u12_Ck : SCk) (u12_Jd : SJd) (u12_Ld : SLd) (u12_Pr : SPr) (u12_rt : Nat) (z : Int32 × Int32) (q : Nat × Int32 × Int32) (h : m_Mk_find_b12 n u12_x1 u12_x2 u12_T0 u12_Mk z = some q) (h0 : q.1 = 0 → o_At p l e rm_Mk_find s m args below meth c Q o_cls D A 5 12 [] (o_cw ad ca u12_rt u12_Sj u12_T0 u12_T1 u12_Rd u12_Pg u12_Pt u12_Mk u12_Lk u12_Ck u12_Jd u12_Ld u12_Pr) [(0, .ref (ad 39)), (1, .int u12_x1), (2, .ref (kd u12_x2)), (3, .int q.2.1), (4, .int q.2.2)]) (h1 : q.1 ≠ 0 → (if q.1 = 1 then o_At p l e rm_Mk_find s m args below meth c Q o_cls D A 5 34 [] (o_cw ad ca u12_rt u12_Sj u12_T0 u12_T1 u12_Rd u12_Pg u12_Pt u12_Mk u12_Lk u12_Ck u12_Jd u12_Ld u12_Pr) [(3, .int q.2.1)] else o_At p l e rm_Mk_find s m args below meth c Q o_cls D A 5 51 [] (o_cw ad ca u12_rt u12_Sj u12_T0 u12_T1 u12_Rd u12_Pg u12_Pt u12_Mk u12_Lk u12_Ck u12_Jd u12_Ld u12_Pr) [])) : o_At p l e rm_Mk_find s m args below meth c Q o_cls D A 5 12 [] (o_cw ad ca u12_rt u12_Sj u12_T0 u12_T1 u12_Rd u12_Pg u12_Pt u12_Mk u12_Lk u12_Ck u12_Jd u12_Ld u12_Pr) [(0, .ref (ad 39)), (1, .int u12_x1), (2, .ref (kd u12_x2)), (3, .int z.1), (4, .int z.2)] := by
  unfold m_Mk_find_b12 at h
  intro H locs ls hP hS hl
  have C0 := C
  obtain ⟨hx, hb, -, -, -, hown, hts, hK, -, -⟩ := C0
  refine lv_iload hx hb d_Mk_find_12 (lv_at hl 4 rfl) ?_
  refine lv_aload_n hx hb d_Mk_find_14 rfl (lv_at hl 0 rfl) ?_
  refine o_get (v := .ref (ad 1)) C in_Mk hP 39 cw_39 rfl 0 (by decide) k_1_206 rfl rfl d_Mk_find_15 ?_
  refine lv_iload_n hx hb d_Mk_find_18 rfl (lv_at hl 1 rfl) ?_
  obtain ⟨q2, hq2, h⟩ := o_bd_some h
  refine o_V (st1 := [.int q2, .int z.2]) (w1 := (o_cw ad ca u12_rt u12_Sj u12_T0 u12_T1 u12_Rd u12_Pg u12_Pt u12_Mk u12_Lk u12_Ck u12_Jd u12_Ld u12_Pr)) hE.1 C (c_Tx_size_0 hE l u12_x1 u12_T0 u12_Sj u12_T1 u12_Rd u12_Pg u12_Pt u12_Mk u12_Lk u12_Ck u12_Jd u12_Ld u12_Pr u12_rt hq2) hP (hDD _ _ _ _ _ _ _ _ _ _ _ _ _) hS hl.1 rfl cw_1 k_5_220 k_3_215 k_3_216 k_1_2 k_3_217 hv_Tx_size rfl rfl ⟨(Nat.le_of_ble_eq_true rfl), (Nat.le_of_ble_eq_true rfl)⟩ rfl (Nat.le_of_ble_eq_true rfl) ⟨Nat.zero_le _, Nat.zero_le _⟩ rfl d_Mk_find_19 (fun H locs hP hS => ?_)
  refine lv_icmp_ge (tgt := 51) hx hb d_Mk_find_22 (by decide) (fun c1 => ?_) (fun c1 => ?_)
  · replace h := o_tt c1 h
    cases h
    exact h1 (Nat.succ_ne_zero 1) _ _ _ hP hS (lv_sub hl [] rfl)
  · replace h := o_ff c1 h
    refine lv_aload_n hx hb d_Mk_find_25 rfl (lv_at hl 0 rfl) ?_
    refine lv_iload_n hx hb d_Mk_find_26 rfl (lv_at hl 3 rfl) ?_
    obtain ⟨q3, hq3, h⟩ := o_bd_some h
    obtain ⟨g2, h⟩ := o_gd_some h
    refine o_V (st1 := [.ref (kd q3)]) (w1 := (o_cw ad ca u12_rt u12_Sj u12_T0 u12_T1 u12_Rd u12_Pg u12_Pt u12_Mk u12_Lk u12_Ck u12_Jd u12_Ld u12_Pr)) hE.1 C (c_Mk_keyword hE l z.1 u12_Mk u12_Sj u12_T0 u12_T1 u12_Rd u12_Pg u12_Pt u12_Lk u12_Ck u12_Jd u12_Ld u12_Pr u12_rt hq3) hP (hDD _ _ _ _ _ _ _ _ _ _ _ _ _) hS hl.1 rfl cw_39 k_6_77 k_5_123 k_5_124 k_1_6 k_5_125 hv_Mk_keyword rfl rfl ⟨(Nat.le_of_ble_eq_true rfl), (Nat.le_of_ble_eq_true rfl)⟩ rfl (Nat.le_of_ble_eq_true rfl) ⟨Nat.zero_le _, Nat.zero_le _⟩ rfl d_Mk_find_27 (fun H locs hP hS => ?_)
    refine lv_aload_n hx hb d_Mk_find_30 rfl (lv_at hl 2 rfl) ?_
    refine lv_acmp_ne (rx := some (kd q3)) (ry := some (kd u12_x2)) (tgt := 36) hx hb d_Mk_find_31 (by decide) (fun c3 => ?_) (fun c3 => ?_)
    · replace h := o_ff (o_kn_ c3) h
      refine lv_aload_n hx hb d_Mk_find_36 rfl (lv_at hl 0 rfl) ?_
      refine o_get (v := .ref (ad 1)) C in_Mk hP 39 cw_39 rfl 0 (by decide) k_1_206 rfl rfl d_Mk_find_37 ?_
      refine lv_iload_n hx hb d_Mk_find_40 rfl (lv_at hl 3 rfl) ?_
      obtain ⟨q4, hq4, h⟩ := o_bd_some h
      refine o_V (st1 := [.int q4]) (w1 := (o_cw ad ca u12_rt u12_Sj u12_T0 u12_T1 u12_Rd u12_Pg u12_Pt u12_Mk u12_Lk u12_Ck u12_Jd u12_Ld u12_Pr)) hE.1 C (c_Tx_nextChild_0 hE l z.1 u12_T0 u12_Sj u12_T1 u12_Rd u12_Pg u12_Pt u12_Mk u12_Lk u12_Ck u12_Jd u12_Ld u12_Pr u12_rt hq4) hP (hDD _ _ _ _ _ _ _ _ _ _ _ _ _) hS hl.1 rfl cw_1 k_6_78 k_3_222 k_3_223 k_1_2 k_3_224 hv_Tx_nextChild rfl rfl ⟨(Nat.le_of_ble_eq_true rfl), (Nat.le_of_ble_eq_true rfl)⟩ rfl (Nat.le_of_ble_eq_true rfl) ⟨Nat.zero_le _, Nat.zero_le _⟩ rfl d_Mk_find_41 (fun H locs hP hS => ?_)
      refine lv_istore_n (lv' := [(3, .int q4), (0, .ref (ad 39)), (1, .int u12_x1), (2, .ref (kd u12_x2)), (4, .int z.2)]) hx hb d_Mk_find_44 rfl hl (by decide) rfl (fun ls hl => ?_)
      obtain ⟨x4_45, ex4_45⟩ : ∃ y : Int32, y = z.2 + (1:Int32) := ⟨_, rfl⟩
      replace h := o_nm_at ex4_45 h
      refine lv_iinc (v := x4_45) (lv' := [(4, .int x4_45), (3, .int q4), (0, .ref (ad 39)), (1, .int u12_x1), (2, .ref (kd u12_x2))]) hx hb d_Mk_find_45 hl (k := 4) rfl (by rw [ex4_45]; rfl) (by decide) rfl (fun ls hl => ?_)
      refine lv_goto (tgt := 12) hx hb d_Mk_find_48 (by decide) ?_
      cases h
      exact h0 rfl _ _ _ hP hS (lv_sub hl [2, 3, 4, 1, 0] rfl)
    · replace h := o_tt (o_ki hE C g2 gu12_x2 c3) h
      cases h
      exact h1 (Nat.succ_ne_zero 0) _ _ _ hP hS (lv_sub hl [3] rfl)
set_option maxHeartbeats 4000000 in
set_option maxRecDepth 100000 in
theorem c_Mk_find {E : (Nat → Prop) → State → Heap → Prop} {D : va_G} {ad kd sd vd xd : Nat → Nat} {ca : Nat → ClassId} (hE : o_EK E kd sd vd xd) (l : Launch) (n : Nat) (x1 : Int32) (x2 : Nat) (gx2 : o_kb x2 = true) (T0 : STx) (Mk : SMk) (Sj : SSJ) (T1 : STx) (Rd : SRd) (Pg : SPg) (Pt : SPt) (Lk : SLk) (Ck : SCk) (Jd : SJd) (Ld : SLd) (Pr : SPr) (rt : Nat) {r : Int32} (h : m_Mk_find n x1 x2 T0 Mk = some r) : o_Cn E l D o_cls (o_tys ca) y_Mk_find cc_Mk_find rm_Mk_find [.ref (ad 39), .int x1, .ref (kd x2)] (o_cw ad ca rt Sj T0 T1 Rd Pg Pt Mk Lk Ck Jd Ld Pr) (o_cw ad ca rt Sj T0 T1 Rd Pg Pt Mk Lk Ck Jd Ld Pr) (some (.int r)) := by
  refine o_Cn_of (by decide) (Nat.le_of_ble_eq_true rfl) ?_
  intro p e s m below meth c A ls C hD hP hS hl
  have hDD : ∀ (rt : Nat) (Sj : SSJ) (T0 : STx) (T1 : STx) (Rd : SRd) (Pg : SPg) (Pt : SPt) (Mk : SMk) (Lk : SLk) (Ck : SCk) (Jd : SJd) (Ld : SLd) (Pr : SPr), va_D A (o_cw ad ca rt Sj T0 T1 Rd Pg Pt Mk Lk Ck Jd Ld Pr) := fun _ _ _ _ _ _ _ _ _ _ _ _ _ => o_D_map hD rfl
  have hl : lv_has ls 5 [(0, .ref (ad 39)), (1, .int x1), (2, .ref (kd x2))] := hl
  unfold m_Mk_find at h
  have C0 := C
  obtain ⟨hx, hb, -, -, -, hown, hts, hK, -, -⟩ := C0
  refine lv_aload_n hx hb d_Mk_find_0 rfl (lv_at hl 0 rfl) ?_
  refine o_get (v := .ref (ad 1)) C in_Mk hP 39 cw_39 rfl 0 (by decide) k_1_206 rfl rfl d_Mk_find_1 ?_
  refine lv_iload_n hx hb d_Mk_find_4 rfl (lv_at hl 1 rfl) ?_
  obtain ⟨q1, hq1, h⟩ := o_bd_some h
  refine o_V (st1 := [.int q1]) (w1 := (o_cw ad ca rt Sj T0 T1 Rd Pg Pt Mk Lk Ck Jd Ld Pr)) hE.1 C (c_Tx_firstChild_0 hE l x1 T0 Sj T1 Rd Pg Pt Mk Lk Ck Jd Ld Pr rt hq1) hP (hDD _ _ _ _ _ _ _ _ _ _ _ _ _) hS hl.1 rfl cw_1 k_5_225 k_3_211 k_3_212 k_1_2 k_3_213 hv_Tx_firstChild rfl rfl ⟨(Nat.le_of_ble_eq_true rfl), (Nat.le_of_ble_eq_true rfl)⟩ rfl (Nat.le_of_ble_eq_true rfl) ⟨Nat.zero_le _, Nat.zero_le _⟩ rfl d_Mk_find_5 (fun H locs hP hS => ?_)
  refine lv_istore_n (lv' := [(3, .int q1), (0, .ref (ad 39)), (1, .int x1), (2, .ref (kd x2))]) hx hb d_Mk_find_8 rfl hl (by decide) rfl (fun ls hl => ?_)
  refine lv_iconst (v := (0:Int32)) hx hb d_Mk_find_9 (by decide) ?_
  refine lv_istore (lv' := [(4, .int (0:Int32)), (3, .int q1), (0, .ref (ad 39)), (1, .int x1), (2, .ref (kd x2))]) hx hb d_Mk_find_10 hl (by decide) rfl (fun ls hl => ?_)
  obtain ⟨q5, hq5, h⟩ := o_bd_some h
  refine o_sim2 (AH := fun zz => o_At p l e rm_Mk_find s m _ below meth c _ o_cls D A 5 12 [] (o_cw ad ca rt Sj T0 T1 Rd Pg Pt Mk Lk Ck Jd Ld Pr) [(0, .ref (ad 39)), (1, .int x1), (2, .ref (kd x2)), (3, .int zz.1), (4, .int zz.2)]) (AX := fun qq => if qq.1 = 1 then o_At p l e rm_Mk_find s m _ below meth c _ o_cls D A 5 34 [] (o_cw ad ca rt Sj T0 T1 Rd Pg Pt Mk Lk Ck Jd Ld Pr) [(3, .int qq.2.1)] else o_At p l e rm_Mk_find s m _ below meth c _ o_cls D A 5 51 [] (o_cw ad ca rt Sj T0 T1 Rd Pg Pt Mk Lk Ck Jd Ld Pr) []) (fun zz qq h h0 h1 => w_Mk_find_b12 hE C hDD n x1 x2 gx2 T0 Mk Sj T1 Rd Pg Pt Lk Ck Jd Ld Pr rt zz qq h h0 h1) n _ q5 hq5 ?_ _ _ _ hP hS (lv_sub hl [2, 3, 4, 1, 0] rfl)
  by_cases c4 : q5.1 = 1
  · replace h := o_tt c4 h
    refine o_ip c4 ?_
    intro H locs ls hP hS hl
    refine lv_iload_n hx hb d_Mk_find_34 rfl (lv_at hl 0 rfl) ?_
    cases h
    exact o_ri C hP hS d_Mk_find_35
  replace h := o_ff c4 h
  refine o_in_ c4 ?_
  intro H locs ls hP hS hl
  refine lv_iconst (v := (-1:Int32)) hx hb d_Mk_find_51 (by decide) ?_
  cases h
  exact o_ri (v := (-1:Int32)) C hP hS d_Mk_find_52
set_option maxHeartbeats 4000000 in
set_option maxRecDepth 100000 in
theorem c_Pg_push {E : (Nat → Prop) → State → Heap → Prop} {D : va_G} {ad kd sd vd xd : Nat → Nat} {ca : Nat → ClassId} (hE : o_EK E kd sd vd xd) (l : Launch) (x1 : Int32) (x2 : Int32) (Pg : SPg) (Sj : SSJ) (T0 : STx) (T1 : STx) (Rd : SRd) (Pt : SPt) (Mk : SMk) (Lk : SLk) (Ck : SCk) (Jd : SJd) (Ld : SLd) (Pr : SPr) (rt : Nat) {r : SPg} (h : m_Pg_push x1 x2 Pg = some r) : o_Cn E l D o_cls (o_tys ca) y_Pg_push cc_Pg_push rm_Pg_push [.ref (ad 25), .int x1, .int x2] (o_cw ad ca rt Sj T0 T1 Rd Pg Pt Mk Lk Ck Jd Ld Pr) (o_cw ad ca rt Sj T0 T1 Rd r Pt Mk Lk Ck Jd Ld Pr) none := by
  refine o_Cn_of (by decide) (Nat.le_of_ble_eq_true rfl) ?_
  intro p e s m below meth c A ls C hD hP hS hl
  have hDD : ∀ (rt : Nat) (Sj : SSJ) (T0 : STx) (T1 : STx) (Rd : SRd) (Pg : SPg) (Pt : SPt) (Mk : SMk) (Lk : SLk) (Ck : SCk) (Jd : SJd) (Ld : SLd) (Pr : SPr), va_D A (o_cw ad ca rt Sj T0 T1 Rd Pg Pt Mk Lk Ck Jd Ld Pr) := fun _ _ _ _ _ _ _ _ _ _ _ _ _ => o_D_map hD rfl
  have hl : lv_has ls 3 [(0, .ref (ad 25)), (1, .int x1), (2, .int x2)] := hl
  unfold m_Pg_push at h
  have C0 := C
  obtain ⟨hx, hb, -, -, -, hown, hts, hK, -, -⟩ := C0
  refine lv_iload_n hx hb d_Pg_push_0 rfl (lv_at hl 1 rfl) ?_
  refine lv_if_lt (tgt := 58) hx hb d_Pg_push_1 (by decide) (fun c1 => ?_) (fun c1 => ?_)
  · replace h := o_tt c1 h
    cases h
    exact o_rv C hP hS d_Pg_push_58
  · replace h := o_ff c1 h
    refine lv_iload_n hx hb d_Pg_push_4 rfl (lv_at hl 1 rfl) ?_
    refine lv_sipush (v := (1300:Int32)) hx hb d_Pg_push_5 (by decide) ?_
    refine lv_icmp_ge (tgt := 58) hx hb d_Pg_push_8 (by decide) (fun c2 => ?_) (fun c2 => ?_)
    · replace h := o_tt c2 h
      cases h
      exact o_rv C hP hS d_Pg_push_58
    · replace h := o_ff c2 h
      refine lv_aload_n hx hb d_Pg_push_11 rfl (lv_at hl 0 rfl) ?_
      refine o_get (v := .ref (ad 29)) C in_Pg hP 25 cw_25 rfl 5 (by decide) k_1_125 rfl rfl d_Pg_push_12 ?_
      refine lv_iload_n hx hb d_Pg_push_15 rfl (lv_at hl 1 rfl) ?_
      obtain ⟨g3, h⟩ := o_gd_some h
      refine o_iald (f := (Pg_rounds Pg)) C hP 29 24 cw_29 rfl g3 d_Pg_push_16 ?_
      refine lv_iload_n hx hb d_Pg_push_17 rfl (lv_at hl 2 rfl) ?_
      refine lv_icmp_eq (tgt := 58) hx hb d_Pg_push_18 (by decide) (fun c4 => ?_) (fun c4 => ?_)
      · replace h := o_tt c4 h
        cases h
        exact o_rv C hP hS d_Pg_push_58
      · replace h := o_ff c4 h
        refine lv_aload_n hx hb d_Pg_push_21 rfl (lv_at hl 0 rfl) ?_
        refine o_get (v := .int (Pg_top Pg)) C in_Pg hP 25 cw_25 rfl 7 (by decide) k_1_127 rfl rfl d_Pg_push_22 ?_
        refine lv_sipush (v := (1300:Int32)) hx hb d_Pg_push_25 (by decide) ?_
        refine lv_icmp_ge (tgt := 58) hx hb d_Pg_push_28 (by decide) (fun c5 => ?_) (fun c5 => ?_)
        · replace h := o_tt c5 h
          cases h
          exact o_rv C hP hS d_Pg_push_58
        · replace h := o_ff c5 h
          refine lv_aload_n hx hb d_Pg_push_31 rfl (lv_at hl 0 rfl) ?_
          refine o_get (v := .ref (ad 29)) C in_Pg hP 25 cw_25 rfl 5 (by decide) k_1_125 rfl rfl d_Pg_push_32 ?_
          refine lv_iload_n hx hb d_Pg_push_35 rfl (lv_at hl 1 rfl) ?_
          refine lv_iload_n hx hb d_Pg_push_36 rfl (lv_at hl 2 rfl) ?_
          obtain ⟨g6, h⟩ := o_gd_some h
          refine o_iast (f := (Pg_rounds Pg)) (w1 := (o_cw ad ca rt Sj T0 T1 Rd (Pg_mk (Pg_operations Pg) (Pg_arguments Pg) (Pg_length Pg) (Pg_sets Pg) (Pg_setsUsed Pg) (upd (Pg_rounds Pg) x1.toNatClampNeg x2) (Pg_stack Pg) (Pg_top Pg) (Pg_waiting Pg) (Pg_waitingCount Pg) (Pg_moved Pg)) Pt Mk Lk Ck Jd Ld Pr)) C hP (hDD _ _ _ _ _ _ _ _ _ _ _ _ _) hS 29 24 cw_29 rfl g6 rfl d_Pg_push_37 (fun H locs hP hS => ?_)
          refine lv_aload_n hx hb d_Pg_push_38 rfl (lv_at hl 0 rfl) ?_
          refine o_get (v := .ref (ad 30)) C in_Pg hP 25 cw_25 rfl 6 (by decide) k_1_126 rfl rfl d_Pg_push_39 ?_
          refine lv_aload_n hx hb d_Pg_push_42 rfl (lv_at hl 0 rfl) ?_
          refine o_get (v := .int (Pg_top Pg)) C in_Pg hP 25 cw_25 rfl 7 (by decide) k_1_127 rfl rfl d_Pg_push_43 ?_
          refine lv_iload_n hx hb d_Pg_push_46 rfl (lv_at hl 1 rfl) ?_
          obtain ⟨g7, h⟩ := o_gd_some h
          refine o_iast (f := (Pg_stack Pg)) (w1 := (o_cw ad ca rt Sj T0 T1 Rd (Pg_mk (Pg_operations Pg) (Pg_arguments Pg) (Pg_length Pg) (Pg_sets Pg) (Pg_setsUsed Pg) (upd (Pg_rounds Pg) x1.toNatClampNeg x2) (upd (Pg_stack Pg) (Pg_top Pg).toNatClampNeg x1) (Pg_top Pg) (Pg_waiting Pg) (Pg_waitingCount Pg) (Pg_moved Pg)) Pt Mk Lk Ck Jd Ld Pr)) C hP (hDD _ _ _ _ _ _ _ _ _ _ _ _ _) hS 30 25 cw_30 rfl g7 rfl d_Pg_push_47 (fun H locs hP hS => ?_)
          refine lv_aload_n hx hb d_Pg_push_48 rfl (lv_at hl 0 rfl) ?_
          refine lv_dup hx hb d_Pg_push_49 rfl ?_
          refine o_get (v := .int (Pg_top Pg)) C in_Pg hP 25 cw_25 rfl 7 (by decide) k_1_127 rfl rfl d_Pg_push_50 ?_
          refine lv_iconst (v := (1:Int32)) hx hb d_Pg_push_53 (by decide) ?_
          refine lv_iadd hx hb d_Pg_push_54 ?_
          refine o_put (v := .int ((Pg_top Pg) + (1:Int32))) (ty := .int) (w1 := (o_cw ad ca rt Sj T0 T1 Rd (Pg_mk (Pg_operations Pg) (Pg_arguments Pg) (Pg_length Pg) (Pg_sets Pg) (Pg_setsUsed Pg) (upd (Pg_rounds Pg) x1.toNatClampNeg x2) (upd (Pg_stack Pg) (Pg_top Pg).toNatClampNeg x1) ((Pg_top Pg) + (1:Int32)) (Pg_waiting Pg) (Pg_waitingCount Pg) (Pg_moved Pg)) Pt Mk Lk Ck Jd Ld Pr)) C in_Pg t_Pg t_Pg_ok n_Pg hP (hDD _ _ _ _ _ _ _ _ _ _ _ _ _) hS 25 cw_25 rfl 7 (by decide) k_1_127 rfl rfl (by decide +kernel) rfl rfl (Nat.le_of_ble_eq_true rfl) rfl d_Pg_push_55 (fun H locs hP hS => ?_)
          cases h
          exact o_rv C hP hS d_Pg_push_58
set_option maxHeartbeats 4000000 in
set_option maxRecDepth 100000 in
theorem w_Pg_follow_j144 {E : (Nat → Prop) → State → Heap → Prop} {p : Program} {l : Launch} {e : Env} {s : State} {m : MethodId} {args : Array Value} {below : List Frame} {meth : Method} {c : Code} {D : va_G} {ad kd sd vd xd : Nat → Nat} {ca : Nat → ClassId} {A : Nat → Prop} {Q : State → Prop} (hE : o_EK E kd sd vd xd) (C : o_Cx E p s m args meth c D o_cls (o_tys ca) "SchemaJudge$Program" b_Pg_follow (some .boolean) 6 cc_Pg_follow A) (hDD : ∀ (rt : Nat) (Sj : SSJ) (T0 : STx) (T1 : STx) (Rd : SRd) (Pg : SPg) (Pt : SPt) (Mk : SMk) (Lk : SLk) (Ck : SCk) (Jd : SJd) (Ld : SLd) (Pr : SPr), va_D A (o_cw ad ca rt Sj T0 T1 Rd Pg Pt Mk Lk Ck Jd Ld Pr)) (n : Nat) (u7_x1 : Int32) (u7_x2 : Int32) (u7_x3 : Int32) (u7_Sj : SSJ) (u7_T0 : STx) (u7_T1 : STx) (u7_Rd : SRd) (u7_Pt : SPt) (u7_Mk : SMk) (u7_Lk : SLk) (u7_Ck : SCk) (u7_Jd : SJd) (u7_Ld : SLd) (u7_Pr : SPr) (u7_rt : Nat) (x4 : Int32) (y1 : Int32) (Pg : SPg) {q : Nat × Int32 × SPg} (h : m_Pg_follow_j144 n u7_x1 u7_x2 u7_x3 x4 y1 Pg = some q) (h0 : q.1 = 0 → o_At p l e rm_Pg_follow s m args below meth c Q o_cls D A 6 7 [] (o_cw ad ca u7_rt u7_Sj u7_T0 u7_T1 u7_Rd q.2.2 u7_Pt u7_Mk u7_Lk u7_Ck u7_Jd u7_Ld u7_Pr) [(0, .ref (ad 25)), (1, .int u7_x1), (2, .int u7_x2), (3, .int u7_x3), (4, .int q.2.1)]) (h1 : q.1 ≠ 0 → (if q.1 = 1 then o_At p l e rm_Pg_follow s m args below meth c Q o_cls D A 6 84 [] (o_cw ad ca u7_rt u7_Sj u7_T0 u7_T1 u7_Rd q.2.2 u7_Pt u7_Mk u7_Lk u7_Ck u7_Jd u7_Ld u7_Pr) [] else o_At p l e rm_Pg_follow s m args below meth c Q o_cls D A 6 211 [] (o_cw ad ca u7_rt u7_Sj u7_T0 u7_T1 u7_Rd q.2.2 u7_Pt u7_Mk u7_Lk u7_Ck u7_Jd u7_Ld u7_Pr) [])) : o_At p l e rm_Pg_follow s m args below meth c Q o_cls D A 6 144 [.int y1, .ref (ad 25)] (o_cw ad ca u7_rt u7_Sj u7_T0 u7_T1 u7_Rd Pg u7_Pt u7_Mk u7_Lk u7_Ck u7_Jd u7_Ld u7_Pr) [(0, .ref (ad 25)), (1, .int u7_x1), (2, .int u7_x2), (3, .int u7_x3), (4, .int x4)] := by
  unfold m_Pg_follow_j144 at h
  intro H locs ls hP hS hl
  have C0 := C
  obtain ⟨hx, hb, -, -, -, hown, hts, hK, -, -⟩ := C0
  refine lv_iload_n hx hb d_Pg_follow_144 rfl (lv_at hl 3 rfl) ?_
  obtain ⟨q1, hq1, h⟩ := o_bd_some h
  refine o_V (st1 := []) (w1 := (o_cw ad ca u7_rt u7_Sj u7_T0 u7_T1 u7_Rd q1 u7_Pt u7_Mk u7_Lk u7_Ck u7_Jd u7_Ld u7_Pr)) hE.1 C (c_Pg_push hE l y1 u7_x3 Pg u7_Sj u7_T0 u7_T1 u7_Rd u7_Pt u7_Mk u7_Lk u7_Ck u7_Jd u7_Ld u7_Pr u7_rt hq1) hP (hDD _ _ _ _ _ _ _ _ _ _ _ _ _) hS hl.1 rfl cw_25 k_6_90 k_6_92 k_s_63 k_1_4 k_6_93 hv_Pg_push rfl rfl ⟨(Nat.le_of_ble_eq_true rfl), (Nat.le_of_ble_eq_true rfl)⟩ rfl (Nat.le_of_ble_eq_true rfl) ⟨Nat.zero_le _, Nat.zero_le _⟩ rfl d_Pg_follow_145 (fun H locs hP hS => ?_)
  refine lv_goto (tgt := 205) hx hb d_Pg_follow_148 (by decide) ?_
  obtain ⟨x4_205, ex4_205⟩ : ∃ y : Int32, y = x4 + (1:Int32) := ⟨_, rfl⟩
  replace h := o_nm_at ex4_205 h
  refine lv_iinc (v := x4_205) (lv' := [(4, .int x4_205), (0, .ref (ad 25)), (1, .int u7_x1), (2, .int u7_x2), (3, .int u7_x3)]) hx hb d_Pg_follow_205 hl (k := 4) rfl (by rw [ex4_205]; rfl) (by decide) rfl (fun ls hl => ?_)
  refine lv_goto (tgt := 7) hx hb d_Pg_follow_208 (by decide) ?_
  cases h
  exact h0 rfl _ _ _ hP hS (lv_sub hl [1, 2, 3, 4, 0] rfl)
set_option maxHeartbeats 4000000 in
set_option maxRecDepth 100000 in
theorem w_Pg_follow_j165 {E : (Nat → Prop) → State → Heap → Prop} {p : Program} {l : Launch} {e : Env} {s : State} {m : MethodId} {args : Array Value} {below : List Frame} {meth : Method} {c : Code} {D : va_G} {ad kd sd vd xd : Nat → Nat} {ca : Nat → ClassId} {A : Nat → Prop} {Q : State → Prop} (hE : o_EK E kd sd vd xd) (C : o_Cx E p s m args meth c D o_cls (o_tys ca) "SchemaJudge$Program" b_Pg_follow (some .boolean) 6 cc_Pg_follow A) (hDD : ∀ (rt : Nat) (Sj : SSJ) (T0 : STx) (T1 : STx) (Rd : SRd) (Pg : SPg) (Pt : SPt) (Mk : SMk) (Lk : SLk) (Ck : SCk) (Jd : SJd) (Ld : SLd) (Pr : SPr), va_D A (o_cw ad ca rt Sj T0 T1 Rd Pg Pt Mk Lk Ck Jd Ld Pr)) (n : Nat) (u7_x1 : Int32) (u7_x2 : Int32) (u7_x3 : Int32) (u7_Sj : SSJ) (u7_T0 : STx) (u7_T1 : STx) (u7_Rd : SRd) (u7_Pt : SPt) (u7_Mk : SMk) (u7_Lk : SLk) (u7_Ck : SCk) (u7_Jd : SJd) (u7_Ld : SLd) (u7_Pr : SPr) (u7_rt : Nat) (x4 : Int32) (y1 : Int32) (Pg : SPg) {q : Nat × Int32 × SPg} (h : m_Pg_follow_j165 n u7_x1 u7_x2 u7_x3 x4 y1 Pg = some q) (h0 : q.1 = 0 → o_At p l e rm_Pg_follow s m args below meth c Q o_cls D A 6 7 [] (o_cw ad ca u7_rt u7_Sj u7_T0 u7_T1 u7_Rd q.2.2 u7_Pt u7_Mk u7_Lk u7_Ck u7_Jd u7_Ld u7_Pr) [(0, .ref (ad 25)), (1, .int u7_x1), (2, .int u7_x2), (3, .int u7_x3), (4, .int q.2.1)]) (h1 : q.1 ≠ 0 → (if q.1 = 1 then o_At p l e rm_Pg_follow s m args below meth c Q o_cls D A 6 84 [] (o_cw ad ca u7_rt u7_Sj u7_T0 u7_T1 u7_Rd q.2.2 u7_Pt u7_Mk u7_Lk u7_Ck u7_Jd u7_Ld u7_Pr) [] else o_At p l e rm_Pg_follow s m args below meth c Q o_cls D A 6 211 [] (o_cw ad ca u7_rt u7_Sj u7_T0 u7_T1 u7_Rd q.2.2 u7_Pt u7_Mk u7_Lk u7_Ck u7_Jd u7_Ld u7_Pr) [])) : o_At p l e rm_Pg_follow s m args below meth c Q o_cls D A 6 165 [.int y1, .ref (ad 25)] (o_cw ad ca u7_rt u7_Sj u7_T0 u7_T1 u7_Rd Pg u7_Pt u7_Mk u7_Lk u7_Ck u7_Jd u7_Ld u7_Pr) [(0, .ref (ad 25)), (1, .int u7_x1), (2, .int u7_x2), (3, .int u7_x3), (4, .int x4)] := by
  unfold m_Pg_follow_j165 at h
  intro H locs ls hP hS hl
  have C0 := C
  obtain ⟨hx, hb, -, -, -, hown, hts, hK, -, -⟩ := C0
  refine lv_iload_n hx hb d_Pg_follow_165 rfl (lv_at hl 3 rfl) ?_
  obtain ⟨q2, hq2, h⟩ := o_bd_some h
  refine o_V (st1 := []) (w1 := (o_cw ad ca u7_rt u7_Sj u7_T0 u7_T1 u7_Rd q2 u7_Pt u7_Mk u7_Lk u7_Ck u7_Jd u7_Ld u7_Pr)) hE.1 C (c_Pg_push hE l y1 u7_x3 Pg u7_Sj u7_T0 u7_T1 u7_Rd u7_Pt u7_Mk u7_Lk u7_Ck u7_Jd u7_Ld u7_Pr u7_rt hq2) hP (hDD _ _ _ _ _ _ _ _ _ _ _ _ _) hS hl.1 rfl cw_25 k_6_90 k_6_92 k_s_63 k_1_4 k_6_93 hv_Pg_push rfl rfl ⟨(Nat.le_of_ble_eq_true rfl), (Nat.le_of_ble_eq_true rfl)⟩ rfl (Nat.le_of_ble_eq_true rfl) ⟨Nat.zero_le _, Nat.zero_le _⟩ rfl d_Pg_follow_166 (fun H locs hP hS => ?_)
  refine lv_goto (tgt := 205) hx hb d_Pg_follow_169 (by decide) ?_
  obtain ⟨x4_205, ex4_205⟩ : ∃ y : Int32, y = x4 + (1:Int32) := ⟨_, rfl⟩
  replace h := o_nm_at ex4_205 h
  refine lv_iinc (v := x4_205) (lv' := [(4, .int x4_205), (0, .ref (ad 25)), (1, .int u7_x1), (2, .int u7_x2), (3, .int u7_x3)]) hx hb d_Pg_follow_205 hl (k := 4) rfl (by rw [ex4_205]; rfl) (by decide) rfl (fun ls hl => ?_)
  refine lv_goto (tgt := 7) hx hb d_Pg_follow_208 (by decide) ?_
  cases h
  exact h0 rfl _ _ _ hP hS (lv_sub hl [1, 2, 3, 4, 0] rfl)
set_option maxHeartbeats 4000000 in
set_option maxRecDepth 100000 in
theorem w_Pg_follow_b7 {E : (Nat → Prop) → State → Heap → Prop} {p : Program} {l : Launch} {e : Env} {s : State} {m : MethodId} {args : Array Value} {below : List Frame} {meth : Method} {c : Code} {D : va_G} {ad kd sd vd xd : Nat → Nat} {ca : Nat → ClassId} {A : Nat → Prop} {Q : State → Prop} (hE : o_EK E kd sd vd xd) (C : o_Cx E p s m args meth c D o_cls (o_tys ca) "SchemaJudge$Program" b_Pg_follow (some .boolean) 6 cc_Pg_follow A) (hDD : ∀ (rt : Nat) (Sj : SSJ) (T0 : STx) (T1 : STx) (Rd : SRd) (Pg : SPg) (Pt : SPt) (Mk : SMk) (Lk : SLk) (Ck : SCk) (Jd : SJd) (Ld : SLd) (Pr : SPr), va_D A (o_cw ad ca rt Sj T0 T1 Rd Pg Pt Mk Lk Ck Jd Ld Pr)) (n : Nat) (u7_x1 : Int32) (u7_x2 : Int32) (u7_x3 : Int32) (u7_Sj : SSJ) (u7_T0 : STx) (u7_T1 : STx) (u7_Rd : SRd) (u7_Pt : SPt) (u7_Mk : SMk) (u7_Lk : SLk) (u7_Ck : SCk) (u7_Jd : SJd) (u7_Ld : SLd) (u7_Pr : SPr) (u7_rt : Nat) (z : Int32 × SPg) (q : Nat × Int32 × SPg) (h : m_Pg_follow_b7 n u7_x1 u7_x2 u7_x3 z = some q) (h0 : q.1 = 0 → o_At p l e rm_Pg_follow s m args below meth c Q o_cls D A 6 7 [] (o_cw ad ca u7_rt u7_Sj u7_T0 u7_T1 u7_Rd q.2.2 u7_Pt u7_Mk u7_Lk u7_Ck u7_Jd u7_Ld u7_Pr) [(0, .ref (ad 25)), (1, .int u7_x1), (2, .int u7_x2), (3, .int u7_x3), (4, .int q.2.1)]) (h1 : q.1 ≠ 0 → (if q.1 = 1 then o_At p l e rm_Pg_follow s m args below meth c Q o_cls D A 6 84 [] (o_cw ad ca u7_rt u7_Sj u7_T0 u7_T1 u7_Rd q.2.2 u7_Pt u7_Mk u7_Lk u7_Ck u7_Jd u7_Ld u7_Pr) [] else o_At p l e rm_Pg_follow s m args below meth c Q o_cls D A 6 211 [] (o_cw ad ca u7_rt u7_Sj u7_T0 u7_T1 u7_Rd q.2.2 u7_Pt u7_Mk u7_Lk u7_Ck u7_Jd u7_Ld u7_Pr) [])) : o_At p l e rm_Pg_follow s m args below meth c Q o_cls D A 6 7 [] (o_cw ad ca u7_rt u7_Sj u7_T0 u7_T1 u7_Rd z.2 u7_Pt u7_Mk u7_Lk u7_Ck u7_Jd u7_Ld u7_Pr) [(0, .ref (ad 25)), (1, .int u7_x1), (2, .int u7_x2), (3, .int u7_x3), (4, .int z.1)] := by
  unfold m_Pg_follow_b7 at h
  intro H locs ls hP hS hl
  have C0 := C
  obtain ⟨hx, hb, -, -, -, hown, hts, hK, -, -⟩ := C0
  refine lv_iload hx hb d_Pg_follow_7 (lv_at hl 4 rfl) ?_
  refine lv_sipush (v := (1300:Int32)) hx hb d_Pg_follow_9 (by decide) ?_
  refine lv_icmp_ge (tgt := 211) hx hb d_Pg_follow_12 (by decide) (fun c1 => ?_) (fun c1 => ?_)
  · replace h := o_tt c1 h
    cases h
    exact h1 (Nat.succ_ne_zero 1) _ _ _ hP hS (lv_sub hl [] rfl)
  · replace h := o_ff c1 h
    refine lv_aload_n hx hb d_Pg_follow_15 rfl (lv_at hl 0 rfl) ?_
    refine o_get (v := .int (Pg_top z.2)) C in_Pg hP 25 cw_25 rfl 7 (by decide) k_1_127 rfl rfl d_Pg_follow_16 ?_
    refine lv_if_le (tgt := 211) hx hb d_Pg_follow_19 (by decide) (fun c2 => ?_) (fun c2 => ?_)
    · replace h := o_tt c2 h
      cases h
      exact h1 (Nat.succ_ne_zero 1) _ _ _ hP hS (lv_sub hl [] rfl)
    · replace h := o_ff c2 h
      refine lv_aload_n hx hb d_Pg_follow_22 rfl (lv_at hl 0 rfl) ?_
      refine lv_dup hx hb d_Pg_follow_23 rfl ?_
      refine o_get (v := .int (Pg_top z.2)) C in_Pg hP 25 cw_25 rfl 7 (by decide) k_1_127 rfl rfl d_Pg_follow_24 ?_
      refine lv_iconst (v := (1:Int32)) hx hb d_Pg_follow_27 (by decide) ?_
      refine lv_isub hx hb d_Pg_follow_28 ?_
      refine o_put (v := .int ((Pg_top z.2) - (1:Int32))) (ty := .int) (w1 := (o_cw ad ca u7_rt u7_Sj u7_T0 u7_T1 u7_Rd (Pg_mk (Pg_operations z.2) (Pg_arguments z.2) (Pg_length z.2) (Pg_sets z.2) (Pg_setsUsed z.2) (Pg_rounds z.2) (Pg_stack z.2) ((Pg_top z.2) - (1:Int32)) (Pg_waiting z.2) (Pg_waitingCount z.2) (Pg_moved z.2)) u7_Pt u7_Mk u7_Lk u7_Ck u7_Jd u7_Ld u7_Pr)) C in_Pg t_Pg t_Pg_ok n_Pg hP (hDD _ _ _ _ _ _ _ _ _ _ _ _ _) hS 25 cw_25 rfl 7 (by decide) k_1_127 rfl rfl (by decide +kernel) rfl rfl (Nat.le_of_ble_eq_true rfl) rfl d_Pg_follow_29 (fun H locs hP hS => ?_)
      refine lv_aload_n hx hb d_Pg_follow_32 rfl (lv_at hl 0 rfl) ?_
      refine o_get (v := .ref (ad 30)) C in_Pg hP 25 cw_25 rfl 6 (by decide) k_1_126 rfl rfl d_Pg_follow_33 ?_
      refine lv_aload_n hx hb d_Pg_follow_36 rfl (lv_at hl 0 rfl) ?_
      refine o_get (v := .int ((Pg_top z.2) - (1:Int32))) C in_Pg hP 25 cw_25 rfl 7 (by decide) k_1_127 rfl rfl d_Pg_follow_37 ?_
      obtain ⟨g3, h⟩ := o_gd_some h
      refine o_iald (f := (Pg_stack z.2)) C hP 30 25 cw_30 rfl g3 d_Pg_follow_40 ?_
      refine lv_topi (fun x5_41 ex5_41 => ?_)
      replace h := o_nm_at ex5_41 h
      refine lv_istore (lv' := [(5, .int x5_41), (0, .ref (ad 25)), (1, .int u7_x1), (2, .int u7_x2), (3, .int u7_x3), (4, .int z.1)]) hx hb d_Pg_follow_41 hl (by decide) rfl (fun ls hl => ?_)
      refine lv_aload_n hx hb d_Pg_follow_43 rfl (lv_at hl 1 rfl) ?_
      refine o_get (v := .ref (ad 26)) C in_Pg hP 25 cw_25 rfl 0 (by decide) k_1_119 rfl rfl d_Pg_follow_44 ?_
      refine lv_iload hx hb d_Pg_follow_47 (lv_at hl 0 rfl) ?_
      obtain ⟨g4, h⟩ := o_gd_some h
      refine o_iald (f := (Pg_operations z.2)) C hP 26 21 cw_26 rfl g4 d_Pg_follow_49 ?_
      refine lv_topi (fun w50 ew50 => ?_)
      replace h := o_nm_at ew50 h
      by_cases c5 : w50 = (4:Int32)
      · replace h := o_tt c5 h
        refine lv_tableIn (off := 81) (tgt := 131) hx hb d_Pg_follow_50 (by rw [c5]; decide) (by rw [c5]; decide) (by rw [c5]; rfl) (by decide) ?_
        refine lv_aload_n hx hb d_Pg_follow_131 rfl (lv_at hl 1 rfl) ?_
        refine lv_iload_n hx hb d_Pg_follow_132 rfl (lv_at hl 2 rfl) ?_
        refine lv_if_ne (tgt := 143) hx hb d_Pg_follow_133 (by decide) (fun c6 => ?_) (fun c6 => ?_)
        · replace h := o_ff c6 h
          refine lv_iconst (v := (-1:Int32)) hx hb d_Pg_follow_143 (by decide) ?_
          exact w_Pg_follow_j144 hE C hDD n u7_x1 u7_x2 u7_x3 u7_Sj u7_T0 u7_T1 u7_Rd u7_Pt u7_Mk u7_Lk u7_Ck u7_Jd u7_Ld u7_Pr u7_rt z.1 (-1:Int32) (Pg_mk (Pg_operations z.2) (Pg_arguments z.2) (Pg_length z.2) (Pg_sets z.2) (Pg_setsUsed z.2) (Pg_rounds z.2) (Pg_stack z.2) ((Pg_top z.2) - (1:Int32)) (Pg_waiting z.2) (Pg_waitingCount z.2) (Pg_moved z.2)) h h0 h1 _ _ _ hP hS (lv_sub hl [1, 2, 3, 4, 5] rfl)
        · replace h := o_tt c6 h
          refine lv_iload hx hb d_Pg_follow_136 (lv_at hl 0 rfl) ?_
          refine lv_iconst (v := (1:Int32)) hx hb d_Pg_follow_138 (by decide) ?_
          refine lv_iadd hx hb d_Pg_follow_139 ?_
          refine lv_goto (tgt := 144) hx hb d_Pg_follow_140 (by decide) ?_
          exact w_Pg_follow_j144 hE C hDD n u7_x1 u7_x2 u7_x3 u7_Sj u7_T0 u7_T1 u7_Rd u7_Pt u7_Mk u7_Lk u7_Ck u7_Jd u7_Ld u7_Pr u7_rt z.1 (x5_41 + (1:Int32)) (Pg_mk (Pg_operations z.2) (Pg_arguments z.2) (Pg_length z.2) (Pg_sets z.2) (Pg_setsUsed z.2) (Pg_rounds z.2) (Pg_stack z.2) ((Pg_top z.2) - (1:Int32)) (Pg_waiting z.2) (Pg_waitingCount z.2) (Pg_moved z.2)) h h0 h1 _ _ _ hP hS (lv_sub hl [1, 2, 3, 4, 5] rfl)
      replace h := o_ff c5 h
      by_cases c7 : w50 = (5:Int32)
      · replace h := o_tt c7 h
        refine lv_tableIn (off := 101) (tgt := 151) hx hb d_Pg_follow_50 (by rw [c7]; decide) (by rw [c7]; decide) (by rw [c7]; rfl) (by decide) ?_
        refine lv_aload_n hx hb d_Pg_follow_151 rfl (lv_at hl 1 rfl) ?_
        refine lv_iload_n hx hb d_Pg_follow_152 rfl (lv_at hl 2 rfl) ?_
        refine lv_iload_n hx hb d_Pg_follow_153 rfl (lv_at hl 3 rfl) ?_
        refine lv_icmp_ne (tgt := 164) hx hb d_Pg_follow_154 (by decide) (fun c8 => ?_) (fun c8 => ?_)
        · replace h := o_ff c8 h
          refine lv_iconst (v := (-1:Int32)) hx hb d_Pg_follow_164 (by decide) ?_
          exact w_Pg_follow_j165 hE C hDD n u7_x1 u7_x2 u7_x3 u7_Sj u7_T0 u7_T1 u7_Rd u7_Pt u7_Mk u7_Lk u7_Ck u7_Jd u7_Ld u7_Pr u7_rt z.1 (-1:Int32) (Pg_mk (Pg_operations z.2) (Pg_arguments z.2) (Pg_length z.2) (Pg_sets z.2) (Pg_setsUsed z.2) (Pg_rounds z.2) (Pg_stack z.2) ((Pg_top z.2) - (1:Int32)) (Pg_waiting z.2) (Pg_waitingCount z.2) (Pg_moved z.2)) h h0 h1 _ _ _ hP hS (lv_sub hl [1, 2, 3, 4, 5] rfl)
        · replace h := o_tt c8 h
          refine lv_iload hx hb d_Pg_follow_157 (lv_at hl 0 rfl) ?_
          refine lv_iconst (v := (1:Int32)) hx hb d_Pg_follow_159 (by decide) ?_
          refine lv_iadd hx hb d_Pg_follow_160 ?_
          refine lv_goto (tgt := 165) hx hb d_Pg_follow_161 (by decide) ?_
          exact w_Pg_follow_j165 hE C hDD n u7_x1 u7_x2 u7_x3 u7_Sj u7_T0 u7_T1 u7_Rd u7_Pt u7_Mk u7_Lk u7_Ck u7_Jd u7_Ld u7_Pr u7_rt z.1 (x5_41 + (1:Int32)) (Pg_mk (Pg_operations z.2) (Pg_arguments z.2) (Pg_length z.2) (Pg_sets z.2) (Pg_setsUsed z.2) (Pg_rounds z.2) (Pg_stack z.2) ((Pg_top z.2) - (1:Int32)) (Pg_waiting z.2) (Pg_waitingCount z.2) (Pg_moved z.2)) h h0 h1 _ _ _ hP hS (lv_sub hl [1, 2, 3, 4, 5] rfl)
      replace h := o_ff c7 h
      by_cases c9 : w50 = (6:Int32)
      · replace h := o_tt c9 h
        refine lv_tableIn (off := 54) (tgt := 104) hx hb d_Pg_follow_50 (by rw [c9]; decide) (by rw [c9]; decide) (by rw [c9]; rfl) (by decide) ?_
        refine lv_aload_n hx hb d_Pg_follow_104 rfl (lv_at hl 1 rfl) ?_
        refine lv_iload hx hb d_Pg_follow_105 (lv_at hl 0 rfl) ?_
        refine lv_iconst (v := (1:Int32)) hx hb d_Pg_follow_107 (by decide) ?_
        refine lv_iadd hx hb d_Pg_follow_108 ?_
        refine lv_iload_n hx hb d_Pg_follow_109 rfl (lv_at hl 4 rfl) ?_
        obtain ⟨q3, hq3, h⟩ := o_bd_some h
        refine o_V (st1 := []) (w1 := (o_cw ad ca u7_rt u7_Sj u7_T0 u7_T1 u7_Rd q3 u7_Pt u7_Mk u7_Lk u7_Ck u7_Jd u7_Ld u7_Pr)) hE.1 C (c_Pg_push hE l (x5_41 + (1:Int32)) u7_x3 (Pg_mk (Pg_operations z.2) (Pg_arguments z.2) (Pg_length z.2) (Pg_sets z.2) (Pg_setsUsed z.2) (Pg_rounds z.2) (Pg_stack z.2) ((Pg_top z.2) - (1:Int32)) (Pg_waiting z.2) (Pg_waitingCount z.2) (Pg_moved z.2)) u7_Sj u7_T0 u7_T1 u7_Rd u7_Pt u7_Mk u7_Lk u7_Ck u7_Jd u7_Ld u7_Pr u7_rt hq3) hP (hDD _ _ _ _ _ _ _ _ _ _ _ _ _) hS hl.1 rfl cw_25 k_6_90 k_6_92 k_s_63 k_1_4 k_6_93 hv_Pg_push rfl rfl ⟨(Nat.le_of_ble_eq_true rfl), (Nat.le_of_ble_eq_true rfl)⟩ rfl (Nat.le_of_ble_eq_true rfl) ⟨Nat.zero_le _, Nat.zero_le _⟩ rfl d_Pg_follow_110 (fun H locs hP hS => ?_)
        refine lv_aload_n hx hb d_Pg_follow_113 rfl (lv_at hl 1 rfl) ?_
        refine lv_iload hx hb d_Pg_follow_114 (lv_at hl 0 rfl) ?_
        refine lv_aload_n hx hb d_Pg_follow_116 rfl (lv_at hl 1 rfl) ?_
        refine o_get (v := .ref (ad 27)) C in_Pg hP 25 cw_25 rfl 1 (by decide) k_1_120 rfl rfl d_Pg_follow_117 ?_
        refine lv_iload hx hb d_Pg_follow_120 (lv_at hl 0 rfl) ?_
        obtain ⟨g10, h⟩ := o_gd_some h
        refine o_iald (f := (Pg_arguments q3)) C hP 27 22 cw_27 rfl g10 d_Pg_follow_122 ?_
        refine lv_iadd hx hb d_Pg_follow_123 ?_
        refine lv_iload_n hx hb d_Pg_follow_124 rfl (lv_at hl 4 rfl) ?_
        obtain ⟨q4, hq4, h⟩ := o_bd_some h
        refine o_V (st1 := []) (w1 := (o_cw ad ca u7_rt u7_Sj u7_T0 u7_T1 u7_Rd q4 u7_Pt u7_Mk u7_Lk u7_Ck u7_Jd u7_Ld u7_Pr)) hE.1 C (c_Pg_push hE l (x5_41 + ((Pg_arguments q3) x5_41.toNatClampNeg)) u7_x3 q3 u7_Sj u7_T0 u7_T1 u7_Rd u7_Pt u7_Mk u7_Lk u7_Ck u7_Jd u7_Ld u7_Pr u7_rt hq4) hP (hDD _ _ _ _ _ _ _ _ _ _ _ _ _) hS hl.1 rfl cw_25 k_6_90 k_6_92 k_s_63 k_1_4 k_6_93 hv_Pg_push rfl rfl ⟨(Nat.le_of_ble_eq_true rfl), (Nat.le_of_ble_eq_true rfl)⟩ rfl (Nat.le_of_ble_eq_true rfl) ⟨Nat.zero_le _, Nat.zero_le _⟩ rfl d_Pg_follow_125 (fun H locs hP hS => ?_)
        refine lv_goto (tgt := 205) hx hb d_Pg_follow_128 (by decide) ?_
        obtain ⟨x4_205, ex4_205⟩ : ∃ y : Int32, y = z.1 + (1:Int32) := ⟨_, rfl⟩
        replace h := o_nm_at ex4_205 h
        refine lv_iinc (v := x4_205) (lv' := [(4, .int x4_205), (5, .int x5_41), (0, .ref (ad 25)), (1, .int u7_x1), (2, .int u7_x2), (3, .int u7_x3)]) hx hb d_Pg_follow_205 hl (k := 5) rfl (by rw [ex4_205]; rfl) (by decide) rfl (fun ls hl => ?_)
        refine lv_goto (tgt := 7) hx hb d_Pg_follow_208 (by decide) ?_
        cases h
        exact h0 rfl _ _ _ hP hS (lv_sub hl [2, 3, 4, 5, 0] rfl)
      replace h := o_ff c9 h
      by_cases c11 : w50 = (7:Int32)
      · replace h := o_tt c11 h
        refine lv_tableIn (off := 36) (tgt := 86) hx hb d_Pg_follow_50 (by rw [c11]; decide) (by rw [c11]; decide) (by rw [c11]; rfl) (by decide) ?_
        refine lv_aload_n hx hb d_Pg_follow_86 rfl (lv_at hl 1 rfl) ?_
        refine lv_iload hx hb d_Pg_follow_87 (lv_at hl 0 rfl) ?_
        refine lv_aload_n hx hb d_Pg_follow_89 rfl (lv_at hl 1 rfl) ?_
        refine o_get (v := .ref (ad 27)) C in_Pg hP 25 cw_25 rfl 1 (by decide) k_1_120 rfl rfl d_Pg_follow_90 ?_
        refine lv_iload hx hb d_Pg_follow_93 (lv_at hl 0 rfl) ?_
        obtain ⟨g12, h⟩ := o_gd_some h
        refine o_iald (f := (Pg_arguments z.2)) C hP 27 22 cw_27 rfl g12 d_Pg_follow_95 ?_
        refine lv_iadd hx hb d_Pg_follow_96 ?_
        refine lv_iload_n hx hb d_Pg_follow_97 rfl (lv_at hl 4 rfl) ?_
        obtain ⟨q5, hq5, h⟩ := o_bd_some h
        refine o_V (st1 := []) (w1 := (o_cw ad ca u7_rt u7_Sj u7_T0 u7_T1 u7_Rd q5 u7_Pt u7_Mk u7_Lk u7_Ck u7_Jd u7_Ld u7_Pr)) hE.1 C (c_Pg_push hE l (x5_41 + ((Pg_arguments z.2) x5_41.toNatClampNeg)) u7_x3 (Pg_mk (Pg_operations z.2) (Pg_arguments z.2) (Pg_length z.2) (Pg_sets z.2) (Pg_setsUsed z.2) (Pg_rounds z.2) (Pg_stack z.2) ((Pg_top z.2) - (1:Int32)) (Pg_waiting z.2) (Pg_waitingCount z.2) (Pg_moved z.2)) u7_Sj u7_T0 u7_T1 u7_Rd u7_Pt u7_Mk u7_Lk u7_Ck u7_Jd u7_Ld u7_Pr u7_rt hq5) hP (hDD _ _ _ _ _ _ _ _ _ _ _ _ _) hS hl.1 rfl cw_25 k_6_90 k_6_92 k_s_63 k_1_4 k_6_93 hv_Pg_push rfl rfl ⟨(Nat.le_of_ble_eq_true rfl), (Nat.le_of_ble_eq_true rfl)⟩ rfl (Nat.le_of_ble_eq_true rfl) ⟨Nat.zero_le _, Nat.zero_le _⟩ rfl d_Pg_follow_98 (fun H locs hP hS => ?_)
        refine lv_goto (tgt := 205) hx hb d_Pg_follow_101 (by decide) ?_
        obtain ⟨x4_205, ex4_205⟩ : ∃ y : Int32, y = z.1 + (1:Int32) := ⟨_, rfl⟩
        replace h := o_nm_at ex4_205 h
        refine lv_iinc (v := x4_205) (lv' := [(4, .int x4_205), (5, .int x5_41), (0, .ref (ad 25)), (1, .int u7_x1), (2, .int u7_x2), (3, .int u7_x3)]) hx hb d_Pg_follow_205 hl (k := 5) rfl (by rw [ex4_205]; rfl) (by decide) rfl (fun ls hl => ?_)
        refine lv_goto (tgt := 7) hx hb d_Pg_follow_208 (by decide) ?_
        cases h
        exact h0 rfl _ _ _ hP hS (lv_sub hl [2, 3, 4, 5, 0] rfl)
      replace h := o_ff c11 h
      by_cases c13 : w50 = (8:Int32)
      · replace h := o_tt c13 h
        refine lv_tableIn (off := 34) (tgt := 84) hx hb d_Pg_follow_50 (by rw [c13]; decide) (by rw [c13]; decide) (by rw [c13]; rfl) (by decide) ?_
        cases h
        exact h1 (Nat.succ_ne_zero 0) _ _ _ hP hS (lv_sub hl [] rfl)
      replace h := o_ff c13 h
      refine lv_tableOut (tgt := 172) hx hb d_Pg_follow_50 (by have ec5 := o_ne_i (n := 4) (by decide) c5; have ec7 := o_ne_i (n := 5) (by decide) c7; have ec9 := o_ne_i (n := 6) (by decide) c9; have ec11 := o_ne_i (n := 7) (by decide) c11; have ec13 := o_ne_i (n := 8) (by decide) c13; omega) (by decide) ?_
      refine lv_aload_n hx hb d_Pg_follow_172 rfl (lv_at hl 1 rfl) ?_
      refine o_get (v := .int (Pg_waitingCount z.2)) C in_Pg hP 25 cw_25 rfl 9 (by decide) k_1_129 rfl rfl d_Pg_follow_173 ?_
      refine lv_aload_n hx hb d_Pg_follow_176 rfl (lv_at hl 1 rfl) ?_
      refine o_get (v := .ref (ad 31)) C in_Pg hP 25 cw_25 rfl 8 (by decide) k_1_128 rfl rfl d_Pg_follow_177 ?_
      refine va_alen (v := (1300:Int32)) hx hb hK hP 31 26 cw_31 rfl rfl d_Pg_follow_180 ?_
      refine lv_icmp_ge (tgt := 205) hx hb d_Pg_follow_181 (by decide) (fun c14 => ?_) (fun c14 => ?_)
      · replace h := o_tt c14 h
        obtain ⟨x4_205, ex4_205⟩ : ∃ y : Int32, y = z.1 + (1:Int32) := ⟨_, rfl⟩
        replace h := o_nm_at ex4_205 h
        refine lv_iinc (v := x4_205) (lv' := [(4, .int x4_205), (5, .int x5_41), (0, .ref (ad 25)), (1, .int u7_x1), (2, .int u7_x2), (3, .int u7_x3)]) hx hb d_Pg_follow_205 hl (k := 5) rfl (by rw [ex4_205]; rfl) (by decide) rfl (fun ls hl => ?_)
        refine lv_goto (tgt := 7) hx hb d_Pg_follow_208 (by decide) ?_
        cases h
        exact h0 rfl _ _ _ hP hS (lv_sub hl [2, 3, 4, 5, 0] rfl)
      · replace h := o_ff c14 h
        refine lv_aload_n hx hb d_Pg_follow_184 rfl (lv_at hl 1 rfl) ?_
        refine o_get (v := .ref (ad 31)) C in_Pg hP 25 cw_25 rfl 8 (by decide) k_1_128 rfl rfl d_Pg_follow_185 ?_
        refine lv_aload_n hx hb d_Pg_follow_188 rfl (lv_at hl 1 rfl) ?_
        refine o_get (v := .int (Pg_waitingCount z.2)) C in_Pg hP 25 cw_25 rfl 9 (by decide) k_1_129 rfl rfl d_Pg_follow_189 ?_
        refine lv_iload hx hb d_Pg_follow_192 (lv_at hl 0 rfl) ?_
        obtain ⟨g15, h⟩ := o_gd_some h
        refine o_iast (f := (Pg_waiting z.2)) (w1 := (o_cw ad ca u7_rt u7_Sj u7_T0 u7_T1 u7_Rd (Pg_mk (Pg_operations z.2) (Pg_arguments z.2) (Pg_length z.2) (Pg_sets z.2) (Pg_setsUsed z.2) (Pg_rounds z.2) (Pg_stack z.2) ((Pg_top z.2) - (1:Int32)) (upd (Pg_waiting z.2) (Pg_waitingCount z.2).toNatClampNeg x5_41) (Pg_waitingCount z.2) (Pg_moved z.2)) u7_Pt u7_Mk u7_Lk u7_Ck u7_Jd u7_Ld u7_Pr)) C hP (hDD _ _ _ _ _ _ _ _ _ _ _ _ _) hS 31 26 cw_31 rfl g15 rfl d_Pg_follow_194 (fun H locs hP hS => ?_)
        refine lv_aload_n hx hb d_Pg_follow_195 rfl (lv_at hl 1 rfl) ?_
        refine lv_dup hx hb d_Pg_follow_196 rfl ?_
        refine o_get (v := .int (Pg_waitingCount z.2)) C in_Pg hP 25 cw_25 rfl 9 (by decide) k_1_129 rfl rfl d_Pg_follow_197 ?_
        refine lv_iconst (v := (1:Int32)) hx hb d_Pg_follow_200 (by decide) ?_
        refine lv_iadd hx hb d_Pg_follow_201 ?_
        refine o_put (v := .int ((Pg_waitingCount z.2) + (1:Int32))) (ty := .int) (w1 := (o_cw ad ca u7_rt u7_Sj u7_T0 u7_T1 u7_Rd (Pg_mk (Pg_operations z.2) (Pg_arguments z.2) (Pg_length z.2) (Pg_sets z.2) (Pg_setsUsed z.2) (Pg_rounds z.2) (Pg_stack z.2) ((Pg_top z.2) - (1:Int32)) (upd (Pg_waiting z.2) (Pg_waitingCount z.2).toNatClampNeg x5_41) ((Pg_waitingCount z.2) + (1:Int32)) (Pg_moved z.2)) u7_Pt u7_Mk u7_Lk u7_Ck u7_Jd u7_Ld u7_Pr)) C in_Pg t_Pg t_Pg_ok n_Pg hP (hDD _ _ _ _ _ _ _ _ _ _ _ _ _) hS 25 cw_25 rfl 9 (by decide) k_1_129 rfl rfl (by decide +kernel) rfl rfl (Nat.le_of_ble_eq_true rfl) rfl d_Pg_follow_202 (fun H locs hP hS => ?_)
        obtain ⟨x4_205, ex4_205⟩ : ∃ y : Int32, y = z.1 + (1:Int32) := ⟨_, rfl⟩
        replace h := o_nm_at ex4_205 h
        refine lv_iinc (v := x4_205) (lv' := [(4, .int x4_205), (5, .int x5_41), (0, .ref (ad 25)), (1, .int u7_x1), (2, .int u7_x2), (3, .int u7_x3)]) hx hb d_Pg_follow_205 hl (k := 5) rfl (by rw [ex4_205]; rfl) (by decide) rfl (fun ls hl => ?_)
        refine lv_goto (tgt := 7) hx hb d_Pg_follow_208 (by decide) ?_
        cases h
        exact h0 rfl _ _ _ hP hS (lv_sub hl [2, 3, 4, 5, 0] rfl)
set_option maxHeartbeats 4000000 in
set_option maxRecDepth 100000 in
theorem c_Pg_follow {E : (Nat → Prop) → State → Heap → Prop} {D : va_G} {ad kd sd vd xd : Nat → Nat} {ca : Nat → ClassId} (hE : o_EK E kd sd vd xd) (l : Launch) (n : Nat) (x1 : Int32) (x2 : Int32) (Pg : SPg) (Sj : SSJ) (T0 : STx) (T1 : STx) (Rd : SRd) (Pt : SPt) (Mk : SMk) (Lk : SLk) (Ck : SCk) (Jd : SJd) (Ld : SLd) (Pr : SPr) (rt : Nat) {r : Int32 × SPg} (h : m_Pg_follow n x1 x2 Pg = some r) : o_Cn E l D o_cls (o_tys ca) y_Pg_follow cc_Pg_follow rm_Pg_follow [.ref (ad 25), .int x1, .int x2] (o_cw ad ca rt Sj T0 T1 Rd Pg Pt Mk Lk Ck Jd Ld Pr) (o_cw ad ca rt Sj T0 T1 Rd r.2 Pt Mk Lk Ck Jd Ld Pr) (some (.int r.1)) := by
  refine o_Cn_of (by decide) (Nat.le_of_ble_eq_true rfl) ?_
  intro p e s m below meth c A ls C hD hP hS hl
  have hDD : ∀ (rt : Nat) (Sj : SSJ) (T0 : STx) (T1 : STx) (Rd : SRd) (Pg : SPg) (Pt : SPt) (Mk : SMk) (Lk : SLk) (Ck : SCk) (Jd : SJd) (Ld : SLd) (Pr : SPr), va_D A (o_cw ad ca rt Sj T0 T1 Rd Pg Pt Mk Lk Ck Jd Ld Pr) := fun _ _ _ _ _ _ _ _ _ _ _ _ _ => o_D_map hD rfl
  have hl : lv_has ls 6 [(0, .ref (ad 25)), (1, .int x1), (2, .int x2)] := hl
  unfold m_Pg_follow at h
  have C0 := C
  obtain ⟨hx, hb, -, -, -, hown, hts, hK, -, -⟩ := C0
  refine lv_iload_n hx hb d_Pg_follow_0 rfl (lv_at hl 1 rfl) ?_
  refine lv_iconst (v := (1:Int32)) hx hb d_Pg_follow_1 (by decide) ?_
  refine lv_iadd hx hb d_Pg_follow_2 ?_
  refine lv_topi (fun x3_3 ex3_3 => ?_)
  replace h := o_nm_at ex3_3 h
  refine lv_istore_n (lv' := [(3, .int x3_3), (0, .ref (ad 25)), (1, .int x1), (2, .int x2)]) hx hb d_Pg_follow_3 rfl hl (by decide) rfl (fun ls hl => ?_)
  refine lv_iconst (v := (0:Int32)) hx hb d_Pg_follow_4 (by decide) ?_
  refine lv_istore (lv' := [(4, .int (0:Int32)), (3, .int x3_3), (0, .ref (ad 25)), (1, .int x1), (2, .int x2)]) hx hb d_Pg_follow_5 hl (by decide) rfl (fun ls hl => ?_)
  obtain ⟨q6, hq6, h⟩ := o_bd_some h
  refine o_sim2 (AH := fun zz => o_At p l e rm_Pg_follow s m _ below meth c _ o_cls D A 6 7 [] (o_cw ad ca rt Sj T0 T1 Rd zz.2 Pt Mk Lk Ck Jd Ld Pr) [(0, .ref (ad 25)), (1, .int x1), (2, .int x2), (3, .int x3_3), (4, .int zz.1)]) (AX := fun qq => if qq.1 = 1 then o_At p l e rm_Pg_follow s m _ below meth c _ o_cls D A 6 84 [] (o_cw ad ca rt Sj T0 T1 Rd qq.2.2 Pt Mk Lk Ck Jd Ld Pr) [] else o_At p l e rm_Pg_follow s m _ below meth c _ o_cls D A 6 211 [] (o_cw ad ca rt Sj T0 T1 Rd qq.2.2 Pt Mk Lk Ck Jd Ld Pr) []) (fun zz qq h h0 h1 => w_Pg_follow_b7 hE C hDD n x1 x2 x3_3 Sj T0 T1 Rd Pt Mk Lk Ck Jd Ld Pr rt zz qq h h0 h1) n _ q6 hq6 ?_ _ _ _ hP hS (lv_sub hl [2, 3, 4, 1, 0] rfl)
  by_cases c16 : q6.1 = 1
  · replace h := o_tt c16 h
    refine o_ip c16 ?_
    intro H locs ls hP hS hl
    refine lv_iconst (v := (1:Int32)) hx hb d_Pg_follow_84 (by decide) ?_
    cases h
    exact o_rz (v := (1:Int32)) C o_nar1 hP hS d_Pg_follow_85
  replace h := o_ff c16 h
  refine o_in_ c16 ?_
  intro H locs ls hP hS hl
  refine lv_iconst (v := (0:Int32)) hx hb d_Pg_follow_211 (by decide) ?_
  cases h
  exact o_rz (v := (0:Int32)) C o_nar0 hP hS d_Pg_follow_212
set_option maxHeartbeats 4000000 in
set_option maxRecDepth 100000 in
theorem w_Pg_inClasses_j194 {E : (Nat → Prop) → State → Heap → Prop} {p : Program} {l : Launch} {e : Env} {s : State} {m : MethodId} {args : Array Value} {below : List Frame} {meth : Method} {c : Code} {D : va_G} {ad kd sd vd xd : Nat → Nat} {ca : Nat → ClassId} {A : Nat → Prop} (hE : o_EK E kd sd vd xd) (C : o_Cx E p s m args meth c D o_cls (o_tys ca) "SchemaJudge$Program" b_Pg_inClasses (some .boolean) 5 cc_Pg_inClasses A) (hDD : ∀ (rt : Nat) (Sj : SSJ) (T0 : STx) (T1 : STx) (Rd : SRd) (Pg : SPg) (Pt : SPt) (Mk : SMk) (Lk : SLk) (Ck : SCk) (Jd : SJd) (Ld : SLd) (Pr : SPr), va_D A (o_cw ad ca rt Sj T0 T1 Rd Pg Pt Mk Lk Ck Jd Ld Pr)) (y0 : Int32) (y1 : Int32) (Sj : SSJ) (T0 : STx) (T1 : STx) (Rd : SRd) (Pg : SPg) (Pt : SPt) (Mk : SMk) (Lk : SLk) (Ck : SCk) (Jd : SJd) (Ld : SLd) (Pr : SPr) (rt : Nat) {r : Int32} (h : m_Pg_inClasses_j194 y0 y1 = some r) : o_At p l e rm_Pg_inClasses s m args below meth c (MQ below (o_Qx D o_cls (some (.int r)) (o_cw ad ca rt Sj T0 T1 Rd Pg Pt Mk Lk Ck Jd Ld Pr) A) args s 0 0 A) o_cls D A 5 194 [.int y1, .int y0] (o_cw ad ca rt Sj T0 T1 Rd Pg Pt Mk Lk Ck Jd Ld Pr) [] := by
  unfold m_Pg_inClasses_j194 at h
  intro H locs ls hP hS hl
  have C0 := C
  obtain ⟨hx, hb, -, -, -, hown, hts, hK, -, -⟩ := C0
  refine lv_iand hx hb d_Pg_inClasses_194 ?_
  refine lv_if_eq (tgt := 202) hx hb d_Pg_inClasses_195 (by decide) (fun c10 => ?_) (fun c10 => ?_)
  · replace h := o_tt c10 h
    refine lv_iconst (v := (0:Int32)) hx hb d_Pg_inClasses_202 (by decide) ?_
    cases h
    exact o_rz (v := (0:Int32)) C o_nar0 hP hS d_Pg_inClasses_203
  · replace h := o_ff c10 h
    refine lv_iconst (v := (1:Int32)) hx hb d_Pg_inClasses_198 (by decide) ?_
    refine lv_goto (tgt := 203) hx hb d_Pg_inClasses_199 (by decide) ?_
    cases h
    exact o_rz (v := (1:Int32)) C o_nar1 hP hS d_Pg_inClasses_203
set_option maxHeartbeats 4000000 in
set_option maxRecDepth 100000 in
theorem w_Pg_inClasses_j177 {E : (Nat → Prop) → State → Heap → Prop} {p : Program} {l : Launch} {e : Env} {s : State} {m : MethodId} {args : Array Value} {below : List Frame} {meth : Method} {c : Code} {D : va_G} {ad kd sd vd xd : Nat → Nat} {ca : Nat → ClassId} {A : Nat → Prop} (hE : o_EK E kd sd vd xd) (C : o_Cx E p s m args meth c D o_cls (o_tys ca) "SchemaJudge$Program" b_Pg_inClasses (some .boolean) 5 cc_Pg_inClasses A) (hDD : ∀ (rt : Nat) (Sj : SSJ) (T0 : STx) (T1 : STx) (Rd : SRd) (Pg : SPg) (Pt : SPt) (Mk : SMk) (Lk : SLk) (Ck : SCk) (Jd : SJd) (Ld : SLd) (Pr : SPr), va_D A (o_cw ad ca rt Sj T0 T1 Rd Pg Pt Mk Lk Ck Jd Ld Pr)) (x0 : Int32) (x4 : Int32) (y0 : Int32) (y1 : Int32) (Sj : SSJ) (T0 : STx) (T1 : STx) (Rd : SRd) (Pg : SPg) (Pt : SPt) (Mk : SMk) (Lk : SLk) (Ck : SCk) (Jd : SJd) (Ld : SLd) (Pr : SPr) (rt : Nat) {r : Int32} (h : m_Pg_inClasses_j177 x0 x4 y0 y1 = some r) : o_At p l e rm_Pg_inClasses s m args below meth c (MQ below (o_Qx D o_cls (some (.int r)) (o_cw ad ca rt Sj T0 T1 Rd Pg Pt Mk Lk Ck Jd Ld Pr) A) args s 0 0 A) o_cls D A 5 177 [.int y1, .int y0] (o_cw ad ca rt Sj T0 T1 Rd Pg Pt Mk Lk Ck Jd Ld Pr) [(0, .int x0), (4, .int x4)] := by
  unfold m_Pg_inClasses_j177 at h
  intro H locs ls hP hS hl
  have C0 := C
  obtain ⟨hx, hb, -, -, -, hown, hts, hK, -, -⟩ := C0
  refine lv_iand hx hb d_Pg_inClasses_177 ?_
  refine lv_if_ne (tgt := 198) hx hb d_Pg_inClasses_178 (by decide) (fun c8 => ?_) (fun c8 => ?_)
  · replace h := o_ff c8 h
    refine lv_iconst (v := (1:Int32)) hx hb d_Pg_inClasses_198 (by decide) ?_
    refine lv_goto (tgt := 203) hx hb d_Pg_inClasses_199 (by decide) ?_
    cases h
    exact o_rz (v := (1:Int32)) C o_nar1 hP hS d_Pg_inClasses_203
  · replace h := o_tt c8 h
    refine lv_iload_n hx hb d_Pg_inClasses_181 rfl (lv_at hl 0 rfl) ?_
    refine lv_iload hx hb d_Pg_inClasses_182 (lv_at hl 1 rfl) ?_
    refine lv_if_eq (tgt := 192) hx hb d_Pg_inClasses_184 (by decide) (fun c9 => ?_) (fun c9 => ?_)
    · replace h := o_tt c9 h
      refine lv_bipush (v := (32:Int32)) hx hb d_Pg_inClasses_192 (by decide) ?_
      exact w_Pg_inClasses_j194 hE C hDD x0 (32:Int32) Sj T0 T1 Rd Pg Pt Mk Lk Ck Jd Ld Pr rt h _ _ _ hP hS (lv_sub hl [] rfl)
    · replace h := o_ff c9 h
      refine lv_bipush (v := (16:Int32)) hx hb d_Pg_inClasses_187 (by decide) ?_
      refine lv_goto (tgt := 194) hx hb d_Pg_inClasses_189 (by decide) ?_
      exact w_Pg_inClasses_j194 hE C hDD x0 (16:Int32) Sj T0 T1 Rd Pg Pt Mk Lk Ck Jd Ld Pr rt h _ _ _ hP hS (lv_sub hl [] rfl)
set_option maxHeartbeats 4000000 in
set_option maxRecDepth 100000 in
theorem w_Pg_inClasses_j162 {E : (Nat → Prop) → State → Heap → Prop} {p : Program} {l : Launch} {e : Env} {s : State} {m : MethodId} {args : Array Value} {below : List Frame} {meth : Method} {c : Code} {D : va_G} {ad kd sd vd xd : Nat → Nat} {ca : Nat → ClassId} {A : Nat → Prop} (hE : o_EK E kd sd vd xd) (C : o_Cx E p s m args meth c D o_cls (o_tys ca) "SchemaJudge$Program" b_Pg_inClasses (some .boolean) 5 cc_Pg_inClasses A) (hDD : ∀ (rt : Nat) (Sj : SSJ) (T0 : STx) (T1 : STx) (Rd : SRd) (Pg : SPg) (Pt : SPt) (Mk : SMk) (Lk : SLk) (Ck : SCk) (Jd : SJd) (Ld : SLd) (Pr : SPr), va_D A (o_cw ad ca rt Sj T0 T1 Rd Pg Pt Mk Lk Ck Jd Ld Pr)) (x0 : Int32) (x3 : Int32) (x4 : Int32) (y0 : Int32) (y1 : Int32) (Sj : SSJ) (T0 : STx) (T1 : STx) (Rd : SRd) (Pg : SPg) (Pt : SPt) (Mk : SMk) (Lk : SLk) (Ck : SCk) (Jd : SJd) (Ld : SLd) (Pr : SPr) (rt : Nat) {r : Int32} (h : m_Pg_inClasses_j162 x0 x3 x4 y0 y1 = some r) : o_At p l e rm_Pg_inClasses s m args below meth c (MQ below (o_Qx D o_cls (some (.int r)) (o_cw ad ca rt Sj T0 T1 Rd Pg Pt Mk Lk Ck Jd Ld Pr) A) args s 0 0 A) o_cls D A 5 162 [.int y1, .int y0] (o_cw ad ca rt Sj T0 T1 Rd Pg Pt Mk Lk Ck Jd Ld Pr) [(0, .int x0), (3, .int x3), (4, .int x4)] := by
  unfold m_Pg_inClasses_j162 at h
  intro H locs ls hP hS hl
  have C0 := C
  obtain ⟨hx, hb, -, -, -, hown, hts, hK, -, -⟩ := C0
  refine lv_iand hx hb d_Pg_inClasses_162 ?_
  refine lv_if_ne (tgt := 198) hx hb d_Pg_inClasses_163 (by decide) (fun c6 => ?_) (fun c6 => ?_)
  · replace h := o_ff c6 h
    refine lv_iconst (v := (1:Int32)) hx hb d_Pg_inClasses_198 (by decide) ?_
    refine lv_goto (tgt := 203) hx hb d_Pg_inClasses_199 (by decide) ?_
    cases h
    exact o_rz (v := (1:Int32)) C o_nar1 hP hS d_Pg_inClasses_203
  · replace h := o_tt c6 h
    refine lv_iload_n hx hb d_Pg_inClasses_166 rfl (lv_at hl 0 rfl) ?_
    refine lv_iload_n hx hb d_Pg_inClasses_167 rfl (lv_at hl 1 rfl) ?_
    refine lv_if_eq (tgt := 175) hx hb d_Pg_inClasses_168 (by decide) (fun c7 => ?_) (fun c7 => ?_)
    · replace h := o_tt c7 h
      refine lv_bipush (v := (8:Int32)) hx hb d_Pg_inClasses_175 (by decide) ?_
      exact w_Pg_inClasses_j177 hE C hDD x0 x4 x0 (8:Int32) Sj T0 T1 Rd Pg Pt Mk Lk Ck Jd Ld Pr rt h _ _ _ hP hS (lv_sub hl [0, 2] rfl)
    · replace h := o_ff c7 h
      refine lv_iconst (v := (4:Int32)) hx hb d_Pg_inClasses_171 (by decide) ?_
      refine lv_goto (tgt := 177) hx hb d_Pg_inClasses_172 (by decide) ?_
      exact w_Pg_inClasses_j177 hE C hDD x0 x4 x0 (4:Int32) Sj T0 T1 Rd Pg Pt Mk Lk Ck Jd Ld Pr rt h _ _ _ hP hS (lv_sub hl [0, 2] rfl)
set_option maxHeartbeats 4000000 in
set_option maxRecDepth 100000 in
theorem w_Pg_inClasses_j150 {E : (Nat → Prop) → State → Heap → Prop} {p : Program} {l : Launch} {e : Env} {s : State} {m : MethodId} {args : Array Value} {below : List Frame} {meth : Method} {c : Code} {D : va_G} {ad kd sd vd xd : Nat → Nat} {ca : Nat → ClassId} {A : Nat → Prop} (hE : o_EK E kd sd vd xd) (C : o_Cx E p s m args meth c D o_cls (o_tys ca) "SchemaJudge$Program" b_Pg_inClasses (some .boolean) 5 cc_Pg_inClasses A) (hDD : ∀ (rt : Nat) (Sj : SSJ) (T0 : STx) (T1 : STx) (Rd : SRd) (Pg : SPg) (Pt : SPt) (Mk : SMk) (Lk : SLk) (Ck : SCk) (Jd : SJd) (Ld : SLd) (Pr : SPr), va_D A (o_cw ad ca rt Sj T0 T1 Rd Pg Pt Mk Lk Ck Jd Ld Pr)) (x0 : Int32) (x2 : Int32) (x3 : Int32) (y0 : Int32) (Sj : SSJ) (T0 : STx) (T1 : STx) (Rd : SRd) (Pg : SPg) (Pt : SPt) (Mk : SMk) (Lk : SLk) (Ck : SCk) (Jd : SJd) (Ld : SLd) (Pr : SPr) (rt : Nat) {r : Int32} (h : m_Pg_inClasses_j150 x0 x2 x3 y0 = some r) : o_At p l e rm_Pg_inClasses s m args below meth c (MQ below (o_Qx D o_cls (some (.int r)) (o_cw ad ca rt Sj T0 T1 Rd Pg Pt Mk Lk Ck Jd Ld Pr) A) args s 0 0 A) o_cls D A 5 150 [.int y0] (o_cw ad ca rt Sj T0 T1 Rd Pg Pt Mk Lk Ck Jd Ld Pr) [(0, .int x0), (2, .int x2), (3, .int x3)] := by
  unfold m_Pg_inClasses_j150 at h
  intro H locs ls hP hS hl
  have C0 := C
  obtain ⟨hx, hb, -, -, -, hown, hts, hK, -, -⟩ := C0
  refine lv_istore (lv' := [(4, .int y0), (0, .int x0), (2, .int x2), (3, .int x3)]) hx hb d_Pg_inClasses_150 hl (by decide) rfl (fun ls hl => ?_)
  refine lv_iload_n hx hb d_Pg_inClasses_152 rfl (lv_at hl 1 rfl) ?_
  refine lv_iload_n hx hb d_Pg_inClasses_153 rfl (lv_at hl 2 rfl) ?_
  refine lv_if_eq (tgt := 161) hx hb d_Pg_inClasses_154 (by decide) (fun c5 => ?_) (fun c5 => ?_)
  · replace h := o_tt c5 h
    refine lv_iconst (v := (2:Int32)) hx hb d_Pg_inClasses_161 (by decide) ?_
    exact w_Pg_inClasses_j162 hE C hDD x0 x3 y0 x0 (2:Int32) Sj T0 T1 Rd Pg Pt Mk Lk Ck Jd Ld Pr rt h _ _ _ hP hS (lv_sub hl [1, 3, 0] rfl)
  · replace h := o_ff c5 h
    refine lv_iconst (v := (1:Int32)) hx hb d_Pg_inClasses_157 (by decide) ?_
    refine lv_goto (tgt := 162) hx hb d_Pg_inClasses_158 (by decide) ?_
    exact w_Pg_inClasses_j162 hE C hDD x0 x3 y0 x0 (1:Int32) Sj T0 T1 Rd Pg Pt Mk Lk Ck Jd Ld Pr rt h _ _ _ hP hS (lv_sub hl [1, 3, 0] rfl)
set_option maxHeartbeats 4000000 in
set_option maxRecDepth 100000 in
theorem w_Pg_inClasses_j104 {E : (Nat → Prop) → State → Heap → Prop} {p : Program} {l : Launch} {e : Env} {s : State} {m : MethodId} {args : Array Value} {below : List Frame} {meth : Method} {c : Code} {D : va_G} {ad kd sd vd xd : Nat → Nat} {ca : Nat → ClassId} {A : Nat → Prop} (hE : o_EK E kd sd vd xd) (C : o_Cx E p s m args meth c D o_cls (o_tys ca) "SchemaJudge$Program" b_Pg_inClasses (some .boolean) 5 cc_Pg_inClasses A) (hDD : ∀ (rt : Nat) (Sj : SSJ) (T0 : STx) (T1 : STx) (Rd : SRd) (Pg : SPg) (Pt : SPt) (Mk : SMk) (Lk : SLk) (Ck : SCk) (Jd : SJd) (Ld : SLd) (Pr : SPr), va_D A (o_cw ad ca rt Sj T0 T1 Rd Pg Pt Mk Lk Ck Jd Ld Pr)) (x0 : Int32) (x1 : Int32) (x2 : Int32) (x3 : Int32) (Sj : SSJ) (T0 : STx) (T1 : STx) (Rd : SRd) (Pg : SPg) (Pt : SPt) (Mk : SMk) (Lk : SLk) (Ck : SCk) (Jd : SJd) (Ld : SLd) (Pr : SPr) (rt : Nat) {r : Int32} (h : m_Pg_inClasses_j104 x0 x1 x2 x3 = some r) : o_At p l e rm_Pg_inClasses s m args below meth c (MQ below (o_Qx D o_cls (some (.int r)) (o_cw ad ca rt Sj T0 T1 Rd Pg Pt Mk Lk Ck Jd Ld Pr) A) args s 0 0 A) o_cls D A 5 104 [] (o_cw ad ca rt Sj T0 T1 Rd Pg Pt Mk Lk Ck Jd Ld Pr) [(0, .int x0), (1, .int x1), (2, .int x2), (3, .int x3)] := by
  unfold m_Pg_inClasses_j104 at h
  intro H locs ls hP hS hl
  have C0 := C
  obtain ⟨hx, hb, -, -, -, hown, hts, hK, -, -⟩ := C0
  refine lv_iload_n hx hb d_Pg_inClasses_104 rfl (lv_at hl 1 rfl) ?_
  refine lv_sipush (v := (8232:Int32)) hx hb d_Pg_inClasses_105 (by decide) ?_
  refine lv_icmp_eq (tgt := 145) hx hb d_Pg_inClasses_108 (by decide) (fun c14 => ?_) (fun c14 => ?_)
  · replace h := o_tt c14 h
    refine lv_iconst (v := (1:Int32)) hx hb d_Pg_inClasses_145 (by decide) ?_
    refine lv_goto (tgt := 150) hx hb d_Pg_inClasses_146 (by decide) ?_
    exact w_Pg_inClasses_j150 hE C hDD x0 x2 x3 (1:Int32) Sj T0 T1 Rd Pg Pt Mk Lk Ck Jd Ld Pr rt h _ _ _ hP hS (lv_sub hl [0, 2, 3] rfl)
  · replace h := o_ff c14 h
    refine lv_iload_n hx hb d_Pg_inClasses_111 rfl (lv_at hl 1 rfl) ?_
    refine lv_sipush (v := (8233:Int32)) hx hb d_Pg_inClasses_112 (by decide) ?_
    refine lv_icmp_eq (tgt := 145) hx hb d_Pg_inClasses_115 (by decide) (fun c15 => ?_) (fun c15 => ?_)
    · replace h := o_tt c15 h
      refine lv_iconst (v := (1:Int32)) hx hb d_Pg_inClasses_145 (by decide) ?_
      refine lv_goto (tgt := 150) hx hb d_Pg_inClasses_146 (by decide) ?_
      exact w_Pg_inClasses_j150 hE C hDD x0 x2 x3 (1:Int32) Sj T0 T1 Rd Pg Pt Mk Lk Ck Jd Ld Pr rt h _ _ _ hP hS (lv_sub hl [0, 2, 3] rfl)
    · replace h := o_ff c15 h
      refine lv_iload_n hx hb d_Pg_inClasses_118 rfl (lv_at hl 1 rfl) ?_
      refine lv_sipush (v := (8239:Int32)) hx hb d_Pg_inClasses_119 (by decide) ?_
      refine lv_icmp_eq (tgt := 145) hx hb d_Pg_inClasses_122 (by decide) (fun c16 => ?_) (fun c16 => ?_)
      · replace h := o_tt c16 h
        refine lv_iconst (v := (1:Int32)) hx hb d_Pg_inClasses_145 (by decide) ?_
        refine lv_goto (tgt := 150) hx hb d_Pg_inClasses_146 (by decide) ?_
        exact w_Pg_inClasses_j150 hE C hDD x0 x2 x3 (1:Int32) Sj T0 T1 Rd Pg Pt Mk Lk Ck Jd Ld Pr rt h _ _ _ hP hS (lv_sub hl [0, 2, 3] rfl)
      · replace h := o_ff c16 h
        refine lv_iload_n hx hb d_Pg_inClasses_125 rfl (lv_at hl 1 rfl) ?_
        refine lv_sipush (v := (8287:Int32)) hx hb d_Pg_inClasses_126 (by decide) ?_
        refine lv_icmp_eq (tgt := 145) hx hb d_Pg_inClasses_129 (by decide) (fun c17 => ?_) (fun c17 => ?_)
        · replace h := o_tt c17 h
          refine lv_iconst (v := (1:Int32)) hx hb d_Pg_inClasses_145 (by decide) ?_
          refine lv_goto (tgt := 150) hx hb d_Pg_inClasses_146 (by decide) ?_
          exact w_Pg_inClasses_j150 hE C hDD x0 x2 x3 (1:Int32) Sj T0 T1 Rd Pg Pt Mk Lk Ck Jd Ld Pr rt h _ _ _ hP hS (lv_sub hl [0, 2, 3] rfl)
        · replace h := o_ff c17 h
          refine lv_iload_n hx hb d_Pg_inClasses_132 rfl (lv_at hl 1 rfl) ?_
          refine lv_sipush (v := (12288:Int32)) hx hb d_Pg_inClasses_133 (by decide) ?_
          refine lv_icmp_eq (tgt := 145) hx hb d_Pg_inClasses_136 (by decide) (fun c18 => ?_) (fun c18 => ?_)
          · replace h := o_tt c18 h
            refine lv_iconst (v := (1:Int32)) hx hb d_Pg_inClasses_145 (by decide) ?_
            refine lv_goto (tgt := 150) hx hb d_Pg_inClasses_146 (by decide) ?_
            exact w_Pg_inClasses_j150 hE C hDD x0 x2 x3 (1:Int32) Sj T0 T1 Rd Pg Pt Mk Lk Ck Jd Ld Pr rt h _ _ _ hP hS (lv_sub hl [0, 2, 3] rfl)
          · replace h := o_ff c18 h
            refine lv_iload_n hx hb d_Pg_inClasses_139 rfl (lv_at hl 1 rfl) ?_
            refine lv_ldc (v := (65279:Int32)) hx hb hown (hts _ k_6_106) d_Pg_inClasses_140 ?_
            refine lv_icmp_ne (tgt := 149) hx hb d_Pg_inClasses_142 (by decide) (fun c19 => ?_) (fun c19 => ?_)
            · replace h := o_ff c19 h
              refine lv_iconst (v := (0:Int32)) hx hb d_Pg_inClasses_149 (by decide) ?_
              exact w_Pg_inClasses_j150 hE C hDD x0 x2 x3 (0:Int32) Sj T0 T1 Rd Pg Pt Mk Lk Ck Jd Ld Pr rt h _ _ _ hP hS (lv_sub hl [0, 2, 3] rfl)
            · replace h := o_tt c19 h
              refine lv_iconst (v := (1:Int32)) hx hb d_Pg_inClasses_145 (by decide) ?_
              refine lv_goto (tgt := 150) hx hb d_Pg_inClasses_146 (by decide) ?_
              exact w_Pg_inClasses_j150 hE C hDD x0 x2 x3 (1:Int32) Sj T0 T1 Rd Pg Pt Mk Lk Ck Jd Ld Pr rt h _ _ _ hP hS (lv_sub hl [0, 2, 3] rfl)
set_option maxHeartbeats 4000000 in
set_option maxRecDepth 100000 in
theorem w_Pg_inClasses_j70 {E : (Nat → Prop) → State → Heap → Prop} {p : Program} {l : Launch} {e : Env} {s : State} {m : MethodId} {args : Array Value} {below : List Frame} {meth : Method} {c : Code} {D : va_G} {ad kd sd vd xd : Nat → Nat} {ca : Nat → ClassId} {A : Nat → Prop} (hE : o_EK E kd sd vd xd) (C : o_Cx E p s m args meth c D o_cls (o_tys ca) "SchemaJudge$Program" b_Pg_inClasses (some .boolean) 5 cc_Pg_inClasses A) (hDD : ∀ (rt : Nat) (Sj : SSJ) (T0 : STx) (T1 : STx) (Rd : SRd) (Pg : SPg) (Pt : SPt) (Mk : SMk) (Lk : SLk) (Ck : SCk) (Jd : SJd) (Ld : SLd) (Pr : SPr), va_D A (o_cw ad ca rt Sj T0 T1 Rd Pg Pt Mk Lk Ck Jd Ld Pr)) (x0 : Int32) (x1 : Int32) (x2 : Int32) (x3 : Int32) (Sj : SSJ) (T0 : STx) (T1 : STx) (Rd : SRd) (Pg : SPg) (Pt : SPt) (Mk : SMk) (Lk : SLk) (Ck : SCk) (Jd : SJd) (Ld : SLd) (Pr : SPr) (rt : Nat) {r : Int32} (h : m_Pg_inClasses_j70 x0 x1 x2 x3 = some r) : o_At p l e rm_Pg_inClasses s m args below meth c (MQ below (o_Qx D o_cls (some (.int r)) (o_cw ad ca rt Sj T0 T1 Rd Pg Pt Mk Lk Ck Jd Ld Pr) A) args s 0 0 A) o_cls D A 5 70 [] (o_cw ad ca rt Sj T0 T1 Rd Pg Pt Mk Lk Ck Jd Ld Pr) [(0, .int x0), (1, .int x1), (2, .int x2), (3, .int x3)] := by
  unfold m_Pg_inClasses_j70 at h
  intro H locs ls hP hS hl
  have C0 := C
  obtain ⟨hx, hb, -, -, -, hown, hts, hK, -, -⟩ := C0
  refine lv_iload_n hx hb d_Pg_inClasses_70 rfl (lv_at hl 1 rfl) ?_
  refine lv_bipush (v := (32:Int32)) hx hb d_Pg_inClasses_71 (by decide) ?_
  refine lv_icmp_eq (tgt := 145) hx hb d_Pg_inClasses_73 (by decide) (fun c4 => ?_) (fun c4 => ?_)
  · replace h := o_tt c4 h
    refine lv_iconst (v := (1:Int32)) hx hb d_Pg_inClasses_145 (by decide) ?_
    refine lv_goto (tgt := 150) hx hb d_Pg_inClasses_146 (by decide) ?_
    exact w_Pg_inClasses_j150 hE C hDD x0 x2 x3 (1:Int32) Sj T0 T1 Rd Pg Pt Mk Lk Ck Jd Ld Pr rt h _ _ _ hP hS (lv_sub hl [0, 2, 3] rfl)
  · replace h := o_ff c4 h
    refine lv_iload_n hx hb d_Pg_inClasses_76 rfl (lv_at hl 1 rfl) ?_
    refine lv_sipush (v := (160:Int32)) hx hb d_Pg_inClasses_77 (by decide) ?_
    refine lv_icmp_eq (tgt := 145) hx hb d_Pg_inClasses_80 (by decide) (fun c11 => ?_) (fun c11 => ?_)
    · replace h := o_tt c11 h
      refine lv_iconst (v := (1:Int32)) hx hb d_Pg_inClasses_145 (by decide) ?_
      refine lv_goto (tgt := 150) hx hb d_Pg_inClasses_146 (by decide) ?_
      exact w_Pg_inClasses_j150 hE C hDD x0 x2 x3 (1:Int32) Sj T0 T1 Rd Pg Pt Mk Lk Ck Jd Ld Pr rt h _ _ _ hP hS (lv_sub hl [0, 2, 3] rfl)
    · replace h := o_ff c11 h
      refine lv_iload_n hx hb d_Pg_inClasses_83 rfl (lv_at hl 1 rfl) ?_
      refine lv_sipush (v := (5760:Int32)) hx hb d_Pg_inClasses_84 (by decide) ?_
      refine lv_icmp_eq (tgt := 145) hx hb d_Pg_inClasses_87 (by decide) (fun c12 => ?_) (fun c12 => ?_)
      · replace h := o_tt c12 h
        refine lv_iconst (v := (1:Int32)) hx hb d_Pg_inClasses_145 (by decide) ?_
        refine lv_goto (tgt := 150) hx hb d_Pg_inClasses_146 (by decide) ?_
        exact w_Pg_inClasses_j150 hE C hDD x0 x2 x3 (1:Int32) Sj T0 T1 Rd Pg Pt Mk Lk Ck Jd Ld Pr rt h _ _ _ hP hS (lv_sub hl [0, 2, 3] rfl)
      · replace h := o_ff c12 h
        refine lv_iload_n hx hb d_Pg_inClasses_90 rfl (lv_at hl 1 rfl) ?_
        refine lv_sipush (v := (8192:Int32)) hx hb d_Pg_inClasses_91 (by decide) ?_
        refine lv_icmp_lt (tgt := 104) hx hb d_Pg_inClasses_94 (by decide) (fun c13 => ?_) (fun c13 => ?_)
        · replace h := o_tt c13 h
          exact w_Pg_inClasses_j104 hE C hDD x0 x1 x2 x3 Sj T0 T1 Rd Pg Pt Mk Lk Ck Jd Ld Pr rt h _ _ _ hP hS (lv_sub hl [0, 1, 2, 3] rfl)
        · replace h := o_ff c13 h
          refine lv_iload_n hx hb d_Pg_inClasses_97 rfl (lv_at hl 1 rfl) ?_
          refine lv_sipush (v := (8202:Int32)) hx hb d_Pg_inClasses_98 (by decide) ?_
          refine lv_icmp_le (tgt := 145) hx hb d_Pg_inClasses_101 (by decide) (fun c20 => ?_) (fun c20 => ?_)
          · replace h := o_tt c20 h
            refine lv_iconst (v := (1:Int32)) hx hb d_Pg_inClasses_145 (by decide) ?_
            refine lv_goto (tgt := 150) hx hb d_Pg_inClasses_146 (by decide) ?_
            exact w_Pg_inClasses_j150 hE C hDD x0 x2 x3 (1:Int32) Sj T0 T1 Rd Pg Pt Mk Lk Ck Jd Ld Pr rt h _ _ _ hP hS (lv_sub hl [0, 2, 3] rfl)
          · replace h := o_ff c20 h
            exact w_Pg_inClasses_j104 hE C hDD x0 x1 x2 x3 Sj T0 T1 Rd Pg Pt Mk Lk Ck Jd Ld Pr rt h _ _ _ hP hS (lv_sub hl [0, 1, 2, 3] rfl)
set_option maxHeartbeats 4000000 in
set_option maxRecDepth 100000 in
theorem w_Pg_inClasses_j57 {E : (Nat → Prop) → State → Heap → Prop} {p : Program} {l : Launch} {e : Env} {s : State} {m : MethodId} {args : Array Value} {below : List Frame} {meth : Method} {c : Code} {D : va_G} {ad kd sd vd xd : Nat → Nat} {ca : Nat → ClassId} {A : Nat → Prop} (hE : o_EK E kd sd vd xd) (C : o_Cx E p s m args meth c D o_cls (o_tys ca) "SchemaJudge$Program" b_Pg_inClasses (some .boolean) 5 cc_Pg_inClasses A) (hDD : ∀ (rt : Nat) (Sj : SSJ) (T0 : STx) (T1 : STx) (Rd : SRd) (Pg : SPg) (Pt : SPt) (Mk : SMk) (Lk : SLk) (Ck : SCk) (Jd : SJd) (Ld : SLd) (Pr : SPr), va_D A (o_cw ad ca rt Sj T0 T1 Rd Pg Pt Mk Lk Ck Jd Ld Pr)) (x0 : Int32) (x1 : Int32) (x2 : Int32) (y0 : Int32) (Sj : SSJ) (T0 : STx) (T1 : STx) (Rd : SRd) (Pg : SPg) (Pt : SPt) (Mk : SMk) (Lk : SLk) (Ck : SCk) (Jd : SJd) (Ld : SLd) (Pr : SPr) (rt : Nat) {r : Int32} (h : m_Pg_inClasses_j57 x0 x1 x2 y0 = some r) : o_At p l e rm_Pg_inClasses s m args below meth c (MQ below (o_Qx D o_cls (some (.int r)) (o_cw ad ca rt Sj T0 T1 Rd Pg Pt Mk Lk Ck Jd Ld Pr) A) args s 0 0 A) o_cls D A 5 57 [.int y0] (o_cw ad ca rt Sj T0 T1 Rd Pg Pt Mk Lk Ck Jd Ld Pr) [(0, .int x0), (1, .int x1), (2, .int x2)] := by
  unfold m_Pg_inClasses_j57 at h
  intro H locs ls hP hS hl
  have C0 := C
  obtain ⟨hx, hb, -, -, -, hown, hts, hK, -, -⟩ := C0
  refine lv_istore_n (lv' := [(3, .int y0), (0, .int x0), (1, .int x1), (2, .int x2)]) hx hb d_Pg_inClasses_57 rfl hl (by decide) rfl (fun ls hl => ?_)
  refine lv_iload_n hx hb d_Pg_inClasses_58 rfl (lv_at hl 2 rfl) ?_
  refine lv_bipush (v := (9:Int32)) hx hb d_Pg_inClasses_59 (by decide) ?_
  refine lv_icmp_lt (tgt := 70) hx hb d_Pg_inClasses_61 (by decide) (fun c3 => ?_) (fun c3 => ?_)
  · replace h := o_tt c3 h
    exact w_Pg_inClasses_j70 hE C hDD x0 x1 x2 y0 Sj T0 T1 Rd Pg Pt Mk Lk Ck Jd Ld Pr rt h _ _ _ hP hS (lv_sub hl [1, 2, 3, 0] rfl)
  · replace h := o_ff c3 h
    refine lv_iload_n hx hb d_Pg_inClasses_64 rfl (lv_at hl 2 rfl) ?_
    refine lv_bipush (v := (13:Int32)) hx hb d_Pg_inClasses_65 (by decide) ?_
    refine lv_icmp_le (tgt := 145) hx hb d_Pg_inClasses_67 (by decide) (fun c21 => ?_) (fun c21 => ?_)
    · replace h := o_tt c21 h
      refine lv_iconst (v := (1:Int32)) hx hb d_Pg_inClasses_145 (by decide) ?_
      refine lv_goto (tgt := 150) hx hb d_Pg_inClasses_146 (by decide) ?_
      exact w_Pg_inClasses_j150 hE C hDD x0 x2 y0 (1:Int32) Sj T0 T1 Rd Pg Pt Mk Lk Ck Jd Ld Pr rt h _ _ _ hP hS (lv_sub hl [1, 3, 0] rfl)
    · replace h := o_ff c21 h
      exact w_Pg_inClasses_j70 hE C hDD x0 x1 x2 y0 Sj T0 T1 Rd Pg Pt Mk Lk Ck Jd Ld Pr rt h _ _ _ hP hS (lv_sub hl [1, 2, 3, 0] rfl)
set_option maxHeartbeats 4000000 in
set_option maxRecDepth 100000 in
theorem w_Pg_inClasses_j46 {E : (Nat → Prop) → State → Heap → Prop} {p : Program} {l : Launch} {e : Env} {s : State} {m : MethodId} {args : Array Value} {below : List Frame} {meth : Method} {c : Code} {D : va_G} {ad kd sd vd xd : Nat → Nat} {ca : Nat → ClassId} {A : Nat → Prop} (hE : o_EK E kd sd vd xd) (C : o_Cx E p s m args meth c D o_cls (o_tys ca) "SchemaJudge$Program" b_Pg_inClasses (some .boolean) 5 cc_Pg_inClasses A) (hDD : ∀ (rt : Nat) (Sj : SSJ) (T0 : STx) (T1 : STx) (Rd : SRd) (Pg : SPg) (Pt : SPt) (Mk : SMk) (Lk : SLk) (Ck : SCk) (Jd : SJd) (Ld : SLd) (Pr : SPr), va_D A (o_cw ad ca rt Sj T0 T1 Rd Pg Pt Mk Lk Ck Jd Ld Pr)) (x0 : Int32) (x1 : Int32) (x2 : Int32) (Sj : SSJ) (T0 : STx) (T1 : STx) (Rd : SRd) (Pg : SPg) (Pt : SPt) (Mk : SMk) (Lk : SLk) (Ck : SCk) (Jd : SJd) (Ld : SLd) (Pr : SPr) (rt : Nat) {r : Int32} (h : m_Pg_inClasses_j46 x0 x1 x2 = some r) : o_At p l e rm_Pg_inClasses s m args below meth c (MQ below (o_Qx D o_cls (some (.int r)) (o_cw ad ca rt Sj T0 T1 Rd Pg Pt Mk Lk Ck Jd Ld Pr) A) args s 0 0 A) o_cls D A 5 46 [] (o_cw ad ca rt Sj T0 T1 Rd Pg Pt Mk Lk Ck Jd Ld Pr) [(0, .int x0), (1, .int x1), (2, .int x2)] := by
  unfold m_Pg_inClasses_j46 at h
  intro H locs ls hP hS hl
  have C0 := C
  obtain ⟨hx, hb, -, -, -, hown, hts, hK, -, -⟩ := C0
  refine lv_iload_n hx hb d_Pg_inClasses_46 rfl (lv_at hl 1 rfl) ?_
  refine lv_bipush (v := (95:Int32)) hx hb d_Pg_inClasses_47 (by decide) ?_
  refine lv_icmp_ne (tgt := 56) hx hb d_Pg_inClasses_49 (by decide) (fun c24 => ?_) (fun c24 => ?_)
  · replace h := o_ff c24 h
    refine lv_iconst (v := (0:Int32)) hx hb d_Pg_inClasses_56 (by decide) ?_
    exact w_Pg_inClasses_j57 hE C hDD x0 x1 x2 (0:Int32) Sj T0 T1 Rd Pg Pt Mk Lk Ck Jd Ld Pr rt h _ _ _ hP hS (lv_sub hl [0, 1, 2] rfl)
  · replace h := o_tt c24 h
    refine lv_iconst (v := (1:Int32)) hx hb d_Pg_inClasses_52 (by decide) ?_
    refine lv_goto (tgt := 57) hx hb d_Pg_inClasses_53 (by decide) ?_
    exact w_Pg_inClasses_j57 hE C hDD x0 x1 x2 (1:Int32) Sj T0 T1 Rd Pg Pt Mk Lk Ck Jd Ld Pr rt h _ _ _ hP hS (lv_sub hl [0, 1, 2] rfl)
set_option maxHeartbeats 4000000 in
set_option maxRecDepth 100000 in
theorem w_Pg_inClasses_j34 {E : (Nat → Prop) → State → Heap → Prop} {p : Program} {l : Launch} {e : Env} {s : State} {m : MethodId} {args : Array Value} {below : List Frame} {meth : Method} {c : Code} {D : va_G} {ad kd sd vd xd : Nat → Nat} {ca : Nat → ClassId} {A : Nat → Prop} (hE : o_EK E kd sd vd xd) (C : o_Cx E p s m args meth c D o_cls (o_tys ca) "SchemaJudge$Program" b_Pg_inClasses (some .boolean) 5 cc_Pg_inClasses A) (hDD : ∀ (rt : Nat) (Sj : SSJ) (T0 : STx) (T1 : STx) (Rd : SRd) (Pg : SPg) (Pt : SPt) (Mk : SMk) (Lk : SLk) (Ck : SCk) (Jd : SJd) (Ld : SLd) (Pr : SPr), va_D A (o_cw ad ca rt Sj T0 T1 Rd Pg Pt Mk Lk Ck Jd Ld Pr)) (x0 : Int32) (x1 : Int32) (x2 : Int32) (Sj : SSJ) (T0 : STx) (T1 : STx) (Rd : SRd) (Pg : SPg) (Pt : SPt) (Mk : SMk) (Lk : SLk) (Ck : SCk) (Jd : SJd) (Ld : SLd) (Pr : SPr) (rt : Nat) {r : Int32} (h : m_Pg_inClasses_j34 x0 x1 x2 = some r) : o_At p l e rm_Pg_inClasses s m args below meth c (MQ below (o_Qx D o_cls (some (.int r)) (o_cw ad ca rt Sj T0 T1 Rd Pg Pt Mk Lk Ck Jd Ld Pr) A) args s 0 0 A) o_cls D A 5 34 [] (o_cw ad ca rt Sj T0 T1 Rd Pg Pt Mk Lk Ck Jd Ld Pr) [(0, .int x0), (1, .int x1), (2, .int x2)] := by
  unfold m_Pg_inClasses_j34 at h
  intro H locs ls hP hS hl
  have C0 := C
  obtain ⟨hx, hb, -, -, -, hown, hts, hK, -, -⟩ := C0
  refine lv_iload_n hx hb d_Pg_inClasses_34 rfl (lv_at hl 1 rfl) ?_
  refine lv_bipush (v := (65:Int32)) hx hb d_Pg_inClasses_35 (by decide) ?_
  refine lv_icmp_lt (tgt := 46) hx hb d_Pg_inClasses_37 (by decide) (fun c23 => ?_) (fun c23 => ?_)
  · replace h := o_tt c23 h
    exact w_Pg_inClasses_j46 hE C hDD x0 x1 x2 Sj T0 T1 Rd Pg Pt Mk Lk Ck Jd Ld Pr rt h _ _ _ hP hS (lv_sub hl [0, 1, 2] rfl)
  · replace h := o_ff c23 h
    refine lv_iload_n hx hb d_Pg_inClasses_40 rfl (lv_at hl 1 rfl) ?_
    refine lv_bipush (v := (90:Int32)) hx hb d_Pg_inClasses_41 (by decide) ?_
    refine lv_icmp_le (tgt := 52) hx hb d_Pg_inClasses_43 (by decide) (fun c25 => ?_) (fun c25 => ?_)
    · replace h := o_tt c25 h
      refine lv_iconst (v := (1:Int32)) hx hb d_Pg_inClasses_52 (by decide) ?_
      refine lv_goto (tgt := 57) hx hb d_Pg_inClasses_53 (by decide) ?_
      exact w_Pg_inClasses_j57 hE C hDD x0 x1 x2 (1:Int32) Sj T0 T1 Rd Pg Pt Mk Lk Ck Jd Ld Pr rt h _ _ _ hP hS (lv_sub hl [0, 1, 2] rfl)
    · replace h := o_ff c25 h
      exact w_Pg_inClasses_j46 hE C hDD x0 x1 x2 Sj T0 T1 Rd Pg Pt Mk Lk Ck Jd Ld Pr rt h _ _ _ hP hS (lv_sub hl [0, 1, 2] rfl)
set_option maxHeartbeats 4000000 in
set_option maxRecDepth 100000 in
theorem w_Pg_inClasses_j17 {E : (Nat → Prop) → State → Heap → Prop} {p : Program} {l : Launch} {e : Env} {s : State} {m : MethodId} {args : Array Value} {below : List Frame} {meth : Method} {c : Code} {D : va_G} {ad kd sd vd xd : Nat → Nat} {ca : Nat → ClassId} {A : Nat → Prop} (hE : o_EK E kd sd vd xd) (C : o_Cx E p s m args meth c D o_cls (o_tys ca) "SchemaJudge$Program" b_Pg_inClasses (some .boolean) 5 cc_Pg_inClasses A) (hDD : ∀ (rt : Nat) (Sj : SSJ) (T0 : STx) (T1 : STx) (Rd : SRd) (Pg : SPg) (Pt : SPt) (Mk : SMk) (Lk : SLk) (Ck : SCk) (Jd : SJd) (Ld : SLd) (Pr : SPr), va_D A (o_cw ad ca rt Sj T0 T1 Rd Pg Pt Mk Lk Ck Jd Ld Pr)) (x0 : Int32) (x1 : Int32) (y0 : Int32) (Sj : SSJ) (T0 : STx) (T1 : STx) (Rd : SRd) (Pg : SPg) (Pt : SPt) (Mk : SMk) (Lk : SLk) (Ck : SCk) (Jd : SJd) (Ld : SLd) (Pr : SPr) (rt : Nat) {r : Int32} (h : m_Pg_inClasses_j17 x0 x1 y0 = some r) : o_At p l e rm_Pg_inClasses s m args below meth c (MQ below (o_Qx D o_cls (some (.int r)) (o_cw ad ca rt Sj T0 T1 Rd Pg Pt Mk Lk Ck Jd Ld Pr) A) args s 0 0 A) o_cls D A 5 17 [.int y0] (o_cw ad ca rt Sj T0 T1 Rd Pg Pt Mk Lk Ck Jd Ld Pr) [(0, .int x0), (1, .int x1)] := by
  unfold m_Pg_inClasses_j17 at h
  intro H locs ls hP hS hl
  have C0 := C
  obtain ⟨hx, hb, -, -, -, hown, hts, hK, -, -⟩ := C0
  refine lv_istore_n (lv' := [(2, .int y0), (0, .int x0), (1, .int x1)]) hx hb d_Pg_inClasses_17 rfl hl (by decide) rfl (fun ls hl => ?_)
  refine lv_iload_n hx hb d_Pg_inClasses_18 rfl (lv_at hl 0 rfl) ?_
  refine lv_if_ne (tgt := 52) hx hb d_Pg_inClasses_19 (by decide) (fun c2 => ?_) (fun c2 => ?_)
  · replace h := o_ff c2 h
    refine lv_iconst (v := (1:Int32)) hx hb d_Pg_inClasses_52 (by decide) ?_
    refine lv_goto (tgt := 57) hx hb d_Pg_inClasses_53 (by decide) ?_
    exact w_Pg_inClasses_j57 hE C hDD x0 x1 y0 (1:Int32) Sj T0 T1 Rd Pg Pt Mk Lk Ck Jd Ld Pr rt h _ _ _ hP hS (lv_sub hl [1, 2, 0] rfl)
  · replace h := o_tt c2 h
    refine lv_iload_n hx hb d_Pg_inClasses_22 rfl (lv_at hl 2 rfl) ?_
    refine lv_bipush (v := (97:Int32)) hx hb d_Pg_inClasses_23 (by decide) ?_
    refine lv_icmp_lt (tgt := 34) hx hb d_Pg_inClasses_25 (by decide) (fun c22 => ?_) (fun c22 => ?_)
    · replace h := o_tt c22 h
      exact w_Pg_inClasses_j34 hE C hDD x0 x1 y0 Sj T0 T1 Rd Pg Pt Mk Lk Ck Jd Ld Pr rt h _ _ _ hP hS (lv_sub hl [1, 2, 0] rfl)
    · replace h := o_ff c22 h
      refine lv_iload_n hx hb d_Pg_inClasses_28 rfl (lv_at hl 2 rfl) ?_
      refine lv_bipush (v := (122:Int32)) hx hb d_Pg_inClasses_29 (by decide) ?_
      refine lv_icmp_le (tgt := 52) hx hb d_Pg_inClasses_31 (by decide) (fun c26 => ?_) (fun c26 => ?_)
      · replace h := o_tt c26 h
        refine lv_iconst (v := (1:Int32)) hx hb d_Pg_inClasses_52 (by decide) ?_
        refine lv_goto (tgt := 57) hx hb d_Pg_inClasses_53 (by decide) ?_
        exact w_Pg_inClasses_j57 hE C hDD x0 x1 y0 (1:Int32) Sj T0 T1 Rd Pg Pt Mk Lk Ck Jd Ld Pr rt h _ _ _ hP hS (lv_sub hl [1, 2, 0] rfl)
      · replace h := o_ff c26 h
        exact w_Pg_inClasses_j34 hE C hDD x0 x1 y0 Sj T0 T1 Rd Pg Pt Mk Lk Ck Jd Ld Pr rt h _ _ _ hP hS (lv_sub hl [1, 2, 0] rfl)
set_option maxHeartbeats 4000000 in
set_option maxRecDepth 100000 in
theorem c_Pg_inClasses {E : (Nat → Prop) → State → Heap → Prop} {D : va_G} {ad kd sd vd xd : Nat → Nat} {ca : Nat → ClassId} (hE : o_EK E kd sd vd xd) (l : Launch) (x0 : Int32) (x1 : Int32) (Sj : SSJ) (T0 : STx) (T1 : STx) (Rd : SRd) (Pg : SPg) (Pt : SPt) (Mk : SMk) (Lk : SLk) (Ck : SCk) (Jd : SJd) (Ld : SLd) (Pr : SPr) (rt : Nat) {r : Int32} (h : m_Pg_inClasses x0 x1 = some r) : o_Cn E l D o_cls (o_tys ca) y_Pg_inClasses cc_Pg_inClasses rm_Pg_inClasses [.int x0, .int x1] (o_cw ad ca rt Sj T0 T1 Rd Pg Pt Mk Lk Ck Jd Ld Pr) (o_cw ad ca rt Sj T0 T1 Rd Pg Pt Mk Lk Ck Jd Ld Pr) (some (.int r)) := by
  refine o_Cn_of (by decide) (Nat.le_of_ble_eq_true rfl) ?_
  intro p e s m below meth c A ls C hD hP hS hl
  have hDD : ∀ (rt : Nat) (Sj : SSJ) (T0 : STx) (T1 : STx) (Rd : SRd) (Pg : SPg) (Pt : SPt) (Mk : SMk) (Lk : SLk) (Ck : SCk) (Jd : SJd) (Ld : SLd) (Pr : SPr), va_D A (o_cw ad ca rt Sj T0 T1 Rd Pg Pt Mk Lk Ck Jd Ld Pr) := fun _ _ _ _ _ _ _ _ _ _ _ _ _ => o_D_map hD rfl
  have hl : lv_has ls 5 [(0, .int x0), (1, .int x1)] := hl
  unfold m_Pg_inClasses at h
  have C0 := C
  obtain ⟨hx, hb, -, -, -, hown, hts, hK, -, -⟩ := C0
  refine lv_iload_n hx hb d_Pg_inClasses_0 rfl (lv_at hl 1 rfl) ?_
  refine lv_bipush (v := (48:Int32)) hx hb d_Pg_inClasses_1 (by decide) ?_
  refine lv_icmp_lt (tgt := 16) hx hb d_Pg_inClasses_3 (by decide) (fun c1 => ?_) (fun c1 => ?_)
  · replace h := o_tt c1 h
    refine lv_iconst (v := (0:Int32)) hx hb d_Pg_inClasses_16 (by decide) ?_
    exact w_Pg_inClasses_j17 hE C hDD x0 x1 (0:Int32) Sj T0 T1 Rd Pg Pt Mk Lk Ck Jd Ld Pr rt h _ _ _ hP hS (lv_sub hl [0, 1] rfl)
  · replace h := o_ff c1 h
    refine lv_iload_n hx hb d_Pg_inClasses_6 rfl (lv_at hl 1 rfl) ?_
    refine lv_bipush (v := (57:Int32)) hx hb d_Pg_inClasses_7 (by decide) ?_
    refine lv_icmp_gt (tgt := 16) hx hb d_Pg_inClasses_9 (by decide) (fun c27 => ?_) (fun c27 => ?_)
    · replace h := o_tt c27 h
      refine lv_iconst (v := (0:Int32)) hx hb d_Pg_inClasses_16 (by decide) ?_
      exact w_Pg_inClasses_j17 hE C hDD x0 x1 (0:Int32) Sj T0 T1 Rd Pg Pt Mk Lk Ck Jd Ld Pr rt h _ _ _ hP hS (lv_sub hl [0, 1] rfl)
    · replace h := o_ff c27 h
      refine lv_iconst (v := (1:Int32)) hx hb d_Pg_inClasses_12 (by decide) ?_
      refine lv_goto (tgt := 17) hx hb d_Pg_inClasses_13 (by decide) ?_
      exact w_Pg_inClasses_j17 hE C hDD x0 x1 (1:Int32) Sj T0 T1 Rd Pg Pt Mk Lk Ck Jd Ld Pr rt h _ _ _ hP hS (lv_sub hl [0, 1] rfl)
set_option maxHeartbeats 4000000 in
set_option maxRecDepth 100000 in
theorem w_Pg_inRanges_b27 {E : (Nat → Prop) → State → Heap → Prop} {p : Program} {l : Launch} {e : Env} {s : State} {m : MethodId} {args : Array Value} {below : List Frame} {meth : Method} {c : Code} {D : va_G} {ad kd sd vd xd : Nat → Nat} {ca : Nat → ClassId} {A : Nat → Prop} {Q : State → Prop} (hE : o_EK E kd sd vd xd) (C : o_Cx E p s m args meth c D o_cls (o_tys ca) "SchemaJudge$Program" b_Pg_inRanges (some .boolean) 6 cc_Pg_inRanges A) (hDD : ∀ (rt : Nat) (Sj : SSJ) (T0 : STx) (T1 : STx) (Rd : SRd) (Pg : SPg) (Pt : SPt) (Mk : SMk) (Lk : SLk) (Ck : SCk) (Jd : SJd) (Ld : SLd) (Pr : SPr), va_D A (o_cw ad ca rt Sj T0 T1 Rd Pg Pt Mk Lk Ck Jd Ld Pr)) (n : Nat) (u27_x1 : Int32) (u27_x2 : Int32) (u27_x3 : Int32) (u27_Pg : SPg) (u27_Sj : SSJ) (u27_T0 : STx) (u27_T1 : STx) (u27_Rd : SRd) (u27_Pt : SPt) (u27_Mk : SMk) (u27_Lk : SLk) (u27_Ck : SCk) (u27_Jd : SJd) (u27_Ld : SLd) (u27_Pr : SPr) (u27_rt : Nat) (z : Int32) (q : Nat × Int32) (h : m_Pg_inRanges_b27 n u27_x1 u27_x2 u27_x3 u27_Pg z = some q) (h0 : q.1 = 0 → o_At p l e rm_Pg_inRanges s m args below meth c Q o_cls D A 6 27 [] (o_cw ad ca u27_rt u27_Sj u27_T0 u27_T1 u27_Rd u27_Pg u27_Pt u27_Mk u27_Lk u27_Ck u27_Jd u27_Ld u27_Pr) [(0, .ref (ad 25)), (1, .int u27_x1), (2, .int u27_x2), (3, .int u27_x3), (4, .int q.2)]) (h1 : q.1 ≠ 0 → (if q.1 = 1 then o_At p l e rm_Pg_inRanges s m args below meth c Q o_cls D A 6 79 [] (o_cw ad ca u27_rt u27_Sj u27_T0 u27_T1 u27_Rd u27_Pg u27_Pt u27_Mk u27_Lk u27_Ck u27_Jd u27_Ld u27_Pr) [] else o_At p l e rm_Pg_inRanges s m args below meth c Q o_cls D A 6 87 [] (o_cw ad ca u27_rt u27_Sj u27_T0 u27_T1 u27_Rd u27_Pg u27_Pt u27_Mk u27_Lk u27_Ck u27_Jd u27_Ld u27_Pr) [])) : o_At p l e rm_Pg_inRanges s m args below meth c Q o_cls D A 6 27 [] (o_cw ad ca u27_rt u27_Sj u27_T0 u27_T1 u27_Rd u27_Pg u27_Pt u27_Mk u27_Lk u27_Ck u27_Jd u27_Ld u27_Pr) [(0, .ref (ad 25)), (1, .int u27_x1), (2, .int u27_x2), (3, .int u27_x3), (4, .int z)] := by
  unfold m_Pg_inRanges_b27 at h
  intro H locs ls hP hS hl
  have C0 := C
  obtain ⟨hx, hb, -, -, -, hown, hts, hK, -, -⟩ := C0
  refine lv_iload hx hb d_Pg_inRanges_27 (lv_at hl 4 rfl) ?_
  refine lv_iload_n hx hb d_Pg_inRanges_29 rfl (lv_at hl 3 rfl) ?_
  refine lv_icmp_ge (tgt := 87) hx hb d_Pg_inRanges_30 (by decide) (fun c2 => ?_) (fun c2 => ?_)
  · replace h := o_tt c2 h
    cases h
    exact h1 (Nat.succ_ne_zero 1) _ _ _ hP hS (lv_sub hl [] rfl)
  · replace h := o_ff c2 h
    refine lv_iload_n hx hb d_Pg_inRanges_33 rfl (lv_at hl 1 rfl) ?_
    refine lv_iconst (v := (2:Int32)) hx hb d_Pg_inRanges_34 (by decide) ?_
    refine lv_iadd hx hb d_Pg_inRanges_35 ?_
    refine lv_iconst (v := (2:Int32)) hx hb d_Pg_inRanges_36 (by decide) ?_
    refine lv_iload hx hb d_Pg_inRanges_37 (lv_at hl 4 rfl) ?_
    refine lv_imul hx hb d_Pg_inRanges_39 ?_
    refine lv_iadd hx hb d_Pg_inRanges_40 ?_
    refine lv_topi (fun x5_41 ex5_41 => ?_)
    replace h := o_nm_at ex5_41 h
    refine lv_istore (lv' := [(5, .int x5_41), (0, .ref (ad 25)), (1, .int u27_x1), (2, .int u27_x2), (3, .int u27_x3), (4, .int z)]) hx hb d_Pg_inRanges_41 hl (by decide) rfl (fun ls hl => ?_)
    refine lv_iload hx hb d_Pg_inRanges_43 (lv_at hl 0 rfl) ?_
    refine lv_iconst (v := (1:Int32)) hx hb d_Pg_inRanges_45 (by decide) ?_
    refine lv_iadd hx hb d_Pg_inRanges_46 ?_
    refine lv_aload_n hx hb d_Pg_inRanges_47 rfl (lv_at hl 1 rfl) ?_
    refine o_get (v := .ref (ad 28)) C in_Pg hP 25 cw_25 rfl 3 (by decide) k_1_123 rfl rfl d_Pg_inRanges_48 ?_
    refine va_alen (v := (8000:Int32)) hx hb hK hP 28 23 cw_28 rfl rfl d_Pg_inRanges_51 ?_
    refine lv_icmp_ge (tgt := 81) hx hb d_Pg_inRanges_52 (by decide) (fun c3 => ?_) (fun c3 => ?_)
    · replace h := o_tt c3 h
      obtain ⟨x4_81, ex4_81⟩ : ∃ y : Int32, y = z + (1:Int32) := ⟨_, rfl⟩
      replace h := o_nm_at ex4_81 h
      refine lv_iinc (v := x4_81) (lv' := [(4, .int x4_81), (5, .int x5_41), (0, .ref (ad 25)), (1, .int u27_x1), (2, .int u27_x2), (3, .int u27_x3)]) hx hb d_Pg_inRanges_81 hl (k := 5) rfl (by rw [ex4_81]; rfl) (by decide) rfl (fun ls hl => ?_)
      refine lv_goto (tgt := 27) hx hb d_Pg_inRanges_84 (by decide) ?_
      cases h
      exact h0 rfl _ _ _ hP hS (lv_sub hl [2, 3, 4, 5, 0] rfl)
    · replace h := o_ff c3 h
      refine lv_iload_n hx hb d_Pg_inRanges_55 rfl (lv_at hl 3 rfl) ?_
      refine lv_aload_n hx hb d_Pg_inRanges_56 rfl (lv_at hl 1 rfl) ?_
      refine o_get (v := .ref (ad 28)) C in_Pg hP 25 cw_25 rfl 3 (by decide) k_1_123 rfl rfl d_Pg_inRanges_57 ?_
      refine lv_iload hx hb d_Pg_inRanges_60 (lv_at hl 0 rfl) ?_
      obtain ⟨g4, h⟩ := o_gd_some h
      refine o_iald (f := (Pg_sets u27_Pg)) C hP 28 23 cw_28 rfl g4 d_Pg_inRanges_62 ?_
      refine lv_icmp_lt (tgt := 81) hx hb d_Pg_inRanges_63 (by decide) (fun c5 => ?_) (fun c5 => ?_)
      · replace h := o_tt c5 h
        obtain ⟨x4_81, ex4_81⟩ : ∃ y : Int32, y = z + (1:Int32) := ⟨_, rfl⟩
        replace h := o_nm_at ex4_81 h
        refine lv_iinc (v := x4_81) (lv' := [(4, .int x4_81), (5, .int x5_41), (0, .ref (ad 25)), (1, .int u27_x1), (2, .int u27_x2), (3, .int u27_x3)]) hx hb d_Pg_inRanges_81 hl (k := 5) rfl (by rw [ex4_81]; rfl) (by decide) rfl (fun ls hl => ?_)
        refine lv_goto (tgt := 27) hx hb d_Pg_inRanges_84 (by decide) ?_
        cases h
        exact h0 rfl _ _ _ hP hS (lv_sub hl [2, 3, 4, 5, 0] rfl)
      · replace h := o_ff c5 h
        refine lv_iload_n hx hb d_Pg_inRanges_66 rfl (lv_at hl 3 rfl) ?_
        refine lv_aload_n hx hb d_Pg_inRanges_67 rfl (lv_at hl 1 rfl) ?_
        refine o_get (v := .ref (ad 28)) C in_Pg hP 25 cw_25 rfl 3 (by decide) k_1_123 rfl rfl d_Pg_inRanges_68 ?_
        refine lv_iload hx hb d_Pg_inRanges_71 (lv_at hl 0 rfl) ?_
        refine lv_iconst (v := (1:Int32)) hx hb d_Pg_inRanges_73 (by decide) ?_
        refine lv_iadd hx hb d_Pg_inRanges_74 ?_
        obtain ⟨g6, h⟩ := o_gd_some h
        refine o_iald (f := (Pg_sets u27_Pg)) C hP 28 23 cw_28 rfl g6 d_Pg_inRanges_75 ?_
        refine lv_icmp_gt (tgt := 81) hx hb d_Pg_inRanges_76 (by decide) (fun c7 => ?_) (fun c7 => ?_)
        · replace h := o_tt c7 h
          obtain ⟨x4_81, ex4_81⟩ : ∃ y : Int32, y = z + (1:Int32) := ⟨_, rfl⟩
          replace h := o_nm_at ex4_81 h
          refine lv_iinc (v := x4_81) (lv' := [(4, .int x4_81), (5, .int x5_41), (0, .ref (ad 25)), (1, .int u27_x1), (2, .int u27_x2), (3, .int u27_x3)]) hx hb d_Pg_inRanges_81 hl (k := 5) rfl (by rw [ex4_81]; rfl) (by decide) rfl (fun ls hl => ?_)
          refine lv_goto (tgt := 27) hx hb d_Pg_inRanges_84 (by decide) ?_
          cases h
          exact h0 rfl _ _ _ hP hS (lv_sub hl [2, 3, 4, 5, 0] rfl)
        · replace h := o_ff c7 h
          cases h
          exact h1 (Nat.succ_ne_zero 0) _ _ _ hP hS (lv_sub hl [] rfl)
set_option maxHeartbeats 4000000 in
set_option maxRecDepth 100000 in
theorem c_Pg_inRanges {E : (Nat → Prop) → State → Heap → Prop} {D : va_G} {ad kd sd vd xd : Nat → Nat} {ca : Nat → ClassId} (hE : o_EK E kd sd vd xd) (l : Launch) (n : Nat) (x1 : Int32) (x2 : Int32) (Pg : SPg) (Sj : SSJ) (T0 : STx) (T1 : STx) (Rd : SRd) (Pt : SPt) (Mk : SMk) (Lk : SLk) (Ck : SCk) (Jd : SJd) (Ld : SLd) (Pr : SPr) (rt : Nat) {r : Int32} (h : m_Pg_inRanges n x1 x2 Pg = some r) : o_Cn E l D o_cls (o_tys ca) y_Pg_inRanges cc_Pg_inRanges rm_Pg_inRanges [.ref (ad 25), .int x1, .int x2] (o_cw ad ca rt Sj T0 T1 Rd Pg Pt Mk Lk Ck Jd Ld Pr) (o_cw ad ca rt Sj T0 T1 Rd Pg Pt Mk Lk Ck Jd Ld Pr) (some (.int r)) := by
  refine o_Cn_of (by decide) (Nat.le_of_ble_eq_true rfl) ?_
  intro p e s m below meth c A ls C hD hP hS hl
  have hDD : ∀ (rt : Nat) (Sj : SSJ) (T0 : STx) (T1 : STx) (Rd : SRd) (Pg : SPg) (Pt : SPt) (Mk : SMk) (Lk : SLk) (Ck : SCk) (Jd : SJd) (Ld : SLd) (Pr : SPr), va_D A (o_cw ad ca rt Sj T0 T1 Rd Pg Pt Mk Lk Ck Jd Ld Pr) := fun _ _ _ _ _ _ _ _ _ _ _ _ _ => o_D_map hD rfl
  have hl : lv_has ls 6 [(0, .ref (ad 25)), (1, .int x1), (2, .int x2)] := hl
  unfold m_Pg_inRanges at h
  have C0 := C
  obtain ⟨hx, hb, -, -, -, hown, hts, hK, -, -⟩ := C0
  refine lv_iload_n hx hb d_Pg_inRanges_0 rfl (lv_at hl 1 rfl) ?_
  refine lv_if_lt (tgt := 22) hx hb d_Pg_inRanges_1 (by decide) (fun c1 => ?_) (fun c1 => ?_)
  · replace h := o_tt c1 h
    refine lv_iconst (v := (0:Int32)) hx hb d_Pg_inRanges_22 (by decide) ?_
    refine lv_istore_n (lv' := [(3, .int (0:Int32)), (0, .ref (ad 25)), (1, .int x1), (2, .int x2)]) hx hb d_Pg_inRanges_23 rfl hl (by decide) rfl (fun ls hl => ?_)
    refine lv_iconst (v := (0:Int32)) hx hb d_Pg_inRanges_24 (by decide) ?_
    refine lv_istore (lv' := [(4, .int (0:Int32)), (3, .int (0:Int32)), (0, .ref (ad 25)), (1, .int x1), (2, .int x2)]) hx hb d_Pg_inRanges_25 hl (by decide) rfl (fun ls hl => ?_)
    obtain ⟨q1, hq1, h⟩ := o_bd_some h
    refine o_sim2 (AH := fun zz => o_At p l e rm_Pg_inRanges s m _ below meth c _ o_cls D A 6 27 [] (o_cw ad ca rt Sj T0 T1 Rd Pg Pt Mk Lk Ck Jd Ld Pr) [(0, .ref (ad 25)), (1, .int x1), (2, .int x2), (3, .int (0:Int32)), (4, .int zz)]) (AX := fun qq => if qq.1 = 1 then o_At p l e rm_Pg_inRanges s m _ below meth c _ o_cls D A 6 79 [] (o_cw ad ca rt Sj T0 T1 Rd Pg Pt Mk Lk Ck Jd Ld Pr) [] else o_At p l e rm_Pg_inRanges s m _ below meth c _ o_cls D A 6 87 [] (o_cw ad ca rt Sj T0 T1 Rd Pg Pt Mk Lk Ck Jd Ld Pr) []) (fun zz qq h h0 h1 => w_Pg_inRanges_b27 hE C hDD n x1 x2 (0:Int32) Pg Sj T0 T1 Rd Pt Mk Lk Ck Jd Ld Pr rt zz qq h h0 h1) n _ q1 hq1 ?_ _ _ _ hP hS (lv_sub hl [2, 3, 4, 1, 0] rfl)
    by_cases c8 : q1.1 = 1
    · replace h := o_tt c8 h
      refine o_ip c8 ?_
      intro H locs ls hP hS hl
      refine lv_iconst (v := (1:Int32)) hx hb d_Pg_inRanges_79 (by decide) ?_
      cases h
      exact o_rz (v := (1:Int32)) C o_nar1 hP hS d_Pg_inRanges_80
    replace h := o_ff c8 h
    refine o_in_ c8 ?_
    intro H locs ls hP hS hl
    refine lv_iconst (v := (0:Int32)) hx hb d_Pg_inRanges_87 (by decide) ?_
    cases h
    exact o_rz (v := (0:Int32)) C o_nar0 hP hS d_Pg_inRanges_88
  · replace h := o_ff c1 h
    refine lv_iload_n hx hb d_Pg_inRanges_4 rfl (lv_at hl 1 rfl) ?_
    refine lv_aload_n hx hb d_Pg_inRanges_5 rfl (lv_at hl 0 rfl) ?_
    refine o_get (v := .ref (ad 28)) C in_Pg hP 25 cw_25 rfl 3 (by decide) k_1_123 rfl rfl d_Pg_inRanges_6 ?_
    refine va_alen (v := (8000:Int32)) hx hb hK hP 28 23 cw_28 rfl rfl d_Pg_inRanges_9 ?_
    refine lv_icmp_ge (tgt := 22) hx hb d_Pg_inRanges_10 (by decide) (fun c9 => ?_) (fun c9 => ?_)
    · replace h := o_tt c9 h
      refine lv_iconst (v := (0:Int32)) hx hb d_Pg_inRanges_22 (by decide) ?_
      refine lv_istore_n (lv' := [(3, .int (0:Int32)), (0, .ref (ad 25)), (1, .int x1), (2, .int x2)]) hx hb d_Pg_inRanges_23 rfl hl (by decide) rfl (fun ls hl => ?_)
      refine lv_iconst (v := (0:Int32)) hx hb d_Pg_inRanges_24 (by decide) ?_
      refine lv_istore (lv' := [(4, .int (0:Int32)), (3, .int (0:Int32)), (0, .ref (ad 25)), (1, .int x1), (2, .int x2)]) hx hb d_Pg_inRanges_25 hl (by decide) rfl (fun ls hl => ?_)
      obtain ⟨q2, hq2, h⟩ := o_bd_some h
      refine o_sim2 (AH := fun zz => o_At p l e rm_Pg_inRanges s m _ below meth c _ o_cls D A 6 27 [] (o_cw ad ca rt Sj T0 T1 Rd Pg Pt Mk Lk Ck Jd Ld Pr) [(0, .ref (ad 25)), (1, .int x1), (2, .int x2), (3, .int (0:Int32)), (4, .int zz)]) (AX := fun qq => if qq.1 = 1 then o_At p l e rm_Pg_inRanges s m _ below meth c _ o_cls D A 6 79 [] (o_cw ad ca rt Sj T0 T1 Rd Pg Pt Mk Lk Ck Jd Ld Pr) [] else o_At p l e rm_Pg_inRanges s m _ below meth c _ o_cls D A 6 87 [] (o_cw ad ca rt Sj T0 T1 Rd Pg Pt Mk Lk Ck Jd Ld Pr) []) (fun zz qq h h0 h1 => w_Pg_inRanges_b27 hE C hDD n x1 x2 (0:Int32) Pg Sj T0 T1 Rd Pt Mk Lk Ck Jd Ld Pr rt zz qq h h0 h1) n _ q2 hq2 ?_ _ _ _ hP hS (lv_sub hl [2, 3, 4, 1, 0] rfl)
      by_cases c10 : q2.1 = 1
      · replace h := o_tt c10 h
        refine o_ip c10 ?_
        intro H locs ls hP hS hl
        refine lv_iconst (v := (1:Int32)) hx hb d_Pg_inRanges_79 (by decide) ?_
        cases h
        exact o_rz (v := (1:Int32)) C o_nar1 hP hS d_Pg_inRanges_80
      replace h := o_ff c10 h
      refine o_in_ c10 ?_
      intro H locs ls hP hS hl
      refine lv_iconst (v := (0:Int32)) hx hb d_Pg_inRanges_87 (by decide) ?_
      cases h
      exact o_rz (v := (0:Int32)) C o_nar0 hP hS d_Pg_inRanges_88
    · replace h := o_ff c9 h
      refine lv_aload_n hx hb d_Pg_inRanges_13 rfl (lv_at hl 0 rfl) ?_
      refine o_get (v := .ref (ad 28)) C in_Pg hP 25 cw_25 rfl 3 (by decide) k_1_123 rfl rfl d_Pg_inRanges_14 ?_
      refine lv_iload_n hx hb d_Pg_inRanges_17 rfl (lv_at hl 1 rfl) ?_
      obtain ⟨g11, h⟩ := o_gd_some h
      refine o_iald (f := (Pg_sets Pg)) C hP 28 23 cw_28 rfl g11 d_Pg_inRanges_18 ?_
      refine lv_goto (tgt := 23) hx hb d_Pg_inRanges_19 (by decide) ?_
      refine lv_topi (fun x3_23 ex3_23 => ?_)
      replace h := o_nm_at ex3_23 h
      refine lv_istore_n (lv' := [(3, .int x3_23), (0, .ref (ad 25)), (1, .int x1), (2, .int x2)]) hx hb d_Pg_inRanges_23 rfl hl (by decide) rfl (fun ls hl => ?_)
      refine lv_iconst (v := (0:Int32)) hx hb d_Pg_inRanges_24 (by decide) ?_
      refine lv_istore (lv' := [(4, .int (0:Int32)), (3, .int x3_23), (0, .ref (ad 25)), (1, .int x1), (2, .int x2)]) hx hb d_Pg_inRanges_25 hl (by decide) rfl (fun ls hl => ?_)
      obtain ⟨q3, hq3, h⟩ := o_bd_some h
      refine o_sim2 (AH := fun zz => o_At p l e rm_Pg_inRanges s m _ below meth c _ o_cls D A 6 27 [] (o_cw ad ca rt Sj T0 T1 Rd Pg Pt Mk Lk Ck Jd Ld Pr) [(0, .ref (ad 25)), (1, .int x1), (2, .int x2), (3, .int x3_23), (4, .int zz)]) (AX := fun qq => if qq.1 = 1 then o_At p l e rm_Pg_inRanges s m _ below meth c _ o_cls D A 6 79 [] (o_cw ad ca rt Sj T0 T1 Rd Pg Pt Mk Lk Ck Jd Ld Pr) [] else o_At p l e rm_Pg_inRanges s m _ below meth c _ o_cls D A 6 87 [] (o_cw ad ca rt Sj T0 T1 Rd Pg Pt Mk Lk Ck Jd Ld Pr) []) (fun zz qq h h0 h1 => w_Pg_inRanges_b27 hE C hDD n x1 x2 x3_23 Pg Sj T0 T1 Rd Pt Mk Lk Ck Jd Ld Pr rt zz qq h h0 h1) n _ q3 hq3 ?_ _ _ _ hP hS (lv_sub hl [2, 3, 4, 1, 0] rfl)
      by_cases c12 : q3.1 = 1
      · replace h := o_tt c12 h
        refine o_ip c12 ?_
        intro H locs ls hP hS hl
        refine lv_iconst (v := (1:Int32)) hx hb d_Pg_inRanges_79 (by decide) ?_
        cases h
        exact o_rz (v := (1:Int32)) C o_nar1 hP hS d_Pg_inRanges_80
      replace h := o_ff c12 h
      refine o_in_ c12 ?_
      intro H locs ls hP hS hl
      refine lv_iconst (v := (0:Int32)) hx hb d_Pg_inRanges_87 (by decide) ?_
      cases h
      exact o_rz (v := (0:Int32)) C o_nar0 hP hS d_Pg_inRanges_88
set_option maxHeartbeats 4000000 in
set_option maxRecDepth 100000 in
theorem w_Pg_accepts_j166 {E : (Nat → Prop) → State → Heap → Prop} {p : Program} {l : Launch} {e : Env} {s : State} {m : MethodId} {args : Array Value} {below : List Frame} {meth : Method} {c : Code} {D : va_G} {ad kd sd vd xd : Nat → Nat} {ca : Nat → ClassId} {A : Nat → Prop} (hE : o_EK E kd sd vd xd) (C : o_Cx E p s m args meth c D o_cls (o_tys ca) "SchemaJudge$Program" b_Pg_accepts (some .boolean) 5 cc_Pg_accepts A) (hDD : ∀ (rt : Nat) (Sj : SSJ) (T0 : STx) (T1 : STx) (Rd : SRd) (Pg : SPg) (Pt : SPt) (Mk : SMk) (Lk : SLk) (Ck : SCk) (Jd : SJd) (Ld : SLd) (Pr : SPr), va_D A (o_cw ad ca rt Sj T0 T1 Rd Pg Pt Mk Lk Ck Jd Ld Pr)) (n : Nat) (y0 : Int32) (y1 : Int32) (Pg : SPg) (Sj : SSJ) (T0 : STx) (T1 : STx) (Rd : SRd) (Pt : SPt) (Mk : SMk) (Lk : SLk) (Ck : SCk) (Jd : SJd) (Ld : SLd) (Pr : SPr) (rt : Nat) {r : Int32} (h : m_Pg_accepts_j166 n y0 y1 Pg = some r) : o_At p l e rm_Pg_accepts s m args below meth c (MQ below (o_Qx D o_cls (some (.int r)) (o_cw ad ca rt Sj T0 T1 Rd Pg Pt Mk Lk Ck Jd Ld Pr) A) args s 0 0 A) o_cls D A 5 166 [.int y1, .int y0] (o_cw ad ca rt Sj T0 T1 Rd Pg Pt Mk Lk Ck Jd Ld Pr) [] := by
  unfold m_Pg_accepts_j166 at h
  intro H locs ls hP hS hl
  have C0 := C
  obtain ⟨hx, hb, -, -, -, hown, hts, hK, -, -⟩ := C0
  refine lv_icmp_eq (tgt := 173) hx hb d_Pg_accepts_166 (by decide) (fun c17 => ?_) (fun c17 => ?_)
  · replace h := o_tt c17 h
    refine lv_iconst (v := (0:Int32)) hx hb d_Pg_accepts_173 (by decide) ?_
    cases h
    exact o_rz (v := (0:Int32)) C o_nar0 hP hS d_Pg_accepts_174
  · replace h := o_ff c17 h
    refine lv_iconst (v := (1:Int32)) hx hb d_Pg_accepts_169 (by decide) ?_
    refine lv_goto (tgt := 174) hx hb d_Pg_accepts_170 (by decide) ?_
    cases h
    exact o_rz (v := (1:Int32)) C o_nar1 hP hS d_Pg_accepts_174
set_option maxHeartbeats 4000000 in
set_option maxRecDepth 100000 in
theorem w_Pg_accepts_j153 {E : (Nat → Prop) → State → Heap → Prop} {p : Program} {l : Launch} {e : Env} {s : State} {m : MethodId} {args : Array Value} {below : List Frame} {meth : Method} {c : Code} {D : va_G} {ad kd sd vd xd : Nat → Nat} {ca : Nat → ClassId} {A : Nat → Prop} (hE : o_EK E kd sd vd xd) (C : o_Cx E p s m args meth c D o_cls (o_tys ca) "SchemaJudge$Program" b_Pg_accepts (some .boolean) 5 cc_Pg_accepts A) (hDD : ∀ (rt : Nat) (Sj : SSJ) (T0 : STx) (T1 : STx) (Rd : SRd) (Pg : SPg) (Pt : SPt) (Mk : SMk) (Lk : SLk) (Ck : SCk) (Jd : SJd) (Ld : SLd) (Pr : SPr), va_D A (o_cw ad ca rt Sj T0 T1 Rd Pg Pt Mk Lk Ck Jd Ld Pr)) (n : Nat) (x4 : Int32) (y0 : Int32) (Pg : SPg) (Sj : SSJ) (T0 : STx) (T1 : STx) (Rd : SRd) (Pt : SPt) (Mk : SMk) (Lk : SLk) (Ck : SCk) (Jd : SJd) (Ld : SLd) (Pr : SPr) (rt : Nat) {r : Int32} (h : m_Pg_accepts_j153 n x4 y0 Pg = some r) : o_At p l e rm_Pg_accepts s m args below meth c (MQ below (o_Qx D o_cls (some (.int r)) (o_cw ad ca rt Sj T0 T1 Rd Pg Pt Mk Lk Ck Jd Ld Pr) A) args s 0 0 A) o_cls D A 5 153 [.int y0] (o_cw ad ca rt Sj T0 T1 Rd Pg Pt Mk Lk Ck Jd Ld Pr) [(4, .int x4)] := by
  unfold m_Pg_accepts_j153 at h
  intro H locs ls hP hS hl
  have C0 := C
  obtain ⟨hx, hb, -, -, -, hown, hts, hK, -, -⟩ := C0
  refine lv_iload hx hb d_Pg_accepts_153 (lv_at hl 0 rfl) ?_
  refine lv_bipush (v := (64:Int32)) hx hb d_Pg_accepts_155 (by decide) ?_
  refine lv_iand hx hb d_Pg_accepts_157 ?_
  refine lv_if_eq (tgt := 165) hx hb d_Pg_accepts_158 (by decide) (fun c16 => ?_) (fun c16 => ?_)
  · replace h := o_tt c16 h
    refine lv_iconst (v := (0:Int32)) hx hb d_Pg_accepts_165 (by decide) ?_
    exact w_Pg_accepts_j166 hE C hDD n y0 (0:Int32) Pg Sj T0 T1 Rd Pt Mk Lk Ck Jd Ld Pr rt h _ _ _ hP hS (lv_sub hl [] rfl)
  · replace h := o_ff c16 h
    refine lv_iconst (v := (1:Int32)) hx hb d_Pg_accepts_161 (by decide) ?_
    refine lv_goto (tgt := 166) hx hb d_Pg_accepts_162 (by decide) ?_
    exact w_Pg_accepts_j166 hE C hDD n y0 (1:Int32) Pg Sj T0 T1 Rd Pt Mk Lk Ck Jd Ld Pr rt h _ _ _ hP hS (lv_sub hl [] rfl)
set_option maxHeartbeats 4000000 in
set_option maxRecDepth 100000 in
theorem w_Pg_accepts_j128 {E : (Nat → Prop) → State → Heap → Prop} {p : Program} {l : Launch} {e : Env} {s : State} {m : MethodId} {args : Array Value} {below : List Frame} {meth : Method} {c : Code} {D : va_G} {ad kd sd vd xd : Nat → Nat} {ca : Nat → ClassId} {A : Nat → Prop} (hE : o_EK E kd sd vd xd) (C : o_Cx E p s m args meth c D o_cls (o_tys ca) "SchemaJudge$Program" b_Pg_accepts (some .boolean) 5 cc_Pg_accepts A) (hDD : ∀ (rt : Nat) (Sj : SSJ) (T0 : STx) (T1 : STx) (Rd : SRd) (Pg : SPg) (Pt : SPt) (Mk : SMk) (Lk : SLk) (Ck : SCk) (Jd : SJd) (Ld : SLd) (Pr : SPr), va_D A (o_cw ad ca rt Sj T0 T1 Rd Pg Pt Mk Lk Ck Jd Ld Pr)) (n : Nat) (x2 : Int32) (x3 : Int32) (y0 : Int32) (Pg : SPg) (Sj : SSJ) (T0 : STx) (T1 : STx) (Rd : SRd) (Pt : SPt) (Mk : SMk) (Lk : SLk) (Ck : SCk) (Jd : SJd) (Ld : SLd) (Pr : SPr) (rt : Nat) {r : Int32} (h : m_Pg_accepts_j128 n x2 x3 y0 Pg = some r) : o_At p l e rm_Pg_accepts s m args below meth c (MQ below (o_Qx D o_cls (some (.int r)) (o_cw ad ca rt Sj T0 T1 Rd Pg Pt Mk Lk Ck Jd Ld Pr) A) args s 0 0 A) o_cls D A 5 128 [.int y0] (o_cw ad ca rt Sj T0 T1 Rd Pg Pt Mk Lk Ck Jd Ld Pr) [(0, .ref (ad 25)), (2, .int x2), (3, .int x3)] := by
  unfold m_Pg_accepts_j128 at h
  intro H locs ls hP hS hl
  have C0 := C
  obtain ⟨hx, hb, -, -, -, hown, hts, hK, -, -⟩ := C0
  refine lv_istore (lv' := [(4, .int y0), (0, .ref (ad 25)), (2, .int x2), (3, .int x3)]) hx hb d_Pg_accepts_128 hl (by decide) rfl (fun ls hl => ?_)
  refine lv_aload_n hx hb d_Pg_accepts_130 rfl (lv_at hl 1 rfl) ?_
  refine lv_iload_n hx hb d_Pg_accepts_131 rfl (lv_at hl 3 rfl) ?_
  refine lv_iload_n hx hb d_Pg_accepts_132 rfl (lv_at hl 2 rfl) ?_
  obtain ⟨q2, hq2, h⟩ := o_bd_some h
  refine o_V (st1 := [.int q2]) (w1 := (o_cw ad ca rt Sj T0 T1 Rd Pg Pt Mk Lk Ck Jd Ld Pr)) hE.1 C (c_Pg_inRanges hE l n x3 x2 Pg Sj T0 T1 Rd Pt Mk Lk Ck Jd Ld Pr rt hq2) hP (hDD _ _ _ _ _ _ _ _ _ _ _ _ _) hS hl.1 rfl cw_25 k_6_107 k_6_109 k_s_66 k_1_4 k_6_110 hv_Pg_inRanges rfl rfl ⟨(Nat.le_of_ble_eq_true rfl), (Nat.le_of_ble_eq_true rfl)⟩ rfl (Nat.le_of_ble_eq_true rfl) ⟨Nat.zero_le _, Nat.zero_le _⟩ rfl d_Pg_accepts_133 (fun H locs hP hS => ?_)
  refine lv_if_ne (tgt := 148) hx hb d_Pg_accepts_136 (by decide) (fun c15 => ?_) (fun c15 => ?_)
  · replace h := o_ff c15 h
    refine lv_iconst (v := (1:Int32)) hx hb d_Pg_accepts_148 (by decide) ?_
    refine lv_goto (tgt := 153) hx hb d_Pg_accepts_149 (by decide) ?_
    exact w_Pg_accepts_j153 hE C hDD n y0 (1:Int32) Pg Sj T0 T1 Rd Pt Mk Lk Ck Jd Ld Pr rt h _ _ _ hP hS (lv_sub hl [0] rfl)
  · replace h := o_tt c15 h
    refine lv_iload hx hb d_Pg_accepts_139 (lv_at hl 0 rfl) ?_
    refine lv_iload_n hx hb d_Pg_accepts_141 rfl (lv_at hl 2 rfl) ?_
    obtain ⟨q3, hq3, h⟩ := o_bd_some h
    refine o_S (st1 := [.int q3]) (w1 := (o_cw ad ca rt Sj T0 T1 Rd Pg Pt Mk Lk Ck Jd Ld Pr)) hE.1 C (c_Pg_inClasses hE l y0 x2 Sj T0 T1 Rd Pg Pt Mk Lk Ck Jd Ld Pr rt hq3) hP (hDD _ _ _ _ _ _ _ _ _ _ _ _ _) hS hl.1 k_6_103 k_6_104 k_1_4 k_6_105 hs_Pg_inClasses rfl rfl ⟨(Nat.le_of_ble_eq_true rfl), (Nat.le_of_ble_eq_true rfl)⟩ rfl (Nat.le_of_ble_eq_true rfl) ⟨Nat.zero_le _, Nat.zero_le _⟩ rfl d_Pg_accepts_142 (fun H locs hP hS => ?_)
    refine lv_if_eq (tgt := 152) hx hb d_Pg_accepts_145 (by decide) (fun c18 => ?_) (fun c18 => ?_)
    · replace h := o_tt c18 h
      refine lv_iconst (v := (0:Int32)) hx hb d_Pg_accepts_152 (by decide) ?_
      exact w_Pg_accepts_j153 hE C hDD n y0 (0:Int32) Pg Sj T0 T1 Rd Pt Mk Lk Ck Jd Ld Pr rt h _ _ _ hP hS (lv_sub hl [0] rfl)
    · replace h := o_ff c18 h
      refine lv_iconst (v := (1:Int32)) hx hb d_Pg_accepts_148 (by decide) ?_
      refine lv_goto (tgt := 153) hx hb d_Pg_accepts_149 (by decide) ?_
      exact w_Pg_accepts_j153 hE C hDD n y0 (1:Int32) Pg Sj T0 T1 Rd Pt Mk Lk Ck Jd Ld Pr rt h _ _ _ hP hS (lv_sub hl [0] rfl)
set_option maxHeartbeats 4000000 in
set_option maxRecDepth 100000 in
theorem c_Pg_accepts {E : (Nat → Prop) → State → Heap → Prop} {D : va_G} {ad kd sd vd xd : Nat → Nat} {ca : Nat → ClassId} (hE : o_EK E kd sd vd xd) (l : Launch) (n : Nat) (x1 : Int32) (x2 : Int32) (Pg : SPg) (Sj : SSJ) (T0 : STx) (T1 : STx) (Rd : SRd) (Pt : SPt) (Mk : SMk) (Lk : SLk) (Ck : SCk) (Jd : SJd) (Ld : SLd) (Pr : SPr) (rt : Nat) {r : Int32} (h : m_Pg_accepts n x1 x2 Pg = some r) : o_Cn E l D o_cls (o_tys ca) y_Pg_accepts cc_Pg_accepts rm_Pg_accepts [.ref (ad 25), .int x1, .int x2] (o_cw ad ca rt Sj T0 T1 Rd Pg Pt Mk Lk Ck Jd Ld Pr) (o_cw ad ca rt Sj T0 T1 Rd Pg Pt Mk Lk Ck Jd Ld Pr) (some (.int r)) := by
  refine o_Cn_of (by decide) (Nat.le_of_ble_eq_true rfl) ?_
  intro p e s m below meth c A ls C hD hP hS hl
  have hDD : ∀ (rt : Nat) (Sj : SSJ) (T0 : STx) (T1 : STx) (Rd : SRd) (Pg : SPg) (Pt : SPt) (Mk : SMk) (Lk : SLk) (Ck : SCk) (Jd : SJd) (Ld : SLd) (Pr : SPr), va_D A (o_cw ad ca rt Sj T0 T1 Rd Pg Pt Mk Lk Ck Jd Ld Pr) := fun _ _ _ _ _ _ _ _ _ _ _ _ _ => o_D_map hD rfl
  have hl : lv_has ls 5 [(0, .ref (ad 25)), (1, .int x1), (2, .int x2)] := hl
  unfold m_Pg_accepts at h
  have C0 := C
  obtain ⟨hx, hb, -, -, -, hown, hts, hK, -, -⟩ := C0
  refine lv_iload_n hx hb d_Pg_accepts_0 rfl (lv_at hl 1 rfl) ?_
  refine lv_if_lt (tgt := 11) hx hb d_Pg_accepts_1 (by decide) (fun c1 => ?_) (fun c1 => ?_)
  · replace h := o_tt c1 h
    refine lv_iconst (v := (0:Int32)) hx hb d_Pg_accepts_11 (by decide) ?_
    cases h
    exact o_rz (v := (0:Int32)) C o_nar0 hP hS d_Pg_accepts_12
  · replace h := o_ff c1 h
    refine lv_iload_n hx hb d_Pg_accepts_4 rfl (lv_at hl 1 rfl) ?_
    refine lv_sipush (v := (1300:Int32)) hx hb d_Pg_accepts_5 (by decide) ?_
    refine lv_icmp_lt (tgt := 13) hx hb d_Pg_accepts_8 (by decide) (fun c2 => ?_) (fun c2 => ?_)
    · replace h := o_tt c2 h
      refine lv_aload_n hx hb d_Pg_accepts_13 rfl (lv_at hl 0 rfl) ?_
      refine o_get (v := .ref (ad 27)) C in_Pg hP 25 cw_25 rfl 1 (by decide) k_1_120 rfl rfl d_Pg_accepts_14 ?_
      refine lv_iload_n hx hb d_Pg_accepts_17 rfl (lv_at hl 1 rfl) ?_
      obtain ⟨g3, h⟩ := o_gd_some h
      refine o_iald (f := (Pg_arguments Pg)) C hP 27 22 cw_27 rfl g3 d_Pg_accepts_18 ?_
      refine lv_topi (fun x3_19 ex3_19 => ?_)
      replace h := o_nm_at ex3_19 h
      refine lv_istore_n (lv' := [(3, .int x3_19), (0, .ref (ad 25)), (1, .int x1), (2, .int x2)]) hx hb d_Pg_accepts_19 rfl hl (by decide) rfl (fun ls hl => ?_)
      refine lv_aload_n hx hb d_Pg_accepts_20 rfl (lv_at hl 1 rfl) ?_
      refine o_get (v := .ref (ad 26)) C in_Pg hP 25 cw_25 rfl 0 (by decide) k_1_119 rfl rfl d_Pg_accepts_21 ?_
      refine lv_iload_n hx hb d_Pg_accepts_24 rfl (lv_at hl 2 rfl) ?_
      obtain ⟨g4, h⟩ := o_gd_some h
      refine o_iald (f := (Pg_operations Pg)) C hP 26 21 cw_26 rfl g4 d_Pg_accepts_25 ?_
      refine lv_topi (fun w26 ew26 => ?_)
      replace h := o_nm_at ew26 h
      by_cases c5 : w26 = (0:Int32)
      · replace h := o_tt c5 h
        refine lv_tableIn (off := 26) (tgt := 52) hx hb d_Pg_accepts_26 (by rw [c5]; decide) (by rw [c5]; decide) (by rw [c5]; rfl) (by decide) ?_
        refine lv_iload_n hx hb d_Pg_accepts_52 rfl (lv_at hl 0 rfl) ?_
        refine lv_iload_n hx hb d_Pg_accepts_53 rfl (lv_at hl 3 rfl) ?_
        refine lv_icmp_ne (tgt := 61) hx hb d_Pg_accepts_54 (by decide) (fun c6 => ?_) (fun c6 => ?_)
        · replace h := o_ff c6 h
          refine lv_iconst (v := (0:Int32)) hx hb d_Pg_accepts_61 (by decide) ?_
          cases h
          exact o_rz (v := (0:Int32)) C o_nar0 hP hS d_Pg_accepts_62
        · replace h := o_tt c6 h
          refine lv_iconst (v := (1:Int32)) hx hb d_Pg_accepts_57 (by decide) ?_
          refine lv_goto (tgt := 62) hx hb d_Pg_accepts_58 (by decide) ?_
          cases h
          exact o_rz (v := (1:Int32)) C o_nar1 hP hS d_Pg_accepts_62
      replace h := o_ff c5 h
      by_cases c7 : w26 = (1:Int32)
      · replace h := o_tt c7 h
        refine lv_tableIn (off := 37) (tgt := 63) hx hb d_Pg_accepts_26 (by rw [c7]; decide) (by rw [c7]; decide) (by rw [c7]; rfl) (by decide) ?_
        refine lv_iload_n hx hb d_Pg_accepts_63 rfl (lv_at hl 3 rfl) ?_
        refine lv_bipush (v := (10:Int32)) hx hb d_Pg_accepts_64 (by decide) ?_
        refine lv_icmp_eq (tgt := 93) hx hb d_Pg_accepts_66 (by decide) (fun c8 => ?_) (fun c8 => ?_)
        · replace h := o_tt c8 h
          refine lv_iconst (v := (0:Int32)) hx hb d_Pg_accepts_93 (by decide) ?_
          cases h
          exact o_rz (v := (0:Int32)) C o_nar0 hP hS d_Pg_accepts_94
        · replace h := o_ff c8 h
          refine lv_iload_n hx hb d_Pg_accepts_69 rfl (lv_at hl 3 rfl) ?_
          refine lv_bipush (v := (13:Int32)) hx hb d_Pg_accepts_70 (by decide) ?_
          refine lv_icmp_eq (tgt := 93) hx hb d_Pg_accepts_72 (by decide) (fun c9 => ?_) (fun c9 => ?_)
          · replace h := o_tt c9 h
            refine lv_iconst (v := (0:Int32)) hx hb d_Pg_accepts_93 (by decide) ?_
            cases h
            exact o_rz (v := (0:Int32)) C o_nar0 hP hS d_Pg_accepts_94
          · replace h := o_ff c9 h
            refine lv_iload_n hx hb d_Pg_accepts_75 rfl (lv_at hl 3 rfl) ?_
            refine lv_sipush (v := (8232:Int32)) hx hb d_Pg_accepts_76 (by decide) ?_
            refine lv_icmp_eq (tgt := 93) hx hb d_Pg_accepts_79 (by decide) (fun c10 => ?_) (fun c10 => ?_)
            · replace h := o_tt c10 h
              refine lv_iconst (v := (0:Int32)) hx hb d_Pg_accepts_93 (by decide) ?_
              cases h
              exact o_rz (v := (0:Int32)) C o_nar0 hP hS d_Pg_accepts_94
            · replace h := o_ff c10 h
              refine lv_iload_n hx hb d_Pg_accepts_82 rfl (lv_at hl 3 rfl) ?_
              refine lv_sipush (v := (8233:Int32)) hx hb d_Pg_accepts_83 (by decide) ?_
              refine lv_icmp_eq (tgt := 93) hx hb d_Pg_accepts_86 (by decide) (fun c11 => ?_) (fun c11 => ?_)
              · replace h := o_tt c11 h
                refine lv_iconst (v := (0:Int32)) hx hb d_Pg_accepts_93 (by decide) ?_
                cases h
                exact o_rz (v := (0:Int32)) C o_nar0 hP hS d_Pg_accepts_94
              · replace h := o_ff c11 h
                refine lv_iconst (v := (1:Int32)) hx hb d_Pg_accepts_89 (by decide) ?_
                refine lv_goto (tgt := 94) hx hb d_Pg_accepts_90 (by decide) ?_
                cases h
                exact o_rz (v := (1:Int32)) C o_nar1 hP hS d_Pg_accepts_94
      replace h := o_ff c7 h
      by_cases c12 : w26 = (2:Int32)
      · replace h := o_tt c12 h
        refine lv_tableIn (off := 69) (tgt := 95) hx hb d_Pg_accepts_26 (by rw [c12]; decide) (by rw [c12]; decide) (by rw [c12]; rfl) (by decide) ?_
        refine lv_iload_n hx hb d_Pg_accepts_95 rfl (lv_at hl 0 rfl) ?_
        refine lv_iload_n hx hb d_Pg_accepts_96 rfl (lv_at hl 3 rfl) ?_
        obtain ⟨q1, hq1, h⟩ := o_bd_some h
        refine o_S (st1 := [.int q1]) (w1 := (o_cw ad ca rt Sj T0 T1 Rd Pg Pt Mk Lk Ck Jd Ld Pr)) hE.1 C (c_Pg_inClasses hE l x3_19 x2 Sj T0 T1 Rd Pg Pt Mk Lk Ck Jd Ld Pr rt hq1) hP (hDD _ _ _ _ _ _ _ _ _ _ _ _ _) hS hl.1 k_6_103 k_6_104 k_1_4 k_6_105 hs_Pg_inClasses rfl rfl ⟨(Nat.le_of_ble_eq_true rfl), (Nat.le_of_ble_eq_true rfl)⟩ rfl (Nat.le_of_ble_eq_true rfl) ⟨Nat.zero_le _, Nat.zero_le _⟩ rfl d_Pg_accepts_97 (fun H locs hP hS => ?_)
        obtain ⟨g13, h⟩ := o_gd_some h
        cases h
        exact o_rz C (o_zb_nar g13) hP hS d_Pg_accepts_100
      replace h := o_ff c12 h
      refine lv_tableOut (tgt := 101) hx hb d_Pg_accepts_26 (by have ec5 := o_ne_i (n := 0) (by decide) c5; have ec7 := o_ne_i (n := 1) (by decide) c7; have ec12 := o_ne_i (n := 2) (by decide) c12; omega) (by decide) ?_
      refine lv_iload_n hx hb d_Pg_accepts_101 rfl (lv_at hl 0 rfl) ?_
      refine lv_if_lt (tgt := 127) hx hb d_Pg_accepts_102 (by decide) (fun c14 => ?_) (fun c14 => ?_)
      · replace h := o_tt c14 h
        refine lv_iconst (v := (0:Int32)) hx hb d_Pg_accepts_127 (by decide) ?_
        exact w_Pg_accepts_j128 hE C hDD n x2 x3_19 (0:Int32) Pg Sj T0 T1 Rd Pt Mk Lk Ck Jd Ld Pr rt h _ _ _ hP hS (lv_sub hl [1, 3, 0] rfl)
      · replace h := o_ff c14 h
        refine lv_iload_n hx hb d_Pg_accepts_105 rfl (lv_at hl 0 rfl) ?_
        refine lv_iconst (v := (1:Int32)) hx hb d_Pg_accepts_106 (by decide) ?_
        refine lv_iadd hx hb d_Pg_accepts_107 ?_
        refine lv_aload_n hx hb d_Pg_accepts_108 rfl (lv_at hl 1 rfl) ?_
        refine o_get (v := .ref (ad 28)) C in_Pg hP 25 cw_25 rfl 3 (by decide) k_1_123 rfl rfl d_Pg_accepts_109 ?_
        refine va_alen (v := (8000:Int32)) hx hb hK hP 28 23 cw_28 rfl rfl d_Pg_accepts_112 ?_
        refine lv_icmp_ge (tgt := 127) hx hb d_Pg_accepts_113 (by decide) (fun c19 => ?_) (fun c19 => ?_)
        · replace h := o_tt c19 h
          refine lv_iconst (v := (0:Int32)) hx hb d_Pg_accepts_127 (by decide) ?_
          exact w_Pg_accepts_j128 hE C hDD n x2 x3_19 (0:Int32) Pg Sj T0 T1 Rd Pt Mk Lk Ck Jd Ld Pr rt h _ _ _ hP hS (lv_sub hl [1, 3, 0] rfl)
        · replace h := o_ff c19 h
          refine lv_aload_n hx hb d_Pg_accepts_116 rfl (lv_at hl 1 rfl) ?_
          refine o_get (v := .ref (ad 28)) C in_Pg hP 25 cw_25 rfl 3 (by decide) k_1_123 rfl rfl d_Pg_accepts_117 ?_
          refine lv_iload_n hx hb d_Pg_accepts_120 rfl (lv_at hl 0 rfl) ?_
          refine lv_iconst (v := (1:Int32)) hx hb d_Pg_accepts_121 (by decide) ?_
          refine lv_iadd hx hb d_Pg_accepts_122 ?_
          obtain ⟨g20, h⟩ := o_gd_some h
          refine o_iald (f := (Pg_sets Pg)) C hP 28 23 cw_28 rfl g20 d_Pg_accepts_123 ?_
          refine lv_goto (tgt := 128) hx hb d_Pg_accepts_124 (by decide) ?_
          exact w_Pg_accepts_j128 hE C hDD n x2 x3_19 ((Pg_sets Pg) (x3_19 + (1:Int32)).toNatClampNeg) Pg Sj T0 T1 Rd Pt Mk Lk Ck Jd Ld Pr rt h _ _ _ hP hS (lv_sub hl [1, 3, 0] rfl)
    · replace h := o_ff c2 h
      refine lv_iconst (v := (0:Int32)) hx hb d_Pg_accepts_11 (by decide) ?_
      cases h
      exact o_rz (v := (0:Int32)) C o_nar0 hP hS d_Pg_accepts_12
set_option maxHeartbeats 4000000 in
set_option maxRecDepth 100000 in
theorem c_Tx_firstChild_1 {E : (Nat → Prop) → State → Heap → Prop} {D : va_G} {ad kd sd vd xd : Nat → Nat} {ca : Nat → ClassId} (hE : o_EK E kd sd vd xd) (l : Launch) (x1 : Int32) (a0 : STx) (Sj : SSJ) (T0 : STx) (Rd : SRd) (Pg : SPg) (Pt : SPt) (Mk : SMk) (Lk : SLk) (Ck : SCk) (Jd : SJd) (Ld : SLd) (Pr : SPr) (rt : Nat) {r : Int32} (h : m_Tx_firstChild x1 a0 = some r) : o_Cn E l D o_cls (o_tys ca) y_Tx_firstChild cc_Tx_firstChild rm_Tx_firstChild [.ref (ad 12), .int x1] (o_cw ad ca rt Sj T0 a0 Rd Pg Pt Mk Lk Ck Jd Ld Pr) (o_cw ad ca rt Sj T0 a0 Rd Pg Pt Mk Lk Ck Jd Ld Pr) (some (.int r)) := by
  refine o_Cn_of (by decide) (Nat.le_of_ble_eq_true rfl) ?_
  intro p e s m below meth c A ls C hD hP hS hl
  have hDD : ∀ (rt : Nat) (Sj : SSJ) (T0 : STx) (T1 : STx) (Rd : SRd) (Pg : SPg) (Pt : SPt) (Mk : SMk) (Lk : SLk) (Ck : SCk) (Jd : SJd) (Ld : SLd) (Pr : SPr), va_D A (o_cw ad ca rt Sj T0 T1 Rd Pg Pt Mk Lk Ck Jd Ld Pr) := fun _ _ _ _ _ _ _ _ _ _ _ _ _ => o_D_map hD rfl
  have hl : lv_has ls 2 [(0, .ref (ad 12)), (1, .int x1)] := hl
  unfold m_Tx_firstChild at h
  have C0 := C
  obtain ⟨hx, hb, -, -, -, hown, hts, hK, -, -⟩ := C0
  refine lv_iload_n hx hb d_Tx_firstChild_0 rfl (lv_at hl 1 rfl) ?_
  refine lv_if_lt (tgt := 31) hx hb d_Tx_firstChild_1 (by decide) (fun c1 => ?_) (fun c1 => ?_)
  · replace h := o_tt c1 h
    refine lv_iconst (v := (-1:Int32)) hx hb d_Tx_firstChild_31 (by decide) ?_
    cases h
    exact o_ri (v := (-1:Int32)) C hP hS d_Tx_firstChild_32
  · replace h := o_ff c1 h
    refine lv_iload_n hx hb d_Tx_firstChild_4 rfl (lv_at hl 1 rfl) ?_
    refine lv_aload_n hx hb d_Tx_firstChild_5 rfl (lv_at hl 0 rfl) ?_
    refine o_get (v := .int (Tx_total a0)) C in_Tx hP 12 cw_12 rfl 10 (by decide) k_1_56 rfl rfl d_Tx_firstChild_6 ?_
    refine lv_icmp_ge (tgt := 31) hx hb d_Tx_firstChild_9 (by decide) (fun c2 => ?_) (fun c2 => ?_)
    · replace h := o_tt c2 h
      refine lv_iconst (v := (-1:Int32)) hx hb d_Tx_firstChild_31 (by decide) ?_
      cases h
      exact o_ri (v := (-1:Int32)) C hP hS d_Tx_firstChild_32
    · replace h := o_ff c2 h
      refine lv_aload_n hx hb d_Tx_firstChild_12 rfl (lv_at hl 0 rfl) ?_
      refine o_get (v := .ref (ad 15)) C in_Tx hP 12 cw_12 rfl 2 (by decide) k_1_48 rfl rfl d_Tx_firstChild_13 ?_
      refine lv_iload_n hx hb d_Tx_firstChild_16 rfl (lv_at hl 1 rfl) ?_
      obtain ⟨g3, h⟩ := o_gd_some h
      refine o_iald (f := (Tx_sizes a0)) C hP 15 12 cw_15 rfl g3 d_Tx_firstChild_17 ?_
      refine lv_if_eq (tgt := 31) hx hb d_Tx_firstChild_18 (by decide) (fun c4 => ?_) (fun c4 => ?_)
      · replace h := o_tt c4 h
        refine lv_iconst (v := (-1:Int32)) hx hb d_Tx_firstChild_31 (by decide) ?_
        cases h
        exact o_ri (v := (-1:Int32)) C hP hS d_Tx_firstChild_32
      · replace h := o_ff c4 h
        refine lv_aload_n hx hb d_Tx_firstChild_21 rfl (lv_at hl 0 rfl) ?_
        refine o_get (v := .ref (ad 13)) C in_Tx hP 12 cw_12 rfl 0 (by decide) k_1_46 rfl rfl d_Tx_firstChild_22 ?_
        refine lv_iload_n hx hb d_Tx_firstChild_25 rfl (lv_at hl 1 rfl) ?_
        obtain ⟨g5, h⟩ := o_gd_some h
        refine o_iald (f := (Tx_kinds a0)) C hP 13 10 cw_13 rfl g5 d_Tx_firstChild_26 ?_
        refine lv_iconst (v := (5:Int32)) hx hb d_Tx_firstChild_27 (by decide) ?_
        refine lv_icmp_ge (tgt := 33) hx hb d_Tx_firstChild_28 (by decide) (fun c6 => ?_) (fun c6 => ?_)
        · replace h := o_tt c6 h
          refine lv_aload_n hx hb d_Tx_firstChild_33 rfl (lv_at hl 0 rfl) ?_
          refine o_get (v := .ref (ad 13)) C in_Tx hP 12 cw_12 rfl 0 (by decide) k_1_46 rfl rfl d_Tx_firstChild_34 ?_
          refine lv_iload_n hx hb d_Tx_firstChild_37 rfl (lv_at hl 1 rfl) ?_
          obtain ⟨g7, h⟩ := o_gd_some h
          refine o_iald (f := (Tx_kinds a0)) C hP 13 10 cw_13 rfl g7 d_Tx_firstChild_38 ?_
          refine lv_iconst (v := (5:Int32)) hx hb d_Tx_firstChild_39 (by decide) ?_
          refine lv_icmp_ne (tgt := 49) hx hb d_Tx_firstChild_40 (by decide) (fun c8 => ?_) (fun c8 => ?_)
          · replace h := o_ff c8 h
            refine lv_iload_n hx hb d_Tx_firstChild_49 rfl (lv_at hl 1 rfl) ?_
            refine lv_iconst (v := (2:Int32)) hx hb d_Tx_firstChild_50 (by decide) ?_
            refine lv_iadd hx hb d_Tx_firstChild_51 ?_
            cases h
            exact o_ri (v := (x1 + (2:Int32))) C hP hS d_Tx_firstChild_52
          · replace h := o_tt c8 h
            refine lv_iload_n hx hb d_Tx_firstChild_43 rfl (lv_at hl 1 rfl) ?_
            refine lv_iconst (v := (1:Int32)) hx hb d_Tx_firstChild_44 (by decide) ?_
            refine lv_iadd hx hb d_Tx_firstChild_45 ?_
            refine lv_goto (tgt := 52) hx hb d_Tx_firstChild_46 (by decide) ?_
            cases h
            exact o_ri (v := (x1 + (1:Int32))) C hP hS d_Tx_firstChild_52
        · replace h := o_ff c6 h
          refine lv_iconst (v := (-1:Int32)) hx hb d_Tx_firstChild_31 (by decide) ?_
          cases h
          exact o_ri (v := (-1:Int32)) C hP hS d_Tx_firstChild_32
set_option maxHeartbeats 4000000 in
set_option maxRecDepth 100000 in
theorem c_Tx_size_1 {E : (Nat → Prop) → State → Heap → Prop} {D : va_G} {ad kd sd vd xd : Nat → Nat} {ca : Nat → ClassId} (hE : o_EK E kd sd vd xd) (l : Launch) (x1 : Int32) (a0 : STx) (Sj : SSJ) (T0 : STx) (Rd : SRd) (Pg : SPg) (Pt : SPt) (Mk : SMk) (Lk : SLk) (Ck : SCk) (Jd : SJd) (Ld : SLd) (Pr : SPr) (rt : Nat) {r : Int32} (h : m_Tx_size x1 a0 = some r) : o_Cn E l D o_cls (o_tys ca) y_Tx_size cc_Tx_size rm_Tx_size [.ref (ad 12), .int x1] (o_cw ad ca rt Sj T0 a0 Rd Pg Pt Mk Lk Ck Jd Ld Pr) (o_cw ad ca rt Sj T0 a0 Rd Pg Pt Mk Lk Ck Jd Ld Pr) (some (.int r)) := by
  refine o_Cn_of (by decide) (Nat.le_of_ble_eq_true rfl) ?_
  intro p e s m below meth c A ls C hD hP hS hl
  have hDD : ∀ (rt : Nat) (Sj : SSJ) (T0 : STx) (T1 : STx) (Rd : SRd) (Pg : SPg) (Pt : SPt) (Mk : SMk) (Lk : SLk) (Ck : SCk) (Jd : SJd) (Ld : SLd) (Pr : SPr), va_D A (o_cw ad ca rt Sj T0 T1 Rd Pg Pt Mk Lk Ck Jd Ld Pr) := fun _ _ _ _ _ _ _ _ _ _ _ _ _ => o_D_map hD rfl
  have hl : lv_has ls 2 [(0, .ref (ad 12)), (1, .int x1)] := hl
  unfold m_Tx_size at h
  have C0 := C
  obtain ⟨hx, hb, -, -, -, hown, hts, hK, -, -⟩ := C0
  refine lv_iload_n hx hb d_Tx_size_0 rfl (lv_at hl 1 rfl) ?_
  refine lv_if_lt (tgt := 21) hx hb d_Tx_size_1 (by decide) (fun c1 => ?_) (fun c1 => ?_)
  · replace h := o_tt c1 h
    refine lv_iconst (v := (0:Int32)) hx hb d_Tx_size_21 (by decide) ?_
    cases h
    exact o_ri (v := (0:Int32)) C hP hS d_Tx_size_22
  · replace h := o_ff c1 h
    refine lv_iload_n hx hb d_Tx_size_4 rfl (lv_at hl 1 rfl) ?_
    refine lv_aload_n hx hb d_Tx_size_5 rfl (lv_at hl 0 rfl) ?_
    refine o_get (v := .int (Tx_total a0)) C in_Tx hP 12 cw_12 rfl 10 (by decide) k_1_56 rfl rfl d_Tx_size_6 ?_
    refine lv_icmp_ge (tgt := 21) hx hb d_Tx_size_9 (by decide) (fun c2 => ?_) (fun c2 => ?_)
    · replace h := o_tt c2 h
      refine lv_iconst (v := (0:Int32)) hx hb d_Tx_size_21 (by decide) ?_
      cases h
      exact o_ri (v := (0:Int32)) C hP hS d_Tx_size_22
    · replace h := o_ff c2 h
      refine lv_aload_n hx hb d_Tx_size_12 rfl (lv_at hl 0 rfl) ?_
      refine o_get (v := .ref (ad 15)) C in_Tx hP 12 cw_12 rfl 2 (by decide) k_1_48 rfl rfl d_Tx_size_13 ?_
      refine lv_iload_n hx hb d_Tx_size_16 rfl (lv_at hl 1 rfl) ?_
      obtain ⟨g3, h⟩ := o_gd_some h
      refine o_iald (f := (Tx_sizes a0)) C hP 15 12 cw_15 rfl g3 d_Tx_size_17 ?_
      refine lv_goto (tgt := 22) hx hb d_Tx_size_18 (by decide) ?_
      cases h
      exact o_ri (v := ((Tx_sizes a0) x1.toNatClampNeg)) C hP hS d_Tx_size_22
set_option maxHeartbeats 4000000 in
set_option maxRecDepth 100000 in
theorem w_Tx_sameString_b102_01 {E : (Nat → Prop) → State → Heap → Prop} {p : Program} {l : Launch} {e : Env} {s : State} {m : MethodId} {args : Array Value} {below : List Frame} {meth : Method} {c : Code} {D : va_G} {ad kd sd vd xd : Nat → Nat} {ca : Nat → ClassId} {A : Nat → Prop} {Q : State → Prop} (hE : o_EK E kd sd vd xd) (C : o_Cx E p s m args meth c D o_cls (o_tys ca) "SchemaJudge$Text" b_Tx_sameString (some .boolean) 8 cc_Tx_sameString A) (hDD : ∀ (rt : Nat) (Sj : SSJ) (T0 : STx) (T1 : STx) (Rd : SRd) (Pg : SPg) (Pt : SPt) (Mk : SMk) (Lk : SLk) (Ck : SCk) (Jd : SJd) (Ld : SLd) (Pr : SPr), va_D A (o_cw ad ca rt Sj T0 T1 Rd Pg Pt Mk Lk Ck Jd Ld Pr)) (n : Nat) (u102_x4 : Int32) (u102_x5 : Int32) (u102_x6 : Int32) (u102_a0 : STx) (u102_a2 : STx) (u102_Sj : SSJ) (u102_Rd : SRd) (u102_Pg : SPg) (u102_Pt : SPt) (u102_Mk : SMk) (u102_Lk : SLk) (u102_Ck : SCk) (u102_Jd : SJd) (u102_Ld : SLd) (u102_Pr : SPr) (u102_rt : Nat) (z : Int32) (q : Nat × Int32) (h : m_Tx_sameString_b102 n u102_x4 u102_x5 u102_x6 u102_a0 u102_a2 z = some q) (h0 : q.1 = 0 → o_At p l e rm_Tx_sameString s m args below meth c Q o_cls D A 8 102 [] (o_cw ad ca u102_rt u102_Sj u102_a0 u102_a2 u102_Rd u102_Pg u102_Pt u102_Mk u102_Lk u102_Ck u102_Jd u102_Ld u102_Pr) [(0, .ref (ad 1)), (2, .ref (ad 12)), (4, .int u102_x4), (5, .int u102_x5), (6, .int u102_x6), (7, .int q.2)]) (h1 : q.1 ≠ 0 → (if q.1 = 1 then o_At p l e rm_Tx_sameString s m args below meth c Q o_cls D A 8 132 [] (o_cw ad ca u102_rt u102_Sj u102_a0 u102_a2 u102_Rd u102_Pg u102_Pt u102_Mk u102_Lk u102_Ck u102_Jd u102_Ld u102_Pr) [] else o_At p l e rm_Tx_sameString s m args below meth c Q o_cls D A 8 140 [] (o_cw ad ca u102_rt u102_Sj u102_a0 u102_a2 u102_Rd u102_Pg u102_Pt u102_Mk u102_Lk u102_Ck u102_Jd u102_Ld u102_Pr) [])) : o_At p l e rm_Tx_sameString s m args below meth c Q o_cls D A 8 102 [] (o_cw ad ca u102_rt u102_Sj u102_a0 u102_a2 u102_Rd u102_Pg u102_Pt u102_Mk u102_Lk u102_Ck u102_Jd u102_Ld u102_Pr) [(0, .ref (ad 1)), (2, .ref (ad 12)), (4, .int u102_x4), (5, .int u102_x5), (6, .int u102_x6), (7, .int z)] := by
  unfold m_Tx_sameString_b102 at h
  intro H locs ls hP hS hl
  have C0 := C
  obtain ⟨hx, hb, -, -, -, hown, hts, hK, -, -⟩ := C0
  refine lv_iload hx hb d_Tx_sameString_102 (lv_at hl 5 rfl) ?_
  refine lv_iload hx hb d_Tx_sameString_104 (lv_at hl 4 rfl) ?_
  refine lv_icmp_ge (tgt := 140) hx hb d_Tx_sameString_106 (by decide) (fun c15 => ?_) (fun c15 => ?_)
  · replace h := o_tt c15 h
    cases h
    exact h1 (Nat.succ_ne_zero 1) _ _ _ hP hS (lv_sub hl [] rfl)
  · replace h := o_ff c15 h
    refine lv_aload_n hx hb d_Tx_sameString_109 rfl (lv_at hl 0 rfl) ?_
    refine o_get (v := .ref (ad 11)) C in_Tx hP 1 cw_1 rfl 9 (by decide) k_1_55 rfl rfl d_Tx_sameString_110 ?_
    refine lv_iload hx hb d_Tx_sameString_113 (lv_at hl 2 rfl) ?_
    refine lv_iload hx hb d_Tx_sameString_115 (lv_at hl 5 rfl) ?_
    refine lv_iadd hx hb d_Tx_sameString_117 ?_
    obtain ⟨g16, h⟩ := o_gd_some h
    refine o_iald (f := (Tx_cells u102_a0)) C hP 11 9 cw_11 rfl g16 d_Tx_sameString_118 ?_
    refine lv_aload_n hx hb d_Tx_sameString_119 rfl (lv_at hl 1 rfl) ?_
    refine o_get (v := .ref (ad 22)) C in_Tx hP 12 cw_12 rfl 9 (by decide) k_1_55 rfl rfl d_Tx_sameString_120 ?_
    refine lv_iload hx hb d_Tx_sameString_123 (lv_at hl 3 rfl) ?_
    refine lv_iload hx hb d_Tx_sameString_125 (lv_at hl 5 rfl) ?_
    refine lv_iadd hx hb d_Tx_sameString_127 ?_
    obtain ⟨g17, h⟩ := o_gd_some h
    refine o_iald (f := (Tx_cells u102_a2)) C hP 22 19 cw_22 rfl g17 d_Tx_sameString_128 ?_
    refine lv_icmp_eq (tgt := 134) hx hb d_Tx_sameString_129 (by decide) (fun c18 => ?_) (fun c18 => ?_)
    · replace h := o_tt c18 h
      obtain ⟨x7_134, ex7_134⟩ : ∃ y : Int32, y = z + (1:Int32) := ⟨_, rfl⟩
      replace h := o_nm_at ex7_134 h
      refine lv_iinc (v := x7_134) (lv' := [(7, .int x7_134), (0, .ref (ad 1)), (2, .ref (ad 12)), (4, .int u102_x4), (5, .int u102_x5), (6, .int u102_x6)]) hx hb d_Tx_sameString_134 hl (k := 5) rfl (by rw [ex7_134]; rfl) (by decide) rfl (fun ls hl => ?_)
      refine lv_goto (tgt := 102) hx hb d_Tx_sameString_137 (by decide) ?_
      cases h
      exact h0 rfl _ _ _ hP hS (lv_sub hl [1, 2, 3, 4, 5, 0] rfl)
    · replace h := o_ff c18 h
      cases h
      exact h1 (Nat.succ_ne_zero 0) _ _ _ hP hS (lv_sub hl [] rfl)
set_option maxHeartbeats 4000000 in
set_option maxRecDepth 100000 in
theorem c_Tx_sameString_01 {E : (Nat → Prop) → State → Heap → Prop} {D : va_G} {ad kd sd vd xd : Nat → Nat} {ca : Nat → ClassId} (hE : o_EK E kd sd vd xd) (l : Launch) (n : Nat) (x1 : Int32) (x3 : Int32) (a0 : STx) (a2 : STx) (Sj : SSJ) (Rd : SRd) (Pg : SPg) (Pt : SPt) (Mk : SMk) (Lk : SLk) (Ck : SCk) (Jd : SJd) (Ld : SLd) (Pr : SPr) (rt : Nat) {r : Int32} (h : m_Tx_sameString n x1 x3 a0 a2 = some r) : o_Cn E l D o_cls (o_tys ca) y_Tx_sameString cc_Tx_sameString rm_Tx_sameString [.ref (ad 1), .int x1, .ref (ad 12), .int x3] (o_cw ad ca rt Sj a0 a2 Rd Pg Pt Mk Lk Ck Jd Ld Pr) (o_cw ad ca rt Sj a0 a2 Rd Pg Pt Mk Lk Ck Jd Ld Pr) (some (.int r)) := by
  refine o_Cn_of (by decide) (Nat.le_of_ble_eq_true rfl) ?_
  intro p e s m below meth c A ls C hD hP hS hl
  have hDD : ∀ (rt : Nat) (Sj : SSJ) (T0 : STx) (T1 : STx) (Rd : SRd) (Pg : SPg) (Pt : SPt) (Mk : SMk) (Lk : SLk) (Ck : SCk) (Jd : SJd) (Ld : SLd) (Pr : SPr), va_D A (o_cw ad ca rt Sj T0 T1 Rd Pg Pt Mk Lk Ck Jd Ld Pr) := fun _ _ _ _ _ _ _ _ _ _ _ _ _ => o_D_map hD rfl
  have hl : lv_has ls 8 [(0, .ref (ad 1)), (1, .int x1), (2, .ref (ad 12)), (3, .int x3)] := hl
  unfold m_Tx_sameString at h
  have C0 := C
  obtain ⟨hx, hb, -, -, -, hown, hts, hK, -, -⟩ := C0
  refine lv_iload_n hx hb d_Tx_sameString_0 rfl (lv_at hl 1 rfl) ?_
  refine lv_if_lt (tgt := 39) hx hb d_Tx_sameString_1 (by decide) (fun c1 => ?_) (fun c1 => ?_)
  · replace h := o_tt c1 h
    refine lv_iconst (v := (0:Int32)) hx hb d_Tx_sameString_39 (by decide) ?_
    cases h
    exact o_rz (v := (0:Int32)) C o_nar0 hP hS d_Tx_sameString_40
  · replace h := o_ff c1 h
    refine lv_iload_n hx hb d_Tx_sameString_4 rfl (lv_at hl 1 rfl) ?_
    refine lv_aload_n hx hb d_Tx_sameString_5 rfl (lv_at hl 0 rfl) ?_
    refine o_get (v := .int (Tx_total a0)) C in_Tx hP 1 cw_1 rfl 10 (by decide) k_1_56 rfl rfl d_Tx_sameString_6 ?_
    refine lv_icmp_ge (tgt := 39) hx hb d_Tx_sameString_9 (by decide) (fun c2 => ?_) (fun c2 => ?_)
    · replace h := o_tt c2 h
      refine lv_iconst (v := (0:Int32)) hx hb d_Tx_sameString_39 (by decide) ?_
      cases h
      exact o_rz (v := (0:Int32)) C o_nar0 hP hS d_Tx_sameString_40
    · replace h := o_ff c2 h
      refine lv_iload_n hx hb d_Tx_sameString_12 rfl (lv_at hl 3 rfl) ?_
      refine lv_if_lt (tgt := 39) hx hb d_Tx_sameString_13 (by decide) (fun c3 => ?_) (fun c3 => ?_)
      · replace h := o_tt c3 h
        refine lv_iconst (v := (0:Int32)) hx hb d_Tx_sameString_39 (by decide) ?_
        cases h
        exact o_rz (v := (0:Int32)) C o_nar0 hP hS d_Tx_sameString_40
      · replace h := o_ff c3 h
        refine lv_iload_n hx hb d_Tx_sameString_16 rfl (lv_at hl 3 rfl) ?_
        refine lv_aload_n hx hb d_Tx_sameString_17 rfl (lv_at hl 2 rfl) ?_
        refine o_get (v := .int (Tx_total a2)) C in_Tx hP 12 cw_12 rfl 10 (by decide) k_1_56 rfl rfl d_Tx_sameString_18 ?_
        refine lv_icmp_ge (tgt := 39) hx hb d_Tx_sameString_21 (by decide) (fun c4 => ?_) (fun c4 => ?_)
        · replace h := o_tt c4 h
          refine lv_iconst (v := (0:Int32)) hx hb d_Tx_sameString_39 (by decide) ?_
          cases h
          exact o_rz (v := (0:Int32)) C o_nar0 hP hS d_Tx_sameString_40
        · replace h := o_ff c4 h
          refine lv_aload_n hx hb d_Tx_sameString_24 rfl (lv_at hl 0 rfl) ?_
          refine o_get (v := .ref (ad 4)) C in_Tx hP 1 cw_1 rfl 2 (by decide) k_1_48 rfl rfl d_Tx_sameString_25 ?_
          refine lv_iload_n hx hb d_Tx_sameString_28 rfl (lv_at hl 1 rfl) ?_
          obtain ⟨g5, h⟩ := o_gd_some h
          refine o_iald (f := (Tx_sizes a0)) C hP 4 2 cw_4 rfl g5 d_Tx_sameString_29 ?_
          refine lv_aload_n hx hb d_Tx_sameString_30 rfl (lv_at hl 2 rfl) ?_
          refine o_get (v := .ref (ad 15)) C in_Tx hP 12 cw_12 rfl 2 (by decide) k_1_48 rfl rfl d_Tx_sameString_31 ?_
          refine lv_iload_n hx hb d_Tx_sameString_34 rfl (lv_at hl 3 rfl) ?_
          obtain ⟨g6, h⟩ := o_gd_some h
          refine o_iald (f := (Tx_sizes a2)) C hP 15 12 cw_15 rfl g6 d_Tx_sameString_35 ?_
          refine lv_icmp_eq (tgt := 41) hx hb d_Tx_sameString_36 (by decide) (fun c7 => ?_) (fun c7 => ?_)
          · replace h := o_tt c7 h
            refine lv_aload_n hx hb d_Tx_sameString_41 rfl (lv_at hl 0 rfl) ?_
            refine o_get (v := .ref (ad 7)) C in_Tx hP 1 cw_1 rfl 5 (by decide) k_1_51 rfl rfl d_Tx_sameString_42 ?_
            refine lv_iload_n hx hb d_Tx_sameString_45 rfl (lv_at hl 1 rfl) ?_
            obtain ⟨g8, h⟩ := o_gd_some h
            refine o_iald (f := (Tx_starts a0)) C hP 7 5 cw_7 rfl g8 d_Tx_sameString_46 ?_
            refine lv_topi (fun x4_47 ex4_47 => ?_)
            replace h := o_nm_at ex4_47 h
            refine lv_istore (lv' := [(4, .int x4_47), (0, .ref (ad 1)), (1, .int x1), (2, .ref (ad 12)), (3, .int x3)]) hx hb d_Tx_sameString_47 hl (by decide) rfl (fun ls hl => ?_)
            refine lv_aload_n hx hb d_Tx_sameString_49 rfl (lv_at hl 3 rfl) ?_
            refine o_get (v := .ref (ad 18)) C in_Tx hP 12 cw_12 rfl 5 (by decide) k_1_51 rfl rfl d_Tx_sameString_50 ?_
            refine lv_iload_n hx hb d_Tx_sameString_53 rfl (lv_at hl 4 rfl) ?_
            obtain ⟨g9, h⟩ := o_gd_some h
            refine o_iald (f := (Tx_starts a2)) C hP 18 15 cw_18 rfl g9 d_Tx_sameString_54 ?_
            refine lv_topi (fun x5_55 ex5_55 => ?_)
            replace h := o_nm_at ex5_55 h
            refine lv_istore (lv' := [(5, .int x5_55), (4, .int x4_47), (0, .ref (ad 1)), (1, .int x1), (2, .ref (ad 12)), (3, .int x3)]) hx hb d_Tx_sameString_55 hl (by decide) rfl (fun ls hl => ?_)
            refine lv_aload_n hx hb d_Tx_sameString_57 rfl (lv_at hl 2 rfl) ?_
            refine o_get (v := .ref (ad 4)) C in_Tx hP 1 cw_1 rfl 2 (by decide) k_1_48 rfl rfl d_Tx_sameString_58 ?_
            refine lv_iload_n hx hb d_Tx_sameString_61 rfl (lv_at hl 3 rfl) ?_
            obtain ⟨g10, h⟩ := o_gd_some h
            refine o_iald (f := (Tx_sizes a0)) C hP 4 2 cw_4 rfl g10 d_Tx_sameString_62 ?_
            refine lv_topi (fun x6_63 ex6_63 => ?_)
            replace h := o_nm_at ex6_63 h
            refine lv_istore (lv' := [(6, .int x6_63), (5, .int x5_55), (4, .int x4_47), (0, .ref (ad 1)), (1, .int x1), (2, .ref (ad 12)), (3, .int x3)]) hx hb d_Tx_sameString_63 hl (by decide) rfl (fun ls hl => ?_)
            refine lv_iload hx hb d_Tx_sameString_65 (lv_at hl 2 rfl) ?_
            refine lv_if_lt (tgt := 97) hx hb d_Tx_sameString_67 (by decide) (fun c11 => ?_) (fun c11 => ?_)
            · replace h := o_tt c11 h
              refine lv_iconst (v := (0:Int32)) hx hb d_Tx_sameString_97 (by decide) ?_
              cases h
              exact o_rz (v := (0:Int32)) C o_nar0 hP hS d_Tx_sameString_98
            · replace h := o_ff c11 h
              refine lv_iload hx hb d_Tx_sameString_70 (lv_at hl 2 rfl) ?_
              refine lv_iload hx hb d_Tx_sameString_72 (lv_at hl 0 rfl) ?_
              refine lv_iadd hx hb d_Tx_sameString_74 ?_
              refine lv_sipush (v := (8192:Int32)) hx hb d_Tx_sameString_75 (by decide) ?_
              refine lv_icmp_gt (tgt := 97) hx hb d_Tx_sameString_78 (by decide) (fun c12 => ?_) (fun c12 => ?_)
              · replace h := o_tt c12 h
                refine lv_iconst (v := (0:Int32)) hx hb d_Tx_sameString_97 (by decide) ?_
                cases h
                exact o_rz (v := (0:Int32)) C o_nar0 hP hS d_Tx_sameString_98
              · replace h := o_ff c12 h
                refine lv_iload hx hb d_Tx_sameString_81 (lv_at hl 1 rfl) ?_
                refine lv_if_lt (tgt := 97) hx hb d_Tx_sameString_83 (by decide) (fun c13 => ?_) (fun c13 => ?_)
                · replace h := o_tt c13 h
                  refine lv_iconst (v := (0:Int32)) hx hb d_Tx_sameString_97 (by decide) ?_
                  cases h
                  exact o_rz (v := (0:Int32)) C o_nar0 hP hS d_Tx_sameString_98
                · replace h := o_ff c13 h
                  refine lv_iload hx hb d_Tx_sameString_86 (lv_at hl 1 rfl) ?_
                  refine lv_iload hx hb d_Tx_sameString_88 (lv_at hl 0 rfl) ?_
                  refine lv_iadd hx hb d_Tx_sameString_90 ?_
                  refine lv_sipush (v := (8192:Int32)) hx hb d_Tx_sameString_91 (by decide) ?_
                  refine lv_icmp_le (tgt := 99) hx hb d_Tx_sameString_94 (by decide) (fun c14 => ?_) (fun c14 => ?_)
                  · replace h := o_tt c14 h
                    refine lv_iconst (v := (0:Int32)) hx hb d_Tx_sameString_99 (by decide) ?_
                    refine lv_istore (lv' := [(7, .int (0:Int32)), (6, .int x6_63), (5, .int x5_55), (4, .int x4_47), (0, .ref (ad 1)), (1, .int x1), (2, .ref (ad 12)), (3, .int x3)]) hx hb d_Tx_sameString_100 hl (by decide) rfl (fun ls hl => ?_)
                    obtain ⟨q1, hq1, h⟩ := o_bd_some h
                    refine o_sim2 (AH := fun zz => o_At p l e rm_Tx_sameString s m _ below meth c _ o_cls D A 8 102 [] (o_cw ad ca rt Sj a0 a2 Rd Pg Pt Mk Lk Ck Jd Ld Pr) [(0, .ref (ad 1)), (2, .ref (ad 12)), (4, .int x4_47), (5, .int x5_55), (6, .int x6_63), (7, .int zz)]) (AX := fun qq => if qq.1 = 1 then o_At p l e rm_Tx_sameString s m _ below meth c _ o_cls D A 8 132 [] (o_cw ad ca rt Sj a0 a2 Rd Pg Pt Mk Lk Ck Jd Ld Pr) [] else o_At p l e rm_Tx_sameString s m _ below meth c _ o_cls D A 8 140 [] (o_cw ad ca rt Sj a0 a2 Rd Pg Pt Mk Lk Ck Jd Ld Pr) []) (fun zz qq h h0 h1 => w_Tx_sameString_b102_01 hE C hDD n x4_47 x5_55 x6_63 a0 a2 Sj Rd Pg Pt Mk Lk Ck Jd Ld Pr rt zz qq h h0 h1) n _ q1 hq1 ?_ _ _ _ hP hS (lv_sub hl [4, 6, 3, 2, 1, 0] rfl)
                    by_cases c19 : q1.1 = 1
                    · replace h := o_tt c19 h
                      refine o_ip c19 ?_
                      intro H locs ls hP hS hl
                      refine lv_iconst (v := (0:Int32)) hx hb d_Tx_sameString_132 (by decide) ?_
                      cases h
                      exact o_rz (v := (0:Int32)) C o_nar0 hP hS d_Tx_sameString_133
                    replace h := o_ff c19 h
                    refine o_in_ c19 ?_
                    intro H locs ls hP hS hl
                    refine lv_iconst (v := (1:Int32)) hx hb d_Tx_sameString_140 (by decide) ?_
                    cases h
                    exact o_rz (v := (1:Int32)) C o_nar1 hP hS d_Tx_sameString_141
                  · replace h := o_ff c14 h
                    refine lv_iconst (v := (0:Int32)) hx hb d_Tx_sameString_97 (by decide) ?_
                    cases h
                    exact o_rz (v := (0:Int32)) C o_nar0 hP hS d_Tx_sameString_98
          · replace h := o_ff c7 h
            refine lv_iconst (v := (0:Int32)) hx hb d_Tx_sameString_39 (by decide) ?_
            cases h
            exact o_rz (v := (0:Int32)) C o_nar0 hP hS d_Tx_sameString_40
