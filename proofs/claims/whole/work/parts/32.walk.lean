set_option maxHeartbeats 4000000 in
set_option maxRecDepth 100000 in
theorem c_Tx_cell_0 {E : (Nat → Prop) → State → Heap → Prop} {D : va_G} {ad kd sd vd xd : Nat → Nat} {ca : Nat → ClassId} (hE : o_EK E kd sd vd xd) (l : Launch) (x1 : Int32) (x2 : Int32) (a0 : STx) (Sj : SSJ) (T1 : STx) (Rd : SRd) (Pg : SPg) (Pt : SPt) (Mk : SMk) (Lk : SLk) (Ck : SCk) (Jd : SJd) (Ld : SLd) (Pr : SPr) (rt : Nat) {r : Int32} (h : m_Tx_cell x1 x2 a0 = some r) : o_Cn E l D o_cls (o_tys ca) y_Tx_cell cc_Tx_cell rm_Tx_cell [.ref (ad 1), .int x1, .int x2] (o_cw ad ca rt Sj a0 T1 Rd Pg Pt Mk Lk Ck Jd Ld Pr) (o_cw ad ca rt Sj a0 T1 Rd Pg Pt Mk Lk Ck Jd Ld Pr) (some (.int r)) := by
  refine o_Cn_of (by decide) (Nat.le_of_ble_eq_true rfl) ?_
  intro p e s m below meth c A ls C hD hP hS hl
  have hDD : ∀ (rt : Nat) (Sj : SSJ) (T0 : STx) (T1 : STx) (Rd : SRd) (Pg : SPg) (Pt : SPt) (Mk : SMk) (Lk : SLk) (Ck : SCk) (Jd : SJd) (Ld : SLd) (Pr : SPr), va_D A (o_cw ad ca rt Sj T0 T1 Rd Pg Pt Mk Lk Ck Jd Ld Pr) := fun _ _ _ _ _ _ _ _ _ _ _ _ _ => o_D_map hD rfl
  have hl : lv_has ls 4 [(0, .ref (ad 1)), (1, .int x1), (2, .int x2)] := hl
  unfold m_Tx_cell at h
  have C0 := C
  obtain ⟨hx, hb, -, -, -, hown, hts, hK, -, -⟩ := C0
  refine lv_iload_n hx hb d_Tx_cell_0 rfl (lv_at hl 1 rfl) ?_
  refine lv_if_lt (tgt := 26) hx hb d_Tx_cell_1 (by decide) (fun c1 => ?_) (fun c1 => ?_)
  · replace h := o_tt c1 h
    refine lv_iconst (v := (0:Int32)) hx hb d_Tx_cell_26 (by decide) ?_
    cases h
    exact o_ri (v := (0:Int32)) C hP hS d_Tx_cell_27
  · replace h := o_ff c1 h
    refine lv_iload_n hx hb d_Tx_cell_4 rfl (lv_at hl 1 rfl) ?_
    refine lv_aload_n hx hb d_Tx_cell_5 rfl (lv_at hl 0 rfl) ?_
    refine o_get (v := .int (Tx_total a0)) C in_Tx hP 1 cw_1 rfl 10 (by decide) k_1_56 rfl rfl d_Tx_cell_6 ?_
    refine lv_icmp_ge (tgt := 26) hx hb d_Tx_cell_9 (by decide) (fun c2 => ?_) (fun c2 => ?_)
    · replace h := o_tt c2 h
      refine lv_iconst (v := (0:Int32)) hx hb d_Tx_cell_26 (by decide) ?_
      cases h
      exact o_ri (v := (0:Int32)) C hP hS d_Tx_cell_27
    · replace h := o_ff c2 h
      refine lv_iload_n hx hb d_Tx_cell_12 rfl (lv_at hl 2 rfl) ?_
      refine lv_if_lt (tgt := 26) hx hb d_Tx_cell_13 (by decide) (fun c3 => ?_) (fun c3 => ?_)
      · replace h := o_tt c3 h
        refine lv_iconst (v := (0:Int32)) hx hb d_Tx_cell_26 (by decide) ?_
        cases h
        exact o_ri (v := (0:Int32)) C hP hS d_Tx_cell_27
      · replace h := o_ff c3 h
        refine lv_iload_n hx hb d_Tx_cell_16 rfl (lv_at hl 2 rfl) ?_
        refine lv_aload_n hx hb d_Tx_cell_17 rfl (lv_at hl 0 rfl) ?_
        refine o_get (v := .ref (ad 4)) C in_Tx hP 1 cw_1 rfl 2 (by decide) k_1_48 rfl rfl d_Tx_cell_18 ?_
        refine lv_iload_n hx hb d_Tx_cell_21 rfl (lv_at hl 1 rfl) ?_
        obtain ⟨g4, h⟩ := o_gd_some h
        refine o_iald (f := (Tx_sizes a0)) C hP 4 2 cw_4 rfl g4 d_Tx_cell_22 ?_
        refine lv_icmp_lt (tgt := 28) hx hb d_Tx_cell_23 (by decide) (fun c5 => ?_) (fun c5 => ?_)
        · replace h := o_tt c5 h
          refine lv_aload_n hx hb d_Tx_cell_28 rfl (lv_at hl 0 rfl) ?_
          refine o_get (v := .ref (ad 7)) C in_Tx hP 1 cw_1 rfl 5 (by decide) k_1_51 rfl rfl d_Tx_cell_29 ?_
          refine lv_iload_n hx hb d_Tx_cell_32 rfl (lv_at hl 1 rfl) ?_
          obtain ⟨g6, h⟩ := o_gd_some h
          refine o_iald (f := (Tx_starts a0)) C hP 7 5 cw_7 rfl g6 d_Tx_cell_33 ?_
          refine lv_iload_n hx hb d_Tx_cell_34 rfl (lv_at hl 2 rfl) ?_
          refine lv_iadd hx hb d_Tx_cell_35 ?_
          refine lv_topi (fun x3_36 ex3_36 => ?_)
          replace h := o_nm_at ex3_36 h
          refine lv_istore_n (lv' := [(3, .int x3_36), (0, .ref (ad 1)), (1, .int x1), (2, .int x2)]) hx hb d_Tx_cell_36 rfl hl (by decide) rfl (fun ls hl => ?_)
          refine lv_iload_n hx hb d_Tx_cell_37 rfl (lv_at hl 0 rfl) ?_
          refine lv_if_lt (tgt := 59) hx hb d_Tx_cell_38 (by decide) (fun c7 => ?_) (fun c7 => ?_)
          · replace h := o_tt c7 h
            refine lv_iconst (v := (0:Int32)) hx hb d_Tx_cell_59 (by decide) ?_
            cases h
            exact o_ri (v := (0:Int32)) C hP hS d_Tx_cell_60
          · replace h := o_ff c7 h
            refine lv_iload_n hx hb d_Tx_cell_41 rfl (lv_at hl 0 rfl) ?_
            refine lv_aload_n hx hb d_Tx_cell_42 rfl (lv_at hl 1 rfl) ?_
            refine o_get (v := .ref (ad 11)) C in_Tx hP 1 cw_1 rfl 9 (by decide) k_1_55 rfl rfl d_Tx_cell_43 ?_
            refine va_alen (v := (8192:Int32)) hx hb hK hP 11 9 cw_11 rfl rfl d_Tx_cell_46 ?_
            refine lv_icmp_ge (tgt := 59) hx hb d_Tx_cell_47 (by decide) (fun c8 => ?_) (fun c8 => ?_)
            · replace h := o_tt c8 h
              refine lv_iconst (v := (0:Int32)) hx hb d_Tx_cell_59 (by decide) ?_
              cases h
              exact o_ri (v := (0:Int32)) C hP hS d_Tx_cell_60
            · replace h := o_ff c8 h
              refine lv_aload_n hx hb d_Tx_cell_50 rfl (lv_at hl 1 rfl) ?_
              refine o_get (v := .ref (ad 11)) C in_Tx hP 1 cw_1 rfl 9 (by decide) k_1_55 rfl rfl d_Tx_cell_51 ?_
              refine lv_iload_n hx hb d_Tx_cell_54 rfl (lv_at hl 0 rfl) ?_
              obtain ⟨g9, h⟩ := o_gd_some h
              refine o_iald (f := (Tx_cells a0)) C hP 11 9 cw_11 rfl g9 d_Tx_cell_55 ?_
              refine lv_goto (tgt := 60) hx hb d_Tx_cell_56 (by decide) ?_
              cases h
              exact o_ri (v := ((Tx_cells a0) x3_36.toNatClampNeg)) C hP hS d_Tx_cell_60
        · replace h := o_ff c5 h
          refine lv_iconst (v := (0:Int32)) hx hb d_Tx_cell_26 (by decide) ?_
          cases h
          exact o_ri (v := (0:Int32)) C hP hS d_Tx_cell_27
set_option maxHeartbeats 4000000 in
set_option maxRecDepth 100000 in
theorem w_SJ_isLetter_j24 {E : (Nat → Prop) → State → Heap → Prop} {p : Program} {l : Launch} {e : Env} {s : State} {m : MethodId} {args : Array Value} {below : List Frame} {meth : Method} {c : Code} {D : va_G} {ad kd sd vd xd : Nat → Nat} {ca : Nat → ClassId} {A : Nat → Prop} (hE : o_EK E kd sd vd xd) (C : o_Cx E p s m args meth c D o_cls (o_tys ca) "SchemaJudge" b_SJ_isLetter (some .boolean) 1 cc_SJ_isLetter A) (hDD : ∀ (rt : Nat) (Sj : SSJ) (T0 : STx) (T1 : STx) (Rd : SRd) (Pg : SPg) (Pt : SPt) (Mk : SMk) (Lk : SLk) (Ck : SCk) (Jd : SJd) (Ld : SLd) (Pr : SPr), va_D A (o_cw ad ca rt Sj T0 T1 Rd Pg Pt Mk Lk Ck Jd Ld Pr)) (x0 : Int32) (Sj : SSJ) (T0 : STx) (T1 : STx) (Rd : SRd) (Pg : SPg) (Pt : SPt) (Mk : SMk) (Lk : SLk) (Ck : SCk) (Jd : SJd) (Ld : SLd) (Pr : SPr) (rt : Nat) {r : Int32} (h : m_SJ_isLetter_j24 x0 = some r) : o_At p l e rm_SJ_isLetter s m args below meth c (MQ below (o_Qx D o_cls (some (.int r)) (o_cw ad ca rt Sj T0 T1 Rd Pg Pt Mk Lk Ck Jd Ld Pr) A) args s 0 0 A) o_cls D A 1 24 [] (o_cw ad ca rt Sj T0 T1 Rd Pg Pt Mk Lk Ck Jd Ld Pr) [(0, .int x0)] := by
  unfold m_SJ_isLetter_j24 at h
  intro H locs ls hP hS hl
  have C0 := C
  obtain ⟨hx, hb, -, -, -, hown, hts, hK, -, -⟩ := C0
  refine lv_iload_n hx hb d_SJ_isLetter_24 rfl (lv_at hl 0 rfl) ?_
  refine lv_bipush (v := (95:Int32)) hx hb d_SJ_isLetter_25 (by decide) ?_
  refine lv_icmp_ne (tgt := 34) hx hb d_SJ_isLetter_27 (by decide) (fun c3 => ?_) (fun c3 => ?_)
  · replace h := o_ff c3 h
    refine lv_iconst (v := (0:Int32)) hx hb d_SJ_isLetter_34 (by decide) ?_
    cases h
    exact o_rz (v := (0:Int32)) C o_nar0 hP hS d_SJ_isLetter_35
  · replace h := o_tt c3 h
    refine lv_iconst (v := (1:Int32)) hx hb d_SJ_isLetter_30 (by decide) ?_
    refine lv_goto (tgt := 35) hx hb d_SJ_isLetter_31 (by decide) ?_
    cases h
    exact o_rz (v := (1:Int32)) C o_nar1 hP hS d_SJ_isLetter_35
set_option maxHeartbeats 4000000 in
set_option maxRecDepth 100000 in
theorem w_SJ_isLetter_j12 {E : (Nat → Prop) → State → Heap → Prop} {p : Program} {l : Launch} {e : Env} {s : State} {m : MethodId} {args : Array Value} {below : List Frame} {meth : Method} {c : Code} {D : va_G} {ad kd sd vd xd : Nat → Nat} {ca : Nat → ClassId} {A : Nat → Prop} (hE : o_EK E kd sd vd xd) (C : o_Cx E p s m args meth c D o_cls (o_tys ca) "SchemaJudge" b_SJ_isLetter (some .boolean) 1 cc_SJ_isLetter A) (hDD : ∀ (rt : Nat) (Sj : SSJ) (T0 : STx) (T1 : STx) (Rd : SRd) (Pg : SPg) (Pt : SPt) (Mk : SMk) (Lk : SLk) (Ck : SCk) (Jd : SJd) (Ld : SLd) (Pr : SPr), va_D A (o_cw ad ca rt Sj T0 T1 Rd Pg Pt Mk Lk Ck Jd Ld Pr)) (x0 : Int32) (Sj : SSJ) (T0 : STx) (T1 : STx) (Rd : SRd) (Pg : SPg) (Pt : SPt) (Mk : SMk) (Lk : SLk) (Ck : SCk) (Jd : SJd) (Ld : SLd) (Pr : SPr) (rt : Nat) {r : Int32} (h : m_SJ_isLetter_j12 x0 = some r) : o_At p l e rm_SJ_isLetter s m args below meth c (MQ below (o_Qx D o_cls (some (.int r)) (o_cw ad ca rt Sj T0 T1 Rd Pg Pt Mk Lk Ck Jd Ld Pr) A) args s 0 0 A) o_cls D A 1 12 [] (o_cw ad ca rt Sj T0 T1 Rd Pg Pt Mk Lk Ck Jd Ld Pr) [(0, .int x0)] := by
  unfold m_SJ_isLetter_j12 at h
  intro H locs ls hP hS hl
  have C0 := C
  obtain ⟨hx, hb, -, -, -, hown, hts, hK, -, -⟩ := C0
  refine lv_iload_n hx hb d_SJ_isLetter_12 rfl (lv_at hl 0 rfl) ?_
  refine lv_bipush (v := (65:Int32)) hx hb d_SJ_isLetter_13 (by decide) ?_
  refine lv_icmp_lt (tgt := 24) hx hb d_SJ_isLetter_15 (by decide) (fun c2 => ?_) (fun c2 => ?_)
  · replace h := o_tt c2 h
    exact w_SJ_isLetter_j24 hE C hDD x0 Sj T0 T1 Rd Pg Pt Mk Lk Ck Jd Ld Pr rt h _ _ _ hP hS (lv_sub hl [0] rfl)
  · replace h := o_ff c2 h
    refine lv_iload_n hx hb d_SJ_isLetter_18 rfl (lv_at hl 0 rfl) ?_
    refine lv_bipush (v := (90:Int32)) hx hb d_SJ_isLetter_19 (by decide) ?_
    refine lv_icmp_le (tgt := 30) hx hb d_SJ_isLetter_21 (by decide) (fun c4 => ?_) (fun c4 => ?_)
    · replace h := o_tt c4 h
      refine lv_iconst (v := (1:Int32)) hx hb d_SJ_isLetter_30 (by decide) ?_
      refine lv_goto (tgt := 35) hx hb d_SJ_isLetter_31 (by decide) ?_
      cases h
      exact o_rz (v := (1:Int32)) C o_nar1 hP hS d_SJ_isLetter_35
    · replace h := o_ff c4 h
      exact w_SJ_isLetter_j24 hE C hDD x0 Sj T0 T1 Rd Pg Pt Mk Lk Ck Jd Ld Pr rt h _ _ _ hP hS (lv_sub hl [0] rfl)
set_option maxHeartbeats 4000000 in
set_option maxRecDepth 100000 in
theorem c_SJ_isLetter {E : (Nat → Prop) → State → Heap → Prop} {D : va_G} {ad kd sd vd xd : Nat → Nat} {ca : Nat → ClassId} (hE : o_EK E kd sd vd xd) (l : Launch) (x0 : Int32) (Sj : SSJ) (T0 : STx) (T1 : STx) (Rd : SRd) (Pg : SPg) (Pt : SPt) (Mk : SMk) (Lk : SLk) (Ck : SCk) (Jd : SJd) (Ld : SLd) (Pr : SPr) (rt : Nat) {r : Int32} (h : m_SJ_isLetter x0 = some r) : o_Cn E l D o_cls (o_tys ca) y_SJ_isLetter cc_SJ_isLetter rm_SJ_isLetter [.int x0] (o_cw ad ca rt Sj T0 T1 Rd Pg Pt Mk Lk Ck Jd Ld Pr) (o_cw ad ca rt Sj T0 T1 Rd Pg Pt Mk Lk Ck Jd Ld Pr) (some (.int r)) := by
  refine o_Cn_of (by decide) (Nat.le_of_ble_eq_true rfl) ?_
  intro p e s m below meth c A ls C hD hP hS hl
  have hDD : ∀ (rt : Nat) (Sj : SSJ) (T0 : STx) (T1 : STx) (Rd : SRd) (Pg : SPg) (Pt : SPt) (Mk : SMk) (Lk : SLk) (Ck : SCk) (Jd : SJd) (Ld : SLd) (Pr : SPr), va_D A (o_cw ad ca rt Sj T0 T1 Rd Pg Pt Mk Lk Ck Jd Ld Pr) := fun _ _ _ _ _ _ _ _ _ _ _ _ _ => o_D_map hD rfl
  have hl : lv_has ls 1 [(0, .int x0)] := hl
  unfold m_SJ_isLetter at h
  have C0 := C
  obtain ⟨hx, hb, -, -, -, hown, hts, hK, -, -⟩ := C0
  refine lv_iload_n hx hb d_SJ_isLetter_0 rfl (lv_at hl 0 rfl) ?_
  refine lv_bipush (v := (97:Int32)) hx hb d_SJ_isLetter_1 (by decide) ?_
  refine lv_icmp_lt (tgt := 12) hx hb d_SJ_isLetter_3 (by decide) (fun c1 => ?_) (fun c1 => ?_)
  · replace h := o_tt c1 h
    exact w_SJ_isLetter_j12 hE C hDD x0 Sj T0 T1 Rd Pg Pt Mk Lk Ck Jd Ld Pr rt h _ _ _ hP hS (lv_sub hl [0] rfl)
  · replace h := o_ff c1 h
    refine lv_iload_n hx hb d_SJ_isLetter_6 rfl (lv_at hl 0 rfl) ?_
    refine lv_bipush (v := (122:Int32)) hx hb d_SJ_isLetter_7 (by decide) ?_
    refine lv_icmp_le (tgt := 30) hx hb d_SJ_isLetter_9 (by decide) (fun c5 => ?_) (fun c5 => ?_)
    · replace h := o_tt c5 h
      refine lv_iconst (v := (1:Int32)) hx hb d_SJ_isLetter_30 (by decide) ?_
      refine lv_goto (tgt := 35) hx hb d_SJ_isLetter_31 (by decide) ?_
      cases h
      exact o_rz (v := (1:Int32)) C o_nar1 hP hS d_SJ_isLetter_35
    · replace h := o_ff c5 h
      exact w_SJ_isLetter_j12 hE C hDD x0 Sj T0 T1 Rd Pg Pt Mk Lk Ck Jd Ld Pr rt h _ _ _ hP hS (lv_sub hl [0] rfl)
set_option maxHeartbeats 4000000 in
set_option maxRecDepth 100000 in
theorem w_Ck_isAnchor_j52 {E : (Nat → Prop) → State → Heap → Prop} {p : Program} {l : Launch} {e : Env} {s : State} {m : MethodId} {args : Array Value} {below : List Frame} {meth : Method} {c : Code} {D : va_G} {ad kd sd vd xd : Nat → Nat} {ca : Nat → ClassId} {A : Nat → Prop} {Q : State → Prop} (hE : o_EK E kd sd vd xd) (C : o_Cx E p s m args meth c D o_cls (o_tys ca) "SchemaJudge$Checker" b_Ck_isAnchor (some .boolean) 5 cc_Ck_isAnchor A) (hDD : ∀ (rt : Nat) (Sj : SSJ) (T0 : STx) (T1 : STx) (Rd : SRd) (Pg : SPg) (Pt : SPt) (Mk : SMk) (Lk : SLk) (Ck : SCk) (Jd : SJd) (Ld : SLd) (Pr : SPr), va_D A (o_cw ad ca rt Sj T0 T1 Rd Pg Pt Mk Lk Ck Jd Ld Pr)) (n : Nat) (u2_x1 : Int32) (u2_T0 : STx) (u2_Sj : SSJ) (u2_T1 : STx) (u2_Rd : SRd) (u2_Pg : SPg) (u2_Pt : SPt) (u2_Mk : SMk) (u2_Lk : SLk) (u2_Ck : SCk) (u2_Jd : SJd) (u2_Ld : SLd) (u2_Pr : SPr) (u2_rt : Nat) (x2 : Int32) (x3 : Int32) (y0 : Int32) {q : Nat × Int32} (h : m_Ck_isAnchor_j52 n u2_x1 x2 x3 y0 u2_T0 = some q) (h0 : q.1 = 0 → o_At p l e rm_Ck_isAnchor s m args below meth c Q o_cls D A 5 2 [] (o_cw ad ca u2_rt u2_Sj u2_T0 u2_T1 u2_Rd u2_Pg u2_Pt u2_Mk u2_Lk u2_Ck u2_Jd u2_Ld u2_Pr) [(0, .ref (ad 45)), (1, .int u2_x1), (2, .int q.2)]) (h1 : q.1 ≠ 0 → (if q.1 = 1 then o_At p l e rm_Ck_isAnchor s m args below meth c Q o_cls D A 5 66 [] (o_cw ad ca u2_rt u2_Sj u2_T0 u2_T1 u2_Rd u2_Pg u2_Pt u2_Mk u2_Lk u2_Ck u2_Jd u2_Ld u2_Pr) [] else o_At p l e rm_Ck_isAnchor s m args below meth c Q o_cls D A 5 74 [] (o_cw ad ca u2_rt u2_Sj u2_T0 u2_T1 u2_Rd u2_Pg u2_Pt u2_Mk u2_Lk u2_Ck u2_Jd u2_Ld u2_Pr) [(0, .ref (ad 45)), (1, .int u2_x1)])) : o_At p l e rm_Ck_isAnchor s m args below meth c Q o_cls D A 5 52 [.int y0] (o_cw ad ca u2_rt u2_Sj u2_T0 u2_T1 u2_Rd u2_Pg u2_Pt u2_Mk u2_Lk u2_Ck u2_Jd u2_Ld u2_Pr) [(0, .ref (ad 45)), (1, .int u2_x1), (2, .int x2), (3, .int x3)] := by
  unfold m_Ck_isAnchor_j52 at h
  intro H locs ls hP hS hl
  have C0 := C
  obtain ⟨hx, hb, -, -, -, hown, hts, hK, -, -⟩ := C0
  refine lv_istore (lv' := [(4, .int y0), (0, .ref (ad 45)), (1, .int u2_x1), (2, .int x2), (3, .int x3)]) hx hb d_Ck_isAnchor_52 hl (by decide) rfl (fun ls hl => ?_)
  refine lv_iload_n hx hb d_Ck_isAnchor_54 rfl (lv_at hl 4 rfl) ?_
  obtain ⟨q3, hq3, h⟩ := o_bd_some h
  refine o_SN (st1 := [.int q3]) (w1 := (o_cw ad ca u2_rt u2_Sj u2_T0 u2_T1 u2_Rd u2_Pg u2_Pt u2_Mk u2_Lk u2_Ck u2_Jd u2_Ld u2_Pr)) hE.1 C (c_SJ_isLetter hE l x3 u2_Sj u2_T0 u2_T1 u2_Rd u2_Pg u2_Pt u2_Mk u2_Lk u2_Ck u2_Jd u2_Ld u2_Pr u2_rt hq3) hP (hDD _ _ _ _ _ _ _ _ _ _ _ _ _) hS hl.1 (hE.2.1 _ _ _ C.2.2.2.2.2.2.2.2.2 _ nw_13) k_5_79 k_1_1 k_5_80 hs_SJ_isLetter rfl rfl ⟨(Nat.le_of_ble_eq_true rfl), (Nat.le_of_ble_eq_true rfl)⟩ rfl (Nat.le_of_ble_eq_true rfl) ⟨Nat.zero_le _, Nat.zero_le _⟩ rfl d_Ck_isAnchor_55 (fun H locs hP hS => ?_)
  refine lv_if_ne (tgt := 68) hx hb d_Ck_isAnchor_58 (by decide) (fun c3 => ?_) (fun c3 => ?_)
  · replace h := o_ff c3 h
    obtain ⟨x2_68, ex2_68⟩ : ∃ y : Int32, y = x2 + (1:Int32) := ⟨_, rfl⟩
    replace h := o_nm_at ex2_68 h
    refine lv_iinc (v := x2_68) (lv' := [(2, .int x2_68), (4, .int y0), (0, .ref (ad 45)), (1, .int u2_x1), (3, .int x3)]) hx hb d_Ck_isAnchor_68 hl (k := 3) rfl (by rw [ex2_68]; rfl) (by decide) rfl (fun ls hl => ?_)
    refine lv_goto (tgt := 2) hx hb d_Ck_isAnchor_71 (by decide) ?_
    cases h
    exact h0 rfl _ _ _ hP hS (lv_sub hl [2, 3, 0] rfl)
  · replace h := o_tt c3 h
    refine lv_iload hx hb d_Ck_isAnchor_61 (lv_at hl 0 rfl) ?_
    refine lv_if_ne (tgt := 68) hx hb d_Ck_isAnchor_63 (by decide) (fun c4 => ?_) (fun c4 => ?_)
    · replace h := o_ff c4 h
      obtain ⟨x2_68, ex2_68⟩ : ∃ y : Int32, y = x2 + (1:Int32) := ⟨_, rfl⟩
      replace h := o_nm_at ex2_68 h
      refine lv_iinc (v := x2_68) (lv' := [(2, .int x2_68), (4, .int y0), (0, .ref (ad 45)), (1, .int u2_x1), (3, .int x3)]) hx hb d_Ck_isAnchor_68 hl (k := 3) rfl (by rw [ex2_68]; rfl) (by decide) rfl (fun ls hl => ?_)
      refine lv_goto (tgt := 2) hx hb d_Ck_isAnchor_71 (by decide) ?_
      cases h
      exact h0 rfl _ _ _ hP hS (lv_sub hl [2, 3, 0] rfl)
    · replace h := o_tt c4 h
      cases h
      exact h1 (Nat.succ_ne_zero 0) _ _ _ hP hS (lv_sub hl [] rfl)
set_option maxHeartbeats 4000000 in
set_option maxRecDepth 100000 in
theorem w_Ck_isAnchor_b2 {E : (Nat → Prop) → State → Heap → Prop} {p : Program} {l : Launch} {e : Env} {s : State} {m : MethodId} {args : Array Value} {below : List Frame} {meth : Method} {c : Code} {D : va_G} {ad kd sd vd xd : Nat → Nat} {ca : Nat → ClassId} {A : Nat → Prop} {Q : State → Prop} (hE : o_EK E kd sd vd xd) (C : o_Cx E p s m args meth c D o_cls (o_tys ca) "SchemaJudge$Checker" b_Ck_isAnchor (some .boolean) 5 cc_Ck_isAnchor A) (hDD : ∀ (rt : Nat) (Sj : SSJ) (T0 : STx) (T1 : STx) (Rd : SRd) (Pg : SPg) (Pt : SPt) (Mk : SMk) (Lk : SLk) (Ck : SCk) (Jd : SJd) (Ld : SLd) (Pr : SPr), va_D A (o_cw ad ca rt Sj T0 T1 Rd Pg Pt Mk Lk Ck Jd Ld Pr)) (n : Nat) (u2_x1 : Int32) (u2_T0 : STx) (u2_Sj : SSJ) (u2_T1 : STx) (u2_Rd : SRd) (u2_Pg : SPg) (u2_Pt : SPt) (u2_Mk : SMk) (u2_Lk : SLk) (u2_Ck : SCk) (u2_Jd : SJd) (u2_Ld : SLd) (u2_Pr : SPr) (u2_rt : Nat) (z : Int32) (q : Nat × Int32) (h : m_Ck_isAnchor_b2 n u2_x1 u2_T0 z = some q) (h0 : q.1 = 0 → o_At p l e rm_Ck_isAnchor s m args below meth c Q o_cls D A 5 2 [] (o_cw ad ca u2_rt u2_Sj u2_T0 u2_T1 u2_Rd u2_Pg u2_Pt u2_Mk u2_Lk u2_Ck u2_Jd u2_Ld u2_Pr) [(0, .ref (ad 45)), (1, .int u2_x1), (2, .int q.2)]) (h1 : q.1 ≠ 0 → (if q.1 = 1 then o_At p l e rm_Ck_isAnchor s m args below meth c Q o_cls D A 5 66 [] (o_cw ad ca u2_rt u2_Sj u2_T0 u2_T1 u2_Rd u2_Pg u2_Pt u2_Mk u2_Lk u2_Ck u2_Jd u2_Ld u2_Pr) [] else o_At p l e rm_Ck_isAnchor s m args below meth c Q o_cls D A 5 74 [] (o_cw ad ca u2_rt u2_Sj u2_T0 u2_T1 u2_Rd u2_Pg u2_Pt u2_Mk u2_Lk u2_Ck u2_Jd u2_Ld u2_Pr) [(0, .ref (ad 45)), (1, .int u2_x1)])) : o_At p l e rm_Ck_isAnchor s m args below meth c Q o_cls D A 5 2 [] (o_cw ad ca u2_rt u2_Sj u2_T0 u2_T1 u2_Rd u2_Pg u2_Pt u2_Mk u2_Lk u2_Ck u2_Jd u2_Ld u2_Pr) [(0, .ref (ad 45)), (1, .int u2_x1), (2, .int z)] := by
  unfold m_Ck_isAnchor_b2 at h
  intro H locs ls hP hS hl
  have C0 := C
  obtain ⟨hx, hb, -, -, -, hown, hts, hK, -, -⟩ := C0
  refine lv_iload_n hx hb d_Ck_isAnchor_2 rfl (lv_at hl 2 rfl) ?_
  refine lv_aload_n hx hb d_Ck_isAnchor_3 rfl (lv_at hl 0 rfl) ?_
  refine o_get (v := .ref (ad 1)) C in_Ck hP 45 cw_45 rfl 0 (by decide) k_2_7 rfl rfl d_Ck_isAnchor_4 ?_
  refine lv_iload_n hx hb d_Ck_isAnchor_7 rfl (lv_at hl 1 rfl) ?_
  obtain ⟨q1, hq1, h⟩ := o_bd_some h
  refine o_V (st1 := [.int q1, .int z]) (w1 := (o_cw ad ca u2_rt u2_Sj u2_T0 u2_T1 u2_Rd u2_Pg u2_Pt u2_Mk u2_Lk u2_Ck u2_Jd u2_Ld u2_Pr)) hE.1 C (c_Tx_size_0 hE l u2_x1 u2_T0 u2_Sj u2_T1 u2_Rd u2_Pg u2_Pt u2_Mk u2_Lk u2_Ck u2_Jd u2_Ld u2_Pr u2_rt hq1) hP (hDD _ _ _ _ _ _ _ _ _ _ _ _ _) hS hl.1 rfl cw_1 k_4_71 k_3_215 k_3_216 k_1_2 k_3_217 hv_Tx_size rfl rfl ⟨(Nat.le_of_ble_eq_true rfl), (Nat.le_of_ble_eq_true rfl)⟩ rfl (Nat.le_of_ble_eq_true rfl) ⟨Nat.zero_le _, Nat.zero_le _⟩ rfl d_Ck_isAnchor_8 (fun H locs hP hS => ?_)
  refine lv_icmp_ge (tgt := 74) hx hb d_Ck_isAnchor_11 (by decide) (fun c1 => ?_) (fun c1 => ?_)
  · replace h := o_tt c1 h
    cases h
    exact h1 (Nat.succ_ne_zero 1) _ _ _ hP hS (lv_sub hl [0, 1] rfl)
  · replace h := o_ff c1 h
    refine lv_aload_n hx hb d_Ck_isAnchor_14 rfl (lv_at hl 0 rfl) ?_
    refine o_get (v := .ref (ad 1)) C in_Ck hP 45 cw_45 rfl 0 (by decide) k_2_7 rfl rfl d_Ck_isAnchor_15 ?_
    refine lv_iload_n hx hb d_Ck_isAnchor_18 rfl (lv_at hl 1 rfl) ?_
    refine lv_iload_n hx hb d_Ck_isAnchor_19 rfl (lv_at hl 2 rfl) ?_
    obtain ⟨q2, hq2, h⟩ := o_bd_some h
    refine o_V (st1 := [.int q2]) (w1 := (o_cw ad ca u2_rt u2_Sj u2_T0 u2_T1 u2_Rd u2_Pg u2_Pt u2_Mk u2_Lk u2_Ck u2_Jd u2_Ld u2_Pr)) hE.1 C (c_Tx_cell_0 hE l u2_x1 z u2_T0 u2_Sj u2_T1 u2_Rd u2_Pg u2_Pt u2_Mk u2_Lk u2_Ck u2_Jd u2_Ld u2_Pr u2_rt hq2) hP (hDD _ _ _ _ _ _ _ _ _ _ _ _ _) hS hl.1 rfl cw_1 k_5_76 k_4_117 k_4_118 k_1_2 k_4_119 hv_Tx_cell rfl rfl ⟨(Nat.le_of_ble_eq_true rfl), (Nat.le_of_ble_eq_true rfl)⟩ rfl (Nat.le_of_ble_eq_true rfl) ⟨Nat.zero_le _, Nat.zero_le _⟩ rfl d_Ck_isAnchor_20 (fun H locs hP hS => ?_)
    refine lv_istore_n (lv' := [(3, .int q2), (0, .ref (ad 45)), (1, .int u2_x1), (2, .int z)]) hx hb d_Ck_isAnchor_23 rfl hl (by decide) rfl (fun ls hl => ?_)
    refine lv_iload_n hx hb d_Ck_isAnchor_24 rfl (lv_at hl 3 rfl) ?_
    refine lv_if_le (tgt := 51) hx hb d_Ck_isAnchor_25 (by decide) (fun c2 => ?_) (fun c2 => ?_)
    · replace h := o_tt c2 h
      refine lv_iconst (v := (0:Int32)) hx hb d_Ck_isAnchor_51 (by decide) ?_
      exact w_Ck_isAnchor_j52 hE C hDD n u2_x1 u2_T0 u2_Sj u2_T1 u2_Rd u2_Pg u2_Pt u2_Mk u2_Lk u2_Ck u2_Jd u2_Ld u2_Pr u2_rt z q2 (0:Int32) h h0 h1 _ _ _ hP hS (lv_sub hl [1, 2, 3, 0] rfl)
    · replace h := o_ff c2 h
      refine lv_iload_n hx hb d_Ck_isAnchor_28 rfl (lv_at hl 0 rfl) ?_
      obtain ⟨q4, hq4, h⟩ := o_bd_some h
      refine o_SN (st1 := [.int q4]) (w1 := (o_cw ad ca u2_rt u2_Sj u2_T0 u2_T1 u2_Rd u2_Pg u2_Pt u2_Mk u2_Lk u2_Ck u2_Jd u2_Ld u2_Pr)) hE.1 C (c_SJ_isDigit hE l q2 u2_Sj u2_T0 u2_T1 u2_Rd u2_Pg u2_Pt u2_Mk u2_Lk u2_Ck u2_Jd u2_Ld u2_Pr u2_rt hq4) hP (hDD _ _ _ _ _ _ _ _ _ _ _ _ _) hS hl.1 (hE.2.1 _ _ _ C.2.2.2.2.2.2.2.2.2 _ nw_12) k_3_46 k_1_1 k_3_47 hs_SJ_isDigit rfl rfl ⟨(Nat.le_of_ble_eq_true rfl), (Nat.le_of_ble_eq_true rfl)⟩ rfl (Nat.le_of_ble_eq_true rfl) ⟨Nat.zero_le _, Nat.zero_le _⟩ rfl d_Ck_isAnchor_29 (fun H locs hP hS => ?_)
      refine lv_if_ne (tgt := 47) hx hb d_Ck_isAnchor_32 (by decide) (fun c5 => ?_) (fun c5 => ?_)
      · replace h := o_ff c5 h
        refine lv_iconst (v := (1:Int32)) hx hb d_Ck_isAnchor_47 (by decide) ?_
        refine lv_goto (tgt := 52) hx hb d_Ck_isAnchor_48 (by decide) ?_
        exact w_Ck_isAnchor_j52 hE C hDD n u2_x1 u2_T0 u2_Sj u2_T1 u2_Rd u2_Pg u2_Pt u2_Mk u2_Lk u2_Ck u2_Jd u2_Ld u2_Pr u2_rt z q2 (1:Int32) h h0 h1 _ _ _ hP hS (lv_sub hl [1, 2, 3, 0] rfl)
      · replace h := o_tt c5 h
        refine lv_iload_n hx hb d_Ck_isAnchor_35 rfl (lv_at hl 0 rfl) ?_
        refine lv_bipush (v := (45:Int32)) hx hb d_Ck_isAnchor_36 (by decide) ?_
        refine lv_icmp_eq (tgt := 47) hx hb d_Ck_isAnchor_38 (by decide) (fun c6 => ?_) (fun c6 => ?_)
        · replace h := o_tt c6 h
          refine lv_iconst (v := (1:Int32)) hx hb d_Ck_isAnchor_47 (by decide) ?_
          refine lv_goto (tgt := 52) hx hb d_Ck_isAnchor_48 (by decide) ?_
          exact w_Ck_isAnchor_j52 hE C hDD n u2_x1 u2_T0 u2_Sj u2_T1 u2_Rd u2_Pg u2_Pt u2_Mk u2_Lk u2_Ck u2_Jd u2_Ld u2_Pr u2_rt z q2 (1:Int32) h h0 h1 _ _ _ hP hS (lv_sub hl [1, 2, 3, 0] rfl)
        · replace h := o_ff c6 h
          refine lv_iload_n hx hb d_Ck_isAnchor_41 rfl (lv_at hl 0 rfl) ?_
          refine lv_bipush (v := (46:Int32)) hx hb d_Ck_isAnchor_42 (by decide) ?_
          refine lv_icmp_ne (tgt := 51) hx hb d_Ck_isAnchor_44 (by decide) (fun c7 => ?_) (fun c7 => ?_)
          · replace h := o_ff c7 h
            refine lv_iconst (v := (0:Int32)) hx hb d_Ck_isAnchor_51 (by decide) ?_
            exact w_Ck_isAnchor_j52 hE C hDD n u2_x1 u2_T0 u2_Sj u2_T1 u2_Rd u2_Pg u2_Pt u2_Mk u2_Lk u2_Ck u2_Jd u2_Ld u2_Pr u2_rt z q2 (0:Int32) h h0 h1 _ _ _ hP hS (lv_sub hl [1, 2, 3, 0] rfl)
          · replace h := o_tt c7 h
            refine lv_iconst (v := (1:Int32)) hx hb d_Ck_isAnchor_47 (by decide) ?_
            refine lv_goto (tgt := 52) hx hb d_Ck_isAnchor_48 (by decide) ?_
            exact w_Ck_isAnchor_j52 hE C hDD n u2_x1 u2_T0 u2_Sj u2_T1 u2_Rd u2_Pg u2_Pt u2_Mk u2_Lk u2_Ck u2_Jd u2_Ld u2_Pr u2_rt z q2 (1:Int32) h h0 h1 _ _ _ hP hS (lv_sub hl [1, 2, 3, 0] rfl)
set_option maxHeartbeats 4000000 in
set_option maxRecDepth 100000 in
theorem c_Ck_isAnchor {E : (Nat → Prop) → State → Heap → Prop} {D : va_G} {ad kd sd vd xd : Nat → Nat} {ca : Nat → ClassId} (hE : o_EK E kd sd vd xd) (l : Launch) (n : Nat) (x1 : Int32) (T0 : STx) (Sj : SSJ) (T1 : STx) (Rd : SRd) (Pg : SPg) (Pt : SPt) (Mk : SMk) (Lk : SLk) (Ck : SCk) (Jd : SJd) (Ld : SLd) (Pr : SPr) (rt : Nat) {r : Int32} (h : m_Ck_isAnchor n x1 T0 = some r) : o_Cn E l D o_cls (o_tys ca) y_Ck_isAnchor cc_Ck_isAnchor rm_Ck_isAnchor [.ref (ad 45), .int x1] (o_cw ad ca rt Sj T0 T1 Rd Pg Pt Mk Lk Ck Jd Ld Pr) (o_cw ad ca rt Sj T0 T1 Rd Pg Pt Mk Lk Ck Jd Ld Pr) (some (.int r)) := by
  refine o_Cn_of (by decide) (Nat.le_of_ble_eq_true rfl) ?_
  intro p e s m below meth c A ls C hD hP hS hl
  have hDD : ∀ (rt : Nat) (Sj : SSJ) (T0 : STx) (T1 : STx) (Rd : SRd) (Pg : SPg) (Pt : SPt) (Mk : SMk) (Lk : SLk) (Ck : SCk) (Jd : SJd) (Ld : SLd) (Pr : SPr), va_D A (o_cw ad ca rt Sj T0 T1 Rd Pg Pt Mk Lk Ck Jd Ld Pr) := fun _ _ _ _ _ _ _ _ _ _ _ _ _ => o_D_map hD rfl
  have hl : lv_has ls 5 [(0, .ref (ad 45)), (1, .int x1)] := hl
  unfold m_Ck_isAnchor at h
  have C0 := C
  obtain ⟨hx, hb, -, -, -, hown, hts, hK, -, -⟩ := C0
  refine lv_iconst (v := (0:Int32)) hx hb d_Ck_isAnchor_0 (by decide) ?_
  refine lv_istore_n (lv' := [(2, .int (0:Int32)), (0, .ref (ad 45)), (1, .int x1)]) hx hb d_Ck_isAnchor_1 rfl hl (by decide) rfl (fun ls hl => ?_)
  obtain ⟨q5, hq5, h⟩ := o_bd_some h
  refine o_sim2 (AH := fun zz => o_At p l e rm_Ck_isAnchor s m _ below meth c _ o_cls D A 5 2 [] (o_cw ad ca rt Sj T0 T1 Rd Pg Pt Mk Lk Ck Jd Ld Pr) [(0, .ref (ad 45)), (1, .int x1), (2, .int zz)]) (AX := fun qq => if qq.1 = 1 then o_At p l e rm_Ck_isAnchor s m _ below meth c _ o_cls D A 5 66 [] (o_cw ad ca rt Sj T0 T1 Rd Pg Pt Mk Lk Ck Jd Ld Pr) [] else o_At p l e rm_Ck_isAnchor s m _ below meth c _ o_cls D A 5 74 [] (o_cw ad ca rt Sj T0 T1 Rd Pg Pt Mk Lk Ck Jd Ld Pr) [(0, .ref (ad 45)), (1, .int x1)]) (fun zz qq h h0 h1 => w_Ck_isAnchor_b2 hE C hDD n x1 T0 Sj T1 Rd Pg Pt Mk Lk Ck Jd Ld Pr rt zz qq h h0 h1) n _ q5 hq5 ?_ _ _ _ hP hS (lv_sub hl [1, 2, 0] rfl)
  by_cases c9 : q5.1 = 1
  · replace h := o_tt c9 h
    refine o_ip c9 ?_
    intro H locs ls hP hS hl
    refine lv_iconst (v := (0:Int32)) hx hb d_Ck_isAnchor_66 (by decide) ?_
    cases h
    exact o_rz (v := (0:Int32)) C o_nar0 hP hS d_Ck_isAnchor_67
  replace h := o_ff c9 h
  refine o_in_ c9 ?_
  intro H locs ls hP hS hl
  refine lv_aload_n hx hb d_Ck_isAnchor_74 rfl (lv_at hl 0 rfl) ?_
  refine o_get (v := .ref (ad 1)) C in_Ck hP 45 cw_45 rfl 0 (by decide) k_2_7 rfl rfl d_Ck_isAnchor_75 ?_
  refine lv_iload_n hx hb d_Ck_isAnchor_78 rfl (lv_at hl 1 rfl) ?_
  obtain ⟨q6, hq6, h⟩ := o_bd_some h
  refine o_V (st1 := [.int q6]) (w1 := (o_cw ad ca rt Sj T0 T1 Rd Pg Pt Mk Lk Ck Jd Ld Pr)) hE.1 C (c_Tx_size_0 hE l x1 T0 Sj T1 Rd Pg Pt Mk Lk Ck Jd Ld Pr rt hq6) hP (hDD _ _ _ _ _ _ _ _ _ _ _ _ _) hS hl.1 rfl cw_1 k_4_71 k_3_215 k_3_216 k_1_2 k_3_217 hv_Tx_size rfl rfl ⟨(Nat.le_of_ble_eq_true rfl), (Nat.le_of_ble_eq_true rfl)⟩ rfl (Nat.le_of_ble_eq_true rfl) ⟨Nat.zero_le _, Nat.zero_le _⟩ rfl d_Ck_isAnchor_79 (fun H locs hP hS => ?_)
  refine lv_if_le (tgt := 89) hx hb d_Ck_isAnchor_82 (by decide) (fun c8 => ?_) (fun c8 => ?_)
  · replace h := o_tt c8 h
    refine lv_iconst (v := (0:Int32)) hx hb d_Ck_isAnchor_89 (by decide) ?_
    cases h
    exact o_rz (v := (0:Int32)) C o_nar0 hP hS d_Ck_isAnchor_90
  · replace h := o_ff c8 h
    refine lv_iconst (v := (1:Int32)) hx hb d_Ck_isAnchor_85 (by decide) ?_
    refine lv_goto (tgt := 90) hx hb d_Ck_isAnchor_86 (by decide) ?_
    cases h
    exact o_rz (v := (1:Int32)) C o_nar1 hP hS d_Ck_isAnchor_90
set_option maxHeartbeats 4000000 in
set_option maxRecDepth 100000 in
theorem c_Tx_slot_0 {E : (Nat → Prop) → State → Heap → Prop} {D : va_G} {ad kd sd vd xd : Nat → Nat} {ca : Nat → ClassId} (hE : o_EK E kd sd vd xd) (l : Launch) (x1 : Int32) (a0 : STx) (Sj : SSJ) (T1 : STx) (Rd : SRd) (Pg : SPg) (Pt : SPt) (Mk : SMk) (Lk : SLk) (Ck : SCk) (Jd : SJd) (Ld : SLd) (Pr : SPr) (rt : Nat) {r : Int32} (h : m_Tx_slot x1 a0 = some r) : o_Cn E l D o_cls (o_tys ca) y_Tx_slot cc_Tx_slot rm_Tx_slot [.ref (ad 1), .int x1] (o_cw ad ca rt Sj a0 T1 Rd Pg Pt Mk Lk Ck Jd Ld Pr) (o_cw ad ca rt Sj a0 T1 Rd Pg Pt Mk Lk Ck Jd Ld Pr) (some (.int r)) := by
  refine o_Cn_of (by decide) (Nat.le_of_ble_eq_true rfl) ?_
  intro p e s m below meth c A ls C hD hP hS hl
  have hDD : ∀ (rt : Nat) (Sj : SSJ) (T0 : STx) (T1 : STx) (Rd : SRd) (Pg : SPg) (Pt : SPt) (Mk : SMk) (Lk : SLk) (Ck : SCk) (Jd : SJd) (Ld : SLd) (Pr : SPr), va_D A (o_cw ad ca rt Sj T0 T1 Rd Pg Pt Mk Lk Ck Jd Ld Pr) := fun _ _ _ _ _ _ _ _ _ _ _ _ _ => o_D_map hD rfl
  have hl : lv_has ls 2 [(0, .ref (ad 1)), (1, .int x1)] := hl
  unfold m_Tx_slot at h
  have C0 := C
  obtain ⟨hx, hb, -, -, -, hown, hts, hK, -, -⟩ := C0
  refine lv_iload_n hx hb d_Tx_slot_0 rfl (lv_at hl 1 rfl) ?_
  refine lv_if_lt (tgt := 21) hx hb d_Tx_slot_1 (by decide) (fun c1 => ?_) (fun c1 => ?_)
  · replace h := o_tt c1 h
    refine lv_iconst (v := (0:Int32)) hx hb d_Tx_slot_21 (by decide) ?_
    cases h
    exact o_ri (v := (0:Int32)) C hP hS d_Tx_slot_22
  · replace h := o_ff c1 h
    refine lv_iload_n hx hb d_Tx_slot_4 rfl (lv_at hl 1 rfl) ?_
    refine lv_aload_n hx hb d_Tx_slot_5 rfl (lv_at hl 0 rfl) ?_
    refine o_get (v := .int (Tx_total a0)) C in_Tx hP 1 cw_1 rfl 10 (by decide) k_1_56 rfl rfl d_Tx_slot_6 ?_
    refine lv_icmp_ge (tgt := 21) hx hb d_Tx_slot_9 (by decide) (fun c2 => ?_) (fun c2 => ?_)
    · replace h := o_tt c2 h
      refine lv_iconst (v := (0:Int32)) hx hb d_Tx_slot_21 (by decide) ?_
      cases h
      exact o_ri (v := (0:Int32)) C hP hS d_Tx_slot_22
    · replace h := o_ff c2 h
      refine lv_aload_n hx hb d_Tx_slot_12 rfl (lv_at hl 0 rfl) ?_
      refine o_get (v := .ref (ad 9)) C in_Tx hP 1 cw_1 rfl 7 (by decide) k_1_53 rfl rfl d_Tx_slot_13 ?_
      refine lv_iload_n hx hb d_Tx_slot_16 rfl (lv_at hl 1 rfl) ?_
      obtain ⟨g3, h⟩ := o_gd_some h
      refine o_iald (f := (Tx_slots a0)) C hP 9 7 cw_9 rfl g3 d_Tx_slot_17 ?_
      refine lv_goto (tgt := 22) hx hb d_Tx_slot_18 (by decide) ?_
      cases h
      exact o_ri (v := ((Tx_slots a0) x1.toNatClampNeg)) C hP hS d_Tx_slot_22
set_option maxHeartbeats 4000000 in
set_option maxRecDepth 100000 in
theorem w_Tx_sameString_b102_00 {E : (Nat → Prop) → State → Heap → Prop} {p : Program} {l : Launch} {e : Env} {s : State} {m : MethodId} {args : Array Value} {below : List Frame} {meth : Method} {c : Code} {D : va_G} {ad kd sd vd xd : Nat → Nat} {ca : Nat → ClassId} {A : Nat → Prop} {Q : State → Prop} (hE : o_EK E kd sd vd xd) (C : o_Cx E p s m args meth c D o_cls (o_tys ca) "SchemaJudge$Text" b_Tx_sameString (some .boolean) 8 cc_Tx_sameString A) (hDD : ∀ (rt : Nat) (Sj : SSJ) (T0 : STx) (T1 : STx) (Rd : SRd) (Pg : SPg) (Pt : SPt) (Mk : SMk) (Lk : SLk) (Ck : SCk) (Jd : SJd) (Ld : SLd) (Pr : SPr), va_D A (o_cw ad ca rt Sj T0 T1 Rd Pg Pt Mk Lk Ck Jd Ld Pr)) (n : Nat) (u102_x4 : Int32) (u102_x5 : Int32) (u102_x6 : Int32) (u102_a0 : STx) (u102_Sj : SSJ) (u102_T1 : STx) (u102_Rd : SRd) (u102_Pg : SPg) (u102_Pt : SPt) (u102_Mk : SMk) (u102_Lk : SLk) (u102_Ck : SCk) (u102_Jd : SJd) (u102_Ld : SLd) (u102_Pr : SPr) (u102_rt : Nat) (z : Int32) (q : Nat × Int32) (h : m_Tx_sameString_b102 n u102_x4 u102_x5 u102_x6 u102_a0 u102_a0 z = some q) (h0 : q.1 = 0 → o_At p l e rm_Tx_sameString s m args below meth c Q o_cls D A 8 102 [] (o_cw ad ca u102_rt u102_Sj u102_a0 u102_T1 u102_Rd u102_Pg u102_Pt u102_Mk u102_Lk u102_Ck u102_Jd u102_Ld u102_Pr) [(0, .ref (ad 1)), (2, .ref (ad 1)), (4, .int u102_x4), (5, .int u102_x5), (6, .int u102_x6), (7, .int q.2)]) (h1 : q.1 ≠ 0 → (if q.1 = 1 then o_At p l e rm_Tx_sameString s m args below meth c Q o_cls D A 8 132 [] (o_cw ad ca u102_rt u102_Sj u102_a0 u102_T1 u102_Rd u102_Pg u102_Pt u102_Mk u102_Lk u102_Ck u102_Jd u102_Ld u102_Pr) [] else o_At p l e rm_Tx_sameString s m args below meth c Q o_cls D A 8 140 [] (o_cw ad ca u102_rt u102_Sj u102_a0 u102_T1 u102_Rd u102_Pg u102_Pt u102_Mk u102_Lk u102_Ck u102_Jd u102_Ld u102_Pr) [])) : o_At p l e rm_Tx_sameString s m args below meth c Q o_cls D A 8 102 [] (o_cw ad ca u102_rt u102_Sj u102_a0 u102_T1 u102_Rd u102_Pg u102_Pt u102_Mk u102_Lk u102_Ck u102_Jd u102_Ld u102_Pr) [(0, .ref (ad 1)), (2, .ref (ad 1)), (4, .int u102_x4), (5, .int u102_x5), (6, .int u102_x6), (7, .int z)] := by
  unfold m_Tx_sameString_b102 at h
  intro H locs ls hP hS hl
  have C0 := C
  obtain ⟨hx, hb, -, -, -, hown, hts, hK, -, -⟩ := C0
  refine lv_iload hx hb d_Tx_sameString_102 (lv_at hl 5 rfl) ?_
  refine lv_iload hx hb d_Tx_sameString_104 (lv_at hl 4 rfl) ?_
  refine lv_icmp_ge (tgt := 140) hx hb d_Tx_sameString_106 (by decide) (fun c15 => ?_) (fun c15 => ?_)
  · replace h := o_tt c15 h
    cases h
    exact h1 (Nat.succ_ne_zero 1) _ _ _ hP hS (lv_sub hl [] rfl)
  · replace h := o_ff c15 h
    refine lv_aload_n hx hb d_Tx_sameString_109 rfl (lv_at hl 0 rfl) ?_
    refine o_get (v := .ref (ad 11)) C in_Tx hP 1 cw_1 rfl 9 (by decide) k_1_55 rfl rfl d_Tx_sameString_110 ?_
    refine lv_iload hx hb d_Tx_sameString_113 (lv_at hl 2 rfl) ?_
    refine lv_iload hx hb d_Tx_sameString_115 (lv_at hl 5 rfl) ?_
    refine lv_iadd hx hb d_Tx_sameString_117 ?_
    obtain ⟨g16, h⟩ := o_gd_some h
    refine o_iald (f := (Tx_cells u102_a0)) C hP 11 9 cw_11 rfl g16 d_Tx_sameString_118 ?_
    refine lv_aload_n hx hb d_Tx_sameString_119 rfl (lv_at hl 1 rfl) ?_
    refine o_get (v := .ref (ad 11)) C in_Tx hP 1 cw_1 rfl 9 (by decide) k_1_55 rfl rfl d_Tx_sameString_120 ?_
    refine lv_iload hx hb d_Tx_sameString_123 (lv_at hl 3 rfl) ?_
    refine lv_iload hx hb d_Tx_sameString_125 (lv_at hl 5 rfl) ?_
    refine lv_iadd hx hb d_Tx_sameString_127 ?_
    obtain ⟨g17, h⟩ := o_gd_some h
    refine o_iald (f := (Tx_cells u102_a0)) C hP 11 9 cw_11 rfl g17 d_Tx_sameString_128 ?_
    refine lv_icmp_eq (tgt := 134) hx hb d_Tx_sameString_129 (by decide) (fun c18 => ?_) (fun c18 => ?_)
    · replace h := o_tt c18 h
      obtain ⟨x7_134, ex7_134⟩ : ∃ y : Int32, y = z + (1:Int32) := ⟨_, rfl⟩
      replace h := o_nm_at ex7_134 h
      refine lv_iinc (v := x7_134) (lv' := [(7, .int x7_134), (0, .ref (ad 1)), (2, .ref (ad 1)), (4, .int u102_x4), (5, .int u102_x5), (6, .int u102_x6)]) hx hb d_Tx_sameString_134 hl (k := 5) rfl (by rw [ex7_134]; rfl) (by decide) rfl (fun ls hl => ?_)
      refine lv_goto (tgt := 102) hx hb d_Tx_sameString_137 (by decide) ?_
      cases h
      exact h0 rfl _ _ _ hP hS (lv_sub hl [1, 2, 3, 4, 5, 0] rfl)
    · replace h := o_ff c18 h
      cases h
      exact h1 (Nat.succ_ne_zero 0) _ _ _ hP hS (lv_sub hl [] rfl)
set_option maxHeartbeats 4000000 in
set_option maxRecDepth 100000 in
theorem c_Tx_sameString_00 {E : (Nat → Prop) → State → Heap → Prop} {D : va_G} {ad kd sd vd xd : Nat → Nat} {ca : Nat → ClassId} (hE : o_EK E kd sd vd xd) (l : Launch) (n : Nat) (x1 : Int32) (x3 : Int32) (a0 : STx) (Sj : SSJ) (T1 : STx) (Rd : SRd) (Pg : SPg) (Pt : SPt) (Mk : SMk) (Lk : SLk) (Ck : SCk) (Jd : SJd) (Ld : SLd) (Pr : SPr) (rt : Nat) {r : Int32} (h : m_Tx_sameString n x1 x3 a0 a0 = some r) : o_Cn E l D o_cls (o_tys ca) y_Tx_sameString cc_Tx_sameString rm_Tx_sameString [.ref (ad 1), .int x1, .ref (ad 1), .int x3] (o_cw ad ca rt Sj a0 T1 Rd Pg Pt Mk Lk Ck Jd Ld Pr) (o_cw ad ca rt Sj a0 T1 Rd Pg Pt Mk Lk Ck Jd Ld Pr) (some (.int r)) := by
  refine o_Cn_of (by decide) (Nat.le_of_ble_eq_true rfl) ?_
  intro p e s m below meth c A ls C hD hP hS hl
  have hDD : ∀ (rt : Nat) (Sj : SSJ) (T0 : STx) (T1 : STx) (Rd : SRd) (Pg : SPg) (Pt : SPt) (Mk : SMk) (Lk : SLk) (Ck : SCk) (Jd : SJd) (Ld : SLd) (Pr : SPr), va_D A (o_cw ad ca rt Sj T0 T1 Rd Pg Pt Mk Lk Ck Jd Ld Pr) := fun _ _ _ _ _ _ _ _ _ _ _ _ _ => o_D_map hD rfl
  have hl : lv_has ls 8 [(0, .ref (ad 1)), (1, .int x1), (2, .ref (ad 1)), (3, .int x3)] := hl
  unfold m_Tx_sameString at h
  have C0 := C
  obtain ⟨hx, hb, -, -, -, hown, hts, hK, -, -⟩ := C0
  refine lv_iload_n hx hb d_Tx_sameString_0 rfl (lv_at hl 1 rfl) ?_
  refine lv_if_lt (tgt := 39) hx hb d_Tx_sameString_1 (by decide) (fun c1 => ?_) (fun c1 => ?_)
  · replace h := o_tt c1 h
    refine lv_iconst (v := (0:Int32)) hx hb d_Tx_sameString_39 (by decide) ?_
    cases h
    exact o_rz (v := (0:Int32)) C o_nar0 hP hS d_Tx_sameString_40
  · replace h := o_ff c1 h
    refine lv_iload_n hx hb d_Tx_sameString_4 rfl (lv_at hl 1 rfl) ?_
    refine lv_aload_n hx hb d_Tx_sameString_5 rfl (lv_at hl 0 rfl) ?_
    refine o_get (v := .int (Tx_total a0)) C in_Tx hP 1 cw_1 rfl 10 (by decide) k_1_56 rfl rfl d_Tx_sameString_6 ?_
    refine lv_icmp_ge (tgt := 39) hx hb d_Tx_sameString_9 (by decide) (fun c2 => ?_) (fun c2 => ?_)
    · replace h := o_tt c2 h
      refine lv_iconst (v := (0:Int32)) hx hb d_Tx_sameString_39 (by decide) ?_
      cases h
      exact o_rz (v := (0:Int32)) C o_nar0 hP hS d_Tx_sameString_40
    · replace h := o_ff c2 h
      refine lv_iload_n hx hb d_Tx_sameString_12 rfl (lv_at hl 3 rfl) ?_
      refine lv_if_lt (tgt := 39) hx hb d_Tx_sameString_13 (by decide) (fun c3 => ?_) (fun c3 => ?_)
      · replace h := o_tt c3 h
        refine lv_iconst (v := (0:Int32)) hx hb d_Tx_sameString_39 (by decide) ?_
        cases h
        exact o_rz (v := (0:Int32)) C o_nar0 hP hS d_Tx_sameString_40
      · replace h := o_ff c3 h
        refine lv_iload_n hx hb d_Tx_sameString_16 rfl (lv_at hl 3 rfl) ?_
        refine lv_aload_n hx hb d_Tx_sameString_17 rfl (lv_at hl 2 rfl) ?_
        refine o_get (v := .int (Tx_total a0)) C in_Tx hP 1 cw_1 rfl 10 (by decide) k_1_56 rfl rfl d_Tx_sameString_18 ?_
        refine lv_icmp_ge (tgt := 39) hx hb d_Tx_sameString_21 (by decide) (fun c4 => ?_) (fun c4 => ?_)
        · replace h := o_tt c4 h
          refine lv_iconst (v := (0:Int32)) hx hb d_Tx_sameString_39 (by decide) ?_
          cases h
          exact o_rz (v := (0:Int32)) C o_nar0 hP hS d_Tx_sameString_40
        · replace h := o_ff c4 h
          refine lv_aload_n hx hb d_Tx_sameString_24 rfl (lv_at hl 0 rfl) ?_
          refine o_get (v := .ref (ad 4)) C in_Tx hP 1 cw_1 rfl 2 (by decide) k_1_48 rfl rfl d_Tx_sameString_25 ?_
          refine lv_iload_n hx hb d_Tx_sameString_28 rfl (lv_at hl 1 rfl) ?_
          obtain ⟨g5, h⟩ := o_gd_some h
          refine o_iald (f := (Tx_sizes a0)) C hP 4 2 cw_4 rfl g5 d_Tx_sameString_29 ?_
          refine lv_aload_n hx hb d_Tx_sameString_30 rfl (lv_at hl 2 rfl) ?_
          refine o_get (v := .ref (ad 4)) C in_Tx hP 1 cw_1 rfl 2 (by decide) k_1_48 rfl rfl d_Tx_sameString_31 ?_
          refine lv_iload_n hx hb d_Tx_sameString_34 rfl (lv_at hl 3 rfl) ?_
          obtain ⟨g6, h⟩ := o_gd_some h
          refine o_iald (f := (Tx_sizes a0)) C hP 4 2 cw_4 rfl g6 d_Tx_sameString_35 ?_
          refine lv_icmp_eq (tgt := 41) hx hb d_Tx_sameString_36 (by decide) (fun c7 => ?_) (fun c7 => ?_)
          · replace h := o_tt c7 h
            refine lv_aload_n hx hb d_Tx_sameString_41 rfl (lv_at hl 0 rfl) ?_
            refine o_get (v := .ref (ad 7)) C in_Tx hP 1 cw_1 rfl 5 (by decide) k_1_51 rfl rfl d_Tx_sameString_42 ?_
            refine lv_iload_n hx hb d_Tx_sameString_45 rfl (lv_at hl 1 rfl) ?_
            obtain ⟨g8, h⟩ := o_gd_some h
            refine o_iald (f := (Tx_starts a0)) C hP 7 5 cw_7 rfl g8 d_Tx_sameString_46 ?_
            refine lv_topi (fun x4_47 ex4_47 => ?_)
            replace h := o_nm_at ex4_47 h
            refine lv_istore (lv' := [(4, .int x4_47), (0, .ref (ad 1)), (1, .int x1), (2, .ref (ad 1)), (3, .int x3)]) hx hb d_Tx_sameString_47 hl (by decide) rfl (fun ls hl => ?_)
            refine lv_aload_n hx hb d_Tx_sameString_49 rfl (lv_at hl 3 rfl) ?_
            refine o_get (v := .ref (ad 7)) C in_Tx hP 1 cw_1 rfl 5 (by decide) k_1_51 rfl rfl d_Tx_sameString_50 ?_
            refine lv_iload_n hx hb d_Tx_sameString_53 rfl (lv_at hl 4 rfl) ?_
            obtain ⟨g9, h⟩ := o_gd_some h
            refine o_iald (f := (Tx_starts a0)) C hP 7 5 cw_7 rfl g9 d_Tx_sameString_54 ?_
            refine lv_topi (fun x5_55 ex5_55 => ?_)
            replace h := o_nm_at ex5_55 h
            refine lv_istore (lv' := [(5, .int x5_55), (4, .int x4_47), (0, .ref (ad 1)), (1, .int x1), (2, .ref (ad 1)), (3, .int x3)]) hx hb d_Tx_sameString_55 hl (by decide) rfl (fun ls hl => ?_)
            refine lv_aload_n hx hb d_Tx_sameString_57 rfl (lv_at hl 2 rfl) ?_
            refine o_get (v := .ref (ad 4)) C in_Tx hP 1 cw_1 rfl 2 (by decide) k_1_48 rfl rfl d_Tx_sameString_58 ?_
            refine lv_iload_n hx hb d_Tx_sameString_61 rfl (lv_at hl 3 rfl) ?_
            obtain ⟨g10, h⟩ := o_gd_some h
            refine o_iald (f := (Tx_sizes a0)) C hP 4 2 cw_4 rfl g10 d_Tx_sameString_62 ?_
            refine lv_topi (fun x6_63 ex6_63 => ?_)
            replace h := o_nm_at ex6_63 h
            refine lv_istore (lv' := [(6, .int x6_63), (5, .int x5_55), (4, .int x4_47), (0, .ref (ad 1)), (1, .int x1), (2, .ref (ad 1)), (3, .int x3)]) hx hb d_Tx_sameString_63 hl (by decide) rfl (fun ls hl => ?_)
            refine lv_iload hx hb d_Tx_sameString_65 (lv_at hl 2 rfl) ?_
            refine lv_if_lt (tgt := 97) hx hb d_Tx_sameString_67 (by decide) (fun c11 => ?_) (fun c11 => ?_)
            · replace h := o_tt c11 h
              refine lv_iconst (v := (0:Int32)) hx hb d_Tx_sameString_97 (by decide) ?_
              cases h
              exact o_rz (v := (0:Int32)) C o_nar0 hP hS d_Tx_sameString_98
            · replace h := o_ff c11 h
              refine lv_iload hx hb d_Tx_sameString_70 (lv_at hl 2 rfl) ?_
              refine lv_iload hx hb d_Tx_sameString_72 (lv_at hl 0 rfl) ?_
              refine lv_iadd hx hb d_Tx_sameString_74 ?_
              refine lv_sipush (v := (8192:Int32)) hx hb d_Tx_sameString_75 (by decide) ?_
              refine lv_icmp_gt (tgt := 97) hx hb d_Tx_sameString_78 (by decide) (fun c12 => ?_) (fun c12 => ?_)
              · replace h := o_tt c12 h
                refine lv_iconst (v := (0:Int32)) hx hb d_Tx_sameString_97 (by decide) ?_
                cases h
                exact o_rz (v := (0:Int32)) C o_nar0 hP hS d_Tx_sameString_98
              · replace h := o_ff c12 h
                refine lv_iload hx hb d_Tx_sameString_81 (lv_at hl 1 rfl) ?_
                refine lv_if_lt (tgt := 97) hx hb d_Tx_sameString_83 (by decide) (fun c13 => ?_) (fun c13 => ?_)
                · replace h := o_tt c13 h
                  refine lv_iconst (v := (0:Int32)) hx hb d_Tx_sameString_97 (by decide) ?_
                  cases h
                  exact o_rz (v := (0:Int32)) C o_nar0 hP hS d_Tx_sameString_98
                · replace h := o_ff c13 h
                  refine lv_iload hx hb d_Tx_sameString_86 (lv_at hl 1 rfl) ?_
                  refine lv_iload hx hb d_Tx_sameString_88 (lv_at hl 0 rfl) ?_
                  refine lv_iadd hx hb d_Tx_sameString_90 ?_
                  refine lv_sipush (v := (8192:Int32)) hx hb d_Tx_sameString_91 (by decide) ?_
                  refine lv_icmp_le (tgt := 99) hx hb d_Tx_sameString_94 (by decide) (fun c14 => ?_) (fun c14 => ?_)
                  · replace h := o_tt c14 h
                    refine lv_iconst (v := (0:Int32)) hx hb d_Tx_sameString_99 (by decide) ?_
                    refine lv_istore (lv' := [(7, .int (0:Int32)), (6, .int x6_63), (5, .int x5_55), (4, .int x4_47), (0, .ref (ad 1)), (1, .int x1), (2, .ref (ad 1)), (3, .int x3)]) hx hb d_Tx_sameString_100 hl (by decide) rfl (fun ls hl => ?_)
                    obtain ⟨q1, hq1, h⟩ := o_bd_some h
                    refine o_sim2 (AH := fun zz => o_At p l e rm_Tx_sameString s m _ below meth c _ o_cls D A 8 102 [] (o_cw ad ca rt Sj a0 T1 Rd Pg Pt Mk Lk Ck Jd Ld Pr) [(0, .ref (ad 1)), (2, .ref (ad 1)), (4, .int x4_47), (5, .int x5_55), (6, .int x6_63), (7, .int zz)]) (AX := fun qq => if qq.1 = 1 then o_At p l e rm_Tx_sameString s m _ below meth c _ o_cls D A 8 132 [] (o_cw ad ca rt Sj a0 T1 Rd Pg Pt Mk Lk Ck Jd Ld Pr) [] else o_At p l e rm_Tx_sameString s m _ below meth c _ o_cls D A 8 140 [] (o_cw ad ca rt Sj a0 T1 Rd Pg Pt Mk Lk Ck Jd Ld Pr) []) (fun zz qq h h0 h1 => w_Tx_sameString_b102_00 hE C hDD n x4_47 x5_55 x6_63 a0 Sj T1 Rd Pg Pt Mk Lk Ck Jd Ld Pr rt zz qq h h0 h1) n _ q1 hq1 ?_ _ _ _ hP hS (lv_sub hl [4, 6, 3, 2, 1, 0] rfl)
                    by_cases c19 : q1.1 = 1
                    · replace h := o_tt c19 h
                      refine o_ip c19 ?_
                      intro H locs ls hP hS hl
                      refine lv_iconst (v := (0:Int32)) hx hb d_Tx_sameString_132 (by decide) ?_
                      cases h
                      exact o_rz (v := (0:Int32)) C o_nar0 hP hS d_Tx_sameString_133
                    replace h := o_ff c19 h
                    refine o_in_ c19 ?_
                    intro H locs ls hP hS hl
                    refine lv_iconst (v := (1:Int32)) hx hb d_Tx_sameString_140 (by decide) ?_
                    cases h
                    exact o_rz (v := (1:Int32)) C o_nar1 hP hS d_Tx_sameString_141
                  · replace h := o_ff c14 h
                    refine lv_iconst (v := (0:Int32)) hx hb d_Tx_sameString_97 (by decide) ?_
                    cases h
                    exact o_rz (v := (0:Int32)) C o_nar0 hP hS d_Tx_sameString_98
          · replace h := o_ff c7 h
            refine lv_iconst (v := (0:Int32)) hx hb d_Tx_sameString_39 (by decide) ?_
            cases h
            exact o_rz (v := (0:Int32)) C o_nar0 hP hS d_Tx_sameString_40
set_option maxHeartbeats 4000000 in
set_option maxRecDepth 100000 in
theorem w_Ck_isNew_j55 {E : (Nat → Prop) → State → Heap → Prop} {p : Program} {l : Launch} {e : Env} {s : State} {m : MethodId} {args : Array Value} {below : List Frame} {meth : Method} {c : Code} {D : va_G} {ad kd sd vd xd : Nat → Nat} {ca : Nat → ClassId} {A : Nat → Prop} {Q : State → Prop} (hE : o_EK E kd sd vd xd) (C : o_Cx E p s m args meth c D o_cls (o_tys ca) "SchemaJudge$Checker" b_Ck_isNew (some .boolean) 5 cc_Ck_isNew A) (hDD : ∀ (rt : Nat) (Sj : SSJ) (T0 : STx) (T1 : STx) (Rd : SRd) (Pg : SPg) (Pt : SPt) (Mk : SMk) (Lk : SLk) (Ck : SCk) (Jd : SJd) (Ld : SLd) (Pr : SPr), va_D A (o_cw ad ca rt Sj T0 T1 Rd Pg Pt Mk Lk Ck Jd Ld Pr)) (n : Nat) (u12_x2 : Int32) (u12_T0 : STx) (u12_Sj : SSJ) (u12_T1 : STx) (u12_Rd : SRd) (u12_Pg : SPg) (u12_Pt : SPt) (u12_Mk : SMk) (u12_Lk : SLk) (u12_Ck : SCk) (u12_Jd : SJd) (u12_Ld : SLd) (u12_Pr : SPr) (u12_rt : Nat) (x3 : Int32) (x4 : Int32) {q : Nat × Int32 × Int32} (h : m_Ck_isNew_j55 n u12_x2 x3 x4 u12_T0 = some q) (h0 : q.1 = 0 → o_At p l e rm_Ck_isNew s m args below meth c Q o_cls D A 5 12 [] (o_cw ad ca u12_rt u12_Sj u12_T0 u12_T1 u12_Rd u12_Pg u12_Pt u12_Mk u12_Lk u12_Ck u12_Jd u12_Ld u12_Pr) [(0, .ref (ad 45)), (2, .int u12_x2), (3, .int q.2.1), (4, .int q.2.2)]) (h1 : q.1 ≠ 0 → (if q.1 = 1 then o_At p l e rm_Ck_isNew s m args below meth c Q o_cls D A 5 53 [] (o_cw ad ca u12_rt u12_Sj u12_T0 u12_T1 u12_Rd u12_Pg u12_Pt u12_Mk u12_Lk u12_Ck u12_Jd u12_Ld u12_Pr) [] else o_At p l e rm_Ck_isNew s m args below meth c Q o_cls D A 5 70 [] (o_cw ad ca u12_rt u12_Sj u12_T0 u12_T1 u12_Rd u12_Pg u12_Pt u12_Mk u12_Lk u12_Ck u12_Jd u12_Ld u12_Pr) [])) : o_At p l e rm_Ck_isNew s m args below meth c Q o_cls D A 5 55 [] (o_cw ad ca u12_rt u12_Sj u12_T0 u12_T1 u12_Rd u12_Pg u12_Pt u12_Mk u12_Lk u12_Ck u12_Jd u12_Ld u12_Pr) [(0, .ref (ad 45)), (2, .int u12_x2), (3, .int x3), (4, .int x4)] := by
  unfold m_Ck_isNew_j55 at h
  intro H locs ls hP hS hl
  have C0 := C
  obtain ⟨hx, hb, -, -, -, hown, hts, hK, -, -⟩ := C0
  refine lv_aload_n hx hb d_Ck_isNew_55 rfl (lv_at hl 0 rfl) ?_
  refine o_get (v := .ref (ad 1)) C in_Ck hP 45 cw_45 rfl 0 (by decide) k_2_7 rfl rfl d_Ck_isNew_56 ?_
  refine lv_iload_n hx hb d_Ck_isNew_59 rfl (lv_at hl 2 rfl) ?_
  obtain ⟨q4, hq4, h⟩ := o_bd_some h
  refine o_V (st1 := [.int q4]) (w1 := (o_cw ad ca u12_rt u12_Sj u12_T0 u12_T1 u12_Rd u12_Pg u12_Pt u12_Mk u12_Lk u12_Ck u12_Jd u12_Ld u12_Pr)) hE.1 C (c_Tx_nextChild_0 hE l x3 u12_T0 u12_Sj u12_T1 u12_Rd u12_Pg u12_Pt u12_Mk u12_Lk u12_Ck u12_Jd u12_Ld u12_Pr u12_rt hq4) hP (hDD _ _ _ _ _ _ _ _ _ _ _ _ _) hS hl.1 rfl cw_1 k_4_101 k_3_222 k_3_223 k_1_2 k_3_224 hv_Tx_nextChild rfl rfl ⟨(Nat.le_of_ble_eq_true rfl), (Nat.le_of_ble_eq_true rfl)⟩ rfl (Nat.le_of_ble_eq_true rfl) ⟨Nat.zero_le _, Nat.zero_le _⟩ rfl d_Ck_isNew_60 (fun H locs hP hS => ?_)
  refine lv_istore_n (lv' := [(3, .int q4), (0, .ref (ad 45)), (2, .int u12_x2), (4, .int x4)]) hx hb d_Ck_isNew_63 rfl hl (by decide) rfl (fun ls hl => ?_)
  obtain ⟨x4_64, ex4_64⟩ : ∃ y : Int32, y = x4 + (1:Int32) := ⟨_, rfl⟩
  replace h := o_nm_at ex4_64 h
  refine lv_iinc (v := x4_64) (lv' := [(4, .int x4_64), (3, .int q4), (0, .ref (ad 45)), (2, .int u12_x2)]) hx hb d_Ck_isNew_64 hl (k := 3) rfl (by rw [ex4_64]; rfl) (by decide) rfl (fun ls hl => ?_)
  refine lv_goto (tgt := 12) hx hb d_Ck_isNew_67 (by decide) ?_
  cases h
  exact h0 rfl _ _ _ hP hS (lv_sub hl [2, 3, 1, 0] rfl)
set_option maxHeartbeats 4000000 in
set_option maxRecDepth 100000 in
theorem w_Ck_isNew_b12 {E : (Nat → Prop) → State → Heap → Prop} {p : Program} {l : Launch} {e : Env} {s : State} {m : MethodId} {args : Array Value} {below : List Frame} {meth : Method} {c : Code} {D : va_G} {ad kd sd vd xd : Nat → Nat} {ca : Nat → ClassId} {A : Nat → Prop} {Q : State → Prop} (hE : o_EK E kd sd vd xd) (C : o_Cx E p s m args meth c D o_cls (o_tys ca) "SchemaJudge$Checker" b_Ck_isNew (some .boolean) 5 cc_Ck_isNew A) (hDD : ∀ (rt : Nat) (Sj : SSJ) (T0 : STx) (T1 : STx) (Rd : SRd) (Pg : SPg) (Pt : SPt) (Mk : SMk) (Lk : SLk) (Ck : SCk) (Jd : SJd) (Ld : SLd) (Pr : SPr), va_D A (o_cw ad ca rt Sj T0 T1 Rd Pg Pt Mk Lk Ck Jd Ld Pr)) (n : Nat) (u12_x2 : Int32) (u12_T0 : STx) (u12_Sj : SSJ) (u12_T1 : STx) (u12_Rd : SRd) (u12_Pg : SPg) (u12_Pt : SPt) (u12_Mk : SMk) (u12_Lk : SLk) (u12_Ck : SCk) (u12_Jd : SJd) (u12_Ld : SLd) (u12_Pr : SPr) (u12_rt : Nat) (z : Int32 × Int32) (q : Nat × Int32 × Int32) (h : m_Ck_isNew_b12 n u12_x2 u12_T0 z = some q) (h0 : q.1 = 0 → o_At p l e rm_Ck_isNew s m args below meth c Q o_cls D A 5 12 [] (o_cw ad ca u12_rt u12_Sj u12_T0 u12_T1 u12_Rd u12_Pg u12_Pt u12_Mk u12_Lk u12_Ck u12_Jd u12_Ld u12_Pr) [(0, .ref (ad 45)), (2, .int u12_x2), (3, .int q.2.1), (4, .int q.2.2)]) (h1 : q.1 ≠ 0 → (if q.1 = 1 then o_At p l e rm_Ck_isNew s m args below meth c Q o_cls D A 5 53 [] (o_cw ad ca u12_rt u12_Sj u12_T0 u12_T1 u12_Rd u12_Pg u12_Pt u12_Mk u12_Lk u12_Ck u12_Jd u12_Ld u12_Pr) [] else o_At p l e rm_Ck_isNew s m args below meth c Q o_cls D A 5 70 [] (o_cw ad ca u12_rt u12_Sj u12_T0 u12_T1 u12_Rd u12_Pg u12_Pt u12_Mk u12_Lk u12_Ck u12_Jd u12_Ld u12_Pr) [])) : o_At p l e rm_Ck_isNew s m args below meth c Q o_cls D A 5 12 [] (o_cw ad ca u12_rt u12_Sj u12_T0 u12_T1 u12_Rd u12_Pg u12_Pt u12_Mk u12_Lk u12_Ck u12_Jd u12_Ld u12_Pr) [(0, .ref (ad 45)), (2, .int u12_x2), (3, .int z.1), (4, .int z.2)] := by
  unfold m_Ck_isNew_b12 at h
  intro H locs ls hP hS hl
  have C0 := C
  obtain ⟨hx, hb, -, -, -, hown, hts, hK, -, -⟩ := C0
  refine lv_iload hx hb d_Ck_isNew_12 (lv_at hl 3 rfl) ?_
  refine lv_aload_n hx hb d_Ck_isNew_14 rfl (lv_at hl 0 rfl) ?_
  refine o_get (v := .ref (ad 1)) C in_Ck hP 45 cw_45 rfl 0 (by decide) k_2_7 rfl rfl d_Ck_isNew_15 ?_
  refine lv_iload_n hx hb d_Ck_isNew_18 rfl (lv_at hl 1 rfl) ?_
  obtain ⟨q2, hq2, h⟩ := o_bd_some h
  refine o_V (st1 := [.int q2, .int z.2]) (w1 := (o_cw ad ca u12_rt u12_Sj u12_T0 u12_T1 u12_Rd u12_Pg u12_Pt u12_Mk u12_Lk u12_Ck u12_Jd u12_Ld u12_Pr)) hE.1 C (c_Tx_slot_0 hE l u12_x2 u12_T0 u12_Sj u12_T1 u12_Rd u12_Pg u12_Pt u12_Mk u12_Lk u12_Ck u12_Jd u12_Ld u12_Pr u12_rt hq2) hP (hDD _ _ _ _ _ _ _ _ _ _ _ _ _) hS hl.1 rfl cw_1 k_5_105 k_5_106 k_5_107 k_1_2 k_5_108 hv_Tx_slot rfl rfl ⟨(Nat.le_of_ble_eq_true rfl), (Nat.le_of_ble_eq_true rfl)⟩ rfl (Nat.le_of_ble_eq_true rfl) ⟨Nat.zero_le _, Nat.zero_le _⟩ rfl d_Ck_isNew_19 (fun H locs hP hS => ?_)
  refine lv_icmp_ge (tgt := 70) hx hb d_Ck_isNew_22 (by decide) (fun c1 => ?_) (fun c1 => ?_)
  · replace h := o_tt c1 h
    cases h
    exact h1 (Nat.succ_ne_zero 1) _ _ _ hP hS (lv_sub hl [] rfl)
  · replace h := o_ff c1 h
    refine lv_aload_n hx hb d_Ck_isNew_25 rfl (lv_at hl 0 rfl) ?_
    refine o_get (v := .ref (ad 1)) C in_Ck hP 45 cw_45 rfl 0 (by decide) k_2_7 rfl rfl d_Ck_isNew_26 ?_
    refine lv_iload_n hx hb d_Ck_isNew_29 rfl (lv_at hl 2 rfl) ?_
    obtain ⟨q3, hq3, h⟩ := o_bd_some h
    refine o_V (st1 := [.int q3]) (w1 := (o_cw ad ca u12_rt u12_Sj u12_T0 u12_T1 u12_Rd u12_Pg u12_Pt u12_Mk u12_Lk u12_Ck u12_Jd u12_Ld u12_Pr)) hE.1 C (c_Tx_kind_0 hE l z.1 u12_T0 u12_Sj u12_T1 u12_Rd u12_Pg u12_Pt u12_Mk u12_Lk u12_Ck u12_Jd u12_Ld u12_Pr u12_rt hq3) hP (hDD _ _ _ _ _ _ _ _ _ _ _ _ _) hS hl.1 rfl cw_1 k_4_96 k_4_50 k_4_51 k_1_2 k_4_52 hv_Tx_kind rfl rfl ⟨(Nat.le_of_ble_eq_true rfl), (Nat.le_of_ble_eq_true rfl)⟩ rfl (Nat.le_of_ble_eq_true rfl) ⟨Nat.zero_le _, Nat.zero_le _⟩ rfl d_Ck_isNew_30 (fun H locs hP hS => ?_)
    refine lv_iconst (v := (4:Int32)) hx hb d_Ck_isNew_33 (by decide) ?_
    refine lv_icmp_ne (tgt := 55) hx hb d_Ck_isNew_34 (by decide) (fun c2 => ?_) (fun c2 => ?_)
    · replace h := o_ff c2 h
      exact w_Ck_isNew_j55 hE C hDD n u12_x2 u12_T0 u12_Sj u12_T1 u12_Rd u12_Pg u12_Pt u12_Mk u12_Lk u12_Ck u12_Jd u12_Ld u12_Pr u12_rt z.1 z.2 h h0 h1 _ _ _ hP hS (lv_sub hl [0, 1, 2, 3] rfl)
    · replace h := o_tt c2 h
      refine lv_aload_n hx hb d_Ck_isNew_37 rfl (lv_at hl 0 rfl) ?_
      refine o_get (v := .ref (ad 1)) C in_Ck hP 45 cw_45 rfl 0 (by decide) k_2_7 rfl rfl d_Ck_isNew_38 ?_
      refine lv_iload_n hx hb d_Ck_isNew_41 rfl (lv_at hl 2 rfl) ?_
      refine lv_aload_n hx hb d_Ck_isNew_42 rfl (lv_at hl 0 rfl) ?_
      refine o_get (v := .ref (ad 1)) C in_Ck hP 45 cw_45 rfl 0 (by decide) k_2_7 rfl rfl d_Ck_isNew_43 ?_
      refine lv_iload_n hx hb d_Ck_isNew_46 rfl (lv_at hl 1 rfl) ?_
      obtain ⟨q5, hq5, h⟩ := o_bd_some h
      refine o_S (st1 := [.int q5]) (w1 := (o_cw ad ca u12_rt u12_Sj u12_T0 u12_T1 u12_Rd u12_Pg u12_Pt u12_Mk u12_Lk u12_Ck u12_Jd u12_Ld u12_Pr)) hE.1 C (c_Tx_sameString_00 hE l n z.1 u12_x2 u12_T0 u12_Sj u12_T1 u12_Rd u12_Pg u12_Pt u12_Mk u12_Lk u12_Ck u12_Jd u12_Ld u12_Pr u12_rt hq5) hP (hDD _ _ _ _ _ _ _ _ _ _ _ _ _) hS hl.1 k_5_109 k_3_219 k_1_2 k_3_220 hs_Tx_sameString rfl rfl ⟨(Nat.le_of_ble_eq_true rfl), (Nat.le_of_ble_eq_true rfl)⟩ rfl (Nat.le_of_ble_eq_true rfl) ⟨Nat.zero_le _, Nat.zero_le _⟩ rfl d_Ck_isNew_47 (fun H locs hP hS => ?_)
      refine lv_if_eq (tgt := 55) hx hb d_Ck_isNew_50 (by decide) (fun c3 => ?_) (fun c3 => ?_)
      · replace h := o_tt c3 h
        exact w_Ck_isNew_j55 hE C hDD n u12_x2 u12_T0 u12_Sj u12_T1 u12_Rd u12_Pg u12_Pt u12_Mk u12_Lk u12_Ck u12_Jd u12_Ld u12_Pr u12_rt z.1 z.2 h h0 h1 _ _ _ hP hS (lv_sub hl [0, 1, 2, 3] rfl)
      · replace h := o_ff c3 h
        cases h
        exact h1 (Nat.succ_ne_zero 0) _ _ _ hP hS (lv_sub hl [] rfl)
set_option maxHeartbeats 4000000 in
set_option maxRecDepth 100000 in
theorem c_Ck_isNew {E : (Nat → Prop) → State → Heap → Prop} {D : va_G} {ad kd sd vd xd : Nat → Nat} {ca : Nat → ClassId} (hE : o_EK E kd sd vd xd) (l : Launch) (n : Nat) (x1 : Int32) (x2 : Int32) (T0 : STx) (Sj : SSJ) (T1 : STx) (Rd : SRd) (Pg : SPg) (Pt : SPt) (Mk : SMk) (Lk : SLk) (Ck : SCk) (Jd : SJd) (Ld : SLd) (Pr : SPr) (rt : Nat) {r : Int32} (h : m_Ck_isNew n x1 x2 T0 = some r) : o_Cn E l D o_cls (o_tys ca) y_Ck_isNew cc_Ck_isNew rm_Ck_isNew [.ref (ad 45), .int x1, .int x2] (o_cw ad ca rt Sj T0 T1 Rd Pg Pt Mk Lk Ck Jd Ld Pr) (o_cw ad ca rt Sj T0 T1 Rd Pg Pt Mk Lk Ck Jd Ld Pr) (some (.int r)) := by
  refine o_Cn_of (by decide) (Nat.le_of_ble_eq_true rfl) ?_
  intro p e s m below meth c A ls C hD hP hS hl
  have hDD : ∀ (rt : Nat) (Sj : SSJ) (T0 : STx) (T1 : STx) (Rd : SRd) (Pg : SPg) (Pt : SPt) (Mk : SMk) (Lk : SLk) (Ck : SCk) (Jd : SJd) (Ld : SLd) (Pr : SPr), va_D A (o_cw ad ca rt Sj T0 T1 Rd Pg Pt Mk Lk Ck Jd Ld Pr) := fun _ _ _ _ _ _ _ _ _ _ _ _ _ => o_D_map hD rfl
  have hl : lv_has ls 5 [(0, .ref (ad 45)), (1, .int x1), (2, .int x2)] := hl
  unfold m_Ck_isNew at h
  have C0 := C
  obtain ⟨hx, hb, -, -, -, hown, hts, hK, -, -⟩ := C0
  refine lv_aload_n hx hb d_Ck_isNew_0 rfl (lv_at hl 0 rfl) ?_
  refine o_get (v := .ref (ad 1)) C in_Ck hP 45 cw_45 rfl 0 (by decide) k_2_7 rfl rfl d_Ck_isNew_1 ?_
  refine lv_iload_n hx hb d_Ck_isNew_4 rfl (lv_at hl 1 rfl) ?_
  obtain ⟨q1, hq1, h⟩ := o_bd_some h
  refine o_V (st1 := [.int q1]) (w1 := (o_cw ad ca rt Sj T0 T1 Rd Pg Pt Mk Lk Ck Jd Ld Pr)) hE.1 C (c_Tx_firstChild_0 hE l x1 T0 Sj T1 Rd Pg Pt Mk Lk Ck Jd Ld Pr rt hq1) hP (hDD _ _ _ _ _ _ _ _ _ _ _ _ _) hS hl.1 rfl cw_1 k_4_70 k_3_211 k_3_212 k_1_2 k_3_213 hv_Tx_firstChild rfl rfl ⟨(Nat.le_of_ble_eq_true rfl), (Nat.le_of_ble_eq_true rfl)⟩ rfl (Nat.le_of_ble_eq_true rfl) ⟨Nat.zero_le _, Nat.zero_le _⟩ rfl d_Ck_isNew_5 (fun H locs hP hS => ?_)
  refine lv_istore_n (lv' := [(3, .int q1), (0, .ref (ad 45)), (1, .int x1), (2, .int x2)]) hx hb d_Ck_isNew_8 rfl hl (by decide) rfl (fun ls hl => ?_)
  refine lv_iconst (v := (0:Int32)) hx hb d_Ck_isNew_9 (by decide) ?_
  refine lv_istore (lv' := [(4, .int (0:Int32)), (3, .int q1), (0, .ref (ad 45)), (1, .int x1), (2, .int x2)]) hx hb d_Ck_isNew_10 hl (by decide) rfl (fun ls hl => ?_)
  obtain ⟨q6, hq6, h⟩ := o_bd_some h
  refine o_sim2 (AH := fun zz => o_At p l e rm_Ck_isNew s m _ below meth c _ o_cls D A 5 12 [] (o_cw ad ca rt Sj T0 T1 Rd Pg Pt Mk Lk Ck Jd Ld Pr) [(0, .ref (ad 45)), (2, .int x2), (3, .int zz.1), (4, .int zz.2)]) (AX := fun qq => if qq.1 = 1 then o_At p l e rm_Ck_isNew s m _ below meth c _ o_cls D A 5 53 [] (o_cw ad ca rt Sj T0 T1 Rd Pg Pt Mk Lk Ck Jd Ld Pr) [] else o_At p l e rm_Ck_isNew s m _ below meth c _ o_cls D A 5 70 [] (o_cw ad ca rt Sj T0 T1 Rd Pg Pt Mk Lk Ck Jd Ld Pr) []) (fun zz qq h h0 h1 => w_Ck_isNew_b12 hE C hDD n x2 T0 Sj T1 Rd Pg Pt Mk Lk Ck Jd Ld Pr rt zz qq h h0 h1) n _ q6 hq6 ?_ _ _ _ hP hS (lv_sub hl [2, 4, 1, 0] rfl)
  by_cases c4 : q6.1 = 1
  · replace h := o_tt c4 h
    refine o_ip c4 ?_
    intro H locs ls hP hS hl
    refine lv_iconst (v := (0:Int32)) hx hb d_Ck_isNew_53 (by decide) ?_
    cases h
    exact o_rz (v := (0:Int32)) C o_nar0 hP hS d_Ck_isNew_54
  replace h := o_ff c4 h
  refine o_in_ c4 ?_
  intro H locs ls hP hS hl
  refine lv_iconst (v := (1:Int32)) hx hb d_Ck_isNew_70 (by decide) ?_
  cases h
  exact o_rz (v := (1:Int32)) C o_nar1 hP hS d_Ck_isNew_71
set_option maxHeartbeats 4000000 in
set_option maxRecDepth 100000 in
theorem w_Ck_inspectNames_j89 {E : (Nat → Prop) → State → Heap → Prop} {p : Program} {l : Launch} {e : Env} {s : State} {m : MethodId} {args : Array Value} {below : List Frame} {meth : Method} {c : Code} {D : va_G} {ad kd sd vd xd : Nat → Nat} {ca : Nat → ClassId} {A : Nat → Prop} {Q : State → Prop} (hE : o_EK E kd sd vd xd) (C : o_Cx E p s m args meth c D o_cls (o_tys ca) "SchemaJudge$Checker" b_Ck_inspectNames none 5 cc_Ck_inspectNames A) (hDD : ∀ (rt : Nat) (Sj : SSJ) (T0 : STx) (T1 : STx) (Rd : SRd) (Pg : SPg) (Pt : SPt) (Mk : SMk) (Lk : SLk) (Ck : SCk) (Jd : SJd) (Ld : SLd) (Pr : SPr), va_D A (o_cw ad ca rt Sj T0 T1 Rd Pg Pt Mk Lk Ck Jd Ld Pr)) (n : Nat) (u44_x1 : Int32) (u44_T0 : STx) (u44_Sj : SSJ) (u44_T1 : STx) (u44_Rd : SRd) (u44_Pg : SPg) (u44_Pt : SPt) (u44_Mk : SMk) (u44_Lk : SLk) (u44_Jd : SJd) (u44_Ld : SLd) (u44_Pr : SPr) (u44_rt : Nat) (x3 : Int32) (x4 : Int32) (y1 : Int32) (Ck : SCk) {q : Nat × Int32 × Int32 × SCk} (h : m_Ck_inspectNames_j89 n u44_x1 x3 x4 y1 u44_T0 Ck = some q) (h0 : q.1 = 0 → o_At p l e rm_Ck_inspectNames s m args below meth c Q o_cls D A 5 44 [] (o_cw ad ca u44_rt u44_Sj u44_T0 u44_T1 u44_Rd u44_Pg u44_Pt u44_Mk u44_Lk q.2.2.2 u44_Jd u44_Ld u44_Pr) [(0, .ref (ad 45)), (1, .int u44_x1), (3, .int q.2.1), (4, .int q.2.2.1)]) (h1 : q.1 ≠ 0 → (o_At p l e rm_Ck_inspectNames s m args below meth c Q o_cls D A 5 108 [] (o_cw ad ca u44_rt u44_Sj u44_T0 u44_T1 u44_Rd u44_Pg u44_Pt u44_Mk u44_Lk q.2.2.2 u44_Jd u44_Ld u44_Pr) [])) : o_At p l e rm_Ck_inspectNames s m args below meth c Q o_cls D A 5 89 [.int y1, .ref (ad 45)] (o_cw ad ca u44_rt u44_Sj u44_T0 u44_T1 u44_Rd u44_Pg u44_Pt u44_Mk u44_Lk Ck u44_Jd u44_Ld u44_Pr) [(0, .ref (ad 45)), (1, .int u44_x1), (3, .int x3), (4, .int x4)] := by
  unfold m_Ck_inspectNames_j89 at h
  intro H locs ls hP hS hl
  have C0 := C
  obtain ⟨hx, hb, -, -, -, hown, hts, hK, -, -⟩ := C0
  refine lv_iload_n hx hb d_Ck_inspectNames_89 rfl (lv_at hl 2 rfl) ?_
  obtain ⟨q5, hq5, h⟩ := o_bd_some h
  refine o_V (st1 := []) (w1 := (o_cw ad ca u44_rt u44_Sj u44_T0 u44_T1 u44_Rd u44_Pg u44_Pt u44_Mk u44_Lk q5 u44_Jd u44_Ld u44_Pr)) hE.1 C (c_Ck_require hE l y1 x3 Ck u44_Sj u44_T0 u44_T1 u44_Rd u44_Pg u44_Pt u44_Mk u44_Lk u44_Jd u44_Ld u44_Pr u44_rt hq5) hP (hDD _ _ _ _ _ _ _ _ _ _ _ _ _) hS hl.1 rfl cw_45 k_4_53 k_4_55 k_s_19 k_1_7 k_4_56 hv_Ck_require rfl rfl ⟨(Nat.le_of_ble_eq_true rfl), (Nat.le_of_ble_eq_true rfl)⟩ rfl (Nat.le_of_ble_eq_true rfl) ⟨Nat.zero_le _, Nat.zero_le _⟩ rfl d_Ck_inspectNames_90 (fun H locs hP hS => ?_)
  refine lv_aload_n hx hb d_Ck_inspectNames_93 rfl (lv_at hl 0 rfl) ?_
  refine o_get (v := .ref (ad 1)) C in_Ck hP 45 cw_45 rfl 0 (by decide) k_2_7 rfl rfl d_Ck_inspectNames_94 ?_
  refine lv_iload_n hx hb d_Ck_inspectNames_97 rfl (lv_at hl 2 rfl) ?_
  obtain ⟨q6, hq6, h⟩ := o_bd_some h
  refine o_V (st1 := [.int q6]) (w1 := (o_cw ad ca u44_rt u44_Sj u44_T0 u44_T1 u44_Rd u44_Pg u44_Pt u44_Mk u44_Lk q5 u44_Jd u44_Ld u44_Pr)) hE.1 C (c_Tx_nextChild_0 hE l x3 u44_T0 u44_Sj u44_T1 u44_Rd u44_Pg u44_Pt u44_Mk u44_Lk q5 u44_Jd u44_Ld u44_Pr u44_rt hq6) hP (hDD _ _ _ _ _ _ _ _ _ _ _ _ _) hS hl.1 rfl cw_1 k_4_101 k_3_222 k_3_223 k_1_2 k_3_224 hv_Tx_nextChild rfl rfl ⟨(Nat.le_of_ble_eq_true rfl), (Nat.le_of_ble_eq_true rfl)⟩ rfl (Nat.le_of_ble_eq_true rfl) ⟨Nat.zero_le _, Nat.zero_le _⟩ rfl d_Ck_inspectNames_98 (fun H locs hP hS => ?_)
  refine lv_istore_n (lv' := [(3, .int q6), (0, .ref (ad 45)), (1, .int u44_x1), (4, .int x4)]) hx hb d_Ck_inspectNames_101 rfl hl (by decide) rfl (fun ls hl => ?_)
  obtain ⟨x4_102, ex4_102⟩ : ∃ y : Int32, y = x4 + (1:Int32) := ⟨_, rfl⟩
  replace h := o_nm_at ex4_102 h
  refine lv_iinc (v := x4_102) (lv' := [(4, .int x4_102), (3, .int q6), (0, .ref (ad 45)), (1, .int u44_x1)]) hx hb d_Ck_inspectNames_102 hl (k := 3) rfl (by rw [ex4_102]; rfl) (by decide) rfl (fun ls hl => ?_)
  refine lv_goto (tgt := 44) hx hb d_Ck_inspectNames_105 (by decide) ?_
  cases h
  exact h0 rfl _ _ _ hP hS (lv_sub hl [2, 3, 1, 0] rfl)
set_option maxHeartbeats 4000000 in
set_option maxRecDepth 100000 in
theorem w_Ck_inspectNames_b44 {E : (Nat → Prop) → State → Heap → Prop} {p : Program} {l : Launch} {e : Env} {s : State} {m : MethodId} {args : Array Value} {below : List Frame} {meth : Method} {c : Code} {D : va_G} {ad kd sd vd xd : Nat → Nat} {ca : Nat → ClassId} {A : Nat → Prop} {Q : State → Prop} (hE : o_EK E kd sd vd xd) (C : o_Cx E p s m args meth c D o_cls (o_tys ca) "SchemaJudge$Checker" b_Ck_inspectNames none 5 cc_Ck_inspectNames A) (hDD : ∀ (rt : Nat) (Sj : SSJ) (T0 : STx) (T1 : STx) (Rd : SRd) (Pg : SPg) (Pt : SPt) (Mk : SMk) (Lk : SLk) (Ck : SCk) (Jd : SJd) (Ld : SLd) (Pr : SPr), va_D A (o_cw ad ca rt Sj T0 T1 Rd Pg Pt Mk Lk Ck Jd Ld Pr)) (n : Nat) (u44_x1 : Int32) (u44_T0 : STx) (u44_Sj : SSJ) (u44_T1 : STx) (u44_Rd : SRd) (u44_Pg : SPg) (u44_Pt : SPt) (u44_Mk : SMk) (u44_Lk : SLk) (u44_Jd : SJd) (u44_Ld : SLd) (u44_Pr : SPr) (u44_rt : Nat) (z : Int32 × Int32 × SCk) (q : Nat × Int32 × Int32 × SCk) (h : m_Ck_inspectNames_b44 n u44_x1 u44_T0 z = some q) (h0 : q.1 = 0 → o_At p l e rm_Ck_inspectNames s m args below meth c Q o_cls D A 5 44 [] (o_cw ad ca u44_rt u44_Sj u44_T0 u44_T1 u44_Rd u44_Pg u44_Pt u44_Mk u44_Lk q.2.2.2 u44_Jd u44_Ld u44_Pr) [(0, .ref (ad 45)), (1, .int u44_x1), (3, .int q.2.1), (4, .int q.2.2.1)]) (h1 : q.1 ≠ 0 → (o_At p l e rm_Ck_inspectNames s m args below meth c Q o_cls D A 5 108 [] (o_cw ad ca u44_rt u44_Sj u44_T0 u44_T1 u44_Rd u44_Pg u44_Pt u44_Mk u44_Lk q.2.2.2 u44_Jd u44_Ld u44_Pr) [])) : o_At p l e rm_Ck_inspectNames s m args below meth c Q o_cls D A 5 44 [] (o_cw ad ca u44_rt u44_Sj u44_T0 u44_T1 u44_Rd u44_Pg u44_Pt u44_Mk u44_Lk z.2.2 u44_Jd u44_Ld u44_Pr) [(0, .ref (ad 45)), (1, .int u44_x1), (3, .int z.1), (4, .int z.2.1)] := by
  unfold m_Ck_inspectNames_b44 at h
  intro H locs ls hP hS hl
  have C0 := C
  obtain ⟨hx, hb, -, -, -, hown, hts, hK, -, -⟩ := C0
  refine lv_iload hx hb d_Ck_inspectNames_44 (lv_at hl 3 rfl) ?_
  refine lv_aload_n hx hb d_Ck_inspectNames_46 rfl (lv_at hl 0 rfl) ?_
  refine o_get (v := .ref (ad 1)) C in_Ck hP 45 cw_45 rfl 0 (by decide) k_2_7 rfl rfl d_Ck_inspectNames_47 ?_
  refine lv_iload_n hx hb d_Ck_inspectNames_50 rfl (lv_at hl 1 rfl) ?_
  obtain ⟨q3, hq3, h⟩ := o_bd_some h
  refine o_V (st1 := [.int q3, .int z.2.1]) (w1 := (o_cw ad ca u44_rt u44_Sj u44_T0 u44_T1 u44_Rd u44_Pg u44_Pt u44_Mk u44_Lk z.2.2 u44_Jd u44_Ld u44_Pr)) hE.1 C (c_Tx_size_0 hE l u44_x1 u44_T0 u44_Sj u44_T1 u44_Rd u44_Pg u44_Pt u44_Mk u44_Lk z.2.2 u44_Jd u44_Ld u44_Pr u44_rt hq3) hP (hDD _ _ _ _ _ _ _ _ _ _ _ _ _) hS hl.1 rfl cw_1 k_4_71 k_3_215 k_3_216 k_1_2 k_3_217 hv_Tx_size rfl rfl ⟨(Nat.le_of_ble_eq_true rfl), (Nat.le_of_ble_eq_true rfl)⟩ rfl (Nat.le_of_ble_eq_true rfl) ⟨Nat.zero_le _, Nat.zero_le _⟩ rfl d_Ck_inspectNames_51 (fun H locs hP hS => ?_)
  refine lv_icmp_ge (tgt := 108) hx hb d_Ck_inspectNames_54 (by decide) (fun c3 => ?_) (fun c3 => ?_)
  · replace h := o_tt c3 h
    cases h
    exact h1 (Nat.succ_ne_zero 0) _ _ _ hP hS (lv_sub hl [] rfl)
  · replace h := o_ff c3 h
    refine lv_iload_n hx hb d_Ck_inspectNames_57 rfl (lv_at hl 2 rfl) ?_
    refine lv_iconst (v := (-1:Int32)) hx hb d_Ck_inspectNames_58 (by decide) ?_
    refine lv_icmp_eq (tgt := 108) hx hb d_Ck_inspectNames_59 (by decide) (fun c4 => ?_) (fun c4 => ?_)
    · replace h := o_tt c4 h
      cases h
      exact h1 (Nat.succ_ne_zero 0) _ _ _ hP hS (lv_sub hl [] rfl)
    · replace h := o_ff c4 h
      refine lv_aload_n hx hb d_Ck_inspectNames_62 rfl (lv_at hl 0 rfl) ?_
      refine lv_aload_n hx hb d_Ck_inspectNames_63 rfl (lv_at hl 0 rfl) ?_
      refine o_get (v := .ref (ad 1)) C in_Ck hP 45 cw_45 rfl 0 (by decide) k_2_7 rfl rfl d_Ck_inspectNames_64 ?_
      refine lv_iload_n hx hb d_Ck_inspectNames_67 rfl (lv_at hl 2 rfl) ?_
      obtain ⟨q4, hq4, h⟩ := o_bd_some h
      refine o_V (st1 := [.int q4, .ref (ad 45)]) (w1 := (o_cw ad ca u44_rt u44_Sj u44_T0 u44_T1 u44_Rd u44_Pg u44_Pt u44_Mk u44_Lk z.2.2 u44_Jd u44_Ld u44_Pr)) hE.1 C (c_Tx_kind_0 hE l z.1 u44_T0 u44_Sj u44_T1 u44_Rd u44_Pg u44_Pt u44_Mk u44_Lk z.2.2 u44_Jd u44_Ld u44_Pr u44_rt hq4) hP (hDD _ _ _ _ _ _ _ _ _ _ _ _ _) hS hl.1 rfl cw_1 k_4_96 k_4_50 k_4_51 k_1_2 k_4_52 hv_Tx_kind rfl rfl ⟨(Nat.le_of_ble_eq_true rfl), (Nat.le_of_ble_eq_true rfl)⟩ rfl (Nat.le_of_ble_eq_true rfl) ⟨Nat.zero_le _, Nat.zero_le _⟩ rfl d_Ck_inspectNames_68 (fun H locs hP hS => ?_)
      refine lv_iconst (v := (4:Int32)) hx hb d_Ck_inspectNames_71 (by decide) ?_
      refine lv_icmp_ne (tgt := 88) hx hb d_Ck_inspectNames_72 (by decide) (fun c5 => ?_) (fun c5 => ?_)
      · replace h := o_ff c5 h
        refine lv_iconst (v := (0:Int32)) hx hb d_Ck_inspectNames_88 (by decide) ?_
        exact w_Ck_inspectNames_j89 hE C hDD n u44_x1 u44_T0 u44_Sj u44_T1 u44_Rd u44_Pg u44_Pt u44_Mk u44_Lk u44_Jd u44_Ld u44_Pr u44_rt z.1 z.2.1 (0:Int32) z.2.2 h h0 h1 _ _ _ hP hS (lv_sub hl [0, 1, 2, 3] rfl)
      · replace h := o_tt c5 h
        refine lv_aload_n hx hb d_Ck_inspectNames_75 rfl (lv_at hl 0 rfl) ?_
        refine lv_iload_n hx hb d_Ck_inspectNames_76 rfl (lv_at hl 1 rfl) ?_
        refine lv_iload_n hx hb d_Ck_inspectNames_77 rfl (lv_at hl 2 rfl) ?_
        obtain ⟨q7, hq7, h⟩ := o_bd_some h
        refine o_V (st1 := [.int q7, .ref (ad 45)]) (w1 := (o_cw ad ca u44_rt u44_Sj u44_T0 u44_T1 u44_Rd u44_Pg u44_Pt u44_Mk u44_Lk z.2.2 u44_Jd u44_Ld u44_Pr)) hE.1 C (c_Ck_isNew hE l n u44_x1 z.1 u44_T0 u44_Sj u44_T1 u44_Rd u44_Pg u44_Pt u44_Mk u44_Lk z.2.2 u44_Jd u44_Ld u44_Pr u44_rt hq7) hP (hDD _ _ _ _ _ _ _ _ _ _ _ _ _) hS hl.1 rfl cw_45 k_5_101 k_5_103 k_s_41 k_1_7 k_5_104 hv_Ck_isNew rfl rfl ⟨(Nat.le_of_ble_eq_true rfl), (Nat.le_of_ble_eq_true rfl)⟩ rfl (Nat.le_of_ble_eq_true rfl) ⟨Nat.zero_le _, Nat.zero_le _⟩ rfl d_Ck_inspectNames_78 (fun H locs hP hS => ?_)
        refine lv_if_eq (tgt := 88) hx hb d_Ck_inspectNames_81 (by decide) (fun c6 => ?_) (fun c6 => ?_)
        · replace h := o_tt c6 h
          refine lv_iconst (v := (0:Int32)) hx hb d_Ck_inspectNames_88 (by decide) ?_
          exact w_Ck_inspectNames_j89 hE C hDD n u44_x1 u44_T0 u44_Sj u44_T1 u44_Rd u44_Pg u44_Pt u44_Mk u44_Lk u44_Jd u44_Ld u44_Pr u44_rt z.1 z.2.1 (0:Int32) z.2.2 h h0 h1 _ _ _ hP hS (lv_sub hl [0, 1, 2, 3] rfl)
        · replace h := o_ff c6 h
          refine lv_iconst (v := (1:Int32)) hx hb d_Ck_inspectNames_84 (by decide) ?_
          refine lv_goto (tgt := 89) hx hb d_Ck_inspectNames_85 (by decide) ?_
          exact w_Ck_inspectNames_j89 hE C hDD n u44_x1 u44_T0 u44_Sj u44_T1 u44_Rd u44_Pg u44_Pt u44_Mk u44_Lk u44_Jd u44_Ld u44_Pr u44_rt z.1 z.2.1 (1:Int32) z.2.2 h h0 h1 _ _ _ hP hS (lv_sub hl [0, 1, 2, 3] rfl)
set_option maxHeartbeats 4000000 in
set_option maxRecDepth 100000 in
theorem w_Ck_inspectNames_j17 {E : (Nat → Prop) → State → Heap → Prop} {p : Program} {l : Launch} {e : Env} {s : State} {m : MethodId} {args : Array Value} {below : List Frame} {meth : Method} {c : Code} {D : va_G} {ad kd sd vd xd : Nat → Nat} {ca : Nat → ClassId} {A : Nat → Prop} (hE : o_EK E kd sd vd xd) (C : o_Cx E p s m args meth c D o_cls (o_tys ca) "SchemaJudge$Checker" b_Ck_inspectNames none 5 cc_Ck_inspectNames A) (hDD : ∀ (rt : Nat) (Sj : SSJ) (T0 : STx) (T1 : STx) (Rd : SRd) (Pg : SPg) (Pt : SPt) (Mk : SMk) (Lk : SLk) (Ck : SCk) (Jd : SJd) (Ld : SLd) (Pr : SPr), va_D A (o_cw ad ca rt Sj T0 T1 Rd Pg Pt Mk Lk Ck Jd Ld Pr)) (n : Nat) (x1 : Int32) (y0 : Int32) (T0 : STx) (Ck : SCk) (Sj : SSJ) (T1 : STx) (Rd : SRd) (Pg : SPg) (Pt : SPt) (Mk : SMk) (Lk : SLk) (Jd : SJd) (Ld : SLd) (Pr : SPr) (rt : Nat) {r : SCk} (h : m_Ck_inspectNames_j17 n x1 y0 T0 Ck = some r) : o_At p l e rm_Ck_inspectNames s m args below meth c (MQ below (o_Qx D o_cls none (o_cw ad ca rt Sj T0 T1 Rd Pg Pt Mk Lk r Jd Ld Pr) A) args s 0 0 A) o_cls D A 5 17 [.int y0] (o_cw ad ca rt Sj T0 T1 Rd Pg Pt Mk Lk Ck Jd Ld Pr) [(0, .ref (ad 45)), (1, .int x1)] := by
  unfold m_Ck_inspectNames_j17 at h
  intro H locs ls hP hS hl
  have C0 := C
  obtain ⟨hx, hb, -, -, -, hown, hts, hK, -, -⟩ := C0
  refine lv_istore_n (lv' := [(2, .int y0), (0, .ref (ad 45)), (1, .int x1)]) hx hb d_Ck_inspectNames_17 rfl hl (by decide) rfl (fun ls hl => ?_)
  refine lv_aload_n hx hb d_Ck_inspectNames_18 rfl (lv_at hl 1 rfl) ?_
  refine lv_iload_n hx hb d_Ck_inspectNames_19 rfl (lv_at hl 0 rfl) ?_
  refine lv_iload_n hx hb d_Ck_inspectNames_20 rfl (lv_at hl 2 rfl) ?_
  obtain ⟨q2, hq2, h⟩ := o_bd_some h
  refine o_V (st1 := []) (w1 := (o_cw ad ca rt Sj T0 T1 Rd Pg Pt Mk Lk q2 Jd Ld Pr)) hE.1 C (c_Ck_require hE l y0 x1 Ck Sj T0 T1 Rd Pg Pt Mk Lk Jd Ld Pr rt hq2) hP (hDD _ _ _ _ _ _ _ _ _ _ _ _ _) hS hl.1 rfl cw_45 k_4_53 k_4_55 k_s_19 k_1_7 k_4_56 hv_Ck_require rfl rfl ⟨(Nat.le_of_ble_eq_true rfl), (Nat.le_of_ble_eq_true rfl)⟩ rfl (Nat.le_of_ble_eq_true rfl) ⟨Nat.zero_le _, Nat.zero_le _⟩ rfl d_Ck_inspectNames_21 (fun H locs hP hS => ?_)
  refine lv_iload_n hx hb d_Ck_inspectNames_24 rfl (lv_at hl 0 rfl) ?_
  refine lv_if_eq (tgt := 39) hx hb d_Ck_inspectNames_25 (by decide) (fun c2 => ?_) (fun c2 => ?_)
  · replace h := o_tt c2 h
    refine lv_iconst (v := (-1:Int32)) hx hb d_Ck_inspectNames_39 (by decide) ?_
    refine lv_istore_n (lv' := [(3, .int (-1:Int32)), (2, .int y0), (0, .ref (ad 45)), (1, .int x1)]) hx hb d_Ck_inspectNames_40 rfl hl (by decide) rfl (fun ls hl => ?_)
    refine lv_iconst (v := (0:Int32)) hx hb d_Ck_inspectNames_41 (by decide) ?_
    refine lv_istore (lv' := [(4, .int (0:Int32)), (3, .int (-1:Int32)), (2, .int y0), (0, .ref (ad 45)), (1, .int x1)]) hx hb d_Ck_inspectNames_42 hl (by decide) rfl (fun ls hl => ?_)
    obtain ⟨q8, hq8, h⟩ := o_bd_some h
    refine o_sim2 (AH := fun zz => o_At p l e rm_Ck_inspectNames s m args below meth c _ o_cls D A 5 44 [] (o_cw ad ca rt Sj T0 T1 Rd Pg Pt Mk Lk zz.2.2 Jd Ld Pr) [(0, .ref (ad 45)), (1, .int x1), (3, .int zz.1), (4, .int zz.2.1)]) (AX := fun qq => o_At p l e rm_Ck_inspectNames s m args below meth c _ o_cls D A 5 108 [] (o_cw ad ca rt Sj T0 T1 Rd Pg Pt Mk Lk qq.2.2.2 Jd Ld Pr) []) (fun zz qq h h0 h1 => w_Ck_inspectNames_b44 hE C hDD n x1 T0 Sj T1 Rd Pg Pt Mk Lk Jd Ld Pr rt zz qq h h0 h1) n _ q8 hq8 ?_ _ _ _ hP hS (lv_sub hl [3, 4, 1, 0] rfl)
    intro H locs ls hP hS hl
    cases h
    exact o_rv C hP hS d_Ck_inspectNames_108
  · replace h := o_ff c2 h
    refine lv_aload_n hx hb d_Ck_inspectNames_28 rfl (lv_at hl 1 rfl) ?_
    refine o_get (v := .ref (ad 1)) C in_Ck hP 45 cw_45 rfl 0 (by decide) k_2_7 rfl rfl d_Ck_inspectNames_29 ?_
    refine lv_iload_n hx hb d_Ck_inspectNames_32 rfl (lv_at hl 2 rfl) ?_
    obtain ⟨q9, hq9, h⟩ := o_bd_some h
    refine o_V (st1 := [.int q9]) (w1 := (o_cw ad ca rt Sj T0 T1 Rd Pg Pt Mk Lk q2 Jd Ld Pr)) hE.1 C (c_Tx_firstChild_0 hE l x1 T0 Sj T1 Rd Pg Pt Mk Lk q2 Jd Ld Pr rt hq9) hP (hDD _ _ _ _ _ _ _ _ _ _ _ _ _) hS hl.1 rfl cw_1 k_4_70 k_3_211 k_3_212 k_1_2 k_3_213 hv_Tx_firstChild rfl rfl ⟨(Nat.le_of_ble_eq_true rfl), (Nat.le_of_ble_eq_true rfl)⟩ rfl (Nat.le_of_ble_eq_true rfl) ⟨Nat.zero_le _, Nat.zero_le _⟩ rfl d_Ck_inspectNames_33 (fun H locs hP hS => ?_)
    refine lv_goto (tgt := 40) hx hb d_Ck_inspectNames_36 (by decide) ?_
    refine lv_istore_n (lv' := [(3, .int q9), (2, .int y0), (0, .ref (ad 45)), (1, .int x1)]) hx hb d_Ck_inspectNames_40 rfl hl (by decide) rfl (fun ls hl => ?_)
    refine lv_iconst (v := (0:Int32)) hx hb d_Ck_inspectNames_41 (by decide) ?_
    refine lv_istore (lv' := [(4, .int (0:Int32)), (3, .int q9), (2, .int y0), (0, .ref (ad 45)), (1, .int x1)]) hx hb d_Ck_inspectNames_42 hl (by decide) rfl (fun ls hl => ?_)
    obtain ⟨q10, hq10, h⟩ := o_bd_some h
    refine o_sim2 (AH := fun zz => o_At p l e rm_Ck_inspectNames s m args below meth c _ o_cls D A 5 44 [] (o_cw ad ca rt Sj T0 T1 Rd Pg Pt Mk Lk zz.2.2 Jd Ld Pr) [(0, .ref (ad 45)), (1, .int x1), (3, .int zz.1), (4, .int zz.2.1)]) (AX := fun qq => o_At p l e rm_Ck_inspectNames s m args below meth c _ o_cls D A 5 108 [] (o_cw ad ca rt Sj T0 T1 Rd Pg Pt Mk Lk qq.2.2.2 Jd Ld Pr) []) (fun zz qq h h0 h1 => w_Ck_inspectNames_b44 hE C hDD n x1 T0 Sj T1 Rd Pg Pt Mk Lk Jd Ld Pr rt zz qq h h0 h1) n _ q10 hq10 ?_ _ _ _ hP hS (lv_sub hl [3, 4, 1, 0] rfl)
    intro H locs ls hP hS hl
    cases h
    exact o_rv C hP hS d_Ck_inspectNames_108
set_option maxHeartbeats 4000000 in
set_option maxRecDepth 100000 in
theorem c_Ck_inspectNames {E : (Nat → Prop) → State → Heap → Prop} {D : va_G} {ad kd sd vd xd : Nat → Nat} {ca : Nat → ClassId} (hE : o_EK E kd sd vd xd) (l : Launch) (n : Nat) (x1 : Int32) (T0 : STx) (Ck : SCk) (Sj : SSJ) (T1 : STx) (Rd : SRd) (Pg : SPg) (Pt : SPt) (Mk : SMk) (Lk : SLk) (Jd : SJd) (Ld : SLd) (Pr : SPr) (rt : Nat) {r : SCk} (h : m_Ck_inspectNames n x1 T0 Ck = some r) : o_Cn E l D o_cls (o_tys ca) y_Ck_inspectNames cc_Ck_inspectNames rm_Ck_inspectNames [.ref (ad 45), .int x1] (o_cw ad ca rt Sj T0 T1 Rd Pg Pt Mk Lk Ck Jd Ld Pr) (o_cw ad ca rt Sj T0 T1 Rd Pg Pt Mk Lk r Jd Ld Pr) none := by
  refine o_Cn_of (by decide) (Nat.le_of_ble_eq_true rfl) ?_
  intro p e s m below meth c A ls C hD hP hS hl
  have hDD : ∀ (rt : Nat) (Sj : SSJ) (T0 : STx) (T1 : STx) (Rd : SRd) (Pg : SPg) (Pt : SPt) (Mk : SMk) (Lk : SLk) (Ck : SCk) (Jd : SJd) (Ld : SLd) (Pr : SPr), va_D A (o_cw ad ca rt Sj T0 T1 Rd Pg Pt Mk Lk Ck Jd Ld Pr) := fun _ _ _ _ _ _ _ _ _ _ _ _ _ => o_D_map hD rfl
  have hl : lv_has ls 5 [(0, .ref (ad 45)), (1, .int x1)] := hl
  unfold m_Ck_inspectNames at h
  have C0 := C
  obtain ⟨hx, hb, -, -, -, hown, hts, hK, -, -⟩ := C0
  refine lv_aload_n hx hb d_Ck_inspectNames_0 rfl (lv_at hl 0 rfl) ?_
  refine o_get (v := .ref (ad 1)) C in_Ck hP 45 cw_45 rfl 0 (by decide) k_2_7 rfl rfl d_Ck_inspectNames_1 ?_
  refine lv_iload_n hx hb d_Ck_inspectNames_4 rfl (lv_at hl 1 rfl) ?_
  obtain ⟨q1, hq1, h⟩ := o_bd_some h
  refine o_V (st1 := [.int q1]) (w1 := (o_cw ad ca rt Sj T0 T1 Rd Pg Pt Mk Lk Ck Jd Ld Pr)) hE.1 C (c_Tx_kind_0 hE l x1 T0 Sj T1 Rd Pg Pt Mk Lk Ck Jd Ld Pr rt hq1) hP (hDD _ _ _ _ _ _ _ _ _ _ _ _ _) hS hl.1 rfl cw_1 k_4_96 k_4_50 k_4_51 k_1_2 k_4_52 hv_Tx_kind rfl rfl ⟨(Nat.le_of_ble_eq_true rfl), (Nat.le_of_ble_eq_true rfl)⟩ rfl (Nat.le_of_ble_eq_true rfl) ⟨Nat.zero_le _, Nat.zero_le _⟩ rfl d_Ck_inspectNames_5 (fun H locs hP hS => ?_)
  refine lv_iconst (v := (5:Int32)) hx hb d_Ck_inspectNames_8 (by decide) ?_
  refine lv_icmp_ne (tgt := 16) hx hb d_Ck_inspectNames_9 (by decide) (fun c1 => ?_) (fun c1 => ?_)
  · replace h := o_ff c1 h
    refine lv_iconst (v := (0:Int32)) hx hb d_Ck_inspectNames_16 (by decide) ?_
    exact w_Ck_inspectNames_j17 hE C hDD n x1 (0:Int32) T0 Ck Sj T1 Rd Pg Pt Mk Lk Jd Ld Pr rt h _ _ _ hP hS (lv_sub hl [0, 1] rfl)
  · replace h := o_tt c1 h
    refine lv_iconst (v := (1:Int32)) hx hb d_Ck_inspectNames_12 (by decide) ?_
    refine lv_goto (tgt := 17) hx hb d_Ck_inspectNames_13 (by decide) ?_
    exact w_Ck_inspectNames_j17 hE C hDD n x1 (1:Int32) T0 Ck Sj T1 Rd Pg Pt Mk Lk Jd Ld Pr rt h _ _ _ hP hS (lv_sub hl [0, 1] rfl)
set_option maxHeartbeats 4000000 in
set_option maxRecDepth 100000 in
theorem w_Mk_keyword_j21 {E : (Nat → Prop) → State → Heap → Prop} {p : Program} {l : Launch} {e : Env} {s : State} {m : MethodId} {args : Array Value} {below : List Frame} {meth : Method} {c : Code} {D : va_G} {ad kd sd vd xd : Nat → Nat} {ca : Nat → ClassId} {A : Nat → Prop} (hE : o_EK E kd sd vd xd) (C : o_Cx E p s m args meth c D o_cls (o_tys ca) "SchemaJudge$Marks" b_Mk_keyword (some (.object "SchemaJudge$Keyword")) 2 cc_Mk_keyword A) (hDD : ∀ (rt : Nat) (Sj : SSJ) (T0 : STx) (T1 : STx) (Rd : SRd) (Pg : SPg) (Pt : SPt) (Mk : SMk) (Lk : SLk) (Ck : SCk) (Jd : SJd) (Ld : SLd) (Pr : SPr), va_D A (o_cw ad ca rt Sj T0 T1 Rd Pg Pt Mk Lk Ck Jd Ld Pr)) (y0 : Int32) (Mk : SMk) (Sj : SSJ) (T0 : STx) (T1 : STx) (Rd : SRd) (Pg : SPg) (Pt : SPt) (Lk : SLk) (Ck : SCk) (Jd : SJd) (Ld : SLd) (Pr : SPr) (rt : Nat) {r : Nat} (h : m_Mk_keyword_j21 y0 Mk = some r) : o_At p l e rm_Mk_keyword s m args below meth c (MQ below (o_Qx D o_cls (some (.ref (kd r))) (o_cw ad ca rt Sj T0 T1 Rd Pg Pt Mk Lk Ck Jd Ld Pr) A) args s 0 0 A) o_cls D A 2 21 [.int y0] (o_cw ad ca rt Sj T0 T1 Rd Pg Pt Mk Lk Ck Jd Ld Pr) [] := by
  unfold m_Mk_keyword_j21 at h
  intro H locs ls hP hS hl
  have C0 := C
  obtain ⟨hx, hb, -, -, -, hown, hts, hK, -, -⟩ := C0
  obtain ⟨q1, hq1, h⟩ := o_bd_some h
  obtain ⟨g2, h⟩ := o_gd_some h
  refine o_S (st1 := [.ref (kd q1)]) (w1 := (o_cw ad ca rt Sj T0 T1 Rd Pg Pt Mk Lk Ck Jd Ld Pr)) hE.1 C (c_Kw_numbered hE l y0 Sj T0 T1 Rd Pg Pt Mk Lk Ck Jd Ld Pr rt hq1) hP (hDD _ _ _ _ _ _ _ _ _ _ _ _ _) hS hl.1 k_4_87 k_4_88 k_1_25 k_4_89 hs_Kw_numbered rfl rfl ⟨(Nat.le_of_ble_eq_true rfl), (Nat.le_of_ble_eq_true rfl)⟩ rfl (Nat.le_of_ble_eq_true rfl) ⟨Nat.zero_le _, Nat.zero_le _⟩ rfl d_Mk_keyword_21 (fun H locs hP hS => ?_)
  cases h
  exact o_ra C ⟨_, rfl⟩ hP hS d_Mk_keyword_24
set_option maxHeartbeats 4000000 in
set_option maxRecDepth 100000 in
theorem c_Mk_keyword {E : (Nat → Prop) → State → Heap → Prop} {D : va_G} {ad kd sd vd xd : Nat → Nat} {ca : Nat → ClassId} (hE : o_EK E kd sd vd xd) (l : Launch) (x1 : Int32) (Mk : SMk) (Sj : SSJ) (T0 : STx) (T1 : STx) (Rd : SRd) (Pg : SPg) (Pt : SPt) (Lk : SLk) (Ck : SCk) (Jd : SJd) (Ld : SLd) (Pr : SPr) (rt : Nat) {r : Nat} (h : m_Mk_keyword x1 Mk = some r) : o_Cn E l D o_cls (o_tys ca) y_Mk_keyword cc_Mk_keyword rm_Mk_keyword [.ref (ad 39), .int x1] (o_cw ad ca rt Sj T0 T1 Rd Pg Pt Mk Lk Ck Jd Ld Pr) (o_cw ad ca rt Sj T0 T1 Rd Pg Pt Mk Lk Ck Jd Ld Pr) (some (.ref (kd r))) := by
  refine o_Cn_of (by decide) (Nat.le_of_ble_eq_true rfl) ?_
  intro p e s m below meth c A ls C hD hP hS hl
  have hDD : ∀ (rt : Nat) (Sj : SSJ) (T0 : STx) (T1 : STx) (Rd : SRd) (Pg : SPg) (Pt : SPt) (Mk : SMk) (Lk : SLk) (Ck : SCk) (Jd : SJd) (Ld : SLd) (Pr : SPr), va_D A (o_cw ad ca rt Sj T0 T1 Rd Pg Pt Mk Lk Ck Jd Ld Pr) := fun _ _ _ _ _ _ _ _ _ _ _ _ _ => o_D_map hD rfl
  have hl : lv_has ls 2 [(0, .ref (ad 39)), (1, .int x1)] := hl
  unfold m_Mk_keyword at h
  have C0 := C
  obtain ⟨hx, hb, -, -, -, hown, hts, hK, -, -⟩ := C0
  refine lv_iload_n hx hb d_Mk_keyword_0 rfl (lv_at hl 1 rfl) ?_
  refine lv_if_lt (tgt := 20) hx hb d_Mk_keyword_1 (by decide) (fun c1 => ?_) (fun c1 => ?_)
  · replace h := o_tt c1 h
    refine lv_iconst (v := (0:Int32)) hx hb d_Mk_keyword_20 (by decide) ?_
    exact w_Mk_keyword_j21 hE C hDD (0:Int32) Mk Sj T0 T1 Rd Pg Pt Lk Ck Jd Ld Pr rt h _ _ _ hP hS (lv_sub hl [] rfl)
  · replace h := o_ff c1 h
    refine lv_iload_n hx hb d_Mk_keyword_4 rfl (lv_at hl 1 rfl) ?_
    refine lv_sipush (v := (1000:Int32)) hx hb d_Mk_keyword_5 (by decide) ?_
    refine lv_icmp_ge (tgt := 20) hx hb d_Mk_keyword_8 (by decide) (fun c3 => ?_) (fun c3 => ?_)
    · replace h := o_tt c3 h
      refine lv_iconst (v := (0:Int32)) hx hb d_Mk_keyword_20 (by decide) ?_
      exact w_Mk_keyword_j21 hE C hDD (0:Int32) Mk Sj T0 T1 Rd Pg Pt Lk Ck Jd Ld Pr rt h _ _ _ hP hS (lv_sub hl [] rfl)
    · replace h := o_ff c3 h
      refine lv_aload_n hx hb d_Mk_keyword_11 rfl (lv_at hl 0 rfl) ?_
      refine o_get (v := .ref (ad 40)) C in_Mk hP 39 cw_39 rfl 1 (by decide) k_1_207 rfl rfl d_Mk_keyword_12 ?_
      refine lv_iload_n hx hb d_Mk_keyword_15 rfl (lv_at hl 1 rfl) ?_
      obtain ⟨g4, h⟩ := o_gd_some h
      refine o_iald (f := (Mk_keywords Mk)) C hP 40 33 cw_40 rfl g4 d_Mk_keyword_16 ?_
      refine lv_goto (tgt := 21) hx hb d_Mk_keyword_17 (by decide) ?_
      exact w_Mk_keyword_j21 hE C hDD ((Mk_keywords Mk) x1.toNatClampNeg) Mk Sj T0 T1 Rd Pg Pt Lk Ck Jd Ld Pr rt h _ _ _ hP hS (lv_sub hl [] rfl)
set_option maxHeartbeats 4000000 in
set_option maxRecDepth 100000 in
theorem c_Ck_isAnchorValue {E : (Nat → Prop) → State → Heap → Prop} {D : va_G} {ad kd sd vd xd : Nat → Nat} {ca : Nat → ClassId} (hE : o_EK E kd sd vd xd) (l : Launch) (x1 : Int32) (T0 : STx) (Mk : SMk) (Sj : SSJ) (T1 : STx) (Rd : SRd) (Pg : SPg) (Pt : SPt) (Lk : SLk) (Ck : SCk) (Jd : SJd) (Ld : SLd) (Pr : SPr) (rt : Nat) {r : Int32} (h : m_Ck_isAnchorValue x1 T0 Mk = some r) : o_Cn E l D o_cls (o_tys ca) y_Ck_isAnchorValue cc_Ck_isAnchorValue rm_Ck_isAnchorValue [.ref (ad 45), .int x1] (o_cw ad ca rt Sj T0 T1 Rd Pg Pt Mk Lk Ck Jd Ld Pr) (o_cw ad ca rt Sj T0 T1 Rd Pg Pt Mk Lk Ck Jd Ld Pr) (some (.int r)) := by
  refine o_Cn_of (by decide) (Nat.le_of_ble_eq_true rfl) ?_
  intro p e s m below meth c A ls C hD hP hS hl
  have hDD : ∀ (rt : Nat) (Sj : SSJ) (T0 : STx) (T1 : STx) (Rd : SRd) (Pg : SPg) (Pt : SPt) (Mk : SMk) (Lk : SLk) (Ck : SCk) (Jd : SJd) (Ld : SLd) (Pr : SPr), va_D A (o_cw ad ca rt Sj T0 T1 Rd Pg Pt Mk Lk Ck Jd Ld Pr) := fun _ _ _ _ _ _ _ _ _ _ _ _ _ => o_D_map hD rfl
  have hl : lv_has ls 2 [(0, .ref (ad 45)), (1, .int x1)] := hl
  unfold m_Ck_isAnchorValue at h
  have C0 := C
  obtain ⟨hx, hb, -, -, -, hown, hts, hK, -, -⟩ := C0
  refine lv_aload_n hx hb d_Ck_isAnchorValue_0 rfl (lv_at hl 0 rfl) ?_
  refine o_get (v := .ref (ad 39)) C in_Ck hP 45 cw_45 rfl 1 (by decide) k_2_8 rfl rfl d_Ck_isAnchorValue_1 ?_
  refine lv_iload_n hx hb d_Ck_isAnchorValue_4 rfl (lv_at hl 1 rfl) ?_
  obtain ⟨q1, hq1, h⟩ := o_bd_some h
  obtain ⟨g1, h⟩ := o_gd_some h
  refine o_V (st1 := [.ref (kd q1)]) (w1 := (o_cw ad ca rt Sj T0 T1 Rd Pg Pt Mk Lk Ck Jd Ld Pr)) hE.1 C (c_Mk_keyword hE l x1 Mk Sj T0 T1 Rd Pg Pt Lk Ck Jd Ld Pr rt hq1) hP (hDD _ _ _ _ _ _ _ _ _ _ _ _ _) hS hl.1 rfl cw_39 k_5_122 k_5_123 k_5_124 k_1_6 k_5_125 hv_Mk_keyword rfl rfl ⟨(Nat.le_of_ble_eq_true rfl), (Nat.le_of_ble_eq_true rfl)⟩ rfl (Nat.le_of_ble_eq_true rfl) ⟨Nat.zero_le _, Nat.zero_le _⟩ rfl d_Ck_isAnchorValue_5 (fun H locs hP hS => ?_)
  refine va_gets (v := .ref (kd 34)) hx hb ((hE.2.2.1 _ _ _ C.2.2.2.2.2.2.2.2.2).1 34 (by decide)).1 hS hown (hts _ k_5_126) (fun _ h9 => h9) d_Ck_isAnchorValue_8 ?_
  refine lv_acmp_ne (rx := some (kd q1)) (ry := some (kd 34)) (tgt := 30) hx hb d_Ck_isAnchorValue_11 (by decide) (fun c2 => ?_) (fun c2 => ?_)
  · replace h := o_ff (o_kn_ c2) h
    refine lv_iconst (v := (0:Int32)) hx hb d_Ck_isAnchorValue_30 (by decide) ?_
    cases h
    exact o_rz (v := (0:Int32)) C o_nar0 hP hS d_Ck_isAnchorValue_31
  · replace h := o_tt (o_ki hE C g1 rfl c2) h
    refine lv_aload_n hx hb d_Ck_isAnchorValue_14 rfl (lv_at hl 0 rfl) ?_
    refine o_get (v := .ref (ad 1)) C in_Ck hP 45 cw_45 rfl 0 (by decide) k_2_7 rfl rfl d_Ck_isAnchorValue_15 ?_
    refine lv_iload_n hx hb d_Ck_isAnchorValue_18 rfl (lv_at hl 1 rfl) ?_
    obtain ⟨q2, hq2, h⟩ := o_bd_some h
    refine o_V (st1 := [.int q2]) (w1 := (o_cw ad ca rt Sj T0 T1 Rd Pg Pt Mk Lk Ck Jd Ld Pr)) hE.1 C (c_Tx_kind_0 hE l x1 T0 Sj T1 Rd Pg Pt Mk Lk Ck Jd Ld Pr rt hq2) hP (hDD _ _ _ _ _ _ _ _ _ _ _ _ _) hS hl.1 rfl cw_1 k_4_96 k_4_50 k_4_51 k_1_2 k_4_52 hv_Tx_kind rfl rfl ⟨(Nat.le_of_ble_eq_true rfl), (Nat.le_of_ble_eq_true rfl)⟩ rfl (Nat.le_of_ble_eq_true rfl) ⟨Nat.zero_le _, Nat.zero_le _⟩ rfl d_Ck_isAnchorValue_19 (fun H locs hP hS => ?_)
    refine lv_iconst (v := (4:Int32)) hx hb d_Ck_isAnchorValue_22 (by decide) ?_
    refine lv_icmp_ne (tgt := 30) hx hb d_Ck_isAnchorValue_23 (by decide) (fun c3 => ?_) (fun c3 => ?_)
    · replace h := o_ff c3 h
      refine lv_iconst (v := (0:Int32)) hx hb d_Ck_isAnchorValue_30 (by decide) ?_
      cases h
      exact o_rz (v := (0:Int32)) C o_nar0 hP hS d_Ck_isAnchorValue_31
    · replace h := o_tt c3 h
      refine lv_iconst (v := (1:Int32)) hx hb d_Ck_isAnchorValue_26 (by decide) ?_
      refine lv_goto (tgt := 31) hx hb d_Ck_isAnchorValue_27 (by decide) ?_
      cases h
      exact o_rz (v := (1:Int32)) C o_nar1 hP hS d_Ck_isAnchorValue_31
set_option maxHeartbeats 4000000 in
set_option maxRecDepth 100000 in
theorem w_Ck_hasElderAnchor_b2 {E : (Nat → Prop) → State → Heap → Prop} {p : Program} {l : Launch} {e : Env} {s : State} {m : MethodId} {args : Array Value} {below : List Frame} {meth : Method} {c : Code} {D : va_G} {ad kd sd vd xd : Nat → Nat} {ca : Nat → ClassId} {A : Nat → Prop} {Q : State → Prop} (hE : o_EK E kd sd vd xd) (C : o_Cx E p s m args meth c D o_cls (o_tys ca) "SchemaJudge$Checker" b_Ck_hasElderAnchor (some .boolean) 3 cc_Ck_hasElderAnchor A) (hDD : ∀ (rt : Nat) (Sj : SSJ) (T0 : STx) (T1 : STx) (Rd : SRd) (Pg : SPg) (Pt : SPt) (Mk : SMk) (Lk : SLk) (Ck : SCk) (Jd : SJd) (Ld : SLd) (Pr : SPr), va_D A (o_cw ad ca rt Sj T0 T1 Rd Pg Pt Mk Lk Ck Jd Ld Pr)) (n : Nat) (u2_x1 : Int32) (u2_T0 : STx) (u2_Mk : SMk) (u2_Sj : SSJ) (u2_T1 : STx) (u2_Rd : SRd) (u2_Pg : SPg) (u2_Pt : SPt) (u2_Lk : SLk) (u2_Ck : SCk) (u2_Jd : SJd) (u2_Ld : SLd) (u2_Pr : SPr) (u2_rt : Nat) (z : Int32) (q : Nat × Int32) (h : m_Ck_hasElderAnchor_b2 n u2_x1 u2_T0 u2_Mk z = some q) (h0 : q.1 = 0 → o_At p l e rm_Ck_hasElderAnchor s m args below meth c Q o_cls D A 3 2 [] (o_cw ad ca u2_rt u2_Sj u2_T0 u2_T1 u2_Rd u2_Pg u2_Pt u2_Mk u2_Lk u2_Ck u2_Jd u2_Ld u2_Pr) [(0, .ref (ad 45)), (1, .int u2_x1), (2, .int q.2)]) (h1 : q.1 ≠ 0 → (if q.1 = 1 then o_At p l e rm_Ck_hasElderAnchor s m args below meth c Q o_cls D A 3 31 [] (o_cw ad ca u2_rt u2_Sj u2_T0 u2_T1 u2_Rd u2_Pg u2_Pt u2_Mk u2_Lk u2_Ck u2_Jd u2_Ld u2_Pr) [] else o_At p l e rm_Ck_hasElderAnchor s m args below meth c Q o_cls D A 3 39 [] (o_cw ad ca u2_rt u2_Sj u2_T0 u2_T1 u2_Rd u2_Pg u2_Pt u2_Mk u2_Lk u2_Ck u2_Jd u2_Ld u2_Pr) [])) : o_At p l e rm_Ck_hasElderAnchor s m args below meth c Q o_cls D A 3 2 [] (o_cw ad ca u2_rt u2_Sj u2_T0 u2_T1 u2_Rd u2_Pg u2_Pt u2_Mk u2_Lk u2_Ck u2_Jd u2_Ld u2_Pr) [(0, .ref (ad 45)), (1, .int u2_x1), (2, .int z)] := by
  unfold m_Ck_hasElderAnchor_b2 at h
  intro H locs ls hP hS hl
  have C0 := C
  obtain ⟨hx, hb, -, -, -, hown, hts, hK, -, -⟩ := C0
  refine lv_iload_n hx hb d_Ck_hasElderAnchor_2 rfl (lv_at hl 2 rfl) ?_
  refine lv_iload_n hx hb d_Ck_hasElderAnchor_3 rfl (lv_at hl 1 rfl) ?_
  refine lv_icmp_ge (tgt := 39) hx hb d_Ck_hasElderAnchor_4 (by decide) (fun c1 => ?_) (fun c1 => ?_)
  · replace h := o_tt c1 h
    cases h
    exact h1 (Nat.succ_ne_zero 1) _ _ _ hP hS (lv_sub hl [] rfl)
  · replace h := o_ff c1 h
    refine lv_aload_n hx hb d_Ck_hasElderAnchor_7 rfl (lv_at hl 0 rfl) ?_
    refine lv_iload_n hx hb d_Ck_hasElderAnchor_8 rfl (lv_at hl 2 rfl) ?_
    obtain ⟨q1, hq1, h⟩ := o_bd_some h
    refine o_V (st1 := [.int q1]) (w1 := (o_cw ad ca u2_rt u2_Sj u2_T0 u2_T1 u2_Rd u2_Pg u2_Pt u2_Mk u2_Lk u2_Ck u2_Jd u2_Ld u2_Pr)) hE.1 C (c_Ck_isAnchorValue hE l z u2_T0 u2_Mk u2_Sj u2_T1 u2_Rd u2_Pg u2_Pt u2_Lk u2_Ck u2_Jd u2_Ld u2_Pr u2_rt hq1) hP (hDD _ _ _ _ _ _ _ _ _ _ _ _ _) hS hl.1 rfl cw_45 k_5_118 k_5_120 k_s_44 k_1_7 k_5_121 hv_Ck_isAnchorValue rfl rfl ⟨(Nat.le_of_ble_eq_true rfl), (Nat.le_of_ble_eq_true rfl)⟩ rfl (Nat.le_of_ble_eq_true rfl) ⟨Nat.zero_le _, Nat.zero_le _⟩ rfl d_Ck_hasElderAnchor_9 (fun H locs hP hS => ?_)
    refine lv_if_eq (tgt := 33) hx hb d_Ck_hasElderAnchor_12 (by decide) (fun c2 => ?_) (fun c2 => ?_)
    · replace h := o_tt c2 h
      obtain ⟨x2_33, ex2_33⟩ : ∃ y : Int32, y = z + (1:Int32) := ⟨_, rfl⟩
      replace h := o_nm_at ex2_33 h
      refine lv_iinc (v := x2_33) (lv' := [(2, .int x2_33), (0, .ref (ad 45)), (1, .int u2_x1)]) hx hb d_Ck_hasElderAnchor_33 hl (k := 2) rfl (by rw [ex2_33]; rfl) (by decide) rfl (fun ls hl => ?_)
      refine lv_goto (tgt := 2) hx hb d_Ck_hasElderAnchor_36 (by decide) ?_
      cases h
      exact h0 rfl _ _ _ hP hS (lv_sub hl [1, 2, 0] rfl)
    · replace h := o_ff c2 h
      refine lv_aload_n hx hb d_Ck_hasElderAnchor_15 rfl (lv_at hl 0 rfl) ?_
      refine o_get (v := .ref (ad 1)) C in_Ck hP 45 cw_45 rfl 0 (by decide) k_2_7 rfl rfl d_Ck_hasElderAnchor_16 ?_
      refine lv_iload_n hx hb d_Ck_hasElderAnchor_19 rfl (lv_at hl 2 rfl) ?_
      refine lv_aload_n hx hb d_Ck_hasElderAnchor_20 rfl (lv_at hl 0 rfl) ?_
      refine o_get (v := .ref (ad 1)) C in_Ck hP 45 cw_45 rfl 0 (by decide) k_2_7 rfl rfl d_Ck_hasElderAnchor_21 ?_
      refine lv_iload_n hx hb d_Ck_hasElderAnchor_24 rfl (lv_at hl 1 rfl) ?_
      obtain ⟨q2, hq2, h⟩ := o_bd_some h
      refine o_S (st1 := [.int q2]) (w1 := (o_cw ad ca u2_rt u2_Sj u2_T0 u2_T1 u2_Rd u2_Pg u2_Pt u2_Mk u2_Lk u2_Ck u2_Jd u2_Ld u2_Pr)) hE.1 C (c_Tx_sameString_00 hE l n z u2_x1 u2_T0 u2_Sj u2_T1 u2_Rd u2_Pg u2_Pt u2_Mk u2_Lk u2_Ck u2_Jd u2_Ld u2_Pr u2_rt hq2) hP (hDD _ _ _ _ _ _ _ _ _ _ _ _ _) hS hl.1 k_5_109 k_3_219 k_1_2 k_3_220 hs_Tx_sameString rfl rfl ⟨(Nat.le_of_ble_eq_true rfl), (Nat.le_of_ble_eq_true rfl)⟩ rfl (Nat.le_of_ble_eq_true rfl) ⟨Nat.zero_le _, Nat.zero_le _⟩ rfl d_Ck_hasElderAnchor_25 (fun H locs hP hS => ?_)
      refine lv_if_eq (tgt := 33) hx hb d_Ck_hasElderAnchor_28 (by decide) (fun c3 => ?_) (fun c3 => ?_)
      · replace h := o_tt c3 h
        obtain ⟨x2_33, ex2_33⟩ : ∃ y : Int32, y = z + (1:Int32) := ⟨_, rfl⟩
        replace h := o_nm_at ex2_33 h
        refine lv_iinc (v := x2_33) (lv' := [(2, .int x2_33), (0, .ref (ad 45)), (1, .int u2_x1)]) hx hb d_Ck_hasElderAnchor_33 hl (k := 2) rfl (by rw [ex2_33]; rfl) (by decide) rfl (fun ls hl => ?_)
        refine lv_goto (tgt := 2) hx hb d_Ck_hasElderAnchor_36 (by decide) ?_
        cases h
        exact h0 rfl _ _ _ hP hS (lv_sub hl [1, 2, 0] rfl)
      · replace h := o_ff c3 h
        cases h
        exact h1 (Nat.succ_ne_zero 0) _ _ _ hP hS (lv_sub hl [] rfl)
set_option maxHeartbeats 4000000 in
set_option maxRecDepth 100000 in
theorem c_Ck_hasElderAnchor {E : (Nat → Prop) → State → Heap → Prop} {D : va_G} {ad kd sd vd xd : Nat → Nat} {ca : Nat → ClassId} (hE : o_EK E kd sd vd xd) (l : Launch) (n : Nat) (x1 : Int32) (T0 : STx) (Mk : SMk) (Sj : SSJ) (T1 : STx) (Rd : SRd) (Pg : SPg) (Pt : SPt) (Lk : SLk) (Ck : SCk) (Jd : SJd) (Ld : SLd) (Pr : SPr) (rt : Nat) {r : Int32} (h : m_Ck_hasElderAnchor n x1 T0 Mk = some r) : o_Cn E l D o_cls (o_tys ca) y_Ck_hasElderAnchor cc_Ck_hasElderAnchor rm_Ck_hasElderAnchor [.ref (ad 45), .int x1] (o_cw ad ca rt Sj T0 T1 Rd Pg Pt Mk Lk Ck Jd Ld Pr) (o_cw ad ca rt Sj T0 T1 Rd Pg Pt Mk Lk Ck Jd Ld Pr) (some (.int r)) := by
  refine o_Cn_of (by decide) (Nat.le_of_ble_eq_true rfl) ?_
  intro p e s m below meth c A ls C hD hP hS hl
  have hDD : ∀ (rt : Nat) (Sj : SSJ) (T0 : STx) (T1 : STx) (Rd : SRd) (Pg : SPg) (Pt : SPt) (Mk : SMk) (Lk : SLk) (Ck : SCk) (Jd : SJd) (Ld : SLd) (Pr : SPr), va_D A (o_cw ad ca rt Sj T0 T1 Rd Pg Pt Mk Lk Ck Jd Ld Pr) := fun _ _ _ _ _ _ _ _ _ _ _ _ _ => o_D_map hD rfl
  have hl : lv_has ls 3 [(0, .ref (ad 45)), (1, .int x1)] := hl
  unfold m_Ck_hasElderAnchor at h
  have C0 := C
  obtain ⟨hx, hb, -, -, -, hown, hts, hK, -, -⟩ := C0
  refine lv_iconst (v := (0:Int32)) hx hb d_Ck_hasElderAnchor_0 (by decide) ?_
  refine lv_istore_n (lv' := [(2, .int (0:Int32)), (0, .ref (ad 45)), (1, .int x1)]) hx hb d_Ck_hasElderAnchor_1 rfl hl (by decide) rfl (fun ls hl => ?_)
  obtain ⟨q3, hq3, h⟩ := o_bd_some h
  refine o_sim2 (AH := fun zz => o_At p l e rm_Ck_hasElderAnchor s m _ below meth c _ o_cls D A 3 2 [] (o_cw ad ca rt Sj T0 T1 Rd Pg Pt Mk Lk Ck Jd Ld Pr) [(0, .ref (ad 45)), (1, .int x1), (2, .int zz)]) (AX := fun qq => if qq.1 = 1 then o_At p l e rm_Ck_hasElderAnchor s m _ below meth c _ o_cls D A 3 31 [] (o_cw ad ca rt Sj T0 T1 Rd Pg Pt Mk Lk Ck Jd Ld Pr) [] else o_At p l e rm_Ck_hasElderAnchor s m _ below meth c _ o_cls D A 3 39 [] (o_cw ad ca rt Sj T0 T1 Rd Pg Pt Mk Lk Ck Jd Ld Pr) []) (fun zz qq h h0 h1 => w_Ck_hasElderAnchor_b2 hE C hDD n x1 T0 Mk Sj T1 Rd Pg Pt Lk Ck Jd Ld Pr rt zz qq h h0 h1) n _ q3 hq3 ?_ _ _ _ hP hS (lv_sub hl [1, 2, 0] rfl)
  by_cases c4 : q3.1 = 1
  · replace h := o_tt c4 h
    refine o_ip c4 ?_
    intro H locs ls hP hS hl
    refine lv_iconst (v := (1:Int32)) hx hb d_Ck_hasElderAnchor_31 (by decide) ?_
    cases h
    exact o_rz (v := (1:Int32)) C o_nar1 hP hS d_Ck_hasElderAnchor_32
  replace h := o_ff c4 h
  refine o_in_ c4 ?_
  intro H locs ls hP hS hl
  refine lv_iconst (v := (0:Int32)) hx hb d_Ck_hasElderAnchor_39 (by decide) ?_
  cases h
  exact o_rz (v := (0:Int32)) C o_nar0 hP hS d_Ck_hasElderAnchor_40
set_option maxHeartbeats 4000000 in
set_option maxRecDepth 100000 in
theorem c_Tx_total_0 {E : (Nat → Prop) → State → Heap → Prop} {D : va_G} {ad kd sd vd xd : Nat → Nat} {ca : Nat → ClassId} (hE : o_EK E kd sd vd xd) (l : Launch)  (a0 : STx) (Sj : SSJ) (T1 : STx) (Rd : SRd) (Pg : SPg) (Pt : SPt) (Mk : SMk) (Lk : SLk) (Ck : SCk) (Jd : SJd) (Ld : SLd) (Pr : SPr) (rt : Nat) {r : Int32} (h : m_Tx_total a0 = some r) : o_Cn E l D o_cls (o_tys ca) y_Tx_total cc_Tx_total rm_Tx_total [.ref (ad 1)] (o_cw ad ca rt Sj a0 T1 Rd Pg Pt Mk Lk Ck Jd Ld Pr) (o_cw ad ca rt Sj a0 T1 Rd Pg Pt Mk Lk Ck Jd Ld Pr) (some (.int r)) := by
  refine o_Cn_of (by decide) (Nat.le_of_ble_eq_true rfl) ?_
  intro p e s m below meth c A ls C hD hP hS hl
  have hDD : ∀ (rt : Nat) (Sj : SSJ) (T0 : STx) (T1 : STx) (Rd : SRd) (Pg : SPg) (Pt : SPt) (Mk : SMk) (Lk : SLk) (Ck : SCk) (Jd : SJd) (Ld : SLd) (Pr : SPr), va_D A (o_cw ad ca rt Sj T0 T1 Rd Pg Pt Mk Lk Ck Jd Ld Pr) := fun _ _ _ _ _ _ _ _ _ _ _ _ _ => o_D_map hD rfl
  have hl : lv_has ls 1 [(0, .ref (ad 1))] := hl
  unfold m_Tx_total at h
  have C0 := C
  obtain ⟨hx, hb, -, -, -, hown, hts, hK, -, -⟩ := C0
  refine lv_aload_n hx hb d_Tx_total_0 rfl (lv_at hl 0 rfl) ?_
  refine o_get (v := .int (Tx_total a0)) C in_Tx hP 1 cw_1 rfl 10 (by decide) k_1_56 rfl rfl d_Tx_total_1 ?_
  cases h
  exact o_ri (v := (Tx_total a0)) C hP hS d_Tx_total_4
set_option maxHeartbeats 4000000 in
set_option maxRecDepth 100000 in
theorem w_Ck_compareAnchors_b2 {E : (Nat → Prop) → State → Heap → Prop} {p : Program} {l : Launch} {e : Env} {s : State} {m : MethodId} {args : Array Value} {below : List Frame} {meth : Method} {c : Code} {D : va_G} {ad kd sd vd xd : Nat → Nat} {ca : Nat → ClassId} {A : Nat → Prop} {Q : State → Prop} (hE : o_EK E kd sd vd xd) (C : o_Cx E p s m args meth c D o_cls (o_tys ca) "SchemaJudge$Checker" b_Ck_compareAnchors none 2 cc_Ck_compareAnchors A) (hDD : ∀ (rt : Nat) (Sj : SSJ) (T0 : STx) (T1 : STx) (Rd : SRd) (Pg : SPg) (Pt : SPt) (Mk : SMk) (Lk : SLk) (Ck : SCk) (Jd : SJd) (Ld : SLd) (Pr : SPr), va_D A (o_cw ad ca rt Sj T0 T1 Rd Pg Pt Mk Lk Ck Jd Ld Pr)) (n : Nat) (u2_T0 : STx) (u2_Mk : SMk) (u2_Sj : SSJ) (u2_T1 : STx) (u2_Rd : SRd) (u2_Pg : SPg) (u2_Pt : SPt) (u2_Lk : SLk) (u2_Jd : SJd) (u2_Ld : SLd) (u2_Pr : SPr) (u2_rt : Nat) (z : Int32 × SCk) (q : Nat × Int32 × SCk) (h : m_Ck_compareAnchors_b2 n u2_T0 u2_Mk z = some q) (h0 : q.1 = 0 → o_At p l e rm_Ck_compareAnchors s m args below meth c Q o_cls D A 2 2 [] (o_cw ad ca u2_rt u2_Sj u2_T0 u2_T1 u2_Rd u2_Pg u2_Pt u2_Mk u2_Lk q.2.2 u2_Jd u2_Ld u2_Pr) [(0, .ref (ad 45)), (1, .int q.2.1)]) (h1 : q.1 ≠ 0 → (o_At p l e rm_Ck_compareAnchors s m args below meth c Q o_cls D A 2 41 [] (o_cw ad ca u2_rt u2_Sj u2_T0 u2_T1 u2_Rd u2_Pg u2_Pt u2_Mk u2_Lk q.2.2 u2_Jd u2_Ld u2_Pr) [])) : o_At p l e rm_Ck_compareAnchors s m args below meth c Q o_cls D A 2 2 [] (o_cw ad ca u2_rt u2_Sj u2_T0 u2_T1 u2_Rd u2_Pg u2_Pt u2_Mk u2_Lk z.2 u2_Jd u2_Ld u2_Pr) [(0, .ref (ad 45)), (1, .int z.1)] := by
  unfold m_Ck_compareAnchors_b2 at h
  intro H locs ls hP hS hl
  have C0 := C
  obtain ⟨hx, hb, -, -, -, hown, hts, hK, -, -⟩ := C0
  refine lv_iload_n hx hb d_Ck_compareAnchors_2 rfl (lv_at hl 1 rfl) ?_
  refine lv_aload_n hx hb d_Ck_compareAnchors_3 rfl (lv_at hl 0 rfl) ?_
  refine o_get (v := .ref (ad 1)) C in_Ck hP 45 cw_45 rfl 0 (by decide) k_2_7 rfl rfl d_Ck_compareAnchors_4 ?_
  obtain ⟨q1, hq1, h⟩ := o_bd_some h
  refine o_V (st1 := [.int q1, .int z.1]) (w1 := (o_cw ad ca u2_rt u2_Sj u2_T0 u2_T1 u2_Rd u2_Pg u2_Pt u2_Mk u2_Lk z.2 u2_Jd u2_Ld u2_Pr)) hE.1 C (c_Tx_total_0 hE l u2_T0 u2_Sj u2_T1 u2_Rd u2_Pg u2_Pt u2_Mk u2_Lk z.2 u2_Jd u2_Ld u2_Pr u2_rt hq1) hP (hDD _ _ _ _ _ _ _ _ _ _ _ _ _) hS hl.1 rfl cw_1 k_4_61 k_4_6 k_4_7 k_1_2 k_4_8 hv_Tx_total rfl rfl ⟨(Nat.le_of_ble_eq_true rfl), (Nat.le_of_ble_eq_true rfl)⟩ rfl (Nat.le_of_ble_eq_true rfl) ⟨Nat.zero_le _, Nat.zero_le _⟩ rfl d_Ck_compareAnchors_7 (fun H locs hP hS => ?_)
  refine lv_icmp_ge (tgt := 41) hx hb d_Ck_compareAnchors_10 (by decide) (fun c1 => ?_) (fun c1 => ?_)
  · replace h := o_tt c1 h
    cases h
    exact h1 (Nat.succ_ne_zero 0) _ _ _ hP hS (lv_sub hl [] rfl)
  · replace h := o_ff c1 h
    refine lv_aload_n hx hb d_Ck_compareAnchors_13 rfl (lv_at hl 0 rfl) ?_
    refine lv_iload_n hx hb d_Ck_compareAnchors_14 rfl (lv_at hl 1 rfl) ?_
    obtain ⟨q2, hq2, h⟩ := o_bd_some h
    refine o_V (st1 := [.int q2]) (w1 := (o_cw ad ca u2_rt u2_Sj u2_T0 u2_T1 u2_Rd u2_Pg u2_Pt u2_Mk u2_Lk z.2 u2_Jd u2_Ld u2_Pr)) hE.1 C (c_Ck_isAnchorValue hE l z.1 u2_T0 u2_Mk u2_Sj u2_T1 u2_Rd u2_Pg u2_Pt u2_Lk z.2 u2_Jd u2_Ld u2_Pr u2_rt hq2) hP (hDD _ _ _ _ _ _ _ _ _ _ _ _ _) hS hl.1 rfl cw_45 k_5_118 k_5_120 k_s_44 k_1_7 k_5_121 hv_Ck_isAnchorValue rfl rfl ⟨(Nat.le_of_ble_eq_true rfl), (Nat.le_of_ble_eq_true rfl)⟩ rfl (Nat.le_of_ble_eq_true rfl) ⟨Nat.zero_le _, Nat.zero_le _⟩ rfl d_Ck_compareAnchors_15 (fun H locs hP hS => ?_)
    refine lv_if_eq (tgt := 35) hx hb d_Ck_compareAnchors_18 (by decide) (fun c2 => ?_) (fun c2 => ?_)
    · replace h := o_tt c2 h
      obtain ⟨x1_35, ex1_35⟩ : ∃ y : Int32, y = z.1 + (1:Int32) := ⟨_, rfl⟩
      replace h := o_nm_at ex1_35 h
      refine lv_iinc (v := x1_35) (lv' := [(1, .int x1_35), (0, .ref (ad 45))]) hx hb d_Ck_compareAnchors_35 hl (k := 1) rfl (by rw [ex1_35]; rfl) (by decide) rfl (fun ls hl => ?_)
      refine lv_goto (tgt := 2) hx hb d_Ck_compareAnchors_38 (by decide) ?_
      cases h
      exact h0 rfl _ _ _ hP hS (lv_sub hl [1, 0] rfl)
    · replace h := o_ff c2 h
      refine lv_aload_n hx hb d_Ck_compareAnchors_21 rfl (lv_at hl 0 rfl) ?_
      refine lv_iload_n hx hb d_Ck_compareAnchors_22 rfl (lv_at hl 1 rfl) ?_
      obtain ⟨q3, hq3, h⟩ := o_bd_some h
      refine o_V (st1 := [.int q3]) (w1 := (o_cw ad ca u2_rt u2_Sj u2_T0 u2_T1 u2_Rd u2_Pg u2_Pt u2_Mk u2_Lk z.2 u2_Jd u2_Ld u2_Pr)) hE.1 C (c_Ck_hasElderAnchor hE l n z.1 u2_T0 u2_Mk u2_Sj u2_T1 u2_Rd u2_Pg u2_Pt u2_Lk z.2 u2_Jd u2_Ld u2_Pr u2_rt hq3) hP (hDD _ _ _ _ _ _ _ _ _ _ _ _ _) hS hl.1 rfl cw_45 k_5_128 k_5_130 k_s_45 k_1_7 k_5_131 hv_Ck_hasElderAnchor rfl rfl ⟨(Nat.le_of_ble_eq_true rfl), (Nat.le_of_ble_eq_true rfl)⟩ rfl (Nat.le_of_ble_eq_true rfl) ⟨Nat.zero_le _, Nat.zero_le _⟩ rfl d_Ck_compareAnchors_23 (fun H locs hP hS => ?_)
      refine lv_if_eq (tgt := 35) hx hb d_Ck_compareAnchors_26 (by decide) (fun c3 => ?_) (fun c3 => ?_)
      · replace h := o_tt c3 h
        obtain ⟨x1_35, ex1_35⟩ : ∃ y : Int32, y = z.1 + (1:Int32) := ⟨_, rfl⟩
        replace h := o_nm_at ex1_35 h
        refine lv_iinc (v := x1_35) (lv' := [(1, .int x1_35), (0, .ref (ad 45))]) hx hb d_Ck_compareAnchors_35 hl (k := 1) rfl (by rw [ex1_35]; rfl) (by decide) rfl (fun ls hl => ?_)
        refine lv_goto (tgt := 2) hx hb d_Ck_compareAnchors_38 (by decide) ?_
        cases h
        exact h0 rfl _ _ _ hP hS (lv_sub hl [1, 0] rfl)
      · replace h := o_ff c3 h
        refine lv_aload_n hx hb d_Ck_compareAnchors_29 rfl (lv_at hl 0 rfl) ?_
        refine lv_iconst (v := (3:Int32)) hx hb d_Ck_compareAnchors_30 (by decide) ?_
        refine lv_iload_n hx hb d_Ck_compareAnchors_31 rfl (lv_at hl 1 rfl) ?_
        obtain ⟨q4, hq4, h⟩ := o_bd_some h
        refine o_V (st1 := []) (w1 := (o_cw ad ca u2_rt u2_Sj u2_T0 u2_T1 u2_Rd u2_Pg u2_Pt u2_Mk u2_Lk q4 u2_Jd u2_Ld u2_Pr)) hE.1 C (c_Ck_report hE l (3:Int32) z.1 z.2 u2_Sj u2_T0 u2_T1 u2_Rd u2_Pg u2_Pt u2_Mk u2_Lk u2_Jd u2_Ld u2_Pr u2_rt hq4) hP (hDD _ _ _ _ _ _ _ _ _ _ _ _ _) hS hl.1 rfl cw_45 k_4_57 k_4_59 k_s_20 k_1_7 k_4_60 hv_Ck_report rfl rfl ⟨(Nat.le_of_ble_eq_true rfl), (Nat.le_of_ble_eq_true rfl)⟩ rfl (Nat.le_of_ble_eq_true rfl) ⟨Nat.zero_le _, Nat.zero_le _⟩ rfl d_Ck_compareAnchors_32 (fun H locs hP hS => ?_)
        obtain ⟨x1_35, ex1_35⟩ : ∃ y : Int32, y = z.1 + (1:Int32) := ⟨_, rfl⟩
        replace h := o_nm_at ex1_35 h
        refine lv_iinc (v := x1_35) (lv' := [(1, .int x1_35), (0, .ref (ad 45))]) hx hb d_Ck_compareAnchors_35 hl (k := 1) rfl (by rw [ex1_35]; rfl) (by decide) rfl (fun ls hl => ?_)
        refine lv_goto (tgt := 2) hx hb d_Ck_compareAnchors_38 (by decide) ?_
        cases h
        exact h0 rfl _ _ _ hP hS (lv_sub hl [1, 0] rfl)
set_option maxHeartbeats 4000000 in
set_option maxRecDepth 100000 in
theorem c_Ck_compareAnchors {E : (Nat → Prop) → State → Heap → Prop} {D : va_G} {ad kd sd vd xd : Nat → Nat} {ca : Nat → ClassId} (hE : o_EK E kd sd vd xd) (l : Launch) (n : Nat)  (T0 : STx) (Mk : SMk) (Ck : SCk) (Sj : SSJ) (T1 : STx) (Rd : SRd) (Pg : SPg) (Pt : SPt) (Lk : SLk) (Jd : SJd) (Ld : SLd) (Pr : SPr) (rt : Nat) {r : SCk} (h : m_Ck_compareAnchors n T0 Mk Ck = some r) : o_Cn E l D o_cls (o_tys ca) y_Ck_compareAnchors cc_Ck_compareAnchors rm_Ck_compareAnchors [.ref (ad 45)] (o_cw ad ca rt Sj T0 T1 Rd Pg Pt Mk Lk Ck Jd Ld Pr) (o_cw ad ca rt Sj T0 T1 Rd Pg Pt Mk Lk r Jd Ld Pr) none := by
  refine o_Cn_of (by decide) (Nat.le_of_ble_eq_true rfl) ?_
  intro p e s m below meth c A ls C hD hP hS hl
  have hDD : ∀ (rt : Nat) (Sj : SSJ) (T0 : STx) (T1 : STx) (Rd : SRd) (Pg : SPg) (Pt : SPt) (Mk : SMk) (Lk : SLk) (Ck : SCk) (Jd : SJd) (Ld : SLd) (Pr : SPr), va_D A (o_cw ad ca rt Sj T0 T1 Rd Pg Pt Mk Lk Ck Jd Ld Pr) := fun _ _ _ _ _ _ _ _ _ _ _ _ _ => o_D_map hD rfl
  have hl : lv_has ls 2 [(0, .ref (ad 45))] := hl
  unfold m_Ck_compareAnchors at h
  have C0 := C
  obtain ⟨hx, hb, -, -, -, hown, hts, hK, -, -⟩ := C0
  refine lv_iconst (v := (0:Int32)) hx hb d_Ck_compareAnchors_0 (by decide) ?_
  refine lv_istore_n (lv' := [(1, .int (0:Int32)), (0, .ref (ad 45))]) hx hb d_Ck_compareAnchors_1 rfl hl (by decide) rfl (fun ls hl => ?_)
  obtain ⟨q5, hq5, h⟩ := o_bd_some h
  refine o_sim2 (AH := fun zz => o_At p l e rm_Ck_compareAnchors s m _ below meth c _ o_cls D A 2 2 [] (o_cw ad ca rt Sj T0 T1 Rd Pg Pt Mk Lk zz.2 Jd Ld Pr) [(0, .ref (ad 45)), (1, .int zz.1)]) (AX := fun qq => o_At p l e rm_Ck_compareAnchors s m _ below meth c _ o_cls D A 2 41 [] (o_cw ad ca rt Sj T0 T1 Rd Pg Pt Mk Lk qq.2.2 Jd Ld Pr) []) (fun zz qq h h0 h1 => w_Ck_compareAnchors_b2 hE C hDD n T0 Mk Sj T1 Rd Pg Pt Lk Jd Ld Pr rt zz qq h h0 h1) n _ q5 hq5 ?_ _ _ _ hP hS (lv_sub hl [1, 0] rfl)
  intro H locs ls hP hS hl
  cases h
  exact o_rv C hP hS d_Ck_compareAnchors_41
set_option maxHeartbeats 4000000 in
set_option maxRecDepth 100000 in
theorem c_Lk_octetAt {E : (Nat → Prop) → State → Heap → Prop} {D : va_G} {ad kd sd vd xd : Nat → Nat} {ca : Nat → ClassId} (hE : o_EK E kd sd vd xd) (l : Launch) (x1 : Int32) (T0 : STx) (Lk : SLk) (Sj : SSJ) (T1 : STx) (Rd : SRd) (Pg : SPg) (Pt : SPt) (Mk : SMk) (Ck : SCk) (Jd : SJd) (Ld : SLd) (Pr : SPr) (rt : Nat) {r : Int32} (h : m_Lk_octetAt x1 T0 Lk = some r) : o_Cn E l D o_cls (o_tys ca) y_Lk_octetAt cc_Lk_octetAt rm_Lk_octetAt [.ref (ad 43), .int x1] (o_cw ad ca rt Sj T0 T1 Rd Pg Pt Mk Lk Ck Jd Ld Pr) (o_cw ad ca rt Sj T0 T1 Rd Pg Pt Mk Lk Ck Jd Ld Pr) (some (.int r)) := by
  refine o_Cn_of (by decide) (Nat.le_of_ble_eq_true rfl) ?_
  intro p e s m below meth c A ls C hD hP hS hl
  have hDD : ∀ (rt : Nat) (Sj : SSJ) (T0 : STx) (T1 : STx) (Rd : SRd) (Pg : SPg) (Pt : SPt) (Mk : SMk) (Lk : SLk) (Ck : SCk) (Jd : SJd) (Ld : SLd) (Pr : SPr), va_D A (o_cw ad ca rt Sj T0 T1 Rd Pg Pt Mk Lk Ck Jd Ld Pr) := fun _ _ _ _ _ _ _ _ _ _ _ _ _ => o_D_map hD rfl
  have hl : lv_has ls 4 [(0, .ref (ad 43)), (1, .int x1)] := hl
  unfold m_Lk_octetAt at h
  have C0 := C
  obtain ⟨hx, hb, -, -, -, hown, hts, hK, -, -⟩ := C0
  refine lv_aload_n hx hb d_Lk_octetAt_0 rfl (lv_at hl 0 rfl) ?_
  refine o_get (v := .ref (ad 1)) C in_Lk hP 43 cw_43 rfl 0 (by decide) k_1_231 rfl rfl d_Lk_octetAt_1 ?_
  refine lv_iload_n hx hb d_Lk_octetAt_4 rfl (lv_at hl 1 rfl) ?_
  refine lv_aload_n hx hb d_Lk_octetAt_5 rfl (lv_at hl 0 rfl) ?_
  refine o_get (v := .int (Lk_position Lk)) C in_Lk hP 43 cw_43 rfl 4 (by decide) k_1_235 rfl rfl d_Lk_octetAt_6 ?_
  refine lv_iconst (v := (1:Int32)) hx hb d_Lk_octetAt_9 (by decide) ?_
  refine lv_iadd hx hb d_Lk_octetAt_10 ?_
  obtain ⟨q1, hq1, h⟩ := o_bd_some h
  refine o_V (st1 := [.int q1]) (w1 := (o_cw ad ca rt Sj T0 T1 Rd Pg Pt Mk Lk Ck Jd Ld Pr)) hE.1 C (c_Tx_cell_0 hE l x1 ((Lk_position Lk) + (1:Int32)) T0 Sj T1 Rd Pg Pt Mk Lk Ck Jd Ld Pr rt hq1) hP (hDD _ _ _ _ _ _ _ _ _ _ _ _ _) hS hl.1 rfl cw_1 k_5_154 k_4_117 k_4_118 k_1_2 k_4_119 hv_Tx_cell rfl rfl ⟨(Nat.le_of_ble_eq_true rfl), (Nat.le_of_ble_eq_true rfl)⟩ rfl (Nat.le_of_ble_eq_true rfl) ⟨Nat.zero_le _, Nat.zero_le _⟩ rfl d_Lk_octetAt_11 (fun H locs hP hS => ?_)
  obtain ⟨q2, hq2, h⟩ := o_bd_some h
  refine o_SN (st1 := [.int q2]) (w1 := (o_cw ad ca rt Sj T0 T1 Rd Pg Pt Mk Lk Ck Jd Ld Pr)) hE.1 C (c_SJ_hexDigit hE l q1 Sj T0 T1 Rd Pg Pt Mk Lk Ck Jd Ld Pr rt hq2) hP (hDD _ _ _ _ _ _ _ _ _ _ _ _ _) hS hl.1 (hE.2.1 _ _ _ C.2.2.2.2.2.2.2.2.2 _ nw_14) k_3_152 k_1_1 k_3_153 hs_SJ_hexDigit rfl rfl ⟨(Nat.le_of_ble_eq_true rfl), (Nat.le_of_ble_eq_true rfl)⟩ rfl (Nat.le_of_ble_eq_true rfl) ⟨Nat.zero_le _, Nat.zero_le _⟩ rfl d_Lk_octetAt_14 (fun H locs hP hS => ?_)
  refine lv_istore_n (lv' := [(2, .int q2), (0, .ref (ad 43)), (1, .int x1)]) hx hb d_Lk_octetAt_17 rfl hl (by decide) rfl (fun ls hl => ?_)
  refine lv_aload_n hx hb d_Lk_octetAt_18 rfl (lv_at hl 1 rfl) ?_
  refine o_get (v := .ref (ad 1)) C in_Lk hP 43 cw_43 rfl 0 (by decide) k_1_231 rfl rfl d_Lk_octetAt_19 ?_
  refine lv_iload_n hx hb d_Lk_octetAt_22 rfl (lv_at hl 2 rfl) ?_
  refine lv_aload_n hx hb d_Lk_octetAt_23 rfl (lv_at hl 1 rfl) ?_
  refine o_get (v := .int (Lk_position Lk)) C in_Lk hP 43 cw_43 rfl 4 (by decide) k_1_235 rfl rfl d_Lk_octetAt_24 ?_
  refine lv_iconst (v := (2:Int32)) hx hb d_Lk_octetAt_27 (by decide) ?_
  refine lv_iadd hx hb d_Lk_octetAt_28 ?_
  obtain ⟨q3, hq3, h⟩ := o_bd_some h
  refine o_V (st1 := [.int q3]) (w1 := (o_cw ad ca rt Sj T0 T1 Rd Pg Pt Mk Lk Ck Jd Ld Pr)) hE.1 C (c_Tx_cell_0 hE l x1 ((Lk_position Lk) + (2:Int32)) T0 Sj T1 Rd Pg Pt Mk Lk Ck Jd Ld Pr rt hq3) hP (hDD _ _ _ _ _ _ _ _ _ _ _ _ _) hS hl.1 rfl cw_1 k_5_154 k_4_117 k_4_118 k_1_2 k_4_119 hv_Tx_cell rfl rfl ⟨(Nat.le_of_ble_eq_true rfl), (Nat.le_of_ble_eq_true rfl)⟩ rfl (Nat.le_of_ble_eq_true rfl) ⟨Nat.zero_le _, Nat.zero_le _⟩ rfl d_Lk_octetAt_29 (fun H locs hP hS => ?_)
  obtain ⟨q4, hq4, h⟩ := o_bd_some h
  refine o_SN (st1 := [.int q4]) (w1 := (o_cw ad ca rt Sj T0 T1 Rd Pg Pt Mk Lk Ck Jd Ld Pr)) hE.1 C (c_SJ_hexDigit hE l q3 Sj T0 T1 Rd Pg Pt Mk Lk Ck Jd Ld Pr rt hq4) hP (hDD _ _ _ _ _ _ _ _ _ _ _ _ _) hS hl.1 (hE.2.1 _ _ _ C.2.2.2.2.2.2.2.2.2 _ nw_14) k_3_152 k_1_1 k_3_153 hs_SJ_hexDigit rfl rfl ⟨(Nat.le_of_ble_eq_true rfl), (Nat.le_of_ble_eq_true rfl)⟩ rfl (Nat.le_of_ble_eq_true rfl) ⟨Nat.zero_le _, Nat.zero_le _⟩ rfl d_Lk_octetAt_32 (fun H locs hP hS => ?_)
  refine lv_istore_n (lv' := [(3, .int q4), (2, .int q2), (0, .ref (ad 43)), (1, .int x1)]) hx hb d_Lk_octetAt_35 rfl hl (by decide) rfl (fun ls hl => ?_)
  refine lv_aload_n hx hb d_Lk_octetAt_36 rfl (lv_at hl 2 rfl) ?_
  refine o_get (v := .ref (ad 1)) C in_Lk hP 43 cw_43 rfl 0 (by decide) k_1_231 rfl rfl d_Lk_octetAt_37 ?_
  refine lv_iload_n hx hb d_Lk_octetAt_40 rfl (lv_at hl 3 rfl) ?_
  refine lv_aload_n hx hb d_Lk_octetAt_41 rfl (lv_at hl 2 rfl) ?_
  refine o_get (v := .int (Lk_position Lk)) C in_Lk hP 43 cw_43 rfl 4 (by decide) k_1_235 rfl rfl d_Lk_octetAt_42 ?_
  obtain ⟨q5, hq5, h⟩ := o_bd_some h
  refine o_V (st1 := [.int q5]) (w1 := (o_cw ad ca rt Sj T0 T1 Rd Pg Pt Mk Lk Ck Jd Ld Pr)) hE.1 C (c_Tx_cell_0 hE l x1 (Lk_position Lk) T0 Sj T1 Rd Pg Pt Mk Lk Ck Jd Ld Pr rt hq5) hP (hDD _ _ _ _ _ _ _ _ _ _ _ _ _) hS hl.1 rfl cw_1 k_5_154 k_4_117 k_4_118 k_1_2 k_4_119 hv_Tx_cell rfl rfl ⟨(Nat.le_of_ble_eq_true rfl), (Nat.le_of_ble_eq_true rfl)⟩ rfl (Nat.le_of_ble_eq_true rfl) ⟨Nat.zero_le _, Nat.zero_le _⟩ rfl d_Lk_octetAt_45 (fun H locs hP hS => ?_)
  refine lv_bipush (v := (37:Int32)) hx hb d_Lk_octetAt_48 (by decide) ?_
  refine lv_icmp_ne (tgt := 63) hx hb d_Lk_octetAt_50 (by decide) (fun c1 => ?_) (fun c1 => ?_)
  · replace h := o_ff c1 h
    refine lv_iconst (v := (-1:Int32)) hx hb d_Lk_octetAt_63 (by decide) ?_
    refine lv_goto (tgt := 73) hx hb d_Lk_octetAt_64 (by decide) ?_
    cases h
    exact o_ri (v := (-1:Int32)) C hP hS d_Lk_octetAt_73
  · replace h := o_tt c1 h
    refine lv_iload_n hx hb d_Lk_octetAt_53 rfl (lv_at hl 1 rfl) ?_
    refine lv_iconst (v := (-1:Int32)) hx hb d_Lk_octetAt_54 (by decide) ?_
    refine lv_icmp_eq (tgt := 63) hx hb d_Lk_octetAt_55 (by decide) (fun c2 => ?_) (fun c2 => ?_)
    · replace h := o_tt c2 h
      refine lv_iconst (v := (-1:Int32)) hx hb d_Lk_octetAt_63 (by decide) ?_
      refine lv_goto (tgt := 73) hx hb d_Lk_octetAt_64 (by decide) ?_
      cases h
      exact o_ri (v := (-1:Int32)) C hP hS d_Lk_octetAt_73
    · replace h := o_ff c2 h
      refine lv_iload_n hx hb d_Lk_octetAt_58 rfl (lv_at hl 0 rfl) ?_
      refine lv_iconst (v := (-1:Int32)) hx hb d_Lk_octetAt_59 (by decide) ?_
      refine lv_icmp_ne (tgt := 67) hx hb d_Lk_octetAt_60 (by decide) (fun c3 => ?_) (fun c3 => ?_)
      · replace h := o_ff c3 h
        refine lv_iload_n hx hb d_Lk_octetAt_67 rfl (lv_at hl 1 rfl) ?_
        refine lv_bipush (v := (16:Int32)) hx hb d_Lk_octetAt_68 (by decide) ?_
        refine lv_imul hx hb d_Lk_octetAt_70 ?_
        refine lv_iload_n hx hb d_Lk_octetAt_71 rfl (lv_at hl 0 rfl) ?_
        refine lv_iadd hx hb d_Lk_octetAt_72 ?_
        cases h
        exact o_ri (v := ((q2 * (16:Int32)) + q4)) C hP hS d_Lk_octetAt_73
      · replace h := o_tt c3 h
        refine lv_iconst (v := (-1:Int32)) hx hb d_Lk_octetAt_63 (by decide) ?_
        refine lv_goto (tgt := 73) hx hb d_Lk_octetAt_64 (by decide) ?_
        cases h
        exact o_ri (v := (-1:Int32)) C hP hS d_Lk_octetAt_73
set_option maxHeartbeats 4000000 in
set_option maxRecDepth 100000 in
theorem w_Lk_decodeOctets_b22 {E : (Nat → Prop) → State → Heap → Prop} {p : Program} {l : Launch} {e : Env} {s : State} {m : MethodId} {args : Array Value} {below : List Frame} {meth : Method} {c : Code} {D : va_G} {ad kd sd vd xd : Nat → Nat} {ca : Nat → ClassId} {A : Nat → Prop} {Q : State → Prop} (hE : o_EK E kd sd vd xd) (C : o_Cx E p s m args meth c D o_cls (o_tys ca) "SchemaJudge$Links" b_Lk_decodeOctets (some .int) 7 cc_Lk_decodeOctets A) (hDD : ∀ (rt : Nat) (Sj : SSJ) (T0 : STx) (T1 : STx) (Rd : SRd) (Pg : SPg) (Pt : SPt) (Mk : SMk) (Lk : SLk) (Ck : SCk) (Jd : SJd) (Ld : SLd) (Pr : SPr), va_D A (o_cw ad ca rt Sj T0 T1 Rd Pg Pt Mk Lk Ck Jd Ld Pr)) (n : Nat) (u22_x1 : Int32) (u22_x3 : Int32) (u22_T0 : STx) (u22_Sj : SSJ) (u22_T1 : STx) (u22_Rd : SRd) (u22_Pg : SPg) (u22_Pt : SPt) (u22_Mk : SMk) (u22_Ck : SCk) (u22_Jd : SJd) (u22_Ld : SLd) (u22_Pr : SPr) (u22_rt : Nat) (z : Int32 × Int32 × SLk) (q : Nat × Int32 × Int32 × SLk) (h : m_Lk_decodeOctets_b22 n u22_x1 u22_x3 u22_T0 z = some q) (h0 : q.1 = 0 → o_At p l e rm_Lk_decodeOctets s m args below meth c Q o_cls D A 7 22 [] (o_cw ad ca u22_rt u22_Sj u22_T0 u22_T1 u22_Rd u22_Pg u22_Pt u22_Mk q.2.2.2 u22_Ck u22_Jd u22_Ld u22_Pr) [(0, .ref (ad 43)), (1, .int u22_x1), (3, .int u22_x3), (4, .int q.2.1), (5, .int q.2.2.1)]) (h1 : q.1 ≠ 0 → (if q.1 = 1 then o_At p l e rm_Lk_decodeOctets s m args below meth c Q o_cls D A 7 53 [] (o_cw ad ca u22_rt u22_Sj u22_T0 u22_T1 u22_Rd u22_Pg u22_Pt u22_Mk q.2.2.2 u22_Ck u22_Jd u22_Ld u22_Pr) [] else o_At p l e rm_Lk_decodeOctets s m args below meth c Q o_cls D A 7 74 [] (o_cw ad ca u22_rt u22_Sj u22_T0 u22_T1 u22_Rd u22_Pg u22_Pt u22_Mk q.2.2.2 u22_Ck u22_Jd u22_Ld u22_Pr) [(3, .int u22_x3), (4, .int q.2.1)])) : o_At p l e rm_Lk_decodeOctets s m args below meth c Q o_cls D A 7 22 [] (o_cw ad ca u22_rt u22_Sj u22_T0 u22_T1 u22_Rd u22_Pg u22_Pt u22_Mk z.2.2 u22_Ck u22_Jd u22_Ld u22_Pr) [(0, .ref (ad 43)), (1, .int u22_x1), (3, .int u22_x3), (4, .int z.1), (5, .int z.2.1)] := by
  unfold m_Lk_decodeOctets_b22 at h
  intro H locs ls hP hS hl
  have C0 := C
  obtain ⟨hx, hb, -, -, -, hown, hts, hK, -, -⟩ := C0
  refine lv_iload hx hb d_Lk_decodeOctets_22 (lv_at hl 4 rfl) ?_
  refine lv_iload_n hx hb d_Lk_decodeOctets_24 rfl (lv_at hl 2 rfl) ?_
  refine lv_icmp_ge (tgt := 74) hx hb d_Lk_decodeOctets_25 (by decide) (fun c2 => ?_) (fun c2 => ?_)
  · replace h := o_tt c2 h
    cases h
    exact h1 (Nat.succ_ne_zero 1) _ _ _ hP hS (lv_sub hl [2, 3] rfl)
  · replace h := o_ff c2 h
    refine lv_aload_n hx hb d_Lk_decodeOctets_28 rfl (lv_at hl 0 rfl) ?_
    refine lv_dup hx hb d_Lk_decodeOctets_29 rfl ?_
    refine o_get (v := .int (Lk_position z.2.2)) C in_Lk hP 43 cw_43 rfl 4 (by decide) k_1_235 rfl rfl d_Lk_decodeOctets_30 ?_
    refine lv_iconst (v := (3:Int32)) hx hb d_Lk_decodeOctets_33 (by decide) ?_
    refine lv_iadd hx hb d_Lk_decodeOctets_34 ?_
    refine o_put (v := .int ((Lk_position z.2.2) + (3:Int32))) (ty := .int) (w1 := (o_cw ad ca u22_rt u22_Sj u22_T0 u22_T1 u22_Rd u22_Pg u22_Pt u22_Mk (Lk_mk (Lk_characters z.2.2) (Lk_length z.2.2) ((Lk_position z.2.2) + (3:Int32))) u22_Ck u22_Jd u22_Ld u22_Pr)) C in_Lk t_Lk t_Lk_ok n_Lk hP (hDD _ _ _ _ _ _ _ _ _ _ _ _ _) hS 43 cw_43 rfl 4 (by decide) k_1_235 rfl rfl (by decide +kernel) rfl rfl (Nat.le_of_ble_eq_true rfl) rfl d_Lk_decodeOctets_35 (fun H locs hP hS => ?_)
    refine lv_aload_n hx hb d_Lk_decodeOctets_38 rfl (lv_at hl 0 rfl) ?_
    refine lv_iload_n hx hb d_Lk_decodeOctets_39 rfl (lv_at hl 1 rfl) ?_
    obtain ⟨q3, hq3, h⟩ := o_bd_some h
    refine o_V (st1 := [.int q3]) (w1 := (o_cw ad ca u22_rt u22_Sj u22_T0 u22_T1 u22_Rd u22_Pg u22_Pt u22_Mk (Lk_mk (Lk_characters z.2.2) (Lk_length z.2.2) ((Lk_position z.2.2) + (3:Int32))) u22_Ck u22_Jd u22_Ld u22_Pr)) hE.1 C (c_Lk_octetAt hE l u22_x1 u22_T0 (Lk_mk (Lk_characters z.2.2) (Lk_length z.2.2) ((Lk_position z.2.2) + (3:Int32))) u22_Sj u22_T1 u22_Rd u22_Pg u22_Pt u22_Mk u22_Ck u22_Jd u22_Ld u22_Pr u22_rt hq3) hP (hDD _ _ _ _ _ _ _ _ _ _ _ _ _) hS hl.1 rfl cw_43 k_5_150 k_5_152 k_s_48 k_1_8 k_5_153 hv_Lk_octetAt rfl rfl ⟨(Nat.le_of_ble_eq_true rfl), (Nat.le_of_ble_eq_true rfl)⟩ rfl (Nat.le_of_ble_eq_true rfl) ⟨Nat.zero_le _, Nat.zero_le _⟩ rfl d_Lk_decodeOctets_40 (fun H locs hP hS => ?_)
    refine lv_istore (lv' := [(6, .int q3), (0, .ref (ad 43)), (1, .int u22_x1), (3, .int u22_x3), (4, .int z.1), (5, .int z.2.1)]) hx hb d_Lk_decodeOctets_43 hl (by decide) rfl (fun ls hl => ?_)
    refine lv_iload hx hb d_Lk_decodeOctets_45 (lv_at hl 0 rfl) ?_
    obtain ⟨q4, hq4, h⟩ := o_bd_some h
    refine o_SN (st1 := [.int q4]) (w1 := (o_cw ad ca u22_rt u22_Sj u22_T0 u22_T1 u22_Rd u22_Pg u22_Pt u22_Mk (Lk_mk (Lk_characters z.2.2) (Lk_length z.2.2) ((Lk_position z.2.2) + (3:Int32))) u22_Ck u22_Jd u22_Ld u22_Pr)) hE.1 C (c_SJ_utf8Follows hE l q3 u22_Sj u22_T0 u22_T1 u22_Rd u22_Pg u22_Pt u22_Mk (Lk_mk (Lk_characters z.2.2) (Lk_length z.2.2) ((Lk_position z.2.2) + (3:Int32))) u22_Ck u22_Jd u22_Ld u22_Pr u22_rt hq4) hP (hDD _ _ _ _ _ _ _ _ _ _ _ _ _) hS hl.1 (hE.2.1 _ _ _ C.2.2.2.2.2.2.2.2.2 _ nw_17) k_3_174 k_1_1 k_3_175 hs_SJ_utf8Follows rfl rfl ⟨(Nat.le_of_ble_eq_true rfl), (Nat.le_of_ble_eq_true rfl)⟩ rfl (Nat.le_of_ble_eq_true rfl) ⟨Nat.zero_le _, Nat.zero_le _⟩ rfl d_Lk_decodeOctets_47 (fun H locs hP hS => ?_)
    refine lv_if_ne (tgt := 55) hx hb d_Lk_decodeOctets_50 (by decide) (fun c3 => ?_) (fun c3 => ?_)
    · replace h := o_ff c3 h
      refine lv_iload hx hb d_Lk_decodeOctets_55 (lv_at hl 4 rfl) ?_
      refine lv_bipush (v := (6:Int32)) hx hb d_Lk_decodeOctets_57 (by decide) ?_
      refine lv_ishl hx hb d_Lk_decodeOctets_59 ?_
      refine lv_iload hx hb d_Lk_decodeOctets_60 (lv_at hl 0 rfl) ?_
      refine lv_bipush (v := (63:Int32)) hx hb d_Lk_decodeOctets_62 (by decide) ?_
      refine lv_iand hx hb d_Lk_decodeOctets_64 ?_
      refine lv_ior hx hb d_Lk_decodeOctets_65 ?_
      refine lv_topi (fun x4_66 ex4_66 => ?_)
      replace h := o_nm_at ex4_66 h
      refine lv_istore (lv' := [(4, .int x4_66), (6, .int q3), (0, .ref (ad 43)), (1, .int u22_x1), (3, .int u22_x3), (5, .int z.2.1)]) hx hb d_Lk_decodeOctets_66 hl (by decide) rfl (fun ls hl => ?_)
      obtain ⟨x5_68, ex5_68⟩ : ∃ y : Int32, y = z.2.1 + (1:Int32) := ⟨_, rfl⟩
      replace h := o_nm_at ex5_68 h
      refine lv_iinc (v := x5_68) (lv' := [(5, .int x5_68), (4, .int x4_66), (6, .int q3), (0, .ref (ad 43)), (1, .int u22_x1), (3, .int u22_x3)]) hx hb d_Lk_decodeOctets_68 hl (k := 5) rfl (by rw [ex5_68]; rfl) (by decide) rfl (fun ls hl => ?_)
      refine lv_goto (tgt := 22) hx hb d_Lk_decodeOctets_71 (by decide) ?_
      cases h
      exact h0 rfl _ _ _ hP hS (lv_sub hl [3, 4, 5, 1, 0] rfl)
    · replace h := o_tt c3 h
      cases h
      exact h1 (Nat.succ_ne_zero 0) _ _ _ hP hS (lv_sub hl [] rfl)
set_option maxHeartbeats 4000000 in
set_option maxRecDepth 100000 in
theorem c_Lk_decodeOctets {E : (Nat → Prop) → State → Heap → Prop} {D : va_G} {ad kd sd vd xd : Nat → Nat} {ca : Nat → ClassId} (hE : o_EK E kd sd vd xd) (l : Launch) (n : Nat) (x1 : Int32) (x2 : Int32) (T0 : STx) (Lk : SLk) (Sj : SSJ) (T1 : STx) (Rd : SRd) (Pg : SPg) (Pt : SPt) (Mk : SMk) (Ck : SCk) (Jd : SJd) (Ld : SLd) (Pr : SPr) (rt : Nat) {r : Int32 × SLk} (h : m_Lk_decodeOctets n x1 x2 T0 Lk = some r) : o_Cn E l D o_cls (o_tys ca) y_Lk_decodeOctets cc_Lk_decodeOctets rm_Lk_decodeOctets [.ref (ad 43), .int x1, .int x2] (o_cw ad ca rt Sj T0 T1 Rd Pg Pt Mk Lk Ck Jd Ld Pr) (o_cw ad ca rt Sj T0 T1 Rd Pg Pt Mk r.2 Ck Jd Ld Pr) (some (.int r.1)) := by
  refine o_Cn_of (by decide) (Nat.le_of_ble_eq_true rfl) ?_
  intro p e s m below meth c A ls C hD hP hS hl
  have hDD : ∀ (rt : Nat) (Sj : SSJ) (T0 : STx) (T1 : STx) (Rd : SRd) (Pg : SPg) (Pt : SPt) (Mk : SMk) (Lk : SLk) (Ck : SCk) (Jd : SJd) (Ld : SLd) (Pr : SPr), va_D A (o_cw ad ca rt Sj T0 T1 Rd Pg Pt Mk Lk Ck Jd Ld Pr) := fun _ _ _ _ _ _ _ _ _ _ _ _ _ => o_D_map hD rfl
  have hl : lv_has ls 7 [(0, .ref (ad 43)), (1, .int x1), (2, .int x2)] := hl
  unfold m_Lk_decodeOctets at h
  have C0 := C
  obtain ⟨hx, hb, -, -, -, hown, hts, hK, -, -⟩ := C0
  refine lv_iload_n hx hb d_Lk_decodeOctets_0 rfl (lv_at hl 2 rfl) ?_
  obtain ⟨q1, hq1, h⟩ := o_bd_some h
  refine o_SN (st1 := [.int q1]) (w1 := (o_cw ad ca rt Sj T0 T1 Rd Pg Pt Mk Lk Ck Jd Ld Pr)) hE.1 C (c_SJ_utf8Tail hE l x2 Sj T0 T1 Rd Pg Pt Mk Lk Ck Jd Ld Pr rt hq1) hP (hDD _ _ _ _ _ _ _ _ _ _ _ _ _) hS hl.1 (hE.2.1 _ _ _ C.2.2.2.2.2.2.2.2.2 _ nw_15) k_3_168 k_1_1 k_3_169 hs_SJ_utf8Tail rfl rfl ⟨(Nat.le_of_ble_eq_true rfl), (Nat.le_of_ble_eq_true rfl)⟩ rfl (Nat.le_of_ble_eq_true rfl) ⟨Nat.zero_le _, Nat.zero_le _⟩ rfl d_Lk_decodeOctets_1 (fun H locs hP hS => ?_)
  refine lv_istore_n (lv' := [(3, .int q1), (0, .ref (ad 43)), (1, .int x1), (2, .int x2)]) hx hb d_Lk_decodeOctets_4 rfl hl (by decide) rfl (fun ls hl => ?_)
  refine lv_iload_n hx hb d_Lk_decodeOctets_5 rfl (lv_at hl 0 rfl) ?_
  refine lv_iconst (v := (-1:Int32)) hx hb d_Lk_decodeOctets_6 (by decide) ?_
  refine lv_icmp_ne (tgt := 12) hx hb d_Lk_decodeOctets_7 (by decide) (fun c1 => ?_) (fun c1 => ?_)
  · replace h := o_ff c1 h
    refine lv_iload_n hx hb d_Lk_decodeOctets_12 rfl (lv_at hl 3 rfl) ?_
    refine lv_iload_n hx hb d_Lk_decodeOctets_13 rfl (lv_at hl 0 rfl) ?_
    obtain ⟨q2, hq2, h⟩ := o_bd_some h
    refine o_SN (st1 := [.int q2]) (w1 := (o_cw ad ca rt Sj T0 T1 Rd Pg Pt Mk Lk Ck Jd Ld Pr)) hE.1 C (c_SJ_utf8Head hE l x2 q1 Sj T0 T1 Rd Pg Pt Mk Lk Ck Jd Ld Pr rt hq2) hP (hDD _ _ _ _ _ _ _ _ _ _ _ _ _) hS hl.1 (hE.2.1 _ _ _ C.2.2.2.2.2.2.2.2.2 _ nw_16) k_3_171 k_1_1 k_3_172 hs_SJ_utf8Head rfl rfl ⟨(Nat.le_of_ble_eq_true rfl), (Nat.le_of_ble_eq_true rfl)⟩ rfl (Nat.le_of_ble_eq_true rfl) ⟨Nat.zero_le _, Nat.zero_le _⟩ rfl d_Lk_decodeOctets_14 (fun H locs hP hS => ?_)
    refine lv_istore (lv' := [(4, .int q2), (3, .int q1), (0, .ref (ad 43)), (1, .int x1), (2, .int x2)]) hx hb d_Lk_decodeOctets_17 hl (by decide) rfl (fun ls hl => ?_)
    refine lv_iconst (v := (0:Int32)) hx hb d_Lk_decodeOctets_19 (by decide) ?_
    refine lv_istore (lv' := [(5, .int (0:Int32)), (4, .int q2), (3, .int q1), (0, .ref (ad 43)), (1, .int x1), (2, .int x2)]) hx hb d_Lk_decodeOctets_20 hl (by decide) rfl (fun ls hl => ?_)
    obtain ⟨q5, hq5, h⟩ := o_bd_some h
    refine o_sim2 (AH := fun zz => o_At p l e rm_Lk_decodeOctets s m _ below meth c _ o_cls D A 7 22 [] (o_cw ad ca rt Sj T0 T1 Rd Pg Pt Mk zz.2.2 Ck Jd Ld Pr) [(0, .ref (ad 43)), (1, .int x1), (3, .int q1), (4, .int zz.1), (5, .int zz.2.1)]) (AX := fun qq => if qq.1 = 1 then o_At p l e rm_Lk_decodeOctets s m _ below meth c _ o_cls D A 7 53 [] (o_cw ad ca rt Sj T0 T1 Rd Pg Pt Mk qq.2.2.2 Ck Jd Ld Pr) [] else o_At p l e rm_Lk_decodeOctets s m _ below meth c _ o_cls D A 7 74 [] (o_cw ad ca rt Sj T0 T1 Rd Pg Pt Mk qq.2.2.2 Ck Jd Ld Pr) [(3, .int q1), (4, .int qq.2.1)]) (fun zz qq h h0 h1 => w_Lk_decodeOctets_b22 hE C hDD n x1 q1 T0 Sj T1 Rd Pg Pt Mk Ck Jd Ld Pr rt zz qq h h0 h1) n _ q5 hq5 ?_ _ _ _ hP hS (lv_sub hl [3, 4, 2, 1, 0] rfl)
    by_cases c5 : q5.1 = 1
    · replace h := o_tt c5 h
      refine o_ip c5 ?_
      intro H locs ls hP hS hl
      refine lv_iconst (v := (-1:Int32)) hx hb d_Lk_decodeOctets_53 (by decide) ?_
      cases h
      exact o_ri (v := (-1:Int32)) C hP hS d_Lk_decodeOctets_54
    replace h := o_ff c5 h
    refine o_in_ c5 ?_
    intro H locs ls hP hS hl
    refine lv_iload hx hb d_Lk_decodeOctets_74 (lv_at hl 1 rfl) ?_
    refine lv_iload_n hx hb d_Lk_decodeOctets_76 rfl (lv_at hl 0 rfl) ?_
    obtain ⟨q6, hq6, h⟩ := o_bd_some h
    refine o_SN (st1 := [.int q6]) (w1 := (o_cw ad ca rt Sj T0 T1 Rd Pg Pt Mk q5.2.2.2 Ck Jd Ld Pr)) hE.1 C (c_SJ_utf8Legal hE l q5.2.1 q1 Sj T0 T1 Rd Pg Pt Mk q5.2.2.2 Ck Jd Ld Pr rt hq6) hP (hDD _ _ _ _ _ _ _ _ _ _ _ _ _) hS hl.1 (hE.2.1 _ _ _ C.2.2.2.2.2.2.2.2.2 _ nw_18) k_3_177 k_1_1 k_3_178 hs_SJ_utf8Legal rfl rfl ⟨(Nat.le_of_ble_eq_true rfl), (Nat.le_of_ble_eq_true rfl)⟩ rfl (Nat.le_of_ble_eq_true rfl) ⟨Nat.zero_le _, Nat.zero_le _⟩ rfl d_Lk_decodeOctets_77 (fun H locs hP hS => ?_)
    refine lv_if_eq (tgt := 88) hx hb d_Lk_decodeOctets_80 (by decide) (fun c4 => ?_) (fun c4 => ?_)
    · replace h := o_tt c4 h
      refine lv_iconst (v := (-1:Int32)) hx hb d_Lk_decodeOctets_88 (by decide) ?_
      cases h
      exact o_ri (v := (-1:Int32)) C hP hS d_Lk_decodeOctets_89
    · replace h := o_ff c4 h
      refine lv_iload hx hb d_Lk_decodeOctets_83 (lv_at hl 1 rfl) ?_
      refine lv_goto (tgt := 89) hx hb d_Lk_decodeOctets_85 (by decide) ?_
      cases h
      exact o_ri C hP hS d_Lk_decodeOctets_89
  · replace h := o_tt c1 h
    refine lv_iconst (v := (-1:Int32)) hx hb d_Lk_decodeOctets_10 (by decide) ?_
    cases h
    exact o_ri (v := (-1:Int32)) C hP hS d_Lk_decodeOctets_11
set_option maxHeartbeats 4000000 in
set_option maxRecDepth 100000 in
theorem w_Lk_decode_j107 {E : (Nat → Prop) → State → Heap → Prop} {p : Program} {l : Launch} {e : Env} {s : State} {m : MethodId} {args : Array Value} {below : List Frame} {meth : Method} {c : Code} {D : va_G} {ad kd sd vd xd : Nat → Nat} {ca : Nat → ClassId} {A : Nat → Prop} {Q : State → Prop} (hE : o_EK E kd sd vd xd) (C : o_Cx E p s m args meth c D o_cls (o_tys ca) "SchemaJudge$Links" b_Lk_decode (some .boolean) 6 cc_Lk_decode A) (hDD : ∀ (rt : Nat) (Sj : SSJ) (T0 : STx) (T1 : STx) (Rd : SRd) (Pg : SPg) (Pt : SPt) (Mk : SMk) (Lk : SLk) (Ck : SCk) (Jd : SJd) (Ld : SLd) (Pr : SPr), va_D A (o_cw ad ca rt Sj T0 T1 Rd Pg Pt Mk Lk Ck Jd Ld Pr)) (n : Nat) (u21_x1 : Int32) (u21_x2 : Int32) (u21_T0 : STx) (u21_Sj : SSJ) (u21_T1 : STx) (u21_Rd : SRd) (u21_Pg : SPg) (u21_Pt : SPt) (u21_Mk : SMk) (u21_Ck : SCk) (u21_Jd : SJd) (u21_Ld : SLd) (u21_Pr : SPr) (u21_rt : Nat) (x3 : Int32) (x5 : Int32) (y1 : Int32) (y2 : Int32) (Lk : SLk) {q : Nat × Int32 × SLk} (h : m_Lk_decode_j107 n u21_x1 u21_x2 x3 x5 y1 y2 u21_T0 Lk = some q) (h0 : q.1 = 0 → o_At p l e rm_Lk_decode s m args below meth c Q o_cls D A 6 21 [] (o_cw ad ca u21_rt u21_Sj u21_T0 u21_T1 u21_Rd u21_Pg u21_Pt u21_Mk q.2.2 u21_Ck u21_Jd u21_Ld u21_Pr) [(0, .ref (ad 43)), (1, .int u21_x1), (2, .int u21_x2), (3, .int q.2.1)]) (h1 : q.1 ≠ 0 → (if q.1 = 1 then o_At p l e rm_Lk_decode s m args below meth c Q o_cls D A 6 89 [] (o_cw ad ca u21_rt u21_Sj u21_T0 u21_T1 u21_Rd u21_Pg u21_Pt u21_Mk q.2.2 u21_Ck u21_Jd u21_Ld u21_Pr) [] else o_At p l e rm_Lk_decode s m args below meth c Q o_cls D A 6 138 [] (o_cw ad ca u21_rt u21_Sj u21_T0 u21_T1 u21_Rd u21_Pg u21_Pt u21_Mk q.2.2 u21_Ck u21_Jd u21_Ld u21_Pr) [])) : o_At p l e rm_Lk_decode s m args below meth c Q o_cls D A 6 107 [.int y2, .int y1, .ref (ad 43)] (o_cw ad ca u21_rt u21_Sj u21_T0 u21_T1 u21_Rd u21_Pg u21_Pt u21_Mk Lk u21_Ck u21_Jd u21_Ld u21_Pr) [(0, .ref (ad 43)), (1, .int u21_x1), (2, .int u21_x2), (3, .int x3), (5, .int x5)] := by
  unfold m_Lk_decode_j107 at h
  intro H locs ls hP hS hl
  have C0 := C
  obtain ⟨hx, hb, -, -, -, hown, hts, hK, -, -⟩ := C0
  refine lv_iadd hx hb d_Lk_decode_107 ?_
  refine o_put (v := .int (y1 + y2)) (ty := .int) (w1 := (o_cw ad ca u21_rt u21_Sj u21_T0 u21_T1 u21_Rd u21_Pg u21_Pt u21_Mk (Lk_mk (Lk_characters Lk) (Lk_length Lk) (y1 + y2)) u21_Ck u21_Jd u21_Ld u21_Pr)) C in_Lk t_Lk t_Lk_ok n_Lk hP (hDD _ _ _ _ _ _ _ _ _ _ _ _ _) hS 43 cw_43 rfl 4 (by decide) k_1_235 rfl rfl (by decide +kernel) rfl rfl (Nat.le_of_ble_eq_true rfl) rfl d_Lk_decode_108 (fun H locs hP hS => ?_)
  refine lv_aload_n hx hb d_Lk_decode_111 rfl (lv_at hl 0 rfl) ?_
  refine o_get (v := .ref (ad 44)) C in_Lk hP 43 cw_43 rfl 2 (by decide) k_1_233 rfl rfl d_Lk_decode_112 ?_
  refine lv_aload_n hx hb d_Lk_decode_115 rfl (lv_at hl 0 rfl) ?_
  refine o_get (v := .int (Lk_length Lk)) C in_Lk hP 43 cw_43 rfl 3 (by decide) k_1_234 rfl rfl d_Lk_decode_116 ?_
  refine lv_iload hx hb d_Lk_decode_119 (lv_at hl 4 rfl) ?_
  obtain ⟨g7, h⟩ := o_gd_some h
  refine o_iast (f := (Lk_characters Lk)) (w1 := (o_cw ad ca u21_rt u21_Sj u21_T0 u21_T1 u21_Rd u21_Pg u21_Pt u21_Mk (Lk_mk (upd (Lk_characters Lk) (Lk_length Lk).toNatClampNeg x5) (Lk_length Lk) (y1 + y2)) u21_Ck u21_Jd u21_Ld u21_Pr)) C hP (hDD _ _ _ _ _ _ _ _ _ _ _ _ _) hS 44 36 cw_44 rfl g7 rfl d_Lk_decode_121 (fun H locs hP hS => ?_)
  refine lv_aload_n hx hb d_Lk_decode_122 rfl (lv_at hl 0 rfl) ?_
  refine lv_dup hx hb d_Lk_decode_123 rfl ?_
  refine o_get (v := .int (Lk_length Lk)) C in_Lk hP 43 cw_43 rfl 3 (by decide) k_1_234 rfl rfl d_Lk_decode_124 ?_
  refine lv_iconst (v := (1:Int32)) hx hb d_Lk_decode_127 (by decide) ?_
  refine lv_iadd hx hb d_Lk_decode_128 ?_
  refine o_put (v := .int ((Lk_length Lk) + (1:Int32))) (ty := .int) (w1 := (o_cw ad ca u21_rt u21_Sj u21_T0 u21_T1 u21_Rd u21_Pg u21_Pt u21_Mk (Lk_mk (upd (Lk_characters Lk) (Lk_length Lk).toNatClampNeg x5) ((Lk_length Lk) + (1:Int32)) (y1 + y2)) u21_Ck u21_Jd u21_Ld u21_Pr)) C in_Lk t_Lk t_Lk_ok n_Lk hP (hDD _ _ _ _ _ _ _ _ _ _ _ _ _) hS 43 cw_43 rfl 3 (by decide) k_1_234 rfl rfl (by decide +kernel) rfl rfl (Nat.le_of_ble_eq_true rfl) rfl d_Lk_decode_129 (fun H locs hP hS => ?_)
  obtain ⟨x3_132, ex3_132⟩ : ∃ y : Int32, y = x3 + (1:Int32) := ⟨_, rfl⟩
  replace h := o_nm_at ex3_132 h
  refine lv_iinc (v := x3_132) (lv' := [(3, .int x3_132), (0, .ref (ad 43)), (1, .int u21_x1), (2, .int u21_x2), (5, .int x5)]) hx hb d_Lk_decode_132 hl (k := 3) rfl (by rw [ex3_132]; rfl) (by decide) rfl (fun ls hl => ?_)
  refine lv_goto (tgt := 21) hx hb d_Lk_decode_135 (by decide) ?_
  cases h
  exact h0 rfl _ _ _ hP hS (lv_sub hl [1, 2, 3, 0] rfl)
set_option maxHeartbeats 4000000 in
set_option maxRecDepth 100000 in
theorem w_Lk_decode_j81 {E : (Nat → Prop) → State → Heap → Prop} {p : Program} {l : Launch} {e : Env} {s : State} {m : MethodId} {args : Array Value} {below : List Frame} {meth : Method} {c : Code} {D : va_G} {ad kd sd vd xd : Nat → Nat} {ca : Nat → ClassId} {A : Nat → Prop} {Q : State → Prop} (hE : o_EK E kd sd vd xd) (C : o_Cx E p s m args meth c D o_cls (o_tys ca) "SchemaJudge$Links" b_Lk_decode (some .boolean) 6 cc_Lk_decode A) (hDD : ∀ (rt : Nat) (Sj : SSJ) (T0 : STx) (T1 : STx) (Rd : SRd) (Pg : SPg) (Pt : SPt) (Mk : SMk) (Lk : SLk) (Ck : SCk) (Jd : SJd) (Ld : SLd) (Pr : SPr), va_D A (o_cw ad ca rt Sj T0 T1 Rd Pg Pt Mk Lk Ck Jd Ld Pr)) (n : Nat) (u21_x1 : Int32) (u21_x2 : Int32) (u21_T0 : STx) (u21_Sj : SSJ) (u21_T1 : STx) (u21_Rd : SRd) (u21_Pg : SPg) (u21_Pt : SPt) (u21_Mk : SMk) (u21_Ck : SCk) (u21_Jd : SJd) (u21_Ld : SLd) (u21_Pr : SPr) (u21_rt : Nat) (x3 : Int32) (x4 : Int32) (y0 : Int32) (Lk : SLk) {q : Nat × Int32 × SLk} (h : m_Lk_decode_j81 n u21_x1 u21_x2 x3 x4 y0 u21_T0 Lk = some q) (h0 : q.1 = 0 → o_At p l e rm_Lk_decode s m args below meth c Q o_cls D A 6 21 [] (o_cw ad ca u21_rt u21_Sj u21_T0 u21_T1 u21_Rd u21_Pg u21_Pt u21_Mk q.2.2 u21_Ck u21_Jd u21_Ld u21_Pr) [(0, .ref (ad 43)), (1, .int u21_x1), (2, .int u21_x2), (3, .int q.2.1)]) (h1 : q.1 ≠ 0 → (if q.1 = 1 then o_At p l e rm_Lk_decode s m args below meth c Q o_cls D A 6 89 [] (o_cw ad ca u21_rt u21_Sj u21_T0 u21_T1 u21_Rd u21_Pg u21_Pt u21_Mk q.2.2 u21_Ck u21_Jd u21_Ld u21_Pr) [] else o_At p l e rm_Lk_decode s m args below meth c Q o_cls D A 6 138 [] (o_cw ad ca u21_rt u21_Sj u21_T0 u21_T1 u21_Rd u21_Pg u21_Pt u21_Mk q.2.2 u21_Ck u21_Jd u21_Ld u21_Pr) [])) : o_At p l e rm_Lk_decode s m args below meth c Q o_cls D A 6 81 [.int y0] (o_cw ad ca u21_rt u21_Sj u21_T0 u21_T1 u21_Rd u21_Pg u21_Pt u21_Mk Lk u21_Ck u21_Jd u21_Ld u21_Pr) [(0, .ref (ad 43)), (1, .int u21_x1), (2, .int u21_x2), (3, .int x3), (4, .int x4)] := by
  unfold m_Lk_decode_j81 at h
  intro H locs ls hP hS hl
  have C0 := C
  obtain ⟨hx, hb, -, -, -, hown, hts, hK, -, -⟩ := C0
  refine lv_istore (lv' := [(5, .int y0), (0, .ref (ad 43)), (1, .int u21_x1), (2, .int u21_x2), (3, .int x3), (4, .int x4)]) hx hb d_Lk_decode_81 hl (by decide) rfl (fun ls hl => ?_)
  refine lv_iload hx hb d_Lk_decode_83 (lv_at hl 0 rfl) ?_
  refine lv_iconst (v := (-1:Int32)) hx hb d_Lk_decode_85 (by decide) ?_
  refine lv_icmp_ne (tgt := 91) hx hb d_Lk_decode_86 (by decide) (fun c5 => ?_) (fun c5 => ?_)
  · replace h := o_ff c5 h
    refine lv_aload_n hx hb d_Lk_decode_91 rfl (lv_at hl 1 rfl) ?_
    refine lv_dup hx hb d_Lk_decode_92 rfl ?_
    refine o_get (v := .int (Lk_position Lk)) C in_Lk hP 43 cw_43 rfl 4 (by decide) k_1_235 rfl rfl d_Lk_decode_93 ?_
    refine lv_iload hx hb d_Lk_decode_96 (lv_at hl 5 rfl) ?_
    refine lv_iconst (v := (-1:Int32)) hx hb d_Lk_decode_98 (by decide) ?_
    refine lv_icmp_ne (tgt := 106) hx hb d_Lk_decode_99 (by decide) (fun c6 => ?_) (fun c6 => ?_)
    · replace h := o_ff c6 h
      refine lv_iconst (v := (3:Int32)) hx hb d_Lk_decode_106 (by decide) ?_
      exact w_Lk_decode_j107 hE C hDD n u21_x1 u21_x2 u21_T0 u21_Sj u21_T1 u21_Rd u21_Pg u21_Pt u21_Mk u21_Ck u21_Jd u21_Ld u21_Pr u21_rt x3 y0 (Lk_position Lk) (3:Int32) Lk h h0 h1 _ _ _ hP hS (lv_sub hl [1, 2, 3, 4, 0] rfl)
    · replace h := o_tt c6 h
      refine lv_iconst (v := (1:Int32)) hx hb d_Lk_decode_102 (by decide) ?_
      refine lv_goto (tgt := 107) hx hb d_Lk_decode_103 (by decide) ?_
      exact w_Lk_decode_j107 hE C hDD n u21_x1 u21_x2 u21_T0 u21_Sj u21_T1 u21_Rd u21_Pg u21_Pt u21_Mk u21_Ck u21_Jd u21_Ld u21_Pr u21_rt x3 y0 (Lk_position Lk) (1:Int32) Lk h h0 h1 _ _ _ hP hS (lv_sub hl [1, 2, 3, 4, 0] rfl)
  · replace h := o_tt c5 h
    cases h
    exact h1 (Nat.succ_ne_zero 0) _ _ _ hP hS (lv_sub hl [] rfl)
set_option maxHeartbeats 4000000 in
set_option maxRecDepth 100000 in
theorem w_Lk_decode_b21 {E : (Nat → Prop) → State → Heap → Prop} {p : Program} {l : Launch} {e : Env} {s : State} {m : MethodId} {args : Array Value} {below : List Frame} {meth : Method} {c : Code} {D : va_G} {ad kd sd vd xd : Nat → Nat} {ca : Nat → ClassId} {A : Nat → Prop} {Q : State → Prop} (hE : o_EK E kd sd vd xd) (C : o_Cx E p s m args meth c D o_cls (o_tys ca) "SchemaJudge$Links" b_Lk_decode (some .boolean) 6 cc_Lk_decode A) (hDD : ∀ (rt : Nat) (Sj : SSJ) (T0 : STx) (T1 : STx) (Rd : SRd) (Pg : SPg) (Pt : SPt) (Mk : SMk) (Lk : SLk) (Ck : SCk) (Jd : SJd) (Ld : SLd) (Pr : SPr), va_D A (o_cw ad ca rt Sj T0 T1 Rd Pg Pt Mk Lk Ck Jd Ld Pr)) (n : Nat) (u21_x1 : Int32) (u21_x2 : Int32) (u21_T0 : STx) (u21_Sj : SSJ) (u21_T1 : STx) (u21_Rd : SRd) (u21_Pg : SPg) (u21_Pt : SPt) (u21_Mk : SMk) (u21_Ck : SCk) (u21_Jd : SJd) (u21_Ld : SLd) (u21_Pr : SPr) (u21_rt : Nat) (z : Int32 × SLk) (q : Nat × Int32 × SLk) (h : m_Lk_decode_b21 n u21_x1 u21_x2 u21_T0 z = some q) (h0 : q.1 = 0 → o_At p l e rm_Lk_decode s m args below meth c Q o_cls D A 6 21 [] (o_cw ad ca u21_rt u21_Sj u21_T0 u21_T1 u21_Rd u21_Pg u21_Pt u21_Mk q.2.2 u21_Ck u21_Jd u21_Ld u21_Pr) [(0, .ref (ad 43)), (1, .int u21_x1), (2, .int u21_x2), (3, .int q.2.1)]) (h1 : q.1 ≠ 0 → (if q.1 = 1 then o_At p l e rm_Lk_decode s m args below meth c Q o_cls D A 6 89 [] (o_cw ad ca u21_rt u21_Sj u21_T0 u21_T1 u21_Rd u21_Pg u21_Pt u21_Mk q.2.2 u21_Ck u21_Jd u21_Ld u21_Pr) [] else o_At p l e rm_Lk_decode s m args below meth c Q o_cls D A 6 138 [] (o_cw ad ca u21_rt u21_Sj u21_T0 u21_T1 u21_Rd u21_Pg u21_Pt u21_Mk q.2.2 u21_Ck u21_Jd u21_Ld u21_Pr) [])) : o_At p l e rm_Lk_decode s m args below meth c Q o_cls D A 6 21 [] (o_cw ad ca u21_rt u21_Sj u21_T0 u21_T1 u21_Rd u21_Pg u21_Pt u21_Mk z.2 u21_Ck u21_Jd u21_Ld u21_Pr) [(0, .ref (ad 43)), (1, .int u21_x1), (2, .int u21_x2), (3, .int z.1)] := by
  unfold m_Lk_decode_b21 at h
  intro H locs ls hP hS hl
  have C0 := C
  obtain ⟨hx, hb, -, -, -, hown, hts, hK, -, -⟩ := C0
  refine lv_iload_n hx hb d_Lk_decode_21 rfl (lv_at hl 3 rfl) ?_
  refine lv_iload_n hx hb d_Lk_decode_22 rfl (lv_at hl 2 rfl) ?_
  refine lv_icmp_ge (tgt := 138) hx hb d_Lk_decode_23 (by decide) (fun c1 => ?_) (fun c1 => ?_)
  · replace h := o_tt c1 h
    cases h
    exact h1 (Nat.succ_ne_zero 1) _ _ _ hP hS (lv_sub hl [] rfl)
  · replace h := o_ff c1 h
    refine lv_aload_n hx hb d_Lk_decode_26 rfl (lv_at hl 0 rfl) ?_
    refine o_get (v := .int (Lk_position z.2)) C in_Lk hP 43 cw_43 rfl 4 (by decide) k_1_235 rfl rfl d_Lk_decode_27 ?_
    refine lv_iload_n hx hb d_Lk_decode_30 rfl (lv_at hl 2 rfl) ?_
    refine lv_icmp_ge (tgt := 138) hx hb d_Lk_decode_31 (by decide) (fun c2 => ?_) (fun c2 => ?_)
    · replace h := o_tt c2 h
      cases h
      exact h1 (Nat.succ_ne_zero 1) _ _ _ hP hS (lv_sub hl [] rfl)
    · replace h := o_ff c2 h
      refine lv_aload_n hx hb d_Lk_decode_34 rfl (lv_at hl 0 rfl) ?_
      refine o_get (v := .int (Lk_length z.2)) C in_Lk hP 43 cw_43 rfl 3 (by decide) k_1_234 rfl rfl d_Lk_decode_35 ?_
      refine lv_aload_n hx hb d_Lk_decode_38 rfl (lv_at hl 0 rfl) ?_
      refine o_get (v := .ref (ad 44)) C in_Lk hP 43 cw_43 rfl 2 (by decide) k_1_233 rfl rfl d_Lk_decode_39 ?_
      refine va_alen (v := (4000:Int32)) hx hb hK hP 44 36 cw_44 rfl rfl d_Lk_decode_42 ?_
      refine lv_icmp_ge (tgt := 138) hx hb d_Lk_decode_43 (by decide) (fun c3 => ?_) (fun c3 => ?_)
      · replace h := o_tt c3 h
        cases h
        exact h1 (Nat.succ_ne_zero 1) _ _ _ hP hS (lv_sub hl [] rfl)
      · replace h := o_ff c3 h
        refine lv_aload_n hx hb d_Lk_decode_46 rfl (lv_at hl 0 rfl) ?_
        refine lv_iload_n hx hb d_Lk_decode_47 rfl (lv_at hl 1 rfl) ?_
        obtain ⟨q2, hq2, h⟩ := o_bd_some h
        refine o_V (st1 := [.int q2]) (w1 := (o_cw ad ca u21_rt u21_Sj u21_T0 u21_T1 u21_Rd u21_Pg u21_Pt u21_Mk z.2 u21_Ck u21_Jd u21_Ld u21_Pr)) hE.1 C (c_Lk_octetAt hE l u21_x1 u21_T0 z.2 u21_Sj u21_T1 u21_Rd u21_Pg u21_Pt u21_Mk u21_Ck u21_Jd u21_Ld u21_Pr u21_rt hq2) hP (hDD _ _ _ _ _ _ _ _ _ _ _ _ _) hS hl.1 rfl cw_43 k_5_150 k_5_152 k_s_48 k_1_8 k_5_153 hv_Lk_octetAt rfl rfl ⟨(Nat.le_of_ble_eq_true rfl), (Nat.le_of_ble_eq_true rfl)⟩ rfl (Nat.le_of_ble_eq_true rfl) ⟨Nat.zero_le _, Nat.zero_le _⟩ rfl d_Lk_decode_48 (fun H locs hP hS => ?_)
        refine lv_istore (lv' := [(4, .int q2), (0, .ref (ad 43)), (1, .int u21_x1), (2, .int u21_x2), (3, .int z.1)]) hx hb d_Lk_decode_51 hl (by decide) rfl (fun ls hl => ?_)
        refine lv_iload hx hb d_Lk_decode_53 (lv_at hl 0 rfl) ?_
        refine lv_iconst (v := (-1:Int32)) hx hb d_Lk_decode_55 (by decide) ?_
        refine lv_icmp_ne (tgt := 74) hx hb d_Lk_decode_56 (by decide) (fun c4 => ?_) (fun c4 => ?_)
        · replace h := o_ff c4 h
          refine lv_aload_n hx hb d_Lk_decode_74 rfl (lv_at hl 1 rfl) ?_
          refine lv_iload_n hx hb d_Lk_decode_75 rfl (lv_at hl 2 rfl) ?_
          refine lv_iload hx hb d_Lk_decode_76 (lv_at hl 0 rfl) ?_
          obtain ⟨q3, hq3, h⟩ := o_bd_some h
          refine o_V (st1 := [.int q3.1]) (w1 := (o_cw ad ca u21_rt u21_Sj u21_T0 u21_T1 u21_Rd u21_Pg u21_Pt u21_Mk q3.2 u21_Ck u21_Jd u21_Ld u21_Pr)) hE.1 C (c_Lk_decodeOctets hE l n u21_x1 q2 u21_T0 z.2 u21_Sj u21_T1 u21_Rd u21_Pg u21_Pt u21_Mk u21_Ck u21_Jd u21_Ld u21_Pr u21_rt hq3) hP (hDD _ _ _ _ _ _ _ _ _ _ _ _ _) hS hl.1 rfl cw_43 k_5_156 k_5_158 k_s_49 k_1_8 k_5_159 hv_Lk_decodeOctets rfl rfl ⟨(Nat.le_of_ble_eq_true rfl), (Nat.le_of_ble_eq_true rfl)⟩ rfl (Nat.le_of_ble_eq_true rfl) ⟨Nat.zero_le _, Nat.zero_le _⟩ rfl d_Lk_decode_78 (fun H locs hP hS => ?_)
          exact w_Lk_decode_j81 hE C hDD n u21_x1 u21_x2 u21_T0 u21_Sj u21_T1 u21_Rd u21_Pg u21_Pt u21_Mk u21_Ck u21_Jd u21_Ld u21_Pr u21_rt z.1 q2 q3.1 q3.2 h h0 h1 _ _ _ hP hS (lv_sub hl [1, 2, 3, 4, 0] rfl)
        · replace h := o_tt c4 h
          refine lv_aload_n hx hb d_Lk_decode_59 rfl (lv_at hl 1 rfl) ?_
          refine o_get (v := .ref (ad 1)) C in_Lk hP 43 cw_43 rfl 0 (by decide) k_1_231 rfl rfl d_Lk_decode_60 ?_
          refine lv_iload_n hx hb d_Lk_decode_63 rfl (lv_at hl 2 rfl) ?_
          refine lv_aload_n hx hb d_Lk_decode_64 rfl (lv_at hl 1 rfl) ?_
          refine o_get (v := .int (Lk_position z.2)) C in_Lk hP 43 cw_43 rfl 4 (by decide) k_1_235 rfl rfl d_Lk_decode_65 ?_
          obtain ⟨q4, hq4, h⟩ := o_bd_some h
          refine o_V (st1 := [.int q4]) (w1 := (o_cw ad ca u21_rt u21_Sj u21_T0 u21_T1 u21_Rd u21_Pg u21_Pt u21_Mk z.2 u21_Ck u21_Jd u21_Ld u21_Pr)) hE.1 C (c_Tx_cell_0 hE l u21_x1 (Lk_position z.2) u21_T0 u21_Sj u21_T1 u21_Rd u21_Pg u21_Pt u21_Mk z.2 u21_Ck u21_Jd u21_Ld u21_Pr u21_rt hq4) hP (hDD _ _ _ _ _ _ _ _ _ _ _ _ _) hS hl.1 rfl cw_1 k_5_154 k_4_117 k_4_118 k_1_2 k_4_119 hv_Tx_cell rfl rfl ⟨(Nat.le_of_ble_eq_true rfl), (Nat.le_of_ble_eq_true rfl)⟩ rfl (Nat.le_of_ble_eq_true rfl) ⟨Nat.zero_le _, Nat.zero_le _⟩ rfl d_Lk_decode_68 (fun H locs hP hS => ?_)
          refine lv_goto (tgt := 81) hx hb d_Lk_decode_71 (by decide) ?_
          exact w_Lk_decode_j81 hE C hDD n u21_x1 u21_x2 u21_T0 u21_Sj u21_T1 u21_Rd u21_Pg u21_Pt u21_Mk u21_Ck u21_Jd u21_Ld u21_Pr u21_rt z.1 q2 q4 z.2 h h0 h1 _ _ _ hP hS (lv_sub hl [1, 2, 3, 4, 0] rfl)
set_option maxHeartbeats 4000000 in
set_option maxRecDepth 100000 in
theorem c_Lk_decode {E : (Nat → Prop) → State → Heap → Prop} {D : va_G} {ad kd sd vd xd : Nat → Nat} {ca : Nat → ClassId} (hE : o_EK E kd sd vd xd) (l : Launch) (n : Nat) (x1 : Int32) (T0 : STx) (Lk : SLk) (Sj : SSJ) (T1 : STx) (Rd : SRd) (Pg : SPg) (Pt : SPt) (Mk : SMk) (Ck : SCk) (Jd : SJd) (Ld : SLd) (Pr : SPr) (rt : Nat) {r : Int32 × SLk} (h : m_Lk_decode n x1 T0 Lk = some r) : o_Cn E l D o_cls (o_tys ca) y_Lk_decode cc_Lk_decode rm_Lk_decode [.ref (ad 43), .int x1] (o_cw ad ca rt Sj T0 T1 Rd Pg Pt Mk Lk Ck Jd Ld Pr) (o_cw ad ca rt Sj T0 T1 Rd Pg Pt Mk r.2 Ck Jd Ld Pr) (some (.int r.1)) := by
  refine o_Cn_of (by decide) (Nat.le_of_ble_eq_true rfl) ?_
  intro p e s m below meth c A ls C hD hP hS hl
  have hDD : ∀ (rt : Nat) (Sj : SSJ) (T0 : STx) (T1 : STx) (Rd : SRd) (Pg : SPg) (Pt : SPt) (Mk : SMk) (Lk : SLk) (Ck : SCk) (Jd : SJd) (Ld : SLd) (Pr : SPr), va_D A (o_cw ad ca rt Sj T0 T1 Rd Pg Pt Mk Lk Ck Jd Ld Pr) := fun _ _ _ _ _ _ _ _ _ _ _ _ _ => o_D_map hD rfl
  have hl : lv_has ls 6 [(0, .ref (ad 43)), (1, .int x1)] := hl
  unfold m_Lk_decode at h
  have C0 := C
  obtain ⟨hx, hb, -, -, -, hown, hts, hK, -, -⟩ := C0
  refine lv_aload_n hx hb d_Lk_decode_0 rfl (lv_at hl 0 rfl) ?_
  refine o_get (v := .ref (ad 1)) C in_Lk hP 43 cw_43 rfl 0 (by decide) k_1_231 rfl rfl d_Lk_decode_1 ?_
  refine lv_iload_n hx hb d_Lk_decode_4 rfl (lv_at hl 1 rfl) ?_
  obtain ⟨q1, hq1, h⟩ := o_bd_some h
  refine o_V (st1 := [.int q1]) (w1 := (o_cw ad ca rt Sj T0 T1 Rd Pg Pt Mk Lk Ck Jd Ld Pr)) hE.1 C (c_Tx_size_0 hE l x1 T0 Sj T1 Rd Pg Pt Mk Lk Ck Jd Ld Pr rt hq1) hP (hDD _ _ _ _ _ _ _ _ _ _ _ _ _) hS hl.1 rfl cw_1 k_5_149 k_3_215 k_3_216 k_1_2 k_3_217 hv_Tx_size rfl rfl ⟨(Nat.le_of_ble_eq_true rfl), (Nat.le_of_ble_eq_true rfl)⟩ rfl (Nat.le_of_ble_eq_true rfl) ⟨Nat.zero_le _, Nat.zero_le _⟩ rfl d_Lk_decode_5 (fun H locs hP hS => ?_)
  refine lv_istore_n (lv' := [(2, .int q1), (0, .ref (ad 43)), (1, .int x1)]) hx hb d_Lk_decode_8 rfl hl (by decide) rfl (fun ls hl => ?_)
  refine lv_aload_n hx hb d_Lk_decode_9 rfl (lv_at hl 1 rfl) ?_
  refine lv_iconst (v := (0:Int32)) hx hb d_Lk_decode_10 (by decide) ?_
  refine o_put (v := .int (0:Int32)) (ty := .int) (w1 := (o_cw ad ca rt Sj T0 T1 Rd Pg Pt Mk (Lk_mk (Lk_characters Lk) (0:Int32) (Lk_position Lk)) Ck Jd Ld Pr)) C in_Lk t_Lk t_Lk_ok n_Lk hP (hDD _ _ _ _ _ _ _ _ _ _ _ _ _) hS 43 cw_43 rfl 3 (by decide) k_1_234 rfl rfl (by decide +kernel) rfl rfl (Nat.le_of_ble_eq_true rfl) rfl d_Lk_decode_11 (fun H locs hP hS => ?_)
  refine lv_aload_n hx hb d_Lk_decode_14 rfl (lv_at hl 1 rfl) ?_
  refine lv_iconst (v := (0:Int32)) hx hb d_Lk_decode_15 (by decide) ?_
  refine o_put (v := .int (0:Int32)) (ty := .int) (w1 := (o_cw ad ca rt Sj T0 T1 Rd Pg Pt Mk (Lk_mk (Lk_characters Lk) (0:Int32) (0:Int32)) Ck Jd Ld Pr)) C in_Lk t_Lk t_Lk_ok n_Lk hP (hDD _ _ _ _ _ _ _ _ _ _ _ _ _) hS 43 cw_43 rfl 4 (by decide) k_1_235 rfl rfl (by decide +kernel) rfl rfl (Nat.le_of_ble_eq_true rfl) rfl d_Lk_decode_16 (fun H locs hP hS => ?_)
  refine lv_iconst (v := (0:Int32)) hx hb d_Lk_decode_19 (by decide) ?_
  refine lv_istore_n (lv' := [(3, .int (0:Int32)), (2, .int q1), (0, .ref (ad 43)), (1, .int x1)]) hx hb d_Lk_decode_20 rfl hl (by decide) rfl (fun ls hl => ?_)
  obtain ⟨q5, hq5, h⟩ := o_bd_some h
  refine o_sim2 (AH := fun zz => o_At p l e rm_Lk_decode s m _ below meth c _ o_cls D A 6 21 [] (o_cw ad ca rt Sj T0 T1 Rd Pg Pt Mk zz.2 Ck Jd Ld Pr) [(0, .ref (ad 43)), (1, .int x1), (2, .int q1), (3, .int zz.1)]) (AX := fun qq => if qq.1 = 1 then o_At p l e rm_Lk_decode s m _ below meth c _ o_cls D A 6 89 [] (o_cw ad ca rt Sj T0 T1 Rd Pg Pt Mk qq.2.2 Ck Jd Ld Pr) [] else o_At p l e rm_Lk_decode s m _ below meth c _ o_cls D A 6 138 [] (o_cw ad ca rt Sj T0 T1 Rd Pg Pt Mk qq.2.2 Ck Jd Ld Pr) []) (fun zz qq h h0 h1 => w_Lk_decode_b21 hE C hDD n x1 q1 T0 Sj T1 Rd Pg Pt Mk Ck Jd Ld Pr rt zz qq h h0 h1) n _ q5 hq5 ?_ _ _ _ hP hS (lv_sub hl [2, 3, 1, 0] rfl)
  by_cases c8 : q5.1 = 1
  · replace h := o_tt c8 h
    refine o_ip c8 ?_
    intro H locs ls hP hS hl
    refine lv_iconst (v := (0:Int32)) hx hb d_Lk_decode_89 (by decide) ?_
    cases h
    exact o_rz (v := (0:Int32)) C o_nar0 hP hS d_Lk_decode_90
  replace h := o_ff c8 h
  refine o_in_ c8 ?_
  intro H locs ls hP hS hl
  refine lv_iconst (v := (1:Int32)) hx hb d_Lk_decode_138 (by decide) ?_
  cases h
  exact o_rz (v := (1:Int32)) C o_nar1 hP hS d_Lk_decode_139
set_option maxHeartbeats 4000000 in
set_option maxRecDepth 100000 in
theorem w_Lk_placeNumber_b38 {E : (Nat → Prop) → State → Heap → Prop} {p : Program} {l : Launch} {e : Env} {s : State} {m : MethodId} {args : Array Value} {below : List Frame} {meth : Method} {c : Code} {D : va_G} {ad kd sd vd xd : Nat → Nat} {ca : Nat → ClassId} {A : Nat → Prop} {Q : State → Prop} (hE : o_EK E kd sd vd xd) (C : o_Cx E p s m args meth c D o_cls (o_tys ca) "SchemaJudge$Links" b_Lk_placeNumber (some .int) 6 cc_Lk_placeNumber A) (hDD : ∀ (rt : Nat) (Sj : SSJ) (T0 : STx) (T1 : STx) (Rd : SRd) (Pg : SPg) (Pt : SPt) (Mk : SMk) (Lk : SLk) (Ck : SCk) (Jd : SJd) (Ld : SLd) (Pr : SPr), va_D A (o_cw ad ca rt Sj T0 T1 Rd Pg Pt Mk Lk Ck Jd Ld Pr)) (n : Nat) (u38_x2 : Int32) (u38_Lk : SLk) (u38_Sj : SSJ) (u38_T0 : STx) (u38_T1 : STx) (u38_Rd : SRd) (u38_Pg : SPg) (u38_Pt : SPt) (u38_Mk : SMk) (u38_Ck : SCk) (u38_Jd : SJd) (u38_Ld : SLd) (u38_Pr : SPr) (u38_rt : Nat) (z : Int32 × Int32) (q : Nat × Int32 × Int32) (h : m_Lk_placeNumber_b38 n u38_x2 u38_Lk z = some q) (h0 : q.1 = 0 → o_At p l e rm_Lk_placeNumber s m args below meth c Q o_cls D A 6 38 [] (o_cw ad ca u38_rt u38_Sj u38_T0 u38_T1 u38_Rd u38_Pg u38_Pt u38_Mk u38_Lk u38_Ck u38_Jd u38_Ld u38_Pr) [(0, .ref (ad 43)), (2, .int u38_x2), (4, .int q.2.1), (5, .int q.2.2)]) (h1 : q.1 ≠ 0 → (if q.1 = 1 then o_At p l e rm_Lk_placeNumber s m args below meth c Q o_cls D A 6 57 [] (o_cw ad ca u38_rt u38_Sj u38_T0 u38_T1 u38_Rd u38_Pg u38_Pt u38_Mk u38_Lk u38_Ck u38_Jd u38_Ld u38_Pr) [] else o_At p l e rm_Lk_placeNumber s m args below meth c Q o_cls D A 6 83 [] (o_cw ad ca u38_rt u38_Sj u38_T0 u38_T1 u38_Rd u38_Pg u38_Pt u38_Mk u38_Lk u38_Ck u38_Jd u38_Ld u38_Pr) [(4, .int q.2.1)])) : o_At p l e rm_Lk_placeNumber s m args below meth c Q o_cls D A 6 38 [] (o_cw ad ca u38_rt u38_Sj u38_T0 u38_T1 u38_Rd u38_Pg u38_Pt u38_Mk u38_Lk u38_Ck u38_Jd u38_Ld u38_Pr) [(0, .ref (ad 43)), (2, .int u38_x2), (4, .int z.1), (5, .int z.2)] := by
  unfold m_Lk_placeNumber_b38 at h
  intro H locs ls hP hS hl
  have C0 := C
  obtain ⟨hx, hb, -, -, -, hown, hts, hK, -, -⟩ := C0
  refine lv_iload hx hb d_Lk_placeNumber_38 (lv_at hl 3 rfl) ?_
  refine lv_iload_n hx hb d_Lk_placeNumber_40 rfl (lv_at hl 1 rfl) ?_
  refine lv_icmp_ge (tgt := 83) hx hb d_Lk_placeNumber_41 (by decide) (fun c4 => ?_) (fun c4 => ?_)
  · replace h := o_tt c4 h
    cases h
    exact h1 (Nat.succ_ne_zero 1) _ _ _ hP hS (lv_sub hl [2] rfl)
  · replace h := o_ff c4 h
    refine lv_aload_n hx hb d_Lk_placeNumber_44 rfl (lv_at hl 0 rfl) ?_
    refine o_get (v := .ref (ad 44)) C in_Lk hP 43 cw_43 rfl 2 (by decide) k_1_233 rfl rfl d_Lk_placeNumber_45 ?_
    refine lv_iload hx hb d_Lk_placeNumber_48 (lv_at hl 3 rfl) ?_
    obtain ⟨g5, h⟩ := o_gd_some h
    refine o_iald (f := (Lk_characters u38_Lk)) C hP 44 36 cw_44 rfl g5 d_Lk_placeNumber_50 ?_
    obtain ⟨q1, hq1, h⟩ := o_bd_some h
    refine o_SN (st1 := [.int q1]) (w1 := (o_cw ad ca u38_rt u38_Sj u38_T0 u38_T1 u38_Rd u38_Pg u38_Pt u38_Mk u38_Lk u38_Ck u38_Jd u38_Ld u38_Pr)) hE.1 C (c_SJ_isDigit hE l ((Lk_characters u38_Lk) z.2.toNatClampNeg) u38_Sj u38_T0 u38_T1 u38_Rd u38_Pg u38_Pt u38_Mk u38_Lk u38_Ck u38_Jd u38_Ld u38_Pr u38_rt hq1) hP (hDD _ _ _ _ _ _ _ _ _ _ _ _ _) hS hl.1 (hE.2.1 _ _ _ C.2.2.2.2.2.2.2.2.2 _ nw_19) k_3_46 k_1_1 k_3_47 hs_SJ_isDigit rfl rfl ⟨(Nat.le_of_ble_eq_true rfl), (Nat.le_of_ble_eq_true rfl)⟩ rfl (Nat.le_of_ble_eq_true rfl) ⟨Nat.zero_le _, Nat.zero_le _⟩ rfl d_Lk_placeNumber_51 (fun H locs hP hS => ?_)
    refine lv_if_ne (tgt := 59) hx hb d_Lk_placeNumber_54 (by decide) (fun c6 => ?_) (fun c6 => ?_)
    · replace h := o_ff c6 h
      refine lv_iload hx hb d_Lk_placeNumber_59 (lv_at hl 2 rfl) ?_
      refine lv_bipush (v := (10:Int32)) hx hb d_Lk_placeNumber_61 (by decide) ?_
      refine lv_imul hx hb d_Lk_placeNumber_63 ?_
      refine lv_aload_n hx hb d_Lk_placeNumber_64 rfl (lv_at hl 0 rfl) ?_
      refine o_get (v := .ref (ad 44)) C in_Lk hP 43 cw_43 rfl 2 (by decide) k_1_233 rfl rfl d_Lk_placeNumber_65 ?_
      refine lv_iload hx hb d_Lk_placeNumber_68 (lv_at hl 3 rfl) ?_
      obtain ⟨g7, h⟩ := o_gd_some h
      refine o_iald (f := (Lk_characters u38_Lk)) C hP 44 36 cw_44 rfl g7 d_Lk_placeNumber_70 ?_
      refine lv_iadd hx hb d_Lk_placeNumber_71 ?_
      refine lv_bipush (v := (48:Int32)) hx hb d_Lk_placeNumber_72 (by decide) ?_
      refine lv_isub hx hb d_Lk_placeNumber_74 ?_
      refine lv_topi (fun x4_75 ex4_75 => ?_)
      replace h := o_nm_at ex4_75 h
      refine lv_istore (lv' := [(4, .int x4_75), (0, .ref (ad 43)), (2, .int u38_x2), (5, .int z.2)]) hx hb d_Lk_placeNumber_75 hl (by decide) rfl (fun ls hl => ?_)
      obtain ⟨x5_77, ex5_77⟩ : ∃ y : Int32, y = z.2 + (1:Int32) := ⟨_, rfl⟩
      replace h := o_nm_at ex5_77 h
      refine lv_iinc (v := x5_77) (lv' := [(5, .int x5_77), (4, .int x4_75), (0, .ref (ad 43)), (2, .int u38_x2)]) hx hb d_Lk_placeNumber_77 hl (k := 3) rfl (by rw [ex5_77]; rfl) (by decide) rfl (fun ls hl => ?_)
      refine lv_goto (tgt := 38) hx hb d_Lk_placeNumber_80 (by decide) ?_
      cases h
      exact h0 rfl _ _ _ hP hS (lv_sub hl [2, 3, 1, 0] rfl)
    · replace h := o_tt c6 h
      cases h
      exact h1 (Nat.succ_ne_zero 0) _ _ _ hP hS (lv_sub hl [] rfl)
set_option maxHeartbeats 4000000 in
set_option maxRecDepth 100000 in
theorem w_Lk_placeNumber_j32 {E : (Nat → Prop) → State → Heap → Prop} {p : Program} {l : Launch} {e : Env} {s : State} {m : MethodId} {args : Array Value} {below : List Frame} {meth : Method} {c : Code} {D : va_G} {ad kd sd vd xd : Nat → Nat} {ca : Nat → ClassId} {A : Nat → Prop} (hE : o_EK E kd sd vd xd) (C : o_Cx E p s m args meth c D o_cls (o_tys ca) "SchemaJudge$Links" b_Lk_placeNumber (some .int) 6 cc_Lk_placeNumber A) (hDD : ∀ (rt : Nat) (Sj : SSJ) (T0 : STx) (T1 : STx) (Rd : SRd) (Pg : SPg) (Pt : SPt) (Mk : SMk) (Lk : SLk) (Ck : SCk) (Jd : SJd) (Ld : SLd) (Pr : SPr), va_D A (o_cw ad ca rt Sj T0 T1 Rd Pg Pt Mk Lk Ck Jd Ld Pr)) (n : Nat) (x1 : Int32) (x2 : Int32) (Lk : SLk) (Sj : SSJ) (T0 : STx) (T1 : STx) (Rd : SRd) (Pg : SPg) (Pt : SPt) (Mk : SMk) (Ck : SCk) (Jd : SJd) (Ld : SLd) (Pr : SPr) (rt : Nat) {r : Int32} (h : m_Lk_placeNumber_j32 n x1 x2 Lk = some r) : o_At p l e rm_Lk_placeNumber s m args below meth c (MQ below (o_Qx D o_cls (some (.int r)) (o_cw ad ca rt Sj T0 T1 Rd Pg Pt Mk Lk Ck Jd Ld Pr) A) args s 0 0 A) o_cls D A 6 32 [] (o_cw ad ca rt Sj T0 T1 Rd Pg Pt Mk Lk Ck Jd Ld Pr) [(0, .ref (ad 43)), (1, .int x1), (2, .int x2)] := by
  unfold m_Lk_placeNumber_j32 at h
  intro H locs ls hP hS hl
  have C0 := C
  obtain ⟨hx, hb, -, -, -, hown, hts, hK, -, -⟩ := C0
  refine lv_iconst (v := (0:Int32)) hx hb d_Lk_placeNumber_32 (by decide) ?_
  refine lv_istore (lv' := [(4, .int (0:Int32)), (0, .ref (ad 43)), (1, .int x1), (2, .int x2)]) hx hb d_Lk_placeNumber_33 hl (by decide) rfl (fun ls hl => ?_)
  refine lv_iload_n hx hb d_Lk_placeNumber_35 rfl (lv_at hl 2 rfl) ?_
  refine lv_istore (lv' := [(5, .int x1), (4, .int (0:Int32)), (0, .ref (ad 43)), (1, .int x1), (2, .int x2)]) hx hb d_Lk_placeNumber_36 hl (by decide) rfl (fun ls hl => ?_)
  obtain ⟨q2, hq2, h⟩ := o_bd_some h
  refine o_sim2 (AH := fun zz => o_At p l e rm_Lk_placeNumber s m args below meth c _ o_cls D A 6 38 [] (o_cw ad ca rt Sj T0 T1 Rd Pg Pt Mk Lk Ck Jd Ld Pr) [(0, .ref (ad 43)), (2, .int x2), (4, .int zz.1), (5, .int zz.2)]) (AX := fun qq => if qq.1 = 1 then o_At p l e rm_Lk_placeNumber s m args below meth c _ o_cls D A 6 57 [] (o_cw ad ca rt Sj T0 T1 Rd Pg Pt Mk Lk Ck Jd Ld Pr) [] else o_At p l e rm_Lk_placeNumber s m args below meth c _ o_cls D A 6 83 [] (o_cw ad ca rt Sj T0 T1 Rd Pg Pt Mk Lk Ck Jd Ld Pr) [(4, .int qq.2.1)]) (fun zz qq h h0 h1 => w_Lk_placeNumber_b38 hE C hDD n x2 Lk Sj T0 T1 Rd Pg Pt Mk Ck Jd Ld Pr rt zz qq h h0 h1) n _ q2 hq2 ?_ _ _ _ hP hS (lv_sub hl [2, 4, 1, 0] rfl)
  by_cases c8 : q2.1 = 1
  · replace h := o_tt c8 h
    refine o_ip c8 ?_
    intro H locs ls hP hS hl
    refine lv_iconst (v := (-1:Int32)) hx hb d_Lk_placeNumber_57 (by decide) ?_
    cases h
    exact o_ri (v := (-1:Int32)) C hP hS d_Lk_placeNumber_58
  replace h := o_ff c8 h
  refine o_in_ c8 ?_
  intro H locs ls hP hS hl
  refine lv_iload hx hb d_Lk_placeNumber_83 (lv_at hl 0 rfl) ?_
  cases h
  exact o_ri C hP hS d_Lk_placeNumber_85
set_option maxHeartbeats 4000000 in
set_option maxRecDepth 100000 in
theorem c_Lk_placeNumber {E : (Nat → Prop) → State → Heap → Prop} {D : va_G} {ad kd sd vd xd : Nat → Nat} {ca : Nat → ClassId} (hE : o_EK E kd sd vd xd) (l : Launch) (n : Nat) (x1 : Int32) (x2 : Int32) (Lk : SLk) (Sj : SSJ) (T0 : STx) (T1 : STx) (Rd : SRd) (Pg : SPg) (Pt : SPt) (Mk : SMk) (Ck : SCk) (Jd : SJd) (Ld : SLd) (Pr : SPr) (rt : Nat) {r : Int32} (h : m_Lk_placeNumber n x1 x2 Lk = some r) : o_Cn E l D o_cls (o_tys ca) y_Lk_placeNumber cc_Lk_placeNumber rm_Lk_placeNumber [.ref (ad 43), .int x1, .int x2] (o_cw ad ca rt Sj T0 T1 Rd Pg Pt Mk Lk Ck Jd Ld Pr) (o_cw ad ca rt Sj T0 T1 Rd Pg Pt Mk Lk Ck Jd Ld Pr) (some (.int r)) := by
  refine o_Cn_of (by decide) (Nat.le_of_ble_eq_true rfl) ?_
  intro p e s m below meth c A ls C hD hP hS hl
  have hDD : ∀ (rt : Nat) (Sj : SSJ) (T0 : STx) (T1 : STx) (Rd : SRd) (Pg : SPg) (Pt : SPt) (Mk : SMk) (Lk : SLk) (Ck : SCk) (Jd : SJd) (Ld : SLd) (Pr : SPr), va_D A (o_cw ad ca rt Sj T0 T1 Rd Pg Pt Mk Lk Ck Jd Ld Pr) := fun _ _ _ _ _ _ _ _ _ _ _ _ _ => o_D_map hD rfl
  have hl : lv_has ls 6 [(0, .ref (ad 43)), (1, .int x1), (2, .int x2)] := hl
  unfold m_Lk_placeNumber at h
  have C0 := C
  obtain ⟨hx, hb, -, -, -, hown, hts, hK, -, -⟩ := C0
  refine lv_iload_n hx hb d_Lk_placeNumber_0 rfl (lv_at hl 2 rfl) ?_
  refine lv_iload_n hx hb d_Lk_placeNumber_1 rfl (lv_at hl 1 rfl) ?_
  refine lv_isub hx hb d_Lk_placeNumber_2 ?_
  refine lv_topi (fun x3_3 ex3_3 => ?_)
  replace h := o_nm_at ex3_3 h
  refine lv_istore_n (lv' := [(3, .int x3_3), (0, .ref (ad 43)), (1, .int x1), (2, .int x2)]) hx hb d_Lk_placeNumber_3 rfl hl (by decide) rfl (fun ls hl => ?_)
  refine lv_iload_n hx hb d_Lk_placeNumber_4 rfl (lv_at hl 0 rfl) ?_
  refine lv_iconst (v := (1:Int32)) hx hb d_Lk_placeNumber_5 (by decide) ?_
  refine lv_icmp_lt (tgt := 30) hx hb d_Lk_placeNumber_6 (by decide) (fun c1 => ?_) (fun c1 => ?_)
  · replace h := o_tt c1 h
    refine lv_iconst (v := (-1:Int32)) hx hb d_Lk_placeNumber_30 (by decide) ?_
    cases h
    exact o_ri (v := (-1:Int32)) C hP hS d_Lk_placeNumber_31
  · replace h := o_ff c1 h
    refine lv_iload_n hx hb d_Lk_placeNumber_9 rfl (lv_at hl 0 rfl) ?_
    refine lv_iconst (v := (2:Int32)) hx hb d_Lk_placeNumber_10 (by decide) ?_
    refine lv_icmp_gt (tgt := 30) hx hb d_Lk_placeNumber_11 (by decide) (fun c2 => ?_) (fun c2 => ?_)
    · replace h := o_tt c2 h
      refine lv_iconst (v := (-1:Int32)) hx hb d_Lk_placeNumber_30 (by decide) ?_
      cases h
      exact o_ri (v := (-1:Int32)) C hP hS d_Lk_placeNumber_31
    · replace h := o_ff c2 h
      refine lv_iload_n hx hb d_Lk_placeNumber_14 rfl (lv_at hl 0 rfl) ?_
      refine lv_iconst (v := (2:Int32)) hx hb d_Lk_placeNumber_15 (by decide) ?_
      refine lv_icmp_ne (tgt := 32) hx hb d_Lk_placeNumber_16 (by decide) (fun c3 => ?_) (fun c3 => ?_)
      · replace h := o_ff c3 h
        exact w_Lk_placeNumber_j32 hE C hDD n x1 x2 Lk Sj T0 T1 Rd Pg Pt Mk Ck Jd Ld Pr rt h _ _ _ hP hS (lv_sub hl [1, 2, 3] rfl)
      · replace h := o_tt c3 h
        refine lv_aload_n hx hb d_Lk_placeNumber_19 rfl (lv_at hl 1 rfl) ?_
        refine o_get (v := .ref (ad 44)) C in_Lk hP 43 cw_43 rfl 2 (by decide) k_1_233 rfl rfl d_Lk_placeNumber_20 ?_
        refine lv_iload_n hx hb d_Lk_placeNumber_23 rfl (lv_at hl 2 rfl) ?_
        obtain ⟨g9, h⟩ := o_gd_some h
        refine o_iald (f := (Lk_characters Lk)) C hP 44 36 cw_44 rfl g9 d_Lk_placeNumber_24 ?_
        refine lv_bipush (v := (48:Int32)) hx hb d_Lk_placeNumber_25 (by decide) ?_
        refine lv_icmp_ne (tgt := 32) hx hb d_Lk_placeNumber_27 (by decide) (fun c10 => ?_) (fun c10 => ?_)
        · replace h := o_ff c10 h
          exact w_Lk_placeNumber_j32 hE C hDD n x1 x2 Lk Sj T0 T1 Rd Pg Pt Mk Ck Jd Ld Pr rt h _ _ _ hP hS (lv_sub hl [1, 2, 3] rfl)
        · replace h := o_tt c10 h
          refine lv_iconst (v := (-1:Int32)) hx hb d_Lk_placeNumber_30 (by decide) ?_
          cases h
          exact o_ri (v := (-1:Int32)) C hP hS d_Lk_placeNumber_31
set_option maxHeartbeats 4000000 in
set_option maxRecDepth 100000 in
theorem w_Lk_isNamed_j82 {E : (Nat → Prop) → State → Heap → Prop} {p : Program} {l : Launch} {e : Env} {s : State} {m : MethodId} {args : Array Value} {below : List Frame} {meth : Method} {c : Code} {D : va_G} {ad kd sd vd xd : Nat → Nat} {ca : Nat → ClassId} {A : Nat → Prop} {Q : State → Prop} (hE : o_EK E kd sd vd xd) (C : o_Cx E p s m args meth c D o_cls (o_tys ca) "SchemaJudge$Links" b_Lk_isNamed (some .boolean) 8 cc_Lk_isNamed A) (hDD : ∀ (rt : Nat) (Sj : SSJ) (T0 : STx) (T1 : STx) (Rd : SRd) (Pg : SPg) (Pt : SPt) (Mk : SMk) (Lk : SLk) (Ck : SCk) (Jd : SJd) (Ld : SLd) (Pr : SPr), va_D A (o_cw ad ca rt Sj T0 T1 Rd Pg Pt Mk Lk Ck Jd Ld Pr)) (n : Nat) (u6_x1 : Int32) (u6_x3 : Int32) (u6_T0 : STx) (u6_Lk : SLk) (u6_Sj : SSJ) (u6_T1 : STx) (u6_Rd : SRd) (u6_Pg : SPg) (u6_Pt : SPt) (u6_Mk : SMk) (u6_Ck : SCk) (u6_Jd : SJd) (u6_Ld : SLd) (u6_Pr : SPr) (u6_rt : Nat) (x4 : Int32) (x5 : Int32) (x6 : Int32) {q : Nat × Int32 × Int32} (h : m_Lk_isNamed_j82 n u6_x1 u6_x3 x4 x5 x6 u6_T0 u6_Lk = some q) (h0 : q.1 = 0 → o_At p l e rm_Lk_isNamed s m args below meth c Q o_cls D A 8 6 [] (o_cw ad ca u6_rt u6_Sj u6_T0 u6_T1 u6_Rd u6_Pg u6_Pt u6_Mk u6_Lk u6_Ck u6_Jd u6_Ld u6_Pr) [(0, .ref (ad 43)), (1, .int u6_x1), (3, .int u6_x3), (4, .int q.2.1), (5, .int q.2.2)]) (h1 : q.1 ≠ 0 → (if q.1 = 1 then o_At p l e rm_Lk_isNamed s m args below meth c Q o_cls D A 8 64 [] (o_cw ad ca u6_rt u6_Sj u6_T0 u6_T1 u6_Rd u6_Pg u6_Pt u6_Mk u6_Lk u6_Ck u6_Jd u6_Ld u6_Pr) [] else if q.1 = 2 then o_At p l e rm_Lk_isNamed s m args below meth c Q o_cls D A 8 110 [] (o_cw ad ca u6_rt u6_Sj u6_T0 u6_T1 u6_Rd u6_Pg u6_Pt u6_Mk u6_Lk u6_Ck u6_Jd u6_Ld u6_Pr) [] else o_At p l e rm_Lk_isNamed s m args below meth c Q o_cls D A 8 121 [] (o_cw ad ca u6_rt u6_Sj u6_T0 u6_T1 u6_Rd u6_Pg u6_Pt u6_Mk u6_Lk u6_Ck u6_Jd u6_Ld u6_Pr) [(0, .ref (ad 43)), (1, .int u6_x1), (4, .int q.2.1)])) : o_At p l e rm_Lk_isNamed s m args below meth c Q o_cls D A 8 82 [] (o_cw ad ca u6_rt u6_Sj u6_T0 u6_T1 u6_Rd u6_Pg u6_Pt u6_Mk u6_Lk u6_Ck u6_Jd u6_Ld u6_Pr) [(0, .ref (ad 43)), (1, .int u6_x1), (3, .int u6_x3), (4, .int x4), (5, .int x5), (6, .int x6)] := by
  unfold m_Lk_isNamed_j82 at h
  intro H locs ls hP hS hl
  have C0 := C
  obtain ⟨hx, hb, -, -, -, hown, hts, hK, -, -⟩ := C0
  refine lv_iload hx hb d_Lk_isNamed_82 (lv_at hl 3 rfl) ?_
  refine lv_aload_n hx hb d_Lk_isNamed_84 rfl (lv_at hl 0 rfl) ?_
  refine o_get (v := .ref (ad 1)) C in_Lk hP 43 cw_43 rfl 0 (by decide) k_1_231 rfl rfl d_Lk_isNamed_85 ?_
  refine lv_iload_n hx hb d_Lk_isNamed_88 rfl (lv_at hl 1 rfl) ?_
  obtain ⟨q1, hq1, h⟩ := o_bd_some h
  refine o_V (st1 := [.int q1, .int x4]) (w1 := (o_cw ad ca u6_rt u6_Sj u6_T0 u6_T1 u6_Rd u6_Pg u6_Pt u6_Mk u6_Lk u6_Ck u6_Jd u6_Ld u6_Pr)) hE.1 C (c_Tx_size_0 hE l u6_x1 u6_T0 u6_Sj u6_T1 u6_Rd u6_Pg u6_Pt u6_Mk u6_Lk u6_Ck u6_Jd u6_Ld u6_Pr u6_rt hq1) hP (hDD _ _ _ _ _ _ _ _ _ _ _ _ _) hS hl.1 rfl cw_1 k_5_149 k_3_215 k_3_216 k_1_2 k_3_217 hv_Tx_size rfl rfl ⟨(Nat.le_of_ble_eq_true rfl), (Nat.le_of_ble_eq_true rfl)⟩ rfl (Nat.le_of_ble_eq_true rfl) ⟨Nat.zero_le _, Nat.zero_le _⟩ rfl d_Lk_isNamed_89 (fun H locs hP hS => ?_)
  refine lv_icmp_ge (tgt := 110) hx hb d_Lk_isNamed_92 (by decide) (fun c4 => ?_) (fun c4 => ?_)
  · replace h := o_tt c4 h
    cases h
    exact h1 (Nat.succ_ne_zero 1) _ _ _ hP hS (lv_sub hl [] rfl)
  · replace h := o_ff c4 h
    refine lv_aload_n hx hb d_Lk_isNamed_95 rfl (lv_at hl 0 rfl) ?_
    refine o_get (v := .ref (ad 1)) C in_Lk hP 43 cw_43 rfl 0 (by decide) k_1_231 rfl rfl d_Lk_isNamed_96 ?_
    refine lv_iload_n hx hb d_Lk_isNamed_99 rfl (lv_at hl 1 rfl) ?_
    refine lv_iload hx hb d_Lk_isNamed_100 (lv_at hl 3 rfl) ?_
    obtain ⟨q2, hq2, h⟩ := o_bd_some h
    refine o_V (st1 := [.int q2]) (w1 := (o_cw ad ca u6_rt u6_Sj u6_T0 u6_T1 u6_Rd u6_Pg u6_Pt u6_Mk u6_Lk u6_Ck u6_Jd u6_Ld u6_Pr)) hE.1 C (c_Tx_cell_0 hE l u6_x1 x4 u6_T0 u6_Sj u6_T1 u6_Rd u6_Pg u6_Pt u6_Mk u6_Lk u6_Ck u6_Jd u6_Ld u6_Pr u6_rt hq2) hP (hDD _ _ _ _ _ _ _ _ _ _ _ _ _) hS hl.1 rfl cw_1 k_5_154 k_4_117 k_4_118 k_1_2 k_4_119 hv_Tx_cell rfl rfl ⟨(Nat.le_of_ble_eq_true rfl), (Nat.le_of_ble_eq_true rfl)⟩ rfl (Nat.le_of_ble_eq_true rfl) ⟨Nat.zero_le _, Nat.zero_le _⟩ rfl d_Lk_isNamed_102 (fun H locs hP hS => ?_)
    refine lv_iload hx hb d_Lk_isNamed_105 (lv_at hl 5 rfl) ?_
    refine lv_icmp_eq (tgt := 112) hx hb d_Lk_isNamed_107 (by decide) (fun c5 => ?_) (fun c5 => ?_)
    · replace h := o_tt c5 h
      obtain ⟨x4_112, ex4_112⟩ : ∃ y : Int32, y = x4 + (1:Int32) := ⟨_, rfl⟩
      replace h := o_nm_at ex4_112 h
      refine lv_iinc (v := x4_112) (lv' := [(4, .int x4_112), (0, .ref (ad 43)), (1, .int u6_x1), (3, .int u6_x3), (5, .int x5), (6, .int x6)]) hx hb d_Lk_isNamed_112 hl (k := 3) rfl (by rw [ex4_112]; rfl) (by decide) rfl (fun ls hl => ?_)
      obtain ⟨x5_115, ex5_115⟩ : ∃ y : Int32, y = x5 + (1:Int32) := ⟨_, rfl⟩
      replace h := o_nm_at ex5_115 h
      refine lv_iinc (v := x5_115) (lv' := [(5, .int x5_115), (4, .int x4_112), (0, .ref (ad 43)), (1, .int u6_x1), (3, .int u6_x3), (6, .int x6)]) hx hb d_Lk_isNamed_115 hl (k := 4) rfl (by rw [ex5_115]; rfl) (by decide) rfl (fun ls hl => ?_)
      refine lv_goto (tgt := 6) hx hb d_Lk_isNamed_118 (by decide) ?_
      cases h
      exact h0 rfl _ _ _ hP hS (lv_sub hl [2, 3, 4, 1, 0] rfl)
    · replace h := o_ff c5 h
      cases h
      exact h1 (Nat.succ_ne_zero 1) _ _ _ hP hS (lv_sub hl [] rfl)
set_option maxHeartbeats 4000000 in
set_option maxRecDepth 100000 in
theorem w_Lk_isNamed_j66 {E : (Nat → Prop) → State → Heap → Prop} {p : Program} {l : Launch} {e : Env} {s : State} {m : MethodId} {args : Array Value} {below : List Frame} {meth : Method} {c : Code} {D : va_G} {ad kd sd vd xd : Nat → Nat} {ca : Nat → ClassId} {A : Nat → Prop} {Q : State → Prop} (hE : o_EK E kd sd vd xd) (C : o_Cx E p s m args meth c D o_cls (o_tys ca) "SchemaJudge$Links" b_Lk_isNamed (some .boolean) 8 cc_Lk_isNamed A) (hDD : ∀ (rt : Nat) (Sj : SSJ) (T0 : STx) (T1 : STx) (Rd : SRd) (Pg : SPg) (Pt : SPt) (Mk : SMk) (Lk : SLk) (Ck : SCk) (Jd : SJd) (Ld : SLd) (Pr : SPr), va_D A (o_cw ad ca rt Sj T0 T1 Rd Pg Pt Mk Lk Ck Jd Ld Pr)) (n : Nat) (u6_x1 : Int32) (u6_x3 : Int32) (u6_T0 : STx) (u6_Lk : SLk) (u6_Sj : SSJ) (u6_T1 : STx) (u6_Rd : SRd) (u6_Pg : SPg) (u6_Pt : SPt) (u6_Mk : SMk) (u6_Ck : SCk) (u6_Jd : SJd) (u6_Ld : SLd) (u6_Pr : SPr) (u6_rt : Nat) (x4 : Int32) (x5 : Int32) (x7 : Int32) {q : Nat × Int32 × Int32} (h : m_Lk_isNamed_j66 n u6_x1 u6_x3 x4 x5 x7 u6_T0 u6_Lk = some q) (h0 : q.1 = 0 → o_At p l e rm_Lk_isNamed s m args below meth c Q o_cls D A 8 6 [] (o_cw ad ca u6_rt u6_Sj u6_T0 u6_T1 u6_Rd u6_Pg u6_Pt u6_Mk u6_Lk u6_Ck u6_Jd u6_Ld u6_Pr) [(0, .ref (ad 43)), (1, .int u6_x1), (3, .int u6_x3), (4, .int q.2.1), (5, .int q.2.2)]) (h1 : q.1 ≠ 0 → (if q.1 = 1 then o_At p l e rm_Lk_isNamed s m args below meth c Q o_cls D A 8 64 [] (o_cw ad ca u6_rt u6_Sj u6_T0 u6_T1 u6_Rd u6_Pg u6_Pt u6_Mk u6_Lk u6_Ck u6_Jd u6_Ld u6_Pr) [] else if q.1 = 2 then o_At p l e rm_Lk_isNamed s m args below meth c Q o_cls D A 8 110 [] (o_cw ad ca u6_rt u6_Sj u6_T0 u6_T1 u6_Rd u6_Pg u6_Pt u6_Mk u6_Lk u6_Ck u6_Jd u6_Ld u6_Pr) [] else o_At p l e rm_Lk_isNamed s m args below meth c Q o_cls D A 8 121 [] (o_cw ad ca u6_rt u6_Sj u6_T0 u6_T1 u6_Rd u6_Pg u6_Pt u6_Mk u6_Lk u6_Ck u6_Jd u6_Ld u6_Pr) [(0, .ref (ad 43)), (1, .int u6_x1), (4, .int q.2.1)])) : o_At p l e rm_Lk_isNamed s m args below meth c Q o_cls D A 8 66 [] (o_cw ad ca u6_rt u6_Sj u6_T0 u6_T1 u6_Rd u6_Pg u6_Pt u6_Mk u6_Lk u6_Ck u6_Jd u6_Ld u6_Pr) [(0, .ref (ad 43)), (1, .int u6_x1), (3, .int u6_x3), (4, .int x4), (5, .int x5), (7, .int x7)] := by
  unfold m_Lk_isNamed_j66 at h
  intro H locs ls hP hS hl
  have C0 := C
  obtain ⟨hx, hb, -, -, -, hown, hts, hK, -, -⟩ := C0
  refine lv_iload hx hb d_Lk_isNamed_66 (lv_at hl 5 rfl) ?_
  refine lv_bipush (v := (48:Int32)) hx hb d_Lk_isNamed_68 (by decide) ?_
  refine lv_icmp_ne (tgt := 78) hx hb d_Lk_isNamed_70 (by decide) (fun c8 => ?_) (fun c8 => ?_)
  · replace h := o_ff c8 h
    refine lv_bipush (v := (47:Int32)) hx hb d_Lk_isNamed_78 (by decide) ?_
    refine lv_istore (lv' := [(6, .int (47:Int32)), (0, .ref (ad 43)), (1, .int u6_x1), (3, .int u6_x3), (4, .int x4), (5, .int x5), (7, .int x7)]) hx hb d_Lk_isNamed_80 hl (by decide) rfl (fun ls hl => ?_)
    exact w_Lk_isNamed_j82 hE C hDD n u6_x1 u6_x3 u6_T0 u6_Lk u6_Sj u6_T1 u6_Rd u6_Pg u6_Pt u6_Mk u6_Ck u6_Jd u6_Ld u6_Pr u6_rt x4 x5 (47:Int32) h h0 h1 _ _ _ hP hS (lv_sub hl [1, 2, 3, 4, 5, 0] rfl)
  · replace h := o_tt c8 h
    refine lv_bipush (v := (126:Int32)) hx hb d_Lk_isNamed_73 (by decide) ?_
    refine lv_goto (tgt := 80) hx hb d_Lk_isNamed_75 (by decide) ?_
    refine lv_istore (lv' := [(6, .int (126:Int32)), (0, .ref (ad 43)), (1, .int u6_x1), (3, .int u6_x3), (4, .int x4), (5, .int x5), (7, .int x7)]) hx hb d_Lk_isNamed_80 hl (by decide) rfl (fun ls hl => ?_)
    exact w_Lk_isNamed_j82 hE C hDD n u6_x1 u6_x3 u6_T0 u6_Lk u6_Sj u6_T1 u6_Rd u6_Pg u6_Pt u6_Mk u6_Ck u6_Jd u6_Ld u6_Pr u6_rt x4 x5 (126:Int32) h h0 h1 _ _ _ hP hS (lv_sub hl [1, 2, 3, 4, 5, 0] rfl)
set_option maxHeartbeats 4000000 in
set_option maxRecDepth 100000 in
theorem w_Lk_isNamed_j48 {E : (Nat → Prop) → State → Heap → Prop} {p : Program} {l : Launch} {e : Env} {s : State} {m : MethodId} {args : Array Value} {below : List Frame} {meth : Method} {c : Code} {D : va_G} {ad kd sd vd xd : Nat → Nat} {ca : Nat → ClassId} {A : Nat → Prop} {Q : State → Prop} (hE : o_EK E kd sd vd xd) (C : o_Cx E p s m args meth c D o_cls (o_tys ca) "SchemaJudge$Links" b_Lk_isNamed (some .boolean) 8 cc_Lk_isNamed A) (hDD : ∀ (rt : Nat) (Sj : SSJ) (T0 : STx) (T1 : STx) (Rd : SRd) (Pg : SPg) (Pt : SPt) (Mk : SMk) (Lk : SLk) (Ck : SCk) (Jd : SJd) (Ld : SLd) (Pr : SPr), va_D A (o_cw ad ca rt Sj T0 T1 Rd Pg Pt Mk Lk Ck Jd Ld Pr)) (n : Nat) (u6_x1 : Int32) (u6_x3 : Int32) (u6_T0 : STx) (u6_Lk : SLk) (u6_Sj : SSJ) (u6_T1 : STx) (u6_Rd : SRd) (u6_Pg : SPg) (u6_Pt : SPt) (u6_Mk : SMk) (u6_Ck : SCk) (u6_Jd : SJd) (u6_Ld : SLd) (u6_Pr : SPr) (u6_rt : Nat) (x4 : Int32) (x5 : Int32) (y0 : Int32) {q : Nat × Int32 × Int32} (h : m_Lk_isNamed_j48 n u6_x1 u6_x3 x4 x5 y0 u6_T0 u6_Lk = some q) (h0 : q.1 = 0 → o_At p l e rm_Lk_isNamed s m args below meth c Q o_cls D A 8 6 [] (o_cw ad ca u6_rt u6_Sj u6_T0 u6_T1 u6_Rd u6_Pg u6_Pt u6_Mk u6_Lk u6_Ck u6_Jd u6_Ld u6_Pr) [(0, .ref (ad 43)), (1, .int u6_x1), (3, .int u6_x3), (4, .int q.2.1), (5, .int q.2.2)]) (h1 : q.1 ≠ 0 → (if q.1 = 1 then o_At p l e rm_Lk_isNamed s m args below meth c Q o_cls D A 8 64 [] (o_cw ad ca u6_rt u6_Sj u6_T0 u6_T1 u6_Rd u6_Pg u6_Pt u6_Mk u6_Lk u6_Ck u6_Jd u6_Ld u6_Pr) [] else if q.1 = 2 then o_At p l e rm_Lk_isNamed s m args below meth c Q o_cls D A 8 110 [] (o_cw ad ca u6_rt u6_Sj u6_T0 u6_T1 u6_Rd u6_Pg u6_Pt u6_Mk u6_Lk u6_Ck u6_Jd u6_Ld u6_Pr) [] else o_At p l e rm_Lk_isNamed s m args below meth c Q o_cls D A 8 121 [] (o_cw ad ca u6_rt u6_Sj u6_T0 u6_T1 u6_Rd u6_Pg u6_Pt u6_Mk u6_Lk u6_Ck u6_Jd u6_Ld u6_Pr) [(0, .ref (ad 43)), (1, .int u6_x1), (4, .int q.2.1)])) : o_At p l e rm_Lk_isNamed s m args below meth c Q o_cls D A 8 48 [.int y0] (o_cw ad ca u6_rt u6_Sj u6_T0 u6_T1 u6_Rd u6_Pg u6_Pt u6_Mk u6_Lk u6_Ck u6_Jd u6_Ld u6_Pr) [(0, .ref (ad 43)), (1, .int u6_x1), (3, .int u6_x3), (4, .int x4), (5, .int x5)] := by
  unfold m_Lk_isNamed_j48 at h
  intro H locs ls hP hS hl
  have C0 := C
  obtain ⟨hx, hb, -, -, -, hown, hts, hK, -, -⟩ := C0
  refine lv_istore (lv' := [(7, .int y0), (0, .ref (ad 43)), (1, .int u6_x1), (3, .int u6_x3), (4, .int x4), (5, .int x5)]) hx hb d_Lk_isNamed_48 hl (by decide) rfl (fun ls hl => ?_)
  refine lv_iload hx hb d_Lk_isNamed_50 (lv_at hl 0 rfl) ?_
  refine lv_bipush (v := (48:Int32)) hx hb d_Lk_isNamed_52 (by decide) ?_
  refine lv_icmp_eq (tgt := 66) hx hb d_Lk_isNamed_54 (by decide) (fun c7 => ?_) (fun c7 => ?_)
  · replace h := o_tt c7 h
    exact w_Lk_isNamed_j66 hE C hDD n u6_x1 u6_x3 u6_T0 u6_Lk u6_Sj u6_T1 u6_Rd u6_Pg u6_Pt u6_Mk u6_Ck u6_Jd u6_Ld u6_Pr u6_rt x4 x5 y0 h h0 h1 _ _ _ hP hS (lv_sub hl [1, 2, 3, 4, 5, 0] rfl)
  · replace h := o_ff c7 h
    refine lv_iload hx hb d_Lk_isNamed_57 (lv_at hl 0 rfl) ?_
    refine lv_bipush (v := (49:Int32)) hx hb d_Lk_isNamed_59 (by decide) ?_
    refine lv_icmp_eq (tgt := 66) hx hb d_Lk_isNamed_61 (by decide) (fun c9 => ?_) (fun c9 => ?_)
    · replace h := o_tt c9 h
      exact w_Lk_isNamed_j66 hE C hDD n u6_x1 u6_x3 u6_T0 u6_Lk u6_Sj u6_T1 u6_Rd u6_Pg u6_Pt u6_Mk u6_Ck u6_Jd u6_Ld u6_Pr u6_rt x4 x5 y0 h h0 h1 _ _ _ hP hS (lv_sub hl [1, 2, 3, 4, 5, 0] rfl)
    · replace h := o_ff c9 h
      cases h
      exact h1 (Nat.succ_ne_zero 0) _ _ _ hP hS (lv_sub hl [] rfl)
set_option maxHeartbeats 4000000 in
set_option maxRecDepth 100000 in
theorem w_Lk_isNamed_b6 {E : (Nat → Prop) → State → Heap → Prop} {p : Program} {l : Launch} {e : Env} {s : State} {m : MethodId} {args : Array Value} {below : List Frame} {meth : Method} {c : Code} {D : va_G} {ad kd sd vd xd : Nat → Nat} {ca : Nat → ClassId} {A : Nat → Prop} {Q : State → Prop} (hE : o_EK E kd sd vd xd) (C : o_Cx E p s m args meth c D o_cls (o_tys ca) "SchemaJudge$Links" b_Lk_isNamed (some .boolean) 8 cc_Lk_isNamed A) (hDD : ∀ (rt : Nat) (Sj : SSJ) (T0 : STx) (T1 : STx) (Rd : SRd) (Pg : SPg) (Pt : SPt) (Mk : SMk) (Lk : SLk) (Ck : SCk) (Jd : SJd) (Ld : SLd) (Pr : SPr), va_D A (o_cw ad ca rt Sj T0 T1 Rd Pg Pt Mk Lk Ck Jd Ld Pr)) (n : Nat) (u6_x1 : Int32) (u6_x3 : Int32) (u6_T0 : STx) (u6_Lk : SLk) (u6_Sj : SSJ) (u6_T1 : STx) (u6_Rd : SRd) (u6_Pg : SPg) (u6_Pt : SPt) (u6_Mk : SMk) (u6_Ck : SCk) (u6_Jd : SJd) (u6_Ld : SLd) (u6_Pr : SPr) (u6_rt : Nat) (z : Int32 × Int32) (q : Nat × Int32 × Int32) (h : m_Lk_isNamed_b6 n u6_x1 u6_x3 u6_T0 u6_Lk z = some q) (h0 : q.1 = 0 → o_At p l e rm_Lk_isNamed s m args below meth c Q o_cls D A 8 6 [] (o_cw ad ca u6_rt u6_Sj u6_T0 u6_T1 u6_Rd u6_Pg u6_Pt u6_Mk u6_Lk u6_Ck u6_Jd u6_Ld u6_Pr) [(0, .ref (ad 43)), (1, .int u6_x1), (3, .int u6_x3), (4, .int q.2.1), (5, .int q.2.2)]) (h1 : q.1 ≠ 0 → (if q.1 = 1 then o_At p l e rm_Lk_isNamed s m args below meth c Q o_cls D A 8 64 [] (o_cw ad ca u6_rt u6_Sj u6_T0 u6_T1 u6_Rd u6_Pg u6_Pt u6_Mk u6_Lk u6_Ck u6_Jd u6_Ld u6_Pr) [] else if q.1 = 2 then o_At p l e rm_Lk_isNamed s m args below meth c Q o_cls D A 8 110 [] (o_cw ad ca u6_rt u6_Sj u6_T0 u6_T1 u6_Rd u6_Pg u6_Pt u6_Mk u6_Lk u6_Ck u6_Jd u6_Ld u6_Pr) [] else o_At p l e rm_Lk_isNamed s m args below meth c Q o_cls D A 8 121 [] (o_cw ad ca u6_rt u6_Sj u6_T0 u6_T1 u6_Rd u6_Pg u6_Pt u6_Mk u6_Lk u6_Ck u6_Jd u6_Ld u6_Pr) [(0, .ref (ad 43)), (1, .int u6_x1), (4, .int q.2.1)])) : o_At p l e rm_Lk_isNamed s m args below meth c Q o_cls D A 8 6 [] (o_cw ad ca u6_rt u6_Sj u6_T0 u6_T1 u6_Rd u6_Pg u6_Pt u6_Mk u6_Lk u6_Ck u6_Jd u6_Ld u6_Pr) [(0, .ref (ad 43)), (1, .int u6_x1), (3, .int u6_x3), (4, .int z.1), (5, .int z.2)] := by
  unfold m_Lk_isNamed_b6 at h
  intro H locs ls hP hS hl
  have C0 := C
  obtain ⟨hx, hb, -, -, -, hown, hts, hK, -, -⟩ := C0
  refine lv_iload hx hb d_Lk_isNamed_6 (lv_at hl 4 rfl) ?_
  refine lv_iload_n hx hb d_Lk_isNamed_8 rfl (lv_at hl 2 rfl) ?_
  refine lv_icmp_ge (tgt := 121) hx hb d_Lk_isNamed_9 (by decide) (fun c1 => ?_) (fun c1 => ?_)
  · replace h := o_tt c1 h
    cases h
    exact h1 (Nat.succ_ne_zero 2) _ _ _ hP hS (lv_sub hl [0, 1, 3] rfl)
  · replace h := o_ff c1 h
    refine lv_aload_n hx hb d_Lk_isNamed_12 rfl (lv_at hl 0 rfl) ?_
    refine o_get (v := .ref (ad 44)) C in_Lk hP 43 cw_43 rfl 2 (by decide) k_1_233 rfl rfl d_Lk_isNamed_13 ?_
    refine lv_iload hx hb d_Lk_isNamed_16 (lv_at hl 4 rfl) ?_
    obtain ⟨g2, h⟩ := o_gd_some h
    refine o_iald (f := (Lk_characters u6_Lk)) C hP 44 36 cw_44 rfl g2 d_Lk_isNamed_18 ?_
    refine lv_topi (fun x6_19 ex6_19 => ?_)
    replace h := o_nm_at ex6_19 h
    refine lv_istore (lv' := [(6, .int x6_19), (0, .ref (ad 43)), (1, .int u6_x1), (3, .int u6_x3), (4, .int z.1), (5, .int z.2)]) hx hb d_Lk_isNamed_19 hl (by decide) rfl (fun ls hl => ?_)
    refine lv_iload hx hb d_Lk_isNamed_21 (lv_at hl 0 rfl) ?_
    refine lv_bipush (v := (126:Int32)) hx hb d_Lk_isNamed_23 (by decide) ?_
    refine lv_icmp_ne (tgt := 82) hx hb d_Lk_isNamed_25 (by decide) (fun c3 => ?_) (fun c3 => ?_)
    · replace h := o_ff c3 h
      exact w_Lk_isNamed_j82 hE C hDD n u6_x1 u6_x3 u6_T0 u6_Lk u6_Sj u6_T1 u6_Rd u6_Pg u6_Pt u6_Mk u6_Ck u6_Jd u6_Ld u6_Pr u6_rt z.1 z.2 x6_19 h h0 h1 _ _ _ hP hS (lv_sub hl [1, 2, 3, 4, 5, 0] rfl)
    · replace h := o_tt c3 h
      obtain ⟨x5_28, ex5_28⟩ : ∃ y : Int32, y = z.2 + (1:Int32) := ⟨_, rfl⟩
      replace h := o_nm_at ex5_28 h
      refine lv_iinc (v := x5_28) (lv' := [(5, .int x5_28), (6, .int x6_19), (0, .ref (ad 43)), (1, .int u6_x1), (3, .int u6_x3), (4, .int z.1)]) hx hb d_Lk_isNamed_28 hl (k := 5) rfl (by rw [ex5_28]; rfl) (by decide) rfl (fun ls hl => ?_)
      refine lv_iload hx hb d_Lk_isNamed_31 (lv_at hl 0 rfl) ?_
      refine lv_iload_n hx hb d_Lk_isNamed_33 rfl (lv_at hl 4 rfl) ?_
      refine lv_icmp_ge (tgt := 47) hx hb d_Lk_isNamed_34 (by decide) (fun c6 => ?_) (fun c6 => ?_)
      · replace h := o_tt c6 h
        refine lv_iconst (v := (-1:Int32)) hx hb d_Lk_isNamed_47 (by decide) ?_
        exact w_Lk_isNamed_j48 hE C hDD n u6_x1 u6_x3 u6_T0 u6_Lk u6_Sj u6_T1 u6_Rd u6_Pg u6_Pt u6_Mk u6_Ck u6_Jd u6_Ld u6_Pr u6_rt z.1 x5_28 (-1:Int32) h h0 h1 _ _ _ hP hS (lv_sub hl [2, 3, 4, 5, 0] rfl)
      · replace h := o_ff c6 h
        refine lv_aload_n hx hb d_Lk_isNamed_37 rfl (lv_at hl 2 rfl) ?_
        refine o_get (v := .ref (ad 44)) C in_Lk hP 43 cw_43 rfl 2 (by decide) k_1_233 rfl rfl d_Lk_isNamed_38 ?_
        refine lv_iload hx hb d_Lk_isNamed_41 (lv_at hl 0 rfl) ?_
        obtain ⟨g10, h⟩ := o_gd_some h
        refine o_iald (f := (Lk_characters u6_Lk)) C hP 44 36 cw_44 rfl g10 d_Lk_isNamed_43 ?_
        refine lv_goto (tgt := 48) hx hb d_Lk_isNamed_44 (by decide) ?_
        exact w_Lk_isNamed_j48 hE C hDD n u6_x1 u6_x3 u6_T0 u6_Lk u6_Sj u6_T1 u6_Rd u6_Pg u6_Pt u6_Mk u6_Ck u6_Jd u6_Ld u6_Pr u6_rt z.1 x5_28 ((Lk_characters u6_Lk) x5_28.toNatClampNeg) h h0 h1 _ _ _ hP hS (lv_sub hl [2, 3, 4, 5, 0] rfl)
set_option maxHeartbeats 4000000 in
set_option maxRecDepth 100000 in
theorem c_Lk_isNamed {E : (Nat → Prop) → State → Heap → Prop} {D : va_G} {ad kd sd vd xd : Nat → Nat} {ca : Nat → ClassId} (hE : o_EK E kd sd vd xd) (l : Launch) (n : Nat) (x1 : Int32) (x2 : Int32) (x3 : Int32) (T0 : STx) (Lk : SLk) (Sj : SSJ) (T1 : STx) (Rd : SRd) (Pg : SPg) (Pt : SPt) (Mk : SMk) (Ck : SCk) (Jd : SJd) (Ld : SLd) (Pr : SPr) (rt : Nat) {r : Int32} (h : m_Lk_isNamed n x1 x2 x3 T0 Lk = some r) : o_Cn E l D o_cls (o_tys ca) y_Lk_isNamed cc_Lk_isNamed rm_Lk_isNamed [.ref (ad 43), .int x1, .int x2, .int x3] (o_cw ad ca rt Sj T0 T1 Rd Pg Pt Mk Lk Ck Jd Ld Pr) (o_cw ad ca rt Sj T0 T1 Rd Pg Pt Mk Lk Ck Jd Ld Pr) (some (.int r)) := by
  refine o_Cn_of (by decide) (Nat.le_of_ble_eq_true rfl) ?_
  intro p e s m below meth c A ls C hD hP hS hl
  have hDD : ∀ (rt : Nat) (Sj : SSJ) (T0 : STx) (T1 : STx) (Rd : SRd) (Pg : SPg) (Pt : SPt) (Mk : SMk) (Lk : SLk) (Ck : SCk) (Jd : SJd) (Ld : SLd) (Pr : SPr), va_D A (o_cw ad ca rt Sj T0 T1 Rd Pg Pt Mk Lk Ck Jd Ld Pr) := fun _ _ _ _ _ _ _ _ _ _ _ _ _ => o_D_map hD rfl
  have hl : lv_has ls 8 [(0, .ref (ad 43)), (1, .int x1), (2, .int x2), (3, .int x3)] := hl
  unfold m_Lk_isNamed at h
  have C0 := C
  obtain ⟨hx, hb, -, -, -, hown, hts, hK, -, -⟩ := C0
  refine lv_iconst (v := (0:Int32)) hx hb d_Lk_isNamed_0 (by decide) ?_
  refine lv_istore (lv' := [(4, .int (0:Int32)), (0, .ref (ad 43)), (1, .int x1), (2, .int x2), (3, .int x3)]) hx hb d_Lk_isNamed_1 hl (by decide) rfl (fun ls hl => ?_)
  refine lv_iload_n hx hb d_Lk_isNamed_3 rfl (lv_at hl 3 rfl) ?_
  refine lv_istore (lv' := [(5, .int x2), (4, .int (0:Int32)), (0, .ref (ad 43)), (1, .int x1), (2, .int x2), (3, .int x3)]) hx hb d_Lk_isNamed_4 hl (by decide) rfl (fun ls hl => ?_)
  obtain ⟨q3, hq3, h⟩ := o_bd_some h
  refine o_sim2 (AH := fun zz => o_At p l e rm_Lk_isNamed s m _ below meth c _ o_cls D A 8 6 [] (o_cw ad ca rt Sj T0 T1 Rd Pg Pt Mk Lk Ck Jd Ld Pr) [(0, .ref (ad 43)), (1, .int x1), (3, .int x3), (4, .int zz.1), (5, .int zz.2)]) (AX := fun qq => if qq.1 = 1 then o_At p l e rm_Lk_isNamed s m _ below meth c _ o_cls D A 8 64 [] (o_cw ad ca rt Sj T0 T1 Rd Pg Pt Mk Lk Ck Jd Ld Pr) [] else if qq.1 = 2 then o_At p l e rm_Lk_isNamed s m _ below meth c _ o_cls D A 8 110 [] (o_cw ad ca rt Sj T0 T1 Rd Pg Pt Mk Lk Ck Jd Ld Pr) [] else o_At p l e rm_Lk_isNamed s m _ below meth c _ o_cls D A 8 121 [] (o_cw ad ca rt Sj T0 T1 Rd Pg Pt Mk Lk Ck Jd Ld Pr) [(0, .ref (ad 43)), (1, .int x1), (4, .int qq.2.1)]) (fun zz qq h h0 h1 => w_Lk_isNamed_b6 hE C hDD n x1 x3 T0 Lk Sj T1 Rd Pg Pt Mk Ck Jd Ld Pr rt zz qq h h0 h1) n _ q3 hq3 ?_ _ _ _ hP hS (lv_sub hl [2, 3, 5, 1, 0] rfl)
  by_cases c12 : q3.1 = 1
  · replace h := o_tt c12 h
    refine o_ip c12 ?_
    intro H locs ls hP hS hl
    refine lv_iconst (v := (0:Int32)) hx hb d_Lk_isNamed_64 (by decide) ?_
    cases h
    exact o_rz (v := (0:Int32)) C o_nar0 hP hS d_Lk_isNamed_65
  replace h := o_ff c12 h
  refine o_in_ c12 ?_
  by_cases c13 : q3.1 = 2
  · replace h := o_tt c13 h
    refine o_ip c13 ?_
    intro H locs ls hP hS hl
    refine lv_iconst (v := (0:Int32)) hx hb d_Lk_isNamed_110 (by decide) ?_
    cases h
    exact o_rz (v := (0:Int32)) C o_nar0 hP hS d_Lk_isNamed_111
  replace h := o_ff c13 h
  refine o_in_ c13 ?_
  intro H locs ls hP hS hl
  refine lv_iload hx hb d_Lk_isNamed_121 (lv_at hl 2 rfl) ?_
  refine lv_aload_n hx hb d_Lk_isNamed_123 rfl (lv_at hl 0 rfl) ?_
  refine o_get (v := .ref (ad 1)) C in_Lk hP 43 cw_43 rfl 0 (by decide) k_1_231 rfl rfl d_Lk_isNamed_124 ?_
  refine lv_iload_n hx hb d_Lk_isNamed_127 rfl (lv_at hl 1 rfl) ?_
  obtain ⟨q4, hq4, h⟩ := o_bd_some h
  refine o_V (st1 := [.int q4, .int q3.2.1]) (w1 := (o_cw ad ca rt Sj T0 T1 Rd Pg Pt Mk Lk Ck Jd Ld Pr)) hE.1 C (c_Tx_size_0 hE l x1 T0 Sj T1 Rd Pg Pt Mk Lk Ck Jd Ld Pr rt hq4) hP (hDD _ _ _ _ _ _ _ _ _ _ _ _ _) hS hl.1 rfl cw_1 k_5_149 k_3_215 k_3_216 k_1_2 k_3_217 hv_Tx_size rfl rfl ⟨(Nat.le_of_ble_eq_true rfl), (Nat.le_of_ble_eq_true rfl)⟩ rfl (Nat.le_of_ble_eq_true rfl) ⟨Nat.zero_le _, Nat.zero_le _⟩ rfl d_Lk_isNamed_128 (fun H locs hP hS => ?_)
  refine lv_icmp_ne (tgt := 138) hx hb d_Lk_isNamed_131 (by decide) (fun c11 => ?_) (fun c11 => ?_)
  · replace h := o_ff c11 h
    refine lv_iconst (v := (0:Int32)) hx hb d_Lk_isNamed_138 (by decide) ?_
    cases h
    exact o_rz (v := (0:Int32)) C o_nar0 hP hS d_Lk_isNamed_139
  · replace h := o_tt c11 h
    refine lv_iconst (v := (1:Int32)) hx hb d_Lk_isNamed_134 (by decide) ?_
    refine lv_goto (tgt := 139) hx hb d_Lk_isNamed_135 (by decide) ?_
    cases h
    exact o_rz (v := (1:Int32)) C o_nar1 hP hS d_Lk_isNamed_139
set_option maxHeartbeats 4000000 in
set_option maxRecDepth 100000 in
theorem w_Tx_element_b9_0 {E : (Nat → Prop) → State → Heap → Prop} {p : Program} {l : Launch} {e : Env} {s : State} {m : MethodId} {args : Array Value} {below : List Frame} {meth : Method} {c : Code} {D : va_G} {ad kd sd vd xd : Nat → Nat} {ca : Nat → ClassId} {A : Nat → Prop} {Q : State → Prop} (hE : o_EK E kd sd vd xd) (C : o_Cx E p s m args meth c D o_cls (o_tys ca) "SchemaJudge$Text" b_Tx_element (some .int) 5 cc_Tx_element A) (hDD : ∀ (rt : Nat) (Sj : SSJ) (T0 : STx) (T1 : STx) (Rd : SRd) (Pg : SPg) (Pt : SPt) (Mk : SMk) (Lk : SLk) (Ck : SCk) (Jd : SJd) (Ld : SLd) (Pr : SPr), va_D A (o_cw ad ca rt Sj T0 T1 Rd Pg Pt Mk Lk Ck Jd Ld Pr)) (n : Nat) (u9_x2 : Int32) (u9_a0 : STx) (u9_Sj : SSJ) (u9_T1 : STx) (u9_Rd : SRd) (u9_Pg : SPg) (u9_Pt : SPt) (u9_Mk : SMk) (u9_Lk : SLk) (u9_Ck : SCk) (u9_Jd : SJd) (u9_Ld : SLd) (u9_Pr : SPr) (u9_rt : Nat) (z : Int32 × Int32) (q : Nat × Int32 × Int32) (h : m_Tx_element_b9 n u9_x2 u9_a0 z = some q) (h0 : q.1 = 0 → o_At p l e rm_Tx_element s m args below meth c Q o_cls D A 5 9 [] (o_cw ad ca u9_rt u9_Sj u9_a0 u9_T1 u9_Rd u9_Pg u9_Pt u9_Mk u9_Lk u9_Ck u9_Jd u9_Ld u9_Pr) [(0, .ref (ad 1)), (2, .int u9_x2), (3, .int q.2.1), (4, .int q.2.2)]) (h1 : q.1 ≠ 0 → (o_At p l e rm_Tx_element s m args below meth c Q o_cls D A 5 32 [] (o_cw ad ca u9_rt u9_Sj u9_a0 u9_T1 u9_Rd u9_Pg u9_Pt u9_Mk u9_Lk u9_Ck u9_Jd u9_Ld u9_Pr) [(3, .int q.2.1)])) : o_At p l e rm_Tx_element s m args below meth c Q o_cls D A 5 9 [] (o_cw ad ca u9_rt u9_Sj u9_a0 u9_T1 u9_Rd u9_Pg u9_Pt u9_Mk u9_Lk u9_Ck u9_Jd u9_Ld u9_Pr) [(0, .ref (ad 1)), (2, .int u9_x2), (3, .int z.1), (4, .int z.2)] := by
  unfold m_Tx_element_b9 at h
  intro H locs ls hP hS hl
  have C0 := C
  obtain ⟨hx, hb, -, -, -, hown, hts, hK, -, -⟩ := C0
  refine lv_iload hx hb d_Tx_element_9 (lv_at hl 3 rfl) ?_
  refine lv_iload_n hx hb d_Tx_element_11 rfl (lv_at hl 1 rfl) ?_
  refine lv_icmp_ge (tgt := 32) hx hb d_Tx_element_12 (by decide) (fun c1 => ?_) (fun c1 => ?_)
  · replace h := o_tt c1 h
    cases h
    exact h1 (Nat.succ_ne_zero 0) _ _ _ hP hS (lv_sub hl [2] rfl)
  · replace h := o_ff c1 h
    refine lv_iload_n hx hb d_Tx_element_15 rfl (lv_at hl 2 rfl) ?_
    refine lv_iconst (v := (-1:Int32)) hx hb d_Tx_element_16 (by decide) ?_
    refine lv_icmp_eq (tgt := 32) hx hb d_Tx_element_17 (by decide) (fun c2 => ?_) (fun c2 => ?_)
    · replace h := o_tt c2 h
      cases h
      exact h1 (Nat.succ_ne_zero 0) _ _ _ hP hS (lv_sub hl [2] rfl)
    · replace h := o_ff c2 h
      refine lv_aload_n hx hb d_Tx_element_20 rfl (lv_at hl 0 rfl) ?_
      refine lv_iload_n hx hb d_Tx_element_21 rfl (lv_at hl 2 rfl) ?_
      obtain ⟨q2, hq2, h⟩ := o_bd_some h
      refine o_V (st1 := [.int q2]) (w1 := (o_cw ad ca u9_rt u9_Sj u9_a0 u9_T1 u9_Rd u9_Pg u9_Pt u9_Mk u9_Lk u9_Ck u9_Jd u9_Ld u9_Pr)) hE.1 C (c_Tx_nextChild_0 hE l z.1 u9_a0 u9_Sj u9_T1 u9_Rd u9_Pg u9_Pt u9_Mk u9_Lk u9_Ck u9_Jd u9_Ld u9_Pr u9_rt hq2) hP (hDD _ _ _ _ _ _ _ _ _ _ _ _ _) hS hl.1 rfl cw_1 k_3_221 k_3_222 k_3_223 k_1_2 k_3_224 hv_Tx_nextChild rfl rfl ⟨(Nat.le_of_ble_eq_true rfl), (Nat.le_of_ble_eq_true rfl)⟩ rfl (Nat.le_of_ble_eq_true rfl) ⟨Nat.zero_le _, Nat.zero_le _⟩ rfl d_Tx_element_22 (fun H locs hP hS => ?_)
      refine lv_istore_n (lv' := [(3, .int q2), (0, .ref (ad 1)), (2, .int u9_x2), (4, .int z.2)]) hx hb d_Tx_element_25 rfl hl (by decide) rfl (fun ls hl => ?_)
      obtain ⟨x4_26, ex4_26⟩ : ∃ y : Int32, y = z.2 + (1:Int32) := ⟨_, rfl⟩
      replace h := o_nm_at ex4_26 h
      refine lv_iinc (v := x4_26) (lv' := [(4, .int x4_26), (3, .int q2), (0, .ref (ad 1)), (2, .int u9_x2)]) hx hb d_Tx_element_26 hl (k := 3) rfl (by rw [ex4_26]; rfl) (by decide) rfl (fun ls hl => ?_)
      refine lv_goto (tgt := 9) hx hb d_Tx_element_29 (by decide) ?_
      cases h
      exact h0 rfl _ _ _ hP hS (lv_sub hl [2, 3, 1, 0] rfl)
set_option maxHeartbeats 4000000 in
set_option maxRecDepth 100000 in
theorem c_Tx_element_0 {E : (Nat → Prop) → State → Heap → Prop} {D : va_G} {ad kd sd vd xd : Nat → Nat} {ca : Nat → ClassId} (hE : o_EK E kd sd vd xd) (l : Launch) (n : Nat) (x1 : Int32) (x2 : Int32) (a0 : STx) (Sj : SSJ) (T1 : STx) (Rd : SRd) (Pg : SPg) (Pt : SPt) (Mk : SMk) (Lk : SLk) (Ck : SCk) (Jd : SJd) (Ld : SLd) (Pr : SPr) (rt : Nat) {r : Int32} (h : m_Tx_element n x1 x2 a0 = some r) : o_Cn E l D o_cls (o_tys ca) y_Tx_element cc_Tx_element rm_Tx_element [.ref (ad 1), .int x1, .int x2] (o_cw ad ca rt Sj a0 T1 Rd Pg Pt Mk Lk Ck Jd Ld Pr) (o_cw ad ca rt Sj a0 T1 Rd Pg Pt Mk Lk Ck Jd Ld Pr) (some (.int r)) := by
  refine o_Cn_of (by decide) (Nat.le_of_ble_eq_true rfl) ?_
  intro p e s m below meth c A ls C hD hP hS hl
  have hDD : ∀ (rt : Nat) (Sj : SSJ) (T0 : STx) (T1 : STx) (Rd : SRd) (Pg : SPg) (Pt : SPt) (Mk : SMk) (Lk : SLk) (Ck : SCk) (Jd : SJd) (Ld : SLd) (Pr : SPr), va_D A (o_cw ad ca rt Sj T0 T1 Rd Pg Pt Mk Lk Ck Jd Ld Pr) := fun _ _ _ _ _ _ _ _ _ _ _ _ _ => o_D_map hD rfl
  have hl : lv_has ls 5 [(0, .ref (ad 1)), (1, .int x1), (2, .int x2)] := hl
  unfold m_Tx_element at h
  have C0 := C
  obtain ⟨hx, hb, -, -, -, hown, hts, hK, -, -⟩ := C0
  refine lv_aload_n hx hb d_Tx_element_0 rfl (lv_at hl 0 rfl) ?_
  refine lv_iload_n hx hb d_Tx_element_1 rfl (lv_at hl 1 rfl) ?_
  obtain ⟨q1, hq1, h⟩ := o_bd_some h
  refine o_V (st1 := [.int q1]) (w1 := (o_cw ad ca rt Sj a0 T1 Rd Pg Pt Mk Lk Ck Jd Ld Pr)) hE.1 C (c_Tx_firstChild_0 hE l x1 a0 Sj T1 Rd Pg Pt Mk Lk Ck Jd Ld Pr rt hq1) hP (hDD _ _ _ _ _ _ _ _ _ _ _ _ _) hS hl.1 rfl cw_1 k_3_210 k_3_211 k_3_212 k_1_2 k_3_213 hv_Tx_firstChild rfl rfl ⟨(Nat.le_of_ble_eq_true rfl), (Nat.le_of_ble_eq_true rfl)⟩ rfl (Nat.le_of_ble_eq_true rfl) ⟨Nat.zero_le _, Nat.zero_le _⟩ rfl d_Tx_element_2 (fun H locs hP hS => ?_)
  refine lv_istore_n (lv' := [(3, .int q1), (0, .ref (ad 1)), (1, .int x1), (2, .int x2)]) hx hb d_Tx_element_5 rfl hl (by decide) rfl (fun ls hl => ?_)
  refine lv_iconst (v := (0:Int32)) hx hb d_Tx_element_6 (by decide) ?_
  refine lv_istore (lv' := [(4, .int (0:Int32)), (3, .int q1), (0, .ref (ad 1)), (1, .int x1), (2, .int x2)]) hx hb d_Tx_element_7 hl (by decide) rfl (fun ls hl => ?_)
  obtain ⟨q3, hq3, h⟩ := o_bd_some h
  refine o_sim2 (AH := fun zz => o_At p l e rm_Tx_element s m _ below meth c _ o_cls D A 5 9 [] (o_cw ad ca rt Sj a0 T1 Rd Pg Pt Mk Lk Ck Jd Ld Pr) [(0, .ref (ad 1)), (2, .int x2), (3, .int zz.1), (4, .int zz.2)]) (AX := fun qq => o_At p l e rm_Tx_element s m _ below meth c _ o_cls D A 5 32 [] (o_cw ad ca rt Sj a0 T1 Rd Pg Pt Mk Lk Ck Jd Ld Pr) [(3, .int qq.2.1)]) (fun zz qq h h0 h1 => w_Tx_element_b9_0 hE C hDD n x2 a0 Sj T1 Rd Pg Pt Mk Lk Ck Jd Ld Pr rt zz qq h h0 h1) n _ q3 hq3 ?_ _ _ _ hP hS (lv_sub hl [2, 4, 1, 0] rfl)
  intro H locs ls hP hS hl
  refine lv_iload_n hx hb d_Tx_element_32 rfl (lv_at hl 0 rfl) ?_
  cases h
  exact o_ri C hP hS d_Tx_element_33
set_option maxHeartbeats 4000000 in
set_option maxRecDepth 100000 in
theorem w_Lk_step_b69 {E : (Nat → Prop) → State → Heap → Prop} {p : Program} {l : Launch} {e : Env} {s : State} {m : MethodId} {args : Array Value} {below : List Frame} {meth : Method} {c : Code} {D : va_G} {ad kd sd vd xd : Nat → Nat} {ca : Nat → ClassId} {A : Nat → Prop} {Q : State → Prop} (hE : o_EK E kd sd vd xd) (C : o_Cx E p s m args meth c D o_cls (o_tys ca) "SchemaJudge$Links" b_Lk_step (some .int) 6 cc_Lk_step A) (hDD : ∀ (rt : Nat) (Sj : SSJ) (T0 : STx) (T1 : STx) (Rd : SRd) (Pg : SPg) (Pt : SPt) (Mk : SMk) (Lk : SLk) (Ck : SCk) (Jd : SJd) (Ld : SLd) (Pr : SPr), va_D A (o_cw ad ca rt Sj T0 T1 Rd Pg Pt Mk Lk Ck Jd Ld Pr)) (n : Nat) (u69_x1 : Int32) (u69_x2 : Int32) (u69_x3 : Int32) (u69_T0 : STx) (u69_Lk : SLk) (u69_Sj : SSJ) (u69_T1 : STx) (u69_Rd : SRd) (u69_Pg : SPg) (u69_Pt : SPt) (u69_Mk : SMk) (u69_Ck : SCk) (u69_Jd : SJd) (u69_Ld : SLd) (u69_Pr : SPr) (u69_rt : Nat) (z : Int32 × Int32) (q : Nat × Int32 × Int32) (h : m_Lk_step_b69 n u69_x1 u69_x2 u69_x3 u69_T0 u69_Lk z = some q) (h0 : q.1 = 0 → o_At p l e rm_Lk_step s m args below meth c Q o_cls D A 6 69 [] (o_cw ad ca u69_rt u69_Sj u69_T0 u69_T1 u69_Rd u69_Pg u69_Pt u69_Mk u69_Lk u69_Ck u69_Jd u69_Ld u69_Pr) [(0, .ref (ad 43)), (1, .int u69_x1), (2, .int u69_x2), (3, .int u69_x3), (4, .int q.2.1), (5, .int q.2.2)]) (h1 : q.1 ≠ 0 → (if q.1 = 1 then o_At p l e rm_Lk_step s m args below meth c Q o_cls D A 6 95 [] (o_cw ad ca u69_rt u69_Sj u69_T0 u69_T1 u69_Rd u69_Pg u69_Pt u69_Mk u69_Lk u69_Ck u69_Jd u69_Ld u69_Pr) [(4, .int q.2.1)] else o_At p l e rm_Lk_step s m args below meth c Q o_cls D A 6 115 [] (o_cw ad ca u69_rt u69_Sj u69_T0 u69_T1 u69_Rd u69_Pg u69_Pt u69_Mk u69_Lk u69_Ck u69_Jd u69_Ld u69_Pr) [])) : o_At p l e rm_Lk_step s m args below meth c Q o_cls D A 6 69 [] (o_cw ad ca u69_rt u69_Sj u69_T0 u69_T1 u69_Rd u69_Pg u69_Pt u69_Mk u69_Lk u69_Ck u69_Jd u69_Ld u69_Pr) [(0, .ref (ad 43)), (1, .int u69_x1), (2, .int u69_x2), (3, .int u69_x3), (4, .int z.1), (5, .int z.2)] := by
  unfold m_Lk_step_b69 at h
  intro H locs ls hP hS hl
  have C0 := C
  obtain ⟨hx, hb, -, -, -, hown, hts, hK, -, -⟩ := C0
  refine lv_iload hx hb d_Lk_step_69 (lv_at hl 5 rfl) ?_
  refine lv_aload_n hx hb d_Lk_step_71 rfl (lv_at hl 0 rfl) ?_
  refine o_get (v := .ref (ad 1)) C in_Lk hP 43 cw_43 rfl 0 (by decide) k_1_231 rfl rfl d_Lk_step_72 ?_
  refine lv_iload_n hx hb d_Lk_step_75 rfl (lv_at hl 1 rfl) ?_
  obtain ⟨q4, hq4, h⟩ := o_bd_some h
  refine o_V (st1 := [.int q4, .int z.2]) (w1 := (o_cw ad ca u69_rt u69_Sj u69_T0 u69_T1 u69_Rd u69_Pg u69_Pt u69_Mk u69_Lk u69_Ck u69_Jd u69_Ld u69_Pr)) hE.1 C (c_Tx_size_0 hE l u69_x1 u69_T0 u69_Sj u69_T1 u69_Rd u69_Pg u69_Pt u69_Mk u69_Lk u69_Ck u69_Jd u69_Ld u69_Pr u69_rt hq4) hP (hDD _ _ _ _ _ _ _ _ _ _ _ _ _) hS hl.1 rfl cw_1 k_5_149 k_3_215 k_3_216 k_1_2 k_3_217 hv_Tx_size rfl rfl ⟨(Nat.le_of_ble_eq_true rfl), (Nat.le_of_ble_eq_true rfl)⟩ rfl (Nat.le_of_ble_eq_true rfl) ⟨Nat.zero_le _, Nat.zero_le _⟩ rfl d_Lk_step_76 (fun H locs hP hS => ?_)
  refine lv_icmp_ge (tgt := 115) hx hb d_Lk_step_79 (by decide) (fun c3 => ?_) (fun c3 => ?_)
  · replace h := o_tt c3 h
    cases h
    exact h1 (Nat.succ_ne_zero 1) _ _ _ hP hS (lv_sub hl [] rfl)
  · replace h := o_ff c3 h
    refine lv_aload_n hx hb d_Lk_step_82 rfl (lv_at hl 0 rfl) ?_
    refine lv_iload hx hb d_Lk_step_83 (lv_at hl 4 rfl) ?_
    refine lv_iconst (v := (1:Int32)) hx hb d_Lk_step_85 (by decide) ?_
    refine lv_isub hx hb d_Lk_step_86 ?_
    refine lv_iload_n hx hb d_Lk_step_87 rfl (lv_at hl 2 rfl) ?_
    refine lv_iload_n hx hb d_Lk_step_88 rfl (lv_at hl 3 rfl) ?_
    obtain ⟨q5, hq5, h⟩ := o_bd_some h
    refine o_V (st1 := [.int q5]) (w1 := (o_cw ad ca u69_rt u69_Sj u69_T0 u69_T1 u69_Rd u69_Pg u69_Pt u69_Mk u69_Lk u69_Ck u69_Jd u69_Ld u69_Pr)) hE.1 C (c_Lk_isNamed hE l n (z.1 - (1:Int32)) u69_x2 u69_x3 u69_T0 u69_Lk u69_Sj u69_T1 u69_Rd u69_Pg u69_Pt u69_Mk u69_Ck u69_Jd u69_Ld u69_Pr u69_rt hq5) hP (hDD _ _ _ _ _ _ _ _ _ _ _ _ _) hS hl.1 rfl cw_43 k_5_183 k_5_185 k_s_53 k_1_8 k_5_186 hv_Lk_isNamed rfl rfl ⟨(Nat.le_of_ble_eq_true rfl), (Nat.le_of_ble_eq_true rfl)⟩ rfl (Nat.le_of_ble_eq_true rfl) ⟨Nat.zero_le _, Nat.zero_le _⟩ rfl d_Lk_step_89 (fun H locs hP hS => ?_)
    refine lv_if_eq (tgt := 98) hx hb d_Lk_step_92 (by decide) (fun c4 => ?_) (fun c4 => ?_)
    · replace h := o_tt c4 h
      refine lv_aload_n hx hb d_Lk_step_98 rfl (lv_at hl 0 rfl) ?_
      refine o_get (v := .ref (ad 1)) C in_Lk hP 43 cw_43 rfl 0 (by decide) k_1_231 rfl rfl d_Lk_step_99 ?_
      refine lv_iload hx hb d_Lk_step_102 (lv_at hl 4 rfl) ?_
      obtain ⟨q6, hq6, h⟩ := o_bd_some h
      refine o_V (st1 := [.int q6]) (w1 := (o_cw ad ca u69_rt u69_Sj u69_T0 u69_T1 u69_Rd u69_Pg u69_Pt u69_Mk u69_Lk u69_Ck u69_Jd u69_Ld u69_Pr)) hE.1 C (c_Tx_nextChild_0 hE l z.1 u69_T0 u69_Sj u69_T1 u69_Rd u69_Pg u69_Pt u69_Mk u69_Lk u69_Ck u69_Jd u69_Ld u69_Pr u69_rt hq6) hP (hDD _ _ _ _ _ _ _ _ _ _ _ _ _) hS hl.1 rfl cw_1 k_5_187 k_3_222 k_3_223 k_1_2 k_3_224 hv_Tx_nextChild rfl rfl ⟨(Nat.le_of_ble_eq_true rfl), (Nat.le_of_ble_eq_true rfl)⟩ rfl (Nat.le_of_ble_eq_true rfl) ⟨Nat.zero_le _, Nat.zero_le _⟩ rfl d_Lk_step_104 (fun H locs hP hS => ?_)
      refine lv_istore (lv' := [(4, .int q6), (0, .ref (ad 43)), (1, .int u69_x1), (2, .int u69_x2), (3, .int u69_x3), (5, .int z.2)]) hx hb d_Lk_step_107 hl (by decide) rfl (fun ls hl => ?_)
      obtain ⟨x5_109, ex5_109⟩ : ∃ y : Int32, y = z.2 + (1:Int32) := ⟨_, rfl⟩
      replace h := o_nm_at ex5_109 h
      refine lv_iinc (v := x5_109) (lv' := [(5, .int x5_109), (4, .int q6), (0, .ref (ad 43)), (1, .int u69_x1), (2, .int u69_x2), (3, .int u69_x3)]) hx hb d_Lk_step_109 hl (k := 5) rfl (by rw [ex5_109]; rfl) (by decide) rfl (fun ls hl => ?_)
      refine lv_goto (tgt := 69) hx hb d_Lk_step_112 (by decide) ?_
      cases h
      exact h0 rfl _ _ _ hP hS (lv_sub hl [2, 3, 4, 5, 1, 0] rfl)
    · replace h := o_ff c4 h
      cases h
      exact h1 (Nat.succ_ne_zero 0) _ _ _ hP hS (lv_sub hl [4] rfl)
set_option maxHeartbeats 4000000 in
set_option maxRecDepth 100000 in
theorem c_Lk_step {E : (Nat → Prop) → State → Heap → Prop} {D : va_G} {ad kd sd vd xd : Nat → Nat} {ca : Nat → ClassId} (hE : o_EK E kd sd vd xd) (l : Launch) (n : Nat) (x1 : Int32) (x2 : Int32) (x3 : Int32) (T0 : STx) (Lk : SLk) (Sj : SSJ) (T1 : STx) (Rd : SRd) (Pg : SPg) (Pt : SPt) (Mk : SMk) (Ck : SCk) (Jd : SJd) (Ld : SLd) (Pr : SPr) (rt : Nat) {r : Int32} (h : m_Lk_step n x1 x2 x3 T0 Lk = some r) : o_Cn E l D o_cls (o_tys ca) y_Lk_step cc_Lk_step rm_Lk_step [.ref (ad 43), .int x1, .int x2, .int x3] (o_cw ad ca rt Sj T0 T1 Rd Pg Pt Mk Lk Ck Jd Ld Pr) (o_cw ad ca rt Sj T0 T1 Rd Pg Pt Mk Lk Ck Jd Ld Pr) (some (.int r)) := by
  refine o_Cn_of (by decide) (Nat.le_of_ble_eq_true rfl) ?_
  intro p e s m below meth c A ls C hD hP hS hl
  have hDD : ∀ (rt : Nat) (Sj : SSJ) (T0 : STx) (T1 : STx) (Rd : SRd) (Pg : SPg) (Pt : SPt) (Mk : SMk) (Lk : SLk) (Ck : SCk) (Jd : SJd) (Ld : SLd) (Pr : SPr), va_D A (o_cw ad ca rt Sj T0 T1 Rd Pg Pt Mk Lk Ck Jd Ld Pr) := fun _ _ _ _ _ _ _ _ _ _ _ _ _ => o_D_map hD rfl
  have hl : lv_has ls 6 [(0, .ref (ad 43)), (1, .int x1), (2, .int x2), (3, .int x3)] := hl
  unfold m_Lk_step at h
  have C0 := C
  obtain ⟨hx, hb, -, -, -, hown, hts, hK, -, -⟩ := C0
  refine lv_aload_n hx hb d_Lk_step_0 rfl (lv_at hl 0 rfl) ?_
  refine o_get (v := .ref (ad 1)) C in_Lk hP 43 cw_43 rfl 0 (by decide) k_1_231 rfl rfl d_Lk_step_1 ?_
  refine lv_iload_n hx hb d_Lk_step_4 rfl (lv_at hl 1 rfl) ?_
  obtain ⟨q1, hq1, h⟩ := o_bd_some h
  refine o_V (st1 := [.int q1]) (w1 := (o_cw ad ca rt Sj T0 T1 Rd Pg Pt Mk Lk Ck Jd Ld Pr)) hE.1 C (c_Tx_kind_0 hE l x1 T0 Sj T1 Rd Pg Pt Mk Lk Ck Jd Ld Pr rt hq1) hP (hDD _ _ _ _ _ _ _ _ _ _ _ _ _) hS hl.1 rfl cw_1 k_5_172 k_4_50 k_4_51 k_1_2 k_4_52 hv_Tx_kind rfl rfl ⟨(Nat.le_of_ble_eq_true rfl), (Nat.le_of_ble_eq_true rfl)⟩ rfl (Nat.le_of_ble_eq_true rfl) ⟨Nat.zero_le _, Nat.zero_le _⟩ rfl d_Lk_step_5 (fun H locs hP hS => ?_)
  refine lv_iconst (v := (5:Int32)) hx hb d_Lk_step_8 (by decide) ?_
  refine lv_icmp_ne (tgt := 41) hx hb d_Lk_step_9 (by decide) (fun c1 => ?_) (fun c1 => ?_)
  · replace h := o_ff c1 h
    refine lv_aload_n hx hb d_Lk_step_41 rfl (lv_at hl 0 rfl) ?_
    refine o_get (v := .ref (ad 1)) C in_Lk hP 43 cw_43 rfl 0 (by decide) k_1_231 rfl rfl d_Lk_step_42 ?_
    refine lv_iload_n hx hb d_Lk_step_45 rfl (lv_at hl 1 rfl) ?_
    obtain ⟨q2, hq2, h⟩ := o_bd_some h
    refine o_V (st1 := [.int q2]) (w1 := (o_cw ad ca rt Sj T0 T1 Rd Pg Pt Mk Lk Ck Jd Ld Pr)) hE.1 C (c_Tx_kind_0 hE l x1 T0 Sj T1 Rd Pg Pt Mk Lk Ck Jd Ld Pr rt hq2) hP (hDD _ _ _ _ _ _ _ _ _ _ _ _ _) hS hl.1 rfl cw_1 k_5_172 k_4_50 k_4_51 k_1_2 k_4_52 hv_Tx_kind rfl rfl ⟨(Nat.le_of_ble_eq_true rfl), (Nat.le_of_ble_eq_true rfl)⟩ rfl (Nat.le_of_ble_eq_true rfl) ⟨Nat.zero_le _, Nat.zero_le _⟩ rfl d_Lk_step_46 (fun H locs hP hS => ?_)
    refine lv_bipush (v := (6:Int32)) hx hb d_Lk_step_49 (by decide) ?_
    refine lv_icmp_eq (tgt := 56) hx hb d_Lk_step_51 (by decide) (fun c2 => ?_) (fun c2 => ?_)
    · replace h := o_tt c2 h
      refine lv_aload_n hx hb d_Lk_step_56 rfl (lv_at hl 0 rfl) ?_
      refine o_get (v := .ref (ad 1)) C in_Lk hP 43 cw_43 rfl 0 (by decide) k_1_231 rfl rfl d_Lk_step_57 ?_
      refine lv_iload_n hx hb d_Lk_step_60 rfl (lv_at hl 1 rfl) ?_
      obtain ⟨q3, hq3, h⟩ := o_bd_some h
      refine o_V (st1 := [.int q3]) (w1 := (o_cw ad ca rt Sj T0 T1 Rd Pg Pt Mk Lk Ck Jd Ld Pr)) hE.1 C (c_Tx_firstChild_0 hE l x1 T0 Sj T1 Rd Pg Pt Mk Lk Ck Jd Ld Pr rt hq3) hP (hDD _ _ _ _ _ _ _ _ _ _ _ _ _) hS hl.1 rfl cw_1 k_5_182 k_3_211 k_3_212 k_1_2 k_3_213 hv_Tx_firstChild rfl rfl ⟨(Nat.le_of_ble_eq_true rfl), (Nat.le_of_ble_eq_true rfl)⟩ rfl (Nat.le_of_ble_eq_true rfl) ⟨Nat.zero_le _, Nat.zero_le _⟩ rfl d_Lk_step_61 (fun H locs hP hS => ?_)
      refine lv_istore (lv' := [(4, .int q3), (0, .ref (ad 43)), (1, .int x1), (2, .int x2), (3, .int x3)]) hx hb d_Lk_step_64 hl (by decide) rfl (fun ls hl => ?_)
      refine lv_iconst (v := (0:Int32)) hx hb d_Lk_step_66 (by decide) ?_
      refine lv_istore (lv' := [(5, .int (0:Int32)), (4, .int q3), (0, .ref (ad 43)), (1, .int x1), (2, .int x2), (3, .int x3)]) hx hb d_Lk_step_67 hl (by decide) rfl (fun ls hl => ?_)
      obtain ⟨q7, hq7, h⟩ := o_bd_some h
      refine o_sim2 (AH := fun zz => o_At p l e rm_Lk_step s m _ below meth c _ o_cls D A 6 69 [] (o_cw ad ca rt Sj T0 T1 Rd Pg Pt Mk Lk Ck Jd Ld Pr) [(0, .ref (ad 43)), (1, .int x1), (2, .int x2), (3, .int x3), (4, .int zz.1), (5, .int zz.2)]) (AX := fun qq => if qq.1 = 1 then o_At p l e rm_Lk_step s m _ below meth c _ o_cls D A 6 95 [] (o_cw ad ca rt Sj T0 T1 Rd Pg Pt Mk Lk Ck Jd Ld Pr) [(4, .int qq.2.1)] else o_At p l e rm_Lk_step s m _ below meth c _ o_cls D A 6 115 [] (o_cw ad ca rt Sj T0 T1 Rd Pg Pt Mk Lk Ck Jd Ld Pr) []) (fun zz qq h h0 h1 => w_Lk_step_b69 hE C hDD n x1 x2 x3 T0 Lk Sj T1 Rd Pg Pt Mk Ck Jd Ld Pr rt zz qq h h0 h1) n _ q7 hq7 ?_ _ _ _ hP hS (lv_sub hl [2, 3, 4, 5, 1, 0] rfl)
      by_cases c5 : q7.1 = 1
      · replace h := o_tt c5 h
        refine o_ip c5 ?_
        intro H locs ls hP hS hl
        refine lv_iload hx hb d_Lk_step_95 (lv_at hl 0 rfl) ?_
        cases h
        exact o_ri C hP hS d_Lk_step_97
      replace h := o_ff c5 h
      refine o_in_ c5 ?_
      intro H locs ls hP hS hl
      refine lv_iconst (v := (-1:Int32)) hx hb d_Lk_step_115 (by decide) ?_
      cases h
      exact o_ri (v := (-1:Int32)) C hP hS d_Lk_step_116
    · replace h := o_ff c2 h
      refine lv_iconst (v := (-1:Int32)) hx hb d_Lk_step_54 (by decide) ?_
      cases h
      exact o_ri (v := (-1:Int32)) C hP hS d_Lk_step_55
  · replace h := o_tt c1 h
    refine lv_aload_n hx hb d_Lk_step_12 rfl (lv_at hl 0 rfl) ?_
    refine lv_iload_n hx hb d_Lk_step_13 rfl (lv_at hl 2 rfl) ?_
    refine lv_iload_n hx hb d_Lk_step_14 rfl (lv_at hl 3 rfl) ?_
    obtain ⟨q8, hq8, h⟩ := o_bd_some h
    refine o_V (st1 := [.int q8]) (w1 := (o_cw ad ca rt Sj T0 T1 Rd Pg Pt Mk Lk Ck Jd Ld Pr)) hE.1 C (c_Lk_placeNumber hE l n x2 x3 Lk Sj T0 T1 Rd Pg Pt Mk Ck Jd Ld Pr rt hq8) hP (hDD _ _ _ _ _ _ _ _ _ _ _ _ _) hS hl.1 rfl cw_43 k_5_173 k_5_175 k_s_52 k_1_8 k_5_176 hv_Lk_placeNumber rfl rfl ⟨(Nat.le_of_ble_eq_true rfl), (Nat.le_of_ble_eq_true rfl)⟩ rfl (Nat.le_of_ble_eq_true rfl) ⟨Nat.zero_le _, Nat.zero_le _⟩ rfl d_Lk_step_15 (fun H locs hP hS => ?_)
    refine lv_istore (lv' := [(4, .int q8), (0, .ref (ad 43)), (1, .int x1), (2, .int x2), (3, .int x3)]) hx hb d_Lk_step_18 hl (by decide) rfl (fun ls hl => ?_)
    refine lv_iload hx hb d_Lk_step_20 (lv_at hl 0 rfl) ?_
    refine lv_iconst (v := (-1:Int32)) hx hb d_Lk_step_22 (by decide) ?_
    refine lv_icmp_ne (tgt := 30) hx hb d_Lk_step_23 (by decide) (fun c6 => ?_) (fun c6 => ?_)
    · replace h := o_ff c6 h
      refine lv_aload_n hx hb d_Lk_step_30 rfl (lv_at hl 1 rfl) ?_
      refine o_get (v := .ref (ad 1)) C in_Lk hP 43 cw_43 rfl 0 (by decide) k_1_231 rfl rfl d_Lk_step_31 ?_
      refine lv_iload_n hx hb d_Lk_step_34 rfl (lv_at hl 2 rfl) ?_
      refine lv_iload hx hb d_Lk_step_35 (lv_at hl 0 rfl) ?_
      obtain ⟨q9, hq9, h⟩ := o_bd_some h
      refine o_V (st1 := [.int q9]) (w1 := (o_cw ad ca rt Sj T0 T1 Rd Pg Pt Mk Lk Ck Jd Ld Pr)) hE.1 C (c_Tx_element_0 hE l n x1 q8 T0 Sj T1 Rd Pg Pt Mk Lk Ck Jd Ld Pr rt hq9) hP (hDD _ _ _ _ _ _ _ _ _ _ _ _ _) hS hl.1 rfl cw_1 k_5_178 k_5_179 k_5_180 k_1_2 k_5_181 hv_Tx_element rfl rfl ⟨(Nat.le_of_ble_eq_true rfl), (Nat.le_of_ble_eq_true rfl)⟩ rfl (Nat.le_of_ble_eq_true rfl) ⟨Nat.zero_le _, Nat.zero_le _⟩ rfl d_Lk_step_37 (fun H locs hP hS => ?_)
      cases h
      exact o_ri C hP hS d_Lk_step_40
    · replace h := o_tt c6 h
      refine lv_iconst (v := (-1:Int32)) hx hb d_Lk_step_26 (by decide) ?_
      refine lv_goto (tgt := 40) hx hb d_Lk_step_27 (by decide) ?_
      cases h
      exact o_ri (v := (-1:Int32)) C hP hS d_Lk_step_40
set_option maxHeartbeats 4000000 in
set_option maxRecDepth 100000 in
theorem w_Lk_walk_j33 {E : (Nat → Prop) → State → Heap → Prop} {p : Program} {l : Launch} {e : Env} {s : State} {m : MethodId} {args : Array Value} {below : List Frame} {meth : Method} {c : Code} {D : va_G} {ad kd sd vd xd : Nat → Nat} {ca : Nat → ClassId} {A : Nat → Prop} {Q : State → Prop} (hE : o_EK E kd sd vd xd) (C : o_Cx E p s m args meth c D o_cls (o_tys ca) "SchemaJudge$Links" b_Lk_walk (some .int) 4 cc_Lk_walk A) (hDD : ∀ (rt : Nat) (Sj : SSJ) (T0 : STx) (T1 : STx) (Rd : SRd) (Pg : SPg) (Pt : SPt) (Mk : SMk) (Lk : SLk) (Ck : SCk) (Jd : SJd) (Ld : SLd) (Pr : SPr), va_D A (o_cw ad ca rt Sj T0 T1 Rd Pg Pt Mk Lk Ck Jd Ld Pr)) (n : Nat) (u6_T0 : STx) (u6_Lk : SLk) (u6_Sj : SSJ) (u6_T1 : STx) (u6_Rd : SRd) (u6_Pg : SPg) (u6_Pt : SPt) (u6_Mk : SMk) (u6_Ck : SCk) (u6_Jd : SJd) (u6_Ld : SLd) (u6_Pr : SPr) (u6_rt : Nat) (x1 : Int32) (x2 : Int32) (x3 : Int32) {q : Nat × Int32 × Int32 × Int32} (h : m_Lk_walk_j33 n x1 x2 x3 u6_T0 u6_Lk = some q) (h0 : q.1 = 0 → o_At p l e rm_Lk_walk s m args below meth c Q o_cls D A 4 6 [] (o_cw ad ca u6_rt u6_Sj u6_T0 u6_T1 u6_Rd u6_Pg u6_Pt u6_Mk u6_Lk u6_Ck u6_Jd u6_Ld u6_Pr) [(0, .ref (ad 43)), (1, .int q.2.1), (2, .int q.2.2.1), (3, .int q.2.2.2)]) (h1 : q.1 ≠ 0 → (o_At p l e rm_Lk_walk s m args below meth c Q o_cls D A 4 51 [] (o_cw ad ca u6_rt u6_Sj u6_T0 u6_T1 u6_Rd u6_Pg u6_Pt u6_Mk u6_Lk u6_Ck u6_Jd u6_Ld u6_Pr) [(1, .int q.2.1)])) : o_At p l e rm_Lk_walk s m args below meth c Q o_cls D A 4 33 [] (o_cw ad ca u6_rt u6_Sj u6_T0 u6_T1 u6_Rd u6_Pg u6_Pt u6_Mk u6_Lk u6_Ck u6_Jd u6_Ld u6_Pr) [(0, .ref (ad 43)), (1, .int x1), (2, .int x2), (3, .int x3)] := by
  unfold m_Lk_walk_j33 at h
  intro H locs ls hP hS hl
  have C0 := C
  obtain ⟨hx, hb, -, -, -, hown, hts, hK, -, -⟩ := C0
  refine lv_aload_n hx hb d_Lk_walk_33 rfl (lv_at hl 0 rfl) ?_
  refine lv_iload_n hx hb d_Lk_walk_34 rfl (lv_at hl 1 rfl) ?_
  refine lv_iload_n hx hb d_Lk_walk_35 rfl (lv_at hl 2 rfl) ?_
  refine lv_iload_n hx hb d_Lk_walk_36 rfl (lv_at hl 3 rfl) ?_
  obtain ⟨q1, hq1, h⟩ := o_bd_some h
  refine o_V (st1 := [.int q1]) (w1 := (o_cw ad ca u6_rt u6_Sj u6_T0 u6_T1 u6_Rd u6_Pg u6_Pt u6_Mk u6_Lk u6_Ck u6_Jd u6_Ld u6_Pr)) hE.1 C (c_Lk_step hE l n x1 x2 x3 u6_T0 u6_Lk u6_Sj u6_T1 u6_Rd u6_Pg u6_Pt u6_Mk u6_Ck u6_Jd u6_Ld u6_Pr u6_rt hq1) hP (hDD _ _ _ _ _ _ _ _ _ _ _ _ _) hS hl.1 rfl cw_43 k_5_168 k_5_170 k_s_51 k_1_8 k_5_171 hv_Lk_step rfl rfl ⟨(Nat.le_of_ble_eq_true rfl), (Nat.le_of_ble_eq_true rfl)⟩ rfl (Nat.le_of_ble_eq_true rfl) ⟨Nat.zero_le _, Nat.zero_le _⟩ rfl d_Lk_walk_37 (fun H locs hP hS => ?_)
  refine lv_istore_n (lv' := [(1, .int q1), (0, .ref (ad 43)), (2, .int x2), (3, .int x3)]) hx hb d_Lk_walk_40 rfl hl (by decide) rfl (fun ls hl => ?_)
  refine lv_iload_n hx hb d_Lk_walk_41 rfl (lv_at hl 3 rfl) ?_
  refine lv_iconst (v := (1:Int32)) hx hb d_Lk_walk_42 (by decide) ?_
  refine lv_iadd hx hb d_Lk_walk_43 ?_
  refine lv_topi (fun x2_44 ex2_44 => ?_)
  replace h := o_nm_at ex2_44 h
  refine lv_istore_n (lv' := [(2, .int x2_44), (1, .int q1), (0, .ref (ad 43)), (3, .int x3)]) hx hb d_Lk_walk_44 rfl hl (by decide) rfl (fun ls hl => ?_)
  obtain ⟨x3_45, ex3_45⟩ : ∃ y : Int32, y = x3 + (1:Int32) := ⟨_, rfl⟩
  replace h := o_nm_at ex3_45 h
  refine lv_iinc (v := x3_45) (lv' := [(3, .int x3_45), (2, .int x2_44), (1, .int q1), (0, .ref (ad 43))]) hx hb d_Lk_walk_45 hl (k := 3) rfl (by rw [ex3_45]; rfl) (by decide) rfl (fun ls hl => ?_)
  refine lv_goto (tgt := 6) hx hb d_Lk_walk_48 (by decide) ?_
  cases h
  exact h0 rfl _ _ _ hP hS (lv_sub hl [3, 2, 1, 0] rfl)
set_option maxHeartbeats 4000000 in
set_option maxRecDepth 100000 in
theorem w_Lk_walk_b6 {E : (Nat → Prop) → State → Heap → Prop} {p : Program} {l : Launch} {e : Env} {s : State} {m : MethodId} {args : Array Value} {below : List Frame} {meth : Method} {c : Code} {D : va_G} {ad kd sd vd xd : Nat → Nat} {ca : Nat → ClassId} {A : Nat → Prop} {Q : State → Prop} (hE : o_EK E kd sd vd xd) (C : o_Cx E p s m args meth c D o_cls (o_tys ca) "SchemaJudge$Links" b_Lk_walk (some .int) 4 cc_Lk_walk A) (hDD : ∀ (rt : Nat) (Sj : SSJ) (T0 : STx) (T1 : STx) (Rd : SRd) (Pg : SPg) (Pt : SPt) (Mk : SMk) (Lk : SLk) (Ck : SCk) (Jd : SJd) (Ld : SLd) (Pr : SPr), va_D A (o_cw ad ca rt Sj T0 T1 Rd Pg Pt Mk Lk Ck Jd Ld Pr)) (n : Nat) (u6_T0 : STx) (u6_Lk : SLk) (u6_Sj : SSJ) (u6_T1 : STx) (u6_Rd : SRd) (u6_Pg : SPg) (u6_Pt : SPt) (u6_Mk : SMk) (u6_Ck : SCk) (u6_Jd : SJd) (u6_Ld : SLd) (u6_Pr : SPr) (u6_rt : Nat) (z : Int32 × Int32 × Int32) (q : Nat × Int32 × Int32 × Int32) (h : m_Lk_walk_b6 n u6_T0 u6_Lk z = some q) (h0 : q.1 = 0 → o_At p l e rm_Lk_walk s m args below meth c Q o_cls D A 4 6 [] (o_cw ad ca u6_rt u6_Sj u6_T0 u6_T1 u6_Rd u6_Pg u6_Pt u6_Mk u6_Lk u6_Ck u6_Jd u6_Ld u6_Pr) [(0, .ref (ad 43)), (1, .int q.2.1), (2, .int q.2.2.1), (3, .int q.2.2.2)]) (h1 : q.1 ≠ 0 → (o_At p l e rm_Lk_walk s m args below meth c Q o_cls D A 4 51 [] (o_cw ad ca u6_rt u6_Sj u6_T0 u6_T1 u6_Rd u6_Pg u6_Pt u6_Mk u6_Lk u6_Ck u6_Jd u6_Ld u6_Pr) [(1, .int q.2.1)])) : o_At p l e rm_Lk_walk s m args below meth c Q o_cls D A 4 6 [] (o_cw ad ca u6_rt u6_Sj u6_T0 u6_T1 u6_Rd u6_Pg u6_Pt u6_Mk u6_Lk u6_Ck u6_Jd u6_Ld u6_Pr) [(0, .ref (ad 43)), (1, .int z.1), (2, .int z.2.1), (3, .int z.2.2)] := by
  unfold m_Lk_walk_b6 at h
  intro H locs ls hP hS hl
  have C0 := C
  obtain ⟨hx, hb, -, -, -, hown, hts, hK, -, -⟩ := C0
  refine lv_iload_n hx hb d_Lk_walk_6 rfl (lv_at hl 3 rfl) ?_
  refine lv_aload_n hx hb d_Lk_walk_7 rfl (lv_at hl 0 rfl) ?_
  refine o_get (v := .int (Lk_length u6_Lk)) C in_Lk hP 43 cw_43 rfl 3 (by decide) k_1_234 rfl rfl d_Lk_walk_8 ?_
  refine lv_icmp_gt (tgt := 51) hx hb d_Lk_walk_11 (by decide) (fun c1 => ?_) (fun c1 => ?_)
  · replace h := o_tt c1 h
    cases h
    exact h1 (Nat.succ_ne_zero 0) _ _ _ hP hS (lv_sub hl [1] rfl)
  · replace h := o_ff c1 h
    refine lv_iload_n hx hb d_Lk_walk_14 rfl (lv_at hl 3 rfl) ?_
    refine lv_aload_n hx hb d_Lk_walk_15 rfl (lv_at hl 0 rfl) ?_
    refine o_get (v := .int (Lk_length u6_Lk)) C in_Lk hP 43 cw_43 rfl 3 (by decide) k_1_234 rfl rfl d_Lk_walk_16 ?_
    refine lv_icmp_eq (tgt := 33) hx hb d_Lk_walk_19 (by decide) (fun c2 => ?_) (fun c2 => ?_)
    · replace h := o_tt c2 h
      exact w_Lk_walk_j33 hE C hDD n u6_T0 u6_Lk u6_Sj u6_T1 u6_Rd u6_Pg u6_Pt u6_Mk u6_Ck u6_Jd u6_Ld u6_Pr u6_rt z.1 z.2.1 z.2.2 h h0 h1 _ _ _ hP hS (lv_sub hl [0, 1, 2, 3] rfl)
    · replace h := o_ff c2 h
      refine lv_aload_n hx hb d_Lk_walk_22 rfl (lv_at hl 0 rfl) ?_
      refine o_get (v := .ref (ad 44)) C in_Lk hP 43 cw_43 rfl 2 (by decide) k_1_233 rfl rfl d_Lk_walk_23 ?_
      refine lv_iload_n hx hb d_Lk_walk_26 rfl (lv_at hl 3 rfl) ?_
      obtain ⟨g3, h⟩ := o_gd_some h
      refine o_iald (f := (Lk_characters u6_Lk)) C hP 44 36 cw_44 rfl g3 d_Lk_walk_27 ?_
      refine lv_bipush (v := (47:Int32)) hx hb d_Lk_walk_28 (by decide) ?_
      refine lv_icmp_ne (tgt := 45) hx hb d_Lk_walk_30 (by decide) (fun c4 => ?_) (fun c4 => ?_)
      · replace h := o_ff c4 h
        obtain ⟨x3_45, ex3_45⟩ : ∃ y : Int32, y = z.2.2 + (1:Int32) := ⟨_, rfl⟩
        replace h := o_nm_at ex3_45 h
        refine lv_iinc (v := x3_45) (lv' := [(3, .int x3_45), (0, .ref (ad 43)), (1, .int z.1), (2, .int z.2.1)]) hx hb d_Lk_walk_45 hl (k := 3) rfl (by rw [ex3_45]; rfl) (by decide) rfl (fun ls hl => ?_)
        refine lv_goto (tgt := 6) hx hb d_Lk_walk_48 (by decide) ?_
        cases h
        exact h0 rfl _ _ _ hP hS (lv_sub hl [1, 2, 3, 0] rfl)
      · replace h := o_tt c4 h
        exact w_Lk_walk_j33 hE C hDD n u6_T0 u6_Lk u6_Sj u6_T1 u6_Rd u6_Pg u6_Pt u6_Mk u6_Ck u6_Jd u6_Ld u6_Pr u6_rt z.1 z.2.1 z.2.2 h h0 h1 _ _ _ hP hS (lv_sub hl [0, 1, 2, 3] rfl)
set_option maxHeartbeats 4000000 in
set_option maxRecDepth 100000 in
theorem c_Lk_walk {E : (Nat → Prop) → State → Heap → Prop} {D : va_G} {ad kd sd vd xd : Nat → Nat} {ca : Nat → ClassId} (hE : o_EK E kd sd vd xd) (l : Launch) (n : Nat)  (T0 : STx) (Lk : SLk) (Sj : SSJ) (T1 : STx) (Rd : SRd) (Pg : SPg) (Pt : SPt) (Mk : SMk) (Ck : SCk) (Jd : SJd) (Ld : SLd) (Pr : SPr) (rt : Nat) {r : Int32} (h : m_Lk_walk n T0 Lk = some r) : o_Cn E l D o_cls (o_tys ca) y_Lk_walk cc_Lk_walk rm_Lk_walk [.ref (ad 43)] (o_cw ad ca rt Sj T0 T1 Rd Pg Pt Mk Lk Ck Jd Ld Pr) (o_cw ad ca rt Sj T0 T1 Rd Pg Pt Mk Lk Ck Jd Ld Pr) (some (.int r)) := by
  refine o_Cn_of (by decide) (Nat.le_of_ble_eq_true rfl) ?_
  intro p e s m below meth c A ls C hD hP hS hl
  have hDD : ∀ (rt : Nat) (Sj : SSJ) (T0 : STx) (T1 : STx) (Rd : SRd) (Pg : SPg) (Pt : SPt) (Mk : SMk) (Lk : SLk) (Ck : SCk) (Jd : SJd) (Ld : SLd) (Pr : SPr), va_D A (o_cw ad ca rt Sj T0 T1 Rd Pg Pt Mk Lk Ck Jd Ld Pr) := fun _ _ _ _ _ _ _ _ _ _ _ _ _ => o_D_map hD rfl
  have hl : lv_has ls 4 [(0, .ref (ad 43))] := hl
  unfold m_Lk_walk at h
  have C0 := C
  obtain ⟨hx, hb, -, -, -, hown, hts, hK, -, -⟩ := C0
  refine lv_iconst (v := (0:Int32)) hx hb d_Lk_walk_0 (by decide) ?_
  refine lv_istore_n (lv' := [(1, .int (0:Int32)), (0, .ref (ad 43))]) hx hb d_Lk_walk_1 rfl hl (by decide) rfl (fun ls hl => ?_)
  refine lv_iconst (v := (2:Int32)) hx hb d_Lk_walk_2 (by decide) ?_
  refine lv_istore_n (lv' := [(2, .int (2:Int32)), (1, .int (0:Int32)), (0, .ref (ad 43))]) hx hb d_Lk_walk_3 rfl hl (by decide) rfl (fun ls hl => ?_)
  refine lv_iconst (v := (2:Int32)) hx hb d_Lk_walk_4 (by decide) ?_
  refine lv_istore_n (lv' := [(3, .int (2:Int32)), (2, .int (2:Int32)), (1, .int (0:Int32)), (0, .ref (ad 43))]) hx hb d_Lk_walk_5 rfl hl (by decide) rfl (fun ls hl => ?_)
  obtain ⟨q2, hq2, h⟩ := o_bd_some h
  refine o_sim2 (AH := fun zz => o_At p l e rm_Lk_walk s m _ below meth c _ o_cls D A 4 6 [] (o_cw ad ca rt Sj T0 T1 Rd Pg Pt Mk Lk Ck Jd Ld Pr) [(0, .ref (ad 43)), (1, .int zz.1), (2, .int zz.2.1), (3, .int zz.2.2)]) (AX := fun qq => o_At p l e rm_Lk_walk s m _ below meth c _ o_cls D A 4 51 [] (o_cw ad ca rt Sj T0 T1 Rd Pg Pt Mk Lk Ck Jd Ld Pr) [(1, .int qq.2.1)]) (fun zz qq h h0 h1 => w_Lk_walk_b6 hE C hDD n T0 Lk Sj T1 Rd Pg Pt Mk Ck Jd Ld Pr rt zz qq h h0 h1) n _ q2 hq2 ?_ _ _ _ hP hS (lv_sub hl [3, 2, 1, 0] rfl)
  intro H locs ls hP hS hl
  refine lv_iload_n hx hb d_Lk_walk_51 rfl (lv_at hl 0 rfl) ?_
  cases h
  exact o_ri C hP hS d_Lk_walk_52
set_option maxHeartbeats 4000000 in
set_option maxRecDepth 100000 in
theorem c_Tx_parent_0 {E : (Nat → Prop) → State → Heap → Prop} {D : va_G} {ad kd sd vd xd : Nat → Nat} {ca : Nat → ClassId} (hE : o_EK E kd sd vd xd) (l : Launch) (x1 : Int32) (a0 : STx) (Sj : SSJ) (T1 : STx) (Rd : SRd) (Pg : SPg) (Pt : SPt) (Mk : SMk) (Lk : SLk) (Ck : SCk) (Jd : SJd) (Ld : SLd) (Pr : SPr) (rt : Nat) {r : Int32} (h : m_Tx_parent x1 a0 = some r) : o_Cn E l D o_cls (o_tys ca) y_Tx_parent cc_Tx_parent rm_Tx_parent [.ref (ad 1), .int x1] (o_cw ad ca rt Sj a0 T1 Rd Pg Pt Mk Lk Ck Jd Ld Pr) (o_cw ad ca rt Sj a0 T1 Rd Pg Pt Mk Lk Ck Jd Ld Pr) (some (.int r)) := by
  refine o_Cn_of (by decide) (Nat.le_of_ble_eq_true rfl) ?_
  intro p e s m below meth c A ls C hD hP hS hl
  have hDD : ∀ (rt : Nat) (Sj : SSJ) (T0 : STx) (T1 : STx) (Rd : SRd) (Pg : SPg) (Pt : SPt) (Mk : SMk) (Lk : SLk) (Ck : SCk) (Jd : SJd) (Ld : SLd) (Pr : SPr), va_D A (o_cw ad ca rt Sj T0 T1 Rd Pg Pt Mk Lk Ck Jd Ld Pr) := fun _ _ _ _ _ _ _ _ _ _ _ _ _ => o_D_map hD rfl
  have hl : lv_has ls 2 [(0, .ref (ad 1)), (1, .int x1)] := hl
  unfold m_Tx_parent at h
  have C0 := C
  obtain ⟨hx, hb, -, -, -, hown, hts, hK, -, -⟩ := C0
  refine lv_iload_n hx hb d_Tx_parent_0 rfl (lv_at hl 1 rfl) ?_
  refine lv_if_lt (tgt := 21) hx hb d_Tx_parent_1 (by decide) (fun c1 => ?_) (fun c1 => ?_)
  · replace h := o_tt c1 h
    refine lv_iconst (v := (-1:Int32)) hx hb d_Tx_parent_21 (by decide) ?_
    cases h
    exact o_ri (v := (-1:Int32)) C hP hS d_Tx_parent_22
  · replace h := o_ff c1 h
    refine lv_iload_n hx hb d_Tx_parent_4 rfl (lv_at hl 1 rfl) ?_
    refine lv_aload_n hx hb d_Tx_parent_5 rfl (lv_at hl 0 rfl) ?_
    refine o_get (v := .int (Tx_total a0)) C in_Tx hP 1 cw_1 rfl 10 (by decide) k_1_56 rfl rfl d_Tx_parent_6 ?_
    refine lv_icmp_ge (tgt := 21) hx hb d_Tx_parent_9 (by decide) (fun c2 => ?_) (fun c2 => ?_)
    · replace h := o_tt c2 h
      refine lv_iconst (v := (-1:Int32)) hx hb d_Tx_parent_21 (by decide) ?_
      cases h
      exact o_ri (v := (-1:Int32)) C hP hS d_Tx_parent_22
    · replace h := o_ff c2 h
      refine lv_aload_n hx hb d_Tx_parent_12 rfl (lv_at hl 0 rfl) ?_
      refine o_get (v := .ref (ad 5)) C in_Tx hP 1 cw_1 rfl 3 (by decide) k_1_49 rfl rfl d_Tx_parent_13 ?_
      refine lv_iload_n hx hb d_Tx_parent_16 rfl (lv_at hl 1 rfl) ?_
      obtain ⟨g3, h⟩ := o_gd_some h
      refine o_iald (f := (Tx_parents a0)) C hP 5 3 cw_5 rfl g3 d_Tx_parent_17 ?_
      refine lv_goto (tgt := 22) hx hb d_Tx_parent_18 (by decide) ?_
      cases h
      exact o_ri (v := ((Tx_parents a0) x1.toNatClampNeg)) C hP hS d_Tx_parent_22
set_option maxHeartbeats 4000000 in
set_option maxRecDepth 100000 in
theorem w_Lk_anchored_b2 {E : (Nat → Prop) → State → Heap → Prop} {p : Program} {l : Launch} {e : Env} {s : State} {m : MethodId} {args : Array Value} {below : List Frame} {meth : Method} {c : Code} {D : va_G} {ad kd sd vd xd : Nat → Nat} {ca : Nat → ClassId} {A : Nat → Prop} {Q : State → Prop} (hE : o_EK E kd sd vd xd) (C : o_Cx E p s m args meth c D o_cls (o_tys ca) "SchemaJudge$Links" b_Lk_anchored (some .int) 2 cc_Lk_anchored A) (hDD : ∀ (rt : Nat) (Sj : SSJ) (T0 : STx) (T1 : STx) (Rd : SRd) (Pg : SPg) (Pt : SPt) (Mk : SMk) (Lk : SLk) (Ck : SCk) (Jd : SJd) (Ld : SLd) (Pr : SPr), va_D A (o_cw ad ca rt Sj T0 T1 Rd Pg Pt Mk Lk Ck Jd Ld Pr)) (n : Nat) (u2_T0 : STx) (u2_Mk : SMk) (u2_Lk : SLk) (u2_Sj : SSJ) (u2_T1 : STx) (u2_Rd : SRd) (u2_Pg : SPg) (u2_Pt : SPt) (u2_Ck : SCk) (u2_Jd : SJd) (u2_Ld : SLd) (u2_Pr : SPr) (u2_rt : Nat) (z : Int32) (q : Nat × Int32) (h : m_Lk_anchored_b2 n u2_T0 u2_Mk u2_Lk z = some q) (h0 : q.1 = 0 → o_At p l e rm_Lk_anchored s m args below meth c Q o_cls D A 2 2 [] (o_cw ad ca u2_rt u2_Sj u2_T0 u2_T1 u2_Rd u2_Pg u2_Pt u2_Mk u2_Lk u2_Ck u2_Jd u2_Ld u2_Pr) [(0, .ref (ad 43)), (1, .int q.2)]) (h1 : q.1 ≠ 0 → (if q.1 = 1 then o_At p l e rm_Lk_anchored s m args below meth c Q o_cls D A 2 40 [] (o_cw ad ca u2_rt u2_Sj u2_T0 u2_T1 u2_Rd u2_Pg u2_Pt u2_Mk u2_Lk u2_Ck u2_Jd u2_Ld u2_Pr) [(0, .ref (ad 43)), (1, .int q.2)] else o_At p l e rm_Lk_anchored s m args below meth c Q o_cls D A 2 55 [] (o_cw ad ca u2_rt u2_Sj u2_T0 u2_T1 u2_Rd u2_Pg u2_Pt u2_Mk u2_Lk u2_Ck u2_Jd u2_Ld u2_Pr) [])) : o_At p l e rm_Lk_anchored s m args below meth c Q o_cls D A 2 2 [] (o_cw ad ca u2_rt u2_Sj u2_T0 u2_T1 u2_Rd u2_Pg u2_Pt u2_Mk u2_Lk u2_Ck u2_Jd u2_Ld u2_Pr) [(0, .ref (ad 43)), (1, .int z)] := by
  unfold m_Lk_anchored_b2 at h
  intro H locs ls hP hS hl
  have C0 := C
  obtain ⟨hx, hb, -, -, -, hown, hts, hK, -, -⟩ := C0
  refine lv_iload_n hx hb d_Lk_anchored_2 rfl (lv_at hl 1 rfl) ?_
  refine lv_aload_n hx hb d_Lk_anchored_3 rfl (lv_at hl 0 rfl) ?_
  refine o_get (v := .ref (ad 1)) C in_Lk hP 43 cw_43 rfl 0 (by decide) k_1_231 rfl rfl d_Lk_anchored_4 ?_
  obtain ⟨q1, hq1, h⟩ := o_bd_some h
  refine o_V (st1 := [.int q1, .int z]) (w1 := (o_cw ad ca u2_rt u2_Sj u2_T0 u2_T1 u2_Rd u2_Pg u2_Pt u2_Mk u2_Lk u2_Ck u2_Jd u2_Ld u2_Pr)) hE.1 C (c_Tx_total_0 hE l u2_T0 u2_Sj u2_T1 u2_Rd u2_Pg u2_Pt u2_Mk u2_Lk u2_Ck u2_Jd u2_Ld u2_Pr u2_rt hq1) hP (hDD _ _ _ _ _ _ _ _ _ _ _ _ _) hS hl.1 rfl cw_1 k_5_192 k_4_6 k_4_7 k_1_2 k_4_8 hv_Tx_total rfl rfl ⟨(Nat.le_of_ble_eq_true rfl), (Nat.le_of_ble_eq_true rfl)⟩ rfl (Nat.le_of_ble_eq_true rfl) ⟨Nat.zero_le _, Nat.zero_le _⟩ rfl d_Lk_anchored_7 (fun H locs hP hS => ?_)
  refine lv_icmp_ge (tgt := 55) hx hb d_Lk_anchored_10 (by decide) (fun c1 => ?_) (fun c1 => ?_)
  · replace h := o_tt c1 h
    cases h
    exact h1 (Nat.succ_ne_zero 1) _ _ _ hP hS (lv_sub hl [] rfl)
  · replace h := o_ff c1 h
    refine lv_aload_n hx hb d_Lk_anchored_13 rfl (lv_at hl 0 rfl) ?_
    refine o_get (v := .ref (ad 39)) C in_Lk hP 43 cw_43 rfl 1 (by decide) k_1_232 rfl rfl d_Lk_anchored_14 ?_
    refine lv_iload_n hx hb d_Lk_anchored_17 rfl (lv_at hl 1 rfl) ?_
    obtain ⟨q2, hq2, h⟩ := o_bd_some h
    obtain ⟨g2, h⟩ := o_gd_some h
    refine o_V (st1 := [.ref (kd q2)]) (w1 := (o_cw ad ca u2_rt u2_Sj u2_T0 u2_T1 u2_Rd u2_Pg u2_Pt u2_Mk u2_Lk u2_Ck u2_Jd u2_Ld u2_Pr)) hE.1 C (c_Mk_keyword hE l z u2_Mk u2_Sj u2_T0 u2_T1 u2_Rd u2_Pg u2_Pt u2_Lk u2_Ck u2_Jd u2_Ld u2_Pr u2_rt hq2) hP (hDD _ _ _ _ _ _ _ _ _ _ _ _ _) hS hl.1 rfl cw_39 k_5_193 k_5_123 k_5_124 k_1_6 k_5_125 hv_Mk_keyword rfl rfl ⟨(Nat.le_of_ble_eq_true rfl), (Nat.le_of_ble_eq_true rfl)⟩ rfl (Nat.le_of_ble_eq_true rfl) ⟨Nat.zero_le _, Nat.zero_le _⟩ rfl d_Lk_anchored_18 (fun H locs hP hS => ?_)
    refine va_gets (v := .ref (kd 34)) hx hb ((hE.2.2.1 _ _ _ C.2.2.2.2.2.2.2.2.2).1 34 (by decide)).1 hS hown (hts _ k_5_194) (fun _ h9 => h9) d_Lk_anchored_21 ?_
    refine lv_acmp_ne (rx := some (kd q2)) (ry := some (kd 34)) (tgt := 49) hx hb d_Lk_anchored_24 (by decide) (fun c3 => ?_) (fun c3 => ?_)
    · replace h := o_ff (o_kn_ c3) h
      obtain ⟨x1_49, ex1_49⟩ : ∃ y : Int32, y = z + (1:Int32) := ⟨_, rfl⟩
      replace h := o_nm_at ex1_49 h
      refine lv_iinc (v := x1_49) (lv' := [(1, .int x1_49), (0, .ref (ad 43))]) hx hb d_Lk_anchored_49 hl (k := 1) rfl (by rw [ex1_49]; rfl) (by decide) rfl (fun ls hl => ?_)
      refine lv_goto (tgt := 2) hx hb d_Lk_anchored_52 (by decide) ?_
      cases h
      exact h0 rfl _ _ _ hP hS (lv_sub hl [1, 0] rfl)
    · replace h := o_tt (o_ki hE C g2 rfl c3) h
      refine lv_aload_n hx hb d_Lk_anchored_27 rfl (lv_at hl 0 rfl) ?_
      refine lv_iload_n hx hb d_Lk_anchored_28 rfl (lv_at hl 1 rfl) ?_
      refine lv_iconst (v := (1:Int32)) hx hb d_Lk_anchored_29 (by decide) ?_
      refine lv_aload_n hx hb d_Lk_anchored_30 rfl (lv_at hl 0 rfl) ?_
      refine o_get (v := .int (Lk_length u2_Lk)) C in_Lk hP 43 cw_43 rfl 3 (by decide) k_1_234 rfl rfl d_Lk_anchored_31 ?_
      obtain ⟨q3, hq3, h⟩ := o_bd_some h
      refine o_V (st1 := [.int q3]) (w1 := (o_cw ad ca u2_rt u2_Sj u2_T0 u2_T1 u2_Rd u2_Pg u2_Pt u2_Mk u2_Lk u2_Ck u2_Jd u2_Ld u2_Pr)) hE.1 C (c_Lk_isNamed hE l n z (1:Int32) (Lk_length u2_Lk) u2_T0 u2_Lk u2_Sj u2_T1 u2_Rd u2_Pg u2_Pt u2_Mk u2_Ck u2_Jd u2_Ld u2_Pr u2_rt hq3) hP (hDD _ _ _ _ _ _ _ _ _ _ _ _ _) hS hl.1 rfl cw_43 k_5_183 k_5_185 k_s_53 k_1_8 k_5_186 hv_Lk_isNamed rfl rfl ⟨(Nat.le_of_ble_eq_true rfl), (Nat.le_of_ble_eq_true rfl)⟩ rfl (Nat.le_of_ble_eq_true rfl) ⟨Nat.zero_le _, Nat.zero_le _⟩ rfl d_Lk_anchored_34 (fun H locs hP hS => ?_)
      refine lv_if_eq (tgt := 49) hx hb d_Lk_anchored_37 (by decide) (fun c4 => ?_) (fun c4 => ?_)
      · replace h := o_tt c4 h
        obtain ⟨x1_49, ex1_49⟩ : ∃ y : Int32, y = z + (1:Int32) := ⟨_, rfl⟩
        replace h := o_nm_at ex1_49 h
        refine lv_iinc (v := x1_49) (lv' := [(1, .int x1_49), (0, .ref (ad 43))]) hx hb d_Lk_anchored_49 hl (k := 1) rfl (by rw [ex1_49]; rfl) (by decide) rfl (fun ls hl => ?_)
        refine lv_goto (tgt := 2) hx hb d_Lk_anchored_52 (by decide) ?_
        cases h
        exact h0 rfl _ _ _ hP hS (lv_sub hl [1, 0] rfl)
      · replace h := o_ff c4 h
        cases h
        exact h1 (Nat.succ_ne_zero 0) _ _ _ hP hS (lv_sub hl [0, 1] rfl)
set_option maxHeartbeats 4000000 in
set_option maxRecDepth 100000 in
theorem c_Lk_anchored {E : (Nat → Prop) → State → Heap → Prop} {D : va_G} {ad kd sd vd xd : Nat → Nat} {ca : Nat → ClassId} (hE : o_EK E kd sd vd xd) (l : Launch) (n : Nat)  (T0 : STx) (Mk : SMk) (Lk : SLk) (Sj : SSJ) (T1 : STx) (Rd : SRd) (Pg : SPg) (Pt : SPt) (Ck : SCk) (Jd : SJd) (Ld : SLd) (Pr : SPr) (rt : Nat) {r : Int32} (h : m_Lk_anchored n T0 Mk Lk = some r) : o_Cn E l D o_cls (o_tys ca) y_Lk_anchored cc_Lk_anchored rm_Lk_anchored [.ref (ad 43)] (o_cw ad ca rt Sj T0 T1 Rd Pg Pt Mk Lk Ck Jd Ld Pr) (o_cw ad ca rt Sj T0 T1 Rd Pg Pt Mk Lk Ck Jd Ld Pr) (some (.int r)) := by
  refine o_Cn_of (by decide) (Nat.le_of_ble_eq_true rfl) ?_
  intro p e s m below meth c A ls C hD hP hS hl
  have hDD : ∀ (rt : Nat) (Sj : SSJ) (T0 : STx) (T1 : STx) (Rd : SRd) (Pg : SPg) (Pt : SPt) (Mk : SMk) (Lk : SLk) (Ck : SCk) (Jd : SJd) (Ld : SLd) (Pr : SPr), va_D A (o_cw ad ca rt Sj T0 T1 Rd Pg Pt Mk Lk Ck Jd Ld Pr) := fun _ _ _ _ _ _ _ _ _ _ _ _ _ => o_D_map hD rfl
  have hl : lv_has ls 2 [(0, .ref (ad 43))] := hl
  unfold m_Lk_anchored at h
  have C0 := C
  obtain ⟨hx, hb, -, -, -, hown, hts, hK, -, -⟩ := C0
  refine lv_iconst (v := (0:Int32)) hx hb d_Lk_anchored_0 (by decide) ?_
  refine lv_istore_n (lv' := [(1, .int (0:Int32)), (0, .ref (ad 43))]) hx hb d_Lk_anchored_1 rfl hl (by decide) rfl (fun ls hl => ?_)
  obtain ⟨q4, hq4, h⟩ := o_bd_some h
  refine o_sim2 (AH := fun zz => o_At p l e rm_Lk_anchored s m _ below meth c _ o_cls D A 2 2 [] (o_cw ad ca rt Sj T0 T1 Rd Pg Pt Mk Lk Ck Jd Ld Pr) [(0, .ref (ad 43)), (1, .int zz)]) (AX := fun qq => if qq.1 = 1 then o_At p l e rm_Lk_anchored s m _ below meth c _ o_cls D A 2 40 [] (o_cw ad ca rt Sj T0 T1 Rd Pg Pt Mk Lk Ck Jd Ld Pr) [(0, .ref (ad 43)), (1, .int qq.2)] else o_At p l e rm_Lk_anchored s m _ below meth c _ o_cls D A 2 55 [] (o_cw ad ca rt Sj T0 T1 Rd Pg Pt Mk Lk Ck Jd Ld Pr) []) (fun zz qq h h0 h1 => w_Lk_anchored_b2 hE C hDD n T0 Mk Lk Sj T1 Rd Pg Pt Ck Jd Ld Pr rt zz qq h h0 h1) n _ q4 hq4 ?_ _ _ _ hP hS (lv_sub hl [1, 0] rfl)
  by_cases c5 : q4.1 = 1
  · replace h := o_tt c5 h
    refine o_ip c5 ?_
    intro H locs ls hP hS hl
    refine lv_aload_n hx hb d_Lk_anchored_40 rfl (lv_at hl 0 rfl) ?_
    refine o_get (v := .ref (ad 1)) C in_Lk hP 43 cw_43 rfl 0 (by decide) k_1_231 rfl rfl d_Lk_anchored_41 ?_
    refine lv_iload_n hx hb d_Lk_anchored_44 rfl (lv_at hl 1 rfl) ?_
    obtain ⟨q5, hq5, h⟩ := o_bd_some h
    refine o_V (st1 := [.int q5]) (w1 := (o_cw ad ca rt Sj T0 T1 Rd Pg Pt Mk Lk Ck Jd Ld Pr)) hE.1 C (c_Tx_parent_0 hE l q4.2 T0 Sj T1 Rd Pg Pt Mk Lk Ck Jd Ld Pr rt hq5) hP (hDD _ _ _ _ _ _ _ _ _ _ _ _ _) hS hl.1 rfl cw_1 k_5_195 k_5_196 k_5_197 k_1_2 k_5_198 hv_Tx_parent rfl rfl ⟨(Nat.le_of_ble_eq_true rfl), (Nat.le_of_ble_eq_true rfl)⟩ rfl (Nat.le_of_ble_eq_true rfl) ⟨Nat.zero_le _, Nat.zero_le _⟩ rfl d_Lk_anchored_45 (fun H locs hP hS => ?_)
    cases h
    exact o_ri C hP hS d_Lk_anchored_48
  replace h := o_ff c5 h
  refine o_in_ c5 ?_
  intro H locs ls hP hS hl
  refine lv_iconst (v := (-1:Int32)) hx hb d_Lk_anchored_55 (by decide) ?_
  cases h
  exact o_ri (v := (-1:Int32)) C hP hS d_Lk_anchored_56
