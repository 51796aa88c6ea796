set_option maxHeartbeats 4000000 in
set_option maxRecDepth 100000 in
theorem c_Pg_beginSet {E : (Nat → Prop) → State → Heap → Prop} {D : va_G} {ad kd sd : Nat → Nat} {ca : Nat → ClassId} (hE : o_EK E kd sd) (l : Launch)  (Pg : SPg) (Sj : SSJ) (T0 : STx) (T1 : STx) (Rd : SRd) (Pt : SPt) (Mk : SMk) (Lk : SLk) (Ck : SCk) (Jd : SJd) (Ld : SLd) (Pr : SPr) (rt : Nat) {r : Int32 × SPg} (h : m_Pg_beginSet Pg = some r) : o_Cn E l D o_cls (o_tys ca) y_Pg_beginSet cc_Pg_beginSet rm_Pg_beginSet [.ref (ad 25)] (o_cw ad ca rt Sj T0 T1 Rd Pg Pt Mk Lk Ck Jd Ld Pr) (o_cw ad ca rt Sj T0 T1 Rd r.2 Pt Mk Lk Ck Jd Ld Pr) (some (.int r.1)) := by
  refine o_Cn_of (by decide) (Nat.le_of_ble_eq_true rfl) ?_
  intro p e s m below meth c A ls C hD hP hS hl
  have hDD : ∀ (rt : Nat) (Sj : SSJ) (T0 : STx) (T1 : STx) (Rd : SRd) (Pg : SPg) (Pt : SPt) (Mk : SMk) (Lk : SLk) (Ck : SCk) (Jd : SJd) (Ld : SLd) (Pr : SPr), va_D A (o_cw ad ca rt Sj T0 T1 Rd Pg Pt Mk Lk Ck Jd Ld Pr) := fun _ _ _ _ _ _ _ _ _ _ _ _ _ => o_D_map hD rfl
  have hl : lv_has ls 2 [(0, .ref (ad 25))] := hl
  unfold m_Pg_beginSet at h
  have C0 := C
  obtain ⟨hx, hb, -, -, -, hown, hts, hK, -, -⟩ := C0
  refine lv_aload_n hx hb d_Pg_beginSet_0 rfl (lv_at hl 0 rfl) ?_
  refine o_get (v := .int (Pg_setsUsed Pg)) C in_Pg hP 25 cw_25 rfl 4 (by decide) k_1_124 rfl rfl d_Pg_beginSet_1 ?_
  refine lv_topi (fun x1_4 ex1_4 => ?_)
  replace h := o_nm_at ex1_4 h
  refine lv_istore_n (lv' := [(1, .int x1_4), (0, .ref (ad 25))]) hx hb d_Pg_beginSet_4 rfl hl (by decide) rfl (fun ls hl => ?_)
  refine lv_aload_n hx hb d_Pg_beginSet_5 rfl (lv_at hl 1 rfl) ?_
  refine o_get (v := .int (Pg_setsUsed Pg)) C in_Pg hP 25 cw_25 rfl 4 (by decide) k_1_124 rfl rfl d_Pg_beginSet_6 ?_
  refine lv_iconst (v := (2:Int32)) hx hb d_Pg_beginSet_9 (by decide) ?_
  refine lv_iadd hx hb d_Pg_beginSet_10 ?_
  refine lv_aload_n hx hb d_Pg_beginSet_11 rfl (lv_at hl 1 rfl) ?_
  refine o_get (v := .ref (ad 28)) C in_Pg hP 25 cw_25 rfl 3 (by decide) k_1_123 rfl rfl d_Pg_beginSet_12 ?_
  refine va_alen (v := (8000:Int32)) hx hb hK hP 28 23 cw_28 rfl rfl d_Pg_beginSet_15 ?_
  refine lv_icmp_gt (tgt := 45) hx hb d_Pg_beginSet_16 (by decide) (fun c1 => ?_) (fun c1 => ?_)
  · replace h := o_tt c1 h
    refine lv_iload_n hx hb d_Pg_beginSet_45 rfl (lv_at hl 0 rfl) ?_
    cases h
    exact o_ri C hP hS d_Pg_beginSet_46
  · replace h := o_ff c1 h
    refine lv_aload_n hx hb d_Pg_beginSet_19 rfl (lv_at hl 1 rfl) ?_
    refine o_get (v := .ref (ad 28)) C in_Pg hP 25 cw_25 rfl 3 (by decide) k_1_123 rfl rfl d_Pg_beginSet_20 ?_
    refine lv_iload_n hx hb d_Pg_beginSet_23 rfl (lv_at hl 0 rfl) ?_
    refine lv_iconst (v := (0:Int32)) hx hb d_Pg_beginSet_24 (by decide) ?_
    obtain ⟨g2, h⟩ := o_gd_some h
    refine o_iast (f := (Pg_sets Pg)) (w1 := (o_cw ad ca rt Sj T0 T1 Rd (Pg_mk (Pg_operations Pg) (Pg_arguments Pg) (Pg_length Pg) (upd (Pg_sets Pg) x1_4.toNatClampNeg (0:Int32)) (Pg_setsUsed Pg) (Pg_rounds Pg) (Pg_stack Pg) (Pg_top Pg) (Pg_waiting Pg) (Pg_waitingCount Pg) (Pg_moved Pg)) Pt Mk Lk Ck Jd Ld Pr)) C hP (hDD _ _ _ _ _ _ _ _ _ _ _ _ _) hS 28 23 cw_28 rfl g2 rfl d_Pg_beginSet_25 (fun H locs hP hS => ?_)
    refine lv_aload_n hx hb d_Pg_beginSet_26 rfl (lv_at hl 1 rfl) ?_
    refine o_get (v := .ref (ad 28)) C in_Pg hP 25 cw_25 rfl 3 (by decide) k_1_123 rfl rfl d_Pg_beginSet_27 ?_
    refine lv_iload_n hx hb d_Pg_beginSet_30 rfl (lv_at hl 0 rfl) ?_
    refine lv_iconst (v := (1:Int32)) hx hb d_Pg_beginSet_31 (by decide) ?_
    refine lv_iadd hx hb d_Pg_beginSet_32 ?_
    refine lv_iconst (v := (0:Int32)) hx hb d_Pg_beginSet_33 (by decide) ?_
    obtain ⟨g3, h⟩ := o_gd_some h
    refine o_iast (f := (upd (Pg_sets Pg) x1_4.toNatClampNeg (0:Int32))) (w1 := (o_cw ad ca rt Sj T0 T1 Rd (Pg_mk (Pg_operations Pg) (Pg_arguments Pg) (Pg_length Pg) (upd (upd (Pg_sets Pg) x1_4.toNatClampNeg (0:Int32)) (x1_4 + (1:Int32)).toNatClampNeg (0:Int32)) (Pg_setsUsed Pg) (Pg_rounds Pg) (Pg_stack Pg) (Pg_top Pg) (Pg_waiting Pg) (Pg_waitingCount Pg) (Pg_moved Pg)) Pt Mk Lk Ck Jd Ld Pr)) C hP (hDD _ _ _ _ _ _ _ _ _ _ _ _ _) hS 28 23 cw_28 rfl g3 rfl d_Pg_beginSet_34 (fun H locs hP hS => ?_)
    refine lv_aload_n hx hb d_Pg_beginSet_35 rfl (lv_at hl 1 rfl) ?_
    refine lv_dup hx hb d_Pg_beginSet_36 rfl ?_
    refine o_get (v := .int (Pg_setsUsed Pg)) C in_Pg hP 25 cw_25 rfl 4 (by decide) k_1_124 rfl rfl d_Pg_beginSet_37 ?_
    refine lv_iconst (v := (2:Int32)) hx hb d_Pg_beginSet_40 (by decide) ?_
    refine lv_iadd hx hb d_Pg_beginSet_41 ?_
    refine o_put (v := .int ((Pg_setsUsed Pg) + (2:Int32))) (ty := .int) (w1 := (o_cw ad ca rt Sj T0 T1 Rd (Pg_mk (Pg_operations Pg) (Pg_arguments Pg) (Pg_length Pg) (upd (upd (Pg_sets Pg) x1_4.toNatClampNeg (0:Int32)) (x1_4 + (1:Int32)).toNatClampNeg (0:Int32)) ((Pg_setsUsed Pg) + (2:Int32)) (Pg_rounds Pg) (Pg_stack Pg) (Pg_top Pg) (Pg_waiting Pg) (Pg_waitingCount Pg) (Pg_moved Pg)) Pt Mk Lk Ck Jd Ld Pr)) C in_Pg t_Pg t_Pg_ok n_Pg hP (hDD _ _ _ _ _ _ _ _ _ _ _ _ _) hS 25 cw_25 rfl 4 (by decide) k_1_124 rfl rfl (by decide +kernel) rfl rfl (Nat.le_of_ble_eq_true rfl) rfl d_Pg_beginSet_42 (fun H locs hP hS => ?_)
    refine lv_iload_n hx hb d_Pg_beginSet_45 rfl (lv_at hl 0 rfl) ?_
    cases h
    exact o_ri C hP hS d_Pg_beginSet_46
set_option maxHeartbeats 4000000 in
set_option maxRecDepth 100000 in
theorem c_Pg_addClass {E : (Nat → Prop) → State → Heap → Prop} {D : va_G} {ad kd sd : Nat → Nat} {ca : Nat → ClassId} (hE : o_EK E kd sd) (l : Launch) (x1 : Int32) (x2 : Int32) (Pg : SPg) (Sj : SSJ) (T0 : STx) (T1 : STx) (Rd : SRd) (Pt : SPt) (Mk : SMk) (Lk : SLk) (Ck : SCk) (Jd : SJd) (Ld : SLd) (Pr : SPr) (rt : Nat) {r : SPg} (h : m_Pg_addClass x1 x2 Pg = some r) : o_Cn E l D o_cls (o_tys ca) y_Pg_addClass cc_Pg_addClass rm_Pg_addClass [.ref (ad 25), .int x1, .int x2] (o_cw ad ca rt Sj T0 T1 Rd Pg Pt Mk Lk Ck Jd Ld Pr) (o_cw ad ca rt Sj T0 T1 Rd r Pt Mk Lk Ck Jd Ld Pr) none := by
  refine o_Cn_of (by decide) (Nat.le_of_ble_eq_true rfl) ?_
  intro p e s m below meth c A ls C hD hP hS hl
  have hDD : ∀ (rt : Nat) (Sj : SSJ) (T0 : STx) (T1 : STx) (Rd : SRd) (Pg : SPg) (Pt : SPt) (Mk : SMk) (Lk : SLk) (Ck : SCk) (Jd : SJd) (Ld : SLd) (Pr : SPr), va_D A (o_cw ad ca rt Sj T0 T1 Rd Pg Pt Mk Lk Ck Jd Ld Pr) := fun _ _ _ _ _ _ _ _ _ _ _ _ _ => o_D_map hD rfl
  have hl : lv_has ls 3 [(0, .ref (ad 25)), (1, .int x1), (2, .int x2)] := hl
  unfold m_Pg_addClass at h
  have C0 := C
  obtain ⟨hx, hb, -, -, -, hown, hts, hK, -, -⟩ := C0
  refine lv_iload_n hx hb d_Pg_addClass_0 rfl (lv_at hl 1 rfl) ?_
  refine lv_if_lt (tgt := 27) hx hb d_Pg_addClass_1 (by decide) (fun c1 => ?_) (fun c1 => ?_)
  · replace h := o_tt c1 h
    cases h
    exact o_rv C hP hS d_Pg_addClass_27
  · replace h := o_ff c1 h
    refine lv_iload_n hx hb d_Pg_addClass_4 rfl (lv_at hl 1 rfl) ?_
    refine lv_iconst (v := (1:Int32)) hx hb d_Pg_addClass_5 (by decide) ?_
    refine lv_iadd hx hb d_Pg_addClass_6 ?_
    refine lv_aload_n hx hb d_Pg_addClass_7 rfl (lv_at hl 0 rfl) ?_
    refine o_get (v := .ref (ad 28)) C in_Pg hP 25 cw_25 rfl 3 (by decide) k_1_123 rfl rfl d_Pg_addClass_8 ?_
    refine va_alen (v := (8000:Int32)) hx hb hK hP 28 23 cw_28 rfl rfl d_Pg_addClass_11 ?_
    refine lv_icmp_ge (tgt := 27) hx hb d_Pg_addClass_12 (by decide) (fun c2 => ?_) (fun c2 => ?_)
    · replace h := o_tt c2 h
      cases h
      exact o_rv C hP hS d_Pg_addClass_27
    · replace h := o_ff c2 h
      refine lv_aload_n hx hb d_Pg_addClass_15 rfl (lv_at hl 0 rfl) ?_
      refine o_get (v := .ref (ad 28)) C in_Pg hP 25 cw_25 rfl 3 (by decide) k_1_123 rfl rfl d_Pg_addClass_16 ?_
      refine lv_iload_n hx hb d_Pg_addClass_19 rfl (lv_at hl 1 rfl) ?_
      refine lv_iconst (v := (1:Int32)) hx hb d_Pg_addClass_20 (by decide) ?_
      refine lv_iadd hx hb d_Pg_addClass_21 ?_
      refine lv_dup2_11 hx hb d_Pg_addClass_22 rfl rfl ?_
      obtain ⟨g3, h⟩ := o_gd_some h
      refine o_iald (f := (Pg_sets Pg)) C hP 28 23 cw_28 rfl g3 d_Pg_addClass_23 ?_
      refine lv_iload_n hx hb d_Pg_addClass_24 rfl (lv_at hl 2 rfl) ?_
      refine lv_ior hx hb d_Pg_addClass_25 ?_
      obtain ⟨g4, h⟩ := o_gd_some h
      refine o_iast (f := (Pg_sets Pg)) (w1 := (o_cw ad ca rt Sj T0 T1 Rd (Pg_mk (Pg_operations Pg) (Pg_arguments Pg) (Pg_length Pg) (upd (Pg_sets Pg) (x1 + (1:Int32)).toNatClampNeg (((Pg_sets Pg) (x1 + (1:Int32)).toNatClampNeg) ||| x2)) (Pg_setsUsed Pg) (Pg_rounds Pg) (Pg_stack Pg) (Pg_top Pg) (Pg_waiting Pg) (Pg_waitingCount Pg) (Pg_moved Pg)) Pt Mk Lk Ck Jd Ld Pr)) C hP (hDD _ _ _ _ _ _ _ _ _ _ _ _ _) hS 28 23 cw_28 rfl g4 rfl d_Pg_addClass_26 (fun H locs hP hS => ?_)
      cases h
      exact o_rv C hP hS d_Pg_addClass_27
set_option maxHeartbeats 4000000 in
set_option maxRecDepth 100000 in
theorem c_Pg_addRange {E : (Nat → Prop) → State → Heap → Prop} {D : va_G} {ad kd sd : Nat → Nat} {ca : Nat → ClassId} (hE : o_EK E kd sd) (l : Launch) (x1 : Int32) (x2 : Int32) (x3 : Int32) (Pg : SPg) (Sj : SSJ) (T0 : STx) (T1 : STx) (Rd : SRd) (Pt : SPt) (Mk : SMk) (Lk : SLk) (Ck : SCk) (Jd : SJd) (Ld : SLd) (Pr : SPr) (rt : Nat) {r : SPg} (h : m_Pg_addRange x1 x2 x3 Pg = some r) : o_Cn E l D o_cls (o_tys ca) y_Pg_addRange cc_Pg_addRange rm_Pg_addRange [.ref (ad 25), .int x1, .int x2, .int x3] (o_cw ad ca rt Sj T0 T1 Rd Pg Pt Mk Lk Ck Jd Ld Pr) (o_cw ad ca rt Sj T0 T1 Rd r Pt Mk Lk Ck Jd Ld Pr) none := by
  refine o_Cn_of (by decide) (Nat.le_of_ble_eq_true rfl) ?_
  intro p e s m below meth c A ls C hD hP hS hl
  have hDD : ∀ (rt : Nat) (Sj : SSJ) (T0 : STx) (T1 : STx) (Rd : SRd) (Pg : SPg) (Pt : SPt) (Mk : SMk) (Lk : SLk) (Ck : SCk) (Jd : SJd) (Ld : SLd) (Pr : SPr), va_D A (o_cw ad ca rt Sj T0 T1 Rd Pg Pt Mk Lk Ck Jd Ld Pr) := fun _ _ _ _ _ _ _ _ _ _ _ _ _ => o_D_map hD rfl
  have hl : lv_has ls 4 [(0, .ref (ad 25)), (1, .int x1), (2, .int x2), (3, .int x3)] := hl
  unfold m_Pg_addRange at h
  have C0 := C
  obtain ⟨hx, hb, -, -, -, hown, hts, hK, -, -⟩ := C0
  refine lv_iload_n hx hb d_Pg_addRange_0 rfl (lv_at hl 1 rfl) ?_
  refine lv_if_lt (tgt := 69) hx hb d_Pg_addRange_1 (by decide) (fun c1 => ?_) (fun c1 => ?_)
  · replace h := o_tt c1 h
    cases h
    exact o_rv C hP hS d_Pg_addRange_69
  · replace h := o_ff c1 h
    refine lv_iload_n hx hb d_Pg_addRange_4 rfl (lv_at hl 1 rfl) ?_
    refine lv_aload_n hx hb d_Pg_addRange_5 rfl (lv_at hl 0 rfl) ?_
    refine o_get (v := .ref (ad 28)) C in_Pg hP 25 cw_25 rfl 3 (by decide) k_1_123 rfl rfl d_Pg_addRange_6 ?_
    refine va_alen (v := (8000:Int32)) hx hb hK hP 28 23 cw_28 rfl rfl d_Pg_addRange_9 ?_
    refine lv_icmp_ge (tgt := 69) hx hb d_Pg_addRange_10 (by decide) (fun c2 => ?_) (fun c2 => ?_)
    · replace h := o_tt c2 h
      cases h
      exact o_rv C hP hS d_Pg_addRange_69
    · replace h := o_ff c2 h
      refine lv_aload_n hx hb d_Pg_addRange_13 rfl (lv_at hl 0 rfl) ?_
      refine o_get (v := .int (Pg_setsUsed Pg)) C in_Pg hP 25 cw_25 rfl 4 (by decide) k_1_124 rfl rfl d_Pg_addRange_14 ?_
      refine lv_iconst (v := (2:Int32)) hx hb d_Pg_addRange_17 (by decide) ?_
      refine lv_iadd hx hb d_Pg_addRange_18 ?_
      refine lv_aload_n hx hb d_Pg_addRange_19 rfl (lv_at hl 0 rfl) ?_
      refine o_get (v := .ref (ad 28)) C in_Pg hP 25 cw_25 rfl 3 (by decide) k_1_123 rfl rfl d_Pg_addRange_20 ?_
      refine va_alen (v := (8000:Int32)) hx hb hK hP 28 23 cw_28 rfl rfl d_Pg_addRange_23 ?_
      refine lv_icmp_gt (tgt := 69) hx hb d_Pg_addRange_24 (by decide) (fun c3 => ?_) (fun c3 => ?_)
      · replace h := o_tt c3 h
        cases h
        exact o_rv C hP hS d_Pg_addRange_69
      · replace h := o_ff c3 h
        refine lv_aload_n hx hb d_Pg_addRange_27 rfl (lv_at hl 0 rfl) ?_
        refine o_get (v := .ref (ad 28)) C in_Pg hP 25 cw_25 rfl 3 (by decide) k_1_123 rfl rfl d_Pg_addRange_28 ?_
        refine lv_iload_n hx hb d_Pg_addRange_31 rfl (lv_at hl 1 rfl) ?_
        refine lv_dup2_11 hx hb d_Pg_addRange_32 rfl rfl ?_
        obtain ⟨g4, h⟩ := o_gd_some h
        refine o_iald (f := (Pg_sets Pg)) C hP 28 23 cw_28 rfl g4 d_Pg_addRange_33 ?_
        refine lv_iconst (v := (1:Int32)) hx hb d_Pg_addRange_34 (by decide) ?_
        refine lv_iadd hx hb d_Pg_addRange_35 ?_
        obtain ⟨g5, h⟩ := o_gd_some h
        refine o_iast (f := (Pg_sets Pg)) (w1 := (o_cw ad ca rt Sj T0 T1 Rd (Pg_mk (Pg_operations Pg) (Pg_arguments Pg) (Pg_length Pg) (upd (Pg_sets Pg) x1.toNatClampNeg (((Pg_sets Pg) x1.toNatClampNeg) + (1:Int32))) (Pg_setsUsed Pg) (Pg_rounds Pg) (Pg_stack Pg) (Pg_top Pg) (Pg_waiting Pg) (Pg_waitingCount Pg) (Pg_moved Pg)) Pt Mk Lk Ck Jd Ld Pr)) C hP (hDD _ _ _ _ _ _ _ _ _ _ _ _ _) hS 28 23 cw_28 rfl g5 rfl d_Pg_addRange_36 (fun H locs hP hS => ?_)
        refine lv_aload_n hx hb d_Pg_addRange_37 rfl (lv_at hl 0 rfl) ?_
        refine o_get (v := .ref (ad 28)) C in_Pg hP 25 cw_25 rfl 3 (by decide) k_1_123 rfl rfl d_Pg_addRange_38 ?_
        refine lv_aload_n hx hb d_Pg_addRange_41 rfl (lv_at hl 0 rfl) ?_
        refine o_get (v := .int (Pg_setsUsed Pg)) C in_Pg hP 25 cw_25 rfl 4 (by decide) k_1_124 rfl rfl d_Pg_addRange_42 ?_
        refine lv_iload_n hx hb d_Pg_addRange_45 rfl (lv_at hl 2 rfl) ?_
        obtain ⟨g6, h⟩ := o_gd_some h
        refine o_iast (f := (upd (Pg_sets Pg) x1.toNatClampNeg (((Pg_sets Pg) x1.toNatClampNeg) + (1:Int32)))) (w1 := (o_cw ad ca rt Sj T0 T1 Rd (Pg_mk (Pg_operations Pg) (Pg_arguments Pg) (Pg_length Pg) (upd (upd (Pg_sets Pg) x1.toNatClampNeg (((Pg_sets Pg) x1.toNatClampNeg) + (1:Int32))) (Pg_setsUsed Pg).toNatClampNeg x2) (Pg_setsUsed Pg) (Pg_rounds Pg) (Pg_stack Pg) (Pg_top Pg) (Pg_waiting Pg) (Pg_waitingCount Pg) (Pg_moved Pg)) Pt Mk Lk Ck Jd Ld Pr)) C hP (hDD _ _ _ _ _ _ _ _ _ _ _ _ _) hS 28 23 cw_28 rfl g6 rfl d_Pg_addRange_46 (fun H locs hP hS => ?_)
        refine lv_aload_n hx hb d_Pg_addRange_47 rfl (lv_at hl 0 rfl) ?_
        refine o_get (v := .ref (ad 28)) C in_Pg hP 25 cw_25 rfl 3 (by decide) k_1_123 rfl rfl d_Pg_addRange_48 ?_
        refine lv_aload_n hx hb d_Pg_addRange_51 rfl (lv_at hl 0 rfl) ?_
        refine o_get (v := .int (Pg_setsUsed Pg)) C in_Pg hP 25 cw_25 rfl 4 (by decide) k_1_124 rfl rfl d_Pg_addRange_52 ?_
        refine lv_iconst (v := (1:Int32)) hx hb d_Pg_addRange_55 (by decide) ?_
        refine lv_iadd hx hb d_Pg_addRange_56 ?_
        refine lv_iload_n hx hb d_Pg_addRange_57 rfl (lv_at hl 3 rfl) ?_
        obtain ⟨g7, h⟩ := o_gd_some h
        refine o_iast (f := (upd (upd (Pg_sets Pg) x1.toNatClampNeg (((Pg_sets Pg) x1.toNatClampNeg) + (1:Int32))) (Pg_setsUsed Pg).toNatClampNeg x2)) (w1 := (o_cw ad ca rt Sj T0 T1 Rd (Pg_mk (Pg_operations Pg) (Pg_arguments Pg) (Pg_length Pg) (upd (upd (upd (Pg_sets Pg) x1.toNatClampNeg (((Pg_sets Pg) x1.toNatClampNeg) + (1:Int32))) (Pg_setsUsed Pg).toNatClampNeg x2) ((Pg_setsUsed Pg) + (1:Int32)).toNatClampNeg x3) (Pg_setsUsed Pg) (Pg_rounds Pg) (Pg_stack Pg) (Pg_top Pg) (Pg_waiting Pg) (Pg_waitingCount Pg) (Pg_moved Pg)) Pt Mk Lk Ck Jd Ld Pr)) C hP (hDD _ _ _ _ _ _ _ _ _ _ _ _ _) hS 28 23 cw_28 rfl g7 rfl d_Pg_addRange_58 (fun H locs hP hS => ?_)
        refine lv_aload_n hx hb d_Pg_addRange_59 rfl (lv_at hl 0 rfl) ?_
        refine lv_dup hx hb d_Pg_addRange_60 rfl ?_
        refine o_get (v := .int (Pg_setsUsed Pg)) C in_Pg hP 25 cw_25 rfl 4 (by decide) k_1_124 rfl rfl d_Pg_addRange_61 ?_
        refine lv_iconst (v := (2:Int32)) hx hb d_Pg_addRange_64 (by decide) ?_
        refine lv_iadd hx hb d_Pg_addRange_65 ?_
        refine o_put (v := .int ((Pg_setsUsed Pg) + (2:Int32))) (ty := .int) (w1 := (o_cw ad ca rt Sj T0 T1 Rd (Pg_mk (Pg_operations Pg) (Pg_arguments Pg) (Pg_length Pg) (upd (upd (upd (Pg_sets Pg) x1.toNatClampNeg (((Pg_sets Pg) x1.toNatClampNeg) + (1:Int32))) (Pg_setsUsed Pg).toNatClampNeg x2) ((Pg_setsUsed Pg) + (1:Int32)).toNatClampNeg x3) ((Pg_setsUsed Pg) + (2:Int32)) (Pg_rounds Pg) (Pg_stack Pg) (Pg_top Pg) (Pg_waiting Pg) (Pg_waitingCount Pg) (Pg_moved Pg)) Pt Mk Lk Ck Jd Ld Pr)) C in_Pg t_Pg t_Pg_ok n_Pg hP (hDD _ _ _ _ _ _ _ _ _ _ _ _ _) hS 25 cw_25 rfl 4 (by decide) k_1_124 rfl rfl (by decide +kernel) rfl rfl (Nat.le_of_ble_eq_true rfl) rfl d_Pg_addRange_66 (fun H locs hP hS => ?_)
        cases h
        exact o_rv C hP hS d_Pg_addRange_69
set_option maxHeartbeats 4000000 in
set_option maxRecDepth 100000 in
theorem w_Pt_readSet_j129 {E : (Nat → Prop) → State → Heap → Prop} {p : Program} {l : Launch} {e : Env} {s : State} {m : MethodId} {args : Array Value} {below : List Frame} {meth : Method} {c : Code} {D : va_G} {ad kd sd : Nat → Nat} {ca : Nat → ClassId} {A : Nat → Prop} {Q : State → Prop} (hE : o_EK E kd sd) (C : o_Cx E p s m args meth c D o_cls (o_tys ca) "SchemaJudge$Pattern" b_Pt_readSet (some .int) 5 cc_Pt_readSet A) (hDD : ∀ (rt : Nat) (Sj : SSJ) (T0 : STx) (T1 : STx) (Rd : SRd) (Pg : SPg) (Pt : SPt) (Mk : SMk) (Lk : SLk) (Ck : SCk) (Jd : SJd) (Ld : SLd) (Pr : SPr), va_D A (o_cw ad ca rt Sj T0 T1 Rd Pg Pt Mk Lk Ck Jd Ld Pr)) (n : Nat) (u40_x1 : Int32) (u40_Sj : SSJ) (u40_T0 : STx) (u40_T1 : STx) (u40_Rd : SRd) (u40_Mk : SMk) (u40_Lk : SLk) (u40_Ck : SCk) (u40_Jd : SJd) (u40_Ld : SLd) (u40_Pr : SPr) (u40_rt : Nat) (x2 : Int32) (x3 : Int32) (x4 : Int32) (Pg : SPg) (Pt : SPt) {q : Nat × Int32 × SPg × SPt} (h : m_Pt_readSet_j129 n u40_x1 x2 x3 x4 Pg Pt = some q) (h0 : q.1 = 0 → o_At p l e rm_Pt_readSet s m args below meth c Q o_cls D A 5 40 [] (o_cw ad ca u40_rt u40_Sj u40_T0 u40_T1 u40_Rd q.2.2.1 q.2.2.2 u40_Mk u40_Lk u40_Ck u40_Jd u40_Ld u40_Pr) [(0, .ref (ad 33)), (1, .int u40_x1), (2, .int q.2.1)]) (h1 : q.1 ≠ 0 → (if q.1 = 1 then o_At p l e rm_Pt_readSet s m args below meth c Q o_cls D A 5 70 [] (o_cw ad ca u40_rt u40_Sj u40_T0 u40_T1 u40_Rd q.2.2.1 q.2.2.2 u40_Mk u40_Lk u40_Ck u40_Jd u40_Ld u40_Pr) [(1, .int u40_x1)] else if q.1 = 2 then o_At p l e rm_Pt_readSet s m args below meth c Q o_cls D A 5 127 [] (o_cw ad ca u40_rt u40_Sj u40_T0 u40_T1 u40_Rd q.2.2.1 q.2.2.2 u40_Mk u40_Lk u40_Ck u40_Jd u40_Ld u40_Pr) [] else if q.1 = 3 then o_At p l e rm_Pt_readSet s m args below meth c Q o_cls D A 5 150 [] (o_cw ad ca u40_rt u40_Sj u40_T0 u40_T1 u40_Rd q.2.2.1 q.2.2.2 u40_Mk u40_Lk u40_Ck u40_Jd u40_Ld u40_Pr) [] else o_At p l e rm_Pt_readSet s m args below meth c Q o_cls D A 5 197 [] (o_cw ad ca u40_rt u40_Sj u40_T0 u40_T1 u40_Rd q.2.2.1 q.2.2.2 u40_Mk u40_Lk u40_Ck u40_Jd u40_Ld u40_Pr) [])) : o_At p l e rm_Pt_readSet s m args below meth c Q o_cls D A 5 129 [] (o_cw ad ca u40_rt u40_Sj u40_T0 u40_T1 u40_Rd Pg Pt u40_Mk u40_Lk u40_Ck u40_Jd u40_Ld u40_Pr) [(0, .ref (ad 33)), (1, .int u40_x1), (2, .int x2), (3, .int x3), (4, .int x4)] := by
  unfold m_Pt_readSet_j129 at h
  intro H locs ls hP hS hl
  have C0 := C
  obtain ⟨hx, hb, -, -, -, hown, hts, hK, -, -⟩ := C0
  refine lv_iload_n hx hb d_Pt_readSet_129 rfl (lv_at hl 3 rfl) ?_
  refine lv_if_lt (tgt := 150) hx hb d_Pt_readSet_130 (by decide) (fun c5 => ?_) (fun c5 => ?_)
  · replace h := o_tt c5 h
    cases h
    exact h1 (Nat.succ_ne_zero 2) _ _ _ hP hS (lv_sub hl [] rfl)
  · replace h := o_ff c5 h
    refine lv_iload hx hb d_Pt_readSet_133 (lv_at hl 4 rfl) ?_
    refine lv_if_lt (tgt := 150) hx hb d_Pt_readSet_135 (by decide) (fun c6 => ?_) (fun c6 => ?_)
    · replace h := o_tt c6 h
      cases h
      exact h1 (Nat.succ_ne_zero 2) _ _ _ hP hS (lv_sub hl [] rfl)
    · replace h := o_ff c6 h
      refine lv_iload_n hx hb d_Pt_readSet_138 rfl (lv_at hl 3 rfl) ?_
      refine lv_ldc (v := (2097151:Int32)) hx hb hown (hts _ k_5_23) d_Pt_readSet_139 ?_
      refine lv_iand hx hb d_Pt_readSet_141 ?_
      refine lv_iload hx hb d_Pt_readSet_142 (lv_at hl 4 rfl) ?_
      refine lv_ldc (v := (2097151:Int32)) hx hb hown (hts _ k_5_23) d_Pt_readSet_144 ?_
      refine lv_iand hx hb d_Pt_readSet_146 ?_
      refine lv_icmp_le (tgt := 152) hx hb d_Pt_readSet_147 (by decide) (fun c7 => ?_) (fun c7 => ?_)
      · replace h := o_tt c7 h
        refine lv_iload_n hx hb d_Pt_readSet_152 rfl (lv_at hl 3 rfl) ?_
        refine lv_ldc (v := (4194304:Int32)) hx hb hown (hts _ k_4_199) d_Pt_readSet_153 ?_
        refine lv_iand hx hb d_Pt_readSet_155 ?_
        refine lv_if_eq (tgt := 174) hx hb d_Pt_readSet_156 (by decide) (fun c8 => ?_) (fun c8 => ?_)
        · replace h := o_tt c8 h
          refine lv_aload_n hx hb d_Pt_readSet_174 rfl (lv_at hl 0 rfl) ?_
          refine o_get (v := .ref (ad 25)) C in_Pt hP 33 cw_33 rfl 0 (by decide) k_1_160 rfl rfl d_Pt_readSet_175 ?_
          refine lv_iload_n hx hb d_Pt_readSet_178 rfl (lv_at hl 1 rfl) ?_
          refine lv_iload_n hx hb d_Pt_readSet_179 rfl (lv_at hl 3 rfl) ?_
          refine lv_ldc (v := (2097151:Int32)) hx hb hown (hts _ k_5_23) d_Pt_readSet_180 ?_
          refine lv_iand hx hb d_Pt_readSet_182 ?_
          refine lv_iload hx hb d_Pt_readSet_183 (lv_at hl 4 rfl) ?_
          refine lv_ldc (v := (2097151:Int32)) hx hb hown (hts _ k_5_23) d_Pt_readSet_185 ?_
          refine lv_iand hx hb d_Pt_readSet_187 ?_
          obtain ⟨q5, hq5, h⟩ := o_bd_some h
          refine o_V (st1 := []) (w1 := (o_cw ad ca u40_rt u40_Sj u40_T0 u40_T1 u40_Rd q5 Pt u40_Mk u40_Lk u40_Ck u40_Jd u40_Ld u40_Pr)) hE.1 C (c_Pg_addRange hE l u40_x1 (x3 &&& (2097151:Int32)) (x4 &&& (2097151:Int32)) Pg u40_Sj u40_T0 u40_T1 u40_Rd Pt u40_Mk u40_Lk u40_Ck u40_Jd u40_Ld u40_Pr u40_rt hq5) hP (hDD _ _ _ _ _ _ _ _ _ _ _ _ _) hS hl.1 rfl cw_25 k_5_25 k_5_26 k_5_27 k_1_4 k_5_28 hv_Pg_addRange rfl rfl ⟨Nat.le_of_ble_eq_true rfl, Nat.le_of_ble_eq_true rfl⟩ rfl (Nat.le_of_ble_eq_true rfl) ⟨Nat.le_of_ble_eq_true rfl, Nat.le_of_ble_eq_true rfl⟩ rfl d_Pt_readSet_188 (fun H locs hP hS => ?_)
          obtain ⟨x2_191, ex2_191⟩ : ∃ y : Int32, y = x2 + (1:Int32) := ⟨_, rfl⟩
          replace h := o_nm_at ex2_191 h
          refine lv_iinc (v := x2_191) (lv' := [(2, .int x2_191), (0, .ref (ad 33)), (1, .int u40_x1), (3, .int x3), (4, .int x4)]) hx hb d_Pt_readSet_191 hl (k := 2) rfl (by rw [ex2_191]; rfl) (by decide) rfl (fun ls hl => ?_)
          refine lv_goto (tgt := 40) hx hb d_Pt_readSet_194 (by decide) ?_
          cases h
          exact h0 rfl _ _ _ hP hS (lv_sub hl [1, 2, 0] rfl)
        · replace h := o_ff c8 h
          refine lv_aload_n hx hb d_Pt_readSet_159 rfl (lv_at hl 0 rfl) ?_
          refine o_get (v := .ref (ad 25)) C in_Pt hP 33 cw_33 rfl 0 (by decide) k_1_160 rfl rfl d_Pt_readSet_160 ?_
          refine lv_iload_n hx hb d_Pt_readSet_163 rfl (lv_at hl 1 rfl) ?_
          refine lv_iload_n hx hb d_Pt_readSet_164 rfl (lv_at hl 3 rfl) ?_
          refine lv_ldc (v := (-4194305:Int32)) hx hb hown (hts _ k_5_24) d_Pt_readSet_165 ?_
          refine lv_iand hx hb d_Pt_readSet_167 ?_
          obtain ⟨q6, hq6, h⟩ := o_bd_some h
          refine o_V (st1 := []) (w1 := (o_cw ad ca u40_rt u40_Sj u40_T0 u40_T1 u40_Rd q6 Pt u40_Mk u40_Lk u40_Ck u40_Jd u40_Ld u40_Pr)) hE.1 C (c_Pg_addClass hE l u40_x1 (x3 &&& (-4194305:Int32)) Pg u40_Sj u40_T0 u40_T1 u40_Rd Pt u40_Mk u40_Lk u40_Ck u40_Jd u40_Ld u40_Pr u40_rt hq6) hP (hDD _ _ _ _ _ _ _ _ _ _ _ _ _) hS hl.1 rfl cw_25 k_5_19 k_5_20 k_5_21 k_1_4 k_5_22 hv_Pg_addClass rfl rfl ⟨Nat.le_of_ble_eq_true rfl, Nat.le_of_ble_eq_true rfl⟩ rfl (Nat.le_of_ble_eq_true rfl) ⟨Nat.le_of_ble_eq_true rfl, Nat.le_of_ble_eq_true rfl⟩ rfl d_Pt_readSet_168 (fun H locs hP hS => ?_)
          refine lv_goto (tgt := 191) hx hb d_Pt_readSet_171 (by decide) ?_
          obtain ⟨x2_191, ex2_191⟩ : ∃ y : Int32, y = x2 + (1:Int32) := ⟨_, rfl⟩
          replace h := o_nm_at ex2_191 h
          refine lv_iinc (v := x2_191) (lv' := [(2, .int x2_191), (0, .ref (ad 33)), (1, .int u40_x1), (3, .int x3), (4, .int x4)]) hx hb d_Pt_readSet_191 hl (k := 2) rfl (by rw [ex2_191]; rfl) (by decide) rfl (fun ls hl => ?_)
          refine lv_goto (tgt := 40) hx hb d_Pt_readSet_194 (by decide) ?_
          cases h
          exact h0 rfl _ _ _ hP hS (lv_sub hl [1, 2, 0] rfl)
      · replace h := o_ff c7 h
        cases h
        exact h1 (Nat.succ_ne_zero 2) _ _ _ hP hS (lv_sub hl [] rfl)
set_option maxHeartbeats 4000000 in
set_option maxRecDepth 100000 in
theorem w_Pt_readSet_b40 {E : (Nat → Prop) → State → Heap → Prop} {p : Program} {l : Launch} {e : Env} {s : State} {m : MethodId} {args : Array Value} {below : List Frame} {meth : Method} {c : Code} {D : va_G} {ad kd sd : Nat → Nat} {ca : Nat → ClassId} {A : Nat → Prop} {Q : State → Prop} (hE : o_EK E kd sd) (C : o_Cx E p s m args meth c D o_cls (o_tys ca) "SchemaJudge$Pattern" b_Pt_readSet (some .int) 5 cc_Pt_readSet A) (hDD : ∀ (rt : Nat) (Sj : SSJ) (T0 : STx) (T1 : STx) (Rd : SRd) (Pg : SPg) (Pt : SPt) (Mk : SMk) (Lk : SLk) (Ck : SCk) (Jd : SJd) (Ld : SLd) (Pr : SPr), va_D A (o_cw ad ca rt Sj T0 T1 Rd Pg Pt Mk Lk Ck Jd Ld Pr)) (n : Nat) (u40_x1 : Int32) (u40_Sj : SSJ) (u40_T0 : STx) (u40_T1 : STx) (u40_Rd : SRd) (u40_Mk : SMk) (u40_Lk : SLk) (u40_Ck : SCk) (u40_Jd : SJd) (u40_Ld : SLd) (u40_Pr : SPr) (u40_rt : Nat) (z : Int32 × SPg × SPt) (q : Nat × Int32 × SPg × SPt) (h : m_Pt_readSet_b40 n u40_x1 z = some q) (h0 : q.1 = 0 → o_At p l e rm_Pt_readSet s m args below meth c Q o_cls D A 5 40 [] (o_cw ad ca u40_rt u40_Sj u40_T0 u40_T1 u40_Rd q.2.2.1 q.2.2.2 u40_Mk u40_Lk u40_Ck u40_Jd u40_Ld u40_Pr) [(0, .ref (ad 33)), (1, .int u40_x1), (2, .int q.2.1)]) (h1 : q.1 ≠ 0 → (if q.1 = 1 then o_At p l e rm_Pt_readSet s m args below meth c Q o_cls D A 5 70 [] (o_cw ad ca u40_rt u40_Sj u40_T0 u40_T1 u40_Rd q.2.2.1 q.2.2.2 u40_Mk u40_Lk u40_Ck u40_Jd u40_Ld u40_Pr) [(1, .int u40_x1)] else if q.1 = 2 then o_At p l e rm_Pt_readSet s m args below meth c Q o_cls D A 5 127 [] (o_cw ad ca u40_rt u40_Sj u40_T0 u40_T1 u40_Rd q.2.2.1 q.2.2.2 u40_Mk u40_Lk u40_Ck u40_Jd u40_Ld u40_Pr) [] else if q.1 = 3 then o_At p l e rm_Pt_readSet s m args below meth c Q o_cls D A 5 150 [] (o_cw ad ca u40_rt u40_Sj u40_T0 u40_T1 u40_Rd q.2.2.1 q.2.2.2 u40_Mk u40_Lk u40_Ck u40_Jd u40_Ld u40_Pr) [] else o_At p l e rm_Pt_readSet s m args below meth c Q o_cls D A 5 197 [] (o_cw ad ca u40_rt u40_Sj u40_T0 u40_T1 u40_Rd q.2.2.1 q.2.2.2 u40_Mk u40_Lk u40_Ck u40_Jd u40_Ld u40_Pr) [])) : o_At p l e rm_Pt_readSet s m args below meth c Q o_cls D A 5 40 [] (o_cw ad ca u40_rt u40_Sj u40_T0 u40_T1 u40_Rd z.2.1 z.2.2 u40_Mk u40_Lk u40_Ck u40_Jd u40_Ld u40_Pr) [(0, .ref (ad 33)), (1, .int u40_x1), (2, .int z.1)] := by
  unfold m_Pt_readSet_b40 at h
  intro H locs ls hP hS hl
  have C0 := C
  obtain ⟨hx, hb, -, -, -, hown, hts, hK, -, -⟩ := C0
  refine lv_iload_n hx hb d_Pt_readSet_40 rfl (lv_at hl 2 rfl) ?_
  refine lv_aload_n hx hb d_Pt_readSet_41 rfl (lv_at hl 0 rfl) ?_
  refine o_get (v := .int (Pt_tokenCount z.2.2)) C in_Pt hP 33 cw_33 rfl 3 (by decide) k_1_163 rfl rfl d_Pt_readSet_42 ?_
  refine lv_icmp_ge (tgt := 197) hx hb d_Pt_readSet_45 (by decide) (fun c2 => ?_) (fun c2 => ?_)
  · replace h := o_tt c2 h
    cases h
    exact h1 (Nat.succ_ne_zero 3) _ _ _ hP hS (lv_sub hl [] rfl)
  · replace h := o_ff c2 h
    refine lv_aload_n hx hb d_Pt_readSet_48 rfl (lv_at hl 0 rfl) ?_
    refine lv_iconst (v := (0:Int32)) hx hb d_Pt_readSet_49 (by decide) ?_
    obtain ⟨q3, hq3, h⟩ := o_bd_some h
    refine o_V (st1 := [.int q3]) (w1 := (o_cw ad ca u40_rt u40_Sj u40_T0 u40_T1 u40_Rd z.2.1 z.2.2 u40_Mk u40_Lk u40_Ck u40_Jd u40_Ld u40_Pr)) hE.1 C (c_Pt_peek hE l (0:Int32) z.2.2 u40_Sj u40_T0 u40_T1 u40_Rd z.2.1 u40_Mk u40_Lk u40_Ck u40_Jd u40_Ld u40_Pr u40_rt hq3) hP (hDD _ _ _ _ _ _ _ _ _ _ _ _ _) hS hl.1 rfl cw_33 k_4_214 k_4_216 k_s_28 k_1_5 k_4_217 hv_Pt_peek rfl rfl ⟨Nat.le_of_ble_eq_true rfl, Nat.le_of_ble_eq_true rfl⟩ rfl (Nat.le_of_ble_eq_true rfl) ⟨Nat.le_of_ble_eq_true rfl, Nat.le_of_ble_eq_true rfl⟩ rfl d_Pt_readSet_50 (fun H locs hP hS => ?_)
    refine lv_istore_n (lv' := [(3, .int q3), (0, .ref (ad 33)), (1, .int u40_x1), (2, .int z.1)]) hx hb d_Pt_readSet_53 rfl hl (by decide) rfl (fun ls hl => ?_)
    refine lv_aload_n hx hb d_Pt_readSet_54 rfl (lv_at hl 1 rfl) ?_
    refine lv_dup hx hb d_Pt_readSet_55 rfl ?_
    refine o_get (v := .int (Pt_position z.2.2)) C in_Pt hP 33 cw_33 rfl 4 (by decide) k_1_164 rfl rfl d_Pt_readSet_56 ?_
    refine lv_iconst (v := (1:Int32)) hx hb d_Pt_readSet_59 (by decide) ?_
    refine lv_iadd hx hb d_Pt_readSet_60 ?_
    refine o_put (v := .int ((Pt_position z.2.2) + (1:Int32))) (ty := .int) (w1 := (o_cw ad ca u40_rt u40_Sj u40_T0 u40_T1 u40_Rd z.2.1 (Pt_mk (Pt_tokens z.2.2) (Pt_characterCount z.2.2) (Pt_tokenCount z.2.2) ((Pt_position z.2.2) + (1:Int32)) (Pt_total z.2.2) (Pt_least z.2.2) (Pt_most z.2.2) (Pt_depth z.2.2) (Pt_blockStarts z.2.2) (Pt_branchStarts z.2.2) (Pt_jumps z.2.2) (Pt_sizesBefore z.2.2)) u40_Mk u40_Lk u40_Ck u40_Jd u40_Ld u40_Pr)) C in_Pt t_Pt t_Pt_ok n_Pt hP (hDD _ _ _ _ _ _ _ _ _ _ _ _ _) hS 33 cw_33 rfl 4 (by decide) k_1_164 rfl rfl (by decide +kernel) rfl rfl (Nat.le_of_ble_eq_true rfl) rfl d_Pt_readSet_61 (fun H locs hP hS => ?_)
    refine lv_iload_n hx hb d_Pt_readSet_64 rfl (lv_at hl 0 rfl) ?_
    refine lv_bipush (v := (-93:Int32)) hx hb d_Pt_readSet_65 (by decide) ?_
    refine lv_icmp_ne (tgt := 72) hx hb d_Pt_readSet_67 (by decide) (fun c3 => ?_) (fun c3 => ?_)
    · replace h := o_ff c3 h
      refine lv_iload_n hx hb d_Pt_readSet_72 rfl (lv_at hl 0 rfl) ?_
      refine lv_istore (lv' := [(4, .int q3), (3, .int q3), (0, .ref (ad 33)), (1, .int u40_x1), (2, .int z.1)]) hx hb d_Pt_readSet_73 hl (by decide) rfl (fun ls hl => ?_)
      refine lv_aload_n hx hb d_Pt_readSet_75 rfl (lv_at hl 2 rfl) ?_
      refine lv_iconst (v := (0:Int32)) hx hb d_Pt_readSet_76 (by decide) ?_
      obtain ⟨q4, hq4, h⟩ := o_bd_some h
      refine o_V (st1 := [.int q4]) (w1 := (o_cw ad ca u40_rt u40_Sj u40_T0 u40_T1 u40_Rd z.2.1 (Pt_mk (Pt_tokens z.2.2) (Pt_characterCount z.2.2) (Pt_tokenCount z.2.2) ((Pt_position z.2.2) + (1:Int32)) (Pt_total z.2.2) (Pt_least z.2.2) (Pt_most z.2.2) (Pt_depth z.2.2) (Pt_blockStarts z.2.2) (Pt_branchStarts z.2.2) (Pt_jumps z.2.2) (Pt_sizesBefore z.2.2)) u40_Mk u40_Lk u40_Ck u40_Jd u40_Ld u40_Pr)) hE.1 C (c_Pt_peek hE l (0:Int32) (Pt_mk (Pt_tokens z.2.2) (Pt_characterCount z.2.2) (Pt_tokenCount z.2.2) ((Pt_position z.2.2) + (1:Int32)) (Pt_total z.2.2) (Pt_least z.2.2) (Pt_most z.2.2) (Pt_depth z.2.2) (Pt_blockStarts z.2.2) (Pt_branchStarts z.2.2) (Pt_jumps z.2.2) (Pt_sizesBefore z.2.2)) u40_Sj u40_T0 u40_T1 u40_Rd z.2.1 u40_Mk u40_Lk u40_Ck u40_Jd u40_Ld u40_Pr u40_rt hq4) hP (hDD _ _ _ _ _ _ _ _ _ _ _ _ _) hS hl.1 rfl cw_33 k_4_214 k_4_216 k_s_28 k_1_5 k_4_217 hv_Pt_peek rfl rfl ⟨Nat.le_of_ble_eq_true rfl, Nat.le_of_ble_eq_true rfl⟩ rfl (Nat.le_of_ble_eq_true rfl) ⟨Nat.le_of_ble_eq_true rfl, Nat.le_of_ble_eq_true rfl⟩ rfl d_Pt_readSet_77 (fun H locs hP hS => ?_)
      refine lv_bipush (v := (45:Int32)) hx hb d_Pt_readSet_80 (by decide) ?_
      refine lv_icmp_ne (tgt := 129) hx hb d_Pt_readSet_82 (by decide) (fun c4 => ?_) (fun c4 => ?_)
      · replace h := o_ff c4 h
        exact w_Pt_readSet_j129 hE C hDD n u40_x1 u40_Sj u40_T0 u40_T1 u40_Rd u40_Mk u40_Lk u40_Ck u40_Jd u40_Ld u40_Pr u40_rt z.1 q3 q3 z.2.1 (Pt_mk (Pt_tokens z.2.2) (Pt_characterCount z.2.2) (Pt_tokenCount z.2.2) ((Pt_position z.2.2) + (1:Int32)) (Pt_total z.2.2) (Pt_least z.2.2) (Pt_most z.2.2) (Pt_depth z.2.2) (Pt_blockStarts z.2.2) (Pt_branchStarts z.2.2) (Pt_jumps z.2.2) (Pt_sizesBefore z.2.2)) h h0 h1 _ _ _ hP hS (lv_sub hl [2, 3, 4, 1, 0] rfl)
      · replace h := o_tt c4 h
        refine lv_aload_n hx hb d_Pt_readSet_85 rfl (lv_at hl 2 rfl) ?_
        refine lv_iconst (v := (1:Int32)) hx hb d_Pt_readSet_86 (by decide) ?_
        obtain ⟨q7, hq7, h⟩ := o_bd_some h
        refine o_V (st1 := [.int q7]) (w1 := (o_cw ad ca u40_rt u40_Sj u40_T0 u40_T1 u40_Rd z.2.1 (Pt_mk (Pt_tokens z.2.2) (Pt_characterCount z.2.2) (Pt_tokenCount z.2.2) ((Pt_position z.2.2) + (1:Int32)) (Pt_total z.2.2) (Pt_least z.2.2) (Pt_most z.2.2) (Pt_depth z.2.2) (Pt_blockStarts z.2.2) (Pt_branchStarts z.2.2) (Pt_jumps z.2.2) (Pt_sizesBefore z.2.2)) u40_Mk u40_Lk u40_Ck u40_Jd u40_Ld u40_Pr)) hE.1 C (c_Pt_peek hE l (1:Int32) (Pt_mk (Pt_tokens z.2.2) (Pt_characterCount z.2.2) (Pt_tokenCount z.2.2) ((Pt_position z.2.2) + (1:Int32)) (Pt_total z.2.2) (Pt_least z.2.2) (Pt_most z.2.2) (Pt_depth z.2.2) (Pt_blockStarts z.2.2) (Pt_branchStarts z.2.2) (Pt_jumps z.2.2) (Pt_sizesBefore z.2.2)) u40_Sj u40_T0 u40_T1 u40_Rd z.2.1 u40_Mk u40_Lk u40_Ck u40_Jd u40_Ld u40_Pr u40_rt hq7) hP (hDD _ _ _ _ _ _ _ _ _ _ _ _ _) hS hl.1 rfl cw_33 k_4_214 k_4_216 k_s_28 k_1_5 k_4_217 hv_Pt_peek rfl rfl ⟨Nat.le_of_ble_eq_true rfl, Nat.le_of_ble_eq_true rfl⟩ rfl (Nat.le_of_ble_eq_true rfl) ⟨Nat.le_of_ble_eq_true rfl, Nat.le_of_ble_eq_true rfl⟩ rfl d_Pt_readSet_87 (fun H locs hP hS => ?_)
        refine lv_bipush (v := (-93:Int32)) hx hb d_Pt_readSet_90 (by decide) ?_
        refine lv_icmp_eq (tgt := 129) hx hb d_Pt_readSet_92 (by decide) (fun c9 => ?_) (fun c9 => ?_)
        · replace h := o_tt c9 h
          exact w_Pt_readSet_j129 hE C hDD n u40_x1 u40_Sj u40_T0 u40_T1 u40_Rd u40_Mk u40_Lk u40_Ck u40_Jd u40_Ld u40_Pr u40_rt z.1 q3 q3 z.2.1 (Pt_mk (Pt_tokens z.2.2) (Pt_characterCount z.2.2) (Pt_tokenCount z.2.2) ((Pt_position z.2.2) + (1:Int32)) (Pt_total z.2.2) (Pt_least z.2.2) (Pt_most z.2.2) (Pt_depth z.2.2) (Pt_blockStarts z.2.2) (Pt_branchStarts z.2.2) (Pt_jumps z.2.2) (Pt_sizesBefore z.2.2)) h h0 h1 _ _ _ hP hS (lv_sub hl [2, 3, 4, 1, 0] rfl)
        · replace h := o_ff c9 h
          refine lv_aload_n hx hb d_Pt_readSet_95 rfl (lv_at hl 2 rfl) ?_
          refine lv_iconst (v := (1:Int32)) hx hb d_Pt_readSet_96 (by decide) ?_
          obtain ⟨q8, hq8, h⟩ := o_bd_some h
          refine o_V (st1 := [.int q8]) (w1 := (o_cw ad ca u40_rt u40_Sj u40_T0 u40_T1 u40_Rd z.2.1 (Pt_mk (Pt_tokens z.2.2) (Pt_characterCount z.2.2) (Pt_tokenCount z.2.2) ((Pt_position z.2.2) + (1:Int32)) (Pt_total z.2.2) (Pt_least z.2.2) (Pt_most z.2.2) (Pt_depth z.2.2) (Pt_blockStarts z.2.2) (Pt_branchStarts z.2.2) (Pt_jumps z.2.2) (Pt_sizesBefore z.2.2)) u40_Mk u40_Lk u40_Ck u40_Jd u40_Ld u40_Pr)) hE.1 C (c_Pt_peek hE l (1:Int32) (Pt_mk (Pt_tokens z.2.2) (Pt_characterCount z.2.2) (Pt_tokenCount z.2.2) ((Pt_position z.2.2) + (1:Int32)) (Pt_total z.2.2) (Pt_least z.2.2) (Pt_most z.2.2) (Pt_depth z.2.2) (Pt_blockStarts z.2.2) (Pt_branchStarts z.2.2) (Pt_jumps z.2.2) (Pt_sizesBefore z.2.2)) u40_Sj u40_T0 u40_T1 u40_Rd z.2.1 u40_Mk u40_Lk u40_Ck u40_Jd u40_Ld u40_Pr u40_rt hq8) hP (hDD _ _ _ _ _ _ _ _ _ _ _ _ _) hS hl.1 rfl cw_33 k_4_214 k_4_216 k_s_28 k_1_5 k_4_217 hv_Pt_peek rfl rfl ⟨Nat.le_of_ble_eq_true rfl, Nat.le_of_ble_eq_true rfl⟩ rfl (Nat.le_of_ble_eq_true rfl) ⟨Nat.le_of_ble_eq_true rfl, Nat.le_of_ble_eq_true rfl⟩ rfl d_Pt_readSet_97 (fun H locs hP hS => ?_)
          refine lv_istore (lv' := [(4, .int q8), (3, .int q3), (0, .ref (ad 33)), (1, .int u40_x1), (2, .int z.1)]) hx hb d_Pt_readSet_100 hl (by decide) rfl (fun ls hl => ?_)
          refine lv_aload_n hx hb d_Pt_readSet_102 rfl (lv_at hl 2 rfl) ?_
          refine lv_dup hx hb d_Pt_readSet_103 rfl ?_
          refine o_get (v := .int ((Pt_position z.2.2) + (1:Int32))) C in_Pt hP 33 cw_33 rfl 4 (by decide) k_1_164 rfl rfl d_Pt_readSet_104 ?_
          refine lv_iconst (v := (2:Int32)) hx hb d_Pt_readSet_107 (by decide) ?_
          refine lv_iadd hx hb d_Pt_readSet_108 ?_
          refine o_put (v := .int (((Pt_position z.2.2) + (1:Int32)) + (2:Int32))) (ty := .int) (w1 := (o_cw ad ca u40_rt u40_Sj u40_T0 u40_T1 u40_Rd z.2.1 (Pt_mk (Pt_tokens z.2.2) (Pt_characterCount z.2.2) (Pt_tokenCount z.2.2) (((Pt_position z.2.2) + (1:Int32)) + (2:Int32)) (Pt_total z.2.2) (Pt_least z.2.2) (Pt_most z.2.2) (Pt_depth z.2.2) (Pt_blockStarts z.2.2) (Pt_branchStarts z.2.2) (Pt_jumps z.2.2) (Pt_sizesBefore z.2.2)) u40_Mk u40_Lk u40_Ck u40_Jd u40_Ld u40_Pr)) C in_Pt t_Pt t_Pt_ok n_Pt hP (hDD _ _ _ _ _ _ _ _ _ _ _ _ _) hS 33 cw_33 rfl 4 (by decide) k_1_164 rfl rfl (by decide +kernel) rfl rfl (Nat.le_of_ble_eq_true rfl) rfl d_Pt_readSet_109 (fun H locs hP hS => ?_)
          refine lv_iload_n hx hb d_Pt_readSet_112 rfl (lv_at hl 1 rfl) ?_
          refine lv_ldc (v := (4194304:Int32)) hx hb hown (hts _ k_4_199) d_Pt_readSet_113 ?_
          refine lv_iand hx hb d_Pt_readSet_115 ?_
          refine lv_if_ne (tgt := 127) hx hb d_Pt_readSet_116 (by decide) (fun c10 => ?_) (fun c10 => ?_)
          · replace h := o_ff c10 h
            cases h
            exact h1 (Nat.succ_ne_zero 1) _ _ _ hP hS (lv_sub hl [] rfl)
          · replace h := o_tt c10 h
            refine lv_iload hx hb d_Pt_readSet_119 (lv_at hl 0 rfl) ?_
            refine lv_ldc (v := (4194304:Int32)) hx hb hown (hts _ k_4_199) d_Pt_readSet_121 ?_
            refine lv_iand hx hb d_Pt_readSet_123 ?_
            refine lv_if_eq (tgt := 129) hx hb d_Pt_readSet_124 (by decide) (fun c11 => ?_) (fun c11 => ?_)
            · replace h := o_tt c11 h
              exact w_Pt_readSet_j129 hE C hDD n u40_x1 u40_Sj u40_T0 u40_T1 u40_Rd u40_Mk u40_Lk u40_Ck u40_Jd u40_Ld u40_Pr u40_rt z.1 q3 q8 z.2.1 (Pt_mk (Pt_tokens z.2.2) (Pt_characterCount z.2.2) (Pt_tokenCount z.2.2) (((Pt_position z.2.2) + (1:Int32)) + (2:Int32)) (Pt_total z.2.2) (Pt_least z.2.2) (Pt_most z.2.2) (Pt_depth z.2.2) (Pt_blockStarts z.2.2) (Pt_branchStarts z.2.2) (Pt_jumps z.2.2) (Pt_sizesBefore z.2.2)) h h0 h1 _ _ _ hP hS (lv_sub hl [2, 3, 4, 1, 0] rfl)
            · replace h := o_ff c11 h
              cases h
              exact h1 (Nat.succ_ne_zero 1) _ _ _ hP hS (lv_sub hl [] rfl)
    · replace h := o_tt c3 h
      cases h
      exact h1 (Nat.succ_ne_zero 0) _ _ _ hP hS (lv_sub hl [2] rfl)
set_option maxHeartbeats 4000000 in
set_option maxRecDepth 100000 in
theorem c_Pt_readSet {E : (Nat → Prop) → State → Heap → Prop} {D : va_G} {ad kd sd : Nat → Nat} {ca : Nat → ClassId} (hE : o_EK E kd sd) (l : Launch) (n : Nat)  (Pg : SPg) (Pt : SPt) (Sj : SSJ) (T0 : STx) (T1 : STx) (Rd : SRd) (Mk : SMk) (Lk : SLk) (Ck : SCk) (Jd : SJd) (Ld : SLd) (Pr : SPr) (rt : Nat) {r : Int32 × SPg × SPt} (h : m_Pt_readSet n Pg Pt = some r) : o_Cn E l D o_cls (o_tys ca) y_Pt_readSet cc_Pt_readSet rm_Pt_readSet [.ref (ad 33)] (o_cw ad ca rt Sj T0 T1 Rd Pg Pt Mk Lk Ck Jd Ld Pr) (o_cw ad ca rt Sj T0 T1 Rd r.2.1 r.2.2 Mk Lk Ck Jd Ld Pr) (some (.int r.1)) := by
  refine o_Cn_of (by decide) (Nat.le_of_ble_eq_true rfl) ?_
  intro p e s m below meth c A ls C hD hP hS hl
  have hDD : ∀ (rt : Nat) (Sj : SSJ) (T0 : STx) (T1 : STx) (Rd : SRd) (Pg : SPg) (Pt : SPt) (Mk : SMk) (Lk : SLk) (Ck : SCk) (Jd : SJd) (Ld : SLd) (Pr : SPr), va_D A (o_cw ad ca rt Sj T0 T1 Rd Pg Pt Mk Lk Ck Jd Ld Pr) := fun _ _ _ _ _ _ _ _ _ _ _ _ _ => o_D_map hD rfl
  have hl : lv_has ls 5 [(0, .ref (ad 33))] := hl
  unfold m_Pt_readSet at h
  have C0 := C
  obtain ⟨hx, hb, -, -, -, hown, hts, hK, -, -⟩ := C0
  refine lv_aload_n hx hb d_Pt_readSet_0 rfl (lv_at hl 0 rfl) ?_
  refine o_get (v := .ref (ad 25)) C in_Pt hP 33 cw_33 rfl 0 (by decide) k_1_160 rfl rfl d_Pt_readSet_1 ?_
  obtain ⟨q1, hq1, h⟩ := o_bd_some h
  refine o_V (st1 := [.int q1.1]) (w1 := (o_cw ad ca rt Sj T0 T1 Rd q1.2 Pt Mk Lk Ck Jd Ld Pr)) hE.1 C (c_Pg_beginSet hE l Pg Sj T0 T1 Rd Pt Mk Lk Ck Jd Ld Pr rt hq1) hP (hDD _ _ _ _ _ _ _ _ _ _ _ _ _) hS hl.1 rfl cw_25 k_5_15 k_5_16 k_5_17 k_1_4 k_5_18 hv_Pg_beginSet rfl rfl ⟨Nat.le_of_ble_eq_true rfl, Nat.le_of_ble_eq_true rfl⟩ rfl (Nat.le_of_ble_eq_true rfl) ⟨Nat.le_of_ble_eq_true rfl, Nat.le_of_ble_eq_true rfl⟩ rfl d_Pt_readSet_4 (fun H locs hP hS => ?_)
  refine lv_istore_n (lv' := [(1, .int q1.1), (0, .ref (ad 33))]) hx hb d_Pt_readSet_7 rfl hl (by decide) rfl (fun ls hl => ?_)
  refine lv_aload_n hx hb d_Pt_readSet_8 rfl (lv_at hl 1 rfl) ?_
  refine lv_iconst (v := (0:Int32)) hx hb d_Pt_readSet_9 (by decide) ?_
  obtain ⟨q2, hq2, h⟩ := o_bd_some h
  refine o_V (st1 := [.int q2]) (w1 := (o_cw ad ca rt Sj T0 T1 Rd q1.2 Pt Mk Lk Ck Jd Ld Pr)) hE.1 C (c_Pt_peek hE l (0:Int32) Pt Sj T0 T1 Rd q1.2 Mk Lk Ck Jd Ld Pr rt hq2) hP (hDD _ _ _ _ _ _ _ _ _ _ _ _ _) hS hl.1 rfl cw_33 k_4_214 k_4_216 k_s_28 k_1_5 k_4_217 hv_Pt_peek rfl rfl ⟨Nat.le_of_ble_eq_true rfl, Nat.le_of_ble_eq_true rfl⟩ rfl (Nat.le_of_ble_eq_true rfl) ⟨Nat.le_of_ble_eq_true rfl, Nat.le_of_ble_eq_true rfl⟩ rfl d_Pt_readSet_10 (fun H locs hP hS => ?_)
  refine lv_bipush (v := (94:Int32)) hx hb d_Pt_readSet_13 (by decide) ?_
  refine lv_icmp_ne (tgt := 38) hx hb d_Pt_readSet_15 (by decide) (fun c1 => ?_) (fun c1 => ?_)
  · replace h := o_ff c1 h
    refine lv_iconst (v := (0:Int32)) hx hb d_Pt_readSet_38 (by decide) ?_
    refine lv_istore_n (lv' := [(2, .int (0:Int32)), (1, .int q1.1), (0, .ref (ad 33))]) hx hb d_Pt_readSet_39 rfl hl (by decide) rfl (fun ls hl => ?_)
    obtain ⟨q9, hq9, h⟩ := o_bd_some h
    refine o_sim2 (AH := fun zz => o_At p l e rm_Pt_readSet s m _ below meth c _ o_cls D A 5 40 [] (o_cw ad ca rt Sj T0 T1 Rd zz.2.1 zz.2.2 Mk Lk Ck Jd Ld Pr) [(0, .ref (ad 33)), (1, .int q1.1), (2, .int zz.1)]) (AX := fun qq => if qq.1 = 1 then o_At p l e rm_Pt_readSet s m _ below meth c _ o_cls D A 5 70 [] (o_cw ad ca rt Sj T0 T1 Rd qq.2.2.1 qq.2.2.2 Mk Lk Ck Jd Ld Pr) [(1, .int q1.1)] else if qq.1 = 2 then o_At p l e rm_Pt_readSet s m _ below meth c _ o_cls D A 5 127 [] (o_cw ad ca rt Sj T0 T1 Rd qq.2.2.1 qq.2.2.2 Mk Lk Ck Jd Ld Pr) [] else if qq.1 = 3 then o_At p l e rm_Pt_readSet s m _ below meth c _ o_cls D A 5 150 [] (o_cw ad ca rt Sj T0 T1 Rd qq.2.2.1 qq.2.2.2 Mk Lk Ck Jd Ld Pr) [] else o_At p l e rm_Pt_readSet s m _ below meth c _ o_cls D A 5 197 [] (o_cw ad ca rt Sj T0 T1 Rd qq.2.2.1 qq.2.2.2 Mk Lk Ck Jd Ld Pr) []) (fun zz qq h h0 h1 => w_Pt_readSet_b40 hE C hDD n q1.1 Sj T0 T1 Rd Mk Lk Ck Jd Ld Pr rt zz qq h h0 h1) n _ q9 hq9 ?_ _ _ _ hP hS (lv_sub hl [2, 1, 0] rfl)
    by_cases c12 : q9.1 = 1
    · replace h := o_tt c12 h
      refine o_ip c12 ?_
      intro H locs ls hP hS hl
      refine lv_iload_n hx hb d_Pt_readSet_70 rfl (lv_at hl 0 rfl) ?_
      cases h
      exact o_ri C hP hS d_Pt_readSet_71
    replace h := o_ff c12 h
    refine o_in_ c12 ?_
    by_cases c13 : q9.1 = 2
    · replace h := o_tt c13 h
      refine o_ip c13 ?_
      intro H locs ls hP hS hl
      refine lv_iconst (v := (-1:Int32)) hx hb d_Pt_readSet_127 (by decide) ?_
      cases h
      exact o_ri (v := (-1:Int32)) C hP hS d_Pt_readSet_128
    replace h := o_ff c13 h
    refine o_in_ c13 ?_
    by_cases c14 : q9.1 = 3
    · replace h := o_tt c14 h
      refine o_ip c14 ?_
      intro H locs ls hP hS hl
      refine lv_iconst (v := (-1:Int32)) hx hb d_Pt_readSet_150 (by decide) ?_
      cases h
      exact o_ri (v := (-1:Int32)) C hP hS d_Pt_readSet_151
    replace h := o_ff c14 h
    refine o_in_ c14 ?_
    intro H locs ls hP hS hl
    refine lv_iconst (v := (-1:Int32)) hx hb d_Pt_readSet_197 (by decide) ?_
    cases h
    exact o_ri (v := (-1:Int32)) C hP hS d_Pt_readSet_198
  · replace h := o_tt c1 h
    refine lv_aload_n hx hb d_Pt_readSet_18 rfl (lv_at hl 1 rfl) ?_
    refine o_get (v := .ref (ad 25)) C in_Pt hP 33 cw_33 rfl 0 (by decide) k_1_160 rfl rfl d_Pt_readSet_19 ?_
    refine lv_iload_n hx hb d_Pt_readSet_22 rfl (lv_at hl 0 rfl) ?_
    refine lv_bipush (v := (64:Int32)) hx hb d_Pt_readSet_23 (by decide) ?_
    obtain ⟨q10, hq10, h⟩ := o_bd_some h
    refine o_V (st1 := []) (w1 := (o_cw ad ca rt Sj T0 T1 Rd q10 Pt Mk Lk Ck Jd Ld Pr)) hE.1 C (c_Pg_addClass hE l q1.1 (64:Int32) q1.2 Sj T0 T1 Rd Pt Mk Lk Ck Jd Ld Pr rt hq10) hP (hDD _ _ _ _ _ _ _ _ _ _ _ _ _) hS hl.1 rfl cw_25 k_5_19 k_5_20 k_5_21 k_1_4 k_5_22 hv_Pg_addClass rfl rfl ⟨Nat.le_of_ble_eq_true rfl, Nat.le_of_ble_eq_true rfl⟩ rfl (Nat.le_of_ble_eq_true rfl) ⟨Nat.le_of_ble_eq_true rfl, Nat.le_of_ble_eq_true rfl⟩ rfl d_Pt_readSet_25 (fun H locs hP hS => ?_)
    refine lv_aload_n hx hb d_Pt_readSet_28 rfl (lv_at hl 1 rfl) ?_
    refine lv_dup hx hb d_Pt_readSet_29 rfl ?_
    refine o_get (v := .int (Pt_position Pt)) C in_Pt hP 33 cw_33 rfl 4 (by decide) k_1_164 rfl rfl d_Pt_readSet_30 ?_
    refine lv_iconst (v := (1:Int32)) hx hb d_Pt_readSet_33 (by decide) ?_
    refine lv_iadd hx hb d_Pt_readSet_34 ?_
    refine o_put (v := .int ((Pt_position Pt) + (1:Int32))) (ty := .int) (w1 := (o_cw ad ca rt Sj T0 T1 Rd q10 (Pt_mk (Pt_tokens Pt) (Pt_characterCount Pt) (Pt_tokenCount Pt) ((Pt_position Pt) + (1:Int32)) (Pt_total Pt) (Pt_least Pt) (Pt_most Pt) (Pt_depth Pt) (Pt_blockStarts Pt) (Pt_branchStarts Pt) (Pt_jumps Pt) (Pt_sizesBefore Pt)) Mk Lk Ck Jd Ld Pr)) C in_Pt t_Pt t_Pt_ok n_Pt hP (hDD _ _ _ _ _ _ _ _ _ _ _ _ _) hS 33 cw_33 rfl 4 (by decide) k_1_164 rfl rfl (by decide +kernel) rfl rfl (Nat.le_of_ble_eq_true rfl) rfl d_Pt_readSet_35 (fun H locs hP hS => ?_)
    refine lv_iconst (v := (0:Int32)) hx hb d_Pt_readSet_38 (by decide) ?_
    refine lv_istore_n (lv' := [(2, .int (0:Int32)), (1, .int q1.1), (0, .ref (ad 33))]) hx hb d_Pt_readSet_39 rfl hl (by decide) rfl (fun ls hl => ?_)
    obtain ⟨q11, hq11, h⟩ := o_bd_some h
    refine o_sim2 (AH := fun zz => o_At p l e rm_Pt_readSet s m _ below meth c _ o_cls D A 5 40 [] (o_cw ad ca rt Sj T0 T1 Rd zz.2.1 zz.2.2 Mk Lk Ck Jd Ld Pr) [(0, .ref (ad 33)), (1, .int q1.1), (2, .int zz.1)]) (AX := fun qq => if qq.1 = 1 then o_At p l e rm_Pt_readSet s m _ below meth c _ o_cls D A 5 70 [] (o_cw ad ca rt Sj T0 T1 Rd qq.2.2.1 qq.2.2.2 Mk Lk Ck Jd Ld Pr) [(1, .int q1.1)] else if qq.1 = 2 then o_At p l e rm_Pt_readSet s m _ below meth c _ o_cls D A 5 127 [] (o_cw ad ca rt Sj T0 T1 Rd qq.2.2.1 qq.2.2.2 Mk Lk Ck Jd Ld Pr) [] else if qq.1 = 3 then o_At p l e rm_Pt_readSet s m _ below meth c _ o_cls D A 5 150 [] (o_cw ad ca rt Sj T0 T1 Rd qq.2.2.1 qq.2.2.2 Mk Lk Ck Jd Ld Pr) [] else o_At p l e rm_Pt_readSet s m _ below meth c _ o_cls D A 5 197 [] (o_cw ad ca rt Sj T0 T1 Rd qq.2.2.1 qq.2.2.2 Mk Lk Ck Jd Ld Pr) []) (fun zz qq h h0 h1 => w_Pt_readSet_b40 hE C hDD n q1.1 Sj T0 T1 Rd Mk Lk Ck Jd Ld Pr rt zz qq h h0 h1) n _ q11 hq11 ?_ _ _ _ hP hS (lv_sub hl [2, 1, 0] rfl)
    by_cases c15 : q11.1 = 1
    · replace h := o_tt c15 h
      refine o_ip c15 ?_
      intro H locs ls hP hS hl
      refine lv_iload_n hx hb d_Pt_readSet_70 rfl (lv_at hl 0 rfl) ?_
      cases h
      exact o_ri C hP hS d_Pt_readSet_71
    replace h := o_ff c15 h
    refine o_in_ c15 ?_
    by_cases c16 : q11.1 = 2
    · replace h := o_tt c16 h
      refine o_ip c16 ?_
      intro H locs ls hP hS hl
      refine lv_iconst (v := (-1:Int32)) hx hb d_Pt_readSet_127 (by decide) ?_
      cases h
      exact o_ri (v := (-1:Int32)) C hP hS d_Pt_readSet_128
    replace h := o_ff c16 h
    refine o_in_ c16 ?_
    by_cases c17 : q11.1 = 3
    · replace h := o_tt c17 h
      refine o_ip c17 ?_
      intro H locs ls hP hS hl
      refine lv_iconst (v := (-1:Int32)) hx hb d_Pt_readSet_150 (by decide) ?_
      cases h
      exact o_ri (v := (-1:Int32)) C hP hS d_Pt_readSet_151
    replace h := o_ff c17 h
    refine o_in_ c17 ?_
    intro H locs ls hP hS hl
    refine lv_iconst (v := (-1:Int32)) hx hb d_Pt_readSet_197 (by decide) ?_
    cases h
    exact o_ri (v := (-1:Int32)) C hP hS d_Pt_readSet_198
set_option maxHeartbeats 4000000 in
set_option maxRecDepth 100000 in
theorem w_Pt_single_j139 {E : (Nat → Prop) → State → Heap → Prop} {p : Program} {l : Launch} {e : Env} {s : State} {m : MethodId} {args : Array Value} {below : List Frame} {meth : Method} {c : Code} {D : va_G} {ad kd sd : Nat → Nat} {ca : Nat → ClassId} {A : Nat → Prop} (hE : o_EK E kd sd) (C : o_Cx E p s m args meth c D o_cls (o_tys ca) "SchemaJudge$Pattern" b_Pt_single (some .boolean) 3 cc_Pt_single A) (hDD : ∀ (rt : Nat) (Sj : SSJ) (T0 : STx) (T1 : STx) (Rd : SRd) (Pg : SPg) (Pt : SPt) (Mk : SMk) (Lk : SLk) (Ck : SCk) (Jd : SJd) (Ld : SLd) (Pr : SPr), va_D A (o_cw ad ca rt Sj T0 T1 Rd Pg Pt Mk Lk Ck Jd Ld Pr)) (x1 : Int32) (Pg : SPg) (Pt : SPt) (Sj : SSJ) (T0 : STx) (T1 : STx) (Rd : SRd) (Mk : SMk) (Lk : SLk) (Ck : SCk) (Jd : SJd) (Ld : SLd) (Pr : SPr) (rt : Nat) {r : Int32 × SPg × SPt} (h : m_Pt_single_j139 x1 Pg Pt = some r) : o_At p l e rm_Pt_single s m args below meth c (MQ below (o_Qx D o_cls (some (.int r.1)) (o_cw ad ca rt Sj T0 T1 Rd r.2.1 r.2.2 Mk Lk Ck Jd Ld Pr) A) args s 0 0 A) o_cls D A 3 139 [] (o_cw ad ca rt Sj T0 T1 Rd Pg Pt Mk Lk Ck Jd Ld Pr) [(1, .int x1)] := by
  unfold m_Pt_single_j139 at h
  intro H locs ls hP hS hl
  have C0 := C
  obtain ⟨hx, hb, -, -, -, hown, hts, hK, -, -⟩ := C0
  refine lv_iload_n hx hb d_Pt_single_139 rfl (lv_at hl 0 rfl) ?_
  refine lv_if_lt (tgt := 147) hx hb d_Pt_single_140 (by decide) (fun c7 => ?_) (fun c7 => ?_)
  · replace h := o_tt c7 h
    refine lv_iconst (v := (0:Int32)) hx hb d_Pt_single_147 (by decide) ?_
    cases h
    exact o_rz (v := (0:Int32)) C o_nar0 hP hS d_Pt_single_148
  · replace h := o_ff c7 h
    refine lv_iconst (v := (1:Int32)) hx hb d_Pt_single_143 (by decide) ?_
    refine lv_goto (tgt := 148) hx hb d_Pt_single_144 (by decide) ?_
    cases h
    exact o_rz (v := (1:Int32)) C o_nar1 hP hS d_Pt_single_148
set_option maxHeartbeats 4000000 in
set_option maxRecDepth 100000 in
theorem c_Pt_single {E : (Nat → Prop) → State → Heap → Prop} {D : va_G} {ad kd sd : Nat → Nat} {ca : Nat → ClassId} (hE : o_EK E kd sd) (l : Launch) (x1 : Int32) (x2 : Int32) (Pg : SPg) (Pt : SPt) (Sj : SSJ) (T0 : STx) (T1 : STx) (Rd : SRd) (Mk : SMk) (Lk : SLk) (Ck : SCk) (Jd : SJd) (Ld : SLd) (Pr : SPr) (rt : Nat) {r : Int32 × SPg × SPt} (h : m_Pt_single x1 x2 Pg Pt = some r) : o_Cn E l D o_cls (o_tys ca) y_Pt_single cc_Pt_single rm_Pt_single [.ref (ad 33), .int x1, .int x2] (o_cw ad ca rt Sj T0 T1 Rd Pg Pt Mk Lk Ck Jd Ld Pr) (o_cw ad ca rt Sj T0 T1 Rd r.2.1 r.2.2 Mk Lk Ck Jd Ld Pr) (some (.int r.1)) := by
  refine o_Cn_of (by decide) (Nat.le_of_ble_eq_true rfl) ?_
  intro p e s m below meth c A ls C hD hP hS hl
  have hDD : ∀ (rt : Nat) (Sj : SSJ) (T0 : STx) (T1 : STx) (Rd : SRd) (Pg : SPg) (Pt : SPt) (Mk : SMk) (Lk : SLk) (Ck : SCk) (Jd : SJd) (Ld : SLd) (Pr : SPr), va_D A (o_cw ad ca rt Sj T0 T1 Rd Pg Pt Mk Lk Ck Jd Ld Pr) := fun _ _ _ _ _ _ _ _ _ _ _ _ _ => o_D_map hD rfl
  have hl : lv_has ls 3 [(0, .ref (ad 33)), (1, .int x1), (2, .int x2)] := hl
  unfold m_Pt_single at h
  have C0 := C
  obtain ⟨hx, hb, -, -, -, hown, hts, hK, -, -⟩ := C0
  refine lv_aload_n hx hb d_Pt_single_0 rfl (lv_at hl 0 rfl) ?_
  refine lv_dup hx hb d_Pt_single_1 rfl ?_
  refine o_get (v := .int (Pt_total Pt)) C in_Pt hP 33 cw_33 rfl 5 (by decide) k_1_165 rfl rfl d_Pt_single_2 ?_
  refine lv_iconst (v := (1:Int32)) hx hb d_Pt_single_5 (by decide) ?_
  refine lv_iadd hx hb d_Pt_single_6 ?_
  refine o_put (v := .int ((Pt_total Pt) + (1:Int32))) (ty := .int) (w1 := (o_cw ad ca rt Sj T0 T1 Rd Pg (Pt_mk (Pt_tokens Pt) (Pt_characterCount Pt) (Pt_tokenCount Pt) (Pt_position Pt) ((Pt_total Pt) + (1:Int32)) (Pt_least Pt) (Pt_most Pt) (Pt_depth Pt) (Pt_blockStarts Pt) (Pt_branchStarts Pt) (Pt_jumps Pt) (Pt_sizesBefore Pt)) Mk Lk Ck Jd Ld Pr)) C in_Pt t_Pt t_Pt_ok n_Pt hP (hDD _ _ _ _ _ _ _ _ _ _ _ _ _) hS 33 cw_33 rfl 5 (by decide) k_1_165 rfl rfl (by decide +kernel) rfl rfl (Nat.le_of_ble_eq_true rfl) rfl d_Pt_single_7 (fun H locs hP hS => ?_)
  refine lv_iload_n hx hb d_Pt_single_10 rfl (lv_at hl 1 rfl) ?_
  by_cases c1 : x1 = (-94:Int32)
  · replace h := o_tt c1 h
    refine lv_lookup (off := 41) (tgt := 52) hx hb d_Pt_single_11 (by decide) (by rw [c1]; rfl) (by decide) ?_
    refine lv_aload_n hx hb d_Pt_single_52 rfl (lv_at hl 0 rfl) ?_
    refine o_get (v := .ref (ad 25)) C in_Pt hP 33 cw_33 rfl 0 (by decide) k_1_160 rfl rfl d_Pt_single_53 ?_
    refine lv_iconst (v := (4:Int32)) hx hb d_Pt_single_56 (by decide) ?_
    refine lv_iconst (v := (0:Int32)) hx hb d_Pt_single_57 (by decide) ?_
    obtain ⟨q1, hq1, h⟩ := o_bd_some h
    refine o_V (st1 := []) (w1 := (o_cw ad ca rt Sj T0 T1 Rd q1 (Pt_mk (Pt_tokens Pt) (Pt_characterCount Pt) (Pt_tokenCount Pt) (Pt_position Pt) ((Pt_total Pt) + (1:Int32)) (Pt_least Pt) (Pt_most Pt) (Pt_depth Pt) (Pt_blockStarts Pt) (Pt_branchStarts Pt) (Pt_jumps Pt) (Pt_sizesBefore Pt)) Mk Lk Ck Jd Ld Pr)) hE.1 C (c_Pg_emit hE l (4:Int32) (0:Int32) Pg Sj T0 T1 Rd (Pt_mk (Pt_tokens Pt) (Pt_characterCount Pt) (Pt_tokenCount Pt) (Pt_position Pt) ((Pt_total Pt) + (1:Int32)) (Pt_least Pt) (Pt_most Pt) (Pt_depth Pt) (Pt_blockStarts Pt) (Pt_branchStarts Pt) (Pt_jumps Pt) (Pt_sizesBefore Pt)) Mk Lk Ck Jd Ld Pr rt hq1) hP (hDD _ _ _ _ _ _ _ _ _ _ _ _ _) hS hl.1 rfl cw_25 k_5_7 k_5_8 k_5_9 k_1_4 k_5_10 hv_Pg_emit rfl rfl ⟨Nat.le_of_ble_eq_true rfl, Nat.le_of_ble_eq_true rfl⟩ rfl (Nat.le_of_ble_eq_true rfl) ⟨Nat.le_of_ble_eq_true rfl, Nat.le_of_ble_eq_true rfl⟩ rfl d_Pt_single_58 (fun H locs hP hS => ?_)
    refine lv_iconst (v := (1:Int32)) hx hb d_Pt_single_61 (by decide) ?_
    cases h
    exact o_rz (v := (1:Int32)) C o_nar1 hP hS d_Pt_single_62
  replace h := o_ff c1 h
  by_cases c2 : x1 = (-91:Int32)
  · replace h := o_tt c2 h
    refine lv_lookup (off := 74) (tgt := 85) hx hb d_Pt_single_11 (by decide) (by rw [c2]; rfl) (by decide) ?_
    refine lv_aload_n hx hb d_Pt_single_85 rfl (lv_at hl 0 rfl) ?_
    refine o_get (v := .ref (ad 25)) C in_Pt hP 33 cw_33 rfl 0 (by decide) k_1_160 rfl rfl d_Pt_single_86 ?_
    refine lv_iconst (v := (3:Int32)) hx hb d_Pt_single_89 (by decide) ?_
    refine lv_iload_n hx hb d_Pt_single_90 rfl (lv_at hl 2 rfl) ?_
    obtain ⟨q2, hq2, h⟩ := o_bd_some h
    refine o_V (st1 := []) (w1 := (o_cw ad ca rt Sj T0 T1 Rd q2 (Pt_mk (Pt_tokens Pt) (Pt_characterCount Pt) (Pt_tokenCount Pt) (Pt_position Pt) ((Pt_total Pt) + (1:Int32)) (Pt_least Pt) (Pt_most Pt) (Pt_depth Pt) (Pt_blockStarts Pt) (Pt_branchStarts Pt) (Pt_jumps Pt) (Pt_sizesBefore Pt)) Mk Lk Ck Jd Ld Pr)) hE.1 C (c_Pg_emit hE l (3:Int32) x2 Pg Sj T0 T1 Rd (Pt_mk (Pt_tokens Pt) (Pt_characterCount Pt) (Pt_tokenCount Pt) (Pt_position Pt) ((Pt_total Pt) + (1:Int32)) (Pt_least Pt) (Pt_most Pt) (Pt_depth Pt) (Pt_blockStarts Pt) (Pt_branchStarts Pt) (Pt_jumps Pt) (Pt_sizesBefore Pt)) Mk Lk Ck Jd Ld Pr rt hq2) hP (hDD _ _ _ _ _ _ _ _ _ _ _ _ _) hS hl.1 rfl cw_25 k_5_7 k_5_8 k_5_9 k_1_4 k_5_10 hv_Pg_emit rfl rfl ⟨Nat.le_of_ble_eq_true rfl, Nat.le_of_ble_eq_true rfl⟩ rfl (Nat.le_of_ble_eq_true rfl) ⟨Nat.le_of_ble_eq_true rfl, Nat.le_of_ble_eq_true rfl⟩ rfl d_Pt_single_91 (fun H locs hP hS => ?_)
    refine lv_iload_n hx hb d_Pt_single_94 rfl (lv_at hl 2 rfl) ?_
    refine lv_iconst (v := (-1:Int32)) hx hb d_Pt_single_95 (by decide) ?_
    refine lv_icmp_eq (tgt := 103) hx hb d_Pt_single_96 (by decide) (fun c3 => ?_) (fun c3 => ?_)
    · replace h := o_tt c3 h
      refine lv_iconst (v := (0:Int32)) hx hb d_Pt_single_103 (by decide) ?_
      cases h
      exact o_rz (v := (0:Int32)) C o_nar0 hP hS d_Pt_single_104
    · replace h := o_ff c3 h
      refine lv_iconst (v := (1:Int32)) hx hb d_Pt_single_99 (by decide) ?_
      refine lv_goto (tgt := 104) hx hb d_Pt_single_100 (by decide) ?_
      cases h
      exact o_rz (v := (1:Int32)) C o_nar1 hP hS d_Pt_single_104
  replace h := o_ff c2 h
  by_cases c4 : x1 = (-46:Int32)
  · replace h := o_tt c4 h
    refine lv_lookup (off := 63) (tgt := 74) hx hb d_Pt_single_11 (by decide) (by rw [c4]; rfl) (by decide) ?_
    refine lv_aload_n hx hb d_Pt_single_74 rfl (lv_at hl 0 rfl) ?_
    refine o_get (v := .ref (ad 25)) C in_Pt hP 33 cw_33 rfl 0 (by decide) k_1_160 rfl rfl d_Pt_single_75 ?_
    refine lv_iconst (v := (1:Int32)) hx hb d_Pt_single_78 (by decide) ?_
    refine lv_iconst (v := (0:Int32)) hx hb d_Pt_single_79 (by decide) ?_
    obtain ⟨q3, hq3, h⟩ := o_bd_some h
    refine o_V (st1 := []) (w1 := (o_cw ad ca rt Sj T0 T1 Rd q3 (Pt_mk (Pt_tokens Pt) (Pt_characterCount Pt) (Pt_tokenCount Pt) (Pt_position Pt) ((Pt_total Pt) + (1:Int32)) (Pt_least Pt) (Pt_most Pt) (Pt_depth Pt) (Pt_blockStarts Pt) (Pt_branchStarts Pt) (Pt_jumps Pt) (Pt_sizesBefore Pt)) Mk Lk Ck Jd Ld Pr)) hE.1 C (c_Pg_emit hE l (1:Int32) (0:Int32) Pg Sj T0 T1 Rd (Pt_mk (Pt_tokens Pt) (Pt_characterCount Pt) (Pt_tokenCount Pt) (Pt_position Pt) ((Pt_total Pt) + (1:Int32)) (Pt_least Pt) (Pt_most Pt) (Pt_depth Pt) (Pt_blockStarts Pt) (Pt_branchStarts Pt) (Pt_jumps Pt) (Pt_sizesBefore Pt)) Mk Lk Ck Jd Ld Pr rt hq3) hP (hDD _ _ _ _ _ _ _ _ _ _ _ _ _) hS hl.1 rfl cw_25 k_5_7 k_5_8 k_5_9 k_1_4 k_5_10 hv_Pg_emit rfl rfl ⟨Nat.le_of_ble_eq_true rfl, Nat.le_of_ble_eq_true rfl⟩ rfl (Nat.le_of_ble_eq_true rfl) ⟨Nat.le_of_ble_eq_true rfl, Nat.le_of_ble_eq_true rfl⟩ rfl d_Pt_single_80 (fun H locs hP hS => ?_)
    refine lv_iconst (v := (1:Int32)) hx hb d_Pt_single_83 (by decide) ?_
    cases h
    exact o_rz (v := (1:Int32)) C o_nar1 hP hS d_Pt_single_84
  replace h := o_ff c4 h
  by_cases c5 : x1 = (-36:Int32)
  · replace h := o_tt c5 h
    refine lv_lookup (off := 52) (tgt := 63) hx hb d_Pt_single_11 (by decide) (by rw [c5]; rfl) (by decide) ?_
    refine lv_aload_n hx hb d_Pt_single_63 rfl (lv_at hl 0 rfl) ?_
    refine o_get (v := .ref (ad 25)) C in_Pt hP 33 cw_33 rfl 0 (by decide) k_1_160 rfl rfl d_Pt_single_64 ?_
    refine lv_iconst (v := (5:Int32)) hx hb d_Pt_single_67 (by decide) ?_
    refine lv_iconst (v := (0:Int32)) hx hb d_Pt_single_68 (by decide) ?_
    obtain ⟨q4, hq4, h⟩ := o_bd_some h
    refine o_V (st1 := []) (w1 := (o_cw ad ca rt Sj T0 T1 Rd q4 (Pt_mk (Pt_tokens Pt) (Pt_characterCount Pt) (Pt_tokenCount Pt) (Pt_position Pt) ((Pt_total Pt) + (1:Int32)) (Pt_least Pt) (Pt_most Pt) (Pt_depth Pt) (Pt_blockStarts Pt) (Pt_branchStarts Pt) (Pt_jumps Pt) (Pt_sizesBefore Pt)) Mk Lk Ck Jd Ld Pr)) hE.1 C (c_Pg_emit hE l (5:Int32) (0:Int32) Pg Sj T0 T1 Rd (Pt_mk (Pt_tokens Pt) (Pt_characterCount Pt) (Pt_tokenCount Pt) (Pt_position Pt) ((Pt_total Pt) + (1:Int32)) (Pt_least Pt) (Pt_most Pt) (Pt_depth Pt) (Pt_blockStarts Pt) (Pt_branchStarts Pt) (Pt_jumps Pt) (Pt_sizesBefore Pt)) Mk Lk Ck Jd Ld Pr rt hq4) hP (hDD _ _ _ _ _ _ _ _ _ _ _ _ _) hS hl.1 rfl cw_25 k_5_7 k_5_8 k_5_9 k_1_4 k_5_10 hv_Pg_emit rfl rfl ⟨Nat.le_of_ble_eq_true rfl, Nat.le_of_ble_eq_true rfl⟩ rfl (Nat.le_of_ble_eq_true rfl) ⟨Nat.le_of_ble_eq_true rfl, Nat.le_of_ble_eq_true rfl⟩ rfl d_Pt_single_69 (fun H locs hP hS => ?_)
    refine lv_iconst (v := (1:Int32)) hx hb d_Pt_single_72 (by decide) ?_
    cases h
    exact o_rz (v := (1:Int32)) C o_nar1 hP hS d_Pt_single_73
  replace h := o_ff c5 h
  refine lv_lookup (off := 94) (tgt := 105) hx hb d_Pt_single_11 (by decide) ((lv_osw c1 (by decide)).trans ((lv_osw c2 (by decide)).trans ((lv_osw c4 (by decide)).trans ((lv_osw c5 (by decide)).trans rfl)))) (by decide) ?_
  refine lv_iload_n hx hb d_Pt_single_105 rfl (lv_at hl 1 rfl) ?_
  refine lv_ldc (v := (4194304:Int32)) hx hb hown (hts _ k_4_199) d_Pt_single_106 ?_
  refine lv_iand hx hb d_Pt_single_108 ?_
  refine lv_if_eq (tgt := 127) hx hb d_Pt_single_109 (by decide) (fun c6 => ?_) (fun c6 => ?_)
  · replace h := o_tt c6 h
    refine lv_aload_n hx hb d_Pt_single_127 rfl (lv_at hl 0 rfl) ?_
    refine o_get (v := .ref (ad 25)) C in_Pt hP 33 cw_33 rfl 0 (by decide) k_1_160 rfl rfl d_Pt_single_128 ?_
    refine lv_iconst (v := (0:Int32)) hx hb d_Pt_single_131 (by decide) ?_
    refine lv_iload_n hx hb d_Pt_single_132 rfl (lv_at hl 1 rfl) ?_
    refine lv_ldc (v := (2097151:Int32)) hx hb hown (hts _ k_5_23) d_Pt_single_133 ?_
    refine lv_iand hx hb d_Pt_single_135 ?_
    obtain ⟨q5, hq5, h⟩ := o_bd_some h
    refine o_V (st1 := []) (w1 := (o_cw ad ca rt Sj T0 T1 Rd q5 (Pt_mk (Pt_tokens Pt) (Pt_characterCount Pt) (Pt_tokenCount Pt) (Pt_position Pt) ((Pt_total Pt) + (1:Int32)) (Pt_least Pt) (Pt_most Pt) (Pt_depth Pt) (Pt_blockStarts Pt) (Pt_branchStarts Pt) (Pt_jumps Pt) (Pt_sizesBefore Pt)) Mk Lk Ck Jd Ld Pr)) hE.1 C (c_Pg_emit hE l (0:Int32) (x1 &&& (2097151:Int32)) Pg Sj T0 T1 Rd (Pt_mk (Pt_tokens Pt) (Pt_characterCount Pt) (Pt_tokenCount Pt) (Pt_position Pt) ((Pt_total Pt) + (1:Int32)) (Pt_least Pt) (Pt_most Pt) (Pt_depth Pt) (Pt_blockStarts Pt) (Pt_branchStarts Pt) (Pt_jumps Pt) (Pt_sizesBefore Pt)) Mk Lk Ck Jd Ld Pr rt hq5) hP (hDD _ _ _ _ _ _ _ _ _ _ _ _ _) hS hl.1 rfl cw_25 k_5_7 k_5_8 k_5_9 k_1_4 k_5_10 hv_Pg_emit rfl rfl ⟨Nat.le_of_ble_eq_true rfl, Nat.le_of_ble_eq_true rfl⟩ rfl (Nat.le_of_ble_eq_true rfl) ⟨Nat.le_of_ble_eq_true rfl, Nat.le_of_ble_eq_true rfl⟩ rfl d_Pt_single_136 (fun H locs hP hS => ?_)
    exact w_Pt_single_j139 hE C hDD x1 q5 (Pt_mk (Pt_tokens Pt) (Pt_characterCount Pt) (Pt_tokenCount Pt) (Pt_position Pt) ((Pt_total Pt) + (1:Int32)) (Pt_least Pt) (Pt_most Pt) (Pt_depth Pt) (Pt_blockStarts Pt) (Pt_branchStarts Pt) (Pt_jumps Pt) (Pt_sizesBefore Pt)) Sj T0 T1 Rd Mk Lk Ck Jd Ld Pr rt h _ _ _ hP hS (lv_sub hl [1] rfl)
  · replace h := o_ff c6 h
    refine lv_aload_n hx hb d_Pt_single_112 rfl (lv_at hl 0 rfl) ?_
    refine o_get (v := .ref (ad 25)) C in_Pt hP 33 cw_33 rfl 0 (by decide) k_1_160 rfl rfl d_Pt_single_113 ?_
    refine lv_iconst (v := (2:Int32)) hx hb d_Pt_single_116 (by decide) ?_
    refine lv_iload_n hx hb d_Pt_single_117 rfl (lv_at hl 1 rfl) ?_
    refine lv_ldc (v := (-4194305:Int32)) hx hb hown (hts _ k_5_24) d_Pt_single_118 ?_
    refine lv_iand hx hb d_Pt_single_120 ?_
    obtain ⟨q6, hq6, h⟩ := o_bd_some h
    refine o_V (st1 := []) (w1 := (o_cw ad ca rt Sj T0 T1 Rd q6 (Pt_mk (Pt_tokens Pt) (Pt_characterCount Pt) (Pt_tokenCount Pt) (Pt_position Pt) ((Pt_total Pt) + (1:Int32)) (Pt_least Pt) (Pt_most Pt) (Pt_depth Pt) (Pt_blockStarts Pt) (Pt_branchStarts Pt) (Pt_jumps Pt) (Pt_sizesBefore Pt)) Mk Lk Ck Jd Ld Pr)) hE.1 C (c_Pg_emit hE l (2:Int32) (x1 &&& (-4194305:Int32)) Pg Sj T0 T1 Rd (Pt_mk (Pt_tokens Pt) (Pt_characterCount Pt) (Pt_tokenCount Pt) (Pt_position Pt) ((Pt_total Pt) + (1:Int32)) (Pt_least Pt) (Pt_most Pt) (Pt_depth Pt) (Pt_blockStarts Pt) (Pt_branchStarts Pt) (Pt_jumps Pt) (Pt_sizesBefore Pt)) Mk Lk Ck Jd Ld Pr rt hq6) hP (hDD _ _ _ _ _ _ _ _ _ _ _ _ _) hS hl.1 rfl cw_25 k_5_7 k_5_8 k_5_9 k_1_4 k_5_10 hv_Pg_emit rfl rfl ⟨Nat.le_of_ble_eq_true rfl, Nat.le_of_ble_eq_true rfl⟩ rfl (Nat.le_of_ble_eq_true rfl) ⟨Nat.le_of_ble_eq_true rfl, Nat.le_of_ble_eq_true rfl⟩ rfl d_Pt_single_121 (fun H locs hP hS => ?_)
    refine lv_goto (tgt := 139) hx hb d_Pt_single_124 (by decide) ?_
    exact w_Pt_single_j139 hE C hDD x1 q6 (Pt_mk (Pt_tokens Pt) (Pt_characterCount Pt) (Pt_tokenCount Pt) (Pt_position Pt) ((Pt_total Pt) + (1:Int32)) (Pt_least Pt) (Pt_most Pt) (Pt_depth Pt) (Pt_blockStarts Pt) (Pt_branchStarts Pt) (Pt_jumps Pt) (Pt_sizesBefore Pt)) Sj T0 T1 Rd Mk Lk Ck Jd Ld Pr rt h _ _ _ hP hS (lv_sub hl [1] rfl)
set_option maxHeartbeats 4000000 in
set_option maxRecDepth 100000 in
theorem c_Pt_isQuantifier {E : (Nat → Prop) → State → Heap → Prop} {D : va_G} {ad kd sd : Nat → Nat} {ca : Nat → ClassId} (hE : o_EK E kd sd) (l : Launch) (x0 : Int32) (Sj : SSJ) (T0 : STx) (T1 : STx) (Rd : SRd) (Pg : SPg) (Pt : SPt) (Mk : SMk) (Lk : SLk) (Ck : SCk) (Jd : SJd) (Ld : SLd) (Pr : SPr) (rt : Nat) {r : Int32} (h : m_Pt_isQuantifier x0 = some r) : o_Cn E l D o_cls (o_tys ca) y_Pt_isQuantifier cc_Pt_isQuantifier rm_Pt_isQuantifier [.int x0] (o_cw ad ca rt Sj T0 T1 Rd Pg Pt Mk Lk Ck Jd Ld Pr) (o_cw ad ca rt Sj T0 T1 Rd Pg Pt Mk Lk Ck Jd Ld Pr) (some (.int r)) := by
  refine o_Cn_of (by decide) (Nat.le_of_ble_eq_true rfl) ?_
  intro p e s m below meth c A ls C hD hP hS hl
  have hDD : ∀ (rt : Nat) (Sj : SSJ) (T0 : STx) (T1 : STx) (Rd : SRd) (Pg : SPg) (Pt : SPt) (Mk : SMk) (Lk : SLk) (Ck : SCk) (Jd : SJd) (Ld : SLd) (Pr : SPr), va_D A (o_cw ad ca rt Sj T0 T1 Rd Pg Pt Mk Lk Ck Jd Ld Pr) := fun _ _ _ _ _ _ _ _ _ _ _ _ _ => o_D_map hD rfl
  have hl : lv_has ls 1 [(0, .int x0)] := hl
  unfold m_Pt_isQuantifier at h
  have C0 := C
  obtain ⟨hx, hb, -, -, -, hown, hts, hK, -, -⟩ := C0
  refine lv_iload_n hx hb d_Pt_isQuantifier_0 rfl (lv_at hl 0 rfl) ?_
  refine lv_bipush (v := (-42:Int32)) hx hb d_Pt_isQuantifier_1 (by decide) ?_
  refine lv_icmp_eq (tgt := 24) hx hb d_Pt_isQuantifier_3 (by decide) (fun c1 => ?_) (fun c1 => ?_)
  · replace h := o_tt c1 h
    refine lv_iconst (v := (1:Int32)) hx hb d_Pt_isQuantifier_24 (by decide) ?_
    refine lv_goto (tgt := 29) hx hb d_Pt_isQuantifier_25 (by decide) ?_
    cases h
    exact o_rz (v := (1:Int32)) C o_nar1 hP hS d_Pt_isQuantifier_29
  · replace h := o_ff c1 h
    refine lv_iload_n hx hb d_Pt_isQuantifier_6 rfl (lv_at hl 0 rfl) ?_
    refine lv_bipush (v := (-43:Int32)) hx hb d_Pt_isQuantifier_7 (by decide) ?_
    refine lv_icmp_eq (tgt := 24) hx hb d_Pt_isQuantifier_9 (by decide) (fun c2 => ?_) (fun c2 => ?_)
    · replace h := o_tt c2 h
      refine lv_iconst (v := (1:Int32)) hx hb d_Pt_isQuantifier_24 (by decide) ?_
      refine lv_goto (tgt := 29) hx hb d_Pt_isQuantifier_25 (by decide) ?_
      cases h
      exact o_rz (v := (1:Int32)) C o_nar1 hP hS d_Pt_isQuantifier_29
    · replace h := o_ff c2 h
      refine lv_iload_n hx hb d_Pt_isQuantifier_12 rfl (lv_at hl 0 rfl) ?_
      refine lv_bipush (v := (-63:Int32)) hx hb d_Pt_isQuantifier_13 (by decide) ?_
      refine lv_icmp_eq (tgt := 24) hx hb d_Pt_isQuantifier_15 (by decide) (fun c3 => ?_) (fun c3 => ?_)
      · replace h := o_tt c3 h
        refine lv_iconst (v := (1:Int32)) hx hb d_Pt_isQuantifier_24 (by decide) ?_
        refine lv_goto (tgt := 29) hx hb d_Pt_isQuantifier_25 (by decide) ?_
        cases h
        exact o_rz (v := (1:Int32)) C o_nar1 hP hS d_Pt_isQuantifier_29
      · replace h := o_ff c3 h
        refine lv_iload_n hx hb d_Pt_isQuantifier_18 rfl (lv_at hl 0 rfl) ?_
        refine lv_bipush (v := (-123:Int32)) hx hb d_Pt_isQuantifier_19 (by decide) ?_
        refine lv_icmp_ne (tgt := 28) hx hb d_Pt_isQuantifier_21 (by decide) (fun c4 => ?_) (fun c4 => ?_)
        · replace h := o_ff c4 h
          refine lv_iconst (v := (0:Int32)) hx hb d_Pt_isQuantifier_28 (by decide) ?_
          cases h
          exact o_rz (v := (0:Int32)) C o_nar0 hP hS d_Pt_isQuantifier_29
        · replace h := o_tt c4 h
          refine lv_iconst (v := (1:Int32)) hx hb d_Pt_isQuantifier_24 (by decide) ?_
          refine lv_goto (tgt := 29) hx hb d_Pt_isQuantifier_25 (by decide) ?_
          cases h
          exact o_rz (v := (1:Int32)) C o_nar1 hP hS d_Pt_isQuantifier_29
set_option maxHeartbeats 4000000 in
set_option maxRecDepth 100000 in
theorem w_Pt_readNumber_j33 {E : (Nat → Prop) → State → Heap → Prop} {p : Program} {l : Launch} {e : Env} {s : State} {m : MethodId} {args : Array Value} {below : List Frame} {meth : Method} {c : Code} {D : va_G} {ad kd sd : Nat → Nat} {ca : Nat → ClassId} {A : Nat → Prop} {Q : State → Prop} (hE : o_EK E kd sd) (C : o_Cx E p s m args meth c D o_cls (o_tys ca) "SchemaJudge$Pattern" b_Pt_readNumber (some .int) 4 cc_Pt_readNumber A) (hDD : ∀ (rt : Nat) (Sj : SSJ) (T0 : STx) (T1 : STx) (Rd : SRd) (Pg : SPg) (Pt : SPt) (Mk : SMk) (Lk : SLk) (Ck : SCk) (Jd : SJd) (Ld : SLd) (Pr : SPr), va_D A (o_cw ad ca rt Sj T0 T1 Rd Pg Pt Mk Lk Ck Jd Ld Pr)) (n : Nat) (u4_Sj : SSJ) (u4_T0 : STx) (u4_T1 : STx) (u4_Rd : SRd) (u4_Pg : SPg) (u4_Mk : SMk) (u4_Lk : SLk) (u4_Ck : SCk) (u4_Jd : SJd) (u4_Ld : SLd) (u4_Pr : SPr) (u4_rt : Nat) (x1 : Int32) (x2 : Int32) (y0 : Int32) (Pt : SPt) {q : Nat × Int32 × Int32 × SPt} (h : m_Pt_readNumber_j33 n x1 x2 y0 Pt = some q) (h0 : q.1 = 0 → o_At p l e rm_Pt_readNumber s m args below meth c Q o_cls D A 4 4 [] (o_cw ad ca u4_rt u4_Sj u4_T0 u4_T1 u4_Rd u4_Pg q.2.2.2 u4_Mk u4_Lk u4_Ck u4_Jd u4_Ld u4_Pr) [(0, .ref (ad 33)), (1, .int q.2.1), (2, .int q.2.2.1)]) (h1 : q.1 ≠ 0 → (if q.1 = 1 then o_At p l e rm_Pt_readNumber s m args below meth c Q o_cls D A 4 46 [] (o_cw ad ca u4_rt u4_Sj u4_T0 u4_T1 u4_Rd u4_Pg q.2.2.2 u4_Mk u4_Lk u4_Ck u4_Jd u4_Ld u4_Pr) [(1, .int q.2.1)] else o_At p l e rm_Pt_readNumber s m args below meth c Q o_cls D A 4 78 [] (o_cw ad ca u4_rt u4_Sj u4_T0 u4_T1 u4_Rd u4_Pg q.2.2.2 u4_Mk u4_Lk u4_Ck u4_Jd u4_Ld u4_Pr) [(1, .int q.2.1)])) : o_At p l e rm_Pt_readNumber s m args below meth c Q o_cls D A 4 33 [.int y0] (o_cw ad ca u4_rt u4_Sj u4_T0 u4_T1 u4_Rd u4_Pg Pt u4_Mk u4_Lk u4_Ck u4_Jd u4_Ld u4_Pr) [(0, .ref (ad 33)), (1, .int x1), (2, .int x2)] := by
  unfold m_Pt_readNumber_j33 at h
  intro H locs ls hP hS hl
  have C0 := C
  obtain ⟨hx, hb, -, -, -, hown, hts, hK, -, -⟩ := C0
  refine lv_istore_n (lv' := [(3, .int y0), (0, .ref (ad 33)), (1, .int x1), (2, .int x2)]) hx hb d_Pt_readNumber_33 rfl hl (by decide) rfl (fun ls hl => ?_)
  refine lv_iload_n hx hb d_Pt_readNumber_34 rfl (lv_at hl 0 rfl) ?_
  refine lv_bipush (v := (48:Int32)) hx hb d_Pt_readNumber_35 (by decide) ?_
  refine lv_icmp_lt (tgt := 46) hx hb d_Pt_readNumber_37 (by decide) (fun c3 => ?_) (fun c3 => ?_)
  · replace h := o_tt c3 h
    cases h
    exact h1 (Nat.succ_ne_zero 0) _ _ _ hP hS (lv_sub hl [2] rfl)
  · replace h := o_ff c3 h
    refine lv_iload_n hx hb d_Pt_readNumber_40 rfl (lv_at hl 0 rfl) ?_
    refine lv_bipush (v := (57:Int32)) hx hb d_Pt_readNumber_41 (by decide) ?_
    refine lv_icmp_le (tgt := 48) hx hb d_Pt_readNumber_43 (by decide) (fun c4 => ?_) (fun c4 => ?_)
    · replace h := o_tt c4 h
      refine lv_iload_n hx hb d_Pt_readNumber_48 rfl (lv_at hl 2 rfl) ?_
      refine lv_iconst (v := (0:Int32)) hx hb d_Pt_readNumber_49 (by decide) ?_
      refine va_mmax hx hb (C.2.2.2.2.1.trans hl.1.symm) hown (hts _ k_5_44) (hts _ k_4_152) (hts _ k_1_26) (hts _ k_4_153) (Nat.le_of_ble_eq_true rfl) (Nat.le_of_ble_eq_true rfl) (Nat.le_of_ble_eq_true rfl) (Nat.le_of_ble_eq_true rfl) d_Pt_readNumber_50 ?_
      refine lv_bipush (v := (10:Int32)) hx hb d_Pt_readNumber_53 (by decide) ?_
      refine lv_imul hx hb d_Pt_readNumber_55 ?_
      refine lv_iload_n hx hb d_Pt_readNumber_56 rfl (lv_at hl 0 rfl) ?_
      refine lv_iadd hx hb d_Pt_readNumber_57 ?_
      refine lv_bipush (v := (48:Int32)) hx hb d_Pt_readNumber_58 (by decide) ?_
      refine lv_isub hx hb d_Pt_readNumber_60 ?_
      refine lv_topi (fun x1_61 ex1_61 => ?_)
      replace h := o_nm_at ex1_61 h
      refine lv_istore_n (lv' := [(1, .int x1_61), (3, .int y0), (0, .ref (ad 33)), (2, .int x2)]) hx hb d_Pt_readNumber_61 rfl hl (by decide) rfl (fun ls hl => ?_)
      refine lv_aload_n hx hb d_Pt_readNumber_62 rfl (lv_at hl 2 rfl) ?_
      refine lv_dup hx hb d_Pt_readNumber_63 rfl ?_
      refine o_get (v := .int (Pt_position Pt)) C in_Pt hP 33 cw_33 rfl 4 (by decide) k_1_164 rfl rfl d_Pt_readNumber_64 ?_
      refine lv_iconst (v := (1:Int32)) hx hb d_Pt_readNumber_67 (by decide) ?_
      refine lv_iadd hx hb d_Pt_readNumber_68 ?_
      refine o_put (v := .int ((Pt_position Pt) + (1:Int32))) (ty := .int) (w1 := (o_cw ad ca u4_rt u4_Sj u4_T0 u4_T1 u4_Rd u4_Pg (Pt_mk (Pt_tokens Pt) (Pt_characterCount Pt) (Pt_tokenCount Pt) ((Pt_position Pt) + (1:Int32)) (Pt_total Pt) (Pt_least Pt) (Pt_most Pt) (Pt_depth Pt) (Pt_blockStarts Pt) (Pt_branchStarts Pt) (Pt_jumps Pt) (Pt_sizesBefore Pt)) u4_Mk u4_Lk u4_Ck u4_Jd u4_Ld u4_Pr)) C in_Pt t_Pt t_Pt_ok n_Pt hP (hDD _ _ _ _ _ _ _ _ _ _ _ _ _) hS 33 cw_33 rfl 4 (by decide) k_1_164 rfl rfl (by decide +kernel) rfl rfl (Nat.le_of_ble_eq_true rfl) rfl d_Pt_readNumber_69 (fun H locs hP hS => ?_)
      obtain ⟨x2_72, ex2_72⟩ : ∃ y : Int32, y = x2 + (1:Int32) := ⟨_, rfl⟩
      replace h := o_nm_at ex2_72 h
      refine lv_iinc (v := x2_72) (lv' := [(2, .int x2_72), (1, .int x1_61), (3, .int y0), (0, .ref (ad 33))]) hx hb d_Pt_readNumber_72 hl (k := 3) rfl (by rw [ex2_72]; rfl) (by decide) rfl (fun ls hl => ?_)
      refine lv_goto (tgt := 4) hx hb d_Pt_readNumber_75 (by decide) ?_
      cases h
      exact h0 rfl _ _ _ hP hS (lv_sub hl [3, 1, 0] rfl)
    · replace h := o_ff c4 h
      cases h
      exact h1 (Nat.succ_ne_zero 0) _ _ _ hP hS (lv_sub hl [2] rfl)
set_option maxHeartbeats 4000000 in
set_option maxRecDepth 100000 in
theorem w_Pt_readNumber_b4 {E : (Nat → Prop) → State → Heap → Prop} {p : Program} {l : Launch} {e : Env} {s : State} {m : MethodId} {args : Array Value} {below : List Frame} {meth : Method} {c : Code} {D : va_G} {ad kd sd : Nat → Nat} {ca : Nat → ClassId} {A : Nat → Prop} {Q : State → Prop} (hE : o_EK E kd sd) (C : o_Cx E p s m args meth c D o_cls (o_tys ca) "SchemaJudge$Pattern" b_Pt_readNumber (some .int) 4 cc_Pt_readNumber A) (hDD : ∀ (rt : Nat) (Sj : SSJ) (T0 : STx) (T1 : STx) (Rd : SRd) (Pg : SPg) (Pt : SPt) (Mk : SMk) (Lk : SLk) (Ck : SCk) (Jd : SJd) (Ld : SLd) (Pr : SPr), va_D A (o_cw ad ca rt Sj T0 T1 Rd Pg Pt Mk Lk Ck Jd Ld Pr)) (n : Nat) (u4_Sj : SSJ) (u4_T0 : STx) (u4_T1 : STx) (u4_Rd : SRd) (u4_Pg : SPg) (u4_Mk : SMk) (u4_Lk : SLk) (u4_Ck : SCk) (u4_Jd : SJd) (u4_Ld : SLd) (u4_Pr : SPr) (u4_rt : Nat) (z : Int32 × Int32 × SPt) (q : Nat × Int32 × Int32 × SPt) (h : m_Pt_readNumber_b4 n z = some q) (h0 : q.1 = 0 → o_At p l e rm_Pt_readNumber s m args below meth c Q o_cls D A 4 4 [] (o_cw ad ca u4_rt u4_Sj u4_T0 u4_T1 u4_Rd u4_Pg q.2.2.2 u4_Mk u4_Lk u4_Ck u4_Jd u4_Ld u4_Pr) [(0, .ref (ad 33)), (1, .int q.2.1), (2, .int q.2.2.1)]) (h1 : q.1 ≠ 0 → (if q.1 = 1 then o_At p l e rm_Pt_readNumber s m args below meth c Q o_cls D A 4 46 [] (o_cw ad ca u4_rt u4_Sj u4_T0 u4_T1 u4_Rd u4_Pg q.2.2.2 u4_Mk u4_Lk u4_Ck u4_Jd u4_Ld u4_Pr) [(1, .int q.2.1)] else o_At p l e rm_Pt_readNumber s m args below meth c Q o_cls D A 4 78 [] (o_cw ad ca u4_rt u4_Sj u4_T0 u4_T1 u4_Rd u4_Pg q.2.2.2 u4_Mk u4_Lk u4_Ck u4_Jd u4_Ld u4_Pr) [(1, .int q.2.1)])) : o_At p l e rm_Pt_readNumber s m args below meth c Q o_cls D A 4 4 [] (o_cw ad ca u4_rt u4_Sj u4_T0 u4_T1 u4_Rd u4_Pg z.2.2 u4_Mk u4_Lk u4_Ck u4_Jd u4_Ld u4_Pr) [(0, .ref (ad 33)), (1, .int z.1), (2, .int z.2.1)] := by
  unfold m_Pt_readNumber_b4 at h
  intro H locs ls hP hS hl
  have C0 := C
  obtain ⟨hx, hb, -, -, -, hown, hts, hK, -, -⟩ := C0
  refine lv_iload_n hx hb d_Pt_readNumber_4 rfl (lv_at hl 2 rfl) ?_
  refine lv_iconst (v := (3:Int32)) hx hb d_Pt_readNumber_5 (by decide) ?_
  refine lv_icmp_ge (tgt := 78) hx hb d_Pt_readNumber_6 (by decide) (fun c1 => ?_) (fun c1 => ?_)
  · replace h := o_tt c1 h
    cases h
    exact h1 (Nat.succ_ne_zero 1) _ _ _ hP hS (lv_sub hl [1] rfl)
  · replace h := o_ff c1 h
    refine lv_aload_n hx hb d_Pt_readNumber_9 rfl (lv_at hl 0 rfl) ?_
    refine o_get (v := .int (Pt_position z.2.2)) C in_Pt hP 33 cw_33 rfl 4 (by decide) k_1_164 rfl rfl d_Pt_readNumber_10 ?_
    refine lv_aload_n hx hb d_Pt_readNumber_13 rfl (lv_at hl 0 rfl) ?_
    refine o_get (v := .int (Pt_tokenCount z.2.2)) C in_Pt hP 33 cw_33 rfl 3 (by decide) k_1_163 rfl rfl d_Pt_readNumber_14 ?_
    refine lv_icmp_ge (tgt := 32) hx hb d_Pt_readNumber_17 (by decide) (fun c2 => ?_) (fun c2 => ?_)
    · replace h := o_tt c2 h
      refine lv_iconst (v := (-1:Int32)) hx hb d_Pt_readNumber_32 (by decide) ?_
      exact w_Pt_readNumber_j33 hE C hDD n u4_Sj u4_T0 u4_T1 u4_Rd u4_Pg u4_Mk u4_Lk u4_Ck u4_Jd u4_Ld u4_Pr u4_rt z.1 z.2.1 (-1:Int32) z.2.2 h h0 h1 _ _ _ hP hS (lv_sub hl [0, 1, 2] rfl)
    · replace h := o_ff c2 h
      refine lv_aload_n hx hb d_Pt_readNumber_20 rfl (lv_at hl 0 rfl) ?_
      refine o_get (v := .ref (ad 34)) C in_Pt hP 33 cw_33 rfl 1 (by decide) k_1_161 rfl rfl d_Pt_readNumber_21 ?_
      refine lv_aload_n hx hb d_Pt_readNumber_24 rfl (lv_at hl 0 rfl) ?_
      refine o_get (v := .int (Pt_position z.2.2)) C in_Pt hP 33 cw_33 rfl 4 (by decide) k_1_164 rfl rfl d_Pt_readNumber_25 ?_
      obtain ⟨g5, h⟩ := o_gd_some h
      refine o_iald (f := (Pt_tokens z.2.2)) C hP 34 28 cw_34 rfl g5 d_Pt_readNumber_28 ?_
      refine lv_goto (tgt := 33) hx hb d_Pt_readNumber_29 (by decide) ?_
      exact w_Pt_readNumber_j33 hE C hDD n u4_Sj u4_T0 u4_T1 u4_Rd u4_Pg u4_Mk u4_Lk u4_Ck u4_Jd u4_Ld u4_Pr u4_rt z.1 z.2.1 ((Pt_tokens z.2.2) (Pt_position z.2.2).toNatClampNeg) z.2.2 h h0 h1 _ _ _ hP hS (lv_sub hl [0, 1, 2] rfl)
set_option maxHeartbeats 4000000 in
set_option maxRecDepth 100000 in
theorem c_Pt_readNumber {E : (Nat → Prop) → State → Heap → Prop} {D : va_G} {ad kd sd : Nat → Nat} {ca : Nat → ClassId} (hE : o_EK E kd sd) (l : Launch) (n : Nat)  (Pt : SPt) (Sj : SSJ) (T0 : STx) (T1 : STx) (Rd : SRd) (Pg : SPg) (Mk : SMk) (Lk : SLk) (Ck : SCk) (Jd : SJd) (Ld : SLd) (Pr : SPr) (rt : Nat) {r : Int32 × SPt} (h : m_Pt_readNumber n Pt = some r) : o_Cn E l D o_cls (o_tys ca) y_Pt_readNumber cc_Pt_readNumber rm_Pt_readNumber [.ref (ad 33)] (o_cw ad ca rt Sj T0 T1 Rd Pg Pt Mk Lk Ck Jd Ld Pr) (o_cw ad ca rt Sj T0 T1 Rd Pg r.2 Mk Lk Ck Jd Ld Pr) (some (.int r.1)) := by
  refine o_Cn_of (by decide) (Nat.le_of_ble_eq_true rfl) ?_
  intro p e s m below meth c A ls C hD hP hS hl
  have hDD : ∀ (rt : Nat) (Sj : SSJ) (T0 : STx) (T1 : STx) (Rd : SRd) (Pg : SPg) (Pt : SPt) (Mk : SMk) (Lk : SLk) (Ck : SCk) (Jd : SJd) (Ld : SLd) (Pr : SPr), va_D A (o_cw ad ca rt Sj T0 T1 Rd Pg Pt Mk Lk Ck Jd Ld Pr) := fun _ _ _ _ _ _ _ _ _ _ _ _ _ => o_D_map hD rfl
  have hl : lv_has ls 4 [(0, .ref (ad 33))] := hl
  unfold m_Pt_readNumber at h
  have C0 := C
  obtain ⟨hx, hb, -, -, -, hown, hts, hK, -, -⟩ := C0
  refine lv_iconst (v := (-1:Int32)) hx hb d_Pt_readNumber_0 (by decide) ?_
  refine lv_istore_n (lv' := [(1, .int (-1:Int32)), (0, .ref (ad 33))]) hx hb d_Pt_readNumber_1 rfl hl (by decide) rfl (fun ls hl => ?_)
  refine lv_iconst (v := (0:Int32)) hx hb d_Pt_readNumber_2 (by decide) ?_
  refine lv_istore_n (lv' := [(2, .int (0:Int32)), (1, .int (-1:Int32)), (0, .ref (ad 33))]) hx hb d_Pt_readNumber_3 rfl hl (by decide) rfl (fun ls hl => ?_)
  obtain ⟨q1, hq1, h⟩ := o_bd_some h
  refine o_sim2 (AH := fun zz => o_At p l e rm_Pt_readNumber s m _ below meth c _ o_cls D A 4 4 [] (o_cw ad ca rt Sj T0 T1 Rd Pg zz.2.2 Mk Lk Ck Jd Ld Pr) [(0, .ref (ad 33)), (1, .int zz.1), (2, .int zz.2.1)]) (AX := fun qq => if qq.1 = 1 then o_At p l e rm_Pt_readNumber s m _ below meth c _ o_cls D A 4 46 [] (o_cw ad ca rt Sj T0 T1 Rd Pg qq.2.2.2 Mk Lk Ck Jd Ld Pr) [(1, .int qq.2.1)] else o_At p l e rm_Pt_readNumber s m _ below meth c _ o_cls D A 4 78 [] (o_cw ad ca rt Sj T0 T1 Rd Pg qq.2.2.2 Mk Lk Ck Jd Ld Pr) [(1, .int qq.2.1)]) (fun zz qq h h0 h1 => w_Pt_readNumber_b4 hE C hDD n Sj T0 T1 Rd Pg Mk Lk Ck Jd Ld Pr rt zz qq h h0 h1) n _ q1 hq1 ?_ _ _ _ hP hS (lv_sub hl [2, 1, 0] rfl)
  by_cases c6 : q1.1 = 1
  · replace h := o_tt c6 h
    refine o_ip c6 ?_
    intro H locs ls hP hS hl
    refine lv_iload_n hx hb d_Pt_readNumber_46 rfl (lv_at hl 0 rfl) ?_
    cases h
    exact o_ri C hP hS d_Pt_readNumber_47
  replace h := o_ff c6 h
  refine o_in_ c6 ?_
  intro H locs ls hP hS hl
  refine lv_iload_n hx hb d_Pt_readNumber_78 rfl (lv_at hl 0 rfl) ?_
  cases h
  exact o_ri C hP hS d_Pt_readNumber_79
set_option maxHeartbeats 4000000 in
set_option maxRecDepth 100000 in
theorem w_Pt_readQuantifier_j181 {E : (Nat → Prop) → State → Heap → Prop} {p : Program} {l : Launch} {e : Env} {s : State} {m : MethodId} {args : Array Value} {below : List Frame} {meth : Method} {c : Code} {D : va_G} {ad kd sd : Nat → Nat} {ca : Nat → ClassId} {A : Nat → Prop} (hE : o_EK E kd sd) (C : o_Cx E p s m args meth c D o_cls (o_tys ca) "SchemaJudge$Pattern" b_Pt_readQuantifier (some .boolean) 3 cc_Pt_readQuantifier A) (hDD : ∀ (rt : Nat) (Sj : SSJ) (T0 : STx) (T1 : STx) (Rd : SRd) (Pg : SPg) (Pt : SPt) (Mk : SMk) (Lk : SLk) (Ck : SCk) (Jd : SJd) (Ld : SLd) (Pr : SPr), va_D A (o_cw ad ca rt Sj T0 T1 Rd Pg Pt Mk Lk Ck Jd Ld Pr)) (n : Nat) (x2 : Int32) (Pt : SPt) (Sj : SSJ) (T0 : STx) (T1 : STx) (Rd : SRd) (Pg : SPg) (Mk : SMk) (Lk : SLk) (Ck : SCk) (Jd : SJd) (Ld : SLd) (Pr : SPr) (rt : Nat) {r : Int32 × SPt} (h : m_Pt_readQuantifier_j181 n x2 Pt = some r) : o_At p l e rm_Pt_readQuantifier s m args below meth c (MQ below (o_Qx D o_cls (some (.int r.1)) (o_cw ad ca rt Sj T0 T1 Rd Pg r.2 Mk Lk Ck Jd Ld Pr) A) args s 0 0 A) o_cls D A 3 181 [] (o_cw ad ca rt Sj T0 T1 Rd Pg Pt Mk Lk Ck Jd Ld Pr) [(0, .ref (ad 33)), (2, .int x2)] := by
  unfold m_Pt_readQuantifier_j181 at h
  intro H locs ls hP hS hl
  have C0 := C
  obtain ⟨hx, hb, -, -, -, hown, hts, hK, -, -⟩ := C0
  refine lv_iload_n hx hb d_Pt_readQuantifier_181 rfl (lv_at hl 1 rfl) ?_
  refine lv_if_eq (tgt := 207) hx hb d_Pt_readQuantifier_182 (by decide) (fun c5 => ?_) (fun c5 => ?_)
  · replace h := o_tt c5 h
    refine lv_iconst (v := (0:Int32)) hx hb d_Pt_readQuantifier_207 (by decide) ?_
    cases h
    exact o_rz (v := (0:Int32)) C o_nar0 hP hS d_Pt_readQuantifier_208
  · replace h := o_ff c5 h
    refine lv_aload_n hx hb d_Pt_readQuantifier_185 rfl (lv_at hl 0 rfl) ?_
    refine o_get (v := .int (Pt_least Pt)) C in_Pt hP 33 cw_33 rfl 6 (by decide) k_1_166 rfl rfl d_Pt_readQuantifier_186 ?_
    refine lv_bipush (v := (50:Int32)) hx hb d_Pt_readQuantifier_189 (by decide) ?_
    refine lv_icmp_gt (tgt := 207) hx hb d_Pt_readQuantifier_191 (by decide) (fun c6 => ?_) (fun c6 => ?_)
    · replace h := o_tt c6 h
      refine lv_iconst (v := (0:Int32)) hx hb d_Pt_readQuantifier_207 (by decide) ?_
      cases h
      exact o_rz (v := (0:Int32)) C o_nar0 hP hS d_Pt_readQuantifier_208
    · replace h := o_ff c6 h
      refine lv_aload_n hx hb d_Pt_readQuantifier_194 rfl (lv_at hl 0 rfl) ?_
      refine o_get (v := .int (Pt_most Pt)) C in_Pt hP 33 cw_33 rfl 7 (by decide) k_1_167 rfl rfl d_Pt_readQuantifier_195 ?_
      refine lv_bipush (v := (50:Int32)) hx hb d_Pt_readQuantifier_198 (by decide) ?_
      refine lv_icmp_gt (tgt := 207) hx hb d_Pt_readQuantifier_200 (by decide) (fun c7 => ?_) (fun c7 => ?_)
      · replace h := o_tt c7 h
        refine lv_iconst (v := (0:Int32)) hx hb d_Pt_readQuantifier_207 (by decide) ?_
        cases h
        exact o_rz (v := (0:Int32)) C o_nar0 hP hS d_Pt_readQuantifier_208
      · replace h := o_ff c7 h
        refine lv_iconst (v := (1:Int32)) hx hb d_Pt_readQuantifier_203 (by decide) ?_
        refine lv_goto (tgt := 208) hx hb d_Pt_readQuantifier_204 (by decide) ?_
        cases h
        exact o_rz (v := (1:Int32)) C o_nar1 hP hS d_Pt_readQuantifier_208
set_option maxHeartbeats 4000000 in
set_option maxRecDepth 100000 in
theorem w_Pt_readQuantifier_j161 {E : (Nat → Prop) → State → Heap → Prop} {p : Program} {l : Launch} {e : Env} {s : State} {m : MethodId} {args : Array Value} {below : List Frame} {meth : Method} {c : Code} {D : va_G} {ad kd sd : Nat → Nat} {ca : Nat → ClassId} {A : Nat → Prop} (hE : o_EK E kd sd) (C : o_Cx E p s m args meth c D o_cls (o_tys ca) "SchemaJudge$Pattern" b_Pt_readQuantifier (some .boolean) 3 cc_Pt_readQuantifier A) (hDD : ∀ (rt : Nat) (Sj : SSJ) (T0 : STx) (T1 : STx) (Rd : SRd) (Pg : SPg) (Pt : SPt) (Mk : SMk) (Lk : SLk) (Ck : SCk) (Jd : SJd) (Ld : SLd) (Pr : SPr), va_D A (o_cw ad ca rt Sj T0 T1 Rd Pg Pt Mk Lk Ck Jd Ld Pr)) (n : Nat) (x2 : Int32) (Pt : SPt) (Sj : SSJ) (T0 : STx) (T1 : STx) (Rd : SRd) (Pg : SPg) (Mk : SMk) (Lk : SLk) (Ck : SCk) (Jd : SJd) (Ld : SLd) (Pr : SPr) (rt : Nat) {r : Int32 × SPt} (h : m_Pt_readQuantifier_j161 n x2 Pt = some r) : o_At p l e rm_Pt_readQuantifier s m args below meth c (MQ below (o_Qx D o_cls (some (.int r.1)) (o_cw ad ca rt Sj T0 T1 Rd Pg r.2 Mk Lk Ck Jd Ld Pr) A) args s 0 0 A) o_cls D A 3 161 [] (o_cw ad ca rt Sj T0 T1 Rd Pg Pt Mk Lk Ck Jd Ld Pr) [(0, .ref (ad 33)), (2, .int x2)] := by
  unfold m_Pt_readQuantifier_j161 at h
  intro H locs ls hP hS hl
  have C0 := C
  obtain ⟨hx, hb, -, -, -, hown, hts, hK, -, -⟩ := C0
  refine lv_aload_n hx hb d_Pt_readQuantifier_161 rfl (lv_at hl 0 rfl) ?_
  refine lv_iconst (v := (0:Int32)) hx hb d_Pt_readQuantifier_162 (by decide) ?_
  obtain ⟨q2, hq2, h⟩ := o_bd_some h
  refine o_V (st1 := [.int q2]) (w1 := (o_cw ad ca rt Sj T0 T1 Rd Pg Pt Mk Lk Ck Jd Ld Pr)) hE.1 C (c_Pt_peek hE l (0:Int32) Pt Sj T0 T1 Rd Pg Mk Lk Ck Jd Ld Pr rt hq2) hP (hDD _ _ _ _ _ _ _ _ _ _ _ _ _) hS hl.1 rfl cw_33 k_4_214 k_4_216 k_s_28 k_1_5 k_4_217 hv_Pt_peek rfl rfl ⟨Nat.le_of_ble_eq_true rfl, Nat.le_of_ble_eq_true rfl⟩ rfl (Nat.le_of_ble_eq_true rfl) ⟨Nat.le_of_ble_eq_true rfl, Nat.le_of_ble_eq_true rfl⟩ rfl d_Pt_readQuantifier_163 (fun H locs hP hS => ?_)
  refine lv_bipush (v := (-63:Int32)) hx hb d_Pt_readQuantifier_166 (by decide) ?_
  refine lv_icmp_ne (tgt := 181) hx hb d_Pt_readQuantifier_168 (by decide) (fun c4 => ?_) (fun c4 => ?_)
  · replace h := o_ff c4 h
    exact w_Pt_readQuantifier_j181 hE C hDD n x2 Pt Sj T0 T1 Rd Pg Mk Lk Ck Jd Ld Pr rt h _ _ _ hP hS (lv_sub hl [0, 1] rfl)
  · replace h := o_tt c4 h
    refine lv_aload_n hx hb d_Pt_readQuantifier_171 rfl (lv_at hl 0 rfl) ?_
    refine lv_dup hx hb d_Pt_readQuantifier_172 rfl ?_
    refine o_get (v := .int (Pt_position Pt)) C in_Pt hP 33 cw_33 rfl 4 (by decide) k_1_164 rfl rfl d_Pt_readQuantifier_173 ?_
    refine lv_iconst (v := (1:Int32)) hx hb d_Pt_readQuantifier_176 (by decide) ?_
    refine lv_iadd hx hb d_Pt_readQuantifier_177 ?_
    refine o_put (v := .int ((Pt_position Pt) + (1:Int32))) (ty := .int) (w1 := (o_cw ad ca rt Sj T0 T1 Rd Pg (Pt_mk (Pt_tokens Pt) (Pt_characterCount Pt) (Pt_tokenCount Pt) ((Pt_position Pt) + (1:Int32)) (Pt_total Pt) (Pt_least Pt) (Pt_most Pt) (Pt_depth Pt) (Pt_blockStarts Pt) (Pt_branchStarts Pt) (Pt_jumps Pt) (Pt_sizesBefore Pt)) Mk Lk Ck Jd Ld Pr)) C in_Pt t_Pt t_Pt_ok n_Pt hP (hDD _ _ _ _ _ _ _ _ _ _ _ _ _) hS 33 cw_33 rfl 4 (by decide) k_1_164 rfl rfl (by decide +kernel) rfl rfl (Nat.le_of_ble_eq_true rfl) rfl d_Pt_readQuantifier_178 (fun H locs hP hS => ?_)
    exact w_Pt_readQuantifier_j181 hE C hDD n x2 (Pt_mk (Pt_tokens Pt) (Pt_characterCount Pt) (Pt_tokenCount Pt) ((Pt_position Pt) + (1:Int32)) (Pt_total Pt) (Pt_least Pt) (Pt_most Pt) (Pt_depth Pt) (Pt_blockStarts Pt) (Pt_branchStarts Pt) (Pt_jumps Pt) (Pt_sizesBefore Pt)) Sj T0 T1 Rd Pg Mk Lk Ck Jd Ld Pr rt h _ _ _ hP hS (lv_sub hl [0, 1] rfl)
set_option maxHeartbeats 4000000 in
set_option maxRecDepth 100000 in
theorem w_Pt_readQuantifier_j150 {E : (Nat → Prop) → State → Heap → Prop} {p : Program} {l : Launch} {e : Env} {s : State} {m : MethodId} {args : Array Value} {below : List Frame} {meth : Method} {c : Code} {D : va_G} {ad kd sd : Nat → Nat} {ca : Nat → ClassId} {A : Nat → Prop} (hE : o_EK E kd sd) (C : o_Cx E p s m args meth c D o_cls (o_tys ca) "SchemaJudge$Pattern" b_Pt_readQuantifier (some .boolean) 3 cc_Pt_readQuantifier A) (hDD : ∀ (rt : Nat) (Sj : SSJ) (T0 : STx) (T1 : STx) (Rd : SRd) (Pg : SPg) (Pt : SPt) (Mk : SMk) (Lk : SLk) (Ck : SCk) (Jd : SJd) (Ld : SLd) (Pr : SPr), va_D A (o_cw ad ca rt Sj T0 T1 Rd Pg Pt Mk Lk Ck Jd Ld Pr)) (n : Nat) (y0 : Int32) (Pt : SPt) (Sj : SSJ) (T0 : STx) (T1 : STx) (Rd : SRd) (Pg : SPg) (Mk : SMk) (Lk : SLk) (Ck : SCk) (Jd : SJd) (Ld : SLd) (Pr : SPr) (rt : Nat) {r : Int32 × SPt} (h : m_Pt_readQuantifier_j150 n y0 Pt = some r) : o_At p l e rm_Pt_readQuantifier s m args below meth c (MQ below (o_Qx D o_cls (some (.int r.1)) (o_cw ad ca rt Sj T0 T1 Rd Pg r.2 Mk Lk Ck Jd Ld Pr) A) args s 0 0 A) o_cls D A 3 150 [.int y0] (o_cw ad ca rt Sj T0 T1 Rd Pg Pt Mk Lk Ck Jd Ld Pr) [(0, .ref (ad 33))] := by
  unfold m_Pt_readQuantifier_j150 at h
  intro H locs ls hP hS hl
  have C0 := C
  obtain ⟨hx, hb, -, -, -, hown, hts, hK, -, -⟩ := C0
  refine lv_istore_n (lv' := [(2, .int y0), (0, .ref (ad 33))]) hx hb d_Pt_readQuantifier_150 rfl hl (by decide) rfl (fun ls hl => ?_)
  refine lv_aload_n hx hb d_Pt_readQuantifier_151 rfl (lv_at hl 1 rfl) ?_
  refine lv_dup hx hb d_Pt_readQuantifier_152 rfl ?_
  refine o_get (v := .int (Pt_position Pt)) C in_Pt hP 33 cw_33 rfl 4 (by decide) k_1_164 rfl rfl d_Pt_readQuantifier_153 ?_
  refine lv_iconst (v := (1:Int32)) hx hb d_Pt_readQuantifier_156 (by decide) ?_
  refine lv_iadd hx hb d_Pt_readQuantifier_157 ?_
  refine o_put (v := .int ((Pt_position Pt) + (1:Int32))) (ty := .int) (w1 := (o_cw ad ca rt Sj T0 T1 Rd Pg (Pt_mk (Pt_tokens Pt) (Pt_characterCount Pt) (Pt_tokenCount Pt) ((Pt_position Pt) + (1:Int32)) (Pt_total Pt) (Pt_least Pt) (Pt_most Pt) (Pt_depth Pt) (Pt_blockStarts Pt) (Pt_branchStarts Pt) (Pt_jumps Pt) (Pt_sizesBefore Pt)) Mk Lk Ck Jd Ld Pr)) C in_Pt t_Pt t_Pt_ok n_Pt hP (hDD _ _ _ _ _ _ _ _ _ _ _ _ _) hS 33 cw_33 rfl 4 (by decide) k_1_164 rfl rfl (by decide +kernel) rfl rfl (Nat.le_of_ble_eq_true rfl) rfl d_Pt_readQuantifier_158 (fun H locs hP hS => ?_)
  exact w_Pt_readQuantifier_j161 hE C hDD n y0 (Pt_mk (Pt_tokens Pt) (Pt_characterCount Pt) (Pt_tokenCount Pt) ((Pt_position Pt) + (1:Int32)) (Pt_total Pt) (Pt_least Pt) (Pt_most Pt) (Pt_depth Pt) (Pt_blockStarts Pt) (Pt_branchStarts Pt) (Pt_jumps Pt) (Pt_sizesBefore Pt)) Sj T0 T1 Rd Pg Mk Lk Ck Jd Ld Pr rt h _ _ _ hP hS (lv_sub hl [1, 0] rfl)
set_option maxHeartbeats 4000000 in
set_option maxRecDepth 100000 in
theorem w_Pt_readQuantifier_j112 {E : (Nat → Prop) → State → Heap → Prop} {p : Program} {l : Launch} {e : Env} {s : State} {m : MethodId} {args : Array Value} {below : List Frame} {meth : Method} {c : Code} {D : va_G} {ad kd sd : Nat → Nat} {ca : Nat → ClassId} {A : Nat → Prop} (hE : o_EK E kd sd) (C : o_Cx E p s m args meth c D o_cls (o_tys ca) "SchemaJudge$Pattern" b_Pt_readQuantifier (some .boolean) 3 cc_Pt_readQuantifier A) (hDD : ∀ (rt : Nat) (Sj : SSJ) (T0 : STx) (T1 : STx) (Rd : SRd) (Pg : SPg) (Pt : SPt) (Mk : SMk) (Lk : SLk) (Ck : SCk) (Jd : SJd) (Ld : SLd) (Pr : SPr), va_D A (o_cw ad ca rt Sj T0 T1 Rd Pg Pt Mk Lk Ck Jd Ld Pr)) (n : Nat) (x2 : Int32) (Pt : SPt) (Sj : SSJ) (T0 : STx) (T1 : STx) (Rd : SRd) (Pg : SPg) (Mk : SMk) (Lk : SLk) (Ck : SCk) (Jd : SJd) (Ld : SLd) (Pr : SPr) (rt : Nat) {r : Int32 × SPt} (h : m_Pt_readQuantifier_j112 n x2 Pt = some r) : o_At p l e rm_Pt_readQuantifier s m args below meth c (MQ below (o_Qx D o_cls (some (.int r.1)) (o_cw ad ca rt Sj T0 T1 Rd Pg r.2 Mk Lk Ck Jd Ld Pr) A) args s 0 0 A) o_cls D A 3 112 [] (o_cw ad ca rt Sj T0 T1 Rd Pg Pt Mk Lk Ck Jd Ld Pr) [(0, .ref (ad 33)), (2, .int x2)] := by
  unfold m_Pt_readQuantifier_j112 at h
  intro H locs ls hP hS hl
  have C0 := C
  obtain ⟨hx, hb, -, -, -, hown, hts, hK, -, -⟩ := C0
  refine lv_iload_n hx hb d_Pt_readQuantifier_112 rfl (lv_at hl 1 rfl) ?_
  refine lv_if_eq (tgt := 149) hx hb d_Pt_readQuantifier_113 (by decide) (fun c10 => ?_) (fun c10 => ?_)
  · replace h := o_tt c10 h
    refine lv_iconst (v := (0:Int32)) hx hb d_Pt_readQuantifier_149 (by decide) ?_
    exact w_Pt_readQuantifier_j150 hE C hDD n (0:Int32) Pt Sj T0 T1 Rd Pg Mk Lk Ck Jd Ld Pr rt h _ _ _ hP hS (lv_sub hl [0] rfl)
  · replace h := o_ff c10 h
    refine lv_aload_n hx hb d_Pt_readQuantifier_116 rfl (lv_at hl 0 rfl) ?_
    refine lv_iconst (v := (0:Int32)) hx hb d_Pt_readQuantifier_117 (by decide) ?_
    obtain ⟨q5, hq5, h⟩ := o_bd_some h
    refine o_V (st1 := [.int q5]) (w1 := (o_cw ad ca rt Sj T0 T1 Rd Pg Pt Mk Lk Ck Jd Ld Pr)) hE.1 C (c_Pt_peek hE l (0:Int32) Pt Sj T0 T1 Rd Pg Mk Lk Ck Jd Ld Pr rt hq5) hP (hDD _ _ _ _ _ _ _ _ _ _ _ _ _) hS hl.1 rfl cw_33 k_4_214 k_4_216 k_s_28 k_1_5 k_4_217 hv_Pt_peek rfl rfl ⟨Nat.le_of_ble_eq_true rfl, Nat.le_of_ble_eq_true rfl⟩ rfl (Nat.le_of_ble_eq_true rfl) ⟨Nat.le_of_ble_eq_true rfl, Nat.le_of_ble_eq_true rfl⟩ rfl d_Pt_readQuantifier_118 (fun H locs hP hS => ?_)
    refine lv_bipush (v := (-125:Int32)) hx hb d_Pt_readQuantifier_121 (by decide) ?_
    refine lv_icmp_ne (tgt := 149) hx hb d_Pt_readQuantifier_123 (by decide) (fun c11 => ?_) (fun c11 => ?_)
    · replace h := o_ff c11 h
      refine lv_iconst (v := (0:Int32)) hx hb d_Pt_readQuantifier_149 (by decide) ?_
      exact w_Pt_readQuantifier_j150 hE C hDD n (0:Int32) Pt Sj T0 T1 Rd Pg Mk Lk Ck Jd Ld Pr rt h _ _ _ hP hS (lv_sub hl [0] rfl)
    · replace h := o_tt c11 h
      refine lv_aload_n hx hb d_Pt_readQuantifier_126 rfl (lv_at hl 0 rfl) ?_
      refine o_get (v := .int (Pt_most Pt)) C in_Pt hP 33 cw_33 rfl 7 (by decide) k_1_167 rfl rfl d_Pt_readQuantifier_127 ?_
      refine lv_iconst (v := (-1:Int32)) hx hb d_Pt_readQuantifier_130 (by decide) ?_
      refine lv_icmp_eq (tgt := 145) hx hb d_Pt_readQuantifier_131 (by decide) (fun c12 => ?_) (fun c12 => ?_)
      · replace h := o_tt c12 h
        refine lv_iconst (v := (1:Int32)) hx hb d_Pt_readQuantifier_145 (by decide) ?_
        refine lv_goto (tgt := 150) hx hb d_Pt_readQuantifier_146 (by decide) ?_
        exact w_Pt_readQuantifier_j150 hE C hDD n (1:Int32) Pt Sj T0 T1 Rd Pg Mk Lk Ck Jd Ld Pr rt h _ _ _ hP hS (lv_sub hl [0] rfl)
      · replace h := o_ff c12 h
        refine lv_aload_n hx hb d_Pt_readQuantifier_134 rfl (lv_at hl 0 rfl) ?_
        refine o_get (v := .int (Pt_least Pt)) C in_Pt hP 33 cw_33 rfl 6 (by decide) k_1_166 rfl rfl d_Pt_readQuantifier_135 ?_
        refine lv_aload_n hx hb d_Pt_readQuantifier_138 rfl (lv_at hl 0 rfl) ?_
        refine o_get (v := .int (Pt_most Pt)) C in_Pt hP 33 cw_33 rfl 7 (by decide) k_1_167 rfl rfl d_Pt_readQuantifier_139 ?_
        refine lv_icmp_gt (tgt := 149) hx hb d_Pt_readQuantifier_142 (by decide) (fun c13 => ?_) (fun c13 => ?_)
        · replace h := o_tt c13 h
          refine lv_iconst (v := (0:Int32)) hx hb d_Pt_readQuantifier_149 (by decide) ?_
          exact w_Pt_readQuantifier_j150 hE C hDD n (0:Int32) Pt Sj T0 T1 Rd Pg Mk Lk Ck Jd Ld Pr rt h _ _ _ hP hS (lv_sub hl [0] rfl)
        · replace h := o_ff c13 h
          refine lv_iconst (v := (1:Int32)) hx hb d_Pt_readQuantifier_145 (by decide) ?_
          refine lv_goto (tgt := 150) hx hb d_Pt_readQuantifier_146 (by decide) ?_
          exact w_Pt_readQuantifier_j150 hE C hDD n (1:Int32) Pt Sj T0 T1 Rd Pg Mk Lk Ck Jd Ld Pr rt h _ _ _ hP hS (lv_sub hl [0] rfl)
set_option maxHeartbeats 4000000 in
set_option maxRecDepth 100000 in
theorem w_Pt_readQuantifier_j83 {E : (Nat → Prop) → State → Heap → Prop} {p : Program} {l : Launch} {e : Env} {s : State} {m : MethodId} {args : Array Value} {below : List Frame} {meth : Method} {c : Code} {D : va_G} {ad kd sd : Nat → Nat} {ca : Nat → ClassId} {A : Nat → Prop} (hE : o_EK E kd sd) (C : o_Cx E p s m args meth c D o_cls (o_tys ca) "SchemaJudge$Pattern" b_Pt_readQuantifier (some .boolean) 3 cc_Pt_readQuantifier A) (hDD : ∀ (rt : Nat) (Sj : SSJ) (T0 : STx) (T1 : STx) (Rd : SRd) (Pg : SPg) (Pt : SPt) (Mk : SMk) (Lk : SLk) (Ck : SCk) (Jd : SJd) (Ld : SLd) (Pr : SPr), va_D A (o_cw ad ca rt Sj T0 T1 Rd Pg Pt Mk Lk Ck Jd Ld Pr)) (n : Nat) (y0 : Int32) (Pt : SPt) (Sj : SSJ) (T0 : STx) (T1 : STx) (Rd : SRd) (Pg : SPg) (Mk : SMk) (Lk : SLk) (Ck : SCk) (Jd : SJd) (Ld : SLd) (Pr : SPr) (rt : Nat) {r : Int32 × SPt} (h : m_Pt_readQuantifier_j83 n y0 Pt = some r) : o_At p l e rm_Pt_readQuantifier s m args below meth c (MQ below (o_Qx D o_cls (some (.int r.1)) (o_cw ad ca rt Sj T0 T1 Rd Pg r.2 Mk Lk Ck Jd Ld Pr) A) args s 0 0 A) o_cls D A 3 83 [.int y0] (o_cw ad ca rt Sj T0 T1 Rd Pg Pt Mk Lk Ck Jd Ld Pr) [(0, .ref (ad 33))] := by
  unfold m_Pt_readQuantifier_j83 at h
  intro H locs ls hP hS hl
  have C0 := C
  obtain ⟨hx, hb, -, -, -, hown, hts, hK, -, -⟩ := C0
  refine lv_istore_n (lv' := [(2, .int y0), (0, .ref (ad 33))]) hx hb d_Pt_readQuantifier_83 rfl hl (by decide) rfl (fun ls hl => ?_)
  refine lv_aload_n hx hb d_Pt_readQuantifier_84 rfl (lv_at hl 1 rfl) ?_
  refine lv_iconst (v := (0:Int32)) hx hb d_Pt_readQuantifier_85 (by decide) ?_
  obtain ⟨q4, hq4, h⟩ := o_bd_some h
  refine o_V (st1 := [.int q4]) (w1 := (o_cw ad ca rt Sj T0 T1 Rd Pg Pt Mk Lk Ck Jd Ld Pr)) hE.1 C (c_Pt_peek hE l (0:Int32) Pt Sj T0 T1 Rd Pg Mk Lk Ck Jd Ld Pr rt hq4) hP (hDD _ _ _ _ _ _ _ _ _ _ _ _ _) hS hl.1 rfl cw_33 k_4_214 k_4_216 k_s_28 k_1_5 k_4_217 hv_Pt_peek rfl rfl ⟨Nat.le_of_ble_eq_true rfl, Nat.le_of_ble_eq_true rfl⟩ rfl (Nat.le_of_ble_eq_true rfl) ⟨Nat.le_of_ble_eq_true rfl, Nat.le_of_ble_eq_true rfl⟩ rfl d_Pt_readQuantifier_86 (fun H locs hP hS => ?_)
  refine lv_bipush (v := (44:Int32)) hx hb d_Pt_readQuantifier_89 (by decide) ?_
  refine lv_icmp_ne (tgt := 112) hx hb d_Pt_readQuantifier_91 (by decide) (fun c9 => ?_) (fun c9 => ?_)
  · replace h := o_ff c9 h
    exact w_Pt_readQuantifier_j112 hE C hDD n y0 Pt Sj T0 T1 Rd Pg Mk Lk Ck Jd Ld Pr rt h _ _ _ hP hS (lv_sub hl [1, 0] rfl)
  · replace h := o_tt c9 h
    refine lv_aload_n hx hb d_Pt_readQuantifier_94 rfl (lv_at hl 1 rfl) ?_
    refine lv_dup hx hb d_Pt_readQuantifier_95 rfl ?_
    refine o_get (v := .int (Pt_position Pt)) C in_Pt hP 33 cw_33 rfl 4 (by decide) k_1_164 rfl rfl d_Pt_readQuantifier_96 ?_
    refine lv_iconst (v := (1:Int32)) hx hb d_Pt_readQuantifier_99 (by decide) ?_
    refine lv_iadd hx hb d_Pt_readQuantifier_100 ?_
    refine o_put (v := .int ((Pt_position Pt) + (1:Int32))) (ty := .int) (w1 := (o_cw ad ca rt Sj T0 T1 Rd Pg (Pt_mk (Pt_tokens Pt) (Pt_characterCount Pt) (Pt_tokenCount Pt) ((Pt_position Pt) + (1:Int32)) (Pt_total Pt) (Pt_least Pt) (Pt_most Pt) (Pt_depth Pt) (Pt_blockStarts Pt) (Pt_branchStarts Pt) (Pt_jumps Pt) (Pt_sizesBefore Pt)) Mk Lk Ck Jd Ld Pr)) C in_Pt t_Pt t_Pt_ok n_Pt hP (hDD _ _ _ _ _ _ _ _ _ _ _ _ _) hS 33 cw_33 rfl 4 (by decide) k_1_164 rfl rfl (by decide +kernel) rfl rfl (Nat.le_of_ble_eq_true rfl) rfl d_Pt_readQuantifier_101 (fun H locs hP hS => ?_)
    refine lv_aload_n hx hb d_Pt_readQuantifier_104 rfl (lv_at hl 1 rfl) ?_
    refine lv_aload_n hx hb d_Pt_readQuantifier_105 rfl (lv_at hl 1 rfl) ?_
    obtain ⟨q6, hq6, h⟩ := o_bd_some h
    refine o_V (st1 := [.int q6.1, .ref (ad 33)]) (w1 := (o_cw ad ca rt Sj T0 T1 Rd Pg q6.2 Mk Lk Ck Jd Ld Pr)) hE.1 C (c_Pt_readNumber hE l n (Pt_mk (Pt_tokens Pt) (Pt_characterCount Pt) (Pt_tokenCount Pt) ((Pt_position Pt) + (1:Int32)) (Pt_total Pt) (Pt_least Pt) (Pt_most Pt) (Pt_depth Pt) (Pt_blockStarts Pt) (Pt_branchStarts Pt) (Pt_jumps Pt) (Pt_sizesBefore Pt)) Sj T0 T1 Rd Pg Mk Lk Ck Jd Ld Pr rt hq6) hP (hDD _ _ _ _ _ _ _ _ _ _ _ _ _) hS hl.1 rfl cw_33 k_5_40 k_5_42 k_s_35 k_1_5 k_5_43 hv_Pt_readNumber rfl rfl ⟨Nat.le_of_ble_eq_true rfl, Nat.le_of_ble_eq_true rfl⟩ rfl (Nat.le_of_ble_eq_true rfl) ⟨Nat.le_of_ble_eq_true rfl, Nat.le_of_ble_eq_true rfl⟩ rfl d_Pt_readQuantifier_106 (fun H locs hP hS => ?_)
    refine o_put (v := .int q6.1) (ty := .int) (w1 := (o_cw ad ca rt Sj T0 T1 Rd Pg (Pt_mk (Pt_tokens q6.2) (Pt_characterCount q6.2) (Pt_tokenCount q6.2) (Pt_position q6.2) (Pt_total q6.2) (Pt_least q6.2) q6.1 (Pt_depth q6.2) (Pt_blockStarts q6.2) (Pt_branchStarts q6.2) (Pt_jumps q6.2) (Pt_sizesBefore q6.2)) Mk Lk Ck Jd Ld Pr)) C in_Pt t_Pt t_Pt_ok n_Pt hP (hDD _ _ _ _ _ _ _ _ _ _ _ _ _) hS 33 cw_33 rfl 7 (by decide) k_1_167 rfl rfl (by decide +kernel) rfl rfl (Nat.le_of_ble_eq_true rfl) rfl d_Pt_readQuantifier_109 (fun H locs hP hS => ?_)
    exact w_Pt_readQuantifier_j112 hE C hDD n y0 (Pt_mk (Pt_tokens q6.2) (Pt_characterCount q6.2) (Pt_tokenCount q6.2) (Pt_position q6.2) (Pt_total q6.2) (Pt_least q6.2) q6.1 (Pt_depth q6.2) (Pt_blockStarts q6.2) (Pt_branchStarts q6.2) (Pt_jumps q6.2) (Pt_sizesBefore q6.2)) Sj T0 T1 Rd Pg Mk Lk Ck Jd Ld Pr rt h _ _ _ hP hS (lv_sub hl [1, 0] rfl)
set_option maxHeartbeats 4000000 in
set_option maxRecDepth 100000 in
theorem w_Pt_readQuantifier_j43 {E : (Nat → Prop) → State → Heap → Prop} {p : Program} {l : Launch} {e : Env} {s : State} {m : MethodId} {args : Array Value} {below : List Frame} {meth : Method} {c : Code} {D : va_G} {ad kd sd : Nat → Nat} {ca : Nat → ClassId} {A : Nat → Prop} (hE : o_EK E kd sd) (C : o_Cx E p s m args meth c D o_cls (o_tys ca) "SchemaJudge$Pattern" b_Pt_readQuantifier (some .boolean) 3 cc_Pt_readQuantifier A) (hDD : ∀ (rt : Nat) (Sj : SSJ) (T0 : STx) (T1 : STx) (Rd : SRd) (Pg : SPg) (Pt : SPt) (Mk : SMk) (Lk : SLk) (Ck : SCk) (Jd : SJd) (Ld : SLd) (Pr : SPr), va_D A (o_cw ad ca rt Sj T0 T1 Rd Pg Pt Mk Lk Ck Jd Ld Pr)) (n : Nat) (x1 : Int32) (y1 : Int32) (Pt : SPt) (Sj : SSJ) (T0 : STx) (T1 : STx) (Rd : SRd) (Pg : SPg) (Mk : SMk) (Lk : SLk) (Ck : SCk) (Jd : SJd) (Ld : SLd) (Pr : SPr) (rt : Nat) {r : Int32 × SPt} (h : m_Pt_readQuantifier_j43 n x1 y1 Pt = some r) : o_At p l e rm_Pt_readQuantifier s m args below meth c (MQ below (o_Qx D o_cls (some (.int r.1)) (o_cw ad ca rt Sj T0 T1 Rd Pg r.2 Mk Lk Ck Jd Ld Pr) A) args s 0 0 A) o_cls D A 3 43 [.int y1, .ref (ad 33)] (o_cw ad ca rt Sj T0 T1 Rd Pg Pt Mk Lk Ck Jd Ld Pr) [(0, .ref (ad 33)), (1, .int x1)] := by
  unfold m_Pt_readQuantifier_j43 at h
  intro H locs ls hP hS hl
  have C0 := C
  obtain ⟨hx, hb, -, -, -, hown, hts, hK, -, -⟩ := C0
  refine o_put (v := .int y1) (ty := .int) (w1 := (o_cw ad ca rt Sj T0 T1 Rd Pg (Pt_mk (Pt_tokens Pt) (Pt_characterCount Pt) (Pt_tokenCount Pt) (Pt_position Pt) (Pt_total Pt) (Pt_least Pt) y1 (Pt_depth Pt) (Pt_blockStarts Pt) (Pt_branchStarts Pt) (Pt_jumps Pt) (Pt_sizesBefore Pt)) Mk Lk Ck Jd Ld Pr)) C in_Pt t_Pt t_Pt_ok n_Pt hP (hDD _ _ _ _ _ _ _ _ _ _ _ _ _) hS 33 cw_33 rfl 7 (by decide) k_1_167 rfl rfl (by decide +kernel) rfl rfl (Nat.le_of_ble_eq_true rfl) rfl d_Pt_readQuantifier_43 (fun H locs hP hS => ?_)
  refine lv_iconst (v := (1:Int32)) hx hb d_Pt_readQuantifier_46 (by decide) ?_
  refine lv_istore_n (lv' := [(2, .int (1:Int32)), (0, .ref (ad 33)), (1, .int x1)]) hx hb d_Pt_readQuantifier_47 rfl hl (by decide) rfl (fun ls hl => ?_)
  refine lv_iload_n hx hb d_Pt_readQuantifier_48 rfl (lv_at hl 2 rfl) ?_
  refine lv_bipush (v := (-123:Int32)) hx hb d_Pt_readQuantifier_49 (by decide) ?_
  refine lv_icmp_ne (tgt := 161) hx hb d_Pt_readQuantifier_51 (by decide) (fun c3 => ?_) (fun c3 => ?_)
  · replace h := o_ff c3 h
    exact w_Pt_readQuantifier_j161 hE C hDD n (1:Int32) (Pt_mk (Pt_tokens Pt) (Pt_characterCount Pt) (Pt_tokenCount Pt) (Pt_position Pt) (Pt_total Pt) (Pt_least Pt) y1 (Pt_depth Pt) (Pt_blockStarts Pt) (Pt_branchStarts Pt) (Pt_jumps Pt) (Pt_sizesBefore Pt)) Sj T0 T1 Rd Pg Mk Lk Ck Jd Ld Pr rt h _ _ _ hP hS (lv_sub hl [1, 0] rfl)
  · replace h := o_tt c3 h
    refine lv_aload_n hx hb d_Pt_readQuantifier_54 rfl (lv_at hl 1 rfl) ?_
    refine lv_aload_n hx hb d_Pt_readQuantifier_55 rfl (lv_at hl 1 rfl) ?_
    obtain ⟨q3, hq3, h⟩ := o_bd_some h
    refine o_V (st1 := [.int q3.1, .ref (ad 33)]) (w1 := (o_cw ad ca rt Sj T0 T1 Rd Pg q3.2 Mk Lk Ck Jd Ld Pr)) hE.1 C (c_Pt_readNumber hE l n (Pt_mk (Pt_tokens Pt) (Pt_characterCount Pt) (Pt_tokenCount Pt) (Pt_position Pt) (Pt_total Pt) (Pt_least Pt) y1 (Pt_depth Pt) (Pt_blockStarts Pt) (Pt_branchStarts Pt) (Pt_jumps Pt) (Pt_sizesBefore Pt)) Sj T0 T1 Rd Pg Mk Lk Ck Jd Ld Pr rt hq3) hP (hDD _ _ _ _ _ _ _ _ _ _ _ _ _) hS hl.1 rfl cw_33 k_5_40 k_5_42 k_s_35 k_1_5 k_5_43 hv_Pt_readNumber rfl rfl ⟨Nat.le_of_ble_eq_true rfl, Nat.le_of_ble_eq_true rfl⟩ rfl (Nat.le_of_ble_eq_true rfl) ⟨Nat.le_of_ble_eq_true rfl, Nat.le_of_ble_eq_true rfl⟩ rfl d_Pt_readQuantifier_56 (fun H locs hP hS => ?_)
    refine o_put (v := .int q3.1) (ty := .int) (w1 := (o_cw ad ca rt Sj T0 T1 Rd Pg (Pt_mk (Pt_tokens q3.2) (Pt_characterCount q3.2) (Pt_tokenCount q3.2) (Pt_position q3.2) (Pt_total q3.2) q3.1 (Pt_most q3.2) (Pt_depth q3.2) (Pt_blockStarts q3.2) (Pt_branchStarts q3.2) (Pt_jumps q3.2) (Pt_sizesBefore q3.2)) Mk Lk Ck Jd Ld Pr)) C in_Pt t_Pt t_Pt_ok n_Pt hP (hDD _ _ _ _ _ _ _ _ _ _ _ _ _) hS 33 cw_33 rfl 6 (by decide) k_1_166 rfl rfl (by decide +kernel) rfl rfl (Nat.le_of_ble_eq_true rfl) rfl d_Pt_readQuantifier_59 (fun H locs hP hS => ?_)
    refine lv_aload_n hx hb d_Pt_readQuantifier_62 rfl (lv_at hl 1 rfl) ?_
    refine lv_aload_n hx hb d_Pt_readQuantifier_63 rfl (lv_at hl 1 rfl) ?_
    refine o_get (v := .int q3.1) C in_Pt hP 33 cw_33 rfl 6 (by decide) k_1_166 rfl rfl d_Pt_readQuantifier_64 ?_
    refine o_put (v := .int q3.1) (ty := .int) (w1 := (o_cw ad ca rt Sj T0 T1 Rd Pg (Pt_mk (Pt_tokens q3.2) (Pt_characterCount q3.2) (Pt_tokenCount q3.2) (Pt_position q3.2) (Pt_total q3.2) q3.1 q3.1 (Pt_depth q3.2) (Pt_blockStarts q3.2) (Pt_branchStarts q3.2) (Pt_jumps q3.2) (Pt_sizesBefore q3.2)) Mk Lk Ck Jd Ld Pr)) C in_Pt t_Pt t_Pt_ok n_Pt hP (hDD _ _ _ _ _ _ _ _ _ _ _ _ _) hS 33 cw_33 rfl 7 (by decide) k_1_167 rfl rfl (by decide +kernel) rfl rfl (Nat.le_of_ble_eq_true rfl) rfl d_Pt_readQuantifier_67 (fun H locs hP hS => ?_)
    refine lv_aload_n hx hb d_Pt_readQuantifier_70 rfl (lv_at hl 1 rfl) ?_
    refine o_get (v := .int q3.1) C in_Pt hP 33 cw_33 rfl 6 (by decide) k_1_166 rfl rfl d_Pt_readQuantifier_71 ?_
    refine lv_iconst (v := (-1:Int32)) hx hb d_Pt_readQuantifier_74 (by decide) ?_
    refine lv_icmp_eq (tgt := 82) hx hb d_Pt_readQuantifier_75 (by decide) (fun c8 => ?_) (fun c8 => ?_)
    · replace h := o_tt c8 h
      refine lv_iconst (v := (0:Int32)) hx hb d_Pt_readQuantifier_82 (by decide) ?_
      exact w_Pt_readQuantifier_j83 hE C hDD n (0:Int32) (Pt_mk (Pt_tokens q3.2) (Pt_characterCount q3.2) (Pt_tokenCount q3.2) (Pt_position q3.2) (Pt_total q3.2) q3.1 q3.1 (Pt_depth q3.2) (Pt_blockStarts q3.2) (Pt_branchStarts q3.2) (Pt_jumps q3.2) (Pt_sizesBefore q3.2)) Sj T0 T1 Rd Pg Mk Lk Ck Jd Ld Pr rt h _ _ _ hP hS (lv_sub hl [1] rfl)
    · replace h := o_ff c8 h
      refine lv_iconst (v := (1:Int32)) hx hb d_Pt_readQuantifier_78 (by decide) ?_
      refine lv_goto (tgt := 83) hx hb d_Pt_readQuantifier_79 (by decide) ?_
      exact w_Pt_readQuantifier_j83 hE C hDD n (1:Int32) (Pt_mk (Pt_tokens q3.2) (Pt_characterCount q3.2) (Pt_tokenCount q3.2) (Pt_position q3.2) (Pt_total q3.2) q3.1 q3.1 (Pt_depth q3.2) (Pt_blockStarts q3.2) (Pt_branchStarts q3.2) (Pt_jumps q3.2) (Pt_sizesBefore q3.2)) Sj T0 T1 Rd Pg Mk Lk Ck Jd Ld Pr rt h _ _ _ hP hS (lv_sub hl [1] rfl)
set_option maxHeartbeats 4000000 in
set_option maxRecDepth 100000 in
theorem w_Pt_readQuantifier_j28 {E : (Nat → Prop) → State → Heap → Prop} {p : Program} {l : Launch} {e : Env} {s : State} {m : MethodId} {args : Array Value} {below : List Frame} {meth : Method} {c : Code} {D : va_G} {ad kd sd : Nat → Nat} {ca : Nat → ClassId} {A : Nat → Prop} (hE : o_EK E kd sd) (C : o_Cx E p s m args meth c D o_cls (o_tys ca) "SchemaJudge$Pattern" b_Pt_readQuantifier (some .boolean) 3 cc_Pt_readQuantifier A) (hDD : ∀ (rt : Nat) (Sj : SSJ) (T0 : STx) (T1 : STx) (Rd : SRd) (Pg : SPg) (Pt : SPt) (Mk : SMk) (Lk : SLk) (Ck : SCk) (Jd : SJd) (Ld : SLd) (Pr : SPr), va_D A (o_cw ad ca rt Sj T0 T1 Rd Pg Pt Mk Lk Ck Jd Ld Pr)) (n : Nat) (x1 : Int32) (y1 : Int32) (Pt : SPt) (Sj : SSJ) (T0 : STx) (T1 : STx) (Rd : SRd) (Pg : SPg) (Mk : SMk) (Lk : SLk) (Ck : SCk) (Jd : SJd) (Ld : SLd) (Pr : SPr) (rt : Nat) {r : Int32 × SPt} (h : m_Pt_readQuantifier_j28 n x1 y1 Pt = some r) : o_At p l e rm_Pt_readQuantifier s m args below meth c (MQ below (o_Qx D o_cls (some (.int r.1)) (o_cw ad ca rt Sj T0 T1 Rd Pg r.2 Mk Lk Ck Jd Ld Pr) A) args s 0 0 A) o_cls D A 3 28 [.int y1, .ref (ad 33)] (o_cw ad ca rt Sj T0 T1 Rd Pg Pt Mk Lk Ck Jd Ld Pr) [(0, .ref (ad 33)), (1, .int x1)] := by
  unfold m_Pt_readQuantifier_j28 at h
  intro H locs ls hP hS hl
  have C0 := C
  obtain ⟨hx, hb, -, -, -, hown, hts, hK, -, -⟩ := C0
  refine o_put (v := .int y1) (ty := .int) (w1 := (o_cw ad ca rt Sj T0 T1 Rd Pg (Pt_mk (Pt_tokens Pt) (Pt_characterCount Pt) (Pt_tokenCount Pt) (Pt_position Pt) (Pt_total Pt) y1 (Pt_most Pt) (Pt_depth Pt) (Pt_blockStarts Pt) (Pt_branchStarts Pt) (Pt_jumps Pt) (Pt_sizesBefore Pt)) Mk Lk Ck Jd Ld Pr)) C in_Pt t_Pt t_Pt_ok n_Pt hP (hDD _ _ _ _ _ _ _ _ _ _ _ _ _) hS 33 cw_33 rfl 6 (by decide) k_1_166 rfl rfl (by decide +kernel) rfl rfl (Nat.le_of_ble_eq_true rfl) rfl d_Pt_readQuantifier_28 (fun H locs hP hS => ?_)
  refine lv_aload_n hx hb d_Pt_readQuantifier_31 rfl (lv_at hl 0 rfl) ?_
  refine lv_iload_n hx hb d_Pt_readQuantifier_32 rfl (lv_at hl 1 rfl) ?_
  refine lv_bipush (v := (-63:Int32)) hx hb d_Pt_readQuantifier_33 (by decide) ?_
  refine lv_icmp_ne (tgt := 42) hx hb d_Pt_readQuantifier_35 (by decide) (fun c2 => ?_) (fun c2 => ?_)
  · replace h := o_ff c2 h
    refine lv_iconst (v := (-1:Int32)) hx hb d_Pt_readQuantifier_42 (by decide) ?_
    exact w_Pt_readQuantifier_j43 hE C hDD n x1 (-1:Int32) (Pt_mk (Pt_tokens Pt) (Pt_characterCount Pt) (Pt_tokenCount Pt) (Pt_position Pt) (Pt_total Pt) y1 (Pt_most Pt) (Pt_depth Pt) (Pt_blockStarts Pt) (Pt_branchStarts Pt) (Pt_jumps Pt) (Pt_sizesBefore Pt)) Sj T0 T1 Rd Pg Mk Lk Ck Jd Ld Pr rt h _ _ _ hP hS (lv_sub hl [0, 1] rfl)
  · replace h := o_tt c2 h
    refine lv_iconst (v := (1:Int32)) hx hb d_Pt_readQuantifier_38 (by decide) ?_
    refine lv_goto (tgt := 43) hx hb d_Pt_readQuantifier_39 (by decide) ?_
    exact w_Pt_readQuantifier_j43 hE C hDD n x1 (1:Int32) (Pt_mk (Pt_tokens Pt) (Pt_characterCount Pt) (Pt_tokenCount Pt) (Pt_position Pt) (Pt_total Pt) y1 (Pt_most Pt) (Pt_depth Pt) (Pt_blockStarts Pt) (Pt_branchStarts Pt) (Pt_jumps Pt) (Pt_sizesBefore Pt)) Sj T0 T1 Rd Pg Mk Lk Ck Jd Ld Pr rt h _ _ _ hP hS (lv_sub hl [0, 1] rfl)
set_option maxHeartbeats 4000000 in
set_option maxRecDepth 100000 in
theorem c_Pt_readQuantifier {E : (Nat → Prop) → State → Heap → Prop} {D : va_G} {ad kd sd : Nat → Nat} {ca : Nat → ClassId} (hE : o_EK E kd sd) (l : Launch) (n : Nat)  (Pt : SPt) (Sj : SSJ) (T0 : STx) (T1 : STx) (Rd : SRd) (Pg : SPg) (Mk : SMk) (Lk : SLk) (Ck : SCk) (Jd : SJd) (Ld : SLd) (Pr : SPr) (rt : Nat) {r : Int32 × SPt} (h : m_Pt_readQuantifier n Pt = some r) : o_Cn E l D o_cls (o_tys ca) y_Pt_readQuantifier cc_Pt_readQuantifier rm_Pt_readQuantifier [.ref (ad 33)] (o_cw ad ca rt Sj T0 T1 Rd Pg Pt Mk Lk Ck Jd Ld Pr) (o_cw ad ca rt Sj T0 T1 Rd Pg r.2 Mk Lk Ck Jd Ld Pr) (some (.int r.1)) := by
  refine o_Cn_of (by decide) (Nat.le_of_ble_eq_true rfl) ?_
  intro p e s m below meth c A ls C hD hP hS hl
  have hDD : ∀ (rt : Nat) (Sj : SSJ) (T0 : STx) (T1 : STx) (Rd : SRd) (Pg : SPg) (Pt : SPt) (Mk : SMk) (Lk : SLk) (Ck : SCk) (Jd : SJd) (Ld : SLd) (Pr : SPr), va_D A (o_cw ad ca rt Sj T0 T1 Rd Pg Pt Mk Lk Ck Jd Ld Pr) := fun _ _ _ _ _ _ _ _ _ _ _ _ _ => o_D_map hD rfl
  have hl : lv_has ls 3 [(0, .ref (ad 33))] := hl
  unfold m_Pt_readQuantifier at h
  have C0 := C
  obtain ⟨hx, hb, -, -, -, hown, hts, hK, -, -⟩ := C0
  refine lv_aload_n hx hb d_Pt_readQuantifier_0 rfl (lv_at hl 0 rfl) ?_
  refine lv_iconst (v := (0:Int32)) hx hb d_Pt_readQuantifier_1 (by decide) ?_
  obtain ⟨q1, hq1, h⟩ := o_bd_some h
  refine o_V (st1 := [.int q1]) (w1 := (o_cw ad ca rt Sj T0 T1 Rd Pg Pt Mk Lk Ck Jd Ld Pr)) hE.1 C (c_Pt_peek hE l (0:Int32) Pt Sj T0 T1 Rd Pg Mk Lk Ck Jd Ld Pr rt hq1) hP (hDD _ _ _ _ _ _ _ _ _ _ _ _ _) hS hl.1 rfl cw_33 k_4_214 k_4_216 k_s_28 k_1_5 k_4_217 hv_Pt_peek rfl rfl ⟨Nat.le_of_ble_eq_true rfl, Nat.le_of_ble_eq_true rfl⟩ rfl (Nat.le_of_ble_eq_true rfl) ⟨Nat.le_of_ble_eq_true rfl, Nat.le_of_ble_eq_true rfl⟩ rfl d_Pt_readQuantifier_2 (fun H locs hP hS => ?_)
  refine lv_istore_n (lv' := [(1, .int q1), (0, .ref (ad 33))]) hx hb d_Pt_readQuantifier_5 rfl hl (by decide) rfl (fun ls hl => ?_)
  refine lv_aload_n hx hb d_Pt_readQuantifier_6 rfl (lv_at hl 1 rfl) ?_
  refine lv_dup hx hb d_Pt_readQuantifier_7 rfl ?_
  refine o_get (v := .int (Pt_position Pt)) C in_Pt hP 33 cw_33 rfl 4 (by decide) k_1_164 rfl rfl d_Pt_readQuantifier_8 ?_
  refine lv_iconst (v := (1:Int32)) hx hb d_Pt_readQuantifier_11 (by decide) ?_
  refine lv_iadd hx hb d_Pt_readQuantifier_12 ?_
  refine o_put (v := .int ((Pt_position Pt) + (1:Int32))) (ty := .int) (w1 := (o_cw ad ca rt Sj T0 T1 Rd Pg (Pt_mk (Pt_tokens Pt) (Pt_characterCount Pt) (Pt_tokenCount Pt) ((Pt_position Pt) + (1:Int32)) (Pt_total Pt) (Pt_least Pt) (Pt_most Pt) (Pt_depth Pt) (Pt_blockStarts Pt) (Pt_branchStarts Pt) (Pt_jumps Pt) (Pt_sizesBefore Pt)) Mk Lk Ck Jd Ld Pr)) C in_Pt t_Pt t_Pt_ok n_Pt hP (hDD _ _ _ _ _ _ _ _ _ _ _ _ _) hS 33 cw_33 rfl 4 (by decide) k_1_164 rfl rfl (by decide +kernel) rfl rfl (Nat.le_of_ble_eq_true rfl) rfl d_Pt_readQuantifier_13 (fun H locs hP hS => ?_)
  refine lv_aload_n hx hb d_Pt_readQuantifier_16 rfl (lv_at hl 1 rfl) ?_
  refine lv_iload_n hx hb d_Pt_readQuantifier_17 rfl (lv_at hl 0 rfl) ?_
  refine lv_bipush (v := (-43:Int32)) hx hb d_Pt_readQuantifier_18 (by decide) ?_
  refine lv_icmp_ne (tgt := 27) hx hb d_Pt_readQuantifier_20 (by decide) (fun c1 => ?_) (fun c1 => ?_)
  · replace h := o_ff c1 h
    refine lv_iconst (v := (0:Int32)) hx hb d_Pt_readQuantifier_27 (by decide) ?_
    exact w_Pt_readQuantifier_j28 hE C hDD n q1 (0:Int32) (Pt_mk (Pt_tokens Pt) (Pt_characterCount Pt) (Pt_tokenCount Pt) ((Pt_position Pt) + (1:Int32)) (Pt_total Pt) (Pt_least Pt) (Pt_most Pt) (Pt_depth Pt) (Pt_blockStarts Pt) (Pt_branchStarts Pt) (Pt_jumps Pt) (Pt_sizesBefore Pt)) Sj T0 T1 Rd Pg Mk Lk Ck Jd Ld Pr rt h _ _ _ hP hS (lv_sub hl [1, 0] rfl)
  · replace h := o_tt c1 h
    refine lv_iconst (v := (1:Int32)) hx hb d_Pt_readQuantifier_23 (by decide) ?_
    refine lv_goto (tgt := 28) hx hb d_Pt_readQuantifier_24 (by decide) ?_
    exact w_Pt_readQuantifier_j28 hE C hDD n q1 (1:Int32) (Pt_mk (Pt_tokens Pt) (Pt_characterCount Pt) (Pt_tokenCount Pt) ((Pt_position Pt) + (1:Int32)) (Pt_total Pt) (Pt_least Pt) (Pt_most Pt) (Pt_depth Pt) (Pt_blockStarts Pt) (Pt_branchStarts Pt) (Pt_jumps Pt) (Pt_sizesBefore Pt)) Sj T0 T1 Rd Pg Mk Lk Ck Jd Ld Pr rt h _ _ _ hP hS (lv_sub hl [1, 0] rfl)
set_option maxHeartbeats 4000000 in
set_option maxRecDepth 100000 in
theorem c_Tx_cell_0 {E : (Nat → Prop) → State → Heap → Prop} {D : va_G} {ad kd sd : Nat → Nat} {ca : Nat → ClassId} (hE : o_EK E kd sd) (l : Launch) (x1 : Int32) (x2 : Int32) (a0 : STx) (Sj : SSJ) (T1 : STx) (Rd : SRd) (Pg : SPg) (Pt : SPt) (Mk : SMk) (Lk : SLk) (Ck : SCk) (Jd : SJd) (Ld : SLd) (Pr : SPr) (rt : Nat) {r : Int32} (h : m_Tx_cell x1 x2 a0 = some r) : o_Cn E l D o_cls (o_tys ca) y_Tx_cell cc_Tx_cell rm_Tx_cell [.ref (ad 1), .int x1, .int x2] (o_cw ad ca rt Sj a0 T1 Rd Pg Pt Mk Lk Ck Jd Ld Pr) (o_cw ad ca rt Sj a0 T1 Rd Pg Pt Mk Lk Ck Jd Ld Pr) (some (.int r)) := by
  refine o_Cn_of (by decide) (Nat.le_of_ble_eq_true rfl) ?_
  intro p e s m below meth c A ls C hD hP hS hl
  have hDD : ∀ (rt : Nat) (Sj : SSJ) (T0 : STx) (T1 : STx) (Rd : SRd) (Pg : SPg) (Pt : SPt) (Mk : SMk) (Lk : SLk) (Ck : SCk) (Jd : SJd) (Ld : SLd) (Pr : SPr), va_D A (o_cw ad ca rt Sj T0 T1 Rd Pg Pt Mk Lk Ck Jd Ld Pr) := fun _ _ _ _ _ _ _ _ _ _ _ _ _ => o_D_map hD rfl
  have hl : lv_has ls 4 [(0, .ref (ad 1)), (1, .int x1), (2, .int x2)] := hl
  unfold m_Tx_cell at h
  have C0 := C
  obtain ⟨hx, hb, -, -, -, hown, hts, hK, -, -⟩ := C0
  refine lv_iload_n hx hb d_Tx_cell_0 rfl (lv_at hl 1 rfl) ?_
  refine lv_if_lt (tgt := 26) hx hb d_Tx_cell_1 (by decide) (fun c1 => ?_) (fun c1 => ?_)
  · replace h := o_tt c1 h
    refine lv_iconst (v := (0:Int32)) hx hb d_Tx_cell_26 (by decide) ?_
    cases h
    exact o_ri (v := (0:Int32)) C hP hS d_Tx_cell_27
  · replace h := o_ff c1 h
    refine lv_iload_n hx hb d_Tx_cell_4 rfl (lv_at hl 1 rfl) ?_
    refine lv_aload_n hx hb d_Tx_cell_5 rfl (lv_at hl 0 rfl) ?_
    refine o_get (v := .int (Tx_total a0)) C in_Tx hP 1 cw_1 rfl 10 (by decide) k_1_56 rfl rfl d_Tx_cell_6 ?_
    refine lv_icmp_ge (tgt := 26) hx hb d_Tx_cell_9 (by decide) (fun c2 => ?_) (fun c2 => ?_)
    · replace h := o_tt c2 h
      refine lv_iconst (v := (0:Int32)) hx hb d_Tx_cell_26 (by decide) ?_
      cases h
      exact o_ri (v := (0:Int32)) C hP hS d_Tx_cell_27
    · replace h := o_ff c2 h
      refine lv_iload_n hx hb d_Tx_cell_12 rfl (lv_at hl 2 rfl) ?_
      refine lv_if_lt (tgt := 26) hx hb d_Tx_cell_13 (by decide) (fun c3 => ?_) (fun c3 => ?_)
      · replace h := o_tt c3 h
        refine lv_iconst (v := (0:Int32)) hx hb d_Tx_cell_26 (by decide) ?_
        cases h
        exact o_ri (v := (0:Int32)) C hP hS d_Tx_cell_27
      · replace h := o_ff c3 h
        refine lv_iload_n hx hb d_Tx_cell_16 rfl (lv_at hl 2 rfl) ?_
        refine lv_aload_n hx hb d_Tx_cell_17 rfl (lv_at hl 0 rfl) ?_
        refine o_get (v := .ref (ad 4)) C in_Tx hP 1 cw_1 rfl 2 (by decide) k_1_48 rfl rfl d_Tx_cell_18 ?_
        refine lv_iload_n hx hb d_Tx_cell_21 rfl (lv_at hl 1 rfl) ?_
        obtain ⟨g4, h⟩ := o_gd_some h
        refine o_iald (f := (Tx_sizes a0)) C hP 4 2 cw_4 rfl g4 d_Tx_cell_22 ?_
        refine lv_icmp_lt (tgt := 28) hx hb d_Tx_cell_23 (by decide) (fun c5 => ?_) (fun c5 => ?_)
        · replace h := o_tt c5 h
          refine lv_aload_n hx hb d_Tx_cell_28 rfl (lv_at hl 0 rfl) ?_
          refine o_get (v := .ref (ad 7)) C in_Tx hP 1 cw_1 rfl 5 (by decide) k_1_51 rfl rfl d_Tx_cell_29 ?_
          refine lv_iload_n hx hb d_Tx_cell_32 rfl (lv_at hl 1 rfl) ?_
          obtain ⟨g6, h⟩ := o_gd_some h
          refine o_iald (f := (Tx_starts a0)) C hP 7 5 cw_7 rfl g6 d_Tx_cell_33 ?_
          refine lv_iload_n hx hb d_Tx_cell_34 rfl (lv_at hl 2 rfl) ?_
          refine lv_iadd hx hb d_Tx_cell_35 ?_
          refine lv_topi (fun x3_36 ex3_36 => ?_)
          replace h := o_nm_at ex3_36 h
          refine lv_istore_n (lv' := [(3, .int x3_36), (0, .ref (ad 1)), (1, .int x1), (2, .int x2)]) hx hb d_Tx_cell_36 rfl hl (by decide) rfl (fun ls hl => ?_)
          refine lv_iload_n hx hb d_Tx_cell_37 rfl (lv_at hl 0 rfl) ?_
          refine lv_if_lt (tgt := 59) hx hb d_Tx_cell_38 (by decide) (fun c7 => ?_) (fun c7 => ?_)
          · replace h := o_tt c7 h
            refine lv_iconst (v := (0:Int32)) hx hb d_Tx_cell_59 (by decide) ?_
            cases h
            exact o_ri (v := (0:Int32)) C hP hS d_Tx_cell_60
          · replace h := o_ff c7 h
            refine lv_iload_n hx hb d_Tx_cell_41 rfl (lv_at hl 0 rfl) ?_
            refine lv_aload_n hx hb d_Tx_cell_42 rfl (lv_at hl 1 rfl) ?_
            refine o_get (v := .ref (ad 11)) C in_Tx hP 1 cw_1 rfl 9 (by decide) k_1_55 rfl rfl d_Tx_cell_43 ?_
            refine va_alen (v := (8192:Int32)) hx hb hK hP 11 9 cw_11 rfl rfl d_Tx_cell_46 ?_
            refine lv_icmp_ge (tgt := 59) hx hb d_Tx_cell_47 (by decide) (fun c8 => ?_) (fun c8 => ?_)
            · replace h := o_tt c8 h
              refine lv_iconst (v := (0:Int32)) hx hb d_Tx_cell_59 (by decide) ?_
              cases h
              exact o_ri (v := (0:Int32)) C hP hS d_Tx_cell_60
            · replace h := o_ff c8 h
              refine lv_aload_n hx hb d_Tx_cell_50 rfl (lv_at hl 1 rfl) ?_
              refine o_get (v := .ref (ad 11)) C in_Tx hP 1 cw_1 rfl 9 (by decide) k_1_55 rfl rfl d_Tx_cell_51 ?_
              refine lv_iload_n hx hb d_Tx_cell_54 rfl (lv_at hl 0 rfl) ?_
              obtain ⟨g9, h⟩ := o_gd_some h
              refine o_iald (f := (Tx_cells a0)) C hP 11 9 cw_11 rfl g9 d_Tx_cell_55 ?_
              refine lv_goto (tgt := 60) hx hb d_Tx_cell_56 (by decide) ?_
              cases h
              exact o_ri (v := ((Tx_cells a0) x3_36.toNatClampNeg)) C hP hS d_Tx_cell_60
        · replace h := o_ff c5 h
          refine lv_iconst (v := (0:Int32)) hx hb d_Tx_cell_26 (by decide) ?_
          cases h
          exact o_ri (v := (0:Int32)) C hP hS d_Tx_cell_27
set_option maxHeartbeats 4000000 in
set_option maxRecDepth 100000 in
theorem w_SJ_isLetter_j24 {E : (Nat → Prop) → State → Heap → Prop} {p : Program} {l : Launch} {e : Env} {s : State} {m : MethodId} {args : Array Value} {below : List Frame} {meth : Method} {c : Code} {D : va_G} {ad kd sd : Nat → Nat} {ca : Nat → ClassId} {A : Nat → Prop} (hE : o_EK E kd sd) (C : o_Cx E p s m args meth c D o_cls (o_tys ca) "SchemaJudge" b_SJ_isLetter (some .boolean) 1 cc_SJ_isLetter A) (hDD : ∀ (rt : Nat) (Sj : SSJ) (T0 : STx) (T1 : STx) (Rd : SRd) (Pg : SPg) (Pt : SPt) (Mk : SMk) (Lk : SLk) (Ck : SCk) (Jd : SJd) (Ld : SLd) (Pr : SPr), va_D A (o_cw ad ca rt Sj T0 T1 Rd Pg Pt Mk Lk Ck Jd Ld Pr)) (x0 : Int32) (Sj : SSJ) (T0 : STx) (T1 : STx) (Rd : SRd) (Pg : SPg) (Pt : SPt) (Mk : SMk) (Lk : SLk) (Ck : SCk) (Jd : SJd) (Ld : SLd) (Pr : SPr) (rt : Nat) {r : Int32} (h : m_SJ_isLetter_j24 x0 = some r) : o_At p l e rm_SJ_isLetter s m args below meth c (MQ below (o_Qx D o_cls (some (.int r)) (o_cw ad ca rt Sj T0 T1 Rd Pg Pt Mk Lk Ck Jd Ld Pr) A) args s 0 0 A) o_cls D A 1 24 [] (o_cw ad ca rt Sj T0 T1 Rd Pg Pt Mk Lk Ck Jd Ld Pr) [(0, .int x0)] := by
  unfold m_SJ_isLetter_j24 at h
  intro H locs ls hP hS hl
  have C0 := C
  obtain ⟨hx, hb, -, -, -, hown, hts, hK, -, -⟩ := C0
  refine lv_iload_n hx hb d_SJ_isLetter_24 rfl (lv_at hl 0 rfl) ?_
  refine lv_bipush (v := (95:Int32)) hx hb d_SJ_isLetter_25 (by decide) ?_
  refine lv_icmp_ne (tgt := 34) hx hb d_SJ_isLetter_27 (by decide) (fun c3 => ?_) (fun c3 => ?_)
  · replace h := o_ff c3 h
    refine lv_iconst (v := (0:Int32)) hx hb d_SJ_isLetter_34 (by decide) ?_
    cases h
    exact o_rz (v := (0:Int32)) C o_nar0 hP hS d_SJ_isLetter_35
  · replace h := o_tt c3 h
    refine lv_iconst (v := (1:Int32)) hx hb d_SJ_isLetter_30 (by decide) ?_
    refine lv_goto (tgt := 35) hx hb d_SJ_isLetter_31 (by decide) ?_
    cases h
    exact o_rz (v := (1:Int32)) C o_nar1 hP hS d_SJ_isLetter_35
set_option maxHeartbeats 4000000 in
set_option maxRecDepth 100000 in
theorem w_SJ_isLetter_j12 {E : (Nat → Prop) → State → Heap → Prop} {p : Program} {l : Launch} {e : Env} {s : State} {m : MethodId} {args : Array Value} {below : List Frame} {meth : Method} {c : Code} {D : va_G} {ad kd sd : Nat → Nat} {ca : Nat → ClassId} {A : Nat → Prop} (hE : o_EK E kd sd) (C : o_Cx E p s m args meth c D o_cls (o_tys ca) "SchemaJudge" b_SJ_isLetter (some .boolean) 1 cc_SJ_isLetter A) (hDD : ∀ (rt : Nat) (Sj : SSJ) (T0 : STx) (T1 : STx) (Rd : SRd) (Pg : SPg) (Pt : SPt) (Mk : SMk) (Lk : SLk) (Ck : SCk) (Jd : SJd) (Ld : SLd) (Pr : SPr), va_D A (o_cw ad ca rt Sj T0 T1 Rd Pg Pt Mk Lk Ck Jd Ld Pr)) (x0 : Int32) (Sj : SSJ) (T0 : STx) (T1 : STx) (Rd : SRd) (Pg : SPg) (Pt : SPt) (Mk : SMk) (Lk : SLk) (Ck : SCk) (Jd : SJd) (Ld : SLd) (Pr : SPr) (rt : Nat) {r : Int32} (h : m_SJ_isLetter_j12 x0 = some r) : o_At p l e rm_SJ_isLetter s m args below meth c (MQ below (o_Qx D o_cls (some (.int r)) (o_cw ad ca rt Sj T0 T1 Rd Pg Pt Mk Lk Ck Jd Ld Pr) A) args s 0 0 A) o_cls D A 1 12 [] (o_cw ad ca rt Sj T0 T1 Rd Pg Pt Mk Lk Ck Jd Ld Pr) [(0, .int x0)] := by
  unfold m_SJ_isLetter_j12 at h
  intro H locs ls hP hS hl
  have C0 := C
  obtain ⟨hx, hb, -, -, -, hown, hts, hK, -, -⟩ := C0
  refine lv_iload_n hx hb d_SJ_isLetter_12 rfl (lv_at hl 0 rfl) ?_
  refine lv_bipush (v := (65:Int32)) hx hb d_SJ_isLetter_13 (by decide) ?_
  refine lv_icmp_lt (tgt := 24) hx hb d_SJ_isLetter_15 (by decide) (fun c2 => ?_) (fun c2 => ?_)
  · replace h := o_tt c2 h
    exact w_SJ_isLetter_j24 hE C hDD x0 Sj T0 T1 Rd Pg Pt Mk Lk Ck Jd Ld Pr rt h _ _ _ hP hS (lv_sub hl [0] rfl)
  · replace h := o_ff c2 h
    refine lv_iload_n hx hb d_SJ_isLetter_18 rfl (lv_at hl 0 rfl) ?_
    refine lv_bipush (v := (90:Int32)) hx hb d_SJ_isLetter_19 (by decide) ?_
    refine lv_icmp_le (tgt := 30) hx hb d_SJ_isLetter_21 (by decide) (fun c4 => ?_) (fun c4 => ?_)
    · replace h := o_tt c4 h
      refine lv_iconst (v := (1:Int32)) hx hb d_SJ_isLetter_30 (by decide) ?_
      refine lv_goto (tgt := 35) hx hb d_SJ_isLetter_31 (by decide) ?_
      cases h
      exact o_rz (v := (1:Int32)) C o_nar1 hP hS d_SJ_isLetter_35
    · replace h := o_ff c4 h
      exact w_SJ_isLetter_j24 hE C hDD x0 Sj T0 T1 Rd Pg Pt Mk Lk Ck Jd Ld Pr rt h _ _ _ hP hS (lv_sub hl [0] rfl)
set_option maxHeartbeats 4000000 in
set_option maxRecDepth 100000 in
theorem c_SJ_isLetter {E : (Nat → Prop) → State → Heap → Prop} {D : va_G} {ad kd sd : Nat → Nat} {ca : Nat → ClassId} (hE : o_EK E kd sd) (l : Launch) (x0 : Int32) (Sj : SSJ) (T0 : STx) (T1 : STx) (Rd : SRd) (Pg : SPg) (Pt : SPt) (Mk : SMk) (Lk : SLk) (Ck : SCk) (Jd : SJd) (Ld : SLd) (Pr : SPr) (rt : Nat) {r : Int32} (h : m_SJ_isLetter x0 = some r) : o_Cn E l D o_cls (o_tys ca) y_SJ_isLetter cc_SJ_isLetter rm_SJ_isLetter [.int x0] (o_cw ad ca rt Sj T0 T1 Rd Pg Pt Mk Lk Ck Jd Ld Pr) (o_cw ad ca rt Sj T0 T1 Rd Pg Pt Mk Lk Ck Jd Ld Pr) (some (.int r)) := by
  refine o_Cn_of (by decide) (Nat.le_of_ble_eq_true rfl) ?_
  intro p e s m below meth c A ls C hD hP hS hl
  have hDD : ∀ (rt : Nat) (Sj : SSJ) (T0 : STx) (T1 : STx) (Rd : SRd) (Pg : SPg) (Pt : SPt) (Mk : SMk) (Lk : SLk) (Ck : SCk) (Jd : SJd) (Ld : SLd) (Pr : SPr), va_D A (o_cw ad ca rt Sj T0 T1 Rd Pg Pt Mk Lk Ck Jd Ld Pr) := fun _ _ _ _ _ _ _ _ _ _ _ _ _ => o_D_map hD rfl
  have hl : lv_has ls 1 [(0, .int x0)] := hl
  unfold m_SJ_isLetter at h
  have C0 := C
  obtain ⟨hx, hb, -, -, -, hown, hts, hK, -, -⟩ := C0
  refine lv_iload_n hx hb d_SJ_isLetter_0 rfl (lv_at hl 0 rfl) ?_
  refine lv_bipush (v := (97:Int32)) hx hb d_SJ_isLetter_1 (by decide) ?_
  refine lv_icmp_lt (tgt := 12) hx hb d_SJ_isLetter_3 (by decide) (fun c1 => ?_) (fun c1 => ?_)
  · replace h := o_tt c1 h
    exact w_SJ_isLetter_j12 hE C hDD x0 Sj T0 T1 Rd Pg Pt Mk Lk Ck Jd Ld Pr rt h _ _ _ hP hS (lv_sub hl [0] rfl)
  · replace h := o_ff c1 h
    refine lv_iload_n hx hb d_SJ_isLetter_6 rfl (lv_at hl 0 rfl) ?_
    refine lv_bipush (v := (122:Int32)) hx hb d_SJ_isLetter_7 (by decide) ?_
    refine lv_icmp_le (tgt := 30) hx hb d_SJ_isLetter_9 (by decide) (fun c5 => ?_) (fun c5 => ?_)
    · replace h := o_tt c5 h
      refine lv_iconst (v := (1:Int32)) hx hb d_SJ_isLetter_30 (by decide) ?_
      refine lv_goto (tgt := 35) hx hb d_SJ_isLetter_31 (by decide) ?_
      cases h
      exact o_rz (v := (1:Int32)) C o_nar1 hP hS d_SJ_isLetter_35
    · replace h := o_ff c5 h
      exact w_SJ_isLetter_j12 hE C hDD x0 Sj T0 T1 Rd Pg Pt Mk Lk Ck Jd Ld Pr rt h _ _ _ hP hS (lv_sub hl [0] rfl)
set_option maxHeartbeats 4000000 in
set_option maxRecDepth 100000 in
theorem w_Ck_isAnchor_j52 {E : (Nat → Prop) → State → Heap → Prop} {p : Program} {l : Launch} {e : Env} {s : State} {m : MethodId} {args : Array Value} {below : List Frame} {meth : Method} {c : Code} {D : va_G} {ad kd sd : Nat → Nat} {ca : Nat → ClassId} {A : Nat → Prop} {Q : State → Prop} (hE : o_EK E kd sd) (C : o_Cx E p s m args meth c D o_cls (o_tys ca) "SchemaJudge$Checker" b_Ck_isAnchor (some .boolean) 5 cc_Ck_isAnchor A) (hDD : ∀ (rt : Nat) (Sj : SSJ) (T0 : STx) (T1 : STx) (Rd : SRd) (Pg : SPg) (Pt : SPt) (Mk : SMk) (Lk : SLk) (Ck : SCk) (Jd : SJd) (Ld : SLd) (Pr : SPr), va_D A (o_cw ad ca rt Sj T0 T1 Rd Pg Pt Mk Lk Ck Jd Ld Pr)) (n : Nat) (u2_x1 : Int32) (u2_T0 : STx) (u2_Sj : SSJ) (u2_T1 : STx) (u2_Rd : SRd) (u2_Pg : SPg) (u2_Pt : SPt) (u2_Mk : SMk) (u2_Lk : SLk) (u2_Ck : SCk) (u2_Jd : SJd) (u2_Ld : SLd) (u2_Pr : SPr) (u2_rt : Nat) (x2 : Int32) (x3 : Int32) (y0 : Int32) {q : Nat × Int32} (h : m_Ck_isAnchor_j52 n u2_x1 x2 x3 y0 u2_T0 = some q) (h0 : q.1 = 0 → o_At p l e rm_Ck_isAnchor s m args below meth c Q o_cls D A 5 2 [] (o_cw ad ca u2_rt u2_Sj u2_T0 u2_T1 u2_Rd u2_Pg u2_Pt u2_Mk u2_Lk u2_Ck u2_Jd u2_Ld u2_Pr) [(0, .ref (ad 45)), (1, .int u2_x1), (2, .int q.2)]) (h1 : q.1 ≠ 0 → (if q.1 = 1 then o_At p l e rm_Ck_isAnchor s m args below meth c Q o_cls D A 5 66 [] (o_cw ad ca u2_rt u2_Sj u2_T0 u2_T1 u2_Rd u2_Pg u2_Pt u2_Mk u2_Lk u2_Ck u2_Jd u2_Ld u2_Pr) [] else o_At p l e rm_Ck_isAnchor s m args below meth c Q o_cls D A 5 74 [] (o_cw ad ca u2_rt u2_Sj u2_T0 u2_T1 u2_Rd u2_Pg u2_Pt u2_Mk u2_Lk u2_Ck u2_Jd u2_Ld u2_Pr) [(0, .ref (ad 45)), (1, .int u2_x1)])) : o_At p l e rm_Ck_isAnchor s m args below meth c Q o_cls D A 5 52 [.int y0] (o_cw ad ca u2_rt u2_Sj u2_T0 u2_T1 u2_Rd u2_Pg u2_Pt u2_Mk u2_Lk u2_Ck u2_Jd u2_Ld u2_Pr) [(0, .ref (ad 45)), (1, .int u2_x1), (2, .int x2), (3, .int x3)] := by
  unfold m_Ck_isAnchor_j52 at h
  intro H locs ls hP hS hl
  have C0 := C
  obtain ⟨hx, hb, -, -, -, hown, hts, hK, -, -⟩ := C0
  refine lv_istore (lv' := [(4, .int y0), (0, .ref (ad 45)), (1, .int u2_x1), (2, .int x2), (3, .int x3)]) hx hb d_Ck_isAnchor_52 hl (by decide) rfl (fun ls hl => ?_)
  refine lv_iload_n hx hb d_Ck_isAnchor_54 rfl (lv_at hl 4 rfl) ?_
  obtain ⟨q3, hq3, h⟩ := o_bd_some h
  refine o_SN (st1 := [.int q3]) (w1 := (o_cw ad ca u2_rt u2_Sj u2_T0 u2_T1 u2_Rd u2_Pg u2_Pt u2_Mk u2_Lk u2_Ck u2_Jd u2_Ld u2_Pr)) hE.1 C (c_SJ_isLetter hE l x3 u2_Sj u2_T0 u2_T1 u2_Rd u2_Pg u2_Pt u2_Mk u2_Lk u2_Ck u2_Jd u2_Ld u2_Pr u2_rt hq3) hP (hDD _ _ _ _ _ _ _ _ _ _ _ _ _) hS hl.1 (hE.2.1 _ _ _ C.2.2.2.2.2.2.2.2.2 _ nw_8) k_5_79 k_1_1 k_5_80 hs_SJ_isLetter rfl rfl ⟨Nat.le_of_ble_eq_true rfl, Nat.le_of_ble_eq_true rfl⟩ rfl (Nat.le_of_ble_eq_true rfl) ⟨Nat.le_of_ble_eq_true rfl, Nat.le_of_ble_eq_true rfl⟩ rfl d_Ck_isAnchor_55 (fun H locs hP hS => ?_)
  refine lv_if_ne (tgt := 68) hx hb d_Ck_isAnchor_58 (by decide) (fun c3 => ?_) (fun c3 => ?_)
  · replace h := o_ff c3 h
    obtain ⟨x2_68, ex2_68⟩ : ∃ y : Int32, y = x2 + (1:Int32) := ⟨_, rfl⟩
    replace h := o_nm_at ex2_68 h
    refine lv_iinc (v := x2_68) (lv' := [(2, .int x2_68), (4, .int y0), (0, .ref (ad 45)), (1, .int u2_x1), (3, .int x3)]) hx hb d_Ck_isAnchor_68 hl (k := 3) rfl (by rw [ex2_68]; rfl) (by decide) rfl (fun ls hl => ?_)
    refine lv_goto (tgt := 2) hx hb d_Ck_isAnchor_71 (by decide) ?_
    cases h
    exact h0 rfl _ _ _ hP hS (lv_sub hl [2, 3, 0] rfl)
  · replace h := o_tt c3 h
    refine lv_iload hx hb d_Ck_isAnchor_61 (lv_at hl 0 rfl) ?_
    refine lv_if_ne (tgt := 68) hx hb d_Ck_isAnchor_63 (by decide) (fun c4 => ?_) (fun c4 => ?_)
    · replace h := o_ff c4 h
      obtain ⟨x2_68, ex2_68⟩ : ∃ y : Int32, y = x2 + (1:Int32) := ⟨_, rfl⟩
      replace h := o_nm_at ex2_68 h
      refine lv_iinc (v := x2_68) (lv' := [(2, .int x2_68), (4, .int y0), (0, .ref (ad 45)), (1, .int u2_x1), (3, .int x3)]) hx hb d_Ck_isAnchor_68 hl (k := 3) rfl (by rw [ex2_68]; rfl) (by decide) rfl (fun ls hl => ?_)
      refine lv_goto (tgt := 2) hx hb d_Ck_isAnchor_71 (by decide) ?_
      cases h
      exact h0 rfl _ _ _ hP hS (lv_sub hl [2, 3, 0] rfl)
    · replace h := o_tt c4 h
      cases h
      exact h1 (Nat.succ_ne_zero 0) _ _ _ hP hS (lv_sub hl [] rfl)
set_option maxHeartbeats 4000000 in
set_option maxRecDepth 100000 in
theorem w_Ck_isAnchor_b2 {E : (Nat → Prop) → State → Heap → Prop} {p : Program} {l : Launch} {e : Env} {s : State} {m : MethodId} {args : Array Value} {below : List Frame} {meth : Method} {c : Code} {D : va_G} {ad kd sd : Nat → Nat} {ca : Nat → ClassId} {A : Nat → Prop} {Q : State → Prop} (hE : o_EK E kd sd) (C : o_Cx E p s m args meth c D o_cls (o_tys ca) "SchemaJudge$Checker" b_Ck_isAnchor (some .boolean) 5 cc_Ck_isAnchor A) (hDD : ∀ (rt : Nat) (Sj : SSJ) (T0 : STx) (T1 : STx) (Rd : SRd) (Pg : SPg) (Pt : SPt) (Mk : SMk) (Lk : SLk) (Ck : SCk) (Jd : SJd) (Ld : SLd) (Pr : SPr), va_D A (o_cw ad ca rt Sj T0 T1 Rd Pg Pt Mk Lk Ck Jd Ld Pr)) (n : Nat) (u2_x1 : Int32) (u2_T0 : STx) (u2_Sj : SSJ) (u2_T1 : STx) (u2_Rd : SRd) (u2_Pg : SPg) (u2_Pt : SPt) (u2_Mk : SMk) (u2_Lk : SLk) (u2_Ck : SCk) (u2_Jd : SJd) (u2_Ld : SLd) (u2_Pr : SPr) (u2_rt : Nat) (z : Int32) (q : Nat × Int32) (h : m_Ck_isAnchor_b2 n u2_x1 u2_T0 z = some q) (h0 : q.1 = 0 → o_At p l e rm_Ck_isAnchor s m args below meth c Q o_cls D A 5 2 [] (o_cw ad ca u2_rt u2_Sj u2_T0 u2_T1 u2_Rd u2_Pg u2_Pt u2_Mk u2_Lk u2_Ck u2_Jd u2_Ld u2_Pr) [(0, .ref (ad 45)), (1, .int u2_x1), (2, .int q.2)]) (h1 : q.1 ≠ 0 → (if q.1 = 1 then o_At p l e rm_Ck_isAnchor s m args below meth c Q o_cls D A 5 66 [] (o_cw ad ca u2_rt u2_Sj u2_T0 u2_T1 u2_Rd u2_Pg u2_Pt u2_Mk u2_Lk u2_Ck u2_Jd u2_Ld u2_Pr) [] else o_At p l e rm_Ck_isAnchor s m args below meth c Q o_cls D A 5 74 [] (o_cw ad ca u2_rt u2_Sj u2_T0 u2_T1 u2_Rd u2_Pg u2_Pt u2_Mk u2_Lk u2_Ck u2_Jd u2_Ld u2_Pr) [(0, .ref (ad 45)), (1, .int u2_x1)])) : o_At p l e rm_Ck_isAnchor s m args below meth c Q o_cls D A 5 2 [] (o_cw ad ca u2_rt u2_Sj u2_T0 u2_T1 u2_Rd u2_Pg u2_Pt u2_Mk u2_Lk u2_Ck u2_Jd u2_Ld u2_Pr) [(0, .ref (ad 45)), (1, .int u2_x1), (2, .int z)] := by
  unfold m_Ck_isAnchor_b2 at h
  intro H locs ls hP hS hl
  have C0 := C
  obtain ⟨hx, hb, -, -, -, hown, hts, hK, -, -⟩ := C0
  refine lv_iload_n hx hb d_Ck_isAnchor_2 rfl (lv_at hl 2 rfl) ?_
  refine lv_aload_n hx hb d_Ck_isAnchor_3 rfl (lv_at hl 0 rfl) ?_
  refine o_get (v := .ref (ad 1)) C in_Ck hP 45 cw_45 rfl 0 (by decide) k_2_7 rfl rfl d_Ck_isAnchor_4 ?_
  refine lv_iload_n hx hb d_Ck_isAnchor_7 rfl (lv_at hl 1 rfl) ?_
  obtain ⟨q1, hq1, h⟩ := o_bd_some h
  refine o_V (st1 := [.int q1, .int z]) (w1 := (o_cw ad ca u2_rt u2_Sj u2_T0 u2_T1 u2_Rd u2_Pg u2_Pt u2_Mk u2_Lk u2_Ck u2_Jd u2_Ld u2_Pr)) hE.1 C (c_Tx_size_0 hE l u2_x1 u2_T0 u2_Sj u2_T1 u2_Rd u2_Pg u2_Pt u2_Mk u2_Lk u2_Ck u2_Jd u2_Ld u2_Pr u2_rt hq1) hP (hDD _ _ _ _ _ _ _ _ _ _ _ _ _) hS hl.1 rfl cw_1 k_4_71 k_3_215 k_3_216 k_1_2 k_3_217 hv_Tx_size rfl rfl ⟨Nat.le_of_ble_eq_true rfl, Nat.le_of_ble_eq_true rfl⟩ rfl (Nat.le_of_ble_eq_true rfl) ⟨Nat.le_of_ble_eq_true rfl, Nat.le_of_ble_eq_true rfl⟩ rfl d_Ck_isAnchor_8 (fun H locs hP hS => ?_)
  refine lv_icmp_ge (tgt := 74) hx hb d_Ck_isAnchor_11 (by decide) (fun c1 => ?_) (fun c1 => ?_)
  · replace h := o_tt c1 h
    cases h
    exact h1 (Nat.succ_ne_zero 1) _ _ _ hP hS (lv_sub hl [0, 1] rfl)
  · replace h := o_ff c1 h
    refine lv_aload_n hx hb d_Ck_isAnchor_14 rfl (lv_at hl 0 rfl) ?_
    refine o_get (v := .ref (ad 1)) C in_Ck hP 45 cw_45 rfl 0 (by decide) k_2_7 rfl rfl d_Ck_isAnchor_15 ?_
    refine lv_iload_n hx hb d_Ck_isAnchor_18 rfl (lv_at hl 1 rfl) ?_
    refine lv_iload_n hx hb d_Ck_isAnchor_19 rfl (lv_at hl 2 rfl) ?_
    obtain ⟨q2, hq2, h⟩ := o_bd_some h
    refine o_V (st1 := [.int q2]) (w1 := (o_cw ad ca u2_rt u2_Sj u2_T0 u2_T1 u2_Rd u2_Pg u2_Pt u2_Mk u2_Lk u2_Ck u2_Jd u2_Ld u2_Pr)) hE.1 C (c_Tx_cell_0 hE l u2_x1 z u2_T0 u2_Sj u2_T1 u2_Rd u2_Pg u2_Pt u2_Mk u2_Lk u2_Ck u2_Jd u2_Ld u2_Pr u2_rt hq2) hP (hDD _ _ _ _ _ _ _ _ _ _ _ _ _) hS hl.1 rfl cw_1 k_5_76 k_4_117 k_4_118 k_1_2 k_4_119 hv_Tx_cell rfl rfl ⟨Nat.le_of_ble_eq_true rfl, Nat.le_of_ble_eq_true rfl⟩ rfl (Nat.le_of_ble_eq_true rfl) ⟨Nat.le_of_ble_eq_true rfl, Nat.le_of_ble_eq_true rfl⟩ rfl d_Ck_isAnchor_20 (fun H locs hP hS => ?_)
    refine lv_istore_n (lv' := [(3, .int q2), (0, .ref (ad 45)), (1, .int u2_x1), (2, .int z)]) hx hb d_Ck_isAnchor_23 rfl hl (by decide) rfl (fun ls hl => ?_)
    refine lv_iload_n hx hb d_Ck_isAnchor_24 rfl (lv_at hl 3 rfl) ?_
    refine lv_if_le (tgt := 51) hx hb d_Ck_isAnchor_25 (by decide) (fun c2 => ?_) (fun c2 => ?_)
    · replace h := o_tt c2 h
      refine lv_iconst (v := (0:Int32)) hx hb d_Ck_isAnchor_51 (by decide) ?_
      exact w_Ck_isAnchor_j52 hE C hDD n u2_x1 u2_T0 u2_Sj u2_T1 u2_Rd u2_Pg u2_Pt u2_Mk u2_Lk u2_Ck u2_Jd u2_Ld u2_Pr u2_rt z q2 (0:Int32) h h0 h1 _ _ _ hP hS (lv_sub hl [1, 2, 3, 0] rfl)
    · replace h := o_ff c2 h
      refine lv_iload_n hx hb d_Ck_isAnchor_28 rfl (lv_at hl 0 rfl) ?_
      obtain ⟨q4, hq4, h⟩ := o_bd_some h
      refine o_SN (st1 := [.int q4]) (w1 := (o_cw ad ca u2_rt u2_Sj u2_T0 u2_T1 u2_Rd u2_Pg u2_Pt u2_Mk u2_Lk u2_Ck u2_Jd u2_Ld u2_Pr)) hE.1 C (c_SJ_isDigit hE l q2 u2_Sj u2_T0 u2_T1 u2_Rd u2_Pg u2_Pt u2_Mk u2_Lk u2_Ck u2_Jd u2_Ld u2_Pr u2_rt hq4) hP (hDD _ _ _ _ _ _ _ _ _ _ _ _ _) hS hl.1 (hE.2.1 _ _ _ C.2.2.2.2.2.2.2.2.2 _ nw_9) k_3_46 k_1_1 k_3_47 hs_SJ_isDigit rfl rfl ⟨Nat.le_of_ble_eq_true rfl, Nat.le_of_ble_eq_true rfl⟩ rfl (Nat.le_of_ble_eq_true rfl) ⟨Nat.le_of_ble_eq_true rfl, Nat.le_of_ble_eq_true rfl⟩ rfl d_Ck_isAnchor_29 (fun H locs hP hS => ?_)
      refine lv_if_ne (tgt := 47) hx hb d_Ck_isAnchor_32 (by decide) (fun c5 => ?_) (fun c5 => ?_)
      · replace h := o_ff c5 h
        refine lv_iconst (v := (1:Int32)) hx hb d_Ck_isAnchor_47 (by decide) ?_
        refine lv_goto (tgt := 52) hx hb d_Ck_isAnchor_48 (by decide) ?_
        exact w_Ck_isAnchor_j52 hE C hDD n u2_x1 u2_T0 u2_Sj u2_T1 u2_Rd u2_Pg u2_Pt u2_Mk u2_Lk u2_Ck u2_Jd u2_Ld u2_Pr u2_rt z q2 (1:Int32) h h0 h1 _ _ _ hP hS (lv_sub hl [1, 2, 3, 0] rfl)
      · replace h := o_tt c5 h
        refine lv_iload_n hx hb d_Ck_isAnchor_35 rfl (lv_at hl 0 rfl) ?_
        refine lv_bipush (v := (45:Int32)) hx hb d_Ck_isAnchor_36 (by decide) ?_
        refine lv_icmp_eq (tgt := 47) hx hb d_Ck_isAnchor_38 (by decide) (fun c6 => ?_) (fun c6 => ?_)
        · replace h := o_tt c6 h
          refine lv_iconst (v := (1:Int32)) hx hb d_Ck_isAnchor_47 (by decide) ?_
          refine lv_goto (tgt := 52) hx hb d_Ck_isAnchor_48 (by decide) ?_
          exact w_Ck_isAnchor_j52 hE C hDD n u2_x1 u2_T0 u2_Sj u2_T1 u2_Rd u2_Pg u2_Pt u2_Mk u2_Lk u2_Ck u2_Jd u2_Ld u2_Pr u2_rt z q2 (1:Int32) h h0 h1 _ _ _ hP hS (lv_sub hl [1, 2, 3, 0] rfl)
        · replace h := o_ff c6 h
          refine lv_iload_n hx hb d_Ck_isAnchor_41 rfl (lv_at hl 0 rfl) ?_
          refine lv_bipush (v := (46:Int32)) hx hb d_Ck_isAnchor_42 (by decide) ?_
          refine lv_icmp_ne (tgt := 51) hx hb d_Ck_isAnchor_44 (by decide) (fun c7 => ?_) (fun c7 => ?_)
          · replace h := o_ff c7 h
            refine lv_iconst (v := (0:Int32)) hx hb d_Ck_isAnchor_51 (by decide) ?_
            exact w_Ck_isAnchor_j52 hE C hDD n u2_x1 u2_T0 u2_Sj u2_T1 u2_Rd u2_Pg u2_Pt u2_Mk u2_Lk u2_Ck u2_Jd u2_Ld u2_Pr u2_rt z q2 (0:Int32) h h0 h1 _ _ _ hP hS (lv_sub hl [1, 2, 3, 0] rfl)
          · replace h := o_tt c7 h
            refine lv_iconst (v := (1:Int32)) hx hb d_Ck_isAnchor_47 (by decide) ?_
            refine lv_goto (tgt := 52) hx hb d_Ck_isAnchor_48 (by decide) ?_
            exact w_Ck_isAnchor_j52 hE C hDD n u2_x1 u2_T0 u2_Sj u2_T1 u2_Rd u2_Pg u2_Pt u2_Mk u2_Lk u2_Ck u2_Jd u2_Ld u2_Pr u2_rt z q2 (1:Int32) h h0 h1 _ _ _ hP hS (lv_sub hl [1, 2, 3, 0] rfl)
set_option maxHeartbeats 4000000 in
set_option maxRecDepth 100000 in
theorem c_Ck_isAnchor {E : (Nat → Prop) → State → Heap → Prop} {D : va_G} {ad kd sd : Nat → Nat} {ca : Nat → ClassId} (hE : o_EK E kd sd) (l : Launch) (n : Nat) (x1 : Int32) (T0 : STx) (Sj : SSJ) (T1 : STx) (Rd : SRd) (Pg : SPg) (Pt : SPt) (Mk : SMk) (Lk : SLk) (Ck : SCk) (Jd : SJd) (Ld : SLd) (Pr : SPr) (rt : Nat) {r : Int32} (h : m_Ck_isAnchor n x1 T0 = some r) : o_Cn E l D o_cls (o_tys ca) y_Ck_isAnchor cc_Ck_isAnchor rm_Ck_isAnchor [.ref (ad 45), .int x1] (o_cw ad ca rt Sj T0 T1 Rd Pg Pt Mk Lk Ck Jd Ld Pr) (o_cw ad ca rt Sj T0 T1 Rd Pg Pt Mk Lk Ck Jd Ld Pr) (some (.int r)) := by
  refine o_Cn_of (by decide) (Nat.le_of_ble_eq_true rfl) ?_
  intro p e s m below meth c A ls C hD hP hS hl
  have hDD : ∀ (rt : Nat) (Sj : SSJ) (T0 : STx) (T1 : STx) (Rd : SRd) (Pg : SPg) (Pt : SPt) (Mk : SMk) (Lk : SLk) (Ck : SCk) (Jd : SJd) (Ld : SLd) (Pr : SPr), va_D A (o_cw ad ca rt Sj T0 T1 Rd Pg Pt Mk Lk Ck Jd Ld Pr) := fun _ _ _ _ _ _ _ _ _ _ _ _ _ => o_D_map hD rfl
  have hl : lv_has ls 5 [(0, .ref (ad 45)), (1, .int x1)] := hl
  unfold m_Ck_isAnchor at h
  have C0 := C
  obtain ⟨hx, hb, -, -, -, hown, hts, hK, -, -⟩ := C0
  refine lv_iconst (v := (0:Int32)) hx hb d_Ck_isAnchor_0 (by decide) ?_
  refine lv_istore_n (lv' := [(2, .int (0:Int32)), (0, .ref (ad 45)), (1, .int x1)]) hx hb d_Ck_isAnchor_1 rfl hl (by decide) rfl (fun ls hl => ?_)
  obtain ⟨q5, hq5, h⟩ := o_bd_some h
  refine o_sim2 (AH := fun zz => o_At p l e rm_Ck_isAnchor s m _ below meth c _ o_cls D A 5 2 [] (o_cw ad ca rt Sj T0 T1 Rd Pg Pt Mk Lk Ck Jd Ld Pr) [(0, .ref (ad 45)), (1, .int x1), (2, .int zz)]) (AX := fun qq => if qq.1 = 1 then o_At p l e rm_Ck_isAnchor s m _ below meth c _ o_cls D A 5 66 [] (o_cw ad ca rt Sj T0 T1 Rd Pg Pt Mk Lk Ck Jd Ld Pr) [] else o_At p l e rm_Ck_isAnchor s m _ below meth c _ o_cls D A 5 74 [] (o_cw ad ca rt Sj T0 T1 Rd Pg Pt Mk Lk Ck Jd Ld Pr) [(0, .ref (ad 45)), (1, .int x1)]) (fun zz qq h h0 h1 => w_Ck_isAnchor_b2 hE C hDD n x1 T0 Sj T1 Rd Pg Pt Mk Lk Ck Jd Ld Pr rt zz qq h h0 h1) n _ q5 hq5 ?_ _ _ _ hP hS (lv_sub hl [1, 2, 0] rfl)
  by_cases c9 : q5.1 = 1
  · replace h := o_tt c9 h
    refine o_ip c9 ?_
    intro H locs ls hP hS hl
    refine lv_iconst (v := (0:Int32)) hx hb d_Ck_isAnchor_66 (by decide) ?_
    cases h
    exact o_rz (v := (0:Int32)) C o_nar0 hP hS d_Ck_isAnchor_67
  replace h := o_ff c9 h
  refine o_in_ c9 ?_
  intro H locs ls hP hS hl
  refine lv_aload_n hx hb d_Ck_isAnchor_74 rfl (lv_at hl 0 rfl) ?_
  refine o_get (v := .ref (ad 1)) C in_Ck hP 45 cw_45 rfl 0 (by decide) k_2_7 rfl rfl d_Ck_isAnchor_75 ?_
  refine lv_iload_n hx hb d_Ck_isAnchor_78 rfl (lv_at hl 1 rfl) ?_
  obtain ⟨q6, hq6, h⟩ := o_bd_some h
  refine o_V (st1 := [.int q6]) (w1 := (o_cw ad ca rt Sj T0 T1 Rd Pg Pt Mk Lk Ck Jd Ld Pr)) hE.1 C (c_Tx_size_0 hE l x1 T0 Sj T1 Rd Pg Pt Mk Lk Ck Jd Ld Pr rt hq6) hP (hDD _ _ _ _ _ _ _ _ _ _ _ _ _) hS hl.1 rfl cw_1 k_4_71 k_3_215 k_3_216 k_1_2 k_3_217 hv_Tx_size rfl rfl ⟨Nat.le_of_ble_eq_true rfl, Nat.le_of_ble_eq_true rfl⟩ rfl (Nat.le_of_ble_eq_true rfl) ⟨Nat.le_of_ble_eq_true rfl, Nat.le_of_ble_eq_true rfl⟩ rfl d_Ck_isAnchor_79 (fun H locs hP hS => ?_)
  refine lv_if_le (tgt := 89) hx hb d_Ck_isAnchor_82 (by decide) (fun c8 => ?_) (fun c8 => ?_)
  · replace h := o_tt c8 h
    refine lv_iconst (v := (0:Int32)) hx hb d_Ck_isAnchor_89 (by decide) ?_
    cases h
    exact o_rz (v := (0:Int32)) C o_nar0 hP hS d_Ck_isAnchor_90
  · replace h := o_ff c8 h
    refine lv_iconst (v := (1:Int32)) hx hb d_Ck_isAnchor_85 (by decide) ?_
    refine lv_goto (tgt := 90) hx hb d_Ck_isAnchor_86 (by decide) ?_
    cases h
    exact o_rz (v := (1:Int32)) C o_nar1 hP hS d_Ck_isAnchor_90
set_option maxHeartbeats 4000000 in
set_option maxRecDepth 100000 in
theorem c_Tx_slot_0 {E : (Nat → Prop) → State → Heap → Prop} {D : va_G} {ad kd sd : Nat → Nat} {ca : Nat → ClassId} (hE : o_EK E kd sd) (l : Launch) (x1 : Int32) (a0 : STx) (Sj : SSJ) (T1 : STx) (Rd : SRd) (Pg : SPg) (Pt : SPt) (Mk : SMk) (Lk : SLk) (Ck : SCk) (Jd : SJd) (Ld : SLd) (Pr : SPr) (rt : Nat) {r : Int32} (h : m_Tx_slot x1 a0 = some r) : o_Cn E l D o_cls (o_tys ca) y_Tx_slot cc_Tx_slot rm_Tx_slot [.ref (ad 1), .int x1] (o_cw ad ca rt Sj a0 T1 Rd Pg Pt Mk Lk Ck Jd Ld Pr) (o_cw ad ca rt Sj a0 T1 Rd Pg Pt Mk Lk Ck Jd Ld Pr) (some (.int r)) := by
  refine o_Cn_of (by decide) (Nat.le_of_ble_eq_true rfl) ?_
  intro p e s m below meth c A ls C hD hP hS hl
  have hDD : ∀ (rt : Nat) (Sj : SSJ) (T0 : STx) (T1 : STx) (Rd : SRd) (Pg : SPg) (Pt : SPt) (Mk : SMk) (Lk : SLk) (Ck : SCk) (Jd : SJd) (Ld : SLd) (Pr : SPr), va_D A (o_cw ad ca rt Sj T0 T1 Rd Pg Pt Mk Lk Ck Jd Ld Pr) := fun _ _ _ _ _ _ _ _ _ _ _ _ _ => o_D_map hD rfl
  have hl : lv_has ls 2 [(0, .ref (ad 1)), (1, .int x1)] := hl
  unfold m_Tx_slot at h
  have C0 := C
  obtain ⟨hx, hb, -, -, -, hown, hts, hK, -, -⟩ := C0
  refine lv_iload_n hx hb d_Tx_slot_0 rfl (lv_at hl 1 rfl) ?_
  refine lv_if_lt (tgt := 21) hx hb d_Tx_slot_1 (by decide) (fun c1 => ?_) (fun c1 => ?_)
  · replace h := o_tt c1 h
    refine lv_iconst (v := (0:Int32)) hx hb d_Tx_slot_21 (by decide) ?_
    cases h
    exact o_ri (v := (0:Int32)) C hP hS d_Tx_slot_22
  · replace h := o_ff c1 h
    refine lv_iload_n hx hb d_Tx_slot_4 rfl (lv_at hl 1 rfl) ?_
    refine lv_aload_n hx hb d_Tx_slot_5 rfl (lv_at hl 0 rfl) ?_
    refine o_get (v := .int (Tx_total a0)) C in_Tx hP 1 cw_1 rfl 10 (by decide) k_1_56 rfl rfl d_Tx_slot_6 ?_
    refine lv_icmp_ge (tgt := 21) hx hb d_Tx_slot_9 (by decide) (fun c2 => ?_) (fun c2 => ?_)
    · replace h := o_tt c2 h
      refine lv_iconst (v := (0:Int32)) hx hb d_Tx_slot_21 (by decide) ?_
      cases h
      exact o_ri (v := (0:Int32)) C hP hS d_Tx_slot_22
    · replace h := o_ff c2 h
      refine lv_aload_n hx hb d_Tx_slot_12 rfl (lv_at hl 0 rfl) ?_
      refine o_get (v := .ref (ad 9)) C in_Tx hP 1 cw_1 rfl 7 (by decide) k_1_53 rfl rfl d_Tx_slot_13 ?_
      refine lv_iload_n hx hb d_Tx_slot_16 rfl (lv_at hl 1 rfl) ?_
      obtain ⟨g3, h⟩ := o_gd_some h
      refine o_iald (f := (Tx_slots a0)) C hP 9 7 cw_9 rfl g3 d_Tx_slot_17 ?_
      refine lv_goto (tgt := 22) hx hb d_Tx_slot_18 (by decide) ?_
      cases h
      exact o_ri (v := ((Tx_slots a0) x1.toNatClampNeg)) C hP hS d_Tx_slot_22
set_option maxHeartbeats 4000000 in
set_option maxRecDepth 100000 in
theorem w_Tx_sameString_b102_00 {E : (Nat → Prop) → State → Heap → Prop} {p : Program} {l : Launch} {e : Env} {s : State} {m : MethodId} {args : Array Value} {below : List Frame} {meth : Method} {c : Code} {D : va_G} {ad kd sd : Nat → Nat} {ca : Nat → ClassId} {A : Nat → Prop} {Q : State → Prop} (hE : o_EK E kd sd) (C : o_Cx E p s m args meth c D o_cls (o_tys ca) "SchemaJudge$Text" b_Tx_sameString (some .boolean) 8 cc_Tx_sameString A) (hDD : ∀ (rt : Nat) (Sj : SSJ) (T0 : STx) (T1 : STx) (Rd : SRd) (Pg : SPg) (Pt : SPt) (Mk : SMk) (Lk : SLk) (Ck : SCk) (Jd : SJd) (Ld : SLd) (Pr : SPr), va_D A (o_cw ad ca rt Sj T0 T1 Rd Pg Pt Mk Lk Ck Jd Ld Pr)) (n : Nat) (u102_x4 : Int32) (u102_x5 : Int32) (u102_x6 : Int32) (u102_a0 : STx) (u102_Sj : SSJ) (u102_T1 : STx) (u102_Rd : SRd) (u102_Pg : SPg) (u102_Pt : SPt) (u102_Mk : SMk) (u102_Lk : SLk) (u102_Ck : SCk) (u102_Jd : SJd) (u102_Ld : SLd) (u102_Pr : SPr) (u102_rt : Nat) (z : Int32) (q : Nat × Int32) (h : m_Tx_sameString_b102 n u102_x4 u102_x5 u102_x6 u102_a0 u102_a0 z = some q) (h0 : q.1 = 0 → o_At p l e rm_Tx_sameString s m args below meth c Q o_cls D A 8 102 [] (o_cw ad ca u102_rt u102_Sj u102_a0 u102_T1 u102_Rd u102_Pg u102_Pt u102_Mk u102_Lk u102_Ck u102_Jd u102_Ld u102_Pr) [(0, .ref (ad 1)), (2, .ref (ad 1)), (4, .int u102_x4), (5, .int u102_x5), (6, .int u102_x6), (7, .int q.2)]) (h1 : q.1 ≠ 0 → (if q.1 = 1 then o_At p l e rm_Tx_sameString s m args below meth c Q o_cls D A 8 132 [] (o_cw ad ca u102_rt u102_Sj u102_a0 u102_T1 u102_Rd u102_Pg u102_Pt u102_Mk u102_Lk u102_Ck u102_Jd u102_Ld u102_Pr) [] else o_At p l e rm_Tx_sameString s m args below meth c Q o_cls D A 8 140 [] (o_cw ad ca u102_rt u102_Sj u102_a0 u102_T1 u102_Rd u102_Pg u102_Pt u102_Mk u102_Lk u102_Ck u102_Jd u102_Ld u102_Pr) [])) : o_At p l e rm_Tx_sameString s m args below meth c Q o_cls D A 8 102 [] (o_cw ad ca u102_rt u102_Sj u102_a0 u102_T1 u102_Rd u102_Pg u102_Pt u102_Mk u102_Lk u102_Ck u102_Jd u102_Ld u102_Pr) [(0, .ref (ad 1)), (2, .ref (ad 1)), (4, .int u102_x4), (5, .int u102_x5), (6, .int u102_x6), (7, .int z)] := by
  unfold m_Tx_sameString_b102 at h
  intro H locs ls hP hS hl
  have C0 := C
  obtain ⟨hx, hb, -, -, -, hown, hts, hK, -, -⟩ := C0
  refine lv_iload hx hb d_Tx_sameString_102 (lv_at hl 5 rfl) ?_
  refine lv_iload hx hb d_Tx_sameString_104 (lv_at hl 4 rfl) ?_
  refine lv_icmp_ge (tgt := 140) hx hb d_Tx_sameString_106 (by decide) (fun c15 => ?_) (fun c15 => ?_)
  · replace h := o_tt c15 h
    cases h
    exact h1 (Nat.succ_ne_zero 1) _ _ _ hP hS (lv_sub hl [] rfl)
  · replace h := o_ff c15 h
    refine lv_aload_n hx hb d_Tx_sameString_109 rfl (lv_at hl 0 rfl) ?_
    refine o_get (v := .ref (ad 11)) C in_Tx hP 1 cw_1 rfl 9 (by decide) k_1_55 rfl rfl d_Tx_sameString_110 ?_
    refine lv_iload hx hb d_Tx_sameString_113 (lv_at hl 2 rfl) ?_
    refine lv_iload hx hb d_Tx_sameString_115 (lv_at hl 5 rfl) ?_
    refine lv_iadd hx hb d_Tx_sameString_117 ?_
    obtain ⟨g16, h⟩ := o_gd_some h
    refine o_iald (f := (Tx_cells u102_a0)) C hP 11 9 cw_11 rfl g16 d_Tx_sameString_118 ?_
    refine lv_aload_n hx hb d_Tx_sameString_119 rfl (lv_at hl 1 rfl) ?_
    refine o_get (v := .ref (ad 11)) C in_Tx hP 1 cw_1 rfl 9 (by decide) k_1_55 rfl rfl d_Tx_sameString_120 ?_
    refine lv_iload hx hb d_Tx_sameString_123 (lv_at hl 3 rfl) ?_
    refine lv_iload hx hb d_Tx_sameString_125 (lv_at hl 5 rfl) ?_
    refine lv_iadd hx hb d_Tx_sameString_127 ?_
    obtain ⟨g17, h⟩ := o_gd_some h
    refine o_iald (f := (Tx_cells u102_a0)) C hP 11 9 cw_11 rfl g17 d_Tx_sameString_128 ?_
    refine lv_icmp_eq (tgt := 134) hx hb d_Tx_sameString_129 (by decide) (fun c18 => ?_) (fun c18 => ?_)
    · replace h := o_tt c18 h
      obtain ⟨x7_134, ex7_134⟩ : ∃ y : Int32, y = z + (1:Int32) := ⟨_, rfl⟩
      replace h := o_nm_at ex7_134 h
      refine lv_iinc (v := x7_134) (lv' := [(7, .int x7_134), (0, .ref (ad 1)), (2, .ref (ad 1)), (4, .int u102_x4), (5, .int u102_x5), (6, .int u102_x6)]) hx hb d_Tx_sameString_134 hl (k := 5) rfl (by rw [ex7_134]; rfl) (by decide) rfl (fun ls hl => ?_)
      refine lv_goto (tgt := 102) hx hb d_Tx_sameString_137 (by decide) ?_
      cases h
      exact h0 rfl _ _ _ hP hS (lv_sub hl [1, 2, 3, 4, 5, 0] rfl)
    · replace h := o_ff c18 h
      cases h
      exact h1 (Nat.succ_ne_zero 0) _ _ _ hP hS (lv_sub hl [] rfl)
set_option maxHeartbeats 4000000 in
set_option maxRecDepth 100000 in
theorem c_Tx_sameString_00 {E : (Nat → Prop) → State → Heap → Prop} {D : va_G} {ad kd sd : Nat → Nat} {ca : Nat → ClassId} (hE : o_EK E kd sd) (l : Launch) (n : Nat) (x1 : Int32) (x3 : Int32) (a0 : STx) (Sj : SSJ) (T1 : STx) (Rd : SRd) (Pg : SPg) (Pt : SPt) (Mk : SMk) (Lk : SLk) (Ck : SCk) (Jd : SJd) (Ld : SLd) (Pr : SPr) (rt : Nat) {r : Int32} (h : m_Tx_sameString n x1 x3 a0 a0 = some r) : o_Cn E l D o_cls (o_tys ca) y_Tx_sameString cc_Tx_sameString rm_Tx_sameString [.ref (ad 1), .int x1, .ref (ad 1), .int x3] (o_cw ad ca rt Sj a0 T1 Rd Pg Pt Mk Lk Ck Jd Ld Pr) (o_cw ad ca rt Sj a0 T1 Rd Pg Pt Mk Lk Ck Jd Ld Pr) (some (.int r)) := by
  refine o_Cn_of (by decide) (Nat.le_of_ble_eq_true rfl) ?_
  intro p e s m below meth c A ls C hD hP hS hl
  have hDD : ∀ (rt : Nat) (Sj : SSJ) (T0 : STx) (T1 : STx) (Rd : SRd) (Pg : SPg) (Pt : SPt) (Mk : SMk) (Lk : SLk) (Ck : SCk) (Jd : SJd) (Ld : SLd) (Pr : SPr), va_D A (o_cw ad ca rt Sj T0 T1 Rd Pg Pt Mk Lk Ck Jd Ld Pr) := fun _ _ _ _ _ _ _ _ _ _ _ _ _ => o_D_map hD rfl
  have hl : lv_has ls 8 [(0, .ref (ad 1)), (1, .int x1), (2, .ref (ad 1)), (3, .int x3)] := hl
  unfold m_Tx_sameString at h
  have C0 := C
  obtain ⟨hx, hb, -, -, -, hown, hts, hK, -, -⟩ := C0
  refine lv_iload_n hx hb d_Tx_sameString_0 rfl (lv_at hl 1 rfl) ?_
  refine lv_if_lt (tgt := 39) hx hb d_Tx_sameString_1 (by decide) (fun c1 => ?_) (fun c1 => ?_)
  · replace h := o_tt c1 h
    refine lv_iconst (v := (0:Int32)) hx hb d_Tx_sameString_39 (by decide) ?_
    cases h
    exact o_rz (v := (0:Int32)) C o_nar0 hP hS d_Tx_sameString_40
  · replace h := o_ff c1 h
    refine lv_iload_n hx hb d_Tx_sameString_4 rfl (lv_at hl 1 rfl) ?_
    refine lv_aload_n hx hb d_Tx_sameString_5 rfl (lv_at hl 0 rfl) ?_
    refine o_get (v := .int (Tx_total a0)) C in_Tx hP 1 cw_1 rfl 10 (by decide) k_1_56 rfl rfl d_Tx_sameString_6 ?_
    refine lv_icmp_ge (tgt := 39) hx hb d_Tx_sameString_9 (by decide) (fun c2 => ?_) (fun c2 => ?_)
    · replace h := o_tt c2 h
      refine lv_iconst (v := (0:Int32)) hx hb d_Tx_sameString_39 (by decide) ?_
      cases h
      exact o_rz (v := (0:Int32)) C o_nar0 hP hS d_Tx_sameString_40
    · replace h := o_ff c2 h
      refine lv_iload_n hx hb d_Tx_sameString_12 rfl (lv_at hl 3 rfl) ?_
      refine lv_if_lt (tgt := 39) hx hb d_Tx_sameString_13 (by decide) (fun c3 => ?_) (fun c3 => ?_)
      · replace h := o_tt c3 h
        refine lv_iconst (v := (0:Int32)) hx hb d_Tx_sameString_39 (by decide) ?_
        cases h
        exact o_rz (v := (0:Int32)) C o_nar0 hP hS d_Tx_sameString_40
      · replace h := o_ff c3 h
        refine lv_iload_n hx hb d_Tx_sameString_16 rfl (lv_at hl 3 rfl) ?_
        refine lv_aload_n hx hb d_Tx_sameString_17 rfl (lv_at hl 2 rfl) ?_
        refine o_get (v := .int (Tx_total a0)) C in_Tx hP 1 cw_1 rfl 10 (by decide) k_1_56 rfl rfl d_Tx_sameString_18 ?_
        refine lv_icmp_ge (tgt := 39) hx hb d_Tx_sameString_21 (by decide) (fun c4 => ?_) (fun c4 => ?_)
        · replace h := o_tt c4 h
          refine lv_iconst (v := (0:Int32)) hx hb d_Tx_sameString_39 (by decide) ?_
          cases h
          exact o_rz (v := (0:Int32)) C o_nar0 hP hS d_Tx_sameString_40
        · replace h := o_ff c4 h
          refine lv_aload_n hx hb d_Tx_sameString_24 rfl (lv_at hl 0 rfl) ?_
          refine o_get (v := .ref (ad 4)) C in_Tx hP 1 cw_1 rfl 2 (by decide) k_1_48 rfl rfl d_Tx_sameString_25 ?_
          refine lv_iload_n hx hb d_Tx_sameString_28 rfl (lv_at hl 1 rfl) ?_
          obtain ⟨g5, h⟩ := o_gd_some h
          refine o_iald (f := (Tx_sizes a0)) C hP 4 2 cw_4 rfl g5 d_Tx_sameString_29 ?_
          refine lv_aload_n hx hb d_Tx_sameString_30 rfl (lv_at hl 2 rfl) ?_
          refine o_get (v := .ref (ad 4)) C in_Tx hP 1 cw_1 rfl 2 (by decide) k_1_48 rfl rfl d_Tx_sameString_31 ?_
          refine lv_iload_n hx hb d_Tx_sameString_34 rfl (lv_at hl 3 rfl) ?_
          obtain ⟨g6, h⟩ := o_gd_some h
          refine o_iald (f := (Tx_sizes a0)) C hP 4 2 cw_4 rfl g6 d_Tx_sameString_35 ?_
          refine lv_icmp_eq (tgt := 41) hx hb d_Tx_sameString_36 (by decide) (fun c7 => ?_) (fun c7 => ?_)
          · replace h := o_tt c7 h
            refine lv_aload_n hx hb d_Tx_sameString_41 rfl (lv_at hl 0 rfl) ?_
            refine o_get (v := .ref (ad 7)) C in_Tx hP 1 cw_1 rfl 5 (by decide) k_1_51 rfl rfl d_Tx_sameString_42 ?_
            refine lv_iload_n hx hb d_Tx_sameString_45 rfl (lv_at hl 1 rfl) ?_
            obtain ⟨g8, h⟩ := o_gd_some h
            refine o_iald (f := (Tx_starts a0)) C hP 7 5 cw_7 rfl g8 d_Tx_sameString_46 ?_
            refine lv_topi (fun x4_47 ex4_47 => ?_)
            replace h := o_nm_at ex4_47 h
            refine lv_istore (lv' := [(4, .int x4_47), (0, .ref (ad 1)), (1, .int x1), (2, .ref (ad 1)), (3, .int x3)]) hx hb d_Tx_sameString_47 hl (by decide) rfl (fun ls hl => ?_)
            refine lv_aload_n hx hb d_Tx_sameString_49 rfl (lv_at hl 3 rfl) ?_
            refine o_get (v := .ref (ad 7)) C in_Tx hP 1 cw_1 rfl 5 (by decide) k_1_51 rfl rfl d_Tx_sameString_50 ?_
            refine lv_iload_n hx hb d_Tx_sameString_53 rfl (lv_at hl 4 rfl) ?_
            obtain ⟨g9, h⟩ := o_gd_some h
            refine o_iald (f := (Tx_starts a0)) C hP 7 5 cw_7 rfl g9 d_Tx_sameString_54 ?_
            refine lv_topi (fun x5_55 ex5_55 => ?_)
            replace h := o_nm_at ex5_55 h
            refine lv_istore (lv' := [(5, .int x5_55), (4, .int x4_47), (0, .ref (ad 1)), (1, .int x1), (2, .ref (ad 1)), (3, .int x3)]) hx hb d_Tx_sameString_55 hl (by decide) rfl (fun ls hl => ?_)
            refine lv_aload_n hx hb d_Tx_sameString_57 rfl (lv_at hl 2 rfl) ?_
            refine o_get (v := .ref (ad 4)) C in_Tx hP 1 cw_1 rfl 2 (by decide) k_1_48 rfl rfl d_Tx_sameString_58 ?_
            refine lv_iload_n hx hb d_Tx_sameString_61 rfl (lv_at hl 3 rfl) ?_
            obtain ⟨g10, h⟩ := o_gd_some h
            refine o_iald (f := (Tx_sizes a0)) C hP 4 2 cw_4 rfl g10 d_Tx_sameString_62 ?_
            refine lv_topi (fun x6_63 ex6_63 => ?_)
            replace h := o_nm_at ex6_63 h
            refine lv_istore (lv' := [(6, .int x6_63), (5, .int x5_55), (4, .int x4_47), (0, .ref (ad 1)), (1, .int x1), (2, .ref (ad 1)), (3, .int x3)]) hx hb d_Tx_sameString_63 hl (by decide) rfl (fun ls hl => ?_)
            refine lv_iload hx hb d_Tx_sameString_65 (lv_at hl 2 rfl) ?_
            refine lv_if_lt (tgt := 97) hx hb d_Tx_sameString_67 (by decide) (fun c11 => ?_) (fun c11 => ?_)
            · replace h := o_tt c11 h
              refine lv_iconst (v := (0:Int32)) hx hb d_Tx_sameString_97 (by decide) ?_
              cases h
              exact o_rz (v := (0:Int32)) C o_nar0 hP hS d_Tx_sameString_98
            · replace h := o_ff c11 h
              refine lv_iload hx hb d_Tx_sameString_70 (lv_at hl 2 rfl) ?_
              refine lv_iload hx hb d_Tx_sameString_72 (lv_at hl 0 rfl) ?_
              refine lv_iadd hx hb d_Tx_sameString_74 ?_
              refine lv_sipush (v := (8192:Int32)) hx hb d_Tx_sameString_75 (by decide) ?_
              refine lv_icmp_gt (tgt := 97) hx hb d_Tx_sameString_78 (by decide) (fun c12 => ?_) (fun c12 => ?_)
              · replace h := o_tt c12 h
                refine lv_iconst (v := (0:Int32)) hx hb d_Tx_sameString_97 (by decide) ?_
                cases h
                exact o_rz (v := (0:Int32)) C o_nar0 hP hS d_Tx_sameString_98
              · replace h := o_ff c12 h
                refine lv_iload hx hb d_Tx_sameString_81 (lv_at hl 1 rfl) ?_
                refine lv_if_lt (tgt := 97) hx hb d_Tx_sameString_83 (by decide) (fun c13 => ?_) (fun c13 => ?_)
                · replace h := o_tt c13 h
                  refine lv_iconst (v := (0:Int32)) hx hb d_Tx_sameString_97 (by decide) ?_
                  cases h
                  exact o_rz (v := (0:Int32)) C o_nar0 hP hS d_Tx_sameString_98
                · replace h := o_ff c13 h
                  refine lv_iload hx hb d_Tx_sameString_86 (lv_at hl 1 rfl) ?_
                  refine lv_iload hx hb d_Tx_sameString_88 (lv_at hl 0 rfl) ?_
                  refine lv_iadd hx hb d_Tx_sameString_90 ?_
                  refine lv_sipush (v := (8192:Int32)) hx hb d_Tx_sameString_91 (by decide) ?_
                  refine lv_icmp_le (tgt := 99) hx hb d_Tx_sameString_94 (by decide) (fun c14 => ?_) (fun c14 => ?_)
                  · replace h := o_tt c14 h
                    refine lv_iconst (v := (0:Int32)) hx hb d_Tx_sameString_99 (by decide) ?_
                    refine lv_istore (lv' := [(7, .int (0:Int32)), (6, .int x6_63), (5, .int x5_55), (4, .int x4_47), (0, .ref (ad 1)), (1, .int x1), (2, .ref (ad 1)), (3, .int x3)]) hx hb d_Tx_sameString_100 hl (by decide) rfl (fun ls hl => ?_)
                    obtain ⟨q1, hq1, h⟩ := o_bd_some h
                    refine o_sim2 (AH := fun zz => o_At p l e rm_Tx_sameString s m _ below meth c _ o_cls D A 8 102 [] (o_cw ad ca rt Sj a0 T1 Rd Pg Pt Mk Lk Ck Jd Ld Pr) [(0, .ref (ad 1)), (2, .ref (ad 1)), (4, .int x4_47), (5, .int x5_55), (6, .int x6_63), (7, .int zz)]) (AX := fun qq => if qq.1 = 1 then o_At p l e rm_Tx_sameString s m _ below meth c _ o_cls D A 8 132 [] (o_cw ad ca rt Sj a0 T1 Rd Pg Pt Mk Lk Ck Jd Ld Pr) [] else o_At p l e rm_Tx_sameString s m _ below meth c _ o_cls D A 8 140 [] (o_cw ad ca rt Sj a0 T1 Rd Pg Pt Mk Lk Ck Jd Ld Pr) []) (fun zz qq h h0 h1 => w_Tx_sameString_b102_00 hE C hDD n x4_47 x5_55 x6_63 a0 Sj T1 Rd Pg Pt Mk Lk Ck Jd Ld Pr rt zz qq h h0 h1) n _ q1 hq1 ?_ _ _ _ hP hS (lv_sub hl [4, 6, 3, 2, 1, 0] rfl)
                    by_cases c19 : q1.1 = 1
                    · replace h := o_tt c19 h
                      refine o_ip c19 ?_
                      intro H locs ls hP hS hl
                      refine lv_iconst (v := (0:Int32)) hx hb d_Tx_sameString_132 (by decide) ?_
                      cases h
                      exact o_rz (v := (0:Int32)) C o_nar0 hP hS d_Tx_sameString_133
                    replace h := o_ff c19 h
                    refine o_in_ c19 ?_
                    intro H locs ls hP hS hl
                    refine lv_iconst (v := (1:Int32)) hx hb d_Tx_sameString_140 (by decide) ?_
                    cases h
                    exact o_rz (v := (1:Int32)) C o_nar1 hP hS d_Tx_sameString_141
                  · replace h := o_ff c14 h
                    refine lv_iconst (v := (0:Int32)) hx hb d_Tx_sameString_97 (by decide) ?_
                    cases h
                    exact o_rz (v := (0:Int32)) C o_nar0 hP hS d_Tx_sameString_98
          · replace h := o_ff c7 h
            refine lv_iconst (v := (0:Int32)) hx hb d_Tx_sameString_39 (by decide) ?_
            cases h
            exact o_rz (v := (0:Int32)) C o_nar0 hP hS d_Tx_sameString_40
set_option maxHeartbeats 4000000 in
set_option maxRecDepth 100000 in
theorem w_Ck_isNew_j55 {E : (Nat → Prop) → State → Heap → Prop} {p : Program} {l : Launch} {e : Env} {s : State} {m : MethodId} {args : Array Value} {below : List Frame} {meth : Method} {c : Code} {D : va_G} {ad kd sd : Nat → Nat} {ca : Nat → ClassId} {A : Nat → Prop} {Q : State → Prop} (hE : o_EK E kd sd) (C : o_Cx E p s m args meth c D o_cls (o_tys ca) "SchemaJudge$Checker" b_Ck_isNew (some .boolean) 5 cc_Ck_isNew A) (hDD : ∀ (rt : Nat) (Sj : SSJ) (T0 : STx) (T1 : STx) (Rd : SRd) (Pg : SPg) (Pt : SPt) (Mk : SMk) (Lk : SLk) (Ck : SCk) (Jd : SJd) (Ld : SLd) (Pr : SPr), va_D A (o_cw ad ca rt Sj T0 T1 Rd Pg Pt Mk Lk Ck Jd Ld Pr)) (n : Nat) (u12_x2 : Int32) (u12_T0 : STx) (u12_Sj : SSJ) (u12_T1 : STx) (u12_Rd : SRd) (u12_Pg : SPg) (u12_Pt : SPt) (u12_Mk : SMk) (u12_Lk : SLk) (u12_Ck : SCk) (u12_Jd : SJd) (u12_Ld : SLd) (u12_Pr : SPr) (u12_rt : Nat) (x3 : Int32) (x4 : Int32) {q : Nat × Int32 × Int32} (h : m_Ck_isNew_j55 n u12_x2 x3 x4 u12_T0 = some q) (h0 : q.1 = 0 → o_At p l e rm_Ck_isNew s m args below meth c Q o_cls D A 5 12 [] (o_cw ad ca u12_rt u12_Sj u12_T0 u12_T1 u12_Rd u12_Pg u12_Pt u12_Mk u12_Lk u12_Ck u12_Jd u12_Ld u12_Pr) [(0, .ref (ad 45)), (2, .int u12_x2), (3, .int q.2.1), (4, .int q.2.2)]) (h1 : q.1 ≠ 0 → (if q.1 = 1 then o_At p l e rm_Ck_isNew s m args below meth c Q o_cls D A 5 53 [] (o_cw ad ca u12_rt u12_Sj u12_T0 u12_T1 u12_Rd u12_Pg u12_Pt u12_Mk u12_Lk u12_Ck u12_Jd u12_Ld u12_Pr) [] else o_At p l e rm_Ck_isNew s m args below meth c Q o_cls D A 5 70 [] (o_cw ad ca u12_rt u12_Sj u12_T0 u12_T1 u12_Rd u12_Pg u12_Pt u12_Mk u12_Lk u12_Ck u12_Jd u12_Ld u12_Pr) [])) : o_At p l e rm_Ck_isNew s m args below meth c Q o_cls D A 5 55 [] (o_cw ad ca u12_rt u12_Sj u12_T0 u12_T1 u12_Rd u12_Pg u12_Pt u12_Mk u12_Lk u12_Ck u12_Jd u12_Ld u12_Pr) [(0, .ref (ad 45)), (2, .int u12_x2), (3, .int x3), (4, .int x4)] := by
  unfold m_Ck_isNew_j55 at h
  intro H locs ls hP hS hl
  have C0 := C
  obtain ⟨hx, hb, -, -, -, hown, hts, hK, -, -⟩ := C0
  refine lv_aload_n hx hb d_Ck_isNew_55 rfl (lv_at hl 0 rfl) ?_
  refine o_get (v := .ref (ad 1)) C in_Ck hP 45 cw_45 rfl 0 (by decide) k_2_7 rfl rfl d_Ck_isNew_56 ?_
  refine lv_iload_n hx hb d_Ck_isNew_59 rfl (lv_at hl 2 rfl) ?_
  obtain ⟨q4, hq4, h⟩ := o_bd_some h
  refine o_V (st1 := [.int q4]) (w1 := (o_cw ad ca u12_rt u12_Sj u12_T0 u12_T1 u12_Rd u12_Pg u12_Pt u12_Mk u12_Lk u12_Ck u12_Jd u12_Ld u12_Pr)) hE.1 C (c_Tx_nextChild_0 hE l x3 u12_T0 u12_Sj u12_T1 u12_Rd u12_Pg u12_Pt u12_Mk u12_Lk u12_Ck u12_Jd u12_Ld u12_Pr u12_rt hq4) hP (hDD _ _ _ _ _ _ _ _ _ _ _ _ _) hS hl.1 rfl cw_1 k_4_101 k_3_222 k_3_223 k_1_2 k_3_224 hv_Tx_nextChild rfl rfl ⟨Nat.le_of_ble_eq_true rfl, Nat.le_of_ble_eq_true rfl⟩ rfl (Nat.le_of_ble_eq_true rfl) ⟨Nat.le_of_ble_eq_true rfl, Nat.le_of_ble_eq_true rfl⟩ rfl d_Ck_isNew_60 (fun H locs hP hS => ?_)
  refine lv_istore_n (lv' := [(3, .int q4), (0, .ref (ad 45)), (2, .int u12_x2), (4, .int x4)]) hx hb d_Ck_isNew_63 rfl hl (by decide) rfl (fun ls hl => ?_)
  obtain ⟨x4_64, ex4_64⟩ : ∃ y : Int32, y = x4 + (1:Int32) := ⟨_, rfl⟩
  replace h := o_nm_at ex4_64 h
  refine lv_iinc (v := x4_64) (lv' := [(4, .int x4_64), (3, .int q4), (0, .ref (ad 45)), (2, .int u12_x2)]) hx hb d_Ck_isNew_64 hl (k := 3) rfl (by rw [ex4_64]; rfl) (by decide) rfl (fun ls hl => ?_)
  refine lv_goto (tgt := 12) hx hb d_Ck_isNew_67 (by decide) ?_
  cases h
  exact h0 rfl _ _ _ hP hS (lv_sub hl [2, 3, 1, 0] rfl)
set_option maxHeartbeats 4000000 in
set_option maxRecDepth 100000 in
theorem w_Ck_isNew_b12 {E : (Nat → Prop) → State → Heap → Prop} {p : Program} {l : Launch} {e : Env} {s : State} {m : MethodId} {args : Array Value} {below : List Frame} {meth : Method} {c : Code} {D : va_G} {ad kd sd : Nat → Nat} {ca : Nat → ClassId} {A : Nat → Prop} {Q : State → Prop} (hE : o_EK E kd sd) (C : o_Cx E p s m args meth c D o_cls (o_tys ca) "SchemaJudge$Checker" b_Ck_isNew (some .boolean) 5 cc_Ck_isNew A) (hDD : ∀ (rt : Nat) (Sj : SSJ) (T0 : STx) (T1 : STx) (Rd : SRd) (Pg : SPg) (Pt : SPt) (Mk : SMk) (Lk : SLk) (Ck : SCk) (Jd : SJd) (Ld : SLd) (Pr : SPr), va_D A (o_cw ad ca rt Sj T0 T1 Rd Pg Pt Mk Lk Ck Jd Ld Pr)) (n : Nat) (u12_x2 : Int32) (u12_T0 : STx) (u12_Sj : SSJ) (u12_T1 : STx) (u12_Rd : SRd) (u12_Pg : SPg) (u12_Pt : SPt) (u12_Mk : SMk) (u12_Lk : SLk) (u12_Ck : SCk) (u12_Jd : SJd) (u12_Ld : SLd) (u12_Pr : SPr) (u12_rt : Nat) (z : Int32 × Int32) (q : Nat × Int32 × Int32) (h : m_Ck_isNew_b12 n u12_x2 u12_T0 z = some q) (h0 : q.1 = 0 → o_At p l e rm_Ck_isNew s m args below meth c Q o_cls D A 5 12 [] (o_cw ad ca u12_rt u12_Sj u12_T0 u12_T1 u12_Rd u12_Pg u12_Pt u12_Mk u12_Lk u12_Ck u12_Jd u12_Ld u12_Pr) [(0, .ref (ad 45)), (2, .int u12_x2), (3, .int q.2.1), (4, .int q.2.2)]) (h1 : q.1 ≠ 0 → (if q.1 = 1 then o_At p l e rm_Ck_isNew s m args below meth c Q o_cls D A 5 53 [] (o_cw ad ca u12_rt u12_Sj u12_T0 u12_T1 u12_Rd u12_Pg u12_Pt u12_Mk u12_Lk u12_Ck u12_Jd u12_Ld u12_Pr) [] else o_At p l e rm_Ck_isNew s m args below meth c Q o_cls D A 5 70 [] (o_cw ad ca u12_rt u12_Sj u12_T0 u12_T1 u12_Rd u12_Pg u12_Pt u12_Mk u12_Lk u12_Ck u12_Jd u12_Ld u12_Pr) [])) : o_At p l e rm_Ck_isNew s m args below meth c Q o_cls D A 5 12 [] (o_cw ad ca u12_rt u12_Sj u12_T0 u12_T1 u12_Rd u12_Pg u12_Pt u12_Mk u12_Lk u12_Ck u12_Jd u12_Ld u12_Pr) [(0, .ref (ad 45)), (2, .int u12_x2), (3, .int z.1), (4, .int z.2)] := by
  unfold m_Ck_isNew_b12 at h
  intro H locs ls hP hS hl
  have C0 := C
  obtain ⟨hx, hb, -, -, -, hown, hts, hK, -, -⟩ := C0
  refine lv_iload hx hb d_Ck_isNew_12 (lv_at hl 3 rfl) ?_
  refine lv_aload_n hx hb d_Ck_isNew_14 rfl (lv_at hl 0 rfl) ?_
  refine o_get (v := .ref (ad 1)) C in_Ck hP 45 cw_45 rfl 0 (by decide) k_2_7 rfl rfl d_Ck_isNew_15 ?_
  refine lv_iload_n hx hb d_Ck_isNew_18 rfl (lv_at hl 1 rfl) ?_
  obtain ⟨q2, hq2, h⟩ := o_bd_some h
  refine o_V (st1 := [.int q2, .int z.2]) (w1 := (o_cw ad ca u12_rt u12_Sj u12_T0 u12_T1 u12_Rd u12_Pg u12_Pt u12_Mk u12_Lk u12_Ck u12_Jd u12_Ld u12_Pr)) hE.1 C (c_Tx_slot_0 hE l u12_x2 u12_T0 u12_Sj u12_T1 u12_Rd u12_Pg u12_Pt u12_Mk u12_Lk u12_Ck u12_Jd u12_Ld u12_Pr u12_rt hq2) hP (hDD _ _ _ _ _ _ _ _ _ _ _ _ _) hS hl.1 rfl cw_1 k_5_105 k_5_106 k_5_107 k_1_2 k_5_108 hv_Tx_slot rfl rfl ⟨Nat.le_of_ble_eq_true rfl, Nat.le_of_ble_eq_true rfl⟩ rfl (Nat.le_of_ble_eq_true rfl) ⟨Nat.le_of_ble_eq_true rfl, Nat.le_of_ble_eq_true rfl⟩ rfl d_Ck_isNew_19 (fun H locs hP hS => ?_)
  refine lv_icmp_ge (tgt := 70) hx hb d_Ck_isNew_22 (by decide) (fun c1 => ?_) (fun c1 => ?_)
  · replace h := o_tt c1 h
    cases h
    exact h1 (Nat.succ_ne_zero 1) _ _ _ hP hS (lv_sub hl [] rfl)
  · replace h := o_ff c1 h
    refine lv_aload_n hx hb d_Ck_isNew_25 rfl (lv_at hl 0 rfl) ?_
    refine o_get (v := .ref (ad 1)) C in_Ck hP 45 cw_45 rfl 0 (by decide) k_2_7 rfl rfl d_Ck_isNew_26 ?_
    refine lv_iload_n hx hb d_Ck_isNew_29 rfl (lv_at hl 2 rfl) ?_
    obtain ⟨q3, hq3, h⟩ := o_bd_some h
    refine o_V (st1 := [.int q3]) (w1 := (o_cw ad ca u12_rt u12_Sj u12_T0 u12_T1 u12_Rd u12_Pg u12_Pt u12_Mk u12_Lk u12_Ck u12_Jd u12_Ld u12_Pr)) hE.1 C (c_Tx_kind_0 hE l z.1 u12_T0 u12_Sj u12_T1 u12_Rd u12_Pg u12_Pt u12_Mk u12_Lk u12_Ck u12_Jd u12_Ld u12_Pr u12_rt hq3) hP (hDD _ _ _ _ _ _ _ _ _ _ _ _ _) hS hl.1 rfl cw_1 k_4_96 k_4_50 k_4_51 k_1_2 k_4_52 hv_Tx_kind rfl rfl ⟨Nat.le_of_ble_eq_true rfl, Nat.le_of_ble_eq_true rfl⟩ rfl (Nat.le_of_ble_eq_true rfl) ⟨Nat.le_of_ble_eq_true rfl, Nat.le_of_ble_eq_true rfl⟩ rfl d_Ck_isNew_30 (fun H locs hP hS => ?_)
    refine lv_iconst (v := (4:Int32)) hx hb d_Ck_isNew_33 (by decide) ?_
    refine lv_icmp_ne (tgt := 55) hx hb d_Ck_isNew_34 (by decide) (fun c2 => ?_) (fun c2 => ?_)
    · replace h := o_ff c2 h
      exact w_Ck_isNew_j55 hE C hDD n u12_x2 u12_T0 u12_Sj u12_T1 u12_Rd u12_Pg u12_Pt u12_Mk u12_Lk u12_Ck u12_Jd u12_Ld u12_Pr u12_rt z.1 z.2 h h0 h1 _ _ _ hP hS (lv_sub hl [0, 1, 2, 3] rfl)
    · replace h := o_tt c2 h
      refine lv_aload_n hx hb d_Ck_isNew_37 rfl (lv_at hl 0 rfl) ?_
      refine o_get (v := .ref (ad 1)) C in_Ck hP 45 cw_45 rfl 0 (by decide) k_2_7 rfl rfl d_Ck_isNew_38 ?_
      refine lv_iload_n hx hb d_Ck_isNew_41 rfl (lv_at hl 2 rfl) ?_
      refine lv_aload_n hx hb d_Ck_isNew_42 rfl (lv_at hl 0 rfl) ?_
      refine o_get (v := .ref (ad 1)) C in_Ck hP 45 cw_45 rfl 0 (by decide) k_2_7 rfl rfl d_Ck_isNew_43 ?_
      refine lv_iload_n hx hb d_Ck_isNew_46 rfl (lv_at hl 1 rfl) ?_
      obtain ⟨q5, hq5, h⟩ := o_bd_some h
      refine o_S (st1 := [.int q5]) (w1 := (o_cw ad ca u12_rt u12_Sj u12_T0 u12_T1 u12_Rd u12_Pg u12_Pt u12_Mk u12_Lk u12_Ck u12_Jd u12_Ld u12_Pr)) hE.1 C (c_Tx_sameString_00 hE l n z.1 u12_x2 u12_T0 u12_Sj u12_T1 u12_Rd u12_Pg u12_Pt u12_Mk u12_Lk u12_Ck u12_Jd u12_Ld u12_Pr u12_rt hq5) hP (hDD _ _ _ _ _ _ _ _ _ _ _ _ _) hS hl.1 k_5_109 k_3_219 k_1_2 k_3_220 hs_Tx_sameString rfl rfl ⟨Nat.le_of_ble_eq_true rfl, Nat.le_of_ble_eq_true rfl⟩ rfl (Nat.le_of_ble_eq_true rfl) ⟨Nat.le_of_ble_eq_true rfl, Nat.le_of_ble_eq_true rfl⟩ rfl d_Ck_isNew_47 (fun H locs hP hS => ?_)
      refine lv_if_eq (tgt := 55) hx hb d_Ck_isNew_50 (by decide) (fun c3 => ?_) (fun c3 => ?_)
      · replace h := o_tt c3 h
        exact w_Ck_isNew_j55 hE C hDD n u12_x2 u12_T0 u12_Sj u12_T1 u12_Rd u12_Pg u12_Pt u12_Mk u12_Lk u12_Ck u12_Jd u12_Ld u12_Pr u12_rt z.1 z.2 h h0 h1 _ _ _ hP hS (lv_sub hl [0, 1, 2, 3] rfl)
      · replace h := o_ff c3 h
        cases h
        exact h1 (Nat.succ_ne_zero 0) _ _ _ hP hS (lv_sub hl [] rfl)
set_option maxHeartbeats 4000000 in
set_option maxRecDepth 100000 in
theorem c_Ck_isNew {E : (Nat → Prop) → State → Heap → Prop} {D : va_G} {ad kd sd : Nat → Nat} {ca : Nat → ClassId} (hE : o_EK E kd sd) (l : Launch) (n : Nat) (x1 : Int32) (x2 : Int32) (T0 : STx) (Sj : SSJ) (T1 : STx) (Rd : SRd) (Pg : SPg) (Pt : SPt) (Mk : SMk) (Lk : SLk) (Ck : SCk) (Jd : SJd) (Ld : SLd) (Pr : SPr) (rt : Nat) {r : Int32} (h : m_Ck_isNew n x1 x2 T0 = some r) : o_Cn E l D o_cls (o_tys ca) y_Ck_isNew cc_Ck_isNew rm_Ck_isNew [.ref (ad 45), .int x1, .int x2] (o_cw ad ca rt Sj T0 T1 Rd Pg Pt Mk Lk Ck Jd Ld Pr) (o_cw ad ca rt Sj T0 T1 Rd Pg Pt Mk Lk Ck Jd Ld Pr) (some (.int r)) := by
  refine o_Cn_of (by decide) (Nat.le_of_ble_eq_true rfl) ?_
  intro p e s m below meth c A ls C hD hP hS hl
  have hDD : ∀ (rt : Nat) (Sj : SSJ) (T0 : STx) (T1 : STx) (Rd : SRd) (Pg : SPg) (Pt : SPt) (Mk : SMk) (Lk : SLk) (Ck : SCk) (Jd : SJd) (Ld : SLd) (Pr : SPr), va_D A (o_cw ad ca rt Sj T0 T1 Rd Pg Pt Mk Lk Ck Jd Ld Pr) := fun _ _ _ _ _ _ _ _ _ _ _ _ _ => o_D_map hD rfl
  have hl : lv_has ls 5 [(0, .ref (ad 45)), (1, .int x1), (2, .int x2)] := hl
  unfold m_Ck_isNew at h
  have C0 := C
  obtain ⟨hx, hb, -, -, -, hown, hts, hK, -, -⟩ := C0
  refine lv_aload_n hx hb d_Ck_isNew_0 rfl (lv_at hl 0 rfl) ?_
  refine o_get (v := .ref (ad 1)) C in_Ck hP 45 cw_45 rfl 0 (by decide) k_2_7 rfl rfl d_Ck_isNew_1 ?_
  refine lv_iload_n hx hb d_Ck_isNew_4 rfl (lv_at hl 1 rfl) ?_
  obtain ⟨q1, hq1, h⟩ := o_bd_some h
  refine o_V (st1 := [.int q1]) (w1 := (o_cw ad ca rt Sj T0 T1 Rd Pg Pt Mk Lk Ck Jd Ld Pr)) hE.1 C (c_Tx_firstChild_0 hE l x1 T0 Sj T1 Rd Pg Pt Mk Lk Ck Jd Ld Pr rt hq1) hP (hDD _ _ _ _ _ _ _ _ _ _ _ _ _) hS hl.1 rfl cw_1 k_4_70 k_3_211 k_3_212 k_1_2 k_3_213 hv_Tx_firstChild rfl rfl ⟨Nat.le_of_ble_eq_true rfl, Nat.le_of_ble_eq_true rfl⟩ rfl (Nat.le_of_ble_eq_true rfl) ⟨Nat.le_of_ble_eq_true rfl, Nat.le_of_ble_eq_true rfl⟩ rfl d_Ck_isNew_5 (fun H locs hP hS => ?_)
  refine lv_istore_n (lv' := [(3, .int q1), (0, .ref (ad 45)), (1, .int x1), (2, .int x2)]) hx hb d_Ck_isNew_8 rfl hl (by decide) rfl (fun ls hl => ?_)
  refine lv_iconst (v := (0:Int32)) hx hb d_Ck_isNew_9 (by decide) ?_
  refine lv_istore (lv' := [(4, .int (0:Int32)), (3, .int q1), (0, .ref (ad 45)), (1, .int x1), (2, .int x2)]) hx hb d_Ck_isNew_10 hl (by decide) rfl (fun ls hl => ?_)
  obtain ⟨q6, hq6, h⟩ := o_bd_some h
  refine o_sim2 (AH := fun zz => o_At p l e rm_Ck_isNew s m _ below meth c _ o_cls D A 5 12 [] (o_cw ad ca rt Sj T0 T1 Rd Pg Pt Mk Lk Ck Jd Ld Pr) [(0, .ref (ad 45)), (2, .int x2), (3, .int zz.1), (4, .int zz.2)]) (AX := fun qq => if qq.1 = 1 then o_At p l e rm_Ck_isNew s m _ below meth c _ o_cls D A 5 53 [] (o_cw ad ca rt Sj T0 T1 Rd Pg Pt Mk Lk Ck Jd Ld Pr) [] else o_At p l e rm_Ck_isNew s m _ below meth c _ o_cls D A 5 70 [] (o_cw ad ca rt Sj T0 T1 Rd Pg Pt Mk Lk Ck Jd Ld Pr) []) (fun zz qq h h0 h1 => w_Ck_isNew_b12 hE C hDD n x2 T0 Sj T1 Rd Pg Pt Mk Lk Ck Jd Ld Pr rt zz qq h h0 h1) n _ q6 hq6 ?_ _ _ _ hP hS (lv_sub hl [2, 4, 1, 0] rfl)
  by_cases c4 : q6.1 = 1
  · replace h := o_tt c4 h
    refine o_ip c4 ?_
    intro H locs ls hP hS hl
    refine lv_iconst (v := (0:Int32)) hx hb d_Ck_isNew_53 (by decide) ?_
    cases h
    exact o_rz (v := (0:Int32)) C o_nar0 hP hS d_Ck_isNew_54
  replace h := o_ff c4 h
  refine o_in_ c4 ?_
  intro H locs ls hP hS hl
  refine lv_iconst (v := (1:Int32)) hx hb d_Ck_isNew_70 (by decide) ?_
  cases h
  exact o_rz (v := (1:Int32)) C o_nar1 hP hS d_Ck_isNew_71
set_option maxHeartbeats 4000000 in
set_option maxRecDepth 100000 in
theorem w_Ck_inspectNames_j89 {E : (Nat → Prop) → State → Heap → Prop} {p : Program} {l : Launch} {e : Env} {s : State} {m : MethodId} {args : Array Value} {below : List Frame} {meth : Method} {c : Code} {D : va_G} {ad kd sd : Nat → Nat} {ca : Nat → ClassId} {A : Nat → Prop} {Q : State → Prop} (hE : o_EK E kd sd) (C : o_Cx E p s m args meth c D o_cls (o_tys ca) "SchemaJudge$Checker" b_Ck_inspectNames none 5 cc_Ck_inspectNames A) (hDD : ∀ (rt : Nat) (Sj : SSJ) (T0 : STx) (T1 : STx) (Rd : SRd) (Pg : SPg) (Pt : SPt) (Mk : SMk) (Lk : SLk) (Ck : SCk) (Jd : SJd) (Ld : SLd) (Pr : SPr), va_D A (o_cw ad ca rt Sj T0 T1 Rd Pg Pt Mk Lk Ck Jd Ld Pr)) (n : Nat) (u44_x1 : Int32) (u44_T0 : STx) (u44_Sj : SSJ) (u44_T1 : STx) (u44_Rd : SRd) (u44_Pg : SPg) (u44_Pt : SPt) (u44_Mk : SMk) (u44_Lk : SLk) (u44_Jd : SJd) (u44_Ld : SLd) (u44_Pr : SPr) (u44_rt : Nat) (x3 : Int32) (x4 : Int32) (y1 : Int32) (Ck : SCk) {q : Nat × Int32 × Int32 × SCk} (h : m_Ck_inspectNames_j89 n u44_x1 x3 x4 y1 u44_T0 Ck = some q) (h0 : q.1 = 0 → o_At p l e rm_Ck_inspectNames s m args below meth c Q o_cls D A 5 44 [] (o_cw ad ca u44_rt u44_Sj u44_T0 u44_T1 u44_Rd u44_Pg u44_Pt u44_Mk u44_Lk q.2.2.2 u44_Jd u44_Ld u44_Pr) [(0, .ref (ad 45)), (1, .int u44_x1), (3, .int q.2.1), (4, .int q.2.2.1)]) (h1 : q.1 ≠ 0 → (o_At p l e rm_Ck_inspectNames s m args below meth c Q o_cls D A 5 108 [] (o_cw ad ca u44_rt u44_Sj u44_T0 u44_T1 u44_Rd u44_Pg u44_Pt u44_Mk u44_Lk q.2.2.2 u44_Jd u44_Ld u44_Pr) [])) : o_At p l e rm_Ck_inspectNames s m args below meth c Q o_cls D A 5 89 [.int y1, .ref (ad 45)] (o_cw ad ca u44_rt u44_Sj u44_T0 u44_T1 u44_Rd u44_Pg u44_Pt u44_Mk u44_Lk Ck u44_Jd u44_Ld u44_Pr) [(0, .ref (ad 45)), (1, .int u44_x1), (3, .int x3), (4, .int x4)] := by
  unfold m_Ck_inspectNames_j89 at h
  intro H locs ls hP hS hl
  have C0 := C
  obtain ⟨hx, hb, -, -, -, hown, hts, hK, -, -⟩ := C0
  refine lv_iload_n hx hb d_Ck_inspectNames_89 rfl (lv_at hl 2 rfl) ?_
  obtain ⟨q5, hq5, h⟩ := o_bd_some h
  refine o_V (st1 := []) (w1 := (o_cw ad ca u44_rt u44_Sj u44_T0 u44_T1 u44_Rd u44_Pg u44_Pt u44_Mk u44_Lk q5 u44_Jd u44_Ld u44_Pr)) hE.1 C (c_Ck_require hE l y1 x3 Ck u44_Sj u44_T0 u44_T1 u44_Rd u44_Pg u44_Pt u44_Mk u44_Lk u44_Jd u44_Ld u44_Pr u44_rt hq5) hP (hDD _ _ _ _ _ _ _ _ _ _ _ _ _) hS hl.1 rfl cw_45 k_4_53 k_4_55 k_s_19 k_1_7 k_4_56 hv_Ck_require rfl rfl ⟨Nat.le_of_ble_eq_true rfl, Nat.le_of_ble_eq_true rfl⟩ rfl (Nat.le_of_ble_eq_true rfl) ⟨Nat.le_of_ble_eq_true rfl, Nat.le_of_ble_eq_true rfl⟩ rfl d_Ck_inspectNames_90 (fun H locs hP hS => ?_)
  refine lv_aload_n hx hb d_Ck_inspectNames_93 rfl (lv_at hl 0 rfl) ?_
  refine o_get (v := .ref (ad 1)) C in_Ck hP 45 cw_45 rfl 0 (by decide) k_2_7 rfl rfl d_Ck_inspectNames_94 ?_
  refine lv_iload_n hx hb d_Ck_inspectNames_97 rfl (lv_at hl 2 rfl) ?_
  obtain ⟨q6, hq6, h⟩ := o_bd_some h
  refine o_V (st1 := [.int q6]) (w1 := (o_cw ad ca u44_rt u44_Sj u44_T0 u44_T1 u44_Rd u44_Pg u44_Pt u44_Mk u44_Lk q5 u44_Jd u44_Ld u44_Pr)) hE.1 C (c_Tx_nextChild_0 hE l x3 u44_T0 u44_Sj u44_T1 u44_Rd u44_Pg u44_Pt u44_Mk u44_Lk q5 u44_Jd u44_Ld u44_Pr u44_rt hq6) hP (hDD _ _ _ _ _ _ _ _ _ _ _ _ _) hS hl.1 rfl cw_1 k_4_101 k_3_222 k_3_223 k_1_2 k_3_224 hv_Tx_nextChild rfl rfl ⟨Nat.le_of_ble_eq_true rfl, Nat.le_of_ble_eq_true rfl⟩ rfl (Nat.le_of_ble_eq_true rfl) ⟨Nat.le_of_ble_eq_true rfl, Nat.le_of_ble_eq_true rfl⟩ rfl d_Ck_inspectNames_98 (fun H locs hP hS => ?_)
  refine lv_istore_n (lv' := [(3, .int q6), (0, .ref (ad 45)), (1, .int u44_x1), (4, .int x4)]) hx hb d_Ck_inspectNames_101 rfl hl (by decide) rfl (fun ls hl => ?_)
  obtain ⟨x4_102, ex4_102⟩ : ∃ y : Int32, y = x4 + (1:Int32) := ⟨_, rfl⟩
  replace h := o_nm_at ex4_102 h
  refine lv_iinc (v := x4_102) (lv' := [(4, .int x4_102), (3, .int q6), (0, .ref (ad 45)), (1, .int u44_x1)]) hx hb d_Ck_inspectNames_102 hl (k := 3) rfl (by rw [ex4_102]; rfl) (by decide) rfl (fun ls hl => ?_)
  refine lv_goto (tgt := 44) hx hb d_Ck_inspectNames_105 (by decide) ?_
  cases h
  exact h0 rfl _ _ _ hP hS (lv_sub hl [2, 3, 1, 0] rfl)
set_option maxHeartbeats 4000000 in
set_option maxRecDepth 100000 in
theorem w_Ck_inspectNames_b44 {E : (Nat → Prop) → State → Heap → Prop} {p : Program} {l : Launch} {e : Env} {s : State} {m : MethodId} {args : Array Value} {below : List Frame} {meth : Method} {c : Code} {D : va_G} {ad kd sd : Nat → Nat} {ca : Nat → ClassId} {A : Nat → Prop} {Q : State → Prop} (hE : o_EK E kd sd) (C : o_Cx E p s m args meth c D o_cls (o_tys ca) "SchemaJudge$Checker" b_Ck_inspectNames none 5 cc_Ck_inspectNames A) (hDD : ∀ (rt : Nat) (Sj : SSJ) (T0 : STx) (T1 : STx) (Rd : SRd) (Pg : SPg) (Pt : SPt) (Mk : SMk) (Lk : SLk) (Ck : SCk) (Jd : SJd) (Ld : SLd) (Pr : SPr), va_D A (o_cw ad ca rt Sj T0 T1 Rd Pg Pt Mk Lk Ck Jd Ld Pr)) (n : Nat) (u44_x1 : Int32) (u44_T0 : STx) (u44_Sj : SSJ) (u44_T1 : STx) (u44_Rd : SRd) (u44_Pg : SPg) (u44_Pt : SPt) (u44_Mk : SMk) (u44_Lk : SLk) (u44_Jd : SJd) (u44_Ld : SLd) (u44_Pr : SPr) (u44_rt : Nat) (z : Int32 × Int32 × SCk) (q : Nat × Int32 × Int32 × SCk) (h : m_Ck_inspectNames_b44 n u44_x1 u44_T0 z = some q) (h0 : q.1 = 0 → o_At p l e rm_Ck_inspectNames s m args below meth c Q o_cls D A 5 44 [] (o_cw ad ca u44_rt u44_Sj u44_T0 u44_T1 u44_Rd u44_Pg u44_Pt u44_Mk u44_Lk q.2.2.2 u44_Jd u44_Ld u44_Pr) [(0, .ref (ad 45)), (1, .int u44_x1), (3, .int q.2.1), (4, .int q.2.2.1)]) (h1 : q.1 ≠ 0 → (o_At p l e rm_Ck_inspectNames s m args below meth c Q o_cls D A 5 108 [] (o_cw ad ca u44_rt u44_Sj u44_T0 u44_T1 u44_Rd u44_Pg u44_Pt u44_Mk u44_Lk q.2.2.2 u44_Jd u44_Ld u44_Pr) [])) : o_At p l e rm_Ck_inspectNames s m args below meth c Q o_cls D A 5 44 [] (o_cw ad ca u44_rt u44_Sj u44_T0 u44_T1 u44_Rd u44_Pg u44_Pt u44_Mk u44_Lk z.2.2 u44_Jd u44_Ld u44_Pr) [(0, .ref (ad 45)), (1, .int u44_x1), (3, .int z.1), (4, .int z.2.1)] := by
  unfold m_Ck_inspectNames_b44 at h
  intro H locs ls hP hS hl
  have C0 := C
  obtain ⟨hx, hb, -, -, -, hown, hts, hK, -, -⟩ := C0
  refine lv_iload hx hb d_Ck_inspectNames_44 (lv_at hl 3 rfl) ?_
  refine lv_aload_n hx hb d_Ck_inspectNames_46 rfl (lv_at hl 0 rfl) ?_
  refine o_get (v := .ref (ad 1)) C in_Ck hP 45 cw_45 rfl 0 (by decide) k_2_7 rfl rfl d_Ck_inspectNames_47 ?_
  refine lv_iload_n hx hb d_Ck_inspectNames_50 rfl (lv_at hl 1 rfl) ?_
  obtain ⟨q3, hq3, h⟩ := o_bd_some h
  refine o_V (st1 := [.int q3, .int z.2.1]) (w1 := (o_cw ad ca u44_rt u44_Sj u44_T0 u44_T1 u44_Rd u44_Pg u44_Pt u44_Mk u44_Lk z.2.2 u44_Jd u44_Ld u44_Pr)) hE.1 C (c_Tx_size_0 hE l u44_x1 u44_T0 u44_Sj u44_T1 u44_Rd u44_Pg u44_Pt u44_Mk u44_Lk z.2.2 u44_Jd u44_Ld u44_Pr u44_rt hq3) hP (hDD _ _ _ _ _ _ _ _ _ _ _ _ _) hS hl.1 rfl cw_1 k_4_71 k_3_215 k_3_216 k_1_2 k_3_217 hv_Tx_size rfl rfl ⟨Nat.le_of_ble_eq_true rfl, Nat.le_of_ble_eq_true rfl⟩ rfl (Nat.le_of_ble_eq_true rfl) ⟨Nat.le_of_ble_eq_true rfl, Nat.le_of_ble_eq_true rfl⟩ rfl d_Ck_inspectNames_51 (fun H locs hP hS => ?_)
  refine lv_icmp_ge (tgt := 108) hx hb d_Ck_inspectNames_54 (by decide) (fun c3 => ?_) (fun c3 => ?_)
  · replace h := o_tt c3 h
    cases h
    exact h1 (Nat.succ_ne_zero 0) _ _ _ hP hS (lv_sub hl [] rfl)
  · replace h := o_ff c3 h
    refine lv_iload_n hx hb d_Ck_inspectNames_57 rfl (lv_at hl 2 rfl) ?_
    refine lv_iconst (v := (-1:Int32)) hx hb d_Ck_inspectNames_58 (by decide) ?_
    refine lv_icmp_eq (tgt := 108) hx hb d_Ck_inspectNames_59 (by decide) (fun c4 => ?_) (fun c4 => ?_)
    · replace h := o_tt c4 h
      cases h
      exact h1 (Nat.succ_ne_zero 0) _ _ _ hP hS (lv_sub hl [] rfl)
    · replace h := o_ff c4 h
      refine lv_aload_n hx hb d_Ck_inspectNames_62 rfl (lv_at hl 0 rfl) ?_
      refine lv_aload_n hx hb d_Ck_inspectNames_63 rfl (lv_at hl 0 rfl) ?_
      refine o_get (v := .ref (ad 1)) C in_Ck hP 45 cw_45 rfl 0 (by decide) k_2_7 rfl rfl d_Ck_inspectNames_64 ?_
      refine lv_iload_n hx hb d_Ck_inspectNames_67 rfl (lv_at hl 2 rfl) ?_
      obtain ⟨q4, hq4, h⟩ := o_bd_some h
      refine o_V (st1 := [.int q4, .ref (ad 45)]) (w1 := (o_cw ad ca u44_rt u44_Sj u44_T0 u44_T1 u44_Rd u44_Pg u44_Pt u44_Mk u44_Lk z.2.2 u44_Jd u44_Ld u44_Pr)) hE.1 C (c_Tx_kind_0 hE l z.1 u44_T0 u44_Sj u44_T1 u44_Rd u44_Pg u44_Pt u44_Mk u44_Lk z.2.2 u44_Jd u44_Ld u44_Pr u44_rt hq4) hP (hDD _ _ _ _ _ _ _ _ _ _ _ _ _) hS hl.1 rfl cw_1 k_4_96 k_4_50 k_4_51 k_1_2 k_4_52 hv_Tx_kind rfl rfl ⟨Nat.le_of_ble_eq_true rfl, Nat.le_of_ble_eq_true rfl⟩ rfl (Nat.le_of_ble_eq_true rfl) ⟨Nat.le_of_ble_eq_true rfl, Nat.le_of_ble_eq_true rfl⟩ rfl d_Ck_inspectNames_68 (fun H locs hP hS => ?_)
      refine lv_iconst (v := (4:Int32)) hx hb d_Ck_inspectNames_71 (by decide) ?_
      refine lv_icmp_ne (tgt := 88) hx hb d_Ck_inspectNames_72 (by decide) (fun c5 => ?_) (fun c5 => ?_)
      · replace h := o_ff c5 h
        refine lv_iconst (v := (0:Int32)) hx hb d_Ck_inspectNames_88 (by decide) ?_
        exact w_Ck_inspectNames_j89 hE C hDD n u44_x1 u44_T0 u44_Sj u44_T1 u44_Rd u44_Pg u44_Pt u44_Mk u44_Lk u44_Jd u44_Ld u44_Pr u44_rt z.1 z.2.1 (0:Int32) z.2.2 h h0 h1 _ _ _ hP hS (lv_sub hl [0, 1, 2, 3] rfl)
      · replace h := o_tt c5 h
        refine lv_aload_n hx hb d_Ck_inspectNames_75 rfl (lv_at hl 0 rfl) ?_
        refine lv_iload_n hx hb d_Ck_inspectNames_76 rfl (lv_at hl 1 rfl) ?_
        refine lv_iload_n hx hb d_Ck_inspectNames_77 rfl (lv_at hl 2 rfl) ?_
        obtain ⟨q7, hq7, h⟩ := o_bd_some h
        refine o_V (st1 := [.int q7, .ref (ad 45)]) (w1 := (o_cw ad ca u44_rt u44_Sj u44_T0 u44_T1 u44_Rd u44_Pg u44_Pt u44_Mk u44_Lk z.2.2 u44_Jd u44_Ld u44_Pr)) hE.1 C (c_Ck_isNew hE l n u44_x1 z.1 u44_T0 u44_Sj u44_T1 u44_Rd u44_Pg u44_Pt u44_Mk u44_Lk z.2.2 u44_Jd u44_Ld u44_Pr u44_rt hq7) hP (hDD _ _ _ _ _ _ _ _ _ _ _ _ _) hS hl.1 rfl cw_45 k_5_101 k_5_103 k_s_41 k_1_7 k_5_104 hv_Ck_isNew rfl rfl ⟨Nat.le_of_ble_eq_true rfl, Nat.le_of_ble_eq_true rfl⟩ rfl (Nat.le_of_ble_eq_true rfl) ⟨Nat.le_of_ble_eq_true rfl, Nat.le_of_ble_eq_true rfl⟩ rfl d_Ck_inspectNames_78 (fun H locs hP hS => ?_)
        refine lv_if_eq (tgt := 88) hx hb d_Ck_inspectNames_81 (by decide) (fun c6 => ?_) (fun c6 => ?_)
        · replace h := o_tt c6 h
          refine lv_iconst (v := (0:Int32)) hx hb d_Ck_inspectNames_88 (by decide) ?_
          exact w_Ck_inspectNames_j89 hE C hDD n u44_x1 u44_T0 u44_Sj u44_T1 u44_Rd u44_Pg u44_Pt u44_Mk u44_Lk u44_Jd u44_Ld u44_Pr u44_rt z.1 z.2.1 (0:Int32) z.2.2 h h0 h1 _ _ _ hP hS (lv_sub hl [0, 1, 2, 3] rfl)
        · replace h := o_ff c6 h
          refine lv_iconst (v := (1:Int32)) hx hb d_Ck_inspectNames_84 (by decide) ?_
          refine lv_goto (tgt := 89) hx hb d_Ck_inspectNames_85 (by decide) ?_
          exact w_Ck_inspectNames_j89 hE C hDD n u44_x1 u44_T0 u44_Sj u44_T1 u44_Rd u44_Pg u44_Pt u44_Mk u44_Lk u44_Jd u44_Ld u44_Pr u44_rt z.1 z.2.1 (1:Int32) z.2.2 h h0 h1 _ _ _ hP hS (lv_sub hl [0, 1, 2, 3] rfl)
set_option maxHeartbeats 4000000 in
set_option maxRecDepth 100000 in
theorem w_Ck_inspectNames_j17 {E : (Nat → Prop) → State → Heap → Prop} {p : Program} {l : Launch} {e : Env} {s : State} {m : MethodId} {args : Array Value} {below : List Frame} {meth : Method} {c : Code} {D : va_G} {ad kd sd : Nat → Nat} {ca : Nat → ClassId} {A : Nat → Prop} (hE : o_EK E kd sd) (C : o_Cx E p s m args meth c D o_cls (o_tys ca) "SchemaJudge$Checker" b_Ck_inspectNames none 5 cc_Ck_inspectNames A) (hDD : ∀ (rt : Nat) (Sj : SSJ) (T0 : STx) (T1 : STx) (Rd : SRd) (Pg : SPg) (Pt : SPt) (Mk : SMk) (Lk : SLk) (Ck : SCk) (Jd : SJd) (Ld : SLd) (Pr : SPr), va_D A (o_cw ad ca rt Sj T0 T1 Rd Pg Pt Mk Lk Ck Jd Ld Pr)) (n : Nat) (x1 : Int32) (y0 : Int32) (T0 : STx) (Ck : SCk) (Sj : SSJ) (T1 : STx) (Rd : SRd) (Pg : SPg) (Pt : SPt) (Mk : SMk) (Lk : SLk) (Jd : SJd) (Ld : SLd) (Pr : SPr) (rt : Nat) {r : SCk} (h : m_Ck_inspectNames_j17 n x1 y0 T0 Ck = some r) : o_At p l e rm_Ck_inspectNames s m args below meth c (MQ below (o_Qx D o_cls none (o_cw ad ca rt Sj T0 T1 Rd Pg Pt Mk Lk r Jd Ld Pr) A) args s 0 0 A) o_cls D A 5 17 [.int y0] (o_cw ad ca rt Sj T0 T1 Rd Pg Pt Mk Lk Ck Jd Ld Pr) [(0, .ref (ad 45)), (1, .int x1)] := by
  unfold m_Ck_inspectNames_j17 at h
  intro H locs ls hP hS hl
  have C0 := C
  obtain ⟨hx, hb, -, -, -, hown, hts, hK, -, -⟩ := C0
  refine lv_istore_n (lv' := [(2, .int y0), (0, .ref (ad 45)), (1, .int x1)]) hx hb d_Ck_inspectNames_17 rfl hl (by decide) rfl (fun ls hl => ?_)
  refine lv_aload_n hx hb d_Ck_inspectNames_18 rfl (lv_at hl 1 rfl) ?_
  refine lv_iload_n hx hb d_Ck_inspectNames_19 rfl (lv_at hl 0 rfl) ?_
  refine lv_iload_n hx hb d_Ck_inspectNames_20 rfl (lv_at hl 2 rfl) ?_
  obtain ⟨q2, hq2, h⟩ := o_bd_some h
  refine o_V (st1 := []) (w1 := (o_cw ad ca rt Sj T0 T1 Rd Pg Pt Mk Lk q2 Jd Ld Pr)) hE.1 C (c_Ck_require hE l y0 x1 Ck Sj T0 T1 Rd Pg Pt Mk Lk Jd Ld Pr rt hq2) hP (hDD _ _ _ _ _ _ _ _ _ _ _ _ _) hS hl.1 rfl cw_45 k_4_53 k_4_55 k_s_19 k_1_7 k_4_56 hv_Ck_require rfl rfl ⟨Nat.le_of_ble_eq_true rfl, Nat.le_of_ble_eq_true rfl⟩ rfl (Nat.le_of_ble_eq_true rfl) ⟨Nat.le_of_ble_eq_true rfl, Nat.le_of_ble_eq_true rfl⟩ rfl d_Ck_inspectNames_21 (fun H locs hP hS => ?_)
  refine lv_iload_n hx hb d_Ck_inspectNames_24 rfl (lv_at hl 0 rfl) ?_
  refine lv_if_eq (tgt := 39) hx hb d_Ck_inspectNames_25 (by decide) (fun c2 => ?_) (fun c2 => ?_)
  · replace h := o_tt c2 h
    refine lv_iconst (v := (-1:Int32)) hx hb d_Ck_inspectNames_39 (by decide) ?_
    refine lv_istore_n (lv' := [(3, .int (-1:Int32)), (2, .int y0), (0, .ref (ad 45)), (1, .int x1)]) hx hb d_Ck_inspectNames_40 rfl hl (by decide) rfl (fun ls hl => ?_)
    refine lv_iconst (v := (0:Int32)) hx hb d_Ck_inspectNames_41 (by decide) ?_
    refine lv_istore (lv' := [(4, .int (0:Int32)), (3, .int (-1:Int32)), (2, .int y0), (0, .ref (ad 45)), (1, .int x1)]) hx hb d_Ck_inspectNames_42 hl (by decide) rfl (fun ls hl => ?_)
    obtain ⟨q8, hq8, h⟩ := o_bd_some h
    refine o_sim2 (AH := fun zz => o_At p l e rm_Ck_inspectNames s m args below meth c _ o_cls D A 5 44 [] (o_cw ad ca rt Sj T0 T1 Rd Pg Pt Mk Lk zz.2.2 Jd Ld Pr) [(0, .ref (ad 45)), (1, .int x1), (3, .int zz.1), (4, .int zz.2.1)]) (AX := fun qq => o_At p l e rm_Ck_inspectNames s m args below meth c _ o_cls D A 5 108 [] (o_cw ad ca rt Sj T0 T1 Rd Pg Pt Mk Lk qq.2.2.2 Jd Ld Pr) []) (fun zz qq h h0 h1 => w_Ck_inspectNames_b44 hE C hDD n x1 T0 Sj T1 Rd Pg Pt Mk Lk Jd Ld Pr rt zz qq h h0 h1) n _ q8 hq8 ?_ _ _ _ hP hS (lv_sub hl [3, 4, 1, 0] rfl)
    intro H locs ls hP hS hl
    cases h
    exact o_rv C hP hS d_Ck_inspectNames_108
  · replace h := o_ff c2 h
    refine lv_aload_n hx hb d_Ck_inspectNames_28 rfl (lv_at hl 1 rfl) ?_
    refine o_get (v := .ref (ad 1)) C in_Ck hP 45 cw_45 rfl 0 (by decide) k_2_7 rfl rfl d_Ck_inspectNames_29 ?_
    refine lv_iload_n hx hb d_Ck_inspectNames_32 rfl (lv_at hl 2 rfl) ?_
    obtain ⟨q9, hq9, h⟩ := o_bd_some h
    refine o_V (st1 := [.int q9]) (w1 := (o_cw ad ca rt Sj T0 T1 Rd Pg Pt Mk Lk q2 Jd Ld Pr)) hE.1 C (c_Tx_firstChild_0 hE l x1 T0 Sj T1 Rd Pg Pt Mk Lk q2 Jd Ld Pr rt hq9) hP (hDD _ _ _ _ _ _ _ _ _ _ _ _ _) hS hl.1 rfl cw_1 k_4_70 k_3_211 k_3_212 k_1_2 k_3_213 hv_Tx_firstChild rfl rfl ⟨Nat.le_of_ble_eq_true rfl, Nat.le_of_ble_eq_true rfl⟩ rfl (Nat.le_of_ble_eq_true rfl) ⟨Nat.le_of_ble_eq_true rfl, Nat.le_of_ble_eq_true rfl⟩ rfl d_Ck_inspectNames_33 (fun H locs hP hS => ?_)
    refine lv_goto (tgt := 40) hx hb d_Ck_inspectNames_36 (by decide) ?_
    refine lv_istore_n (lv' := [(3, .int q9), (2, .int y0), (0, .ref (ad 45)), (1, .int x1)]) hx hb d_Ck_inspectNames_40 rfl hl (by decide) rfl (fun ls hl => ?_)
    refine lv_iconst (v := (0:Int32)) hx hb d_Ck_inspectNames_41 (by decide) ?_
    refine lv_istore (lv' := [(4, .int (0:Int32)), (3, .int q9), (2, .int y0), (0, .ref (ad 45)), (1, .int x1)]) hx hb d_Ck_inspectNames_42 hl (by decide) rfl (fun ls hl => ?_)
    obtain ⟨q10, hq10, h⟩ := o_bd_some h
    refine o_sim2 (AH := fun zz => o_At p l e rm_Ck_inspectNames s m args below meth c _ o_cls D A 5 44 [] (o_cw ad ca rt Sj T0 T1 Rd Pg Pt Mk Lk zz.2.2 Jd Ld Pr) [(0, .ref (ad 45)), (1, .int x1), (3, .int zz.1), (4, .int zz.2.1)]) (AX := fun qq => o_At p l e rm_Ck_inspectNames s m args below meth c _ o_cls D A 5 108 [] (o_cw ad ca rt Sj T0 T1 Rd Pg Pt Mk Lk qq.2.2.2 Jd Ld Pr) []) (fun zz qq h h0 h1 => w_Ck_inspectNames_b44 hE C hDD n x1 T0 Sj T1 Rd Pg Pt Mk Lk Jd Ld Pr rt zz qq h h0 h1) n _ q10 hq10 ?_ _ _ _ hP hS (lv_sub hl [3, 4, 1, 0] rfl)
    intro H locs ls hP hS hl
    cases h
    exact o_rv C hP hS d_Ck_inspectNames_108
set_option maxHeartbeats 4000000 in
set_option maxRecDepth 100000 in
theorem c_Ck_inspectNames {E : (Nat → Prop) → State → Heap → Prop} {D : va_G} {ad kd sd : Nat → Nat} {ca : Nat → ClassId} (hE : o_EK E kd sd) (l : Launch) (n : Nat) (x1 : Int32) (T0 : STx) (Ck : SCk) (Sj : SSJ) (T1 : STx) (Rd : SRd) (Pg : SPg) (Pt : SPt) (Mk : SMk) (Lk : SLk) (Jd : SJd) (Ld : SLd) (Pr : SPr) (rt : Nat) {r : SCk} (h : m_Ck_inspectNames n x1 T0 Ck = some r) : o_Cn E l D o_cls (o_tys ca) y_Ck_inspectNames cc_Ck_inspectNames rm_Ck_inspectNames [.ref (ad 45), .int x1] (o_cw ad ca rt Sj T0 T1 Rd Pg Pt Mk Lk Ck Jd Ld Pr) (o_cw ad ca rt Sj T0 T1 Rd Pg Pt Mk Lk r Jd Ld Pr) none := by
  refine o_Cn_of (by decide) (Nat.le_of_ble_eq_true rfl) ?_
  intro p e s m below meth c A ls C hD hP hS hl
  have hDD : ∀ (rt : Nat) (Sj : SSJ) (T0 : STx) (T1 : STx) (Rd : SRd) (Pg : SPg) (Pt : SPt) (Mk : SMk) (Lk : SLk) (Ck : SCk) (Jd : SJd) (Ld : SLd) (Pr : SPr), va_D A (o_cw ad ca rt Sj T0 T1 Rd Pg Pt Mk Lk Ck Jd Ld Pr) := fun _ _ _ _ _ _ _ _ _ _ _ _ _ => o_D_map hD rfl
  have hl : lv_has ls 5 [(0, .ref (ad 45)), (1, .int x1)] := hl
  unfold m_Ck_inspectNames at h
  have C0 := C
  obtain ⟨hx, hb, -, -, -, hown, hts, hK, -, -⟩ := C0
  refine lv_aload_n hx hb d_Ck_inspectNames_0 rfl (lv_at hl 0 rfl) ?_
  refine o_get (v := .ref (ad 1)) C in_Ck hP 45 cw_45 rfl 0 (by decide) k_2_7 rfl rfl d_Ck_inspectNames_1 ?_
  refine lv_iload_n hx hb d_Ck_inspectNames_4 rfl (lv_at hl 1 rfl) ?_
  obtain ⟨q1, hq1, h⟩ := o_bd_some h
  refine o_V (st1 := [.int q1]) (w1 := (o_cw ad ca rt Sj T0 T1 Rd Pg Pt Mk Lk Ck Jd Ld Pr)) hE.1 C (c_Tx_kind_0 hE l x1 T0 Sj T1 Rd Pg Pt Mk Lk Ck Jd Ld Pr rt hq1) hP (hDD _ _ _ _ _ _ _ _ _ _ _ _ _) hS hl.1 rfl cw_1 k_4_96 k_4_50 k_4_51 k_1_2 k_4_52 hv_Tx_kind rfl rfl ⟨Nat.le_of_ble_eq_true rfl, Nat.le_of_ble_eq_true rfl⟩ rfl (Nat.le_of_ble_eq_true rfl) ⟨Nat.le_of_ble_eq_true rfl, Nat.le_of_ble_eq_true rfl⟩ rfl d_Ck_inspectNames_5 (fun H locs hP hS => ?_)
  refine lv_iconst (v := (5:Int32)) hx hb d_Ck_inspectNames_8 (by decide) ?_
  refine lv_icmp_ne (tgt := 16) hx hb d_Ck_inspectNames_9 (by decide) (fun c1 => ?_) (fun c1 => ?_)
  · replace h := o_ff c1 h
    refine lv_iconst (v := (0:Int32)) hx hb d_Ck_inspectNames_16 (by decide) ?_
    exact w_Ck_inspectNames_j17 hE C hDD n x1 (0:Int32) T0 Ck Sj T1 Rd Pg Pt Mk Lk Jd Ld Pr rt h _ _ _ hP hS (lv_sub hl [0, 1] rfl)
  · replace h := o_tt c1 h
    refine lv_iconst (v := (1:Int32)) hx hb d_Ck_inspectNames_12 (by decide) ?_
    refine lv_goto (tgt := 17) hx hb d_Ck_inspectNames_13 (by decide) ?_
    exact w_Ck_inspectNames_j17 hE C hDD n x1 (1:Int32) T0 Ck Sj T1 Rd Pg Pt Mk Lk Jd Ld Pr rt h _ _ _ hP hS (lv_sub hl [0, 1] rfl)
set_option maxHeartbeats 4000000 in
set_option maxRecDepth 100000 in
theorem c_Tx_total_0 {E : (Nat → Prop) → State → Heap → Prop} {D : va_G} {ad kd sd : Nat → Nat} {ca : Nat → ClassId} (hE : o_EK E kd sd) (l : Launch)  (a0 : STx) (Sj : SSJ) (T1 : STx) (Rd : SRd) (Pg : SPg) (Pt : SPt) (Mk : SMk) (Lk : SLk) (Ck : SCk) (Jd : SJd) (Ld : SLd) (Pr : SPr) (rt : Nat) {r : Int32} (h : m_Tx_total a0 = some r) : o_Cn E l D o_cls (o_tys ca) y_Tx_total cc_Tx_total rm_Tx_total [.ref (ad 1)] (o_cw ad ca rt Sj a0 T1 Rd Pg Pt Mk Lk Ck Jd Ld Pr) (o_cw ad ca rt Sj a0 T1 Rd Pg Pt Mk Lk Ck Jd Ld Pr) (some (.int r)) := by
  refine o_Cn_of (by decide) (Nat.le_of_ble_eq_true rfl) ?_
  intro p e s m below meth c A ls C hD hP hS hl
  have hDD : ∀ (rt : Nat) (Sj : SSJ) (T0 : STx) (T1 : STx) (Rd : SRd) (Pg : SPg) (Pt : SPt) (Mk : SMk) (Lk : SLk) (Ck : SCk) (Jd : SJd) (Ld : SLd) (Pr : SPr), va_D A (o_cw ad ca rt Sj T0 T1 Rd Pg Pt Mk Lk Ck Jd Ld Pr) := fun _ _ _ _ _ _ _ _ _ _ _ _ _ => o_D_map hD rfl
  have hl : lv_has ls 1 [(0, .ref (ad 1))] := hl
  unfold m_Tx_total at h
  have C0 := C
  obtain ⟨hx, hb, -, -, -, hown, hts, hK, -, -⟩ := C0
  refine lv_aload_n hx hb d_Tx_total_0 rfl (lv_at hl 0 rfl) ?_
  refine o_get (v := .int (Tx_total a0)) C in_Tx hP 1 cw_1 rfl 10 (by decide) k_1_56 rfl rfl d_Tx_total_1 ?_
  cases h
  exact o_ri (v := (Tx_total a0)) C hP hS d_Tx_total_4
set_option maxHeartbeats 4000000 in
set_option maxRecDepth 100000 in
theorem c_Lk_octetAt {E : (Nat → Prop) → State → Heap → Prop} {D : va_G} {ad kd sd : Nat → Nat} {ca : Nat → ClassId} (hE : o_EK E kd sd) (l : Launch) (x1 : Int32) (T0 : STx) (Lk : SLk) (Sj : SSJ) (T1 : STx) (Rd : SRd) (Pg : SPg) (Pt : SPt) (Mk : SMk) (Ck : SCk) (Jd : SJd) (Ld : SLd) (Pr : SPr) (rt : Nat) {r : Int32} (h : m_Lk_octetAt x1 T0 Lk = some r) : o_Cn E l D o_cls (o_tys ca) y_Lk_octetAt cc_Lk_octetAt rm_Lk_octetAt [.ref (ad 43), .int x1] (o_cw ad ca rt Sj T0 T1 Rd Pg Pt Mk Lk Ck Jd Ld Pr) (o_cw ad ca rt Sj T0 T1 Rd Pg Pt Mk Lk Ck Jd Ld Pr) (some (.int r)) := by
  refine o_Cn_of (by decide) (Nat.le_of_ble_eq_true rfl) ?_
  intro p e s m below meth c A ls C hD hP hS hl
  have hDD : ∀ (rt : Nat) (Sj : SSJ) (T0 : STx) (T1 : STx) (Rd : SRd) (Pg : SPg) (Pt : SPt) (Mk : SMk) (Lk : SLk) (Ck : SCk) (Jd : SJd) (Ld : SLd) (Pr : SPr), va_D A (o_cw ad ca rt Sj T0 T1 Rd Pg Pt Mk Lk Ck Jd Ld Pr) := fun _ _ _ _ _ _ _ _ _ _ _ _ _ => o_D_map hD rfl
  have hl : lv_has ls 4 [(0, .ref (ad 43)), (1, .int x1)] := hl
  unfold m_Lk_octetAt at h
  have C0 := C
  obtain ⟨hx, hb, -, -, -, hown, hts, hK, -, -⟩ := C0
  refine lv_aload_n hx hb d_Lk_octetAt_0 rfl (lv_at hl 0 rfl) ?_
  refine o_get (v := .ref (ad 1)) C in_Lk hP 43 cw_43 rfl 0 (by decide) k_1_231 rfl rfl d_Lk_octetAt_1 ?_
  refine lv_iload_n hx hb d_Lk_octetAt_4 rfl (lv_at hl 1 rfl) ?_
  refine lv_aload_n hx hb d_Lk_octetAt_5 rfl (lv_at hl 0 rfl) ?_
  refine o_get (v := .int (Lk_position Lk)) C in_Lk hP 43 cw_43 rfl 4 (by decide) k_1_235 rfl rfl d_Lk_octetAt_6 ?_
  refine lv_iconst (v := (1:Int32)) hx hb d_Lk_octetAt_9 (by decide) ?_
  refine lv_iadd hx hb d_Lk_octetAt_10 ?_
  obtain ⟨q1, hq1, h⟩ := o_bd_some h
  refine o_V (st1 := [.int q1]) (w1 := (o_cw ad ca rt Sj T0 T1 Rd Pg Pt Mk Lk Ck Jd Ld Pr)) hE.1 C (c_Tx_cell_0 hE l x1 ((Lk_position Lk) + (1:Int32)) T0 Sj T1 Rd Pg Pt Mk Lk Ck Jd Ld Pr rt hq1) hP (hDD _ _ _ _ _ _ _ _ _ _ _ _ _) hS hl.1 rfl cw_1 k_5_154 k_4_117 k_4_118 k_1_2 k_4_119 hv_Tx_cell rfl rfl ⟨Nat.le_of_ble_eq_true rfl, Nat.le_of_ble_eq_true rfl⟩ rfl (Nat.le_of_ble_eq_true rfl) ⟨Nat.le_of_ble_eq_true rfl, Nat.le_of_ble_eq_true rfl⟩ rfl d_Lk_octetAt_11 (fun H locs hP hS => ?_)
  obtain ⟨q2, hq2, h⟩ := o_bd_some h
  refine o_SN (st1 := [.int q2]) (w1 := (o_cw ad ca rt Sj T0 T1 Rd Pg Pt Mk Lk Ck Jd Ld Pr)) hE.1 C (c_SJ_hexDigit hE l q1 Sj T0 T1 Rd Pg Pt Mk Lk Ck Jd Ld Pr rt hq2) hP (hDD _ _ _ _ _ _ _ _ _ _ _ _ _) hS hl.1 (hE.2.1 _ _ _ C.2.2.2.2.2.2.2.2.2 _ nw_10) k_3_152 k_1_1 k_3_153 hs_SJ_hexDigit rfl rfl ⟨Nat.le_of_ble_eq_true rfl, Nat.le_of_ble_eq_true rfl⟩ rfl (Nat.le_of_ble_eq_true rfl) ⟨Nat.le_of_ble_eq_true rfl, Nat.le_of_ble_eq_true rfl⟩ rfl d_Lk_octetAt_14 (fun H locs hP hS => ?_)
  refine lv_istore_n (lv' := [(2, .int q2), (0, .ref (ad 43)), (1, .int x1)]) hx hb d_Lk_octetAt_17 rfl hl (by decide) rfl (fun ls hl => ?_)
  refine lv_aload_n hx hb d_Lk_octetAt_18 rfl (lv_at hl 1 rfl) ?_
  refine o_get (v := .ref (ad 1)) C in_Lk hP 43 cw_43 rfl 0 (by decide) k_1_231 rfl rfl d_Lk_octetAt_19 ?_
  refine lv_iload_n hx hb d_Lk_octetAt_22 rfl (lv_at hl 2 rfl) ?_
  refine lv_aload_n hx hb d_Lk_octetAt_23 rfl (lv_at hl 1 rfl) ?_
  refine o_get (v := .int (Lk_position Lk)) C in_Lk hP 43 cw_43 rfl 4 (by decide) k_1_235 rfl rfl d_Lk_octetAt_24 ?_
  refine lv_iconst (v := (2:Int32)) hx hb d_Lk_octetAt_27 (by decide) ?_
  refine lv_iadd hx hb d_Lk_octetAt_28 ?_
  obtain ⟨q3, hq3, h⟩ := o_bd_some h
  refine o_V (st1 := [.int q3]) (w1 := (o_cw ad ca rt Sj T0 T1 Rd Pg Pt Mk Lk Ck Jd Ld Pr)) hE.1 C (c_Tx_cell_0 hE l x1 ((Lk_position Lk) + (2:Int32)) T0 Sj T1 Rd Pg Pt Mk Lk Ck Jd Ld Pr rt hq3) hP (hDD _ _ _ _ _ _ _ _ _ _ _ _ _) hS hl.1 rfl cw_1 k_5_154 k_4_117 k_4_118 k_1_2 k_4_119 hv_Tx_cell rfl rfl ⟨Nat.le_of_ble_eq_true rfl, Nat.le_of_ble_eq_true rfl⟩ rfl (Nat.le_of_ble_eq_true rfl) ⟨Nat.le_of_ble_eq_true rfl, Nat.le_of_ble_eq_true rfl⟩ rfl d_Lk_octetAt_29 (fun H locs hP hS => ?_)
  obtain ⟨q4, hq4, h⟩ := o_bd_some h
  refine o_SN (st1 := [.int q4]) (w1 := (o_cw ad ca rt Sj T0 T1 Rd Pg Pt Mk Lk Ck Jd Ld Pr)) hE.1 C (c_SJ_hexDigit hE l q3 Sj T0 T1 Rd Pg Pt Mk Lk Ck Jd Ld Pr rt hq4) hP (hDD _ _ _ _ _ _ _ _ _ _ _ _ _) hS hl.1 (hE.2.1 _ _ _ C.2.2.2.2.2.2.2.2.2 _ nw_10) k_3_152 k_1_1 k_3_153 hs_SJ_hexDigit rfl rfl ⟨Nat.le_of_ble_eq_true rfl, Nat.le_of_ble_eq_true rfl⟩ rfl (Nat.le_of_ble_eq_true rfl) ⟨Nat.le_of_ble_eq_true rfl, Nat.le_of_ble_eq_true rfl⟩ rfl d_Lk_octetAt_32 (fun H locs hP hS => ?_)
  refine lv_istore_n (lv' := [(3, .int q4), (2, .int q2), (0, .ref (ad 43)), (1, .int x1)]) hx hb d_Lk_octetAt_35 rfl hl (by decide) rfl (fun ls hl => ?_)
  refine lv_aload_n hx hb d_Lk_octetAt_36 rfl (lv_at hl 2 rfl) ?_
  refine o_get (v := .ref (ad 1)) C in_Lk hP 43 cw_43 rfl 0 (by decide) k_1_231 rfl rfl d_Lk_octetAt_37 ?_
  refine lv_iload_n hx hb d_Lk_octetAt_40 rfl (lv_at hl 3 rfl) ?_
  refine lv_aload_n hx hb d_Lk_octetAt_41 rfl (lv_at hl 2 rfl) ?_
  refine o_get (v := .int (Lk_position Lk)) C in_Lk hP 43 cw_43 rfl 4 (by decide) k_1_235 rfl rfl d_Lk_octetAt_42 ?_
  obtain ⟨q5, hq5, h⟩ := o_bd_some h
  refine o_V (st1 := [.int q5]) (w1 := (o_cw ad ca rt Sj T0 T1 Rd Pg Pt Mk Lk Ck Jd Ld Pr)) hE.1 C (c_Tx_cell_0 hE l x1 (Lk_position Lk) T0 Sj T1 Rd Pg Pt Mk Lk Ck Jd Ld Pr rt hq5) hP (hDD _ _ _ _ _ _ _ _ _ _ _ _ _) hS hl.1 rfl cw_1 k_5_154 k_4_117 k_4_118 k_1_2 k_4_119 hv_Tx_cell rfl rfl ⟨Nat.le_of_ble_eq_true rfl, Nat.le_of_ble_eq_true rfl⟩ rfl (Nat.le_of_ble_eq_true rfl) ⟨Nat.le_of_ble_eq_true rfl, Nat.le_of_ble_eq_true rfl⟩ rfl d_Lk_octetAt_45 (fun H locs hP hS => ?_)
  refine lv_bipush (v := (37:Int32)) hx hb d_Lk_octetAt_48 (by decide) ?_
  refine lv_icmp_ne (tgt := 63) hx hb d_Lk_octetAt_50 (by decide) (fun c1 => ?_) (fun c1 => ?_)
  · replace h := o_ff c1 h
    refine lv_iconst (v := (-1:Int32)) hx hb d_Lk_octetAt_63 (by decide) ?_
    refine lv_goto (tgt := 73) hx hb d_Lk_octetAt_64 (by decide) ?_
    cases h
    exact o_ri (v := (-1:Int32)) C hP hS d_Lk_octetAt_73
  · replace h := o_tt c1 h
    refine lv_iload_n hx hb d_Lk_octetAt_53 rfl (lv_at hl 1 rfl) ?_
    refine lv_iconst (v := (-1:Int32)) hx hb d_Lk_octetAt_54 (by decide) ?_
    refine lv_icmp_eq (tgt := 63) hx hb d_Lk_octetAt_55 (by decide) (fun c2 => ?_) (fun c2 => ?_)
    · replace h := o_tt c2 h
      refine lv_iconst (v := (-1:Int32)) hx hb d_Lk_octetAt_63 (by decide) ?_
      refine lv_goto (tgt := 73) hx hb d_Lk_octetAt_64 (by decide) ?_
      cases h
      exact o_ri (v := (-1:Int32)) C hP hS d_Lk_octetAt_73
    · replace h := o_ff c2 h
      refine lv_iload_n hx hb d_Lk_octetAt_58 rfl (lv_at hl 0 rfl) ?_
      refine lv_iconst (v := (-1:Int32)) hx hb d_Lk_octetAt_59 (by decide) ?_
      refine lv_icmp_ne (tgt := 67) hx hb d_Lk_octetAt_60 (by decide) (fun c3 => ?_) (fun c3 => ?_)
      · replace h := o_ff c3 h
        refine lv_iload_n hx hb d_Lk_octetAt_67 rfl (lv_at hl 1 rfl) ?_
        refine lv_bipush (v := (16:Int32)) hx hb d_Lk_octetAt_68 (by decide) ?_
        refine lv_imul hx hb d_Lk_octetAt_70 ?_
        refine lv_iload_n hx hb d_Lk_octetAt_71 rfl (lv_at hl 0 rfl) ?_
        refine lv_iadd hx hb d_Lk_octetAt_72 ?_
        cases h
        exact o_ri (v := ((q2 * (16:Int32)) + q4)) C hP hS d_Lk_octetAt_73
      · replace h := o_tt c3 h
        refine lv_iconst (v := (-1:Int32)) hx hb d_Lk_octetAt_63 (by decide) ?_
        refine lv_goto (tgt := 73) hx hb d_Lk_octetAt_64 (by decide) ?_
        cases h
        exact o_ri (v := (-1:Int32)) C hP hS d_Lk_octetAt_73
set_option maxHeartbeats 4000000 in
set_option maxRecDepth 100000 in
theorem w_Lk_decodeOctets_b22 {E : (Nat → Prop) → State → Heap → Prop} {p : Program} {l : Launch} {e : Env} {s : State} {m : MethodId} {args : Array Value} {below : List Frame} {meth : Method} {c : Code} {D : va_G} {ad kd sd : Nat → Nat} {ca : Nat → ClassId} {A : Nat → Prop} {Q : State → Prop} (hE : o_EK E kd sd) (C : o_Cx E p s m args meth c D o_cls (o_tys ca) "SchemaJudge$Links" b_Lk_decodeOctets (some .int) 7 cc_Lk_decodeOctets A) (hDD : ∀ (rt : Nat) (Sj : SSJ) (T0 : STx) (T1 : STx) (Rd : SRd) (Pg : SPg) (Pt : SPt) (Mk : SMk) (Lk : SLk) (Ck : SCk) (Jd : SJd) (Ld : SLd) (Pr : SPr), va_D A (o_cw ad ca rt Sj T0 T1 Rd Pg Pt Mk Lk Ck Jd Ld Pr)) (n : Nat) (u22_x1 : Int32) (u22_x3 : Int32) (u22_T0 : STx) (u22_Sj : SSJ) (u22_T1 : STx) (u22_Rd : SRd) (u22_Pg : SPg) (u22_Pt : SPt) (u22_Mk : SMk) (u22_Ck : SCk) (u22_Jd : SJd) (u22_Ld : SLd) (u22_Pr : SPr) (u22_rt : Nat) (z : Int32 × Int32 × SLk) (q : Nat × Int32 × Int32 × SLk) (h : m_Lk_decodeOctets_b22 n u22_x1 u22_x3 u22_T0 z = some q) (h0 : q.1 = 0 → o_At p l e rm_Lk_decodeOctets s m args below meth c Q o_cls D A 7 22 [] (o_cw ad ca u22_rt u22_Sj u22_T0 u22_T1 u22_Rd u22_Pg u22_Pt u22_Mk q.2.2.2 u22_Ck u22_Jd u22_Ld u22_Pr) [(0, .ref (ad 43)), (1, .int u22_x1), (3, .int u22_x3), (4, .int q.2.1), (5, .int q.2.2.1)]) (h1 : q.1 ≠ 0 → (if q.1 = 1 then o_At p l e rm_Lk_decodeOctets s m args below meth c Q o_cls D A 7 53 [] (o_cw ad ca u22_rt u22_Sj u22_T0 u22_T1 u22_Rd u22_Pg u22_Pt u22_Mk q.2.2.2 u22_Ck u22_Jd u22_Ld u22_Pr) [] else o_At p l e rm_Lk_decodeOctets s m args below meth c Q o_cls D A 7 74 [] (o_cw ad ca u22_rt u22_Sj u22_T0 u22_T1 u22_Rd u22_Pg u22_Pt u22_Mk q.2.2.2 u22_Ck u22_Jd u22_Ld u22_Pr) [(3, .int u22_x3), (4, .int q.2.1)])) : o_At p l e rm_Lk_decodeOctets s m args below meth c Q o_cls D A 7 22 [] (o_cw ad ca u22_rt u22_Sj u22_T0 u22_T1 u22_Rd u22_Pg u22_Pt u22_Mk z.2.2 u22_Ck u22_Jd u22_Ld u22_Pr) [(0, .ref (ad 43)), (1, .int u22_x1), (3, .int u22_x3), (4, .int z.1), (5, .int z.2.1)] := by
  unfold m_Lk_decodeOctets_b22 at h
  intro H locs ls hP hS hl
  have C0 := C
  obtain ⟨hx, hb, -, -, -, hown, hts, hK, -, -⟩ := C0
  refine lv_iload hx hb d_Lk_decodeOctets_22 (lv_at hl 4 rfl) ?_
  refine lv_iload_n hx hb d_Lk_decodeOctets_24 rfl (lv_at hl 2 rfl) ?_
  refine lv_icmp_ge (tgt := 74) hx hb d_Lk_decodeOctets_25 (by decide) (fun c2 => ?_) (fun c2 => ?_)
  · replace h := o_tt c2 h
    cases h
    exact h1 (Nat.succ_ne_zero 1) _ _ _ hP hS (lv_sub hl [2, 3] rfl)
  · replace h := o_ff c2 h
    refine lv_aload_n hx hb d_Lk_decodeOctets_28 rfl (lv_at hl 0 rfl) ?_
    refine lv_dup hx hb d_Lk_decodeOctets_29 rfl ?_
    refine o_get (v := .int (Lk_position z.2.2)) C in_Lk hP 43 cw_43 rfl 4 (by decide) k_1_235 rfl rfl d_Lk_decodeOctets_30 ?_
    refine lv_iconst (v := (3:Int32)) hx hb d_Lk_decodeOctets_33 (by decide) ?_
    refine lv_iadd hx hb d_Lk_decodeOctets_34 ?_
    refine o_put (v := .int ((Lk_position z.2.2) + (3:Int32))) (ty := .int) (w1 := (o_cw ad ca u22_rt u22_Sj u22_T0 u22_T1 u22_Rd u22_Pg u22_Pt u22_Mk (Lk_mk (Lk_characters z.2.2) (Lk_length z.2.2) ((Lk_position z.2.2) + (3:Int32))) u22_Ck u22_Jd u22_Ld u22_Pr)) C in_Lk t_Lk t_Lk_ok n_Lk hP (hDD _ _ _ _ _ _ _ _ _ _ _ _ _) hS 43 cw_43 rfl 4 (by decide) k_1_235 rfl rfl (by decide +kernel) rfl rfl (Nat.le_of_ble_eq_true rfl) rfl d_Lk_decodeOctets_35 (fun H locs hP hS => ?_)
    refine lv_aload_n hx hb d_Lk_decodeOctets_38 rfl (lv_at hl 0 rfl) ?_
    refine lv_iload_n hx hb d_Lk_decodeOctets_39 rfl (lv_at hl 1 rfl) ?_
    obtain ⟨q3, hq3, h⟩ := o_bd_some h
    refine o_V (st1 := [.int q3]) (w1 := (o_cw ad ca u22_rt u22_Sj u22_T0 u22_T1 u22_Rd u22_Pg u22_Pt u22_Mk (Lk_mk (Lk_characters z.2.2) (Lk_length z.2.2) ((Lk_position z.2.2) + (3:Int32))) u22_Ck u22_Jd u22_Ld u22_Pr)) hE.1 C (c_Lk_octetAt hE l u22_x1 u22_T0 (Lk_mk (Lk_characters z.2.2) (Lk_length z.2.2) ((Lk_position z.2.2) + (3:Int32))) u22_Sj u22_T1 u22_Rd u22_Pg u22_Pt u22_Mk u22_Ck u22_Jd u22_Ld u22_Pr u22_rt hq3) hP (hDD _ _ _ _ _ _ _ _ _ _ _ _ _) hS hl.1 rfl cw_43 k_5_150 k_5_152 k_s_48 k_1_8 k_5_153 hv_Lk_octetAt rfl rfl ⟨Nat.le_of_ble_eq_true rfl, Nat.le_of_ble_eq_true rfl⟩ rfl (Nat.le_of_ble_eq_true rfl) ⟨Nat.le_of_ble_eq_true rfl, Nat.le_of_ble_eq_true rfl⟩ rfl d_Lk_decodeOctets_40 (fun H locs hP hS => ?_)
    refine lv_istore (lv' := [(6, .int q3), (0, .ref (ad 43)), (1, .int u22_x1), (3, .int u22_x3), (4, .int z.1), (5, .int z.2.1)]) hx hb d_Lk_decodeOctets_43 hl (by decide) rfl (fun ls hl => ?_)
    refine lv_iload hx hb d_Lk_decodeOctets_45 (lv_at hl 0 rfl) ?_
    obtain ⟨q4, hq4, h⟩ := o_bd_some h
    refine o_SN (st1 := [.int q4]) (w1 := (o_cw ad ca u22_rt u22_Sj u22_T0 u22_T1 u22_Rd u22_Pg u22_Pt u22_Mk (Lk_mk (Lk_characters z.2.2) (Lk_length z.2.2) ((Lk_position z.2.2) + (3:Int32))) u22_Ck u22_Jd u22_Ld u22_Pr)) hE.1 C (c_SJ_utf8Follows hE l q3 u22_Sj u22_T0 u22_T1 u22_Rd u22_Pg u22_Pt u22_Mk (Lk_mk (Lk_characters z.2.2) (Lk_length z.2.2) ((Lk_position z.2.2) + (3:Int32))) u22_Ck u22_Jd u22_Ld u22_Pr u22_rt hq4) hP (hDD _ _ _ _ _ _ _ _ _ _ _ _ _) hS hl.1 (hE.2.1 _ _ _ C.2.2.2.2.2.2.2.2.2 _ nw_13) k_3_174 k_1_1 k_3_175 hs_SJ_utf8Follows rfl rfl ⟨Nat.le_of_ble_eq_true rfl, Nat.le_of_ble_eq_true rfl⟩ rfl (Nat.le_of_ble_eq_true rfl) ⟨Nat.le_of_ble_eq_true rfl, Nat.le_of_ble_eq_true rfl⟩ rfl d_Lk_decodeOctets_47 (fun H locs hP hS => ?_)
    refine lv_if_ne (tgt := 55) hx hb d_Lk_decodeOctets_50 (by decide) (fun c3 => ?_) (fun c3 => ?_)
    · replace h := o_ff c3 h
      refine lv_iload hx hb d_Lk_decodeOctets_55 (lv_at hl 4 rfl) ?_
      refine lv_bipush (v := (6:Int32)) hx hb d_Lk_decodeOctets_57 (by decide) ?_
      refine lv_ishl hx hb d_Lk_decodeOctets_59 ?_
      refine lv_iload hx hb d_Lk_decodeOctets_60 (lv_at hl 0 rfl) ?_
      refine lv_bipush (v := (63:Int32)) hx hb d_Lk_decodeOctets_62 (by decide) ?_
      refine lv_iand hx hb d_Lk_decodeOctets_64 ?_
      refine lv_ior hx hb d_Lk_decodeOctets_65 ?_
      refine lv_topi (fun x4_66 ex4_66 => ?_)
      replace h := o_nm_at ex4_66 h
      refine lv_istore (lv' := [(4, .int x4_66), (6, .int q3), (0, .ref (ad 43)), (1, .int u22_x1), (3, .int u22_x3), (5, .int z.2.1)]) hx hb d_Lk_decodeOctets_66 hl (by decide) rfl (fun ls hl => ?_)
      obtain ⟨x5_68, ex5_68⟩ : ∃ y : Int32, y = z.2.1 + (1:Int32) := ⟨_, rfl⟩
      replace h := o_nm_at ex5_68 h
      refine lv_iinc (v := x5_68) (lv' := [(5, .int x5_68), (4, .int x4_66), (6, .int q3), (0, .ref (ad 43)), (1, .int u22_x1), (3, .int u22_x3)]) hx hb d_Lk_decodeOctets_68 hl (k := 5) rfl (by rw [ex5_68]; rfl) (by decide) rfl (fun ls hl => ?_)
      refine lv_goto (tgt := 22) hx hb d_Lk_decodeOctets_71 (by decide) ?_
      cases h
      exact h0 rfl _ _ _ hP hS (lv_sub hl [3, 4, 5, 1, 0] rfl)
    · replace h := o_tt c3 h
      cases h
      exact h1 (Nat.succ_ne_zero 0) _ _ _ hP hS (lv_sub hl [] rfl)
set_option maxHeartbeats 4000000 in
set_option maxRecDepth 100000 in
theorem c_Lk_decodeOctets {E : (Nat → Prop) → State → Heap → Prop} {D : va_G} {ad kd sd : Nat → Nat} {ca : Nat → ClassId} (hE : o_EK E kd sd) (l : Launch) (n : Nat) (x1 : Int32) (x2 : Int32) (T0 : STx) (Lk : SLk) (Sj : SSJ) (T1 : STx) (Rd : SRd) (Pg : SPg) (Pt : SPt) (Mk : SMk) (Ck : SCk) (Jd : SJd) (Ld : SLd) (Pr : SPr) (rt : Nat) {r : Int32 × SLk} (h : m_Lk_decodeOctets n x1 x2 T0 Lk = some r) : o_Cn E l D o_cls (o_tys ca) y_Lk_decodeOctets cc_Lk_decodeOctets rm_Lk_decodeOctets [.ref (ad 43), .int x1, .int x2] (o_cw ad ca rt Sj T0 T1 Rd Pg Pt Mk Lk Ck Jd Ld Pr) (o_cw ad ca rt Sj T0 T1 Rd Pg Pt Mk r.2 Ck Jd Ld Pr) (some (.int r.1)) := by
  refine o_Cn_of (by decide) (Nat.le_of_ble_eq_true rfl) ?_
  intro p e s m below meth c A ls C hD hP hS hl
  have hDD : ∀ (rt : Nat) (Sj : SSJ) (T0 : STx) (T1 : STx) (Rd : SRd) (Pg : SPg) (Pt : SPt) (Mk : SMk) (Lk : SLk) (Ck : SCk) (Jd : SJd) (Ld : SLd) (Pr : SPr), va_D A (o_cw ad ca rt Sj T0 T1 Rd Pg Pt Mk Lk Ck Jd Ld Pr) := fun _ _ _ _ _ _ _ _ _ _ _ _ _ => o_D_map hD rfl
  have hl : lv_has ls 7 [(0, .ref (ad 43)), (1, .int x1), (2, .int x2)] := hl
  unfold m_Lk_decodeOctets at h
  have C0 := C
  obtain ⟨hx, hb, -, -, -, hown, hts, hK, -, -⟩ := C0
  refine lv_iload_n hx hb d_Lk_decodeOctets_0 rfl (lv_at hl 2 rfl) ?_
  obtain ⟨q1, hq1, h⟩ := o_bd_some h
  refine o_SN (st1 := [.int q1]) (w1 := (o_cw ad ca rt Sj T0 T1 Rd Pg Pt Mk Lk Ck Jd Ld Pr)) hE.1 C (c_SJ_utf8Tail hE l x2 Sj T0 T1 Rd Pg Pt Mk Lk Ck Jd Ld Pr rt hq1) hP (hDD _ _ _ _ _ _ _ _ _ _ _ _ _) hS hl.1 (hE.2.1 _ _ _ C.2.2.2.2.2.2.2.2.2 _ nw_11) k_3_168 k_1_1 k_3_169 hs_SJ_utf8Tail rfl rfl ⟨Nat.le_of_ble_eq_true rfl, Nat.le_of_ble_eq_true rfl⟩ rfl (Nat.le_of_ble_eq_true rfl) ⟨Nat.le_of_ble_eq_true rfl, Nat.le_of_ble_eq_true rfl⟩ rfl d_Lk_decodeOctets_1 (fun H locs hP hS => ?_)
  refine lv_istore_n (lv' := [(3, .int q1), (0, .ref (ad 43)), (1, .int x1), (2, .int x2)]) hx hb d_Lk_decodeOctets_4 rfl hl (by decide) rfl (fun ls hl => ?_)
  refine lv_iload_n hx hb d_Lk_decodeOctets_5 rfl (lv_at hl 0 rfl) ?_
  refine lv_iconst (v := (-1:Int32)) hx hb d_Lk_decodeOctets_6 (by decide) ?_
  refine lv_icmp_ne (tgt := 12) hx hb d_Lk_decodeOctets_7 (by decide) (fun c1 => ?_) (fun c1 => ?_)
  · replace h := o_ff c1 h
    refine lv_iload_n hx hb d_Lk_decodeOctets_12 rfl (lv_at hl 3 rfl) ?_
    refine lv_iload_n hx hb d_Lk_decodeOctets_13 rfl (lv_at hl 0 rfl) ?_
    obtain ⟨q2, hq2, h⟩ := o_bd_some h
    refine o_SN (st1 := [.int q2]) (w1 := (o_cw ad ca rt Sj T0 T1 Rd Pg Pt Mk Lk Ck Jd Ld Pr)) hE.1 C (c_SJ_utf8Head hE l x2 q1 Sj T0 T1 Rd Pg Pt Mk Lk Ck Jd Ld Pr rt hq2) hP (hDD _ _ _ _ _ _ _ _ _ _ _ _ _) hS hl.1 (hE.2.1 _ _ _ C.2.2.2.2.2.2.2.2.2 _ nw_12) k_3_171 k_1_1 k_3_172 hs_SJ_utf8Head rfl rfl ⟨Nat.le_of_ble_eq_true rfl, Nat.le_of_ble_eq_true rfl⟩ rfl (Nat.le_of_ble_eq_true rfl) ⟨Nat.le_of_ble_eq_true rfl, Nat.le_of_ble_eq_true rfl⟩ rfl d_Lk_decodeOctets_14 (fun H locs hP hS => ?_)
    refine lv_istore (lv' := [(4, .int q2), (3, .int q1), (0, .ref (ad 43)), (1, .int x1), (2, .int x2)]) hx hb d_Lk_decodeOctets_17 hl (by decide) rfl (fun ls hl => ?_)
    refine lv_iconst (v := (0:Int32)) hx hb d_Lk_decodeOctets_19 (by decide) ?_
    refine lv_istore (lv' := [(5, .int (0:Int32)), (4, .int q2), (3, .int q1), (0, .ref (ad 43)), (1, .int x1), (2, .int x2)]) hx hb d_Lk_decodeOctets_20 hl (by decide) rfl (fun ls hl => ?_)
    obtain ⟨q5, hq5, h⟩ := o_bd_some h
    refine o_sim2 (AH := fun zz => o_At p l e rm_Lk_decodeOctets s m _ below meth c _ o_cls D A 7 22 [] (o_cw ad ca rt Sj T0 T1 Rd Pg Pt Mk zz.2.2 Ck Jd Ld Pr) [(0, .ref (ad 43)), (1, .int x1), (3, .int q1), (4, .int zz.1), (5, .int zz.2.1)]) (AX := fun qq => if qq.1 = 1 then o_At p l e rm_Lk_decodeOctets s m _ below meth c _ o_cls D A 7 53 [] (o_cw ad ca rt Sj T0 T1 Rd Pg Pt Mk qq.2.2.2 Ck Jd Ld Pr) [] else o_At p l e rm_Lk_decodeOctets s m _ below meth c _ o_cls D A 7 74 [] (o_cw ad ca rt Sj T0 T1 Rd Pg Pt Mk qq.2.2.2 Ck Jd Ld Pr) [(3, .int q1), (4, .int qq.2.1)]) (fun zz qq h h0 h1 => w_Lk_decodeOctets_b22 hE C hDD n x1 q1 T0 Sj T1 Rd Pg Pt Mk Ck Jd Ld Pr rt zz qq h h0 h1) n _ q5 hq5 ?_ _ _ _ hP hS (lv_sub hl [3, 4, 2, 1, 0] rfl)
    by_cases c5 : q5.1 = 1
    · replace h := o_tt c5 h
      refine o_ip c5 ?_
      intro H locs ls hP hS hl
      refine lv_iconst (v := (-1:Int32)) hx hb d_Lk_decodeOctets_53 (by decide) ?_
      cases h
      exact o_ri (v := (-1:Int32)) C hP hS d_Lk_decodeOctets_54
    replace h := o_ff c5 h
    refine o_in_ c5 ?_
    intro H locs ls hP hS hl
    refine lv_iload hx hb d_Lk_decodeOctets_74 (lv_at hl 1 rfl) ?_
    refine lv_iload_n hx hb d_Lk_decodeOctets_76 rfl (lv_at hl 0 rfl) ?_
    obtain ⟨q6, hq6, h⟩ := o_bd_some h
    refine o_SN (st1 := [.int q6]) (w1 := (o_cw ad ca rt Sj T0 T1 Rd Pg Pt Mk q5.2.2.2 Ck Jd Ld Pr)) hE.1 C (c_SJ_utf8Legal hE l q5.2.1 q1 Sj T0 T1 Rd Pg Pt Mk q5.2.2.2 Ck Jd Ld Pr rt hq6) hP (hDD _ _ _ _ _ _ _ _ _ _ _ _ _) hS hl.1 (hE.2.1 _ _ _ C.2.2.2.2.2.2.2.2.2 _ nw_14) k_3_177 k_1_1 k_3_178 hs_SJ_utf8Legal rfl rfl ⟨Nat.le_of_ble_eq_true rfl, Nat.le_of_ble_eq_true rfl⟩ rfl (Nat.le_of_ble_eq_true rfl) ⟨Nat.le_of_ble_eq_true rfl, Nat.le_of_ble_eq_true rfl⟩ rfl d_Lk_decodeOctets_77 (fun H locs hP hS => ?_)
    refine lv_if_eq (tgt := 88) hx hb d_Lk_decodeOctets_80 (by decide) (fun c4 => ?_) (fun c4 => ?_)
    · replace h := o_tt c4 h
      refine lv_iconst (v := (-1:Int32)) hx hb d_Lk_decodeOctets_88 (by decide) ?_
      cases h
      exact o_ri (v := (-1:Int32)) C hP hS d_Lk_decodeOctets_89
    · replace h := o_ff c4 h
      refine lv_iload hx hb d_Lk_decodeOctets_83 (lv_at hl 1 rfl) ?_
      refine lv_goto (tgt := 89) hx hb d_Lk_decodeOctets_85 (by decide) ?_
      cases h
      exact o_ri C hP hS d_Lk_decodeOctets_89
  · replace h := o_tt c1 h
    refine lv_iconst (v := (-1:Int32)) hx hb d_Lk_decodeOctets_10 (by decide) ?_
    cases h
    exact o_ri (v := (-1:Int32)) C hP hS d_Lk_decodeOctets_11
set_option maxHeartbeats 4000000 in
set_option maxRecDepth 100000 in
theorem w_Lk_decode_j107 {E : (Nat → Prop) → State → Heap → Prop} {p : Program} {l : Launch} {e : Env} {s : State} {m : MethodId} {args : Array Value} {below : List Frame} {meth : Method} {c : Code} {D : va_G} {ad kd sd : Nat → Nat} {ca : Nat → ClassId} {A : Nat → Prop} {Q : State → Prop} (hE : o_EK E kd sd) (C : o_Cx E p s m args meth c D o_cls (o_tys ca) "SchemaJudge$Links" b_Lk_decode (some .boolean) 6 cc_Lk_decode A) (hDD : ∀ (rt : Nat) (Sj : SSJ) (T0 : STx) (T1 : STx) (Rd : SRd) (Pg : SPg) (Pt : SPt) (Mk : SMk) (Lk : SLk) (Ck : SCk) (Jd : SJd) (Ld : SLd) (Pr : SPr), va_D A (o_cw ad ca rt Sj T0 T1 Rd Pg Pt Mk Lk Ck Jd Ld Pr)) (n : Nat) (u21_x1 : Int32) (u21_x2 : Int32) (u21_T0 : STx) (u21_Sj : SSJ) (u21_T1 : STx) (u21_Rd : SRd) (u21_Pg : SPg) (u21_Pt : SPt) (u21_Mk : SMk) (u21_Ck : SCk) (u21_Jd : SJd) (u21_Ld : SLd) (u21_Pr : SPr) (u21_rt : Nat) (x3 : Int32) (x5 : Int32) (y1 : Int32) (y2 : Int32) (Lk : SLk) {q : Nat × Int32 × SLk} (h : m_Lk_decode_j107 n u21_x1 u21_x2 x3 x5 y1 y2 u21_T0 Lk = some q) (h0 : q.1 = 0 → o_At p l e rm_Lk_decode s m args below meth c Q o_cls D A 6 21 [] (o_cw ad ca u21_rt u21_Sj u21_T0 u21_T1 u21_Rd u21_Pg u21_Pt u21_Mk q.2.2 u21_Ck u21_Jd u21_Ld u21_Pr) [(0, .ref (ad 43)), (1, .int u21_x1), (2, .int u21_x2), (3, .int q.2.1)]) (h1 : q.1 ≠ 0 → (if q.1 = 1 then o_At p l e rm_Lk_decode s m args below meth c Q o_cls D A 6 89 [] (o_cw ad ca u21_rt u21_Sj u21_T0 u21_T1 u21_Rd u21_Pg u21_Pt u21_Mk q.2.2 u21_Ck u21_Jd u21_Ld u21_Pr) [] else o_At p l e rm_Lk_decode s m args below meth c Q o_cls D A 6 138 [] (o_cw ad ca u21_rt u21_Sj u21_T0 u21_T1 u21_Rd u21_Pg u21_Pt u21_Mk q.2.2 u21_Ck u21_Jd u21_Ld u21_Pr) [])) : o_At p l e rm_Lk_decode s m args below meth c Q o_cls D A 6 107 [.int y2, .int y1, .ref (ad 43)] (o_cw ad ca u21_rt u21_Sj u21_T0 u21_T1 u21_Rd u21_Pg u21_Pt u21_Mk Lk u21_Ck u21_Jd u21_Ld u21_Pr) [(0, .ref (ad 43)), (1, .int u21_x1), (2, .int u21_x2), (3, .int x3), (5, .int x5)] := by
  unfold m_Lk_decode_j107 at h
  intro H locs ls hP hS hl
  have C0 := C
  obtain ⟨hx, hb, -, -, -, hown, hts, hK, -, -⟩ := C0
  refine lv_iadd hx hb d_Lk_decode_107 ?_
  refine o_put (v := .int (y1 + y2)) (ty := .int) (w1 := (o_cw ad ca u21_rt u21_Sj u21_T0 u21_T1 u21_Rd u21_Pg u21_Pt u21_Mk (Lk_mk (Lk_characters Lk) (Lk_length Lk) (y1 + y2)) u21_Ck u21_Jd u21_Ld u21_Pr)) C in_Lk t_Lk t_Lk_ok n_Lk hP (hDD _ _ _ _ _ _ _ _ _ _ _ _ _) hS 43 cw_43 rfl 4 (by decide) k_1_235 rfl rfl (by decide +kernel) rfl rfl (Nat.le_of_ble_eq_true rfl) rfl d_Lk_decode_108 (fun H locs hP hS => ?_)
  refine lv_aload_n hx hb d_Lk_decode_111 rfl (lv_at hl 0 rfl) ?_
  refine o_get (v := .ref (ad 44)) C in_Lk hP 43 cw_43 rfl 2 (by decide) k_1_233 rfl rfl d_Lk_decode_112 ?_
  refine lv_aload_n hx hb d_Lk_decode_115 rfl (lv_at hl 0 rfl) ?_
  refine o_get (v := .int (Lk_length Lk)) C in_Lk hP 43 cw_43 rfl 3 (by decide) k_1_234 rfl rfl d_Lk_decode_116 ?_
  refine lv_iload hx hb d_Lk_decode_119 (lv_at hl 4 rfl) ?_
  obtain ⟨g7, h⟩ := o_gd_some h
  refine o_iast (f := (Lk_characters Lk)) (w1 := (o_cw ad ca u21_rt u21_Sj u21_T0 u21_T1 u21_Rd u21_Pg u21_Pt u21_Mk (Lk_mk (upd (Lk_characters Lk) (Lk_length Lk).toNatClampNeg x5) (Lk_length Lk) (y1 + y2)) u21_Ck u21_Jd u21_Ld u21_Pr)) C hP (hDD _ _ _ _ _ _ _ _ _ _ _ _ _) hS 44 36 cw_44 rfl g7 rfl d_Lk_decode_121 (fun H locs hP hS => ?_)
  refine lv_aload_n hx hb d_Lk_decode_122 rfl (lv_at hl 0 rfl) ?_
  refine lv_dup hx hb d_Lk_decode_123 rfl ?_
  refine o_get (v := .int (Lk_length Lk)) C in_Lk hP 43 cw_43 rfl 3 (by decide) k_1_234 rfl rfl d_Lk_decode_124 ?_
  refine lv_iconst (v := (1:Int32)) hx hb d_Lk_decode_127 (by decide) ?_
  refine lv_iadd hx hb d_Lk_decode_128 ?_
  refine o_put (v := .int ((Lk_length Lk) + (1:Int32))) (ty := .int) (w1 := (o_cw ad ca u21_rt u21_Sj u21_T0 u21_T1 u21_Rd u21_Pg u21_Pt u21_Mk (Lk_mk (upd (Lk_characters Lk) (Lk_length Lk).toNatClampNeg x5) ((Lk_length Lk) + (1:Int32)) (y1 + y2)) u21_Ck u21_Jd u21_Ld u21_Pr)) C in_Lk t_Lk t_Lk_ok n_Lk hP (hDD _ _ _ _ _ _ _ _ _ _ _ _ _) hS 43 cw_43 rfl 3 (by decide) k_1_234 rfl rfl (by decide +kernel) rfl rfl (Nat.le_of_ble_eq_true rfl) rfl d_Lk_decode_129 (fun H locs hP hS => ?_)
  obtain ⟨x3_132, ex3_132⟩ : ∃ y : Int32, y = x3 + (1:Int32) := ⟨_, rfl⟩
  replace h := o_nm_at ex3_132 h
  refine lv_iinc (v := x3_132) (lv' := [(3, .int x3_132), (0, .ref (ad 43)), (1, .int u21_x1), (2, .int u21_x2), (5, .int x5)]) hx hb d_Lk_decode_132 hl (k := 3) rfl (by rw [ex3_132]; rfl) (by decide) rfl (fun ls hl => ?_)
  refine lv_goto (tgt := 21) hx hb d_Lk_decode_135 (by decide) ?_
  cases h
  exact h0 rfl _ _ _ hP hS (lv_sub hl [1, 2, 3, 0] rfl)
set_option maxHeartbeats 4000000 in
set_option maxRecDepth 100000 in
theorem w_Lk_decode_j81 {E : (Nat → Prop) → State → Heap → Prop} {p : Program} {l : Launch} {e : Env} {s : State} {m : MethodId} {args : Array Value} {below : List Frame} {meth : Method} {c : Code} {D : va_G} {ad kd sd : Nat → Nat} {ca : Nat → ClassId} {A : Nat → Prop} {Q : State → Prop} (hE : o_EK E kd sd) (C : o_Cx E p s m args meth c D o_cls (o_tys ca) "SchemaJudge$Links" b_Lk_decode (some .boolean) 6 cc_Lk_decode A) (hDD : ∀ (rt : Nat) (Sj : SSJ) (T0 : STx) (T1 : STx) (Rd : SRd) (Pg : SPg) (Pt : SPt) (Mk : SMk) (Lk : SLk) (Ck : SCk) (Jd : SJd) (Ld : SLd) (Pr : SPr), va_D A (o_cw ad ca rt Sj T0 T1 Rd Pg Pt Mk Lk Ck Jd Ld Pr)) (n : Nat) (u21_x1 : Int32) (u21_x2 : Int32) (u21_T0 : STx) (u21_Sj : SSJ) (u21_T1 : STx) (u21_Rd : SRd) (u21_Pg : SPg) (u21_Pt : SPt) (u21_Mk : SMk) (u21_Ck : SCk) (u21_Jd : SJd) (u21_Ld : SLd) (u21_Pr : SPr) (u21_rt : Nat) (x3 : Int32) (x4 : Int32) (y0 : Int32) (Lk : SLk) {q : Nat × Int32 × SLk} (h : m_Lk_decode_j81 n u21_x1 u21_x2 x3 x4 y0 u21_T0 Lk = some q) (h0 : q.1 = 0 → o_At p l e rm_Lk_decode s m args below meth c Q o_cls D A 6 21 [] (o_cw ad ca u21_rt u21_Sj u21_T0 u21_T1 u21_Rd u21_Pg u21_Pt u21_Mk q.2.2 u21_Ck u21_Jd u21_Ld u21_Pr) [(0, .ref (ad 43)), (1, .int u21_x1), (2, .int u21_x2), (3, .int q.2.1)]) (h1 : q.1 ≠ 0 → (if q.1 = 1 then o_At p l e rm_Lk_decode s m args below meth c Q o_cls D A 6 89 [] (o_cw ad ca u21_rt u21_Sj u21_T0 u21_T1 u21_Rd u21_Pg u21_Pt u21_Mk q.2.2 u21_Ck u21_Jd u21_Ld u21_Pr) [] else o_At p l e rm_Lk_decode s m args below meth c Q o_cls D A 6 138 [] (o_cw ad ca u21_rt u21_Sj u21_T0 u21_T1 u21_Rd u21_Pg u21_Pt u21_Mk q.2.2 u21_Ck u21_Jd u21_Ld u21_Pr) [])) : o_At p l e rm_Lk_decode s m args below meth c Q o_cls D A 6 81 [.int y0] (o_cw ad ca u21_rt u21_Sj u21_T0 u21_T1 u21_Rd u21_Pg u21_Pt u21_Mk Lk u21_Ck u21_Jd u21_Ld u21_Pr) [(0, .ref (ad 43)), (1, .int u21_x1), (2, .int u21_x2), (3, .int x3), (4, .int x4)] := by
  unfold m_Lk_decode_j81 at h
  intro H locs ls hP hS hl
  have C0 := C
  obtain ⟨hx, hb, -, -, -, hown, hts, hK, -, -⟩ := C0
  refine lv_istore (lv' := [(5, .int y0), (0, .ref (ad 43)), (1, .int u21_x1), (2, .int u21_x2), (3, .int x3), (4, .int x4)]) hx hb d_Lk_decode_81 hl (by decide) rfl (fun ls hl => ?_)
  refine lv_iload hx hb d_Lk_decode_83 (lv_at hl 0 rfl) ?_
  refine lv_iconst (v := (-1:Int32)) hx hb d_Lk_decode_85 (by decide) ?_
  refine lv_icmp_ne (tgt := 91) hx hb d_Lk_decode_86 (by decide) (fun c5 => ?_) (fun c5 => ?_)
  · replace h := o_ff c5 h
    refine lv_aload_n hx hb d_Lk_decode_91 rfl (lv_at hl 1 rfl) ?_
    refine lv_dup hx hb d_Lk_decode_92 rfl ?_
    refine o_get (v := .int (Lk_position Lk)) C in_Lk hP 43 cw_43 rfl 4 (by decide) k_1_235 rfl rfl d_Lk_decode_93 ?_
    refine lv_iload hx hb d_Lk_decode_96 (lv_at hl 5 rfl) ?_
    refine lv_iconst (v := (-1:Int32)) hx hb d_Lk_decode_98 (by decide) ?_
    refine lv_icmp_ne (tgt := 106) hx hb d_Lk_decode_99 (by decide) (fun c6 => ?_) (fun c6 => ?_)
    · replace h := o_ff c6 h
      refine lv_iconst (v := (3:Int32)) hx hb d_Lk_decode_106 (by decide) ?_
      exact w_Lk_decode_j107 hE C hDD n u21_x1 u21_x2 u21_T0 u21_Sj u21_T1 u21_Rd u21_Pg u21_Pt u21_Mk u21_Ck u21_Jd u21_Ld u21_Pr u21_rt x3 y0 (Lk_position Lk) (3:Int32) Lk h h0 h1 _ _ _ hP hS (lv_sub hl [1, 2, 3, 4, 0] rfl)
    · replace h := o_tt c6 h
      refine lv_iconst (v := (1:Int32)) hx hb d_Lk_decode_102 (by decide) ?_
      refine lv_goto (tgt := 107) hx hb d_Lk_decode_103 (by decide) ?_
      exact w_Lk_decode_j107 hE C hDD n u21_x1 u21_x2 u21_T0 u21_Sj u21_T1 u21_Rd u21_Pg u21_Pt u21_Mk u21_Ck u21_Jd u21_Ld u21_Pr u21_rt x3 y0 (Lk_position Lk) (1:Int32) Lk h h0 h1 _ _ _ hP hS (lv_sub hl [1, 2, 3, 4, 0] rfl)
  · replace h := o_tt c5 h
    cases h
    exact h1 (Nat.succ_ne_zero 0) _ _ _ hP hS (lv_sub hl [] rfl)
set_option maxHeartbeats 4000000 in
set_option maxRecDepth 100000 in
theorem w_Lk_decode_b21 {E : (Nat → Prop) → State → Heap → Prop} {p : Program} {l : Launch} {e : Env} {s : State} {m : MethodId} {args : Array Value} {below : List Frame} {meth : Method} {c : Code} {D : va_G} {ad kd sd : Nat → Nat} {ca : Nat → ClassId} {A : Nat → Prop} {Q : State → Prop} (hE : o_EK E kd sd) (C : o_Cx E p s m args meth c D o_cls (o_tys ca) "SchemaJudge$Links" b_Lk_decode (some .boolean) 6 cc_Lk_decode A) (hDD : ∀ (rt : Nat) (Sj : SSJ) (T0 : STx) (T1 : STx) (Rd : SRd) (Pg : SPg) (Pt : SPt) (Mk : SMk) (Lk : SLk) (Ck : SCk) (Jd : SJd) (Ld : SLd) (Pr : SPr), va_D A (o_cw ad ca rt Sj T0 T1 Rd Pg Pt Mk Lk Ck Jd Ld Pr)) (n : Nat) (u21_x1 : Int32) (u21_x2 : Int32) (u21_T0 : STx) (u21_Sj : SSJ) (u21_T1 : STx) (u21_Rd : SRd) (u21_Pg : SPg) (u21_Pt : SPt) (u21_Mk : SMk) (u21_Ck : SCk) (u21_Jd : SJd) (u21_Ld : SLd) (u21_Pr : SPr) (u21_rt : Nat) (z : Int32 × SLk) (q : Nat × Int32 × SLk) (h : m_Lk_decode_b21 n u21_x1 u21_x2 u21_T0 z = some q) (h0 : q.1 = 0 → o_At p l e rm_Lk_decode s m args below meth c Q o_cls D A 6 21 [] (o_cw ad ca u21_rt u21_Sj u21_T0 u21_T1 u21_Rd u21_Pg u21_Pt u21_Mk q.2.2 u21_Ck u21_Jd u21_Ld u21_Pr) [(0, .ref (ad 43)), (1, .int u21_x1), (2, .int u21_x2), (3, .int q.2.1)]) (h1 : q.1 ≠ 0 → (if q.1 = 1 then o_At p l e rm_Lk_decode s m args below meth c Q o_cls D A 6 89 [] (o_cw ad ca u21_rt u21_Sj u21_T0 u21_T1 u21_Rd u21_Pg u21_Pt u21_Mk q.2.2 u21_Ck u21_Jd u21_Ld u21_Pr) [] else o_At p l e rm_Lk_decode s m args below meth c Q o_cls D A 6 138 [] (o_cw ad ca u21_rt u21_Sj u21_T0 u21_T1 u21_Rd u21_Pg u21_Pt u21_Mk q.2.2 u21_Ck u21_Jd u21_Ld u21_Pr) [])) : o_At p l e rm_Lk_decode s m args below meth c Q o_cls D A 6 21 [] (o_cw ad ca u21_rt u21_Sj u21_T0 u21_T1 u21_Rd u21_Pg u21_Pt u21_Mk z.2 u21_Ck u21_Jd u21_Ld u21_Pr) [(0, .ref (ad 43)), (1, .int u21_x1), (2, .int u21_x2), (3, .int z.1)] := by
  unfold m_Lk_decode_b21 at h
  intro H locs ls hP hS hl
  have C0 := C
  obtain ⟨hx, hb, -, -, -, hown, hts, hK, -, -⟩ := C0
  refine lv_iload_n hx hb d_Lk_decode_21 rfl (lv_at hl 3 rfl) ?_
  refine lv_iload_n hx hb d_Lk_decode_22 rfl (lv_at hl 2 rfl) ?_
  refine lv_icmp_ge (tgt := 138) hx hb d_Lk_decode_23 (by decide) (fun c1 => ?_) (fun c1 => ?_)
  · replace h := o_tt c1 h
    cases h
    exact h1 (Nat.succ_ne_zero 1) _ _ _ hP hS (lv_sub hl [] rfl)
  · replace h := o_ff c1 h
    refine lv_aload_n hx hb d_Lk_decode_26 rfl (lv_at hl 0 rfl) ?_
    refine o_get (v := .int (Lk_position z.2)) C in_Lk hP 43 cw_43 rfl 4 (by decide) k_1_235 rfl rfl d_Lk_decode_27 ?_
    refine lv_iload_n hx hb d_Lk_decode_30 rfl (lv_at hl 2 rfl) ?_
    refine lv_icmp_ge (tgt := 138) hx hb d_Lk_decode_31 (by decide) (fun c2 => ?_) (fun c2 => ?_)
    · replace h := o_tt c2 h
      cases h
      exact h1 (Nat.succ_ne_zero 1) _ _ _ hP hS (lv_sub hl [] rfl)
    · replace h := o_ff c2 h
      refine lv_aload_n hx hb d_Lk_decode_34 rfl (lv_at hl 0 rfl) ?_
      refine o_get (v := .int (Lk_length z.2)) C in_Lk hP 43 cw_43 rfl 3 (by decide) k_1_234 rfl rfl d_Lk_decode_35 ?_
      refine lv_aload_n hx hb d_Lk_decode_38 rfl (lv_at hl 0 rfl) ?_
      refine o_get (v := .ref (ad 44)) C in_Lk hP 43 cw_43 rfl 2 (by decide) k_1_233 rfl rfl d_Lk_decode_39 ?_
      refine va_alen (v := (4000:Int32)) hx hb hK hP 44 36 cw_44 rfl rfl d_Lk_decode_42 ?_
      refine lv_icmp_ge (tgt := 138) hx hb d_Lk_decode_43 (by decide) (fun c3 => ?_) (fun c3 => ?_)
      · replace h := o_tt c3 h
        cases h
        exact h1 (Nat.succ_ne_zero 1) _ _ _ hP hS (lv_sub hl [] rfl)
      · replace h := o_ff c3 h
        refine lv_aload_n hx hb d_Lk_decode_46 rfl (lv_at hl 0 rfl) ?_
        refine lv_iload_n hx hb d_Lk_decode_47 rfl (lv_at hl 1 rfl) ?_
        obtain ⟨q2, hq2, h⟩ := o_bd_some h
        refine o_V (st1 := [.int q2]) (w1 := (o_cw ad ca u21_rt u21_Sj u21_T0 u21_T1 u21_Rd u21_Pg u21_Pt u21_Mk z.2 u21_Ck u21_Jd u21_Ld u21_Pr)) hE.1 C (c_Lk_octetAt hE l u21_x1 u21_T0 z.2 u21_Sj u21_T1 u21_Rd u21_Pg u21_Pt u21_Mk u21_Ck u21_Jd u21_Ld u21_Pr u21_rt hq2) hP (hDD _ _ _ _ _ _ _ _ _ _ _ _ _) hS hl.1 rfl cw_43 k_5_150 k_5_152 k_s_48 k_1_8 k_5_153 hv_Lk_octetAt rfl rfl ⟨Nat.le_of_ble_eq_true rfl, Nat.le_of_ble_eq_true rfl⟩ rfl (Nat.le_of_ble_eq_true rfl) ⟨Nat.le_of_ble_eq_true rfl, Nat.le_of_ble_eq_true rfl⟩ rfl d_Lk_decode_48 (fun H locs hP hS => ?_)
        refine lv_istore (lv' := [(4, .int q2), (0, .ref (ad 43)), (1, .int u21_x1), (2, .int u21_x2), (3, .int z.1)]) hx hb d_Lk_decode_51 hl (by decide) rfl (fun ls hl => ?_)
        refine lv_iload hx hb d_Lk_decode_53 (lv_at hl 0 rfl) ?_
        refine lv_iconst (v := (-1:Int32)) hx hb d_Lk_decode_55 (by decide) ?_
        refine lv_icmp_ne (tgt := 74) hx hb d_Lk_decode_56 (by decide) (fun c4 => ?_) (fun c4 => ?_)
        · replace h := o_ff c4 h
          refine lv_aload_n hx hb d_Lk_decode_74 rfl (lv_at hl 1 rfl) ?_
          refine lv_iload_n hx hb d_Lk_decode_75 rfl (lv_at hl 2 rfl) ?_
          refine lv_iload hx hb d_Lk_decode_76 (lv_at hl 0 rfl) ?_
          obtain ⟨q3, hq3, h⟩ := o_bd_some h
          refine o_V (st1 := [.int q3.1]) (w1 := (o_cw ad ca u21_rt u21_Sj u21_T0 u21_T1 u21_Rd u21_Pg u21_Pt u21_Mk q3.2 u21_Ck u21_Jd u21_Ld u21_Pr)) hE.1 C (c_Lk_decodeOctets hE l n u21_x1 q2 u21_T0 z.2 u21_Sj u21_T1 u21_Rd u21_Pg u21_Pt u21_Mk u21_Ck u21_Jd u21_Ld u21_Pr u21_rt hq3) hP (hDD _ _ _ _ _ _ _ _ _ _ _ _ _) hS hl.1 rfl cw_43 k_5_156 k_5_158 k_s_49 k_1_8 k_5_159 hv_Lk_decodeOctets rfl rfl ⟨Nat.le_of_ble_eq_true rfl, Nat.le_of_ble_eq_true rfl⟩ rfl (Nat.le_of_ble_eq_true rfl) ⟨Nat.le_of_ble_eq_true rfl, Nat.le_of_ble_eq_true rfl⟩ rfl d_Lk_decode_78 (fun H locs hP hS => ?_)
          exact w_Lk_decode_j81 hE C hDD n u21_x1 u21_x2 u21_T0 u21_Sj u21_T1 u21_Rd u21_Pg u21_Pt u21_Mk u21_Ck u21_Jd u21_Ld u21_Pr u21_rt z.1 q2 q3.1 q3.2 h h0 h1 _ _ _ hP hS (lv_sub hl [1, 2, 3, 4, 0] rfl)
        · replace h := o_tt c4 h
          refine lv_aload_n hx hb d_Lk_decode_59 rfl (lv_at hl 1 rfl) ?_
          refine o_get (v := .ref (ad 1)) C in_Lk hP 43 cw_43 rfl 0 (by decide) k_1_231 rfl rfl d_Lk_decode_60 ?_
          refine lv_iload_n hx hb d_Lk_decode_63 rfl (lv_at hl 2 rfl) ?_
          refine lv_aload_n hx hb d_Lk_decode_64 rfl (lv_at hl 1 rfl) ?_
          refine o_get (v := .int (Lk_position z.2)) C in_Lk hP 43 cw_43 rfl 4 (by decide) k_1_235 rfl rfl d_Lk_decode_65 ?_
          obtain ⟨q4, hq4, h⟩ := o_bd_some h
          refine o_V (st1 := [.int q4]) (w1 := (o_cw ad ca u21_rt u21_Sj u21_T0 u21_T1 u21_Rd u21_Pg u21_Pt u21_Mk z.2 u21_Ck u21_Jd u21_Ld u21_Pr)) hE.1 C (c_Tx_cell_0 hE l u21_x1 (Lk_position z.2) u21_T0 u21_Sj u21_T1 u21_Rd u21_Pg u21_Pt u21_Mk z.2 u21_Ck u21_Jd u21_Ld u21_Pr u21_rt hq4) hP (hDD _ _ _ _ _ _ _ _ _ _ _ _ _) hS hl.1 rfl cw_1 k_5_154 k_4_117 k_4_118 k_1_2 k_4_119 hv_Tx_cell rfl rfl ⟨Nat.le_of_ble_eq_true rfl, Nat.le_of_ble_eq_true rfl⟩ rfl (Nat.le_of_ble_eq_true rfl) ⟨Nat.le_of_ble_eq_true rfl, Nat.le_of_ble_eq_true rfl⟩ rfl d_Lk_decode_68 (fun H locs hP hS => ?_)
          refine lv_goto (tgt := 81) hx hb d_Lk_decode_71 (by decide) ?_
          exact w_Lk_decode_j81 hE C hDD n u21_x1 u21_x2 u21_T0 u21_Sj u21_T1 u21_Rd u21_Pg u21_Pt u21_Mk u21_Ck u21_Jd u21_Ld u21_Pr u21_rt z.1 q2 q4 z.2 h h0 h1 _ _ _ hP hS (lv_sub hl [1, 2, 3, 4, 0] rfl)
set_option maxHeartbeats 4000000 in
set_option maxRecDepth 100000 in
theorem c_Lk_decode {E : (Nat → Prop) → State → Heap → Prop} {D : va_G} {ad kd sd : Nat → Nat} {ca : Nat → ClassId} (hE : o_EK E kd sd) (l : Launch) (n : Nat) (x1 : Int32) (T0 : STx) (Lk : SLk) (Sj : SSJ) (T1 : STx) (Rd : SRd) (Pg : SPg) (Pt : SPt) (Mk : SMk) (Ck : SCk) (Jd : SJd) (Ld : SLd) (Pr : SPr) (rt : Nat) {r : Int32 × SLk} (h : m_Lk_decode n x1 T0 Lk = some r) : o_Cn E l D o_cls (o_tys ca) y_Lk_decode cc_Lk_decode rm_Lk_decode [.ref (ad 43), .int x1] (o_cw ad ca rt Sj T0 T1 Rd Pg Pt Mk Lk Ck Jd Ld Pr) (o_cw ad ca rt Sj T0 T1 Rd Pg Pt Mk r.2 Ck Jd Ld Pr) (some (.int r.1)) := by
  refine o_Cn_of (by decide) (Nat.le_of_ble_eq_true rfl) ?_
  intro p e s m below meth c A ls C hD hP hS hl
  have hDD : ∀ (rt : Nat) (Sj : SSJ) (T0 : STx) (T1 : STx) (Rd : SRd) (Pg : SPg) (Pt : SPt) (Mk : SMk) (Lk : SLk) (Ck : SCk) (Jd : SJd) (Ld : SLd) (Pr : SPr), va_D A (o_cw ad ca rt Sj T0 T1 Rd Pg Pt Mk Lk Ck Jd Ld Pr) := fun _ _ _ _ _ _ _ _ _ _ _ _ _ => o_D_map hD rfl
  have hl : lv_has ls 6 [(0, .ref (ad 43)), (1, .int x1)] := hl
  unfold m_Lk_decode at h
  have C0 := C
  obtain ⟨hx, hb, -, -, -, hown, hts, hK, -, -⟩ := C0
  refine lv_aload_n hx hb d_Lk_decode_0 rfl (lv_at hl 0 rfl) ?_
  refine o_get (v := .ref (ad 1)) C in_Lk hP 43 cw_43 rfl 0 (by decide) k_1_231 rfl rfl d_Lk_decode_1 ?_
  refine lv_iload_n hx hb d_Lk_decode_4 rfl (lv_at hl 1 rfl) ?_
  obtain ⟨q1, hq1, h⟩ := o_bd_some h
  refine o_V (st1 := [.int q1]) (w1 := (o_cw ad ca rt Sj T0 T1 Rd Pg Pt Mk Lk Ck Jd Ld Pr)) hE.1 C (c_Tx_size_0 hE l x1 T0 Sj T1 Rd Pg Pt Mk Lk Ck Jd Ld Pr rt hq1) hP (hDD _ _ _ _ _ _ _ _ _ _ _ _ _) hS hl.1 rfl cw_1 k_5_149 k_3_215 k_3_216 k_1_2 k_3_217 hv_Tx_size rfl rfl ⟨Nat.le_of_ble_eq_true rfl, Nat.le_of_ble_eq_true rfl⟩ rfl (Nat.le_of_ble_eq_true rfl) ⟨Nat.le_of_ble_eq_true rfl, Nat.le_of_ble_eq_true rfl⟩ rfl d_Lk_decode_5 (fun H locs hP hS => ?_)
  refine lv_istore_n (lv' := [(2, .int q1), (0, .ref (ad 43)), (1, .int x1)]) hx hb d_Lk_decode_8 rfl hl (by decide) rfl (fun ls hl => ?_)
  refine lv_aload_n hx hb d_Lk_decode_9 rfl (lv_at hl 1 rfl) ?_
  refine lv_iconst (v := (0:Int32)) hx hb d_Lk_decode_10 (by decide) ?_
  refine o_put (v := .int (0:Int32)) (ty := .int) (w1 := (o_cw ad ca rt Sj T0 T1 Rd Pg Pt Mk (Lk_mk (Lk_characters Lk) (0:Int32) (Lk_position Lk)) Ck Jd Ld Pr)) C in_Lk t_Lk t_Lk_ok n_Lk hP (hDD _ _ _ _ _ _ _ _ _ _ _ _ _) hS 43 cw_43 rfl 3 (by decide) k_1_234 rfl rfl (by decide +kernel) rfl rfl (Nat.le_of_ble_eq_true rfl) rfl d_Lk_decode_11 (fun H locs hP hS => ?_)
  refine lv_aload_n hx hb d_Lk_decode_14 rfl (lv_at hl 1 rfl) ?_
  refine lv_iconst (v := (0:Int32)) hx hb d_Lk_decode_15 (by decide) ?_
  refine o_put (v := .int (0:Int32)) (ty := .int) (w1 := (o_cw ad ca rt Sj T0 T1 Rd Pg Pt Mk (Lk_mk (Lk_characters Lk) (0:Int32) (0:Int32)) Ck Jd Ld Pr)) C in_Lk t_Lk t_Lk_ok n_Lk hP (hDD _ _ _ _ _ _ _ _ _ _ _ _ _) hS 43 cw_43 rfl 4 (by decide) k_1_235 rfl rfl (by decide +kernel) rfl rfl (Nat.le_of_ble_eq_true rfl) rfl d_Lk_decode_16 (fun H locs hP hS => ?_)
  refine lv_iconst (v := (0:Int32)) hx hb d_Lk_decode_19 (by decide) ?_
  refine lv_istore_n (lv' := [(3, .int (0:Int32)), (2, .int q1), (0, .ref (ad 43)), (1, .int x1)]) hx hb d_Lk_decode_20 rfl hl (by decide) rfl (fun ls hl => ?_)
  obtain ⟨q5, hq5, h⟩ := o_bd_some h
  refine o_sim2 (AH := fun zz => o_At p l e rm_Lk_decode s m _ below meth c _ o_cls D A 6 21 [] (o_cw ad ca rt Sj T0 T1 Rd Pg Pt Mk zz.2 Ck Jd Ld Pr) [(0, .ref (ad 43)), (1, .int x1), (2, .int q1), (3, .int zz.1)]) (AX := fun qq => if qq.1 = 1 then o_At p l e rm_Lk_decode s m _ below meth c _ o_cls D A 6 89 [] (o_cw ad ca rt Sj T0 T1 Rd Pg Pt Mk qq.2.2 Ck Jd Ld Pr) [] else o_At p l e rm_Lk_decode s m _ below meth c _ o_cls D A 6 138 [] (o_cw ad ca rt Sj T0 T1 Rd Pg Pt Mk qq.2.2 Ck Jd Ld Pr) []) (fun zz qq h h0 h1 => w_Lk_decode_b21 hE C hDD n x1 q1 T0 Sj T1 Rd Pg Pt Mk Ck Jd Ld Pr rt zz qq h h0 h1) n _ q5 hq5 ?_ _ _ _ hP hS (lv_sub hl [2, 3, 1, 0] rfl)
  by_cases c8 : q5.1 = 1
  · replace h := o_tt c8 h
    refine o_ip c8 ?_
    intro H locs ls hP hS hl
    refine lv_iconst (v := (0:Int32)) hx hb d_Lk_decode_89 (by decide) ?_
    cases h
    exact o_rz (v := (0:Int32)) C o_nar0 hP hS d_Lk_decode_90
  replace h := o_ff c8 h
  refine o_in_ c8 ?_
  intro H locs ls hP hS hl
  refine lv_iconst (v := (1:Int32)) hx hb d_Lk_decode_138 (by decide) ?_
  cases h
  exact o_rz (v := (1:Int32)) C o_nar1 hP hS d_Lk_decode_139
