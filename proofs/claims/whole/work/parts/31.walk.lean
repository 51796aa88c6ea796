set_option maxHeartbeats 4000000 in
set_option maxRecDepth 100000 in
theorem w_Pg_insert_j78 {E : (Nat → Prop) → State → Heap → Prop} {p : Program} {l : Launch} {e : Env} {s : State} {m : MethodId} {args : Array Value} {below : List Frame} {meth : Method} {c : Code} {D : va_G} {ad kd sd vd xd : Nat → Nat} {ca : Nat → ClassId} {A : Nat → Prop} (hE : o_EK E kd sd vd xd) (C : o_Cx E p s m args meth c D o_cls (o_tys ca) "SchemaJudge$Program" b_Pg_insert none 4 cc_Pg_insert A) (hDD : ∀ (rt : Nat) (Sj : SSJ) (T0 : STx) (T1 : STx) (Rd : SRd) (Pg : SPg) (Pt : SPt) (Mk : SMk) (Lk : SLk) (Ck : SCk) (Jd : SJd) (Ld : SLd) (Pr : SPr), va_D A (o_cw ad ca rt Sj T0 T1 Rd Pg Pt Mk Lk Ck Jd Ld Pr))  (Pg : SPg) (Sj : SSJ) (T0 : STx) (T1 : STx) (Rd : SRd) (Pt : SPt) (Mk : SMk) (Lk : SLk) (Ck : SCk) (Jd : SJd) (Ld : SLd) (Pr : SPr) (rt : Nat) {r : SPg} (h : m_Pg_insert_j78 Pg = some r) : o_At p l e rm_Pg_insert s m args below meth c (MQ below (o_Qx D o_cls none (o_cw ad ca rt Sj T0 T1 Rd r Pt Mk Lk Ck Jd Ld Pr) A) args s 0 0 A) o_cls D A 4 78 [] (o_cw ad ca rt Sj T0 T1 Rd Pg Pt Mk Lk Ck Jd Ld Pr) [(0, .ref (ad 25))] := by
  unfold m_Pg_insert_j78 at h
  intro H locs ls hP hS hl
  have C0 := C
  obtain ⟨hx, hb, -, -, -, hown, hts, hK, -, -⟩ := C0
  refine lv_aload_n hx hb d_Pg_insert_78 rfl (lv_at hl 0 rfl) ?_
  refine lv_aload_n hx hb d_Pg_insert_79 rfl (lv_at hl 0 rfl) ?_
  refine o_get (v := .int (Pg_length Pg)) C in_Pg hP 25 cw_25 rfl 2 (by decide) k_1_121 rfl rfl d_Pg_insert_80 ?_
  refine lv_iconst (v := (1:Int32)) hx hb d_Pg_insert_83 (by decide) ?_
  refine lv_iadd hx hb d_Pg_insert_84 ?_
  refine lv_ldc (v := (1048576:Int32)) hx hb hown (hts _ k_5_5) d_Pg_insert_85 ?_
  refine va_mmin hx hb (C.2.2.2.2.1.trans hl.1.symm) hown (hts _ k_5_6) (hts _ k_4_114) (hts _ k_1_26) (hts _ k_4_115) (Nat.le_of_ble_eq_true rfl) (Nat.le_of_ble_eq_true rfl) (Nat.zero_le _) (Nat.zero_le _) d_Pg_insert_87 ?_
  refine o_put (v := .int (if (1048576:Int32) < ((Pg_length Pg) + (1:Int32)) then (1048576:Int32) else ((Pg_length Pg) + (1:Int32)))) (ty := .int) (w1 := (o_cw ad ca rt Sj T0 T1 Rd (Pg_mk (Pg_operations Pg) (Pg_arguments Pg) (if (1048576:Int32) < ((Pg_length Pg) + (1:Int32)) then (1048576:Int32) else ((Pg_length Pg) + (1:Int32))) (Pg_sets Pg) (Pg_setsUsed Pg) (Pg_rounds Pg) (Pg_stack Pg) (Pg_top Pg) (Pg_waiting Pg) (Pg_waitingCount Pg) (Pg_moved Pg)) Pt Mk Lk Ck Jd Ld Pr)) C in_Pg t_Pg t_Pg_ok n_Pg hP (hDD _ _ _ _ _ _ _ _ _ _ _ _ _) hS 25 cw_25 rfl 2 (by decide) k_1_121 rfl rfl (by decide +kernel) rfl rfl (Nat.le_of_ble_eq_true rfl) rfl d_Pg_insert_90 (fun H locs hP hS => ?_)
  cases h
  exact o_rv C hP hS d_Pg_insert_93
set_option maxHeartbeats 4000000 in
set_option maxRecDepth 100000 in
theorem c_Pg_insert {E : (Nat → Prop) → State → Heap → Prop} {D : va_G} {ad kd sd vd xd : Nat → Nat} {ca : Nat → ClassId} (hE : o_EK E kd sd vd xd) (l : Launch) (x1 : Int32) (x2 : Int32) (x3 : Int32) (Pg : SPg) (Sj : SSJ) (T0 : STx) (T1 : STx) (Rd : SRd) (Pt : SPt) (Mk : SMk) (Lk : SLk) (Ck : SCk) (Jd : SJd) (Ld : SLd) (Pr : SPr) (rt : Nat) {r : SPg} (h : m_Pg_insert x1 x2 x3 Pg = some r) : o_Cn E l D o_cls (o_tys ca) y_Pg_insert cc_Pg_insert rm_Pg_insert [.ref (ad 25), .int x1, .int x2, .int x3] (o_cw ad ca rt Sj T0 T1 Rd Pg Pt Mk Lk Ck Jd Ld Pr) (o_cw ad ca rt Sj T0 T1 Rd r Pt Mk Lk Ck Jd Ld Pr) none := by
  refine o_Cn_of (by decide) (Nat.le_of_ble_eq_true rfl) ?_
  intro p e s m below meth c A ls C hD hP hS hl
  have hDD : ∀ (rt : Nat) (Sj : SSJ) (T0 : STx) (T1 : STx) (Rd : SRd) (Pg : SPg) (Pt : SPt) (Mk : SMk) (Lk : SLk) (Ck : SCk) (Jd : SJd) (Ld : SLd) (Pr : SPr), va_D A (o_cw ad ca rt Sj T0 T1 Rd Pg Pt Mk Lk Ck Jd Ld Pr) := fun _ _ _ _ _ _ _ _ _ _ _ _ _ => o_D_map hD rfl
  have hl : lv_has ls 4 [(0, .ref (ad 25)), (1, .int x1), (2, .int x2), (3, .int x3)] := hl
  unfold m_Pg_insert at h
  have C0 := C
  obtain ⟨hx, hb, -, -, -, hown, hts, hK, -, -⟩ := C0
  refine lv_iload_n hx hb d_Pg_insert_0 rfl (lv_at hl 1 rfl) ?_
  refine lv_if_lt (tgt := 78) hx hb d_Pg_insert_1 (by decide) (fun c1 => ?_) (fun c1 => ?_)
  · replace h := o_tt c1 h
    exact w_Pg_insert_j78 hE C hDD Pg Sj T0 T1 Rd Pt Mk Lk Ck Jd Ld Pr rt h _ _ _ hP hS (lv_sub hl [0] rfl)
  · replace h := o_ff c1 h
    refine lv_iload_n hx hb d_Pg_insert_4 rfl (lv_at hl 1 rfl) ?_
    refine lv_aload_n hx hb d_Pg_insert_5 rfl (lv_at hl 0 rfl) ?_
    refine o_get (v := .int (Pg_length Pg)) C in_Pg hP 25 cw_25 rfl 2 (by decide) k_1_121 rfl rfl d_Pg_insert_6 ?_
    refine lv_icmp_gt (tgt := 78) hx hb d_Pg_insert_9 (by decide) (fun c2 => ?_) (fun c2 => ?_)
    · replace h := o_tt c2 h
      exact w_Pg_insert_j78 hE C hDD Pg Sj T0 T1 Rd Pt Mk Lk Ck Jd Ld Pr rt h _ _ _ hP hS (lv_sub hl [0] rfl)
    · replace h := o_ff c2 h
      refine lv_aload_n hx hb d_Pg_insert_12 rfl (lv_at hl 0 rfl) ?_
      refine o_get (v := .int (Pg_length Pg)) C in_Pg hP 25 cw_25 rfl 2 (by decide) k_1_121 rfl rfl d_Pg_insert_13 ?_
      refine lv_sipush (v := (1300:Int32)) hx hb d_Pg_insert_16 (by decide) ?_
      refine lv_icmp_ge (tgt := 78) hx hb d_Pg_insert_19 (by decide) (fun c3 => ?_) (fun c3 => ?_)
      · replace h := o_tt c3 h
        exact w_Pg_insert_j78 hE C hDD Pg Sj T0 T1 Rd Pt Mk Lk Ck Jd Ld Pr rt h _ _ _ hP hS (lv_sub hl [0] rfl)
      · replace h := o_ff c3 h
        refine lv_aload_n hx hb d_Pg_insert_22 rfl (lv_at hl 0 rfl) ?_
        refine o_get (v := .ref (ad 26)) C in_Pg hP 25 cw_25 rfl 0 (by decide) k_1_119 rfl rfl d_Pg_insert_23 ?_
        refine lv_iload_n hx hb d_Pg_insert_26 rfl (lv_at hl 1 rfl) ?_
        refine lv_aload_n hx hb d_Pg_insert_27 rfl (lv_at hl 0 rfl) ?_
        refine o_get (v := .ref (ad 26)) C in_Pg hP 25 cw_25 rfl 0 (by decide) k_1_119 rfl rfl d_Pg_insert_28 ?_
        refine lv_iload_n hx hb d_Pg_insert_31 rfl (lv_at hl 1 rfl) ?_
        refine lv_iconst (v := (1:Int32)) hx hb d_Pg_insert_32 (by decide) ?_
        refine lv_iadd hx hb d_Pg_insert_33 ?_
        refine lv_aload_n hx hb d_Pg_insert_34 rfl (lv_at hl 0 rfl) ?_
        refine o_get (v := .int (Pg_length Pg)) C in_Pg hP 25 cw_25 rfl 2 (by decide) k_1_121 rfl rfl d_Pg_insert_35 ?_
        refine lv_iload_n hx hb d_Pg_insert_38 rfl (lv_at hl 1 rfl) ?_
        refine lv_isub hx hb d_Pg_insert_39 ?_
        obtain ⟨g4, h⟩ := o_gd_some h
        refine o_cpi (f := (Pg_operations Pg)) (g := (Pg_operations Pg)) (w1 := (o_cw ad ca rt Sj T0 T1 Rd (Pg_mk (va_cpy (Pg_operations Pg) (Pg_operations Pg) x1.toNatClampNeg (x1 + (1:Int32)).toNatClampNeg ((Pg_length Pg) - x1).toNatClampNeg) (Pg_arguments Pg) (Pg_length Pg) (Pg_sets Pg) (Pg_setsUsed Pg) (Pg_rounds Pg) (Pg_stack Pg) (Pg_top Pg) (Pg_waiting Pg) (Pg_waitingCount Pg) (Pg_moved Pg)) Pt Mk Lk Ck Jd Ld Pr)) C hP (hDD _ _ _ _ _ _ _ _ _ _ _ _ _) hS hl.1 k_5_2 k_5_4 k_5_3 k_1_28 26 26 21 21 cw_26 cw_26 rfl rfl g4 rfl (Nat.le_of_ble_eq_true rfl) (Nat.le_of_ble_eq_true rfl) d_Pg_insert_40 (fun H locs hP hS => ?_)
        refine lv_aload_n hx hb d_Pg_insert_43 rfl (lv_at hl 0 rfl) ?_
        refine o_get (v := .ref (ad 27)) C in_Pg hP 25 cw_25 rfl 1 (by decide) k_1_120 rfl rfl d_Pg_insert_44 ?_
        refine lv_iload_n hx hb d_Pg_insert_47 rfl (lv_at hl 1 rfl) ?_
        refine lv_aload_n hx hb d_Pg_insert_48 rfl (lv_at hl 0 rfl) ?_
        refine o_get (v := .ref (ad 27)) C in_Pg hP 25 cw_25 rfl 1 (by decide) k_1_120 rfl rfl d_Pg_insert_49 ?_
        refine lv_iload_n hx hb d_Pg_insert_52 rfl (lv_at hl 1 rfl) ?_
        refine lv_iconst (v := (1:Int32)) hx hb d_Pg_insert_53 (by decide) ?_
        refine lv_iadd hx hb d_Pg_insert_54 ?_
        refine lv_aload_n hx hb d_Pg_insert_55 rfl (lv_at hl 0 rfl) ?_
        refine o_get (v := .int (Pg_length Pg)) C in_Pg hP 25 cw_25 rfl 2 (by decide) k_1_121 rfl rfl d_Pg_insert_56 ?_
        refine lv_iload_n hx hb d_Pg_insert_59 rfl (lv_at hl 1 rfl) ?_
        refine lv_isub hx hb d_Pg_insert_60 ?_
        obtain ⟨g5, h⟩ := o_gd_some h
        refine o_cpi (f := (Pg_arguments Pg)) (g := (Pg_arguments Pg)) (w1 := (o_cw ad ca rt Sj T0 T1 Rd (Pg_mk (va_cpy (Pg_operations Pg) (Pg_operations Pg) x1.toNatClampNeg (x1 + (1:Int32)).toNatClampNeg ((Pg_length Pg) - x1).toNatClampNeg) (va_cpy (Pg_arguments Pg) (Pg_arguments Pg) x1.toNatClampNeg (x1 + (1:Int32)).toNatClampNeg ((Pg_length Pg) - x1).toNatClampNeg) (Pg_length Pg) (Pg_sets Pg) (Pg_setsUsed Pg) (Pg_rounds Pg) (Pg_stack Pg) (Pg_top Pg) (Pg_waiting Pg) (Pg_waitingCount Pg) (Pg_moved Pg)) Pt Mk Lk Ck Jd Ld Pr)) C hP (hDD _ _ _ _ _ _ _ _ _ _ _ _ _) hS hl.1 k_5_2 k_5_4 k_5_3 k_1_28 27 27 22 22 cw_27 cw_27 rfl rfl g5 rfl (Nat.le_of_ble_eq_true rfl) (Nat.le_of_ble_eq_true rfl) d_Pg_insert_61 (fun H locs hP hS => ?_)
        refine lv_aload_n hx hb d_Pg_insert_64 rfl (lv_at hl 0 rfl) ?_
        refine o_get (v := .ref (ad 26)) C in_Pg hP 25 cw_25 rfl 0 (by decide) k_1_119 rfl rfl d_Pg_insert_65 ?_
        refine lv_iload_n hx hb d_Pg_insert_68 rfl (lv_at hl 1 rfl) ?_
        refine lv_iload_n hx hb d_Pg_insert_69 rfl (lv_at hl 2 rfl) ?_
        obtain ⟨g6, h⟩ := o_gd_some h
        refine o_iast (f := (va_cpy (Pg_operations Pg) (Pg_operations Pg) x1.toNatClampNeg (x1 + (1:Int32)).toNatClampNeg ((Pg_length Pg) - x1).toNatClampNeg)) (w1 := (o_cw ad ca rt Sj T0 T1 Rd (Pg_mk (upd (va_cpy (Pg_operations Pg) (Pg_operations Pg) x1.toNatClampNeg (x1 + (1:Int32)).toNatClampNeg ((Pg_length Pg) - x1).toNatClampNeg) x1.toNatClampNeg x2) (va_cpy (Pg_arguments Pg) (Pg_arguments Pg) x1.toNatClampNeg (x1 + (1:Int32)).toNatClampNeg ((Pg_length Pg) - x1).toNatClampNeg) (Pg_length Pg) (Pg_sets Pg) (Pg_setsUsed Pg) (Pg_rounds Pg) (Pg_stack Pg) (Pg_top Pg) (Pg_waiting Pg) (Pg_waitingCount Pg) (Pg_moved Pg)) Pt Mk Lk Ck Jd Ld Pr)) C hP (hDD _ _ _ _ _ _ _ _ _ _ _ _ _) hS 26 21 cw_26 rfl g6 rfl d_Pg_insert_70 (fun H locs hP hS => ?_)
        refine lv_aload_n hx hb d_Pg_insert_71 rfl (lv_at hl 0 rfl) ?_
        refine o_get (v := .ref (ad 27)) C in_Pg hP 25 cw_25 rfl 1 (by decide) k_1_120 rfl rfl d_Pg_insert_72 ?_
        refine lv_iload_n hx hb d_Pg_insert_75 rfl (lv_at hl 1 rfl) ?_
        refine lv_iload_n hx hb d_Pg_insert_76 rfl (lv_at hl 3 rfl) ?_
        obtain ⟨g7, h⟩ := o_gd_some h
        refine o_iast (f := (va_cpy (Pg_arguments Pg) (Pg_arguments Pg) x1.toNatClampNeg (x1 + (1:Int32)).toNatClampNeg ((Pg_length Pg) - x1).toNatClampNeg)) (w1 := (o_cw ad ca rt Sj T0 T1 Rd (Pg_mk (upd (va_cpy (Pg_operations Pg) (Pg_operations Pg) x1.toNatClampNeg (x1 + (1:Int32)).toNatClampNeg ((Pg_length Pg) - x1).toNatClampNeg) x1.toNatClampNeg x2) (upd (va_cpy (Pg_arguments Pg) (Pg_arguments Pg) x1.toNatClampNeg (x1 + (1:Int32)).toNatClampNeg ((Pg_length Pg) - x1).toNatClampNeg) x1.toNatClampNeg x3) (Pg_length Pg) (Pg_sets Pg) (Pg_setsUsed Pg) (Pg_rounds Pg) (Pg_stack Pg) (Pg_top Pg) (Pg_waiting Pg) (Pg_waitingCount Pg) (Pg_moved Pg)) Pt Mk Lk Ck Jd Ld Pr)) C hP (hDD _ _ _ _ _ _ _ _ _ _ _ _ _) hS 27 22 cw_27 rfl g7 rfl d_Pg_insert_77 (fun H locs hP hS => ?_)
        exact w_Pg_insert_j78 hE C hDD (Pg_mk (upd (va_cpy (Pg_operations Pg) (Pg_operations Pg) x1.toNatClampNeg (x1 + (1:Int32)).toNatClampNeg ((Pg_length Pg) - x1).toNatClampNeg) x1.toNatClampNeg x2) (upd (va_cpy (Pg_arguments Pg) (Pg_arguments Pg) x1.toNatClampNeg (x1 + (1:Int32)).toNatClampNeg ((Pg_length Pg) - x1).toNatClampNeg) x1.toNatClampNeg x3) (Pg_length Pg) (Pg_sets Pg) (Pg_setsUsed Pg) (Pg_rounds Pg) (Pg_stack Pg) (Pg_top Pg) (Pg_waiting Pg) (Pg_waitingCount Pg) (Pg_moved Pg)) Sj T0 T1 Rd Pt Mk Lk Ck Jd Ld Pr rt h _ _ _ hP hS (lv_sub hl [0] rfl)
set_option maxHeartbeats 4000000 in
set_option maxRecDepth 100000 in
theorem w_Pg_emit_j30 {E : (Nat → Prop) → State → Heap → Prop} {p : Program} {l : Launch} {e : Env} {s : State} {m : MethodId} {args : Array Value} {below : List Frame} {meth : Method} {c : Code} {D : va_G} {ad kd sd vd xd : Nat → Nat} {ca : Nat → ClassId} {A : Nat → Prop} (hE : o_EK E kd sd vd xd) (C : o_Cx E p s m args meth c D o_cls (o_tys ca) "SchemaJudge$Program" b_Pg_emit none 3 cc_Pg_emit A) (hDD : ∀ (rt : Nat) (Sj : SSJ) (T0 : STx) (T1 : STx) (Rd : SRd) (Pg : SPg) (Pt : SPt) (Mk : SMk) (Lk : SLk) (Ck : SCk) (Jd : SJd) (Ld : SLd) (Pr : SPr), va_D A (o_cw ad ca rt Sj T0 T1 Rd Pg Pt Mk Lk Ck Jd Ld Pr))  (Pg : SPg) (Sj : SSJ) (T0 : STx) (T1 : STx) (Rd : SRd) (Pt : SPt) (Mk : SMk) (Lk : SLk) (Ck : SCk) (Jd : SJd) (Ld : SLd) (Pr : SPr) (rt : Nat) {r : SPg} (h : m_Pg_emit_j30 Pg = some r) : o_At p l e rm_Pg_emit s m args below meth c (MQ below (o_Qx D o_cls none (o_cw ad ca rt Sj T0 T1 Rd r Pt Mk Lk Ck Jd Ld Pr) A) args s 0 0 A) o_cls D A 3 30 [] (o_cw ad ca rt Sj T0 T1 Rd Pg Pt Mk Lk Ck Jd Ld Pr) [(0, .ref (ad 25))] := by
  unfold m_Pg_emit_j30 at h
  intro H locs ls hP hS hl
  have C0 := C
  obtain ⟨hx, hb, -, -, -, hown, hts, hK, -, -⟩ := C0
  refine lv_aload_n hx hb d_Pg_emit_30 rfl (lv_at hl 0 rfl) ?_
  refine lv_aload_n hx hb d_Pg_emit_31 rfl (lv_at hl 0 rfl) ?_
  refine o_get (v := .int (Pg_length Pg)) C in_Pg hP 25 cw_25 rfl 2 (by decide) k_1_121 rfl rfl d_Pg_emit_32 ?_
  refine lv_iconst (v := (1:Int32)) hx hb d_Pg_emit_35 (by decide) ?_
  refine lv_iadd hx hb d_Pg_emit_36 ?_
  refine lv_ldc (v := (1048576:Int32)) hx hb hown (hts _ k_5_5) d_Pg_emit_37 ?_
  refine va_mmin hx hb (C.2.2.2.2.1.trans hl.1.symm) hown (hts _ k_5_6) (hts _ k_4_114) (hts _ k_1_26) (hts _ k_4_115) (Nat.le_of_ble_eq_true rfl) (Nat.le_of_ble_eq_true rfl) (Nat.zero_le _) (Nat.zero_le _) d_Pg_emit_39 ?_
  refine o_put (v := .int (if (1048576:Int32) < ((Pg_length Pg) + (1:Int32)) then (1048576:Int32) else ((Pg_length Pg) + (1:Int32)))) (ty := .int) (w1 := (o_cw ad ca rt Sj T0 T1 Rd (Pg_mk (Pg_operations Pg) (Pg_arguments Pg) (if (1048576:Int32) < ((Pg_length Pg) + (1:Int32)) then (1048576:Int32) else ((Pg_length Pg) + (1:Int32))) (Pg_sets Pg) (Pg_setsUsed Pg) (Pg_rounds Pg) (Pg_stack Pg) (Pg_top Pg) (Pg_waiting Pg) (Pg_waitingCount Pg) (Pg_moved Pg)) Pt Mk Lk Ck Jd Ld Pr)) C in_Pg t_Pg t_Pg_ok n_Pg hP (hDD _ _ _ _ _ _ _ _ _ _ _ _ _) hS 25 cw_25 rfl 2 (by decide) k_1_121 rfl rfl (by decide +kernel) rfl rfl (Nat.le_of_ble_eq_true rfl) rfl d_Pg_emit_42 (fun H locs hP hS => ?_)
  cases h
  exact o_rv C hP hS d_Pg_emit_45
set_option maxHeartbeats 4000000 in
set_option maxRecDepth 100000 in
theorem c_Pg_emit {E : (Nat → Prop) → State → Heap → Prop} {D : va_G} {ad kd sd vd xd : Nat → Nat} {ca : Nat → ClassId} (hE : o_EK E kd sd vd xd) (l : Launch) (x1 : Int32) (x2 : Int32) (Pg : SPg) (Sj : SSJ) (T0 : STx) (T1 : STx) (Rd : SRd) (Pt : SPt) (Mk : SMk) (Lk : SLk) (Ck : SCk) (Jd : SJd) (Ld : SLd) (Pr : SPr) (rt : Nat) {r : SPg} (h : m_Pg_emit x1 x2 Pg = some r) : o_Cn E l D o_cls (o_tys ca) y_Pg_emit cc_Pg_emit rm_Pg_emit [.ref (ad 25), .int x1, .int x2] (o_cw ad ca rt Sj T0 T1 Rd Pg Pt Mk Lk Ck Jd Ld Pr) (o_cw ad ca rt Sj T0 T1 Rd r Pt Mk Lk Ck Jd Ld Pr) none := by
  refine o_Cn_of (by decide) (Nat.le_of_ble_eq_true rfl) ?_
  intro p e s m below meth c A ls C hD hP hS hl
  have hDD : ∀ (rt : Nat) (Sj : SSJ) (T0 : STx) (T1 : STx) (Rd : SRd) (Pg : SPg) (Pt : SPt) (Mk : SMk) (Lk : SLk) (Ck : SCk) (Jd : SJd) (Ld : SLd) (Pr : SPr), va_D A (o_cw ad ca rt Sj T0 T1 Rd Pg Pt Mk Lk Ck Jd Ld Pr) := fun _ _ _ _ _ _ _ _ _ _ _ _ _ => o_D_map hD rfl
  have hl : lv_has ls 3 [(0, .ref (ad 25)), (1, .int x1), (2, .int x2)] := hl
  unfold m_Pg_emit at h
  have C0 := C
  obtain ⟨hx, hb, -, -, -, hown, hts, hK, -, -⟩ := C0
  refine lv_aload_n hx hb d_Pg_emit_0 rfl (lv_at hl 0 rfl) ?_
  refine o_get (v := .int (Pg_length Pg)) C in_Pg hP 25 cw_25 rfl 2 (by decide) k_1_121 rfl rfl d_Pg_emit_1 ?_
  refine lv_sipush (v := (1300:Int32)) hx hb d_Pg_emit_4 (by decide) ?_
  refine lv_icmp_ge (tgt := 30) hx hb d_Pg_emit_7 (by decide) (fun c1 => ?_) (fun c1 => ?_)
  · replace h := o_tt c1 h
    exact w_Pg_emit_j30 hE C hDD Pg Sj T0 T1 Rd Pt Mk Lk Ck Jd Ld Pr rt h _ _ _ hP hS (lv_sub hl [0] rfl)
  · replace h := o_ff c1 h
    refine lv_aload_n hx hb d_Pg_emit_10 rfl (lv_at hl 0 rfl) ?_
    refine o_get (v := .ref (ad 26)) C in_Pg hP 25 cw_25 rfl 0 (by decide) k_1_119 rfl rfl d_Pg_emit_11 ?_
    refine lv_aload_n hx hb d_Pg_emit_14 rfl (lv_at hl 0 rfl) ?_
    refine o_get (v := .int (Pg_length Pg)) C in_Pg hP 25 cw_25 rfl 2 (by decide) k_1_121 rfl rfl d_Pg_emit_15 ?_
    refine lv_iload_n hx hb d_Pg_emit_18 rfl (lv_at hl 1 rfl) ?_
    obtain ⟨g2, h⟩ := o_gd_some h
    refine o_iast (f := (Pg_operations Pg)) (w1 := (o_cw ad ca rt Sj T0 T1 Rd (Pg_mk (upd (Pg_operations Pg) (Pg_length Pg).toNatClampNeg x1) (Pg_arguments Pg) (Pg_length Pg) (Pg_sets Pg) (Pg_setsUsed Pg) (Pg_rounds Pg) (Pg_stack Pg) (Pg_top Pg) (Pg_waiting Pg) (Pg_waitingCount Pg) (Pg_moved Pg)) Pt Mk Lk Ck Jd Ld Pr)) C hP (hDD _ _ _ _ _ _ _ _ _ _ _ _ _) hS 26 21 cw_26 rfl g2 rfl d_Pg_emit_19 (fun H locs hP hS => ?_)
    refine lv_aload_n hx hb d_Pg_emit_20 rfl (lv_at hl 0 rfl) ?_
    refine o_get (v := .ref (ad 27)) C in_Pg hP 25 cw_25 rfl 1 (by decide) k_1_120 rfl rfl d_Pg_emit_21 ?_
    refine lv_aload_n hx hb d_Pg_emit_24 rfl (lv_at hl 0 rfl) ?_
    refine o_get (v := .int (Pg_length Pg)) C in_Pg hP 25 cw_25 rfl 2 (by decide) k_1_121 rfl rfl d_Pg_emit_25 ?_
    refine lv_iload_n hx hb d_Pg_emit_28 rfl (lv_at hl 2 rfl) ?_
    obtain ⟨g3, h⟩ := o_gd_some h
    refine o_iast (f := (Pg_arguments Pg)) (w1 := (o_cw ad ca rt Sj T0 T1 Rd (Pg_mk (upd (Pg_operations Pg) (Pg_length Pg).toNatClampNeg x1) (upd (Pg_arguments Pg) (Pg_length Pg).toNatClampNeg x2) (Pg_length Pg) (Pg_sets Pg) (Pg_setsUsed Pg) (Pg_rounds Pg) (Pg_stack Pg) (Pg_top Pg) (Pg_waiting Pg) (Pg_waitingCount Pg) (Pg_moved Pg)) Pt Mk Lk Ck Jd Ld Pr)) C hP (hDD _ _ _ _ _ _ _ _ _ _ _ _ _) hS 27 22 cw_27 rfl g3 rfl d_Pg_emit_29 (fun H locs hP hS => ?_)
    exact w_Pg_emit_j30 hE C hDD (Pg_mk (upd (Pg_operations Pg) (Pg_length Pg).toNatClampNeg x1) (upd (Pg_arguments Pg) (Pg_length Pg).toNatClampNeg x2) (Pg_length Pg) (Pg_sets Pg) (Pg_setsUsed Pg) (Pg_rounds Pg) (Pg_stack Pg) (Pg_top Pg) (Pg_waiting Pg) (Pg_waitingCount Pg) (Pg_moved Pg)) Sj T0 T1 Rd Pt Mk Lk Ck Jd Ld Pr rt h _ _ _ hP hS (lv_sub hl [0] rfl)
set_option maxHeartbeats 4000000 in
set_option maxRecDepth 100000 in
theorem c_Pt_nextBranch {E : (Nat → Prop) → State → Heap → Prop} {D : va_G} {ad kd sd vd xd : Nat → Nat} {ca : Nat → ClassId} (hE : o_EK E kd sd vd xd) (l : Launch)  (Pg : SPg) (Pt : SPt) (Sj : SSJ) (T0 : STx) (T1 : STx) (Rd : SRd) (Mk : SMk) (Lk : SLk) (Ck : SCk) (Jd : SJd) (Ld : SLd) (Pr : SPr) (rt : Nat) {r : SPg × SPt} (h : m_Pt_nextBranch Pg Pt = some r) : o_Cn E l D o_cls (o_tys ca) y_Pt_nextBranch cc_Pt_nextBranch rm_Pt_nextBranch [.ref (ad 33)] (o_cw ad ca rt Sj T0 T1 Rd Pg Pt Mk Lk Ck Jd Ld Pr) (o_cw ad ca rt Sj T0 T1 Rd r.1 r.2 Mk Lk Ck Jd Ld Pr) none := by
  refine o_Cn_of (by decide) (Nat.le_of_ble_eq_true rfl) ?_
  intro p e s m below meth c A ls C hD hP hS hl
  have hDD : ∀ (rt : Nat) (Sj : SSJ) (T0 : STx) (T1 : STx) (Rd : SRd) (Pg : SPg) (Pt : SPt) (Mk : SMk) (Lk : SLk) (Ck : SCk) (Jd : SJd) (Ld : SLd) (Pr : SPr), va_D A (o_cw ad ca rt Sj T0 T1 Rd Pg Pt Mk Lk Ck Jd Ld Pr) := fun _ _ _ _ _ _ _ _ _ _ _ _ _ => o_D_map hD rfl
  have hl : lv_has ls 2 [(0, .ref (ad 33))] := hl
  unfold m_Pt_nextBranch at h
  have C0 := C
  obtain ⟨hx, hb, -, -, -, hown, hts, hK, -, -⟩ := C0
  refine lv_aload_n hx hb d_Pt_nextBranch_0 rfl (lv_at hl 0 rfl) ?_
  refine o_get (v := .ref (ad 36)) C in_Pt hP 33 cw_33 rfl 10 (by decide) k_1_170 rfl rfl d_Pt_nextBranch_1 ?_
  refine lv_aload_n hx hb d_Pt_nextBranch_4 rfl (lv_at hl 0 rfl) ?_
  refine o_get (v := .int (Pt_depth Pt)) C in_Pt hP 33 cw_33 rfl 8 (by decide) k_1_168 rfl rfl d_Pt_nextBranch_5 ?_
  obtain ⟨g1, h⟩ := o_gd_some h
  refine o_iald (f := (Pt_branchStarts Pt)) C hP 36 30 cw_36 rfl g1 d_Pt_nextBranch_8 ?_
  refine lv_topi (fun x1_9 ex1_9 => ?_)
  replace h := o_nm_at ex1_9 h
  refine lv_istore_n (lv' := [(1, .int x1_9), (0, .ref (ad 33))]) hx hb d_Pt_nextBranch_9 rfl hl (by decide) rfl (fun ls hl => ?_)
  refine lv_aload_n hx hb d_Pt_nextBranch_10 rfl (lv_at hl 1 rfl) ?_
  refine o_get (v := .ref (ad 25)) C in_Pt hP 33 cw_33 rfl 0 (by decide) k_1_160 rfl rfl d_Pt_nextBranch_11 ?_
  refine lv_iload_n hx hb d_Pt_nextBranch_14 rfl (lv_at hl 0 rfl) ?_
  refine lv_bipush (v := (6:Int32)) hx hb d_Pt_nextBranch_15 (by decide) ?_
  refine lv_aload_n hx hb d_Pt_nextBranch_17 rfl (lv_at hl 1 rfl) ?_
  refine o_get (v := .ref (ad 25)) C in_Pt hP 33 cw_33 rfl 0 (by decide) k_1_160 rfl rfl d_Pt_nextBranch_18 ?_
  refine o_get (v := .int (Pg_length Pg)) C in_Pg hP 25 cw_25 rfl 2 (by decide) k_1_122 rfl rfl d_Pt_nextBranch_21 ?_
  refine lv_iload_n hx hb d_Pt_nextBranch_24 rfl (lv_at hl 0 rfl) ?_
  refine lv_isub hx hb d_Pt_nextBranch_25 ?_
  refine lv_iconst (v := (2:Int32)) hx hb d_Pt_nextBranch_26 (by decide) ?_
  refine lv_iadd hx hb d_Pt_nextBranch_27 ?_
  obtain ⟨q1, hq1, h⟩ := o_bd_some h
  refine o_V (st1 := []) (w1 := (o_cw ad ca rt Sj T0 T1 Rd q1 Pt Mk Lk Ck Jd Ld Pr)) hE.1 C (c_Pg_insert hE l x1_9 (6:Int32) (((Pg_length Pg) - x1_9) + (2:Int32)) Pg Sj T0 T1 Rd Pt Mk Lk Ck Jd Ld Pr rt hq1) hP (hDD _ _ _ _ _ _ _ _ _ _ _ _ _) hS hl.1 rfl cw_25 k_4_238 k_4_239 k_5_0 k_1_4 k_5_1 hv_Pg_insert rfl rfl ⟨(Nat.le_of_ble_eq_true rfl), (Nat.le_of_ble_eq_true rfl)⟩ rfl (Nat.le_of_ble_eq_true rfl) ⟨Nat.zero_le _, Nat.zero_le _⟩ rfl d_Pt_nextBranch_28 (fun H locs hP hS => ?_)
  refine lv_aload_n hx hb d_Pt_nextBranch_31 rfl (lv_at hl 1 rfl) ?_
  refine o_get (v := .ref (ad 25)) C in_Pt hP 33 cw_33 rfl 0 (by decide) k_1_160 rfl rfl d_Pt_nextBranch_32 ?_
  refine lv_bipush (v := (7:Int32)) hx hb d_Pt_nextBranch_35 (by decide) ?_
  refine lv_aload_n hx hb d_Pt_nextBranch_37 rfl (lv_at hl 1 rfl) ?_
  refine o_get (v := .ref (ad 37)) C in_Pt hP 33 cw_33 rfl 11 (by decide) k_1_171 rfl rfl d_Pt_nextBranch_38 ?_
  refine lv_aload_n hx hb d_Pt_nextBranch_41 rfl (lv_at hl 1 rfl) ?_
  refine o_get (v := .int (Pt_depth Pt)) C in_Pt hP 33 cw_33 rfl 8 (by decide) k_1_168 rfl rfl d_Pt_nextBranch_42 ?_
  obtain ⟨g2, h⟩ := o_gd_some h
  refine o_iald (f := (Pt_jumps Pt)) C hP 37 31 cw_37 rfl g2 d_Pt_nextBranch_45 ?_
  obtain ⟨q2, hq2, h⟩ := o_bd_some h
  refine o_V (st1 := []) (w1 := (o_cw ad ca rt Sj T0 T1 Rd q2 Pt Mk Lk Ck Jd Ld Pr)) hE.1 C (c_Pg_emit hE l (7:Int32) ((Pt_jumps Pt) (Pt_depth Pt).toNatClampNeg) q1 Sj T0 T1 Rd Pt Mk Lk Ck Jd Ld Pr rt hq2) hP (hDD _ _ _ _ _ _ _ _ _ _ _ _ _) hS hl.1 rfl cw_25 k_5_7 k_5_8 k_5_9 k_1_4 k_5_10 hv_Pg_emit rfl rfl ⟨(Nat.le_of_ble_eq_true rfl), (Nat.le_of_ble_eq_true rfl)⟩ rfl (Nat.le_of_ble_eq_true rfl) ⟨Nat.zero_le _, Nat.zero_le _⟩ rfl d_Pt_nextBranch_46 (fun H locs hP hS => ?_)
  refine lv_aload_n hx hb d_Pt_nextBranch_49 rfl (lv_at hl 1 rfl) ?_
  refine o_get (v := .ref (ad 37)) C in_Pt hP 33 cw_33 rfl 11 (by decide) k_1_171 rfl rfl d_Pt_nextBranch_50 ?_
  refine lv_aload_n hx hb d_Pt_nextBranch_53 rfl (lv_at hl 1 rfl) ?_
  refine o_get (v := .int (Pt_depth Pt)) C in_Pt hP 33 cw_33 rfl 8 (by decide) k_1_168 rfl rfl d_Pt_nextBranch_54 ?_
  refine lv_aload_n hx hb d_Pt_nextBranch_57 rfl (lv_at hl 1 rfl) ?_
  refine o_get (v := .ref (ad 25)) C in_Pt hP 33 cw_33 rfl 0 (by decide) k_1_160 rfl rfl d_Pt_nextBranch_58 ?_
  refine o_get (v := .int (Pg_length q2)) C in_Pg hP 25 cw_25 rfl 2 (by decide) k_1_122 rfl rfl d_Pt_nextBranch_61 ?_
  refine lv_iconst (v := (1:Int32)) hx hb d_Pt_nextBranch_64 (by decide) ?_
  refine lv_isub hx hb d_Pt_nextBranch_65 ?_
  obtain ⟨g3, h⟩ := o_gd_some h
  refine o_iast (f := (Pt_jumps Pt)) (w1 := (o_cw ad ca rt Sj T0 T1 Rd q2 (Pt_mk (Pt_tokens Pt) (Pt_characterCount Pt) (Pt_tokenCount Pt) (Pt_position Pt) (Pt_total Pt) (Pt_least Pt) (Pt_most Pt) (Pt_depth Pt) (Pt_blockStarts Pt) (Pt_branchStarts Pt) (upd (Pt_jumps Pt) (Pt_depth Pt).toNatClampNeg ((Pg_length q2) - (1:Int32))) (Pt_sizesBefore Pt)) Mk Lk Ck Jd Ld Pr)) C hP (hDD _ _ _ _ _ _ _ _ _ _ _ _ _) hS 37 31 cw_37 rfl g3 rfl d_Pt_nextBranch_66 (fun H locs hP hS => ?_)
  refine lv_aload_n hx hb d_Pt_nextBranch_67 rfl (lv_at hl 1 rfl) ?_
  refine o_get (v := .ref (ad 36)) C in_Pt hP 33 cw_33 rfl 10 (by decide) k_1_170 rfl rfl d_Pt_nextBranch_68 ?_
  refine lv_aload_n hx hb d_Pt_nextBranch_71 rfl (lv_at hl 1 rfl) ?_
  refine o_get (v := .int (Pt_depth Pt)) C in_Pt hP 33 cw_33 rfl 8 (by decide) k_1_168 rfl rfl d_Pt_nextBranch_72 ?_
  refine lv_aload_n hx hb d_Pt_nextBranch_75 rfl (lv_at hl 1 rfl) ?_
  refine o_get (v := .ref (ad 25)) C in_Pt hP 33 cw_33 rfl 0 (by decide) k_1_160 rfl rfl d_Pt_nextBranch_76 ?_
  refine o_get (v := .int (Pg_length q2)) C in_Pg hP 25 cw_25 rfl 2 (by decide) k_1_122 rfl rfl d_Pt_nextBranch_79 ?_
  obtain ⟨g4, h⟩ := o_gd_some h
  refine o_iast (f := (Pt_branchStarts Pt)) (w1 := (o_cw ad ca rt Sj T0 T1 Rd q2 (Pt_mk (Pt_tokens Pt) (Pt_characterCount Pt) (Pt_tokenCount Pt) (Pt_position Pt) (Pt_total Pt) (Pt_least Pt) (Pt_most Pt) (Pt_depth Pt) (Pt_blockStarts Pt) (upd (Pt_branchStarts Pt) (Pt_depth Pt).toNatClampNeg (Pg_length q2)) (upd (Pt_jumps Pt) (Pt_depth Pt).toNatClampNeg ((Pg_length q2) - (1:Int32))) (Pt_sizesBefore Pt)) Mk Lk Ck Jd Ld Pr)) C hP (hDD _ _ _ _ _ _ _ _ _ _ _ _ _) hS 36 30 cw_36 rfl g4 rfl d_Pt_nextBranch_82 (fun H locs hP hS => ?_)
  refine lv_aload_n hx hb d_Pt_nextBranch_83 rfl (lv_at hl 1 rfl) ?_
  refine lv_dup hx hb d_Pt_nextBranch_84 rfl ?_
  refine o_get (v := .int (Pt_total Pt)) C in_Pt hP 33 cw_33 rfl 5 (by decide) k_1_165 rfl rfl d_Pt_nextBranch_85 ?_
  refine lv_iconst (v := (1:Int32)) hx hb d_Pt_nextBranch_88 (by decide) ?_
  refine lv_iadd hx hb d_Pt_nextBranch_89 ?_
  refine o_put (v := .int ((Pt_total Pt) + (1:Int32))) (ty := .int) (w1 := (o_cw ad ca rt Sj T0 T1 Rd q2 (Pt_mk (Pt_tokens Pt) (Pt_characterCount Pt) (Pt_tokenCount Pt) (Pt_position Pt) ((Pt_total Pt) + (1:Int32)) (Pt_least Pt) (Pt_most Pt) (Pt_depth Pt) (Pt_blockStarts Pt) (upd (Pt_branchStarts Pt) (Pt_depth Pt).toNatClampNeg (Pg_length q2)) (upd (Pt_jumps Pt) (Pt_depth Pt).toNatClampNeg ((Pg_length q2) - (1:Int32))) (Pt_sizesBefore Pt)) Mk Lk Ck Jd Ld Pr)) C in_Pt t_Pt t_Pt_ok n_Pt hP (hDD _ _ _ _ _ _ _ _ _ _ _ _ _) hS 33 cw_33 rfl 5 (by decide) k_1_165 rfl rfl (by decide +kernel) rfl rfl (Nat.le_of_ble_eq_true rfl) rfl d_Pt_nextBranch_90 (fun H locs hP hS => ?_)
  cases h
  exact o_rv C hP hS d_Pt_nextBranch_93
set_option maxHeartbeats 4000000 in
set_option maxRecDepth 100000 in
theorem c_Pg_beginSet {E : (Nat → Prop) → State → Heap → Prop} {D : va_G} {ad kd sd vd xd : Nat → Nat} {ca : Nat → ClassId} (hE : o_EK E kd sd vd xd) (l : Launch)  (Pg : SPg) (Sj : SSJ) (T0 : STx) (T1 : STx) (Rd : SRd) (Pt : SPt) (Mk : SMk) (Lk : SLk) (Ck : SCk) (Jd : SJd) (Ld : SLd) (Pr : SPr) (rt : Nat) {r : Int32 × SPg} (h : m_Pg_beginSet Pg = some r) : o_Cn E l D o_cls (o_tys ca) y_Pg_beginSet cc_Pg_beginSet rm_Pg_beginSet [.ref (ad 25)] (o_cw ad ca rt Sj T0 T1 Rd Pg Pt Mk Lk Ck Jd Ld Pr) (o_cw ad ca rt Sj T0 T1 Rd r.2 Pt Mk Lk Ck Jd Ld Pr) (some (.int r.1)) := by
  refine o_Cn_of (by decide) (Nat.le_of_ble_eq_true rfl) ?_
  intro p e s m below meth c A ls C hD hP hS hl
  have hDD : ∀ (rt : Nat) (Sj : SSJ) (T0 : STx) (T1 : STx) (Rd : SRd) (Pg : SPg) (Pt : SPt) (Mk : SMk) (Lk : SLk) (Ck : SCk) (Jd : SJd) (Ld : SLd) (Pr : SPr), va_D A (o_cw ad ca rt Sj T0 T1 Rd Pg Pt Mk Lk Ck Jd Ld Pr) := fun _ _ _ _ _ _ _ _ _ _ _ _ _ => o_D_map hD rfl
  have hl : lv_has ls 2 [(0, .ref (ad 25))] := hl
  unfold m_Pg_beginSet at h
  have C0 := C
  obtain ⟨hx, hb, -, -, -, hown, hts, hK, -, -⟩ := C0
  refine lv_aload_n hx hb d_Pg_beginSet_0 rfl (lv_at hl 0 rfl) ?_
  refine o_get (v := .int (Pg_setsUsed Pg)) C in_Pg hP 25 cw_25 rfl 4 (by decide) k_1_124 rfl rfl d_Pg_beginSet_1 ?_
  refine lv_topi (fun x1_4 ex1_4 => ?_)
  replace h := o_nm_at ex1_4 h
  refine lv_istore_n (lv' := [(1, .int x1_4), (0, .ref (ad 25))]) hx hb d_Pg_beginSet_4 rfl hl (by decide) rfl (fun ls hl => ?_)
  refine lv_aload_n hx hb d_Pg_beginSet_5 rfl (lv_at hl 1 rfl) ?_
  refine o_get (v := .int (Pg_setsUsed Pg)) C in_Pg hP 25 cw_25 rfl 4 (by decide) k_1_124 rfl rfl d_Pg_beginSet_6 ?_
  refine lv_iconst (v := (2:Int32)) hx hb d_Pg_beginSet_9 (by decide) ?_
  refine lv_iadd hx hb d_Pg_beginSet_10 ?_
  refine lv_aload_n hx hb d_Pg_beginSet_11 rfl (lv_at hl 1 rfl) ?_
  refine o_get (v := .ref (ad 28)) C in_Pg hP 25 cw_25 rfl 3 (by decide) k_1_123 rfl rfl d_Pg_beginSet_12 ?_
  refine va_alen (v := (8000:Int32)) hx hb hK hP 28 23 cw_28 rfl rfl d_Pg_beginSet_15 ?_
  refine lv_icmp_gt (tgt := 45) hx hb d_Pg_beginSet_16 (by decide) (fun c1 => ?_) (fun c1 => ?_)
  · replace h := o_tt c1 h
    refine lv_iload_n hx hb d_Pg_beginSet_45 rfl (lv_at hl 0 rfl) ?_
    cases h
    exact o_ri C hP hS d_Pg_beginSet_46
  · replace h := o_ff c1 h
    refine lv_aload_n hx hb d_Pg_beginSet_19 rfl (lv_at hl 1 rfl) ?_
    refine o_get (v := .ref (ad 28)) C in_Pg hP 25 cw_25 rfl 3 (by decide) k_1_123 rfl rfl d_Pg_beginSet_20 ?_
    refine lv_iload_n hx hb d_Pg_beginSet_23 rfl (lv_at hl 0 rfl) ?_
    refine lv_iconst (v := (0:Int32)) hx hb d_Pg_beginSet_24 (by decide) ?_
    obtain ⟨g2, h⟩ := o_gd_some h
    refine o_iast (f := (Pg_sets Pg)) (w1 := (o_cw ad ca rt Sj T0 T1 Rd (Pg_mk (Pg_operations Pg) (Pg_arguments Pg) (Pg_length Pg) (upd (Pg_sets Pg) x1_4.toNatClampNeg (0:Int32)) (Pg_setsUsed Pg) (Pg_rounds Pg) (Pg_stack Pg) (Pg_top Pg) (Pg_waiting Pg) (Pg_waitingCount Pg) (Pg_moved Pg)) Pt Mk Lk Ck Jd Ld Pr)) C hP (hDD _ _ _ _ _ _ _ _ _ _ _ _ _) hS 28 23 cw_28 rfl g2 rfl d_Pg_beginSet_25 (fun H locs hP hS => ?_)
    refine lv_aload_n hx hb d_Pg_beginSet_26 rfl (lv_at hl 1 rfl) ?_
    refine o_get (v := .ref (ad 28)) C in_Pg hP 25 cw_25 rfl 3 (by decide) k_1_123 rfl rfl d_Pg_beginSet_27 ?_
    refine lv_iload_n hx hb d_Pg_beginSet_30 rfl (lv_at hl 0 rfl) ?_
    refine lv_iconst (v := (1:Int32)) hx hb d_Pg_beginSet_31 (by decide) ?_
    refine lv_iadd hx hb d_Pg_beginSet_32 ?_
    refine lv_iconst (v := (0:Int32)) hx hb d_Pg_beginSet_33 (by decide) ?_
    obtain ⟨g3, h⟩ := o_gd_some h
    refine o_iast (f := (upd (Pg_sets Pg) x1_4.toNatClampNeg (0:Int32))) (w1 := (o_cw ad ca rt Sj T0 T1 Rd (Pg_mk (Pg_operations Pg) (Pg_arguments Pg) (Pg_length Pg) (upd (upd (Pg_sets Pg) x1_4.toNatClampNeg (0:Int32)) (x1_4 + (1:Int32)).toNatClampNeg (0:Int32)) (Pg_setsUsed Pg) (Pg_rounds Pg) (Pg_stack Pg) (Pg_top Pg) (Pg_waiting Pg) (Pg_waitingCount Pg) (Pg_moved Pg)) Pt Mk Lk Ck Jd Ld Pr)) C hP (hDD _ _ _ _ _ _ _ _ _ _ _ _ _) hS 28 23 cw_28 rfl g3 rfl d_Pg_beginSet_34 (fun H locs hP hS => ?_)
    refine lv_aload_n hx hb d_Pg_beginSet_35 rfl (lv_at hl 1 rfl) ?_
    refine lv_dup hx hb d_Pg_beginSet_36 rfl ?_
    refine o_get (v := .int (Pg_setsUsed Pg)) C in_Pg hP 25 cw_25 rfl 4 (by decide) k_1_124 rfl rfl d_Pg_beginSet_37 ?_
    refine lv_iconst (v := (2:Int32)) hx hb d_Pg_beginSet_40 (by decide) ?_
    refine lv_iadd hx hb d_Pg_beginSet_41 ?_
    refine o_put (v := .int ((Pg_setsUsed Pg) + (2:Int32))) (ty := .int) (w1 := (o_cw ad ca rt Sj T0 T1 Rd (Pg_mk (Pg_operations Pg) (Pg_arguments Pg) (Pg_length Pg) (upd (upd (Pg_sets Pg) x1_4.toNatClampNeg (0:Int32)) (x1_4 + (1:Int32)).toNatClampNeg (0:Int32)) ((Pg_setsUsed Pg) + (2:Int32)) (Pg_rounds Pg) (Pg_stack Pg) (Pg_top Pg) (Pg_waiting Pg) (Pg_waitingCount Pg) (Pg_moved Pg)) Pt Mk Lk Ck Jd Ld Pr)) C in_Pg t_Pg t_Pg_ok n_Pg hP (hDD _ _ _ _ _ _ _ _ _ _ _ _ _) hS 25 cw_25 rfl 4 (by decide) k_1_124 rfl rfl (by decide +kernel) rfl rfl (Nat.le_of_ble_eq_true rfl) rfl d_Pg_beginSet_42 (fun H locs hP hS => ?_)
    refine lv_iload_n hx hb d_Pg_beginSet_45 rfl (lv_at hl 0 rfl) ?_
    cases h
    exact o_ri C hP hS d_Pg_beginSet_46
set_option maxHeartbeats 4000000 in
set_option maxRecDepth 100000 in
theorem c_Pg_addClass {E : (Nat → Prop) → State → Heap → Prop} {D : va_G} {ad kd sd vd xd : Nat → Nat} {ca : Nat → ClassId} (hE : o_EK E kd sd vd xd) (l : Launch) (x1 : Int32) (x2 : Int32) (Pg : SPg) (Sj : SSJ) (T0 : STx) (T1 : STx) (Rd : SRd) (Pt : SPt) (Mk : SMk) (Lk : SLk) (Ck : SCk) (Jd : SJd) (Ld : SLd) (Pr : SPr) (rt : Nat) {r : SPg} (h : m_Pg_addClass x1 x2 Pg = some r) : o_Cn E l D o_cls (o_tys ca) y_Pg_addClass cc_Pg_addClass rm_Pg_addClass [.ref (ad 25), .int x1, .int x2] (o_cw ad ca rt Sj T0 T1 Rd Pg Pt Mk Lk Ck Jd Ld Pr) (o_cw ad ca rt Sj T0 T1 Rd r Pt Mk Lk Ck Jd Ld Pr) none := by
  refine o_Cn_of (by decide) (Nat.le_of_ble_eq_true rfl) ?_
  intro p e s m below meth c A ls C hD hP hS hl
  have hDD : ∀ (rt : Nat) (Sj : SSJ) (T0 : STx) (T1 : STx) (Rd : SRd) (Pg : SPg) (Pt : SPt) (Mk : SMk) (Lk : SLk) (Ck : SCk) (Jd : SJd) (Ld : SLd) (Pr : SPr), va_D A (o_cw ad ca rt Sj T0 T1 Rd Pg Pt Mk Lk Ck Jd Ld Pr) := fun _ _ _ _ _ _ _ _ _ _ _ _ _ => o_D_map hD rfl
  have hl : lv_has ls 3 [(0, .ref (ad 25)), (1, .int x1), (2, .int x2)] := hl
  unfold m_Pg_addClass at h
  have C0 := C
  obtain ⟨hx, hb, -, -, -, hown, hts, hK, -, -⟩ := C0
  refine lv_iload_n hx hb d_Pg_addClass_0 rfl (lv_at hl 1 rfl) ?_
  refine lv_if_lt (tgt := 27) hx hb d_Pg_addClass_1 (by decide) (fun c1 => ?_) (fun c1 => ?_)
  · replace h := o_tt c1 h
    cases h
    exact o_rv C hP hS d_Pg_addClass_27
  · replace h := o_ff c1 h
    refine lv_iload_n hx hb d_Pg_addClass_4 rfl (lv_at hl 1 rfl) ?_
    refine lv_iconst (v := (1:Int32)) hx hb d_Pg_addClass_5 (by decide) ?_
    refine lv_iadd hx hb d_Pg_addClass_6 ?_
    refine lv_aload_n hx hb d_Pg_addClass_7 rfl (lv_at hl 0 rfl) ?_
    refine o_get (v := .ref (ad 28)) C in_Pg hP 25 cw_25 rfl 3 (by decide) k_1_123 rfl rfl d_Pg_addClass_8 ?_
    refine va_alen (v := (8000:Int32)) hx hb hK hP 28 23 cw_28 rfl rfl d_Pg_addClass_11 ?_
    refine lv_icmp_ge (tgt := 27) hx hb d_Pg_addClass_12 (by decide) (fun c2 => ?_) (fun c2 => ?_)
    · replace h := o_tt c2 h
      cases h
      exact o_rv C hP hS d_Pg_addClass_27
    · replace h := o_ff c2 h
      refine lv_aload_n hx hb d_Pg_addClass_15 rfl (lv_at hl 0 rfl) ?_
      refine o_get (v := .ref (ad 28)) C in_Pg hP 25 cw_25 rfl 3 (by decide) k_1_123 rfl rfl d_Pg_addClass_16 ?_
      refine lv_iload_n hx hb d_Pg_addClass_19 rfl (lv_at hl 1 rfl) ?_
      refine lv_iconst (v := (1:Int32)) hx hb d_Pg_addClass_20 (by decide) ?_
      refine lv_iadd hx hb d_Pg_addClass_21 ?_
      refine lv_dup2_11 hx hb d_Pg_addClass_22 rfl rfl ?_
      obtain ⟨g3, h⟩ := o_gd_some h
      refine o_iald (f := (Pg_sets Pg)) C hP 28 23 cw_28 rfl g3 d_Pg_addClass_23 ?_
      refine lv_iload_n hx hb d_Pg_addClass_24 rfl (lv_at hl 2 rfl) ?_
      refine lv_ior hx hb d_Pg_addClass_25 ?_
      obtain ⟨g4, h⟩ := o_gd_some h
      refine o_iast (f := (Pg_sets Pg)) (w1 := (o_cw ad ca rt Sj T0 T1 Rd (Pg_mk (Pg_operations Pg) (Pg_arguments Pg) (Pg_length Pg) (upd (Pg_sets Pg) (x1 + (1:Int32)).toNatClampNeg (((Pg_sets Pg) (x1 + (1:Int32)).toNatClampNeg) ||| x2)) (Pg_setsUsed Pg) (Pg_rounds Pg) (Pg_stack Pg) (Pg_top Pg) (Pg_waiting Pg) (Pg_waitingCount Pg) (Pg_moved Pg)) Pt Mk Lk Ck Jd Ld Pr)) C hP (hDD _ _ _ _ _ _ _ _ _ _ _ _ _) hS 28 23 cw_28 rfl g4 rfl d_Pg_addClass_26 (fun H locs hP hS => ?_)
      cases h
      exact o_rv C hP hS d_Pg_addClass_27
set_option maxHeartbeats 4000000 in
set_option maxRecDepth 100000 in
theorem c_Pg_addRange {E : (Nat → Prop) → State → Heap → Prop} {D : va_G} {ad kd sd vd xd : Nat → Nat} {ca : Nat → ClassId} (hE : o_EK E kd sd vd xd) (l : Launch) (x1 : Int32) (x2 : Int32) (x3 : Int32) (Pg : SPg) (Sj : SSJ) (T0 : STx) (T1 : STx) (Rd : SRd) (Pt : SPt) (Mk : SMk) (Lk : SLk) (Ck : SCk) (Jd : SJd) (Ld : SLd) (Pr : SPr) (rt : Nat) {r : SPg} (h : m_Pg_addRange x1 x2 x3 Pg = some r) : o_Cn E l D o_cls (o_tys ca) y_Pg_addRange cc_Pg_addRange rm_Pg_addRange [.ref (ad 25), .int x1, .int x2, .int x3] (o_cw ad ca rt Sj T0 T1 Rd Pg Pt Mk Lk Ck Jd Ld Pr) (o_cw ad ca rt Sj T0 T1 Rd r Pt Mk Lk Ck Jd Ld Pr) none := by
  refine o_Cn_of (by decide) (Nat.le_of_ble_eq_true rfl) ?_
  intro p e s m below meth c A ls C hD hP hS hl
  have hDD : ∀ (rt : Nat) (Sj : SSJ) (T0 : STx) (T1 : STx) (Rd : SRd) (Pg : SPg) (Pt : SPt) (Mk : SMk) (Lk : SLk) (Ck : SCk) (Jd : SJd) (Ld : SLd) (Pr : SPr), va_D A (o_cw ad ca rt Sj T0 T1 Rd Pg Pt Mk Lk Ck Jd Ld Pr) := fun _ _ _ _ _ _ _ _ _ _ _ _ _ => o_D_map hD rfl
  have hl : lv_has ls 4 [(0, .ref (ad 25)), (1, .int x1), (2, .int x2), (3, .int x3)] := hl
  unfold m_Pg_addRange at h
  have C0 := C
  obtain ⟨hx, hb, -, -, -, hown, hts, hK, -, -⟩ := C0
  refine lv_iload_n hx hb d_Pg_addRange_0 rfl (lv_at hl 1 rfl) ?_
  refine lv_if_lt (tgt := 69) hx hb d_Pg_addRange_1 (by decide) (fun c1 => ?_) (fun c1 => ?_)
  · replace h := o_tt c1 h
    cases h
    exact o_rv C hP hS d_Pg_addRange_69
  · replace h := o_ff c1 h
    refine lv_iload_n hx hb d_Pg_addRange_4 rfl (lv_at hl 1 rfl) ?_
    refine lv_aload_n hx hb d_Pg_addRange_5 rfl (lv_at hl 0 rfl) ?_
    refine o_get (v := .ref (ad 28)) C in_Pg hP 25 cw_25 rfl 3 (by decide) k_1_123 rfl rfl d_Pg_addRange_6 ?_
    refine va_alen (v := (8000:Int32)) hx hb hK hP 28 23 cw_28 rfl rfl d_Pg_addRange_9 ?_
    refine lv_icmp_ge (tgt := 69) hx hb d_Pg_addRange_10 (by decide) (fun c2 => ?_) (fun c2 => ?_)
    · replace h := o_tt c2 h
      cases h
      exact o_rv C hP hS d_Pg_addRange_69
    · replace h := o_ff c2 h
      refine lv_aload_n hx hb d_Pg_addRange_13 rfl (lv_at hl 0 rfl) ?_
      refine o_get (v := .int (Pg_setsUsed Pg)) C in_Pg hP 25 cw_25 rfl 4 (by decide) k_1_124 rfl rfl d_Pg_addRange_14 ?_
      refine lv_iconst (v := (2:Int32)) hx hb d_Pg_addRange_17 (by decide) ?_
      refine lv_iadd hx hb d_Pg_addRange_18 ?_
      refine lv_aload_n hx hb d_Pg_addRange_19 rfl (lv_at hl 0 rfl) ?_
      refine o_get (v := .ref (ad 28)) C in_Pg hP 25 cw_25 rfl 3 (by decide) k_1_123 rfl rfl d_Pg_addRange_20 ?_
      refine va_alen (v := (8000:Int32)) hx hb hK hP 28 23 cw_28 rfl rfl d_Pg_addRange_23 ?_
      refine lv_icmp_gt (tgt := 69) hx hb d_Pg_addRange_24 (by decide) (fun c3 => ?_) (fun c3 => ?_)
      · replace h := o_tt c3 h
        cases h
        exact o_rv C hP hS d_Pg_addRange_69
      · replace h := o_ff c3 h
        refine lv_aload_n hx hb d_Pg_addRange_27 rfl (lv_at hl 0 rfl) ?_
        refine o_get (v := .ref (ad 28)) C in_Pg hP 25 cw_25 rfl 3 (by decide) k_1_123 rfl rfl d_Pg_addRange_28 ?_
        refine lv_iload_n hx hb d_Pg_addRange_31 rfl (lv_at hl 1 rfl) ?_
        refine lv_dup2_11 hx hb d_Pg_addRange_32 rfl rfl ?_
        obtain ⟨g4, h⟩ := o_gd_some h
        refine o_iald (f := (Pg_sets Pg)) C hP 28 23 cw_28 rfl g4 d_Pg_addRange_33 ?_
        refine lv_iconst (v := (1:Int32)) hx hb d_Pg_addRange_34 (by decide) ?_
        refine lv_iadd hx hb d_Pg_addRange_35 ?_
        obtain ⟨g5, h⟩ := o_gd_some h
        refine o_iast (f := (Pg_sets Pg)) (w1 := (o_cw ad ca rt Sj T0 T1 Rd (Pg_mk (Pg_operations Pg) (Pg_arguments Pg) (Pg_length Pg) (upd (Pg_sets Pg) x1.toNatClampNeg (((Pg_sets Pg) x1.toNatClampNeg) + (1:Int32))) (Pg_setsUsed Pg) (Pg_rounds Pg) (Pg_stack Pg) (Pg_top Pg) (Pg_waiting Pg) (Pg_waitingCount Pg) (Pg_moved Pg)) Pt Mk Lk Ck Jd Ld Pr)) C hP (hDD _ _ _ _ _ _ _ _ _ _ _ _ _) hS 28 23 cw_28 rfl g5 rfl d_Pg_addRange_36 (fun H locs hP hS => ?_)
        refine lv_aload_n hx hb d_Pg_addRange_37 rfl (lv_at hl 0 rfl) ?_
        refine o_get (v := .ref (ad 28)) C in_Pg hP 25 cw_25 rfl 3 (by decide) k_1_123 rfl rfl d_Pg_addRange_38 ?_
        refine lv_aload_n hx hb d_Pg_addRange_41 rfl (lv_at hl 0 rfl) ?_
        refine o_get (v := .int (Pg_setsUsed Pg)) C in_Pg hP 25 cw_25 rfl 4 (by decide) k_1_124 rfl rfl d_Pg_addRange_42 ?_
        refine lv_iload_n hx hb d_Pg_addRange_45 rfl (lv_at hl 2 rfl) ?_
        obtain ⟨g6, h⟩ := o_gd_some h
        refine o_iast (f := (upd (Pg_sets Pg) x1.toNatClampNeg (((Pg_sets Pg) x1.toNatClampNeg) + (1:Int32)))) (w1 := (o_cw ad ca rt Sj T0 T1 Rd (Pg_mk (Pg_operations Pg) (Pg_arguments Pg) (Pg_length Pg) (upd (upd (Pg_sets Pg) x1.toNatClampNeg (((Pg_sets Pg) x1.toNatClampNeg) + (1:Int32))) (Pg_setsUsed Pg).toNatClampNeg x2) (Pg_setsUsed Pg) (Pg_rounds Pg) (Pg_stack Pg) (Pg_top Pg) (Pg_waiting Pg) (Pg_waitingCount Pg) (Pg_moved Pg)) Pt Mk Lk Ck Jd Ld Pr)) C hP (hDD _ _ _ _ _ _ _ _ _ _ _ _ _) hS 28 23 cw_28 rfl g6 rfl d_Pg_addRange_46 (fun H locs hP hS => ?_)
        refine lv_aload_n hx hb d_Pg_addRange_47 rfl (lv_at hl 0 rfl) ?_
        refine o_get (v := .ref (ad 28)) C in_Pg hP 25 cw_25 rfl 3 (by decide) k_1_123 rfl rfl d_Pg_addRange_48 ?_
        refine lv_aload_n hx hb d_Pg_addRange_51 rfl (lv_at hl 0 rfl) ?_
        refine o_get (v := .int (Pg_setsUsed Pg)) C in_Pg hP 25 cw_25 rfl 4 (by decide) k_1_124 rfl rfl d_Pg_addRange_52 ?_
        refine lv_iconst (v := (1:Int32)) hx hb d_Pg_addRange_55 (by decide) ?_
        refine lv_iadd hx hb d_Pg_addRange_56 ?_
        refine lv_iload_n hx hb d_Pg_addRange_57 rfl (lv_at hl 3 rfl) ?_
        obtain ⟨g7, h⟩ := o_gd_some h
        refine o_iast (f := (upd (upd (Pg_sets Pg) x1.toNatClampNeg (((Pg_sets Pg) x1.toNatClampNeg) + (1:Int32))) (Pg_setsUsed Pg).toNatClampNeg x2)) (w1 := (o_cw ad ca rt Sj T0 T1 Rd (Pg_mk (Pg_operations Pg) (Pg_arguments Pg) (Pg_length Pg) (upd (upd (upd (Pg_sets Pg) x1.toNatClampNeg (((Pg_sets Pg) x1.toNatClampNeg) + (1:Int32))) (Pg_setsUsed Pg).toNatClampNeg x2) ((Pg_setsUsed Pg) + (1:Int32)).toNatClampNeg x3) (Pg_setsUsed Pg) (Pg_rounds Pg) (Pg_stack Pg) (Pg_top Pg) (Pg_waiting Pg) (Pg_waitingCount Pg) (Pg_moved Pg)) Pt Mk Lk Ck Jd Ld Pr)) C hP (hDD _ _ _ _ _ _ _ _ _ _ _ _ _) hS 28 23 cw_28 rfl g7 rfl d_Pg_addRange_58 (fun H locs hP hS => ?_)
        refine lv_aload_n hx hb d_Pg_addRange_59 rfl (lv_at hl 0 rfl) ?_
        refine lv_dup hx hb d_Pg_addRange_60 rfl ?_
        refine o_get (v := .int (Pg_setsUsed Pg)) C in_Pg hP 25 cw_25 rfl 4 (by decide) k_1_124 rfl rfl d_Pg_addRange_61 ?_
        refine lv_iconst (v := (2:Int32)) hx hb d_Pg_addRange_64 (by decide) ?_
        refine lv_iadd hx hb d_Pg_addRange_65 ?_
        refine o_put (v := .int ((Pg_setsUsed Pg) + (2:Int32))) (ty := .int) (w1 := (o_cw ad ca rt Sj T0 T1 Rd (Pg_mk (Pg_operations Pg) (Pg_arguments Pg) (Pg_length Pg) (upd (upd (upd (Pg_sets Pg) x1.toNatClampNeg (((Pg_sets Pg) x1.toNatClampNeg) + (1:Int32))) (Pg_setsUsed Pg).toNatClampNeg x2) ((Pg_setsUsed Pg) + (1:Int32)).toNatClampNeg x3) ((Pg_setsUsed Pg) + (2:Int32)) (Pg_rounds Pg) (Pg_stack Pg) (Pg_top Pg) (Pg_waiting Pg) (Pg_waitingCount Pg) (Pg_moved Pg)) Pt Mk Lk Ck Jd Ld Pr)) C in_Pg t_Pg t_Pg_ok n_Pg hP (hDD _ _ _ _ _ _ _ _ _ _ _ _ _) hS 25 cw_25 rfl 4 (by decide) k_1_124 rfl rfl (by decide +kernel) rfl rfl (Nat.le_of_ble_eq_true rfl) rfl d_Pg_addRange_66 (fun H locs hP hS => ?_)
        cases h
        exact o_rv C hP hS d_Pg_addRange_69
set_option maxHeartbeats 4000000 in
set_option maxRecDepth 100000 in
theorem w_Pt_readSet_j129 {E : (Nat → Prop) → State → Heap → Prop} {p : Program} {l : Launch} {e : Env} {s : State} {m : MethodId} {args : Array Value} {below : List Frame} {meth : Method} {c : Code} {D : va_G} {ad kd sd vd xd : Nat → Nat} {ca : Nat → ClassId} {A : Nat → Prop} {Q : State → Prop} (hE : o_EK E kd sd vd xd) (C : o_Cx E p s m args meth c D o_cls (o_tys ca) "SchemaJudge$Pattern" b_Pt_readSet (some .int) 5 cc_Pt_readSet A) (hDD : ∀ (rt : Nat) (Sj : SSJ) (T0 : STx) (T1 : STx) (Rd : SRd) (Pg : SPg) (Pt : SPt) (Mk : SMk) (Lk : SLk) (Ck : SCk) (Jd : SJd) (Ld : SLd) (Pr : SPr), va_D A (o_cw ad ca rt Sj T0 T1 Rd Pg Pt Mk Lk Ck Jd Ld Pr)) (n : Nat) (u40_x1 : Int32) (u40_Sj : SSJ) (u40_T0 : STx) (u40_T1 : STx) (u40_Rd : SRd) (u40_Mk : SMk) (u40_Lk : SLk) (u40_Ck : SCk) (u40_Jd : SJd) (u40_Ld : SLd) (u40_Pr : SPr) (u40_rt : Nat) (x2 : Int32) (x3 : Int32) (x4 : Int32) (Pg : SPg) (Pt : SPt) {q : Nat × Int32 × SPg × SPt} (h : m_Pt_readSet_j129 n u40_x1 x2 x3 x4 Pg Pt = some q) (h0 : q.1 = 0 → o_At p l e rm_Pt_readSet s m args below meth c Q o_cls D A 5 40 [] (o_cw ad ca u40_rt u40_Sj u40_T0 u40_T1 u40_Rd q.2.2.1 q.2.2.2 u40_Mk u40_Lk u40_Ck u40_Jd u40_Ld u40_Pr) [(0, .ref (ad 33)), (1, .int u40_x1), (2, .int q.2.1)]) (h1 : q.1 ≠ 0 → (if q.1 = 1 then o_At p l e rm_Pt_readSet s m args below meth c Q o_cls D A 5 70 [] (o_cw ad ca u40_rt u40_Sj u40_T0 u40_T1 u40_Rd q.2.2.1 q.2.2.2 u40_Mk u40_Lk u40_Ck u40_Jd u40_Ld u40_Pr) [(1, .int u40_x1)] else if q.1 = 2 then o_At p l e rm_Pt_readSet s m args below meth c Q o_cls D A 5 127 [] (o_cw ad ca u40_rt u40_Sj u40_T0 u40_T1 u40_Rd q.2.2.1 q.2.2.2 u40_Mk u40_Lk u40_Ck u40_Jd u40_Ld u40_Pr) [] else if q.1 = 3 then o_At p l e rm_Pt_readSet s m args below meth c Q o_cls D A 5 150 [] (o_cw ad ca u40_rt u40_Sj u40_T0 u40_T1 u40_Rd q.2.2.1 q.2.2.2 u40_Mk u40_Lk u40_Ck u40_Jd u40_Ld u40_Pr) [] else o_At p l e rm_Pt_readSet s m args below meth c Q o_cls D A 5 197 [] (o_cw ad ca u40_rt u40_Sj u40_T0 u40_T1 u40_Rd q.2.2.1 q.2.2.2 u40_Mk u40_Lk u40_Ck u40_Jd u40_Ld u40_Pr) [])) : o_At p l e rm_Pt_readSet s m args below meth c Q o_cls D A 5 129 [] (o_cw ad ca u40_rt u40_Sj u40_T0 u40_T1 u40_Rd Pg Pt u40_Mk u40_Lk u40_Ck u40_Jd u40_Ld u40_Pr) [(0, .ref (ad 33)), (1, .int u40_x1), (2, .int x2), (3, .int x3), (4, .int x4)] := by
  unfold m_Pt_readSet_j129 at h
  intro H locs ls hP hS hl
  have C0 := C
  obtain ⟨hx, hb, -, -, -, hown, hts, hK, -, -⟩ := C0
  refine lv_iload_n hx hb d_Pt_readSet_129 rfl (lv_at hl 3 rfl) ?_
  refine lv_if_lt (tgt := 150) hx hb d_Pt_readSet_130 (by decide) (fun c5 => ?_) (fun c5 => ?_)
  · replace h := o_tt c5 h
    cases h
    exact h1 (Nat.succ_ne_zero 2) _ _ _ hP hS (lv_sub hl [] rfl)
  · replace h := o_ff c5 h
    refine lv_iload hx hb d_Pt_readSet_133 (lv_at hl 4 rfl) ?_
    refine lv_if_lt (tgt := 150) hx hb d_Pt_readSet_135 (by decide) (fun c6 => ?_) (fun c6 => ?_)
    · replace h := o_tt c6 h
      cases h
      exact h1 (Nat.succ_ne_zero 2) _ _ _ hP hS (lv_sub hl [] rfl)
    · replace h := o_ff c6 h
      refine lv_iload_n hx hb d_Pt_readSet_138 rfl (lv_at hl 3 rfl) ?_
      refine lv_ldc (v := (2097151:Int32)) hx hb hown (hts _ k_5_23) d_Pt_readSet_139 ?_
      refine lv_iand hx hb d_Pt_readSet_141 ?_
      refine lv_iload hx hb d_Pt_readSet_142 (lv_at hl 4 rfl) ?_
      refine lv_ldc (v := (2097151:Int32)) hx hb hown (hts _ k_5_23) d_Pt_readSet_144 ?_
      refine lv_iand hx hb d_Pt_readSet_146 ?_
      refine lv_icmp_le (tgt := 152) hx hb d_Pt_readSet_147 (by decide) (fun c7 => ?_) (fun c7 => ?_)
      · replace h := o_tt c7 h
        refine lv_iload_n hx hb d_Pt_readSet_152 rfl (lv_at hl 3 rfl) ?_
        refine lv_ldc (v := (4194304:Int32)) hx hb hown (hts _ k_4_199) d_Pt_readSet_153 ?_
        refine lv_iand hx hb d_Pt_readSet_155 ?_
        refine lv_if_eq (tgt := 174) hx hb d_Pt_readSet_156 (by decide) (fun c8 => ?_) (fun c8 => ?_)
        · replace h := o_tt c8 h
          refine lv_aload_n hx hb d_Pt_readSet_174 rfl (lv_at hl 0 rfl) ?_
          refine o_get (v := .ref (ad 25)) C in_Pt hP 33 cw_33 rfl 0 (by decide) k_1_160 rfl rfl d_Pt_readSet_175 ?_
          refine lv_iload_n hx hb d_Pt_readSet_178 rfl (lv_at hl 1 rfl) ?_
          refine lv_iload_n hx hb d_Pt_readSet_179 rfl (lv_at hl 3 rfl) ?_
          refine lv_ldc (v := (2097151:Int32)) hx hb hown (hts _ k_5_23) d_Pt_readSet_180 ?_
          refine lv_iand hx hb d_Pt_readSet_182 ?_
          refine lv_iload hx hb d_Pt_readSet_183 (lv_at hl 4 rfl) ?_
          refine lv_ldc (v := (2097151:Int32)) hx hb hown (hts _ k_5_23) d_Pt_readSet_185 ?_
          refine lv_iand hx hb d_Pt_readSet_187 ?_
          obtain ⟨q5, hq5, h⟩ := o_bd_some h
          refine o_V (st1 := []) (w1 := (o_cw ad ca u40_rt u40_Sj u40_T0 u40_T1 u40_Rd q5 Pt u40_Mk u40_Lk u40_Ck u40_Jd u40_Ld u40_Pr)) hE.1 C (c_Pg_addRange hE l u40_x1 (x3 &&& (2097151:Int32)) (x4 &&& (2097151:Int32)) Pg u40_Sj u40_T0 u40_T1 u40_Rd Pt u40_Mk u40_Lk u40_Ck u40_Jd u40_Ld u40_Pr u40_rt hq5) hP (hDD _ _ _ _ _ _ _ _ _ _ _ _ _) hS hl.1 rfl cw_25 k_5_25 k_5_26 k_5_27 k_1_4 k_5_28 hv_Pg_addRange rfl rfl ⟨(Nat.le_of_ble_eq_true rfl), (Nat.le_of_ble_eq_true rfl)⟩ rfl (Nat.le_of_ble_eq_true rfl) ⟨Nat.zero_le _, Nat.zero_le _⟩ rfl d_Pt_readSet_188 (fun H locs hP hS => ?_)
          obtain ⟨x2_191, ex2_191⟩ : ∃ y : Int32, y = x2 + (1:Int32) := ⟨_, rfl⟩
          replace h := o_nm_at ex2_191 h
          refine lv_iinc (v := x2_191) (lv' := [(2, .int x2_191), (0, .ref (ad 33)), (1, .int u40_x1), (3, .int x3), (4, .int x4)]) hx hb d_Pt_readSet_191 hl (k := 2) rfl (by rw [ex2_191]; rfl) (by decide) rfl (fun ls hl => ?_)
          refine lv_goto (tgt := 40) hx hb d_Pt_readSet_194 (by decide) ?_
          cases h
          exact h0 rfl _ _ _ hP hS (lv_sub hl [1, 2, 0] rfl)
        · replace h := o_ff c8 h
          refine lv_aload_n hx hb d_Pt_readSet_159 rfl (lv_at hl 0 rfl) ?_
          refine o_get (v := .ref (ad 25)) C in_Pt hP 33 cw_33 rfl 0 (by decide) k_1_160 rfl rfl d_Pt_readSet_160 ?_
          refine lv_iload_n hx hb d_Pt_readSet_163 rfl (lv_at hl 1 rfl) ?_
          refine lv_iload_n hx hb d_Pt_readSet_164 rfl (lv_at hl 3 rfl) ?_
          refine lv_ldc (v := (-4194305:Int32)) hx hb hown (hts _ k_5_24) d_Pt_readSet_165 ?_
          refine lv_iand hx hb d_Pt_readSet_167 ?_
          obtain ⟨q6, hq6, h⟩ := o_bd_some h
          refine o_V (st1 := []) (w1 := (o_cw ad ca u40_rt u40_Sj u40_T0 u40_T1 u40_Rd q6 Pt u40_Mk u40_Lk u40_Ck u40_Jd u40_Ld u40_Pr)) hE.1 C (c_Pg_addClass hE l u40_x1 (x3 &&& (-4194305:Int32)) Pg u40_Sj u40_T0 u40_T1 u40_Rd Pt u40_Mk u40_Lk u40_Ck u40_Jd u40_Ld u40_Pr u40_rt hq6) hP (hDD _ _ _ _ _ _ _ _ _ _ _ _ _) hS hl.1 rfl cw_25 k_5_19 k_5_20 k_5_21 k_1_4 k_5_22 hv_Pg_addClass rfl rfl ⟨(Nat.le_of_ble_eq_true rfl), (Nat.le_of_ble_eq_true rfl)⟩ rfl (Nat.le_of_ble_eq_true rfl) ⟨Nat.zero_le _, Nat.zero_le _⟩ rfl d_Pt_readSet_168 (fun H locs hP hS => ?_)
          refine lv_goto (tgt := 191) hx hb d_Pt_readSet_171 (by decide) ?_
          obtain ⟨x2_191, ex2_191⟩ : ∃ y : Int32, y = x2 + (1:Int32) := ⟨_, rfl⟩
          replace h := o_nm_at ex2_191 h
          refine lv_iinc (v := x2_191) (lv' := [(2, .int x2_191), (0, .ref (ad 33)), (1, .int u40_x1), (3, .int x3), (4, .int x4)]) hx hb d_Pt_readSet_191 hl (k := 2) rfl (by rw [ex2_191]; rfl) (by decide) rfl (fun ls hl => ?_)
          refine lv_goto (tgt := 40) hx hb d_Pt_readSet_194 (by decide) ?_
          cases h
          exact h0 rfl _ _ _ hP hS (lv_sub hl [1, 2, 0] rfl)
      · replace h := o_ff c7 h
        cases h
        exact h1 (Nat.succ_ne_zero 2) _ _ _ hP hS (lv_sub hl [] rfl)
set_option maxHeartbeats 4000000 in
set_option maxRecDepth 100000 in
theorem w_Pt_readSet_b40 {E : (Nat → Prop) → State → Heap → Prop} {p : Program} {l : Launch} {e : Env} {s : State} {m : MethodId} {args : Array Value} {below : List Frame} {meth : Method} {c : Code} {D : va_G} {ad kd sd vd xd : Nat → Nat} {ca : Nat → ClassId} {A : Nat → Prop} {Q : State → Prop} (hE : o_EK E kd sd vd xd) (C : o_Cx E p s m args meth c D o_cls (o_tys ca) "SchemaJudge$Pattern" b_Pt_readSet (some .int) 5 cc_Pt_readSet A) (hDD : ∀ (rt : Nat) (Sj : SSJ) (T0 : STx) (T1 : STx) (Rd : SRd) (Pg : SPg) (Pt : SPt) (Mk : SMk) (Lk : SLk) (Ck : SCk) (Jd : SJd) (Ld : SLd) (Pr : SPr), va_D A (o_cw ad ca rt Sj T0 T1 Rd Pg Pt Mk Lk Ck Jd Ld Pr)) (n : Nat) (u40_x1 : Int32) (u40_Sj : SSJ) (u40_T0 : STx) (u40_T1 : STx) (u40_Rd : SRd) (u40_Mk : SMk) (u40_Lk : SLk) (u40_Ck : SCk) (u40_Jd : SJd) (u40_Ld : SLd) (u40_Pr : SPr) (u40_rt : Nat) (z : Int32 × SPg × SPt) (q : Nat × Int32 × SPg × SPt) (h : m_Pt_readSet_b40 n u40_x1 z = some q) (h0 : q.1 = 0 → o_At p l e rm_Pt_readSet s m args below meth c Q o_cls D A 5 40 [] (o_cw ad ca u40_rt u40_Sj u40_T0 u40_T1 u40_Rd q.2.2.1 q.2.2.2 u40_Mk u40_Lk u40_Ck u40_Jd u40_Ld u40_Pr) [(0, .ref (ad 33)), (1, .int u40_x1), (2, .int q.2.1)]) (h1 : q.1 ≠ 0 → (if q.1 = 1 then o_At p l e rm_Pt_readSet s m args below meth c Q o_cls D A 5 70 [] (o_cw ad ca u40_rt u40_Sj u40_T0 u40_T1 u40_Rd q.2.2.1 q.2.2.2 u40_Mk u40_Lk u40_Ck u40_Jd u40_Ld u40_Pr) [(1, .int u40_x1)] else if q.1 = 2 then o_At p l e rm_Pt_readSet s m args below meth c Q o_cls D A 5 127 [] (o_cw ad ca u40_rt u40_Sj u40_T0 u40_T1 u40_Rd q.2.2.1 q.2.2.2 u40_Mk u40_Lk u40_Ck u40_Jd u40_Ld u40_Pr) [] else if q.1 = 3 then o_At p l e rm_Pt_readSet s m args below meth c Q o_cls D A 5 150 [] (o_cw ad ca u40_rt u40_Sj u40_T0 u40_T1 u40_Rd q.2.2.1 q.2.2.2 u40_Mk u40_Lk u40_Ck u40_Jd u40_Ld u40_Pr) [] else o_At p l e rm_Pt_readSet s m args below meth c Q o_cls D A 5 197 [] (o_cw ad ca u40_rt u40_Sj u40_T0 u40_T1 u40_Rd q.2.2.1 q.2.2.2 u40_Mk u40_Lk u40_Ck u40_Jd u40_Ld u40_Pr) [])) : o_At p l e rm_Pt_readSet s m args below meth c Q o_cls D A 5 40 [] (o_cw ad ca u40_rt u40_Sj u40_T0 u40_T1 u40_Rd z.2.1 z.2.2 u40_Mk u40_Lk u40_Ck u40_Jd u40_Ld u40_Pr) [(0, .ref (ad 33)), (1, .int u40_x1), (2, .int z.1)] := by
  unfold m_Pt_readSet_b40 at h
  intro H locs ls hP hS hl
  have C0 := C
  obtain ⟨hx, hb, -, -, -, hown, hts, hK, -, -⟩ := C0
  refine lv_iload_n hx hb d_Pt_readSet_40 rfl (lv_at hl 2 rfl) ?_
  refine lv_aload_n hx hb d_Pt_readSet_41 rfl (lv_at hl 0 rfl) ?_
  refine o_get (v := .int (Pt_tokenCount z.2.2)) C in_Pt hP 33 cw_33 rfl 3 (by decide) k_1_163 rfl rfl d_Pt_readSet_42 ?_
  refine lv_icmp_ge (tgt := 197) hx hb d_Pt_readSet_45 (by decide) (fun c2 => ?_) (fun c2 => ?_)
  · replace h := o_tt c2 h
    cases h
    exact h1 (Nat.succ_ne_zero 3) _ _ _ hP hS (lv_sub hl [] rfl)
  · replace h := o_ff c2 h
    refine lv_aload_n hx hb d_Pt_readSet_48 rfl (lv_at hl 0 rfl) ?_
    refine lv_iconst (v := (0:Int32)) hx hb d_Pt_readSet_49 (by decide) ?_
    obtain ⟨q3, hq3, h⟩ := o_bd_some h
    refine o_V (st1 := [.int q3]) (w1 := (o_cw ad ca u40_rt u40_Sj u40_T0 u40_T1 u40_Rd z.2.1 z.2.2 u40_Mk u40_Lk u40_Ck u40_Jd u40_Ld u40_Pr)) hE.1 C (c_Pt_peek hE l (0:Int32) z.2.2 u40_Sj u40_T0 u40_T1 u40_Rd z.2.1 u40_Mk u40_Lk u40_Ck u40_Jd u40_Ld u40_Pr u40_rt hq3) hP (hDD _ _ _ _ _ _ _ _ _ _ _ _ _) hS hl.1 rfl cw_33 k_4_214 k_4_216 k_s_28 k_1_5 k_4_217 hv_Pt_peek rfl rfl ⟨(Nat.le_of_ble_eq_true rfl), (Nat.le_of_ble_eq_true rfl)⟩ rfl (Nat.le_of_ble_eq_true rfl) ⟨Nat.zero_le _, Nat.zero_le _⟩ rfl d_Pt_readSet_50 (fun H locs hP hS => ?_)
    refine lv_istore_n (lv' := [(3, .int q3), (0, .ref (ad 33)), (1, .int u40_x1), (2, .int z.1)]) hx hb d_Pt_readSet_53 rfl hl (by decide) rfl (fun ls hl => ?_)
    refine lv_aload_n hx hb d_Pt_readSet_54 rfl (lv_at hl 1 rfl) ?_
    refine lv_dup hx hb d_Pt_readSet_55 rfl ?_
    refine o_get (v := .int (Pt_position z.2.2)) C in_Pt hP 33 cw_33 rfl 4 (by decide) k_1_164 rfl rfl d_Pt_readSet_56 ?_
    refine lv_iconst (v := (1:Int32)) hx hb d_Pt_readSet_59 (by decide) ?_
    refine lv_iadd hx hb d_Pt_readSet_60 ?_
    refine o_put (v := .int ((Pt_position z.2.2) + (1:Int32))) (ty := .int) (w1 := (o_cw ad ca u40_rt u40_Sj u40_T0 u40_T1 u40_Rd z.2.1 (Pt_mk (Pt_tokens z.2.2) (Pt_characterCount z.2.2) (Pt_tokenCount z.2.2) ((Pt_position z.2.2) + (1:Int32)) (Pt_total z.2.2) (Pt_least z.2.2) (Pt_most z.2.2) (Pt_depth z.2.2) (Pt_blockStarts z.2.2) (Pt_branchStarts z.2.2) (Pt_jumps z.2.2) (Pt_sizesBefore z.2.2)) u40_Mk u40_Lk u40_Ck u40_Jd u40_Ld u40_Pr)) C in_Pt t_Pt t_Pt_ok n_Pt hP (hDD _ _ _ _ _ _ _ _ _ _ _ _ _) hS 33 cw_33 rfl 4 (by decide) k_1_164 rfl rfl (by decide +kernel) rfl rfl (Nat.le_of_ble_eq_true rfl) rfl d_Pt_readSet_61 (fun H locs hP hS => ?_)
    refine lv_iload_n hx hb d_Pt_readSet_64 rfl (lv_at hl 0 rfl) ?_
    refine lv_bipush (v := (-93:Int32)) hx hb d_Pt_readSet_65 (by decide) ?_
    refine lv_icmp_ne (tgt := 72) hx hb d_Pt_readSet_67 (by decide) (fun c3 => ?_) (fun c3 => ?_)
    · replace h := o_ff c3 h
      refine lv_iload_n hx hb d_Pt_readSet_72 rfl (lv_at hl 0 rfl) ?_
      refine lv_istore (lv' := [(4, .int q3), (3, .int q3), (0, .ref (ad 33)), (1, .int u40_x1), (2, .int z.1)]) hx hb d_Pt_readSet_73 hl (by decide) rfl (fun ls hl => ?_)
      refine lv_aload_n hx hb d_Pt_readSet_75 rfl (lv_at hl 2 rfl) ?_
      refine lv_iconst (v := (0:Int32)) hx hb d_Pt_readSet_76 (by decide) ?_
      obtain ⟨q4, hq4, h⟩ := o_bd_some h
      refine o_V (st1 := [.int q4]) (w1 := (o_cw ad ca u40_rt u40_Sj u40_T0 u40_T1 u40_Rd z.2.1 (Pt_mk (Pt_tokens z.2.2) (Pt_characterCount z.2.2) (Pt_tokenCount z.2.2) ((Pt_position z.2.2) + (1:Int32)) (Pt_total z.2.2) (Pt_least z.2.2) (Pt_most z.2.2) (Pt_depth z.2.2) (Pt_blockStarts z.2.2) (Pt_branchStarts z.2.2) (Pt_jumps z.2.2) (Pt_sizesBefore z.2.2)) u40_Mk u40_Lk u40_Ck u40_Jd u40_Ld u40_Pr)) hE.1 C (c_Pt_peek hE l (0:Int32) (Pt_mk (Pt_tokens z.2.2) (Pt_characterCount z.2.2) (Pt_tokenCount z.2.2) ((Pt_position z.2.2) + (1:Int32)) (Pt_total z.2.2) (Pt_least z.2.2) (Pt_most z.2.2) (Pt_depth z.2.2) (Pt_blockStarts z.2.2) (Pt_branchStarts z.2.2) (Pt_jumps z.2.2) (Pt_sizesBefore z.2.2)) u40_Sj u40_T0 u40_T1 u40_Rd z.2.1 u40_Mk u40_Lk u40_Ck u40_Jd u40_Ld u40_Pr u40_rt hq4) hP (hDD _ _ _ _ _ _ _ _ _ _ _ _ _) hS hl.1 rfl cw_33 k_4_214 k_4_216 k_s_28 k_1_5 k_4_217 hv_Pt_peek rfl rfl ⟨(Nat.le_of_ble_eq_true rfl), (Nat.le_of_ble_eq_true rfl)⟩ rfl (Nat.le_of_ble_eq_true rfl) ⟨Nat.zero_le _, Nat.zero_le _⟩ rfl d_Pt_readSet_77 (fun H locs hP hS => ?_)
      refine lv_bipush (v := (45:Int32)) hx hb d_Pt_readSet_80 (by decide) ?_
      refine lv_icmp_ne (tgt := 129) hx hb d_Pt_readSet_82 (by decide) (fun c4 => ?_) (fun c4 => ?_)
      · replace h := o_ff c4 h
        exact w_Pt_readSet_j129 hE C hDD n u40_x1 u40_Sj u40_T0 u40_T1 u40_Rd u40_Mk u40_Lk u40_Ck u40_Jd u40_Ld u40_Pr u40_rt z.1 q3 q3 z.2.1 (Pt_mk (Pt_tokens z.2.2) (Pt_characterCount z.2.2) (Pt_tokenCount z.2.2) ((Pt_position z.2.2) + (1:Int32)) (Pt_total z.2.2) (Pt_least z.2.2) (Pt_most z.2.2) (Pt_depth z.2.2) (Pt_blockStarts z.2.2) (Pt_branchStarts z.2.2) (Pt_jumps z.2.2) (Pt_sizesBefore z.2.2)) h h0 h1 _ _ _ hP hS (lv_sub hl [2, 3, 4, 1, 0] rfl)
      · replace h := o_tt c4 h
        refine lv_aload_n hx hb d_Pt_readSet_85 rfl (lv_at hl 2 rfl) ?_
        refine lv_iconst (v := (1:Int32)) hx hb d_Pt_readSet_86 (by decide) ?_
        obtain ⟨q7, hq7, h⟩ := o_bd_some h
        refine o_V (st1 := [.int q7]) (w1 := (o_cw ad ca u40_rt u40_Sj u40_T0 u40_T1 u40_Rd z.2.1 (Pt_mk (Pt_tokens z.2.2) (Pt_characterCount z.2.2) (Pt_tokenCount z.2.2) ((Pt_position z.2.2) + (1:Int32)) (Pt_total z.2.2) (Pt_least z.2.2) (Pt_most z.2.2) (Pt_depth z.2.2) (Pt_blockStarts z.2.2) (Pt_branchStarts z.2.2) (Pt_jumps z.2.2) (Pt_sizesBefore z.2.2)) u40_Mk u40_Lk u40_Ck u40_Jd u40_Ld u40_Pr)) hE.1 C (c_Pt_peek hE l (1:Int32) (Pt_mk (Pt_tokens z.2.2) (Pt_characterCount z.2.2) (Pt_tokenCount z.2.2) ((Pt_position z.2.2) + (1:Int32)) (Pt_total z.2.2) (Pt_least z.2.2) (Pt_most z.2.2) (Pt_depth z.2.2) (Pt_blockStarts z.2.2) (Pt_branchStarts z.2.2) (Pt_jumps z.2.2) (Pt_sizesBefore z.2.2)) u40_Sj u40_T0 u40_T1 u40_Rd z.2.1 u40_Mk u40_Lk u40_Ck u40_Jd u40_Ld u40_Pr u40_rt hq7) hP (hDD _ _ _ _ _ _ _ _ _ _ _ _ _) hS hl.1 rfl cw_33 k_4_214 k_4_216 k_s_28 k_1_5 k_4_217 hv_Pt_peek rfl rfl ⟨(Nat.le_of_ble_eq_true rfl), (Nat.le_of_ble_eq_true rfl)⟩ rfl (Nat.le_of_ble_eq_true rfl) ⟨Nat.zero_le _, Nat.zero_le _⟩ rfl d_Pt_readSet_87 (fun H locs hP hS => ?_)
        refine lv_bipush (v := (-93:Int32)) hx hb d_Pt_readSet_90 (by decide) ?_
        refine lv_icmp_eq (tgt := 129) hx hb d_Pt_readSet_92 (by decide) (fun c9 => ?_) (fun c9 => ?_)
        · replace h := o_tt c9 h
          exact w_Pt_readSet_j129 hE C hDD n u40_x1 u40_Sj u40_T0 u40_T1 u40_Rd u40_Mk u40_Lk u40_Ck u40_Jd u40_Ld u40_Pr u40_rt z.1 q3 q3 z.2.1 (Pt_mk (Pt_tokens z.2.2) (Pt_characterCount z.2.2) (Pt_tokenCount z.2.2) ((Pt_position z.2.2) + (1:Int32)) (Pt_total z.2.2) (Pt_least z.2.2) (Pt_most z.2.2) (Pt_depth z.2.2) (Pt_blockStarts z.2.2) (Pt_branchStarts z.2.2) (Pt_jumps z.2.2) (Pt_sizesBefore z.2.2)) h h0 h1 _ _ _ hP hS (lv_sub hl [2, 3, 4, 1, 0] rfl)
        · replace h := o_ff c9 h
          refine lv_aload_n hx hb d_Pt_readSet_95 rfl (lv_at hl 2 rfl) ?_
          refine lv_iconst (v := (1:Int32)) hx hb d_Pt_readSet_96 (by decide) ?_
          obtain ⟨q8, hq8, h⟩ := o_bd_some h
          refine o_V (st1 := [.int q8]) (w1 := (o_cw ad ca u40_rt u40_Sj u40_T0 u40_T1 u40_Rd z.2.1 (Pt_mk (Pt_tokens z.2.2) (Pt_characterCount z.2.2) (Pt_tokenCount z.2.2) ((Pt_position z.2.2) + (1:Int32)) (Pt_total z.2.2) (Pt_least z.2.2) (Pt_most z.2.2) (Pt_depth z.2.2) (Pt_blockStarts z.2.2) (Pt_branchStarts z.2.2) (Pt_jumps z.2.2) (Pt_sizesBefore z.2.2)) u40_Mk u40_Lk u40_Ck u40_Jd u40_Ld u40_Pr)) hE.1 C (c_Pt_peek hE l (1:Int32) (Pt_mk (Pt_tokens z.2.2) (Pt_characterCount z.2.2) (Pt_tokenCount z.2.2) ((Pt_position z.2.2) + (1:Int32)) (Pt_total z.2.2) (Pt_least z.2.2) (Pt_most z.2.2) (Pt_depth z.2.2) (Pt_blockStarts z.2.2) (Pt_branchStarts z.2.2) (Pt_jumps z.2.2) (Pt_sizesBefore z.2.2)) u40_Sj u40_T0 u40_T1 u40_Rd z.2.1 u40_Mk u40_Lk u40_Ck u40_Jd u40_Ld u40_Pr u40_rt hq8) hP (hDD _ _ _ _ _ _ _ _ _ _ _ _ _) hS hl.1 rfl cw_33 k_4_214 k_4_216 k_s_28 k_1_5 k_4_217 hv_Pt_peek rfl rfl ⟨(Nat.le_of_ble_eq_true rfl), (Nat.le_of_ble_eq_true rfl)⟩ rfl (Nat.le_of_ble_eq_true rfl) ⟨Nat.zero_le _, Nat.zero_le _⟩ rfl d_Pt_readSet_97 (fun H locs hP hS => ?_)
          refine lv_istore (lv' := [(4, .int q8), (3, .int q3), (0, .ref (ad 33)), (1, .int u40_x1), (2, .int z.1)]) hx hb d_Pt_readSet_100 hl (by decide) rfl (fun ls hl => ?_)
          refine lv_aload_n hx hb d_Pt_readSet_102 rfl (lv_at hl 2 rfl) ?_
          refine lv_dup hx hb d_Pt_readSet_103 rfl ?_
          refine o_get (v := .int ((Pt_position z.2.2) + (1:Int32))) C in_Pt hP 33 cw_33 rfl 4 (by decide) k_1_164 rfl rfl d_Pt_readSet_104 ?_
          refine lv_iconst (v := (2:Int32)) hx hb d_Pt_readSet_107 (by decide) ?_
          refine lv_iadd hx hb d_Pt_readSet_108 ?_
          refine o_put (v := .int (((Pt_position z.2.2) + (1:Int32)) + (2:Int32))) (ty := .int) (w1 := (o_cw ad ca u40_rt u40_Sj u40_T0 u40_T1 u40_Rd z.2.1 (Pt_mk (Pt_tokens z.2.2) (Pt_characterCount z.2.2) (Pt_tokenCount z.2.2) (((Pt_position z.2.2) + (1:Int32)) + (2:Int32)) (Pt_total z.2.2) (Pt_least z.2.2) (Pt_most z.2.2) (Pt_depth z.2.2) (Pt_blockStarts z.2.2) (Pt_branchStarts z.2.2) (Pt_jumps z.2.2) (Pt_sizesBefore z.2.2)) u40_Mk u40_Lk u40_Ck u40_Jd u40_Ld u40_Pr)) C in_Pt t_Pt t_Pt_ok n_Pt hP (hDD _ _ _ _ _ _ _ _ _ _ _ _ _) hS 33 cw_33 rfl 4 (by decide) k_1_164 rfl rfl (by decide +kernel) rfl rfl (Nat.le_of_ble_eq_true rfl) rfl d_Pt_readSet_109 (fun H locs hP hS => ?_)
          refine lv_iload_n hx hb d_Pt_readSet_112 rfl (lv_at hl 1 rfl) ?_
          refine lv_ldc (v := (4194304:Int32)) hx hb hown (hts _ k_4_199) d_Pt_readSet_113 ?_
          refine lv_iand hx hb d_Pt_readSet_115 ?_
          refine lv_if_ne (tgt := 127) hx hb d_Pt_readSet_116 (by decide) (fun c10 => ?_) (fun c10 => ?_)
          · replace h := o_ff c10 h
            cases h
            exact h1 (Nat.succ_ne_zero 1) _ _ _ hP hS (lv_sub hl [] rfl)
          · replace h := o_tt c10 h
            refine lv_iload hx hb d_Pt_readSet_119 (lv_at hl 0 rfl) ?_
            refine lv_ldc (v := (4194304:Int32)) hx hb hown (hts _ k_4_199) d_Pt_readSet_121 ?_
            refine lv_iand hx hb d_Pt_readSet_123 ?_
            refine lv_if_eq (tgt := 129) hx hb d_Pt_readSet_124 (by decide) (fun c11 => ?_) (fun c11 => ?_)
            · replace h := o_tt c11 h
              exact w_Pt_readSet_j129 hE C hDD n u40_x1 u40_Sj u40_T0 u40_T1 u40_Rd u40_Mk u40_Lk u40_Ck u40_Jd u40_Ld u40_Pr u40_rt z.1 q3 q8 z.2.1 (Pt_mk (Pt_tokens z.2.2) (Pt_characterCount z.2.2) (Pt_tokenCount z.2.2) (((Pt_position z.2.2) + (1:Int32)) + (2:Int32)) (Pt_total z.2.2) (Pt_least z.2.2) (Pt_most z.2.2) (Pt_depth z.2.2) (Pt_blockStarts z.2.2) (Pt_branchStarts z.2.2) (Pt_jumps z.2.2) (Pt_sizesBefore z.2.2)) h h0 h1 _ _ _ hP hS (lv_sub hl [2, 3, 4, 1, 0] rfl)
            · replace h := o_ff c11 h
              cases h
              exact h1 (Nat.succ_ne_zero 1) _ _ _ hP hS (lv_sub hl [] rfl)
    · replace h := o_tt c3 h
      cases h
      exact h1 (Nat.succ_ne_zero 0) _ _ _ hP hS (lv_sub hl [2] rfl)
set_option maxHeartbeats 4000000 in
set_option maxRecDepth 100000 in
theorem c_Pt_readSet {E : (Nat → Prop) → State → Heap → Prop} {D : va_G} {ad kd sd vd xd : Nat → Nat} {ca : Nat → ClassId} (hE : o_EK E kd sd vd xd) (l : Launch) (n : Nat)  (Pg : SPg) (Pt : SPt) (Sj : SSJ) (T0 : STx) (T1 : STx) (Rd : SRd) (Mk : SMk) (Lk : SLk) (Ck : SCk) (Jd : SJd) (Ld : SLd) (Pr : SPr) (rt : Nat) {r : Int32 × SPg × SPt} (h : m_Pt_readSet n Pg Pt = some r) : o_Cn E l D o_cls (o_tys ca) y_Pt_readSet cc_Pt_readSet rm_Pt_readSet [.ref (ad 33)] (o_cw ad ca rt Sj T0 T1 Rd Pg Pt Mk Lk Ck Jd Ld Pr) (o_cw ad ca rt Sj T0 T1 Rd r.2.1 r.2.2 Mk Lk Ck Jd Ld Pr) (some (.int r.1)) := by
  refine o_Cn_of (by decide) (Nat.le_of_ble_eq_true rfl) ?_
  intro p e s m below meth c A ls C hD hP hS hl
  have hDD : ∀ (rt : Nat) (Sj : SSJ) (T0 : STx) (T1 : STx) (Rd : SRd) (Pg : SPg) (Pt : SPt) (Mk : SMk) (Lk : SLk) (Ck : SCk) (Jd : SJd) (Ld : SLd) (Pr : SPr), va_D A (o_cw ad ca rt Sj T0 T1 Rd Pg Pt Mk Lk Ck Jd Ld Pr) := fun _ _ _ _ _ _ _ _ _ _ _ _ _ => o_D_map hD rfl
  have hl : lv_has ls 5 [(0, .ref (ad 33))] := hl
  unfold m_Pt_readSet at h
  have C0 := C
  obtain ⟨hx, hb, -, -, -, hown, hts, hK, -, -⟩ := C0
  refine lv_aload_n hx hb d_Pt_readSet_0 rfl (lv_at hl 0 rfl) ?_
  refine o_get (v := .ref (ad 25)) C in_Pt hP 33 cw_33 rfl 0 (by decide) k_1_160 rfl rfl d_Pt_readSet_1 ?_
  obtain ⟨q1, hq1, h⟩ := o_bd_some h
  refine o_V (st1 := [.int q1.1]) (w1 := (o_cw ad ca rt Sj T0 T1 Rd q1.2 Pt Mk Lk Ck Jd Ld Pr)) hE.1 C (c_Pg_beginSet hE l Pg Sj T0 T1 Rd Pt Mk Lk Ck Jd Ld Pr rt hq1) hP (hDD _ _ _ _ _ _ _ _ _ _ _ _ _) hS hl.1 rfl cw_25 k_5_15 k_5_16 k_5_17 k_1_4 k_5_18 hv_Pg_beginSet rfl rfl ⟨(Nat.le_of_ble_eq_true rfl), (Nat.le_of_ble_eq_true rfl)⟩ rfl (Nat.le_of_ble_eq_true rfl) ⟨Nat.zero_le _, Nat.zero_le _⟩ rfl d_Pt_readSet_4 (fun H locs hP hS => ?_)
  refine lv_istore_n (lv' := [(1, .int q1.1), (0, .ref (ad 33))]) hx hb d_Pt_readSet_7 rfl hl (by decide) rfl (fun ls hl => ?_)
  refine lv_aload_n hx hb d_Pt_readSet_8 rfl (lv_at hl 1 rfl) ?_
  refine lv_iconst (v := (0:Int32)) hx hb d_Pt_readSet_9 (by decide) ?_
  obtain ⟨q2, hq2, h⟩ := o_bd_some h
  refine o_V (st1 := [.int q2]) (w1 := (o_cw ad ca rt Sj T0 T1 Rd q1.2 Pt Mk Lk Ck Jd Ld Pr)) hE.1 C (c_Pt_peek hE l (0:Int32) Pt Sj T0 T1 Rd q1.2 Mk Lk Ck Jd Ld Pr rt hq2) hP (hDD _ _ _ _ _ _ _ _ _ _ _ _ _) hS hl.1 rfl cw_33 k_4_214 k_4_216 k_s_28 k_1_5 k_4_217 hv_Pt_peek rfl rfl ⟨(Nat.le_of_ble_eq_true rfl), (Nat.le_of_ble_eq_true rfl)⟩ rfl (Nat.le_of_ble_eq_true rfl) ⟨Nat.zero_le _, Nat.zero_le _⟩ rfl d_Pt_readSet_10 (fun H locs hP hS => ?_)
  refine lv_bipush (v := (94:Int32)) hx hb d_Pt_readSet_13 (by decide) ?_
  refine lv_icmp_ne (tgt := 38) hx hb d_Pt_readSet_15 (by decide) (fun c1 => ?_) (fun c1 => ?_)
  · replace h := o_ff c1 h
    refine lv_iconst (v := (0:Int32)) hx hb d_Pt_readSet_38 (by decide) ?_
    refine lv_istore_n (lv' := [(2, .int (0:Int32)), (1, .int q1.1), (0, .ref (ad 33))]) hx hb d_Pt_readSet_39 rfl hl (by decide) rfl (fun ls hl => ?_)
    obtain ⟨q9, hq9, h⟩ := o_bd_some h
    refine o_sim2 (AH := fun zz => o_At p l e rm_Pt_readSet s m _ below meth c _ o_cls D A 5 40 [] (o_cw ad ca rt Sj T0 T1 Rd zz.2.1 zz.2.2 Mk Lk Ck Jd Ld Pr) [(0, .ref (ad 33)), (1, .int q1.1), (2, .int zz.1)]) (AX := fun qq => if qq.1 = 1 then o_At p l e rm_Pt_readSet s m _ below meth c _ o_cls D A 5 70 [] (o_cw ad ca rt Sj T0 T1 Rd qq.2.2.1 qq.2.2.2 Mk Lk Ck Jd Ld Pr) [(1, .int q1.1)] else if qq.1 = 2 then o_At p l e rm_Pt_readSet s m _ below meth c _ o_cls D A 5 127 [] (o_cw ad ca rt Sj T0 T1 Rd qq.2.2.1 qq.2.2.2 Mk Lk Ck Jd Ld Pr) [] else if qq.1 = 3 then o_At p l e rm_Pt_readSet s m _ below meth c _ o_cls D A 5 150 [] (o_cw ad ca rt Sj T0 T1 Rd qq.2.2.1 qq.2.2.2 Mk Lk Ck Jd Ld Pr) [] else o_At p l e rm_Pt_readSet s m _ below meth c _ o_cls D A 5 197 [] (o_cw ad ca rt Sj T0 T1 Rd qq.2.2.1 qq.2.2.2 Mk Lk Ck Jd Ld Pr) []) (fun zz qq h h0 h1 => w_Pt_readSet_b40 hE C hDD n q1.1 Sj T0 T1 Rd Mk Lk Ck Jd Ld Pr rt zz qq h h0 h1) n _ q9 hq9 ?_ _ _ _ hP hS (lv_sub hl [2, 1, 0] rfl)
    by_cases c12 : q9.1 = 1
    · replace h := o_tt c12 h
      refine o_ip c12 ?_
      intro H locs ls hP hS hl
      refine lv_iload_n hx hb d_Pt_readSet_70 rfl (lv_at hl 0 rfl) ?_
      cases h
      exact o_ri C hP hS d_Pt_readSet_71
    replace h := o_ff c12 h
    refine o_in_ c12 ?_
    by_cases c13 : q9.1 = 2
    · replace h := o_tt c13 h
      refine o_ip c13 ?_
      intro H locs ls hP hS hl
      refine lv_iconst (v := (-1:Int32)) hx hb d_Pt_readSet_127 (by decide) ?_
      cases h
      exact o_ri (v := (-1:Int32)) C hP hS d_Pt_readSet_128
    replace h := o_ff c13 h
    refine o_in_ c13 ?_
    by_cases c14 : q9.1 = 3
    · replace h := o_tt c14 h
      refine o_ip c14 ?_
      intro H locs ls hP hS hl
      refine lv_iconst (v := (-1:Int32)) hx hb d_Pt_readSet_150 (by decide) ?_
      cases h
      exact o_ri (v := (-1:Int32)) C hP hS d_Pt_readSet_151
    replace h := o_ff c14 h
    refine o_in_ c14 ?_
    intro H locs ls hP hS hl
    refine lv_iconst (v := (-1:Int32)) hx hb d_Pt_readSet_197 (by decide) ?_
    cases h
    exact o_ri (v := (-1:Int32)) C hP hS d_Pt_readSet_198
  · replace h := o_tt c1 h
    refine lv_aload_n hx hb d_Pt_readSet_18 rfl (lv_at hl 1 rfl) ?_
    refine o_get (v := .ref (ad 25)) C in_Pt hP 33 cw_33 rfl 0 (by decide) k_1_160 rfl rfl d_Pt_readSet_19 ?_
    refine lv_iload_n hx hb d_Pt_readSet_22 rfl (lv_at hl 0 rfl) ?_
    refine lv_bipush (v := (64:Int32)) hx hb d_Pt_readSet_23 (by decide) ?_
    obtain ⟨q10, hq10, h⟩ := o_bd_some h
    refine o_V (st1 := []) (w1 := (o_cw ad ca rt Sj T0 T1 Rd q10 Pt Mk Lk Ck Jd Ld Pr)) hE.1 C (c_Pg_addClass hE l q1.1 (64:Int32) q1.2 Sj T0 T1 Rd Pt Mk Lk Ck Jd Ld Pr rt hq10) hP (hDD _ _ _ _ _ _ _ _ _ _ _ _ _) hS hl.1 rfl cw_25 k_5_19 k_5_20 k_5_21 k_1_4 k_5_22 hv_Pg_addClass rfl rfl ⟨(Nat.le_of_ble_eq_true rfl), (Nat.le_of_ble_eq_true rfl)⟩ rfl (Nat.le_of_ble_eq_true rfl) ⟨Nat.zero_le _, Nat.zero_le _⟩ rfl d_Pt_readSet_25 (fun H locs hP hS => ?_)
    refine lv_aload_n hx hb d_Pt_readSet_28 rfl (lv_at hl 1 rfl) ?_
    refine lv_dup hx hb d_Pt_readSet_29 rfl ?_
    refine o_get (v := .int (Pt_position Pt)) C in_Pt hP 33 cw_33 rfl 4 (by decide) k_1_164 rfl rfl d_Pt_readSet_30 ?_
    refine lv_iconst (v := (1:Int32)) hx hb d_Pt_readSet_33 (by decide) ?_
    refine lv_iadd hx hb d_Pt_readSet_34 ?_
    refine o_put (v := .int ((Pt_position Pt) + (1:Int32))) (ty := .int) (w1 := (o_cw ad ca rt Sj T0 T1 Rd q10 (Pt_mk (Pt_tokens Pt) (Pt_characterCount Pt) (Pt_tokenCount Pt) ((Pt_position Pt) + (1:Int32)) (Pt_total Pt) (Pt_least Pt) (Pt_most Pt) (Pt_depth Pt) (Pt_blockStarts Pt) (Pt_branchStarts Pt) (Pt_jumps Pt) (Pt_sizesBefore Pt)) Mk Lk Ck Jd Ld Pr)) C in_Pt t_Pt t_Pt_ok n_Pt hP (hDD _ _ _ _ _ _ _ _ _ _ _ _ _) hS 33 cw_33 rfl 4 (by decide) k_1_164 rfl rfl (by decide +kernel) rfl rfl (Nat.le_of_ble_eq_true rfl) rfl d_Pt_readSet_35 (fun H locs hP hS => ?_)
    refine lv_iconst (v := (0:Int32)) hx hb d_Pt_readSet_38 (by decide) ?_
    refine lv_istore_n (lv' := [(2, .int (0:Int32)), (1, .int q1.1), (0, .ref (ad 33))]) hx hb d_Pt_readSet_39 rfl hl (by decide) rfl (fun ls hl => ?_)
    obtain ⟨q11, hq11, h⟩ := o_bd_some h
    refine o_sim2 (AH := fun zz => o_At p l e rm_Pt_readSet s m _ below meth c _ o_cls D A 5 40 [] (o_cw ad ca rt Sj T0 T1 Rd zz.2.1 zz.2.2 Mk Lk Ck Jd Ld Pr) [(0, .ref (ad 33)), (1, .int q1.1), (2, .int zz.1)]) (AX := fun qq => if qq.1 = 1 then o_At p l e rm_Pt_readSet s m _ below meth c _ o_cls D A 5 70 [] (o_cw ad ca rt Sj T0 T1 Rd qq.2.2.1 qq.2.2.2 Mk Lk Ck Jd Ld Pr) [(1, .int q1.1)] else if qq.1 = 2 then o_At p l e rm_Pt_readSet s m _ below meth c _ o_cls D A 5 127 [] (o_cw ad ca rt Sj T0 T1 Rd qq.2.2.1 qq.2.2.2 Mk Lk Ck Jd Ld Pr) [] else if qq.1 = 3 then o_At p l e rm_Pt_readSet s m _ below meth c _ o_cls D A 5 150 [] (o_cw ad ca rt Sj T0 T1 Rd qq.2.2.1 qq.2.2.2 Mk Lk Ck Jd Ld Pr) [] else o_At p l e rm_Pt_readSet s m _ below meth c _ o_cls D A 5 197 [] (o_cw ad ca rt Sj T0 T1 Rd qq.2.2.1 qq.2.2.2 Mk Lk Ck Jd Ld Pr) []) (fun zz qq h h0 h1 => w_Pt_readSet_b40 hE C hDD n q1.1 Sj T0 T1 Rd Mk Lk Ck Jd Ld Pr rt zz qq h h0 h1) n _ q11 hq11 ?_ _ _ _ hP hS (lv_sub hl [2, 1, 0] rfl)
    by_cases c15 : q11.1 = 1
    · replace h := o_tt c15 h
      refine o_ip c15 ?_
      intro H locs ls hP hS hl
      refine lv_iload_n hx hb d_Pt_readSet_70 rfl (lv_at hl 0 rfl) ?_
      cases h
      exact o_ri C hP hS d_Pt_readSet_71
    replace h := o_ff c15 h
    refine o_in_ c15 ?_
    by_cases c16 : q11.1 = 2
    · replace h := o_tt c16 h
      refine o_ip c16 ?_
      intro H locs ls hP hS hl
      refine lv_iconst (v := (-1:Int32)) hx hb d_Pt_readSet_127 (by decide) ?_
      cases h
      exact o_ri (v := (-1:Int32)) C hP hS d_Pt_readSet_128
    replace h := o_ff c16 h
    refine o_in_ c16 ?_
    by_cases c17 : q11.1 = 3
    · replace h := o_tt c17 h
      refine o_ip c17 ?_
      intro H locs ls hP hS hl
      refine lv_iconst (v := (-1:Int32)) hx hb d_Pt_readSet_150 (by decide) ?_
      cases h
      exact o_ri (v := (-1:Int32)) C hP hS d_Pt_readSet_151
    replace h := o_ff c17 h
    refine o_in_ c17 ?_
    intro H locs ls hP hS hl
    refine lv_iconst (v := (-1:Int32)) hx hb d_Pt_readSet_197 (by decide) ?_
    cases h
    exact o_ri (v := (-1:Int32)) C hP hS d_Pt_readSet_198
set_option maxHeartbeats 4000000 in
set_option maxRecDepth 100000 in
theorem w_Pt_single_j139 {E : (Nat → Prop) → State → Heap → Prop} {p : Program} {l : Launch} {e : Env} {s : State} {m : MethodId} {args : Array Value} {below : List Frame} {meth : Method} {c : Code} {D : va_G} {ad kd sd vd xd : Nat → Nat} {ca : Nat → ClassId} {A : Nat → Prop} (hE : o_EK E kd sd vd xd) (C : o_Cx E p s m args meth c D o_cls (o_tys ca) "SchemaJudge$Pattern" b_Pt_single (some .boolean) 3 cc_Pt_single A) (hDD : ∀ (rt : Nat) (Sj : SSJ) (T0 : STx) (T1 : STx) (Rd : SRd) (Pg : SPg) (Pt : SPt) (Mk : SMk) (Lk : SLk) (Ck : SCk) (Jd : SJd) (Ld : SLd) (Pr : SPr), va_D A (o_cw ad ca rt Sj T0 T1 Rd Pg Pt Mk Lk Ck Jd Ld Pr)) (x1 : Int32) (Pg : SPg) (Pt : SPt) (Sj : SSJ) (T0 : STx) (T1 : STx) (Rd : SRd) (Mk : SMk) (Lk : SLk) (Ck : SCk) (Jd : SJd) (Ld : SLd) (Pr : SPr) (rt : Nat) {r : Int32 × SPg × SPt} (h : m_Pt_single_j139 x1 Pg Pt = some r) : o_At p l e rm_Pt_single s m args below meth c (MQ below (o_Qx D o_cls (some (.int r.1)) (o_cw ad ca rt Sj T0 T1 Rd r.2.1 r.2.2 Mk Lk Ck Jd Ld Pr) A) args s 0 0 A) o_cls D A 3 139 [] (o_cw ad ca rt Sj T0 T1 Rd Pg Pt Mk Lk Ck Jd Ld Pr) [(1, .int x1)] := by
  unfold m_Pt_single_j139 at h
  intro H locs ls hP hS hl
  have C0 := C
  obtain ⟨hx, hb, -, -, -, hown, hts, hK, -, -⟩ := C0
  refine lv_iload_n hx hb d_Pt_single_139 rfl (lv_at hl 0 rfl) ?_
  refine lv_if_lt (tgt := 147) hx hb d_Pt_single_140 (by decide) (fun c7 => ?_) (fun c7 => ?_)
  · replace h := o_tt c7 h
    refine lv_iconst (v := (0:Int32)) hx hb d_Pt_single_147 (by decide) ?_
    cases h
    exact o_rz (v := (0:Int32)) C o_nar0 hP hS d_Pt_single_148
  · replace h := o_ff c7 h
    refine lv_iconst (v := (1:Int32)) hx hb d_Pt_single_143 (by decide) ?_
    refine lv_goto (tgt := 148) hx hb d_Pt_single_144 (by decide) ?_
    cases h
    exact o_rz (v := (1:Int32)) C o_nar1 hP hS d_Pt_single_148
set_option maxHeartbeats 4000000 in
set_option maxRecDepth 100000 in
theorem c_Pt_single {E : (Nat → Prop) → State → Heap → Prop} {D : va_G} {ad kd sd vd xd : Nat → Nat} {ca : Nat → ClassId} (hE : o_EK E kd sd vd xd) (l : Launch) (x1 : Int32) (x2 : Int32) (Pg : SPg) (Pt : SPt) (Sj : SSJ) (T0 : STx) (T1 : STx) (Rd : SRd) (Mk : SMk) (Lk : SLk) (Ck : SCk) (Jd : SJd) (Ld : SLd) (Pr : SPr) (rt : Nat) {r : Int32 × SPg × SPt} (h : m_Pt_single x1 x2 Pg Pt = some r) : o_Cn E l D o_cls (o_tys ca) y_Pt_single cc_Pt_single rm_Pt_single [.ref (ad 33), .int x1, .int x2] (o_cw ad ca rt Sj T0 T1 Rd Pg Pt Mk Lk Ck Jd Ld Pr) (o_cw ad ca rt Sj T0 T1 Rd r.2.1 r.2.2 Mk Lk Ck Jd Ld Pr) (some (.int r.1)) := by
  refine o_Cn_of (by decide) (Nat.le_of_ble_eq_true rfl) ?_
  intro p e s m below meth c A ls C hD hP hS hl
  have hDD : ∀ (rt : Nat) (Sj : SSJ) (T0 : STx) (T1 : STx) (Rd : SRd) (Pg : SPg) (Pt : SPt) (Mk : SMk) (Lk : SLk) (Ck : SCk) (Jd : SJd) (Ld : SLd) (Pr : SPr), va_D A (o_cw ad ca rt Sj T0 T1 Rd Pg Pt Mk Lk Ck Jd Ld Pr) := fun _ _ _ _ _ _ _ _ _ _ _ _ _ => o_D_map hD rfl
  have hl : lv_has ls 3 [(0, .ref (ad 33)), (1, .int x1), (2, .int x2)] := hl
  unfold m_Pt_single at h
  have C0 := C
  obtain ⟨hx, hb, -, -, -, hown, hts, hK, -, -⟩ := C0
  refine lv_aload_n hx hb d_Pt_single_0 rfl (lv_at hl 0 rfl) ?_
  refine lv_dup hx hb d_Pt_single_1 rfl ?_
  refine o_get (v := .int (Pt_total Pt)) C in_Pt hP 33 cw_33 rfl 5 (by decide) k_1_165 rfl rfl d_Pt_single_2 ?_
  refine lv_iconst (v := (1:Int32)) hx hb d_Pt_single_5 (by decide) ?_
  refine lv_iadd hx hb d_Pt_single_6 ?_
  refine o_put (v := .int ((Pt_total Pt) + (1:Int32))) (ty := .int) (w1 := (o_cw ad ca rt Sj T0 T1 Rd Pg (Pt_mk (Pt_tokens Pt) (Pt_characterCount Pt) (Pt_tokenCount Pt) (Pt_position Pt) ((Pt_total Pt) + (1:Int32)) (Pt_least Pt) (Pt_most Pt) (Pt_depth Pt) (Pt_blockStarts Pt) (Pt_branchStarts Pt) (Pt_jumps Pt) (Pt_sizesBefore Pt)) Mk Lk Ck Jd Ld Pr)) C in_Pt t_Pt t_Pt_ok n_Pt hP (hDD _ _ _ _ _ _ _ _ _ _ _ _ _) hS 33 cw_33 rfl 5 (by decide) k_1_165 rfl rfl (by decide +kernel) rfl rfl (Nat.le_of_ble_eq_true rfl) rfl d_Pt_single_7 (fun H locs hP hS => ?_)
  refine lv_iload_n hx hb d_Pt_single_10 rfl (lv_at hl 1 rfl) ?_
  by_cases c1 : x1 = (-94:Int32)
  · replace h := o_tt c1 h
    refine lv_lookup (off := 41) (tgt := 52) hx hb d_Pt_single_11 (by decide) (by rw [c1]; rfl) (by decide) ?_
    refine lv_aload_n hx hb d_Pt_single_52 rfl (lv_at hl 0 rfl) ?_
    refine o_get (v := .ref (ad 25)) C in_Pt hP 33 cw_33 rfl 0 (by decide) k_1_160 rfl rfl d_Pt_single_53 ?_
    refine lv_iconst (v := (4:Int32)) hx hb d_Pt_single_56 (by decide) ?_
    refine lv_iconst (v := (0:Int32)) hx hb d_Pt_single_57 (by decide) ?_
    obtain ⟨q1, hq1, h⟩ := o_bd_some h
    refine o_V (st1 := []) (w1 := (o_cw ad ca rt Sj T0 T1 Rd q1 (Pt_mk (Pt_tokens Pt) (Pt_characterCount Pt) (Pt_tokenCount Pt) (Pt_position Pt) ((Pt_total Pt) + (1:Int32)) (Pt_least Pt) (Pt_most Pt) (Pt_depth Pt) (Pt_blockStarts Pt) (Pt_branchStarts Pt) (Pt_jumps Pt) (Pt_sizesBefore Pt)) Mk Lk Ck Jd Ld Pr)) hE.1 C (c_Pg_emit hE l (4:Int32) (0:Int32) Pg Sj T0 T1 Rd (Pt_mk (Pt_tokens Pt) (Pt_characterCount Pt) (Pt_tokenCount Pt) (Pt_position Pt) ((Pt_total Pt) + (1:Int32)) (Pt_least Pt) (Pt_most Pt) (Pt_depth Pt) (Pt_blockStarts Pt) (Pt_branchStarts Pt) (Pt_jumps Pt) (Pt_sizesBefore Pt)) Mk Lk Ck Jd Ld Pr rt hq1) hP (hDD _ _ _ _ _ _ _ _ _ _ _ _ _) hS hl.1 rfl cw_25 k_5_7 k_5_8 k_5_9 k_1_4 k_5_10 hv_Pg_emit rfl rfl ⟨(Nat.le_of_ble_eq_true rfl), (Nat.le_of_ble_eq_true rfl)⟩ rfl (Nat.le_of_ble_eq_true rfl) ⟨Nat.zero_le _, Nat.zero_le _⟩ rfl d_Pt_single_58 (fun H locs hP hS => ?_)
    refine lv_iconst (v := (1:Int32)) hx hb d_Pt_single_61 (by decide) ?_
    cases h
    exact o_rz (v := (1:Int32)) C o_nar1 hP hS d_Pt_single_62
  replace h := o_ff c1 h
  by_cases c2 : x1 = (-91:Int32)
  · replace h := o_tt c2 h
    refine lv_lookup (off := 74) (tgt := 85) hx hb d_Pt_single_11 (by decide) (by rw [c2]; rfl) (by decide) ?_
    refine lv_aload_n hx hb d_Pt_single_85 rfl (lv_at hl 0 rfl) ?_
    refine o_get (v := .ref (ad 25)) C in_Pt hP 33 cw_33 rfl 0 (by decide) k_1_160 rfl rfl d_Pt_single_86 ?_
    refine lv_iconst (v := (3:Int32)) hx hb d_Pt_single_89 (by decide) ?_
    refine lv_iload_n hx hb d_Pt_single_90 rfl (lv_at hl 2 rfl) ?_
    obtain ⟨q2, hq2, h⟩ := o_bd_some h
    refine o_V (st1 := []) (w1 := (o_cw ad ca rt Sj T0 T1 Rd q2 (Pt_mk (Pt_tokens Pt) (Pt_characterCount Pt) (Pt_tokenCount Pt) (Pt_position Pt) ((Pt_total Pt) + (1:Int32)) (Pt_least Pt) (Pt_most Pt) (Pt_depth Pt) (Pt_blockStarts Pt) (Pt_branchStarts Pt) (Pt_jumps Pt) (Pt_sizesBefore Pt)) Mk Lk Ck Jd Ld Pr)) hE.1 C (c_Pg_emit hE l (3:Int32) x2 Pg Sj T0 T1 Rd (Pt_mk (Pt_tokens Pt) (Pt_characterCount Pt) (Pt_tokenCount Pt) (Pt_position Pt) ((Pt_total Pt) + (1:Int32)) (Pt_least Pt) (Pt_most Pt) (Pt_depth Pt) (Pt_blockStarts Pt) (Pt_branchStarts Pt) (Pt_jumps Pt) (Pt_sizesBefore Pt)) Mk Lk Ck Jd Ld Pr rt hq2) hP (hDD _ _ _ _ _ _ _ _ _ _ _ _ _) hS hl.1 rfl cw_25 k_5_7 k_5_8 k_5_9 k_1_4 k_5_10 hv_Pg_emit rfl rfl ⟨(Nat.le_of_ble_eq_true rfl), (Nat.le_of_ble_eq_true rfl)⟩ rfl (Nat.le_of_ble_eq_true rfl) ⟨Nat.zero_le _, Nat.zero_le _⟩ rfl d_Pt_single_91 (fun H locs hP hS => ?_)
    refine lv_iload_n hx hb d_Pt_single_94 rfl (lv_at hl 2 rfl) ?_
    refine lv_iconst (v := (-1:Int32)) hx hb d_Pt_single_95 (by decide) ?_
    refine lv_icmp_eq (tgt := 103) hx hb d_Pt_single_96 (by decide) (fun c3 => ?_) (fun c3 => ?_)
    · replace h := o_tt c3 h
      refine lv_iconst (v := (0:Int32)) hx hb d_Pt_single_103 (by decide) ?_
      cases h
      exact o_rz (v := (0:Int32)) C o_nar0 hP hS d_Pt_single_104
    · replace h := o_ff c3 h
      refine lv_iconst (v := (1:Int32)) hx hb d_Pt_single_99 (by decide) ?_
      refine lv_goto (tgt := 104) hx hb d_Pt_single_100 (by decide) ?_
      cases h
      exact o_rz (v := (1:Int32)) C o_nar1 hP hS d_Pt_single_104
  replace h := o_ff c2 h
  by_cases c4 : x1 = (-46:Int32)
  · replace h := o_tt c4 h
    refine lv_lookup (off := 63) (tgt := 74) hx hb d_Pt_single_11 (by decide) (by rw [c4]; rfl) (by decide) ?_
    refine lv_aload_n hx hb d_Pt_single_74 rfl (lv_at hl 0 rfl) ?_
    refine o_get (v := .ref (ad 25)) C in_Pt hP 33 cw_33 rfl 0 (by decide) k_1_160 rfl rfl d_Pt_single_75 ?_
    refine lv_iconst (v := (1:Int32)) hx hb d_Pt_single_78 (by decide) ?_
    refine lv_iconst (v := (0:Int32)) hx hb d_Pt_single_79 (by decide) ?_
    obtain ⟨q3, hq3, h⟩ := o_bd_some h
    refine o_V (st1 := []) (w1 := (o_cw ad ca rt Sj T0 T1 Rd q3 (Pt_mk (Pt_tokens Pt) (Pt_characterCount Pt) (Pt_tokenCount Pt) (Pt_position Pt) ((Pt_total Pt) + (1:Int32)) (Pt_least Pt) (Pt_most Pt) (Pt_depth Pt) (Pt_blockStarts Pt) (Pt_branchStarts Pt) (Pt_jumps Pt) (Pt_sizesBefore Pt)) Mk Lk Ck Jd Ld Pr)) hE.1 C (c_Pg_emit hE l (1:Int32) (0:Int32) Pg Sj T0 T1 Rd (Pt_mk (Pt_tokens Pt) (Pt_characterCount Pt) (Pt_tokenCount Pt) (Pt_position Pt) ((Pt_total Pt) + (1:Int32)) (Pt_least Pt) (Pt_most Pt) (Pt_depth Pt) (Pt_blockStarts Pt) (Pt_branchStarts Pt) (Pt_jumps Pt) (Pt_sizesBefore Pt)) Mk Lk Ck Jd Ld Pr rt hq3) hP (hDD _ _ _ _ _ _ _ _ _ _ _ _ _) hS hl.1 rfl cw_25 k_5_7 k_5_8 k_5_9 k_1_4 k_5_10 hv_Pg_emit rfl rfl ⟨(Nat.le_of_ble_eq_true rfl), (Nat.le_of_ble_eq_true rfl)⟩ rfl (Nat.le_of_ble_eq_true rfl) ⟨Nat.zero_le _, Nat.zero_le _⟩ rfl d_Pt_single_80 (fun H locs hP hS => ?_)
    refine lv_iconst (v := (1:Int32)) hx hb d_Pt_single_83 (by decide) ?_
    cases h
    exact o_rz (v := (1:Int32)) C o_nar1 hP hS d_Pt_single_84
  replace h := o_ff c4 h
  by_cases c5 : x1 = (-36:Int32)
  · replace h := o_tt c5 h
    refine lv_lookup (off := 52) (tgt := 63) hx hb d_Pt_single_11 (by decide) (by rw [c5]; rfl) (by decide) ?_
    refine lv_aload_n hx hb d_Pt_single_63 rfl (lv_at hl 0 rfl) ?_
    refine o_get (v := .ref (ad 25)) C in_Pt hP 33 cw_33 rfl 0 (by decide) k_1_160 rfl rfl d_Pt_single_64 ?_
    refine lv_iconst (v := (5:Int32)) hx hb d_Pt_single_67 (by decide) ?_
    refine lv_iconst (v := (0:Int32)) hx hb d_Pt_single_68 (by decide) ?_
    obtain ⟨q4, hq4, h⟩ := o_bd_some h
    refine o_V (st1 := []) (w1 := (o_cw ad ca rt Sj T0 T1 Rd q4 (Pt_mk (Pt_tokens Pt) (Pt_characterCount Pt) (Pt_tokenCount Pt) (Pt_position Pt) ((Pt_total Pt) + (1:Int32)) (Pt_least Pt) (Pt_most Pt) (Pt_depth Pt) (Pt_blockStarts Pt) (Pt_branchStarts Pt) (Pt_jumps Pt) (Pt_sizesBefore Pt)) Mk Lk Ck Jd Ld Pr)) hE.1 C (c_Pg_emit hE l (5:Int32) (0:Int32) Pg Sj T0 T1 Rd (Pt_mk (Pt_tokens Pt) (Pt_characterCount Pt) (Pt_tokenCount Pt) (Pt_position Pt) ((Pt_total Pt) + (1:Int32)) (Pt_least Pt) (Pt_most Pt) (Pt_depth Pt) (Pt_blockStarts Pt) (Pt_branchStarts Pt) (Pt_jumps Pt) (Pt_sizesBefore Pt)) Mk Lk Ck Jd Ld Pr rt hq4) hP (hDD _ _ _ _ _ _ _ _ _ _ _ _ _) hS hl.1 rfl cw_25 k_5_7 k_5_8 k_5_9 k_1_4 k_5_10 hv_Pg_emit rfl rfl ⟨(Nat.le_of_ble_eq_true rfl), (Nat.le_of_ble_eq_true rfl)⟩ rfl (Nat.le_of_ble_eq_true rfl) ⟨Nat.zero_le _, Nat.zero_le _⟩ rfl d_Pt_single_69 (fun H locs hP hS => ?_)
    refine lv_iconst (v := (1:Int32)) hx hb d_Pt_single_72 (by decide) ?_
    cases h
    exact o_rz (v := (1:Int32)) C o_nar1 hP hS d_Pt_single_73
  replace h := o_ff c5 h
  refine lv_lookup (off := 94) (tgt := 105) hx hb d_Pt_single_11 (by decide) ((lv_osw c1 (by decide)).trans ((lv_osw c2 (by decide)).trans ((lv_osw c4 (by decide)).trans ((lv_osw c5 (by decide)).trans rfl)))) (by decide) ?_
  refine lv_iload_n hx hb d_Pt_single_105 rfl (lv_at hl 1 rfl) ?_
  refine lv_ldc (v := (4194304:Int32)) hx hb hown (hts _ k_4_199) d_Pt_single_106 ?_
  refine lv_iand hx hb d_Pt_single_108 ?_
  refine lv_if_eq (tgt := 127) hx hb d_Pt_single_109 (by decide) (fun c6 => ?_) (fun c6 => ?_)
  · replace h := o_tt c6 h
    refine lv_aload_n hx hb d_Pt_single_127 rfl (lv_at hl 0 rfl) ?_
    refine o_get (v := .ref (ad 25)) C in_Pt hP 33 cw_33 rfl 0 (by decide) k_1_160 rfl rfl d_Pt_single_128 ?_
    refine lv_iconst (v := (0:Int32)) hx hb d_Pt_single_131 (by decide) ?_
    refine lv_iload_n hx hb d_Pt_single_132 rfl (lv_at hl 1 rfl) ?_
    refine lv_ldc (v := (2097151:Int32)) hx hb hown (hts _ k_5_23) d_Pt_single_133 ?_
    refine lv_iand hx hb d_Pt_single_135 ?_
    obtain ⟨q5, hq5, h⟩ := o_bd_some h
    refine o_V (st1 := []) (w1 := (o_cw ad ca rt Sj T0 T1 Rd q5 (Pt_mk (Pt_tokens Pt) (Pt_characterCount Pt) (Pt_tokenCount Pt) (Pt_position Pt) ((Pt_total Pt) + (1:Int32)) (Pt_least Pt) (Pt_most Pt) (Pt_depth Pt) (Pt_blockStarts Pt) (Pt_branchStarts Pt) (Pt_jumps Pt) (Pt_sizesBefore Pt)) Mk Lk Ck Jd Ld Pr)) hE.1 C (c_Pg_emit hE l (0:Int32) (x1 &&& (2097151:Int32)) Pg Sj T0 T1 Rd (Pt_mk (Pt_tokens Pt) (Pt_characterCount Pt) (Pt_tokenCount Pt) (Pt_position Pt) ((Pt_total Pt) + (1:Int32)) (Pt_least Pt) (Pt_most Pt) (Pt_depth Pt) (Pt_blockStarts Pt) (Pt_branchStarts Pt) (Pt_jumps Pt) (Pt_sizesBefore Pt)) Mk Lk Ck Jd Ld Pr rt hq5) hP (hDD _ _ _ _ _ _ _ _ _ _ _ _ _) hS hl.1 rfl cw_25 k_5_7 k_5_8 k_5_9 k_1_4 k_5_10 hv_Pg_emit rfl rfl ⟨(Nat.le_of_ble_eq_true rfl), (Nat.le_of_ble_eq_true rfl)⟩ rfl (Nat.le_of_ble_eq_true rfl) ⟨Nat.zero_le _, Nat.zero_le _⟩ rfl d_Pt_single_136 (fun H locs hP hS => ?_)
    exact w_Pt_single_j139 hE C hDD x1 q5 (Pt_mk (Pt_tokens Pt) (Pt_characterCount Pt) (Pt_tokenCount Pt) (Pt_position Pt) ((Pt_total Pt) + (1:Int32)) (Pt_least Pt) (Pt_most Pt) (Pt_depth Pt) (Pt_blockStarts Pt) (Pt_branchStarts Pt) (Pt_jumps Pt) (Pt_sizesBefore Pt)) Sj T0 T1 Rd Mk Lk Ck Jd Ld Pr rt h _ _ _ hP hS (lv_sub hl [1] rfl)
  · replace h := o_ff c6 h
    refine lv_aload_n hx hb d_Pt_single_112 rfl (lv_at hl 0 rfl) ?_
    refine o_get (v := .ref (ad 25)) C in_Pt hP 33 cw_33 rfl 0 (by decide) k_1_160 rfl rfl d_Pt_single_113 ?_
    refine lv_iconst (v := (2:Int32)) hx hb d_Pt_single_116 (by decide) ?_
    refine lv_iload_n hx hb d_Pt_single_117 rfl (lv_at hl 1 rfl) ?_
    refine lv_ldc (v := (-4194305:Int32)) hx hb hown (hts _ k_5_24) d_Pt_single_118 ?_
    refine lv_iand hx hb d_Pt_single_120 ?_
    obtain ⟨q6, hq6, h⟩ := o_bd_some h
    refine o_V (st1 := []) (w1 := (o_cw ad ca rt Sj T0 T1 Rd q6 (Pt_mk (Pt_tokens Pt) (Pt_characterCount Pt) (Pt_tokenCount Pt) (Pt_position Pt) ((Pt_total Pt) + (1:Int32)) (Pt_least Pt) (Pt_most Pt) (Pt_depth Pt) (Pt_blockStarts Pt) (Pt_branchStarts Pt) (Pt_jumps Pt) (Pt_sizesBefore Pt)) Mk Lk Ck Jd Ld Pr)) hE.1 C (c_Pg_emit hE l (2:Int32) (x1 &&& (-4194305:Int32)) Pg Sj T0 T1 Rd (Pt_mk (Pt_tokens Pt) (Pt_characterCount Pt) (Pt_tokenCount Pt) (Pt_position Pt) ((Pt_total Pt) + (1:Int32)) (Pt_least Pt) (Pt_most Pt) (Pt_depth Pt) (Pt_blockStarts Pt) (Pt_branchStarts Pt) (Pt_jumps Pt) (Pt_sizesBefore Pt)) Mk Lk Ck Jd Ld Pr rt hq6) hP (hDD _ _ _ _ _ _ _ _ _ _ _ _ _) hS hl.1 rfl cw_25 k_5_7 k_5_8 k_5_9 k_1_4 k_5_10 hv_Pg_emit rfl rfl ⟨(Nat.le_of_ble_eq_true rfl), (Nat.le_of_ble_eq_true rfl)⟩ rfl (Nat.le_of_ble_eq_true rfl) ⟨Nat.zero_le _, Nat.zero_le _⟩ rfl d_Pt_single_121 (fun H locs hP hS => ?_)
    refine lv_goto (tgt := 139) hx hb d_Pt_single_124 (by decide) ?_
    exact w_Pt_single_j139 hE C hDD x1 q6 (Pt_mk (Pt_tokens Pt) (Pt_characterCount Pt) (Pt_tokenCount Pt) (Pt_position Pt) ((Pt_total Pt) + (1:Int32)) (Pt_least Pt) (Pt_most Pt) (Pt_depth Pt) (Pt_blockStarts Pt) (Pt_branchStarts Pt) (Pt_jumps Pt) (Pt_sizesBefore Pt)) Sj T0 T1 Rd Mk Lk Ck Jd Ld Pr rt h _ _ _ hP hS (lv_sub hl [1] rfl)
set_option maxHeartbeats 4000000 in
set_option maxRecDepth 100000 in
theorem c_Pt_isQuantifier {E : (Nat → Prop) → State → Heap → Prop} {D : va_G} {ad kd sd vd xd : Nat → Nat} {ca : Nat → ClassId} (hE : o_EK E kd sd vd xd) (l : Launch) (x0 : Int32) (Sj : SSJ) (T0 : STx) (T1 : STx) (Rd : SRd) (Pg : SPg) (Pt : SPt) (Mk : SMk) (Lk : SLk) (Ck : SCk) (Jd : SJd) (Ld : SLd) (Pr : SPr) (rt : Nat) {r : Int32} (h : m_Pt_isQuantifier x0 = some r) : o_Cn E l D o_cls (o_tys ca) y_Pt_isQuantifier cc_Pt_isQuantifier rm_Pt_isQuantifier [.int x0] (o_cw ad ca rt Sj T0 T1 Rd Pg Pt Mk Lk Ck Jd Ld Pr) (o_cw ad ca rt Sj T0 T1 Rd Pg Pt Mk Lk Ck Jd Ld Pr) (some (.int r)) := by
  refine o_Cn_of (by decide) (Nat.le_of_ble_eq_true rfl) ?_
  intro p e s m below meth c A ls C hD hP hS hl
  have hDD : ∀ (rt : Nat) (Sj : SSJ) (T0 : STx) (T1 : STx) (Rd : SRd) (Pg : SPg) (Pt : SPt) (Mk : SMk) (Lk : SLk) (Ck : SCk) (Jd : SJd) (Ld : SLd) (Pr : SPr), va_D A (o_cw ad ca rt Sj T0 T1 Rd Pg Pt Mk Lk Ck Jd Ld Pr) := fun _ _ _ _ _ _ _ _ _ _ _ _ _ => o_D_map hD rfl
  have hl : lv_has ls 1 [(0, .int x0)] := hl
  unfold m_Pt_isQuantifier at h
  have C0 := C
  obtain ⟨hx, hb, -, -, -, hown, hts, hK, -, -⟩ := C0
  refine lv_iload_n hx hb d_Pt_isQuantifier_0 rfl (lv_at hl 0 rfl) ?_
  refine lv_bipush (v := (-42:Int32)) hx hb d_Pt_isQuantifier_1 (by decide) ?_
  refine lv_icmp_eq (tgt := 24) hx hb d_Pt_isQuantifier_3 (by decide) (fun c1 => ?_) (fun c1 => ?_)
  · replace h := o_tt c1 h
    refine lv_iconst (v := (1:Int32)) hx hb d_Pt_isQuantifier_24 (by decide) ?_
    refine lv_goto (tgt := 29) hx hb d_Pt_isQuantifier_25 (by decide) ?_
    cases h
    exact o_rz (v := (1:Int32)) C o_nar1 hP hS d_Pt_isQuantifier_29
  · replace h := o_ff c1 h
    refine lv_iload_n hx hb d_Pt_isQuantifier_6 rfl (lv_at hl 0 rfl) ?_
    refine lv_bipush (v := (-43:Int32)) hx hb d_Pt_isQuantifier_7 (by decide) ?_
    refine lv_icmp_eq (tgt := 24) hx hb d_Pt_isQuantifier_9 (by decide) (fun c2 => ?_) (fun c2 => ?_)
    · replace h := o_tt c2 h
      refine lv_iconst (v := (1:Int32)) hx hb d_Pt_isQuantifier_24 (by decide) ?_
      refine lv_goto (tgt := 29) hx hb d_Pt_isQuantifier_25 (by decide) ?_
      cases h
      exact o_rz (v := (1:Int32)) C o_nar1 hP hS d_Pt_isQuantifier_29
    · replace h := o_ff c2 h
      refine lv_iload_n hx hb d_Pt_isQuantifier_12 rfl (lv_at hl 0 rfl) ?_
      refine lv_bipush (v := (-63:Int32)) hx hb d_Pt_isQuantifier_13 (by decide) ?_
      refine lv_icmp_eq (tgt := 24) hx hb d_Pt_isQuantifier_15 (by decide) (fun c3 => ?_) (fun c3 => ?_)
      · replace h := o_tt c3 h
        refine lv_iconst (v := (1:Int32)) hx hb d_Pt_isQuantifier_24 (by decide) ?_
        refine lv_goto (tgt := 29) hx hb d_Pt_isQuantifier_25 (by decide) ?_
        cases h
        exact o_rz (v := (1:Int32)) C o_nar1 hP hS d_Pt_isQuantifier_29
      · replace h := o_ff c3 h
        refine lv_iload_n hx hb d_Pt_isQuantifier_18 rfl (lv_at hl 0 rfl) ?_
        refine lv_bipush (v := (-123:Int32)) hx hb d_Pt_isQuantifier_19 (by decide) ?_
        refine lv_icmp_ne (tgt := 28) hx hb d_Pt_isQuantifier_21 (by decide) (fun c4 => ?_) (fun c4 => ?_)
        · replace h := o_ff c4 h
          refine lv_iconst (v := (0:Int32)) hx hb d_Pt_isQuantifier_28 (by decide) ?_
          cases h
          exact o_rz (v := (0:Int32)) C o_nar0 hP hS d_Pt_isQuantifier_29
        · replace h := o_tt c4 h
          refine lv_iconst (v := (1:Int32)) hx hb d_Pt_isQuantifier_24 (by decide) ?_
          refine lv_goto (tgt := 29) hx hb d_Pt_isQuantifier_25 (by decide) ?_
          cases h
          exact o_rz (v := (1:Int32)) C o_nar1 hP hS d_Pt_isQuantifier_29
set_option maxHeartbeats 4000000 in
set_option maxRecDepth 100000 in
theorem w_Pt_readNumber_j33 {E : (Nat → Prop) → State → Heap → Prop} {p : Program} {l : Launch} {e : Env} {s : State} {m : MethodId} {args : Array Value} {below : List Frame} {meth : Method} {c : Code} {D : va_G} {ad kd sd vd xd : Nat → Nat} {ca : Nat → ClassId} {A : Nat → Prop} {Q : State → Prop} (hE : o_EK E kd sd vd xd) (C : o_Cx E p s m args meth c D o_cls (o_tys ca) "SchemaJudge$Pattern" b_Pt_readNumber (some .int) 4 cc_Pt_readNumber A) (hDD : ∀ (rt : Nat) (Sj : SSJ) (T0 : STx) (T1 : STx) (Rd : SRd) (Pg : SPg) (Pt : SPt) (Mk : SMk) (Lk : SLk) (Ck : SCk) (Jd : SJd) (Ld : SLd) (Pr : SPr), va_D A (o_cw ad ca rt Sj T0 T1 Rd Pg Pt Mk Lk Ck Jd Ld Pr)) (n : Nat) (u4_Sj : SSJ) (u4_T0 : STx) (u4_T1 : STx) (u4_Rd : SRd) (u4_Pg : SPg) (u4_Mk : SMk) (u4_Lk : SLk) (u4_Ck : SCk) (u4_Jd : SJd) (u4_Ld : SLd) (u4_Pr : SPr) (u4_rt : Nat) (x1 : Int32) (x2 : Int32) (y0 : Int32) (Pt : SPt) {q : Nat × Int32 × Int32 × SPt} (h : m_Pt_readNumber_j33 n x1 x2 y0 Pt = some q) (h0 : q.1 = 0 → o_At p l e rm_Pt_readNumber s m args below meth c Q o_cls D A 4 4 [] (o_cw ad ca u4_rt u4_Sj u4_T0 u4_T1 u4_Rd u4_Pg q.2.2.2 u4_Mk u4_Lk u4_Ck u4_Jd u4_Ld u4_Pr) [(0, .ref (ad 33)), (1, .int q.2.1), (2, .int q.2.2.1)]) (h1 : q.1 ≠ 0 → (if q.1 = 1 then o_At p l e rm_Pt_readNumber s m args below meth c Q o_cls D A 4 46 [] (o_cw ad ca u4_rt u4_Sj u4_T0 u4_T1 u4_Rd u4_Pg q.2.2.2 u4_Mk u4_Lk u4_Ck u4_Jd u4_Ld u4_Pr) [(1, .int q.2.1)] else o_At p l e rm_Pt_readNumber s m args below meth c Q o_cls D A 4 78 [] (o_cw ad ca u4_rt u4_Sj u4_T0 u4_T1 u4_Rd u4_Pg q.2.2.2 u4_Mk u4_Lk u4_Ck u4_Jd u4_Ld u4_Pr) [(1, .int q.2.1)])) : o_At p l e rm_Pt_readNumber s m args below meth c Q o_cls D A 4 33 [.int y0] (o_cw ad ca u4_rt u4_Sj u4_T0 u4_T1 u4_Rd u4_Pg Pt u4_Mk u4_Lk u4_Ck u4_Jd u4_Ld u4_Pr) [(0, .ref (ad 33)), (1, .int x1), (2, .int x2)] := by
  unfold m_Pt_readNumber_j33 at h
  intro H locs ls hP hS hl
  have C0 := C
  obtain ⟨hx, hb, -, -, -, hown, hts, hK, -, -⟩ := C0
  refine lv_istore_n (lv' := [(3, .int y0), (0, .ref (ad 33)), (1, .int x1), (2, .int x2)]) hx hb d_Pt_readNumber_33 rfl hl (by decide) rfl (fun ls hl => ?_)
  refine lv_iload_n hx hb d_Pt_readNumber_34 rfl (lv_at hl 0 rfl) ?_
  refine lv_bipush (v := (48:Int32)) hx hb d_Pt_readNumber_35 (by decide) ?_
  refine lv_icmp_lt (tgt := 46) hx hb d_Pt_readNumber_37 (by decide) (fun c3 => ?_) (fun c3 => ?_)
  · replace h := o_tt c3 h
    cases h
    exact h1 (Nat.succ_ne_zero 0) _ _ _ hP hS (lv_sub hl [2] rfl)
  · replace h := o_ff c3 h
    refine lv_iload_n hx hb d_Pt_readNumber_40 rfl (lv_at hl 0 rfl) ?_
    refine lv_bipush (v := (57:Int32)) hx hb d_Pt_readNumber_41 (by decide) ?_
    refine lv_icmp_le (tgt := 48) hx hb d_Pt_readNumber_43 (by decide) (fun c4 => ?_) (fun c4 => ?_)
    · replace h := o_tt c4 h
      refine lv_iload_n hx hb d_Pt_readNumber_48 rfl (lv_at hl 2 rfl) ?_
      refine lv_iconst (v := (0:Int32)) hx hb d_Pt_readNumber_49 (by decide) ?_
      refine va_mmax hx hb (C.2.2.2.2.1.trans hl.1.symm) hown (hts _ k_5_44) (hts _ k_4_152) (hts _ k_1_26) (hts _ k_4_153) (Nat.le_of_ble_eq_true rfl) (Nat.le_of_ble_eq_true rfl) (Nat.zero_le _) (Nat.zero_le _) d_Pt_readNumber_50 ?_
      refine lv_bipush (v := (10:Int32)) hx hb d_Pt_readNumber_53 (by decide) ?_
      refine lv_imul hx hb d_Pt_readNumber_55 ?_
      refine lv_iload_n hx hb d_Pt_readNumber_56 rfl (lv_at hl 0 rfl) ?_
      refine lv_iadd hx hb d_Pt_readNumber_57 ?_
      refine lv_bipush (v := (48:Int32)) hx hb d_Pt_readNumber_58 (by decide) ?_
      refine lv_isub hx hb d_Pt_readNumber_60 ?_
      refine lv_topi (fun x1_61 ex1_61 => ?_)
      replace h := o_nm_at ex1_61 h
      refine lv_istore_n (lv' := [(1, .int x1_61), (3, .int y0), (0, .ref (ad 33)), (2, .int x2)]) hx hb d_Pt_readNumber_61 rfl hl (by decide) rfl (fun ls hl => ?_)
      refine lv_aload_n hx hb d_Pt_readNumber_62 rfl (lv_at hl 2 rfl) ?_
      refine lv_dup hx hb d_Pt_readNumber_63 rfl ?_
      refine o_get (v := .int (Pt_position Pt)) C in_Pt hP 33 cw_33 rfl 4 (by decide) k_1_164 rfl rfl d_Pt_readNumber_64 ?_
      refine lv_iconst (v := (1:Int32)) hx hb d_Pt_readNumber_67 (by decide) ?_
      refine lv_iadd hx hb d_Pt_readNumber_68 ?_
      refine o_put (v := .int ((Pt_position Pt) + (1:Int32))) (ty := .int) (w1 := (o_cw ad ca u4_rt u4_Sj u4_T0 u4_T1 u4_Rd u4_Pg (Pt_mk (Pt_tokens Pt) (Pt_characterCount Pt) (Pt_tokenCount Pt) ((Pt_position Pt) + (1:Int32)) (Pt_total Pt) (Pt_least Pt) (Pt_most Pt) (Pt_depth Pt) (Pt_blockStarts Pt) (Pt_branchStarts Pt) (Pt_jumps Pt) (Pt_sizesBefore Pt)) u4_Mk u4_Lk u4_Ck u4_Jd u4_Ld u4_Pr)) C in_Pt t_Pt t_Pt_ok n_Pt hP (hDD _ _ _ _ _ _ _ _ _ _ _ _ _) hS 33 cw_33 rfl 4 (by decide) k_1_164 rfl rfl (by decide +kernel) rfl rfl (Nat.le_of_ble_eq_true rfl) rfl d_Pt_readNumber_69 (fun H locs hP hS => ?_)
      obtain ⟨x2_72, ex2_72⟩ : ∃ y : Int32, y = x2 + (1:Int32) := ⟨_, rfl⟩
      replace h := o_nm_at ex2_72 h
      refine lv_iinc (v := x2_72) (lv' := [(2, .int x2_72), (1, .int x1_61), (3, .int y0), (0, .ref (ad 33))]) hx hb d_Pt_readNumber_72 hl (k := 3) rfl (by rw [ex2_72]; rfl) (by decide) rfl (fun ls hl => ?_)
      refine lv_goto (tgt := 4) hx hb d_Pt_readNumber_75 (by decide) ?_
      cases h
      exact h0 rfl _ _ _ hP hS (lv_sub hl [3, 1, 0] rfl)
    · replace h := o_ff c4 h
      cases h
      exact h1 (Nat.succ_ne_zero 0) _ _ _ hP hS (lv_sub hl [2] rfl)
set_option maxHeartbeats 4000000 in
set_option maxRecDepth 100000 in
theorem w_Pt_readNumber_b4 {E : (Nat → Prop) → State → Heap → Prop} {p : Program} {l : Launch} {e : Env} {s : State} {m : MethodId} {args : Array Value} {below : List Frame} {meth : Method} {c : Code} {D : va_G} {ad kd sd vd xd : Nat → Nat} {ca : Nat → ClassId} {A : Nat → Prop} {Q : State → Prop} (hE : o_EK E kd sd vd xd) (C : o_Cx E p s m args meth c D o_cls (o_tys ca) "SchemaJudge$Pattern" b_Pt_readNumber (some .int) 4 cc_Pt_readNumber A) (hDD : ∀ (rt : Nat) (Sj : SSJ) (T0 : STx) (T1 : STx) (Rd : SRd) (Pg : SPg) (Pt : SPt) (Mk : SMk) (Lk : SLk) (Ck : SCk) (Jd : SJd) (Ld : SLd) (Pr : SPr), va_D A (o_cw ad ca rt Sj T0 T1 Rd Pg Pt Mk Lk Ck Jd Ld Pr)) (n : Nat) (u4_Sj : SSJ) (u4_T0 : STx) (u4_T1 : STx) (u4_Rd : SRd) (u4_Pg : SPg) (u4_Mk : SMk) (u4_Lk : SLk) (u4_Ck : SCk) (u4_Jd : SJd) (u4_Ld : SLd) (u4_Pr : SPr) (u4_rt : Nat) (z : Int32 × Int32 × SPt) (q : Nat × Int32 × Int32 × SPt) (h : m_Pt_readNumber_b4 n z = some q) (h0 : q.1 = 0 → o_At p l e rm_Pt_readNumber s m args below meth c Q o_cls D A 4 4 [] (o_cw ad ca u4_rt u4_Sj u4_T0 u4_T1 u4_Rd u4_Pg q.2.2.2 u4_Mk u4_Lk u4_Ck u4_Jd u4_Ld u4_Pr) [(0, .ref (ad 33)), (1, .int q.2.1), (2, .int q.2.2.1)]) (h1 : q.1 ≠ 0 → (if q.1 = 1 then o_At p l e rm_Pt_readNumber s m args below meth c Q o_cls D A 4 46 [] (o_cw ad ca u4_rt u4_Sj u4_T0 u4_T1 u4_Rd u4_Pg q.2.2.2 u4_Mk u4_Lk u4_Ck u4_Jd u4_Ld u4_Pr) [(1, .int q.2.1)] else o_At p l e rm_Pt_readNumber s m args below meth c Q o_cls D A 4 78 [] (o_cw ad ca u4_rt u4_Sj u4_T0 u4_T1 u4_Rd u4_Pg q.2.2.2 u4_Mk u4_Lk u4_Ck u4_Jd u4_Ld u4_Pr) [(1, .int q.2.1)])) : o_At p l e rm_Pt_readNumber s m args below meth c Q o_cls D A 4 4 [] (o_cw ad ca u4_rt u4_Sj u4_T0 u4_T1 u4_Rd u4_Pg z.2.2 u4_Mk u4_Lk u4_Ck u4_Jd u4_Ld u4_Pr) [(0, .ref (ad 33)), (1, .int z.1), (2, .int z.2.1)] := by
  unfold m_Pt_readNumber_b4 at h
  intro H locs ls hP hS hl
  have C0 := C
  obtain ⟨hx, hb, -, -, -, hown, hts, hK, -, -⟩ := C0
  refine lv_iload_n hx hb d_Pt_readNumber_4 rfl (lv_at hl 2 rfl) ?_
  refine lv_iconst (v := (3:Int32)) hx hb d_Pt_readNumber_5 (by decide) ?_
  refine lv_icmp_ge (tgt := 78) hx hb d_Pt_readNumber_6 (by decide) (fun c1 => ?_) (fun c1 => ?_)
  · replace h := o_tt c1 h
    cases h
    exact h1 (Nat.succ_ne_zero 1) _ _ _ hP hS (lv_sub hl [1] rfl)
  · replace h := o_ff c1 h
    refine lv_aload_n hx hb d_Pt_readNumber_9 rfl (lv_at hl 0 rfl) ?_
    refine o_get (v := .int (Pt_position z.2.2)) C in_Pt hP 33 cw_33 rfl 4 (by decide) k_1_164 rfl rfl d_Pt_readNumber_10 ?_
    refine lv_aload_n hx hb d_Pt_readNumber_13 rfl (lv_at hl 0 rfl) ?_
    refine o_get (v := .int (Pt_tokenCount z.2.2)) C in_Pt hP 33 cw_33 rfl 3 (by decide) k_1_163 rfl rfl d_Pt_readNumber_14 ?_
    refine lv_icmp_ge (tgt := 32) hx hb d_Pt_readNumber_17 (by decide) (fun c2 => ?_) (fun c2 => ?_)
    · replace h := o_tt c2 h
      refine lv_iconst (v := (-1:Int32)) hx hb d_Pt_readNumber_32 (by decide) ?_
      exact w_Pt_readNumber_j33 hE C hDD n u4_Sj u4_T0 u4_T1 u4_Rd u4_Pg u4_Mk u4_Lk u4_Ck u4_Jd u4_Ld u4_Pr u4_rt z.1 z.2.1 (-1:Int32) z.2.2 h h0 h1 _ _ _ hP hS (lv_sub hl [0, 1, 2] rfl)
    · replace h := o_ff c2 h
      refine lv_aload_n hx hb d_Pt_readNumber_20 rfl (lv_at hl 0 rfl) ?_
      refine o_get (v := .ref (ad 34)) C in_Pt hP 33 cw_33 rfl 1 (by decide) k_1_161 rfl rfl d_Pt_readNumber_21 ?_
      refine lv_aload_n hx hb d_Pt_readNumber_24 rfl (lv_at hl 0 rfl) ?_
      refine o_get (v := .int (Pt_position z.2.2)) C in_Pt hP 33 cw_33 rfl 4 (by decide) k_1_164 rfl rfl d_Pt_readNumber_25 ?_
      obtain ⟨g5, h⟩ := o_gd_some h
      refine o_iald (f := (Pt_tokens z.2.2)) C hP 34 28 cw_34 rfl g5 d_Pt_readNumber_28 ?_
      refine lv_goto (tgt := 33) hx hb d_Pt_readNumber_29 (by decide) ?_
      exact w_Pt_readNumber_j33 hE C hDD n u4_Sj u4_T0 u4_T1 u4_Rd u4_Pg u4_Mk u4_Lk u4_Ck u4_Jd u4_Ld u4_Pr u4_rt z.1 z.2.1 ((Pt_tokens z.2.2) (Pt_position z.2.2).toNatClampNeg) z.2.2 h h0 h1 _ _ _ hP hS (lv_sub hl [0, 1, 2] rfl)
set_option maxHeartbeats 4000000 in
set_option maxRecDepth 100000 in
theorem c_Pt_readNumber {E : (Nat → Prop) → State → Heap → Prop} {D : va_G} {ad kd sd vd xd : Nat → Nat} {ca : Nat → ClassId} (hE : o_EK E kd sd vd xd) (l : Launch) (n : Nat)  (Pt : SPt) (Sj : SSJ) (T0 : STx) (T1 : STx) (Rd : SRd) (Pg : SPg) (Mk : SMk) (Lk : SLk) (Ck : SCk) (Jd : SJd) (Ld : SLd) (Pr : SPr) (rt : Nat) {r : Int32 × SPt} (h : m_Pt_readNumber n Pt = some r) : o_Cn E l D o_cls (o_tys ca) y_Pt_readNumber cc_Pt_readNumber rm_Pt_readNumber [.ref (ad 33)] (o_cw ad ca rt Sj T0 T1 Rd Pg Pt Mk Lk Ck Jd Ld Pr) (o_cw ad ca rt Sj T0 T1 Rd Pg r.2 Mk Lk Ck Jd Ld Pr) (some (.int r.1)) := by
  refine o_Cn_of (by decide) (Nat.le_of_ble_eq_true rfl) ?_
  intro p e s m below meth c A ls C hD hP hS hl
  have hDD : ∀ (rt : Nat) (Sj : SSJ) (T0 : STx) (T1 : STx) (Rd : SRd) (Pg : SPg) (Pt : SPt) (Mk : SMk) (Lk : SLk) (Ck : SCk) (Jd : SJd) (Ld : SLd) (Pr : SPr), va_D A (o_cw ad ca rt Sj T0 T1 Rd Pg Pt Mk Lk Ck Jd Ld Pr) := fun _ _ _ _ _ _ _ _ _ _ _ _ _ => o_D_map hD rfl
  have hl : lv_has ls 4 [(0, .ref (ad 33))] := hl
  unfold m_Pt_readNumber at h
  have C0 := C
  obtain ⟨hx, hb, -, -, -, hown, hts, hK, -, -⟩ := C0
  refine lv_iconst (v := (-1:Int32)) hx hb d_Pt_readNumber_0 (by decide) ?_
  refine lv_istore_n (lv' := [(1, .int (-1:Int32)), (0, .ref (ad 33))]) hx hb d_Pt_readNumber_1 rfl hl (by decide) rfl (fun ls hl => ?_)
  refine lv_iconst (v := (0:Int32)) hx hb d_Pt_readNumber_2 (by decide) ?_
  refine lv_istore_n (lv' := [(2, .int (0:Int32)), (1, .int (-1:Int32)), (0, .ref (ad 33))]) hx hb d_Pt_readNumber_3 rfl hl (by decide) rfl (fun ls hl => ?_)
  obtain ⟨q1, hq1, h⟩ := o_bd_some h
  refine o_sim2 (AH := fun zz => o_At p l e rm_Pt_readNumber s m _ below meth c _ o_cls D A 4 4 [] (o_cw ad ca rt Sj T0 T1 Rd Pg zz.2.2 Mk Lk Ck Jd Ld Pr) [(0, .ref (ad 33)), (1, .int zz.1), (2, .int zz.2.1)]) (AX := fun qq => if qq.1 = 1 then o_At p l e rm_Pt_readNumber s m _ below meth c _ o_cls D A 4 46 [] (o_cw ad ca rt Sj T0 T1 Rd Pg qq.2.2.2 Mk Lk Ck Jd Ld Pr) [(1, .int qq.2.1)] else o_At p l e rm_Pt_readNumber s m _ below meth c _ o_cls D A 4 78 [] (o_cw ad ca rt Sj T0 T1 Rd Pg qq.2.2.2 Mk Lk Ck Jd Ld Pr) [(1, .int qq.2.1)]) (fun zz qq h h0 h1 => w_Pt_readNumber_b4 hE C hDD n Sj T0 T1 Rd Pg Mk Lk Ck Jd Ld Pr rt zz qq h h0 h1) n _ q1 hq1 ?_ _ _ _ hP hS (lv_sub hl [2, 1, 0] rfl)
  by_cases c6 : q1.1 = 1
  · replace h := o_tt c6 h
    refine o_ip c6 ?_
    intro H locs ls hP hS hl
    refine lv_iload_n hx hb d_Pt_readNumber_46 rfl (lv_at hl 0 rfl) ?_
    cases h
    exact o_ri C hP hS d_Pt_readNumber_47
  replace h := o_ff c6 h
  refine o_in_ c6 ?_
  intro H locs ls hP hS hl
  refine lv_iload_n hx hb d_Pt_readNumber_78 rfl (lv_at hl 0 rfl) ?_
  cases h
  exact o_ri C hP hS d_Pt_readNumber_79
set_option maxHeartbeats 4000000 in
set_option maxRecDepth 100000 in
theorem w_Pt_readQuantifier_j181 {E : (Nat → Prop) → State → Heap → Prop} {p : Program} {l : Launch} {e : Env} {s : State} {m : MethodId} {args : Array Value} {below : List Frame} {meth : Method} {c : Code} {D : va_G} {ad kd sd vd xd : Nat → Nat} {ca : Nat → ClassId} {A : Nat → Prop} (hE : o_EK E kd sd vd xd) (C : o_Cx E p s m args meth c D o_cls (o_tys ca) "SchemaJudge$Pattern" b_Pt_readQuantifier (some .boolean) 3 cc_Pt_readQuantifier A) (hDD : ∀ (rt : Nat) (Sj : SSJ) (T0 : STx) (T1 : STx) (Rd : SRd) (Pg : SPg) (Pt : SPt) (Mk : SMk) (Lk : SLk) (Ck : SCk) (Jd : SJd) (Ld : SLd) (Pr : SPr), va_D A (o_cw ad ca rt Sj T0 T1 Rd Pg Pt Mk Lk Ck Jd Ld Pr)) (n : Nat) (x2 : Int32) (Pt : SPt) (Sj : SSJ) (T0 : STx) (T1 : STx) (Rd : SRd) (Pg : SPg) (Mk : SMk) (Lk : SLk) (Ck : SCk) (Jd : SJd) (Ld : SLd) (Pr : SPr) (rt : Nat) {r : Int32 × SPt} (h : m_Pt_readQuantifier_j181 n x2 Pt = some r) : o_At p l e rm_Pt_readQuantifier s m args below meth c (MQ below (o_Qx D o_cls (some (.int r.1)) (o_cw ad ca rt Sj T0 T1 Rd Pg r.2 Mk Lk Ck Jd Ld Pr) A) args s 0 0 A) o_cls D A 3 181 [] (o_cw ad ca rt Sj T0 T1 Rd Pg Pt Mk Lk Ck Jd Ld Pr) [(0, .ref (ad 33)), (2, .int x2)] := by
  unfold m_Pt_readQuantifier_j181 at h
  intro H locs ls hP hS hl
  have C0 := C
  obtain ⟨hx, hb, -, -, -, hown, hts, hK, -, -⟩ := C0
  refine lv_iload_n hx hb d_Pt_readQuantifier_181 rfl (lv_at hl 1 rfl) ?_
  refine lv_if_eq (tgt := 207) hx hb d_Pt_readQuantifier_182 (by decide) (fun c5 => ?_) (fun c5 => ?_)
  · replace h := o_tt c5 h
    refine lv_iconst (v := (0:Int32)) hx hb d_Pt_readQuantifier_207 (by decide) ?_
    cases h
    exact o_rz (v := (0:Int32)) C o_nar0 hP hS d_Pt_readQuantifier_208
  · replace h := o_ff c5 h
    refine lv_aload_n hx hb d_Pt_readQuantifier_185 rfl (lv_at hl 0 rfl) ?_
    refine o_get (v := .int (Pt_least Pt)) C in_Pt hP 33 cw_33 rfl 6 (by decide) k_1_166 rfl rfl d_Pt_readQuantifier_186 ?_
    refine lv_bipush (v := (50:Int32)) hx hb d_Pt_readQuantifier_189 (by decide) ?_
    refine lv_icmp_gt (tgt := 207) hx hb d_Pt_readQuantifier_191 (by decide) (fun c6 => ?_) (fun c6 => ?_)
    · replace h := o_tt c6 h
      refine lv_iconst (v := (0:Int32)) hx hb d_Pt_readQuantifier_207 (by decide) ?_
      cases h
      exact o_rz (v := (0:Int32)) C o_nar0 hP hS d_Pt_readQuantifier_208
    · replace h := o_ff c6 h
      refine lv_aload_n hx hb d_Pt_readQuantifier_194 rfl (lv_at hl 0 rfl) ?_
      refine o_get (v := .int (Pt_most Pt)) C in_Pt hP 33 cw_33 rfl 7 (by decide) k_1_167 rfl rfl d_Pt_readQuantifier_195 ?_
      refine lv_bipush (v := (50:Int32)) hx hb d_Pt_readQuantifier_198 (by decide) ?_
      refine lv_icmp_gt (tgt := 207) hx hb d_Pt_readQuantifier_200 (by decide) (fun c7 => ?_) (fun c7 => ?_)
      · replace h := o_tt c7 h
        refine lv_iconst (v := (0:Int32)) hx hb d_Pt_readQuantifier_207 (by decide) ?_
        cases h
        exact o_rz (v := (0:Int32)) C o_nar0 hP hS d_Pt_readQuantifier_208
      · replace h := o_ff c7 h
        refine lv_iconst (v := (1:Int32)) hx hb d_Pt_readQuantifier_203 (by decide) ?_
        refine lv_goto (tgt := 208) hx hb d_Pt_readQuantifier_204 (by decide) ?_
        cases h
        exact o_rz (v := (1:Int32)) C o_nar1 hP hS d_Pt_readQuantifier_208
set_option maxHeartbeats 4000000 in
set_option maxRecDepth 100000 in
theorem w_Pt_readQuantifier_j161 {E : (Nat → Prop) → State → Heap → Prop} {p : Program} {l : Launch} {e : Env} {s : State} {m : MethodId} {args : Array Value} {below : List Frame} {meth : Method} {c : Code} {D : va_G} {ad kd sd vd xd : Nat → Nat} {ca : Nat → ClassId} {A : Nat → Prop} (hE : o_EK E kd sd vd xd) (C : o_Cx E p s m args meth c D o_cls (o_tys ca) "SchemaJudge$Pattern" b_Pt_readQuantifier (some .boolean) 3 cc_Pt_readQuantifier A) (hDD : ∀ (rt : Nat) (Sj : SSJ) (T0 : STx) (T1 : STx) (Rd : SRd) (Pg : SPg) (Pt : SPt) (Mk : SMk) (Lk : SLk) (Ck : SCk) (Jd : SJd) (Ld : SLd) (Pr : SPr), va_D A (o_cw ad ca rt Sj T0 T1 Rd Pg Pt Mk Lk Ck Jd Ld Pr)) (n : Nat) (x2 : Int32) (Pt : SPt) (Sj : SSJ) (T0 : STx) (T1 : STx) (Rd : SRd) (Pg : SPg) (Mk : SMk) (Lk : SLk) (Ck : SCk) (Jd : SJd) (Ld : SLd) (Pr : SPr) (rt : Nat) {r : Int32 × SPt} (h : m_Pt_readQuantifier_j161 n x2 Pt = some r) : o_At p l e rm_Pt_readQuantifier s m args below meth c (MQ below (o_Qx D o_cls (some (.int r.1)) (o_cw ad ca rt Sj T0 T1 Rd Pg r.2 Mk Lk Ck Jd Ld Pr) A) args s 0 0 A) o_cls D A 3 161 [] (o_cw ad ca rt Sj T0 T1 Rd Pg Pt Mk Lk Ck Jd Ld Pr) [(0, .ref (ad 33)), (2, .int x2)] := by
  unfold m_Pt_readQuantifier_j161 at h
  intro H locs ls hP hS hl
  have C0 := C
  obtain ⟨hx, hb, -, -, -, hown, hts, hK, -, -⟩ := C0
  refine lv_aload_n hx hb d_Pt_readQuantifier_161 rfl (lv_at hl 0 rfl) ?_
  refine lv_iconst (v := (0:Int32)) hx hb d_Pt_readQuantifier_162 (by decide) ?_
  obtain ⟨q2, hq2, h⟩ := o_bd_some h
  refine o_V (st1 := [.int q2]) (w1 := (o_cw ad ca rt Sj T0 T1 Rd Pg Pt Mk Lk Ck Jd Ld Pr)) hE.1 C (c_Pt_peek hE l (0:Int32) Pt Sj T0 T1 Rd Pg Mk Lk Ck Jd Ld Pr rt hq2) hP (hDD _ _ _ _ _ _ _ _ _ _ _ _ _) hS hl.1 rfl cw_33 k_4_214 k_4_216 k_s_28 k_1_5 k_4_217 hv_Pt_peek rfl rfl ⟨(Nat.le_of_ble_eq_true rfl), (Nat.le_of_ble_eq_true rfl)⟩ rfl (Nat.le_of_ble_eq_true rfl) ⟨Nat.zero_le _, Nat.zero_le _⟩ rfl d_Pt_readQuantifier_163 (fun H locs hP hS => ?_)
  refine lv_bipush (v := (-63:Int32)) hx hb d_Pt_readQuantifier_166 (by decide) ?_
  refine lv_icmp_ne (tgt := 181) hx hb d_Pt_readQuantifier_168 (by decide) (fun c4 => ?_) (fun c4 => ?_)
  · replace h := o_ff c4 h
    exact w_Pt_readQuantifier_j181 hE C hDD n x2 Pt Sj T0 T1 Rd Pg Mk Lk Ck Jd Ld Pr rt h _ _ _ hP hS (lv_sub hl [0, 1] rfl)
  · replace h := o_tt c4 h
    refine lv_aload_n hx hb d_Pt_readQuantifier_171 rfl (lv_at hl 0 rfl) ?_
    refine lv_dup hx hb d_Pt_readQuantifier_172 rfl ?_
    refine o_get (v := .int (Pt_position Pt)) C in_Pt hP 33 cw_33 rfl 4 (by decide) k_1_164 rfl rfl d_Pt_readQuantifier_173 ?_
    refine lv_iconst (v := (1:Int32)) hx hb d_Pt_readQuantifier_176 (by decide) ?_
    refine lv_iadd hx hb d_Pt_readQuantifier_177 ?_
    refine o_put (v := .int ((Pt_position Pt) + (1:Int32))) (ty := .int) (w1 := (o_cw ad ca rt Sj T0 T1 Rd Pg (Pt_mk (Pt_tokens Pt) (Pt_characterCount Pt) (Pt_tokenCount Pt) ((Pt_position Pt) + (1:Int32)) (Pt_total Pt) (Pt_least Pt) (Pt_most Pt) (Pt_depth Pt) (Pt_blockStarts Pt) (Pt_branchStarts Pt) (Pt_jumps Pt) (Pt_sizesBefore Pt)) Mk Lk Ck Jd Ld Pr)) C in_Pt t_Pt t_Pt_ok n_Pt hP (hDD _ _ _ _ _ _ _ _ _ _ _ _ _) hS 33 cw_33 rfl 4 (by decide) k_1_164 rfl rfl (by decide +kernel) rfl rfl (Nat.le_of_ble_eq_true rfl) rfl d_Pt_readQuantifier_178 (fun H locs hP hS => ?_)
    exact w_Pt_readQuantifier_j181 hE C hDD n x2 (Pt_mk (Pt_tokens Pt) (Pt_characterCount Pt) (Pt_tokenCount Pt) ((Pt_position Pt) + (1:Int32)) (Pt_total Pt) (Pt_least Pt) (Pt_most Pt) (Pt_depth Pt) (Pt_blockStarts Pt) (Pt_branchStarts Pt) (Pt_jumps Pt) (Pt_sizesBefore Pt)) Sj T0 T1 Rd Pg Mk Lk Ck Jd Ld Pr rt h _ _ _ hP hS (lv_sub hl [0, 1] rfl)
set_option maxHeartbeats 4000000 in
set_option maxRecDepth 100000 in
theorem w_Pt_readQuantifier_j150 {E : (Nat → Prop) → State → Heap → Prop} {p : Program} {l : Launch} {e : Env} {s : State} {m : MethodId} {args : Array Value} {below : List Frame} {meth : Method} {c : Code} {D : va_G} {ad kd sd vd xd : Nat → Nat} {ca : Nat → ClassId} {A : Nat → Prop} (hE : o_EK E kd sd vd xd) (C : o_Cx E p s m args meth c D o_cls (o_tys ca) "SchemaJudge$Pattern" b_Pt_readQuantifier (some .boolean) 3 cc_Pt_readQuantifier A) (hDD : ∀ (rt : Nat) (Sj : SSJ) (T0 : STx) (T1 : STx) (Rd : SRd) (Pg : SPg) (Pt : SPt) (Mk : SMk) (Lk : SLk) (Ck : SCk) (Jd : SJd) (Ld : SLd) (Pr : SPr), va_D A (o_cw ad ca rt Sj T0 T1 Rd Pg Pt Mk Lk Ck Jd Ld Pr)) (n : Nat) (y0 : Int32) (Pt : SPt) (Sj : SSJ) (T0 : STx) (T1 : STx) (Rd : SRd) (Pg : SPg) (Mk : SMk) (Lk : SLk) (Ck : SCk) (Jd : SJd) (Ld : SLd) (Pr : SPr) (rt : Nat) {r : Int32 × SPt} (h : m_Pt_readQuantifier_j150 n y0 Pt = some r) : o_At p l e rm_Pt_readQuantifier s m args below meth c (MQ below (o_Qx D o_cls (some (.int r.1)) (o_cw ad ca rt Sj T0 T1 Rd Pg r.2 Mk Lk Ck Jd Ld Pr) A) args s 0 0 A) o_cls D A 3 150 [.int y0] (o_cw ad ca rt Sj T0 T1 Rd Pg Pt Mk Lk Ck Jd Ld Pr) [(0, .ref (ad 33))] := by
  unfold m_Pt_readQuantifier_j150 at h
  intro H locs ls hP hS hl
  have C0 := C
  obtain ⟨hx, hb, -, -, -, hown, hts, hK, -, -⟩ := C0
  refine lv_istore_n (lv' := [(2, .int y0), (0, .ref (ad 33))]) hx hb d_Pt_readQuantifier_150 rfl hl (by decide) rfl (fun ls hl => ?_)
  refine lv_aload_n hx hb d_Pt_readQuantifier_151 rfl (lv_at hl 1 rfl) ?_
  refine lv_dup hx hb d_Pt_readQuantifier_152 rfl ?_
  refine o_get (v := .int (Pt_position Pt)) C in_Pt hP 33 cw_33 rfl 4 (by decide) k_1_164 rfl rfl d_Pt_readQuantifier_153 ?_
  refine lv_iconst (v := (1:Int32)) hx hb d_Pt_readQuantifier_156 (by decide) ?_
  refine lv_iadd hx hb d_Pt_readQuantifier_157 ?_
  refine o_put (v := .int ((Pt_position Pt) + (1:Int32))) (ty := .int) (w1 := (o_cw ad ca rt Sj T0 T1 Rd Pg (Pt_mk (Pt_tokens Pt) (Pt_characterCount Pt) (Pt_tokenCount Pt) ((Pt_position Pt) + (1:Int32)) (Pt_total Pt) (Pt_least Pt) (Pt_most Pt) (Pt_depth Pt) (Pt_blockStarts Pt) (Pt_branchStarts Pt) (Pt_jumps Pt) (Pt_sizesBefore Pt)) Mk Lk Ck Jd Ld Pr)) C in_Pt t_Pt t_Pt_ok n_Pt hP (hDD _ _ _ _ _ _ _ _ _ _ _ _ _) hS 33 cw_33 rfl 4 (by decide) k_1_164 rfl rfl (by decide +kernel) rfl rfl (Nat.le_of_ble_eq_true rfl) rfl d_Pt_readQuantifier_158 (fun H locs hP hS => ?_)
  exact w_Pt_readQuantifier_j161 hE C hDD n y0 (Pt_mk (Pt_tokens Pt) (Pt_characterCount Pt) (Pt_tokenCount Pt) ((Pt_position Pt) + (1:Int32)) (Pt_total Pt) (Pt_least Pt) (Pt_most Pt) (Pt_depth Pt) (Pt_blockStarts Pt) (Pt_branchStarts Pt) (Pt_jumps Pt) (Pt_sizesBefore Pt)) Sj T0 T1 Rd Pg Mk Lk Ck Jd Ld Pr rt h _ _ _ hP hS (lv_sub hl [1, 0] rfl)
set_option maxHeartbeats 4000000 in
set_option maxRecDepth 100000 in
theorem w_Pt_readQuantifier_j112 {E : (Nat → Prop) → State → Heap → Prop} {p : Program} {l : Launch} {e : Env} {s : State} {m : MethodId} {args : Array Value} {below : List Frame} {meth : Method} {c : Code} {D : va_G} {ad kd sd vd xd : Nat → Nat} {ca : Nat → ClassId} {A : Nat → Prop} (hE : o_EK E kd sd vd xd) (C : o_Cx E p s m args meth c D o_cls (o_tys ca) "SchemaJudge$Pattern" b_Pt_readQuantifier (some .boolean) 3 cc_Pt_readQuantifier A) (hDD : ∀ (rt : Nat) (Sj : SSJ) (T0 : STx) (T1 : STx) (Rd : SRd) (Pg : SPg) (Pt : SPt) (Mk : SMk) (Lk : SLk) (Ck : SCk) (Jd : SJd) (Ld : SLd) (Pr : SPr), va_D A (o_cw ad ca rt Sj T0 T1 Rd Pg Pt Mk Lk Ck Jd Ld Pr)) (n : Nat) (x2 : Int32) (Pt : SPt) (Sj : SSJ) (T0 : STx) (T1 : STx) (Rd : SRd) (Pg : SPg) (Mk : SMk) (Lk : SLk) (Ck : SCk) (Jd : SJd) (Ld : SLd) (Pr : SPr) (rt : Nat) {r : Int32 × SPt} (h : m_Pt_readQuantifier_j112 n x2 Pt = some r) : o_At p l e rm_Pt_readQuantifier s m args below meth c (MQ below (o_Qx D o_cls (some (.int r.1)) (o_cw ad ca rt Sj T0 T1 Rd Pg r.2 Mk Lk Ck Jd Ld Pr) A) args s 0 0 A) o_cls D A 3 112 [] (o_cw ad ca rt Sj T0 T1 Rd Pg Pt Mk Lk Ck Jd Ld Pr) [(0, .ref (ad 33)), (2, .int x2)] := by
  unfold m_Pt_readQuantifier_j112 at h
  intro H locs ls hP hS hl
  have C0 := C
  obtain ⟨hx, hb, -, -, -, hown, hts, hK, -, -⟩ := C0
  refine lv_iload_n hx hb d_Pt_readQuantifier_112 rfl (lv_at hl 1 rfl) ?_
  refine lv_if_eq (tgt := 149) hx hb d_Pt_readQuantifier_113 (by decide) (fun c10 => ?_) (fun c10 => ?_)
  · replace h := o_tt c10 h
    refine lv_iconst (v := (0:Int32)) hx hb d_Pt_readQuantifier_149 (by decide) ?_
    exact w_Pt_readQuantifier_j150 hE C hDD n (0:Int32) Pt Sj T0 T1 Rd Pg Mk Lk Ck Jd Ld Pr rt h _ _ _ hP hS (lv_sub hl [0] rfl)
  · replace h := o_ff c10 h
    refine lv_aload_n hx hb d_Pt_readQuantifier_116 rfl (lv_at hl 0 rfl) ?_
    refine lv_iconst (v := (0:Int32)) hx hb d_Pt_readQuantifier_117 (by decide) ?_
    obtain ⟨q5, hq5, h⟩ := o_bd_some h
    refine o_V (st1 := [.int q5]) (w1 := (o_cw ad ca rt Sj T0 T1 Rd Pg Pt Mk Lk Ck Jd Ld Pr)) hE.1 C (c_Pt_peek hE l (0:Int32) Pt Sj T0 T1 Rd Pg Mk Lk Ck Jd Ld Pr rt hq5) hP (hDD _ _ _ _ _ _ _ _ _ _ _ _ _) hS hl.1 rfl cw_33 k_4_214 k_4_216 k_s_28 k_1_5 k_4_217 hv_Pt_peek rfl rfl ⟨(Nat.le_of_ble_eq_true rfl), (Nat.le_of_ble_eq_true rfl)⟩ rfl (Nat.le_of_ble_eq_true rfl) ⟨Nat.zero_le _, Nat.zero_le _⟩ rfl d_Pt_readQuantifier_118 (fun H locs hP hS => ?_)
    refine lv_bipush (v := (-125:Int32)) hx hb d_Pt_readQuantifier_121 (by decide) ?_
    refine lv_icmp_ne (tgt := 149) hx hb d_Pt_readQuantifier_123 (by decide) (fun c11 => ?_) (fun c11 => ?_)
    · replace h := o_ff c11 h
      refine lv_iconst (v := (0:Int32)) hx hb d_Pt_readQuantifier_149 (by decide) ?_
      exact w_Pt_readQuantifier_j150 hE C hDD n (0:Int32) Pt Sj T0 T1 Rd Pg Mk Lk Ck Jd Ld Pr rt h _ _ _ hP hS (lv_sub hl [0] rfl)
    · replace h := o_tt c11 h
      refine lv_aload_n hx hb d_Pt_readQuantifier_126 rfl (lv_at hl 0 rfl) ?_
      refine o_get (v := .int (Pt_most Pt)) C in_Pt hP 33 cw_33 rfl 7 (by decide) k_1_167 rfl rfl d_Pt_readQuantifier_127 ?_
      refine lv_iconst (v := (-1:Int32)) hx hb d_Pt_readQuantifier_130 (by decide) ?_
      refine lv_icmp_eq (tgt := 145) hx hb d_Pt_readQuantifier_131 (by decide) (fun c12 => ?_) (fun c12 => ?_)
      · replace h := o_tt c12 h
        refine lv_iconst (v := (1:Int32)) hx hb d_Pt_readQuantifier_145 (by decide) ?_
        refine lv_goto (tgt := 150) hx hb d_Pt_readQuantifier_146 (by decide) ?_
        exact w_Pt_readQuantifier_j150 hE C hDD n (1:Int32) Pt Sj T0 T1 Rd Pg Mk Lk Ck Jd Ld Pr rt h _ _ _ hP hS (lv_sub hl [0] rfl)
      · replace h := o_ff c12 h
        refine lv_aload_n hx hb d_Pt_readQuantifier_134 rfl (lv_at hl 0 rfl) ?_
        refine o_get (v := .int (Pt_least Pt)) C in_Pt hP 33 cw_33 rfl 6 (by decide) k_1_166 rfl rfl d_Pt_readQuantifier_135 ?_
        refine lv_aload_n hx hb d_Pt_readQuantifier_138 rfl (lv_at hl 0 rfl) ?_
        refine o_get (v := .int (Pt_most Pt)) C in_Pt hP 33 cw_33 rfl 7 (by decide) k_1_167 rfl rfl d_Pt_readQuantifier_139 ?_
        refine lv_icmp_gt (tgt := 149) hx hb d_Pt_readQuantifier_142 (by decide) (fun c13 => ?_) (fun c13 => ?_)
        · replace h := o_tt c13 h
          refine lv_iconst (v := (0:Int32)) hx hb d_Pt_readQuantifier_149 (by decide) ?_
          exact w_Pt_readQuantifier_j150 hE C hDD n (0:Int32) Pt Sj T0 T1 Rd Pg Mk Lk Ck Jd Ld Pr rt h _ _ _ hP hS (lv_sub hl [0] rfl)
        · replace h := o_ff c13 h
          refine lv_iconst (v := (1:Int32)) hx hb d_Pt_readQuantifier_145 (by decide) ?_
          refine lv_goto (tgt := 150) hx hb d_Pt_readQuantifier_146 (by decide) ?_
          exact w_Pt_readQuantifier_j150 hE C hDD n (1:Int32) Pt Sj T0 T1 Rd Pg Mk Lk Ck Jd Ld Pr rt h _ _ _ hP hS (lv_sub hl [0] rfl)
set_option maxHeartbeats 4000000 in
set_option maxRecDepth 100000 in
theorem w_Pt_readQuantifier_j83 {E : (Nat → Prop) → State → Heap → Prop} {p : Program} {l : Launch} {e : Env} {s : State} {m : MethodId} {args : Array Value} {below : List Frame} {meth : Method} {c : Code} {D : va_G} {ad kd sd vd xd : Nat → Nat} {ca : Nat → ClassId} {A : Nat → Prop} (hE : o_EK E kd sd vd xd) (C : o_Cx E p s m args meth c D o_cls (o_tys ca) "SchemaJudge$Pattern" b_Pt_readQuantifier (some .boolean) 3 cc_Pt_readQuantifier A) (hDD : ∀ (rt : Nat) (Sj : SSJ) (T0 : STx) (T1 : STx) (Rd : SRd) (Pg : SPg) (Pt : SPt) (Mk : SMk) (Lk : SLk) (Ck : SCk) (Jd : SJd) (Ld : SLd) (Pr : SPr), va_D A (o_cw ad ca rt Sj T0 T1 Rd Pg Pt Mk Lk Ck Jd Ld Pr)) (n : Nat) (y0 : Int32) (Pt : SPt) (Sj : SSJ) (T0 : STx) (T1 : STx) (Rd : SRd) (Pg : SPg) (Mk : SMk) (Lk : SLk) (Ck : SCk) (Jd : SJd) (Ld : SLd) (Pr : SPr) (rt : Nat) {r : Int32 × SPt} (h : m_Pt_readQuantifier_j83 n y0 Pt = some r) : o_At p l e rm_Pt_readQuantifier s m args below meth c (MQ below (o_Qx D o_cls (some (.int r.1)) (o_cw ad ca rt Sj T0 T1 Rd Pg r.2 Mk Lk Ck Jd Ld Pr) A) args s 0 0 A) o_cls D A 3 83 [.int y0] (o_cw ad ca rt Sj T0 T1 Rd Pg Pt Mk Lk Ck Jd Ld Pr) [(0, .ref (ad 33))] := by
  unfold m_Pt_readQuantifier_j83 at h
  intro H locs ls hP hS hl
  have C0 := C
  obtain ⟨hx, hb, -, -, -, hown, hts, hK, -, -⟩ := C0
  refine lv_istore_n (lv' := [(2, .int y0), (0, .ref (ad 33))]) hx hb d_Pt_readQuantifier_83 rfl hl (by decide) rfl (fun ls hl => ?_)
  refine lv_aload_n hx hb d_Pt_readQuantifier_84 rfl (lv_at hl 1 rfl) ?_
  refine lv_iconst (v := (0:Int32)) hx hb d_Pt_readQuantifier_85 (by decide) ?_
  obtain ⟨q4, hq4, h⟩ := o_bd_some h
  refine o_V (st1 := [.int q4]) (w1 := (o_cw ad ca rt Sj T0 T1 Rd Pg Pt Mk Lk Ck Jd Ld Pr)) hE.1 C (c_Pt_peek hE l (0:Int32) Pt Sj T0 T1 Rd Pg Mk Lk Ck Jd Ld Pr rt hq4) hP (hDD _ _ _ _ _ _ _ _ _ _ _ _ _) hS hl.1 rfl cw_33 k_4_214 k_4_216 k_s_28 k_1_5 k_4_217 hv_Pt_peek rfl rfl ⟨(Nat.le_of_ble_eq_true rfl), (Nat.le_of_ble_eq_true rfl)⟩ rfl (Nat.le_of_ble_eq_true rfl) ⟨Nat.zero_le _, Nat.zero_le _⟩ rfl d_Pt_readQuantifier_86 (fun H locs hP hS => ?_)
  refine lv_bipush (v := (44:Int32)) hx hb d_Pt_readQuantifier_89 (by decide) ?_
  refine lv_icmp_ne (tgt := 112) hx hb d_Pt_readQuantifier_91 (by decide) (fun c9 => ?_) (fun c9 => ?_)
  · replace h := o_ff c9 h
    exact w_Pt_readQuantifier_j112 hE C hDD n y0 Pt Sj T0 T1 Rd Pg Mk Lk Ck Jd Ld Pr rt h _ _ _ hP hS (lv_sub hl [1, 0] rfl)
  · replace h := o_tt c9 h
    refine lv_aload_n hx hb d_Pt_readQuantifier_94 rfl (lv_at hl 1 rfl) ?_
    refine lv_dup hx hb d_Pt_readQuantifier_95 rfl ?_
    refine o_get (v := .int (Pt_position Pt)) C in_Pt hP 33 cw_33 rfl 4 (by decide) k_1_164 rfl rfl d_Pt_readQuantifier_96 ?_
    refine lv_iconst (v := (1:Int32)) hx hb d_Pt_readQuantifier_99 (by decide) ?_
    refine lv_iadd hx hb d_Pt_readQuantifier_100 ?_
    refine o_put (v := .int ((Pt_position Pt) + (1:Int32))) (ty := .int) (w1 := (o_cw ad ca rt Sj T0 T1 Rd Pg (Pt_mk (Pt_tokens Pt) (Pt_characterCount Pt) (Pt_tokenCount Pt) ((Pt_position Pt) + (1:Int32)) (Pt_total Pt) (Pt_least Pt) (Pt_most Pt) (Pt_depth Pt) (Pt_blockStarts Pt) (Pt_branchStarts Pt) (Pt_jumps Pt) (Pt_sizesBefore Pt)) Mk Lk Ck Jd Ld Pr)) C in_Pt t_Pt t_Pt_ok n_Pt hP (hDD _ _ _ _ _ _ _ _ _ _ _ _ _) hS 33 cw_33 rfl 4 (by decide) k_1_164 rfl rfl (by decide +kernel) rfl rfl (Nat.le_of_ble_eq_true rfl) rfl d_Pt_readQuantifier_101 (fun H locs hP hS => ?_)
    refine lv_aload_n hx hb d_Pt_readQuantifier_104 rfl (lv_at hl 1 rfl) ?_
    refine lv_aload_n hx hb d_Pt_readQuantifier_105 rfl (lv_at hl 1 rfl) ?_
    obtain ⟨q6, hq6, h⟩ := o_bd_some h
    refine o_V (st1 := [.int q6.1, .ref (ad 33)]) (w1 := (o_cw ad ca rt Sj T0 T1 Rd Pg q6.2 Mk Lk Ck Jd Ld Pr)) hE.1 C (c_Pt_readNumber hE l n (Pt_mk (Pt_tokens Pt) (Pt_characterCount Pt) (Pt_tokenCount Pt) ((Pt_position Pt) + (1:Int32)) (Pt_total Pt) (Pt_least Pt) (Pt_most Pt) (Pt_depth Pt) (Pt_blockStarts Pt) (Pt_branchStarts Pt) (Pt_jumps Pt) (Pt_sizesBefore Pt)) Sj T0 T1 Rd Pg Mk Lk Ck Jd Ld Pr rt hq6) hP (hDD _ _ _ _ _ _ _ _ _ _ _ _ _) hS hl.1 rfl cw_33 k_5_40 k_5_42 k_s_35 k_1_5 k_5_43 hv_Pt_readNumber rfl rfl ⟨(Nat.le_of_ble_eq_true rfl), (Nat.le_of_ble_eq_true rfl)⟩ rfl (Nat.le_of_ble_eq_true rfl) ⟨Nat.zero_le _, Nat.zero_le _⟩ rfl d_Pt_readQuantifier_106 (fun H locs hP hS => ?_)
    refine o_put (v := .int q6.1) (ty := .int) (w1 := (o_cw ad ca rt Sj T0 T1 Rd Pg (Pt_mk (Pt_tokens q6.2) (Pt_characterCount q6.2) (Pt_tokenCount q6.2) (Pt_position q6.2) (Pt_total q6.2) (Pt_least q6.2) q6.1 (Pt_depth q6.2) (Pt_blockStarts q6.2) (Pt_branchStarts q6.2) (Pt_jumps q6.2) (Pt_sizesBefore q6.2)) Mk Lk Ck Jd Ld Pr)) C in_Pt t_Pt t_Pt_ok n_Pt hP (hDD _ _ _ _ _ _ _ _ _ _ _ _ _) hS 33 cw_33 rfl 7 (by decide) k_1_167 rfl rfl (by decide +kernel) rfl rfl (Nat.le_of_ble_eq_true rfl) rfl d_Pt_readQuantifier_109 (fun H locs hP hS => ?_)
    exact w_Pt_readQuantifier_j112 hE C hDD n y0 (Pt_mk (Pt_tokens q6.2) (Pt_characterCount q6.2) (Pt_tokenCount q6.2) (Pt_position q6.2) (Pt_total q6.2) (Pt_least q6.2) q6.1 (Pt_depth q6.2) (Pt_blockStarts q6.2) (Pt_branchStarts q6.2) (Pt_jumps q6.2) (Pt_sizesBefore q6.2)) Sj T0 T1 Rd Pg Mk Lk Ck Jd Ld Pr rt h _ _ _ hP hS (lv_sub hl [1, 0] rfl)
set_option maxHeartbeats 4000000 in
set_option maxRecDepth 100000 in
theorem w_Pt_readQuantifier_j43 {E : (Nat → Prop) → State → Heap → Prop} {p : Program} {l : Launch} {e : Env} {s : State} {m : MethodId} {args : Array Value} {below : List Frame} {meth : Method} {c : Code} {D : va_G} {ad kd sd vd xd : Nat → Nat} {ca : Nat → ClassId} {A : Nat → Prop} (hE : o_EK E kd sd vd xd) (C : o_Cx E p s m args meth c D o_cls (o_tys ca) "SchemaJudge$Pattern" b_Pt_readQuantifier (some .boolean) 3 cc_Pt_readQuantifier A) (hDD : ∀ (rt : Nat) (Sj : SSJ) (T0 : STx) (T1 : STx) (Rd : SRd) (Pg : SPg) (Pt : SPt) (Mk : SMk) (Lk : SLk) (Ck : SCk) (Jd : SJd) (Ld : SLd) (Pr : SPr), va_D A (o_cw ad ca rt Sj T0 T1 Rd Pg Pt Mk Lk Ck Jd Ld Pr)) (n : Nat) (x1 : Int32) (y1 : Int32) (Pt : SPt) (Sj : SSJ) (T0 : STx) (T1 : STx) (Rd : SRd) (Pg : SPg) (Mk : SMk) (Lk : SLk) (Ck : SCk) (Jd : SJd) (Ld : SLd) (Pr : SPr) (rt : Nat) {r : Int32 × SPt} (h : m_Pt_readQuantifier_j43 n x1 y1 Pt = some r) : o_At p l e rm_Pt_readQuantifier s m args below meth c (MQ below (o_Qx D o_cls (some (.int r.1)) (o_cw ad ca rt Sj T0 T1 Rd Pg r.2 Mk Lk Ck Jd Ld Pr) A) args s 0 0 A) o_cls D A 3 43 [.int y1, .ref (ad 33)] (o_cw ad ca rt Sj T0 T1 Rd Pg Pt Mk Lk Ck Jd Ld Pr) [(0, .ref (ad 33)), (1, .int x1)] := by
  unfold m_Pt_readQuantifier_j43 at h
  intro H locs ls hP hS hl
  have C0 := C
  obtain ⟨hx, hb, -, -, -, hown, hts, hK, -, -⟩ := C0
  refine o_put (v := .int y1) (ty := .int) (w1 := (o_cw ad ca rt Sj T0 T1 Rd Pg (Pt_mk (Pt_tokens Pt) (Pt_characterCount Pt) (Pt_tokenCount Pt) (Pt_position Pt) (Pt_total Pt) (Pt_least Pt) y1 (Pt_depth Pt) (Pt_blockStarts Pt) (Pt_branchStarts Pt) (Pt_jumps Pt) (Pt_sizesBefore Pt)) Mk Lk Ck Jd Ld Pr)) C in_Pt t_Pt t_Pt_ok n_Pt hP (hDD _ _ _ _ _ _ _ _ _ _ _ _ _) hS 33 cw_33 rfl 7 (by decide) k_1_167 rfl rfl (by decide +kernel) rfl rfl (Nat.le_of_ble_eq_true rfl) rfl d_Pt_readQuantifier_43 (fun H locs hP hS => ?_)
  refine lv_iconst (v := (1:Int32)) hx hb d_Pt_readQuantifier_46 (by decide) ?_
  refine lv_istore_n (lv' := [(2, .int (1:Int32)), (0, .ref (ad 33)), (1, .int x1)]) hx hb d_Pt_readQuantifier_47 rfl hl (by decide) rfl (fun ls hl => ?_)
  refine lv_iload_n hx hb d_Pt_readQuantifier_48 rfl (lv_at hl 2 rfl) ?_
  refine lv_bipush (v := (-123:Int32)) hx hb d_Pt_readQuantifier_49 (by decide) ?_
  refine lv_icmp_ne (tgt := 161) hx hb d_Pt_readQuantifier_51 (by decide) (fun c3 => ?_) (fun c3 => ?_)
  · replace h := o_ff c3 h
    exact w_Pt_readQuantifier_j161 hE C hDD n (1:Int32) (Pt_mk (Pt_tokens Pt) (Pt_characterCount Pt) (Pt_tokenCount Pt) (Pt_position Pt) (Pt_total Pt) (Pt_least Pt) y1 (Pt_depth Pt) (Pt_blockStarts Pt) (Pt_branchStarts Pt) (Pt_jumps Pt) (Pt_sizesBefore Pt)) Sj T0 T1 Rd Pg Mk Lk Ck Jd Ld Pr rt h _ _ _ hP hS (lv_sub hl [1, 0] rfl)
  · replace h := o_tt c3 h
    refine lv_aload_n hx hb d_Pt_readQuantifier_54 rfl (lv_at hl 1 rfl) ?_
    refine lv_aload_n hx hb d_Pt_readQuantifier_55 rfl (lv_at hl 1 rfl) ?_
    obtain ⟨q3, hq3, h⟩ := o_bd_some h
    refine o_V (st1 := [.int q3.1, .ref (ad 33)]) (w1 := (o_cw ad ca rt Sj T0 T1 Rd Pg q3.2 Mk Lk Ck Jd Ld Pr)) hE.1 C (c_Pt_readNumber hE l n (Pt_mk (Pt_tokens Pt) (Pt_characterCount Pt) (Pt_tokenCount Pt) (Pt_position Pt) (Pt_total Pt) (Pt_least Pt) y1 (Pt_depth Pt) (Pt_blockStarts Pt) (Pt_branchStarts Pt) (Pt_jumps Pt) (Pt_sizesBefore Pt)) Sj T0 T1 Rd Pg Mk Lk Ck Jd Ld Pr rt hq3) hP (hDD _ _ _ _ _ _ _ _ _ _ _ _ _) hS hl.1 rfl cw_33 k_5_40 k_5_42 k_s_35 k_1_5 k_5_43 hv_Pt_readNumber rfl rfl ⟨(Nat.le_of_ble_eq_true rfl), (Nat.le_of_ble_eq_true rfl)⟩ rfl (Nat.le_of_ble_eq_true rfl) ⟨Nat.zero_le _, Nat.zero_le _⟩ rfl d_Pt_readQuantifier_56 (fun H locs hP hS => ?_)
    refine o_put (v := .int q3.1) (ty := .int) (w1 := (o_cw ad ca rt Sj T0 T1 Rd Pg (Pt_mk (Pt_tokens q3.2) (Pt_characterCount q3.2) (Pt_tokenCount q3.2) (Pt_position q3.2) (Pt_total q3.2) q3.1 (Pt_most q3.2) (Pt_depth q3.2) (Pt_blockStarts q3.2) (Pt_branchStarts q3.2) (Pt_jumps q3.2) (Pt_sizesBefore q3.2)) Mk Lk Ck Jd Ld Pr)) C in_Pt t_Pt t_Pt_ok n_Pt hP (hDD _ _ _ _ _ _ _ _ _ _ _ _ _) hS 33 cw_33 rfl 6 (by decide) k_1_166 rfl rfl (by decide +kernel) rfl rfl (Nat.le_of_ble_eq_true rfl) rfl d_Pt_readQuantifier_59 (fun H locs hP hS => ?_)
    refine lv_aload_n hx hb d_Pt_readQuantifier_62 rfl (lv_at hl 1 rfl) ?_
    refine lv_aload_n hx hb d_Pt_readQuantifier_63 rfl (lv_at hl 1 rfl) ?_
    refine o_get (v := .int q3.1) C in_Pt hP 33 cw_33 rfl 6 (by decide) k_1_166 rfl rfl d_Pt_readQuantifier_64 ?_
    refine o_put (v := .int q3.1) (ty := .int) (w1 := (o_cw ad ca rt Sj T0 T1 Rd Pg (Pt_mk (Pt_tokens q3.2) (Pt_characterCount q3.2) (Pt_tokenCount q3.2) (Pt_position q3.2) (Pt_total q3.2) q3.1 q3.1 (Pt_depth q3.2) (Pt_blockStarts q3.2) (Pt_branchStarts q3.2) (Pt_jumps q3.2) (Pt_sizesBefore q3.2)) Mk Lk Ck Jd Ld Pr)) C in_Pt t_Pt t_Pt_ok n_Pt hP (hDD _ _ _ _ _ _ _ _ _ _ _ _ _) hS 33 cw_33 rfl 7 (by decide) k_1_167 rfl rfl (by decide +kernel) rfl rfl (Nat.le_of_ble_eq_true rfl) rfl d_Pt_readQuantifier_67 (fun H locs hP hS => ?_)
    refine lv_aload_n hx hb d_Pt_readQuantifier_70 rfl (lv_at hl 1 rfl) ?_
    refine o_get (v := .int q3.1) C in_Pt hP 33 cw_33 rfl 6 (by decide) k_1_166 rfl rfl d_Pt_readQuantifier_71 ?_
    refine lv_iconst (v := (-1:Int32)) hx hb d_Pt_readQuantifier_74 (by decide) ?_
    refine lv_icmp_eq (tgt := 82) hx hb d_Pt_readQuantifier_75 (by decide) (fun c8 => ?_) (fun c8 => ?_)
    · replace h := o_tt c8 h
      refine lv_iconst (v := (0:Int32)) hx hb d_Pt_readQuantifier_82 (by decide) ?_
      exact w_Pt_readQuantifier_j83 hE C hDD n (0:Int32) (Pt_mk (Pt_tokens q3.2) (Pt_characterCount q3.2) (Pt_tokenCount q3.2) (Pt_position q3.2) (Pt_total q3.2) q3.1 q3.1 (Pt_depth q3.2) (Pt_blockStarts q3.2) (Pt_branchStarts q3.2) (Pt_jumps q3.2) (Pt_sizesBefore q3.2)) Sj T0 T1 Rd Pg Mk Lk Ck Jd Ld Pr rt h _ _ _ hP hS (lv_sub hl [1] rfl)
    · replace h := o_ff c8 h
      refine lv_iconst (v := (1:Int32)) hx hb d_Pt_readQuantifier_78 (by decide) ?_
      refine lv_goto (tgt := 83) hx hb d_Pt_readQuantifier_79 (by decide) ?_
      exact w_Pt_readQuantifier_j83 hE C hDD n (1:Int32) (Pt_mk (Pt_tokens q3.2) (Pt_characterCount q3.2) (Pt_tokenCount q3.2) (Pt_position q3.2) (Pt_total q3.2) q3.1 q3.1 (Pt_depth q3.2) (Pt_blockStarts q3.2) (Pt_branchStarts q3.2) (Pt_jumps q3.2) (Pt_sizesBefore q3.2)) Sj T0 T1 Rd Pg Mk Lk Ck Jd Ld Pr rt h _ _ _ hP hS (lv_sub hl [1] rfl)
set_option maxHeartbeats 4000000 in
set_option maxRecDepth 100000 in
theorem w_Pt_readQuantifier_j28 {E : (Nat → Prop) → State → Heap → Prop} {p : Program} {l : Launch} {e : Env} {s : State} {m : MethodId} {args : Array Value} {below : List Frame} {meth : Method} {c : Code} {D : va_G} {ad kd sd vd xd : Nat → Nat} {ca : Nat → ClassId} {A : Nat → Prop} (hE : o_EK E kd sd vd xd) (C : o_Cx E p s m args meth c D o_cls (o_tys ca) "SchemaJudge$Pattern" b_Pt_readQuantifier (some .boolean) 3 cc_Pt_readQuantifier A) (hDD : ∀ (rt : Nat) (Sj : SSJ) (T0 : STx) (T1 : STx) (Rd : SRd) (Pg : SPg) (Pt : SPt) (Mk : SMk) (Lk : SLk) (Ck : SCk) (Jd : SJd) (Ld : SLd) (Pr : SPr), va_D A (o_cw ad ca rt Sj T0 T1 Rd Pg Pt Mk Lk Ck Jd Ld Pr)) (n : Nat) (x1 : Int32) (y1 : Int32) (Pt : SPt) (Sj : SSJ) (T0 : STx) (T1 : STx) (Rd : SRd) (Pg : SPg) (Mk : SMk) (Lk : SLk) (Ck : SCk) (Jd : SJd) (Ld : SLd) (Pr : SPr) (rt : Nat) {r : Int32 × SPt} (h : m_Pt_readQuantifier_j28 n x1 y1 Pt = some r) : o_At p l e rm_Pt_readQuantifier s m args below meth c (MQ below (o_Qx D o_cls (some (.int r.1)) (o_cw ad ca rt Sj T0 T1 Rd Pg r.2 Mk Lk Ck Jd Ld Pr) A) args s 0 0 A) o_cls D A 3 28 [.int y1, .ref (ad 33)] (o_cw ad ca rt Sj T0 T1 Rd Pg Pt Mk Lk Ck Jd Ld Pr) [(0, .ref (ad 33)), (1, .int x1)] := by
  unfold m_Pt_readQuantifier_j28 at h
  intro H locs ls hP hS hl
  have C0 := C
  obtain ⟨hx, hb, -, -, -, hown, hts, hK, -, -⟩ := C0
  refine o_put (v := .int y1) (ty := .int) (w1 := (o_cw ad ca rt Sj T0 T1 Rd Pg (Pt_mk (Pt_tokens Pt) (Pt_characterCount Pt) (Pt_tokenCount Pt) (Pt_position Pt) (Pt_total Pt) y1 (Pt_most Pt) (Pt_depth Pt) (Pt_blockStarts Pt) (Pt_branchStarts Pt) (Pt_jumps Pt) (Pt_sizesBefore Pt)) Mk Lk Ck Jd Ld Pr)) C in_Pt t_Pt t_Pt_ok n_Pt hP (hDD _ _ _ _ _ _ _ _ _ _ _ _ _) hS 33 cw_33 rfl 6 (by decide) k_1_166 rfl rfl (by decide +kernel) rfl rfl (Nat.le_of_ble_eq_true rfl) rfl d_Pt_readQuantifier_28 (fun H locs hP hS => ?_)
  refine lv_aload_n hx hb d_Pt_readQuantifier_31 rfl (lv_at hl 0 rfl) ?_
  refine lv_iload_n hx hb d_Pt_readQuantifier_32 rfl (lv_at hl 1 rfl) ?_
  refine lv_bipush (v := (-63:Int32)) hx hb d_Pt_readQuantifier_33 (by decide) ?_
  refine lv_icmp_ne (tgt := 42) hx hb d_Pt_readQuantifier_35 (by decide) (fun c2 => ?_) (fun c2 => ?_)
  · replace h := o_ff c2 h
    refine lv_iconst (v := (-1:Int32)) hx hb d_Pt_readQuantifier_42 (by decide) ?_
    exact w_Pt_readQuantifier_j43 hE C hDD n x1 (-1:Int32) (Pt_mk (Pt_tokens Pt) (Pt_characterCount Pt) (Pt_tokenCount Pt) (Pt_position Pt) (Pt_total Pt) y1 (Pt_most Pt) (Pt_depth Pt) (Pt_blockStarts Pt) (Pt_branchStarts Pt) (Pt_jumps Pt) (Pt_sizesBefore Pt)) Sj T0 T1 Rd Pg Mk Lk Ck Jd Ld Pr rt h _ _ _ hP hS (lv_sub hl [0, 1] rfl)
  · replace h := o_tt c2 h
    refine lv_iconst (v := (1:Int32)) hx hb d_Pt_readQuantifier_38 (by decide) ?_
    refine lv_goto (tgt := 43) hx hb d_Pt_readQuantifier_39 (by decide) ?_
    exact w_Pt_readQuantifier_j43 hE C hDD n x1 (1:Int32) (Pt_mk (Pt_tokens Pt) (Pt_characterCount Pt) (Pt_tokenCount Pt) (Pt_position Pt) (Pt_total Pt) y1 (Pt_most Pt) (Pt_depth Pt) (Pt_blockStarts Pt) (Pt_branchStarts Pt) (Pt_jumps Pt) (Pt_sizesBefore Pt)) Sj T0 T1 Rd Pg Mk Lk Ck Jd Ld Pr rt h _ _ _ hP hS (lv_sub hl [0, 1] rfl)
set_option maxHeartbeats 4000000 in
set_option maxRecDepth 100000 in
theorem c_Pt_readQuantifier {E : (Nat → Prop) → State → Heap → Prop} {D : va_G} {ad kd sd vd xd : Nat → Nat} {ca : Nat → ClassId} (hE : o_EK E kd sd vd xd) (l : Launch) (n : Nat)  (Pt : SPt) (Sj : SSJ) (T0 : STx) (T1 : STx) (Rd : SRd) (Pg : SPg) (Mk : SMk) (Lk : SLk) (Ck : SCk) (Jd : SJd) (Ld : SLd) (Pr : SPr) (rt : Nat) {r : Int32 × SPt} (h : m_Pt_readQuantifier n Pt = some r) : o_Cn E l D o_cls (o_tys ca) y_Pt_readQuantifier cc_Pt_readQuantifier rm_Pt_readQuantifier [.ref (ad 33)] (o_cw ad ca rt Sj T0 T1 Rd Pg Pt Mk Lk Ck Jd Ld Pr) (o_cw ad ca rt Sj T0 T1 Rd Pg r.2 Mk Lk Ck Jd Ld Pr) (some (.int r.1)) := by
  refine o_Cn_of (by decide) (Nat.le_of_ble_eq_true rfl) ?_
  intro p e s m below meth c A ls C hD hP hS hl
  have hDD : ∀ (rt : Nat) (Sj : SSJ) (T0 : STx) (T1 : STx) (Rd : SRd) (Pg : SPg) (Pt : SPt) (Mk : SMk) (Lk : SLk) (Ck : SCk) (Jd : SJd) (Ld : SLd) (Pr : SPr), va_D A (o_cw ad ca rt Sj T0 T1 Rd Pg Pt Mk Lk Ck Jd Ld Pr) := fun _ _ _ _ _ _ _ _ _ _ _ _ _ => o_D_map hD rfl
  have hl : lv_has ls 3 [(0, .ref (ad 33))] := hl
  unfold m_Pt_readQuantifier at h
  have C0 := C
  obtain ⟨hx, hb, -, -, -, hown, hts, hK, -, -⟩ := C0
  refine lv_aload_n hx hb d_Pt_readQuantifier_0 rfl (lv_at hl 0 rfl) ?_
  refine lv_iconst (v := (0:Int32)) hx hb d_Pt_readQuantifier_1 (by decide) ?_
  obtain ⟨q1, hq1, h⟩ := o_bd_some h
  refine o_V (st1 := [.int q1]) (w1 := (o_cw ad ca rt Sj T0 T1 Rd Pg Pt Mk Lk Ck Jd Ld Pr)) hE.1 C (c_Pt_peek hE l (0:Int32) Pt Sj T0 T1 Rd Pg Mk Lk Ck Jd Ld Pr rt hq1) hP (hDD _ _ _ _ _ _ _ _ _ _ _ _ _) hS hl.1 rfl cw_33 k_4_214 k_4_216 k_s_28 k_1_5 k_4_217 hv_Pt_peek rfl rfl ⟨(Nat.le_of_ble_eq_true rfl), (Nat.le_of_ble_eq_true rfl)⟩ rfl (Nat.le_of_ble_eq_true rfl) ⟨Nat.zero_le _, Nat.zero_le _⟩ rfl d_Pt_readQuantifier_2 (fun H locs hP hS => ?_)
  refine lv_istore_n (lv' := [(1, .int q1), (0, .ref (ad 33))]) hx hb d_Pt_readQuantifier_5 rfl hl (by decide) rfl (fun ls hl => ?_)
  refine lv_aload_n hx hb d_Pt_readQuantifier_6 rfl (lv_at hl 1 rfl) ?_
  refine lv_dup hx hb d_Pt_readQuantifier_7 rfl ?_
  refine o_get (v := .int (Pt_position Pt)) C in_Pt hP 33 cw_33 rfl 4 (by decide) k_1_164 rfl rfl d_Pt_readQuantifier_8 ?_
  refine lv_iconst (v := (1:Int32)) hx hb d_Pt_readQuantifier_11 (by decide) ?_
  refine lv_iadd hx hb d_Pt_readQuantifier_12 ?_
  refine o_put (v := .int ((Pt_position Pt) + (1:Int32))) (ty := .int) (w1 := (o_cw ad ca rt Sj T0 T1 Rd Pg (Pt_mk (Pt_tokens Pt) (Pt_characterCount Pt) (Pt_tokenCount Pt) ((Pt_position Pt) + (1:Int32)) (Pt_total Pt) (Pt_least Pt) (Pt_most Pt) (Pt_depth Pt) (Pt_blockStarts Pt) (Pt_branchStarts Pt) (Pt_jumps Pt) (Pt_sizesBefore Pt)) Mk Lk Ck Jd Ld Pr)) C in_Pt t_Pt t_Pt_ok n_Pt hP (hDD _ _ _ _ _ _ _ _ _ _ _ _ _) hS 33 cw_33 rfl 4 (by decide) k_1_164 rfl rfl (by decide +kernel) rfl rfl (Nat.le_of_ble_eq_true rfl) rfl d_Pt_readQuantifier_13 (fun H locs hP hS => ?_)
  refine lv_aload_n hx hb d_Pt_readQuantifier_16 rfl (lv_at hl 1 rfl) ?_
  refine lv_iload_n hx hb d_Pt_readQuantifier_17 rfl (lv_at hl 0 rfl) ?_
  refine lv_bipush (v := (-43:Int32)) hx hb d_Pt_readQuantifier_18 (by decide) ?_
  refine lv_icmp_ne (tgt := 27) hx hb d_Pt_readQuantifier_20 (by decide) (fun c1 => ?_) (fun c1 => ?_)
  · replace h := o_ff c1 h
    refine lv_iconst (v := (0:Int32)) hx hb d_Pt_readQuantifier_27 (by decide) ?_
    exact w_Pt_readQuantifier_j28 hE C hDD n q1 (0:Int32) (Pt_mk (Pt_tokens Pt) (Pt_characterCount Pt) (Pt_tokenCount Pt) ((Pt_position Pt) + (1:Int32)) (Pt_total Pt) (Pt_least Pt) (Pt_most Pt) (Pt_depth Pt) (Pt_blockStarts Pt) (Pt_branchStarts Pt) (Pt_jumps Pt) (Pt_sizesBefore Pt)) Sj T0 T1 Rd Pg Mk Lk Ck Jd Ld Pr rt h _ _ _ hP hS (lv_sub hl [1, 0] rfl)
  · replace h := o_tt c1 h
    refine lv_iconst (v := (1:Int32)) hx hb d_Pt_readQuantifier_23 (by decide) ?_
    refine lv_goto (tgt := 28) hx hb d_Pt_readQuantifier_24 (by decide) ?_
    exact w_Pt_readQuantifier_j28 hE C hDD n q1 (1:Int32) (Pt_mk (Pt_tokens Pt) (Pt_characterCount Pt) (Pt_tokenCount Pt) ((Pt_position Pt) + (1:Int32)) (Pt_total Pt) (Pt_least Pt) (Pt_most Pt) (Pt_depth Pt) (Pt_blockStarts Pt) (Pt_branchStarts Pt) (Pt_jumps Pt) (Pt_sizesBefore Pt)) Sj T0 T1 Rd Pg Mk Lk Ck Jd Ld Pr rt h _ _ _ hP hS (lv_sub hl [1, 0] rfl)
set_option maxHeartbeats 4000000 in
set_option maxRecDepth 100000 in
theorem w_Pg_copy_j64 {E : (Nat → Prop) → State → Heap → Prop} {p : Program} {l : Launch} {e : Env} {s : State} {m : MethodId} {args : Array Value} {below : List Frame} {meth : Method} {c : Code} {D : va_G} {ad kd sd vd xd : Nat → Nat} {ca : Nat → ClassId} {A : Nat → Prop} (hE : o_EK E kd sd vd xd) (C : o_Cx E p s m args meth c D o_cls (o_tys ca) "SchemaJudge$Program" b_Pg_copy none 3 cc_Pg_copy A) (hDD : ∀ (rt : Nat) (Sj : SSJ) (T0 : STx) (T1 : STx) (Rd : SRd) (Pg : SPg) (Pt : SPt) (Mk : SMk) (Lk : SLk) (Ck : SCk) (Jd : SJd) (Ld : SLd) (Pr : SPr), va_D A (o_cw ad ca rt Sj T0 T1 Rd Pg Pt Mk Lk Ck Jd Ld Pr)) (x2 : Int32) (Pg : SPg) (Sj : SSJ) (T0 : STx) (T1 : STx) (Rd : SRd) (Pt : SPt) (Mk : SMk) (Lk : SLk) (Ck : SCk) (Jd : SJd) (Ld : SLd) (Pr : SPr) (rt : Nat) {r : SPg} (h : m_Pg_copy_j64 x2 Pg = some r) : o_At p l e rm_Pg_copy s m args below meth c (MQ below (o_Qx D o_cls none (o_cw ad ca rt Sj T0 T1 Rd r Pt Mk Lk Ck Jd Ld Pr) A) args s 0 0 A) o_cls D A 3 64 [] (o_cw ad ca rt Sj T0 T1 Rd Pg Pt Mk Lk Ck Jd Ld Pr) [(0, .ref (ad 25)), (2, .int x2)] := by
  unfold m_Pg_copy_j64 at h
  intro H locs ls hP hS hl
  have C0 := C
  obtain ⟨hx, hb, -, -, -, hown, hts, hK, -, -⟩ := C0
  refine lv_aload_n hx hb d_Pg_copy_64 rfl (lv_at hl 0 rfl) ?_
  refine lv_aload_n hx hb d_Pg_copy_65 rfl (lv_at hl 0 rfl) ?_
  refine o_get (v := .int (Pg_length Pg)) C in_Pg hP 25 cw_25 rfl 2 (by decide) k_1_121 rfl rfl d_Pg_copy_66 ?_
  refine lv_iload_n hx hb d_Pg_copy_69 rfl (lv_at hl 1 rfl) ?_
  refine lv_iadd hx hb d_Pg_copy_70 ?_
  refine lv_ldc (v := (1048576:Int32)) hx hb hown (hts _ k_5_5) d_Pg_copy_71 ?_
  refine va_mmin hx hb (C.2.2.2.2.1.trans hl.1.symm) hown (hts _ k_5_6) (hts _ k_4_114) (hts _ k_1_26) (hts _ k_4_115) (Nat.le_of_ble_eq_true rfl) (Nat.le_of_ble_eq_true rfl) (Nat.zero_le _) (Nat.zero_le _) d_Pg_copy_73 ?_
  refine o_put (v := .int (if (1048576:Int32) < ((Pg_length Pg) + x2) then (1048576:Int32) else ((Pg_length Pg) + x2))) (ty := .int) (w1 := (o_cw ad ca rt Sj T0 T1 Rd (Pg_mk (Pg_operations Pg) (Pg_arguments Pg) (if (1048576:Int32) < ((Pg_length Pg) + x2) then (1048576:Int32) else ((Pg_length Pg) + x2)) (Pg_sets Pg) (Pg_setsUsed Pg) (Pg_rounds Pg) (Pg_stack Pg) (Pg_top Pg) (Pg_waiting Pg) (Pg_waitingCount Pg) (Pg_moved Pg)) Pt Mk Lk Ck Jd Ld Pr)) C in_Pg t_Pg t_Pg_ok n_Pg hP (hDD _ _ _ _ _ _ _ _ _ _ _ _ _) hS 25 cw_25 rfl 2 (by decide) k_1_121 rfl rfl (by decide +kernel) rfl rfl (Nat.le_of_ble_eq_true rfl) rfl d_Pg_copy_76 (fun H locs hP hS => ?_)
  cases h
  exact o_rv C hP hS d_Pg_copy_79
set_option maxHeartbeats 4000000 in
set_option maxRecDepth 100000 in
theorem c_Pg_copy {E : (Nat → Prop) → State → Heap → Prop} {D : va_G} {ad kd sd vd xd : Nat → Nat} {ca : Nat → ClassId} (hE : o_EK E kd sd vd xd) (l : Launch) (x1 : Int32) (x2 : Int32) (Pg : SPg) (Sj : SSJ) (T0 : STx) (T1 : STx) (Rd : SRd) (Pt : SPt) (Mk : SMk) (Lk : SLk) (Ck : SCk) (Jd : SJd) (Ld : SLd) (Pr : SPr) (rt : Nat) {r : SPg} (h : m_Pg_copy x1 x2 Pg = some r) : o_Cn E l D o_cls (o_tys ca) y_Pg_copy cc_Pg_copy rm_Pg_copy [.ref (ad 25), .int x1, .int x2] (o_cw ad ca rt Sj T0 T1 Rd Pg Pt Mk Lk Ck Jd Ld Pr) (o_cw ad ca rt Sj T0 T1 Rd r Pt Mk Lk Ck Jd Ld Pr) none := by
  refine o_Cn_of (by decide) (Nat.le_of_ble_eq_true rfl) ?_
  intro p e s m below meth c A ls C hD hP hS hl
  have hDD : ∀ (rt : Nat) (Sj : SSJ) (T0 : STx) (T1 : STx) (Rd : SRd) (Pg : SPg) (Pt : SPt) (Mk : SMk) (Lk : SLk) (Ck : SCk) (Jd : SJd) (Ld : SLd) (Pr : SPr), va_D A (o_cw ad ca rt Sj T0 T1 Rd Pg Pt Mk Lk Ck Jd Ld Pr) := fun _ _ _ _ _ _ _ _ _ _ _ _ _ => o_D_map hD rfl
  have hl : lv_has ls 3 [(0, .ref (ad 25)), (1, .int x1), (2, .int x2)] := hl
  unfold m_Pg_copy at h
  have C0 := C
  obtain ⟨hx, hb, -, -, -, hown, hts, hK, -, -⟩ := C0
  refine lv_iload_n hx hb d_Pg_copy_0 rfl (lv_at hl 1 rfl) ?_
  refine lv_if_lt (tgt := 64) hx hb d_Pg_copy_1 (by decide) (fun c1 => ?_) (fun c1 => ?_)
  · replace h := o_tt c1 h
    exact w_Pg_copy_j64 hE C hDD x2 Pg Sj T0 T1 Rd Pt Mk Lk Ck Jd Ld Pr rt h _ _ _ hP hS (lv_sub hl [0, 2] rfl)
  · replace h := o_ff c1 h
    refine lv_iload_n hx hb d_Pg_copy_4 rfl (lv_at hl 2 rfl) ?_
    refine lv_if_lt (tgt := 64) hx hb d_Pg_copy_5 (by decide) (fun c2 => ?_) (fun c2 => ?_)
    · replace h := o_tt c2 h
      exact w_Pg_copy_j64 hE C hDD x2 Pg Sj T0 T1 Rd Pt Mk Lk Ck Jd Ld Pr rt h _ _ _ hP hS (lv_sub hl [0, 2] rfl)
    · replace h := o_ff c2 h
      refine lv_iload_n hx hb d_Pg_copy_8 rfl (lv_at hl 1 rfl) ?_
      refine lv_iload_n hx hb d_Pg_copy_9 rfl (lv_at hl 2 rfl) ?_
      refine lv_iadd hx hb d_Pg_copy_10 ?_
      refine lv_aload_n hx hb d_Pg_copy_11 rfl (lv_at hl 0 rfl) ?_
      refine o_get (v := .int (Pg_length Pg)) C in_Pg hP 25 cw_25 rfl 2 (by decide) k_1_121 rfl rfl d_Pg_copy_12 ?_
      refine lv_icmp_gt (tgt := 64) hx hb d_Pg_copy_15 (by decide) (fun c3 => ?_) (fun c3 => ?_)
      · replace h := o_tt c3 h
        exact w_Pg_copy_j64 hE C hDD x2 Pg Sj T0 T1 Rd Pt Mk Lk Ck Jd Ld Pr rt h _ _ _ hP hS (lv_sub hl [0, 2] rfl)
      · replace h := o_ff c3 h
        refine lv_aload_n hx hb d_Pg_copy_18 rfl (lv_at hl 0 rfl) ?_
        refine o_get (v := .int (Pg_length Pg)) C in_Pg hP 25 cw_25 rfl 2 (by decide) k_1_121 rfl rfl d_Pg_copy_19 ?_
        refine lv_iload_n hx hb d_Pg_copy_22 rfl (lv_at hl 2 rfl) ?_
        refine lv_iadd hx hb d_Pg_copy_23 ?_
        refine lv_sipush (v := (1300:Int32)) hx hb d_Pg_copy_24 (by decide) ?_
        refine lv_icmp_gt (tgt := 64) hx hb d_Pg_copy_27 (by decide) (fun c4 => ?_) (fun c4 => ?_)
        · replace h := o_tt c4 h
          exact w_Pg_copy_j64 hE C hDD x2 Pg Sj T0 T1 Rd Pt Mk Lk Ck Jd Ld Pr rt h _ _ _ hP hS (lv_sub hl [0, 2] rfl)
        · replace h := o_ff c4 h
          refine lv_aload_n hx hb d_Pg_copy_30 rfl (lv_at hl 0 rfl) ?_
          refine o_get (v := .ref (ad 26)) C in_Pg hP 25 cw_25 rfl 0 (by decide) k_1_119 rfl rfl d_Pg_copy_31 ?_
          refine lv_iload_n hx hb d_Pg_copy_34 rfl (lv_at hl 1 rfl) ?_
          refine lv_aload_n hx hb d_Pg_copy_35 rfl (lv_at hl 0 rfl) ?_
          refine o_get (v := .ref (ad 26)) C in_Pg hP 25 cw_25 rfl 0 (by decide) k_1_119 rfl rfl d_Pg_copy_36 ?_
          refine lv_aload_n hx hb d_Pg_copy_39 rfl (lv_at hl 0 rfl) ?_
          refine o_get (v := .int (Pg_length Pg)) C in_Pg hP 25 cw_25 rfl 2 (by decide) k_1_121 rfl rfl d_Pg_copy_40 ?_
          refine lv_iload_n hx hb d_Pg_copy_43 rfl (lv_at hl 2 rfl) ?_
          obtain ⟨g5, h⟩ := o_gd_some h
          refine o_cpi (f := (Pg_operations Pg)) (g := (Pg_operations Pg)) (w1 := (o_cw ad ca rt Sj T0 T1 Rd (Pg_mk (va_cpy (Pg_operations Pg) (Pg_operations Pg) x1.toNatClampNeg (Pg_length Pg).toNatClampNeg x2.toNatClampNeg) (Pg_arguments Pg) (Pg_length Pg) (Pg_sets Pg) (Pg_setsUsed Pg) (Pg_rounds Pg) (Pg_stack Pg) (Pg_top Pg) (Pg_waiting Pg) (Pg_waitingCount Pg) (Pg_moved Pg)) Pt Mk Lk Ck Jd Ld Pr)) C hP (hDD _ _ _ _ _ _ _ _ _ _ _ _ _) hS hl.1 k_5_2 k_5_4 k_5_3 k_1_28 26 26 21 21 cw_26 cw_26 rfl rfl g5 rfl (Nat.le_of_ble_eq_true rfl) (Nat.le_of_ble_eq_true rfl) d_Pg_copy_44 (fun H locs hP hS => ?_)
          refine lv_aload_n hx hb d_Pg_copy_47 rfl (lv_at hl 0 rfl) ?_
          refine o_get (v := .ref (ad 27)) C in_Pg hP 25 cw_25 rfl 1 (by decide) k_1_120 rfl rfl d_Pg_copy_48 ?_
          refine lv_iload_n hx hb d_Pg_copy_51 rfl (lv_at hl 1 rfl) ?_
          refine lv_aload_n hx hb d_Pg_copy_52 rfl (lv_at hl 0 rfl) ?_
          refine o_get (v := .ref (ad 27)) C in_Pg hP 25 cw_25 rfl 1 (by decide) k_1_120 rfl rfl d_Pg_copy_53 ?_
          refine lv_aload_n hx hb d_Pg_copy_56 rfl (lv_at hl 0 rfl) ?_
          refine o_get (v := .int (Pg_length Pg)) C in_Pg hP 25 cw_25 rfl 2 (by decide) k_1_121 rfl rfl d_Pg_copy_57 ?_
          refine lv_iload_n hx hb d_Pg_copy_60 rfl (lv_at hl 2 rfl) ?_
          obtain ⟨g6, h⟩ := o_gd_some h
          refine o_cpi (f := (Pg_arguments Pg)) (g := (Pg_arguments Pg)) (w1 := (o_cw ad ca rt Sj T0 T1 Rd (Pg_mk (va_cpy (Pg_operations Pg) (Pg_operations Pg) x1.toNatClampNeg (Pg_length Pg).toNatClampNeg x2.toNatClampNeg) (va_cpy (Pg_arguments Pg) (Pg_arguments Pg) x1.toNatClampNeg (Pg_length Pg).toNatClampNeg x2.toNatClampNeg) (Pg_length Pg) (Pg_sets Pg) (Pg_setsUsed Pg) (Pg_rounds Pg) (Pg_stack Pg) (Pg_top Pg) (Pg_waiting Pg) (Pg_waitingCount Pg) (Pg_moved Pg)) Pt Mk Lk Ck Jd Ld Pr)) C hP (hDD _ _ _ _ _ _ _ _ _ _ _ _ _) hS hl.1 k_5_2 k_5_4 k_5_3 k_1_28 27 27 22 22 cw_27 cw_27 rfl rfl g6 rfl (Nat.le_of_ble_eq_true rfl) (Nat.le_of_ble_eq_true rfl) d_Pg_copy_61 (fun H locs hP hS => ?_)
          exact w_Pg_copy_j64 hE C hDD x2 (Pg_mk (va_cpy (Pg_operations Pg) (Pg_operations Pg) x1.toNatClampNeg (Pg_length Pg).toNatClampNeg x2.toNatClampNeg) (va_cpy (Pg_arguments Pg) (Pg_arguments Pg) x1.toNatClampNeg (Pg_length Pg).toNatClampNeg x2.toNatClampNeg) (Pg_length Pg) (Pg_sets Pg) (Pg_setsUsed Pg) (Pg_rounds Pg) (Pg_stack Pg) (Pg_top Pg) (Pg_waiting Pg) (Pg_waitingCount Pg) (Pg_moved Pg)) Sj T0 T1 Rd Pt Mk Lk Ck Jd Ld Pr rt h _ _ _ hP hS (lv_sub hl [0, 2] rfl)
set_option maxHeartbeats 4000000 in
set_option maxRecDepth 100000 in
theorem w_Pg_repeat_b99 {E : (Nat → Prop) → State → Heap → Prop} {p : Program} {l : Launch} {e : Env} {s : State} {m : MethodId} {args : Array Value} {below : List Frame} {meth : Method} {c : Code} {D : va_G} {ad kd sd vd xd : Nat → Nat} {ca : Nat → ClassId} {A : Nat → Prop} {Q : State → Prop} (hE : o_EK E kd sd vd xd) (C : o_Cx E p s m args meth c D o_cls (o_tys ca) "SchemaJudge$Program" b_Pg_repeat none 6 cc_Pg_repeat A) (hDD : ∀ (rt : Nat) (Sj : SSJ) (T0 : STx) (T1 : STx) (Rd : SRd) (Pg : SPg) (Pt : SPt) (Mk : SMk) (Lk : SLk) (Ck : SCk) (Jd : SJd) (Ld : SLd) (Pr : SPr), va_D A (o_cw ad ca rt Sj T0 T1 Rd Pg Pt Mk Lk Ck Jd Ld Pr)) (n : Nat) (u99_x1 : Int32) (u99_x2 : Int32) (u99_x3 : Int32) (u99_x4 : Int32) (u99_Sj : SSJ) (u99_T0 : STx) (u99_T1 : STx) (u99_Rd : SRd) (u99_Pt : SPt) (u99_Mk : SMk) (u99_Lk : SLk) (u99_Ck : SCk) (u99_Jd : SJd) (u99_Ld : SLd) (u99_Pr : SPr) (u99_rt : Nat) (z : Int32 × SPg) (q : Nat × Int32 × SPg) (h : m_Pg_repeat_b99 n u99_x1 u99_x2 u99_x3 u99_x4 z = some q) (h0 : q.1 = 0 → o_At p l e rm_Pg_repeat s m args below meth c Q o_cls D A 6 99 [] (o_cw ad ca u99_rt u99_Sj u99_T0 u99_T1 u99_Rd q.2.2 u99_Pt u99_Mk u99_Lk u99_Ck u99_Jd u99_Ld u99_Pr) [(0, .ref (ad 25)), (1, .int u99_x1), (2, .int u99_x2), (3, .int u99_x3), (4, .int u99_x4), (5, .int q.2.1)]) (h1 : q.1 ≠ 0 → (o_At p l e rm_Pg_repeat s m args below meth c Q o_cls D A 6 118 [] (o_cw ad ca u99_rt u99_Sj u99_T0 u99_T1 u99_Rd q.2.2 u99_Pt u99_Mk u99_Lk u99_Ck u99_Jd u99_Ld u99_Pr) [(0, .ref (ad 25)), (1, .int u99_x1), (2, .int u99_x2), (3, .int u99_x3), (4, .int u99_x4)])) : o_At p l e rm_Pg_repeat s m args below meth c Q o_cls D A 6 99 [] (o_cw ad ca u99_rt u99_Sj u99_T0 u99_T1 u99_Rd z.2 u99_Pt u99_Mk u99_Lk u99_Ck u99_Jd u99_Ld u99_Pr) [(0, .ref (ad 25)), (1, .int u99_x1), (2, .int u99_x2), (3, .int u99_x3), (4, .int u99_x4), (5, .int z.1)] := by
  unfold m_Pg_repeat_b99 at h
  intro H locs ls hP hS hl
  have C0 := C
  obtain ⟨hx, hb, -, -, -, hown, hts, hK, -, -⟩ := C0
  refine lv_iload hx hb d_Pg_repeat_99 (lv_at hl 5 rfl) ?_
  refine lv_iload_n hx hb d_Pg_repeat_101 rfl (lv_at hl 2 rfl) ?_
  refine lv_icmp_ge (tgt := 118) hx hb d_Pg_repeat_102 (by decide) (fun c5 => ?_) (fun c5 => ?_)
  · replace h := o_tt c5 h
    cases h
    exact h1 (Nat.succ_ne_zero 0) _ _ _ hP hS (lv_sub hl [0, 1, 2, 3, 4] rfl)
  · replace h := o_ff c5 h
    refine lv_aload_n hx hb d_Pg_repeat_105 rfl (lv_at hl 0 rfl) ?_
    refine lv_iload_n hx hb d_Pg_repeat_106 rfl (lv_at hl 1 rfl) ?_
    refine lv_iload hx hb d_Pg_repeat_107 (lv_at hl 4 rfl) ?_
    obtain ⟨q1, hq1, h⟩ := o_bd_some h
    refine o_V (st1 := []) (w1 := (o_cw ad ca u99_rt u99_Sj u99_T0 u99_T1 u99_Rd q1 u99_Pt u99_Mk u99_Lk u99_Ck u99_Jd u99_Ld u99_Pr)) hE.1 C (c_Pg_copy hE l u99_x1 u99_x4 z.2 u99_Sj u99_T0 u99_T1 u99_Rd u99_Pt u99_Mk u99_Lk u99_Ck u99_Jd u99_Ld u99_Pr u99_rt hq1) hP (hDD _ _ _ _ _ _ _ _ _ _ _ _ _) hS hl.1 rfl cw_25 k_5_52 k_5_54 k_s_36 k_1_4 k_5_55 hv_Pg_copy rfl rfl ⟨(Nat.le_of_ble_eq_true rfl), (Nat.le_of_ble_eq_true rfl)⟩ rfl (Nat.le_of_ble_eq_true rfl) ⟨Nat.zero_le _, Nat.zero_le _⟩ rfl d_Pg_repeat_109 (fun H locs hP hS => ?_)
    obtain ⟨x5_112, ex5_112⟩ : ∃ y : Int32, y = z.1 + (1:Int32) := ⟨_, rfl⟩
    replace h := o_nm_at ex5_112 h
    refine lv_iinc (v := x5_112) (lv' := [(5, .int x5_112), (0, .ref (ad 25)), (1, .int u99_x1), (2, .int u99_x2), (3, .int u99_x3), (4, .int u99_x4)]) hx hb d_Pg_repeat_112 hl (k := 5) rfl (by rw [ex5_112]; rfl) (by decide) rfl (fun ls hl => ?_)
    refine lv_goto (tgt := 99) hx hb d_Pg_repeat_115 (by decide) ?_
    cases h
    exact h0 rfl _ _ _ hP hS (lv_sub hl [1, 2, 3, 4, 5, 0] rfl)
set_option maxHeartbeats 4000000 in
set_option maxRecDepth 100000 in
theorem w_Pg_repeat_b135 {E : (Nat → Prop) → State → Heap → Prop} {p : Program} {l : Launch} {e : Env} {s : State} {m : MethodId} {args : Array Value} {below : List Frame} {meth : Method} {c : Code} {D : va_G} {ad kd sd vd xd : Nat → Nat} {ca : Nat → ClassId} {A : Nat → Prop} {Q : State → Prop} (hE : o_EK E kd sd vd xd) (C : o_Cx E p s m args meth c D o_cls (o_tys ca) "SchemaJudge$Program" b_Pg_repeat none 6 cc_Pg_repeat A) (hDD : ∀ (rt : Nat) (Sj : SSJ) (T0 : STx) (T1 : STx) (Rd : SRd) (Pg : SPg) (Pt : SPt) (Mk : SMk) (Lk : SLk) (Ck : SCk) (Jd : SJd) (Ld : SLd) (Pr : SPr), va_D A (o_cw ad ca rt Sj T0 T1 Rd Pg Pt Mk Lk Ck Jd Ld Pr)) (n : Nat) (u135_x1 : Int32) (u135_x3 : Int32) (u135_x4 : Int32) (u135_Sj : SSJ) (u135_T0 : STx) (u135_T1 : STx) (u135_Rd : SRd) (u135_Pt : SPt) (u135_Mk : SMk) (u135_Lk : SLk) (u135_Ck : SCk) (u135_Jd : SJd) (u135_Ld : SLd) (u135_Pr : SPr) (u135_rt : Nat) (z : Int32 × SPg) (q : Nat × Int32 × SPg) (h : m_Pg_repeat_b135 n u135_x1 u135_x3 u135_x4 z = some q) (h0 : q.1 = 0 → o_At p l e rm_Pg_repeat s m args below meth c Q o_cls D A 6 135 [] (o_cw ad ca u135_rt u135_Sj u135_T0 u135_T1 u135_Rd q.2.2 u135_Pt u135_Mk u135_Lk u135_Ck u135_Jd u135_Ld u135_Pr) [(0, .ref (ad 25)), (1, .int u135_x1), (3, .int u135_x3), (4, .int u135_x4), (5, .int q.2.1)]) (h1 : q.1 ≠ 0 → (o_At p l e rm_Pg_repeat s m args below meth c Q o_cls D A 6 164 [] (o_cw ad ca u135_rt u135_Sj u135_T0 u135_T1 u135_Rd q.2.2 u135_Pt u135_Mk u135_Lk u135_Ck u135_Jd u135_Ld u135_Pr) [])) : o_At p l e rm_Pg_repeat s m args below meth c Q o_cls D A 6 135 [] (o_cw ad ca u135_rt u135_Sj u135_T0 u135_T1 u135_Rd z.2 u135_Pt u135_Mk u135_Lk u135_Ck u135_Jd u135_Ld u135_Pr) [(0, .ref (ad 25)), (1, .int u135_x1), (3, .int u135_x3), (4, .int u135_x4), (5, .int z.1)] := by
  unfold m_Pg_repeat_b135 at h
  intro H locs ls hP hS hl
  have C0 := C
  obtain ⟨hx, hb, -, -, -, hown, hts, hK, -, -⟩ := C0
  refine lv_iload hx hb d_Pg_repeat_135 (lv_at hl 4 rfl) ?_
  refine lv_iload_n hx hb d_Pg_repeat_137 rfl (lv_at hl 2 rfl) ?_
  refine lv_icmp_ge (tgt := 164) hx hb d_Pg_repeat_138 (by decide) (fun c7 => ?_) (fun c7 => ?_)
  · replace h := o_tt c7 h
    cases h
    exact h1 (Nat.succ_ne_zero 0) _ _ _ hP hS (lv_sub hl [] rfl)
  · replace h := o_ff c7 h
    refine lv_aload_n hx hb d_Pg_repeat_141 rfl (lv_at hl 0 rfl) ?_
    refine lv_bipush (v := (6:Int32)) hx hb d_Pg_repeat_142 (by decide) ?_
    refine lv_iload hx hb d_Pg_repeat_144 (lv_at hl 3 rfl) ?_
    refine lv_iconst (v := (1:Int32)) hx hb d_Pg_repeat_146 (by decide) ?_
    refine lv_iadd hx hb d_Pg_repeat_147 ?_
    obtain ⟨q3, hq3, h⟩ := o_bd_some h
    refine o_V (st1 := []) (w1 := (o_cw ad ca u135_rt u135_Sj u135_T0 u135_T1 u135_Rd q3 u135_Pt u135_Mk u135_Lk u135_Ck u135_Jd u135_Ld u135_Pr)) hE.1 C (c_Pg_emit hE l (6:Int32) (u135_x4 + (1:Int32)) z.2 u135_Sj u135_T0 u135_T1 u135_Rd u135_Pt u135_Mk u135_Lk u135_Ck u135_Jd u135_Ld u135_Pr u135_rt hq3) hP (hDD _ _ _ _ _ _ _ _ _ _ _ _ _) hS hl.1 rfl cw_25 k_5_51 k_5_8 k_5_9 k_1_4 k_5_10 hv_Pg_emit rfl rfl ⟨(Nat.le_of_ble_eq_true rfl), (Nat.le_of_ble_eq_true rfl)⟩ rfl (Nat.le_of_ble_eq_true rfl) ⟨Nat.zero_le _, Nat.zero_le _⟩ rfl d_Pg_repeat_148 (fun H locs hP hS => ?_)
    refine lv_aload_n hx hb d_Pg_repeat_151 rfl (lv_at hl 0 rfl) ?_
    refine lv_iload_n hx hb d_Pg_repeat_152 rfl (lv_at hl 1 rfl) ?_
    refine lv_iload hx hb d_Pg_repeat_153 (lv_at hl 3 rfl) ?_
    obtain ⟨q4, hq4, h⟩ := o_bd_some h
    refine o_V (st1 := []) (w1 := (o_cw ad ca u135_rt u135_Sj u135_T0 u135_T1 u135_Rd q4 u135_Pt u135_Mk u135_Lk u135_Ck u135_Jd u135_Ld u135_Pr)) hE.1 C (c_Pg_copy hE l u135_x1 u135_x4 q3 u135_Sj u135_T0 u135_T1 u135_Rd u135_Pt u135_Mk u135_Lk u135_Ck u135_Jd u135_Ld u135_Pr u135_rt hq4) hP (hDD _ _ _ _ _ _ _ _ _ _ _ _ _) hS hl.1 rfl cw_25 k_5_52 k_5_54 k_s_36 k_1_4 k_5_55 hv_Pg_copy rfl rfl ⟨(Nat.le_of_ble_eq_true rfl), (Nat.le_of_ble_eq_true rfl)⟩ rfl (Nat.le_of_ble_eq_true rfl) ⟨Nat.zero_le _, Nat.zero_le _⟩ rfl d_Pg_repeat_155 (fun H locs hP hS => ?_)
    obtain ⟨x5_158, ex5_158⟩ : ∃ y : Int32, y = z.1 + (1:Int32) := ⟨_, rfl⟩
    replace h := o_nm_at ex5_158 h
    refine lv_iinc (v := x5_158) (lv' := [(5, .int x5_158), (0, .ref (ad 25)), (1, .int u135_x1), (3, .int u135_x3), (4, .int u135_x4)]) hx hb d_Pg_repeat_158 hl (k := 4) rfl (by rw [ex5_158]; rfl) (by decide) rfl (fun ls hl => ?_)
    refine lv_goto (tgt := 135) hx hb d_Pg_repeat_161 (by decide) ?_
    cases h
    exact h0 rfl _ _ _ hP hS (lv_sub hl [1, 2, 3, 4, 0] rfl)
set_option maxHeartbeats 4000000 in
set_option maxRecDepth 100000 in
theorem w_Pg_repeat_b74 {E : (Nat → Prop) → State → Heap → Prop} {p : Program} {l : Launch} {e : Env} {s : State} {m : MethodId} {args : Array Value} {below : List Frame} {meth : Method} {c : Code} {D : va_G} {ad kd sd vd xd : Nat → Nat} {ca : Nat → ClassId} {A : Nat → Prop} {Q : State → Prop} (hE : o_EK E kd sd vd xd) (C : o_Cx E p s m args meth c D o_cls (o_tys ca) "SchemaJudge$Program" b_Pg_repeat none 6 cc_Pg_repeat A) (hDD : ∀ (rt : Nat) (Sj : SSJ) (T0 : STx) (T1 : STx) (Rd : SRd) (Pg : SPg) (Pt : SPt) (Mk : SMk) (Lk : SLk) (Ck : SCk) (Jd : SJd) (Ld : SLd) (Pr : SPr), va_D A (o_cw ad ca rt Sj T0 T1 Rd Pg Pt Mk Lk Ck Jd Ld Pr)) (n : Nat) (u74_x1 : Int32) (u74_x3 : Int32) (u74_x4 : Int32) (u74_Sj : SSJ) (u74_T0 : STx) (u74_T1 : STx) (u74_Rd : SRd) (u74_Pt : SPt) (u74_Mk : SMk) (u74_Lk : SLk) (u74_Ck : SCk) (u74_Jd : SJd) (u74_Ld : SLd) (u74_Pr : SPr) (u74_rt : Nat) (z : Int32 × SPg) (q : Nat × Int32 × SPg) (h : m_Pg_repeat_b74 n u74_x1 u74_x3 u74_x4 z = some q) (h0 : q.1 = 0 → o_At p l e rm_Pg_repeat s m args below meth c Q o_cls D A 6 74 [] (o_cw ad ca u74_rt u74_Sj u74_T0 u74_T1 u74_Rd q.2.2 u74_Pt u74_Mk u74_Lk u74_Ck u74_Jd u74_Ld u74_Pr) [(0, .ref (ad 25)), (1, .int u74_x1), (3, .int u74_x3), (4, .int u74_x4), (5, .int q.2.1)]) (h1 : q.1 ≠ 0 → (o_At p l e rm_Pg_repeat s m args below meth c Q o_cls D A 6 95 [] (o_cw ad ca u74_rt u74_Sj u74_T0 u74_T1 u74_Rd q.2.2 u74_Pt u74_Mk u74_Lk u74_Ck u74_Jd u74_Ld u74_Pr) [])) : o_At p l e rm_Pg_repeat s m args below meth c Q o_cls D A 6 74 [] (o_cw ad ca u74_rt u74_Sj u74_T0 u74_T1 u74_Rd z.2 u74_Pt u74_Mk u74_Lk u74_Ck u74_Jd u74_Ld u74_Pr) [(0, .ref (ad 25)), (1, .int u74_x1), (3, .int u74_x3), (4, .int u74_x4), (5, .int z.1)] := by
  unfold m_Pg_repeat_b74 at h
  intro H locs ls hP hS hl
  have C0 := C
  obtain ⟨hx, hb, -, -, -, hown, hts, hK, -, -⟩ := C0
  refine lv_iload hx hb d_Pg_repeat_74 (lv_at hl 4 rfl) ?_
  refine lv_iload_n hx hb d_Pg_repeat_76 rfl (lv_at hl 2 rfl) ?_
  refine lv_icmp_ge (tgt := 95) hx hb d_Pg_repeat_77 (by decide) (fun c10 => ?_) (fun c10 => ?_)
  · replace h := o_tt c10 h
    cases h
    exact h1 (Nat.succ_ne_zero 0) _ _ _ hP hS (lv_sub hl [] rfl)
  · replace h := o_ff c10 h
    refine lv_aload_n hx hb d_Pg_repeat_80 rfl (lv_at hl 0 rfl) ?_
    refine lv_iload_n hx hb d_Pg_repeat_81 rfl (lv_at hl 1 rfl) ?_
    refine lv_iload hx hb d_Pg_repeat_82 (lv_at hl 3 rfl) ?_
    refine lv_iconst (v := (1:Int32)) hx hb d_Pg_repeat_84 (by decide) ?_
    refine lv_iadd hx hb d_Pg_repeat_85 ?_
    obtain ⟨q9, hq9, h⟩ := o_bd_some h
    refine o_V (st1 := []) (w1 := (o_cw ad ca u74_rt u74_Sj u74_T0 u74_T1 u74_Rd q9 u74_Pt u74_Mk u74_Lk u74_Ck u74_Jd u74_Ld u74_Pr)) hE.1 C (c_Pg_copy hE l u74_x1 (u74_x4 + (1:Int32)) z.2 u74_Sj u74_T0 u74_T1 u74_Rd u74_Pt u74_Mk u74_Lk u74_Ck u74_Jd u74_Ld u74_Pr u74_rt hq9) hP (hDD _ _ _ _ _ _ _ _ _ _ _ _ _) hS hl.1 rfl cw_25 k_5_52 k_5_54 k_s_36 k_1_4 k_5_55 hv_Pg_copy rfl rfl ⟨(Nat.le_of_ble_eq_true rfl), (Nat.le_of_ble_eq_true rfl)⟩ rfl (Nat.le_of_ble_eq_true rfl) ⟨Nat.zero_le _, Nat.zero_le _⟩ rfl d_Pg_repeat_86 (fun H locs hP hS => ?_)
    obtain ⟨x5_89, ex5_89⟩ : ∃ y : Int32, y = z.1 + (1:Int32) := ⟨_, rfl⟩
    replace h := o_nm_at ex5_89 h
    refine lv_iinc (v := x5_89) (lv' := [(5, .int x5_89), (0, .ref (ad 25)), (1, .int u74_x1), (3, .int u74_x3), (4, .int u74_x4)]) hx hb d_Pg_repeat_89 hl (k := 4) rfl (by rw [ex5_89]; rfl) (by decide) rfl (fun ls hl => ?_)
    refine lv_goto (tgt := 74) hx hb d_Pg_repeat_92 (by decide) ?_
    cases h
    exact h0 rfl _ _ _ hP hS (lv_sub hl [1, 2, 3, 4, 0] rfl)
set_option maxHeartbeats 4000000 in
set_option maxRecDepth 100000 in
theorem w_Pg_repeat_j52 {E : (Nat → Prop) → State → Heap → Prop} {p : Program} {l : Launch} {e : Env} {s : State} {m : MethodId} {args : Array Value} {below : List Frame} {meth : Method} {c : Code} {D : va_G} {ad kd sd vd xd : Nat → Nat} {ca : Nat → ClassId} {A : Nat → Prop} (hE : o_EK E kd sd vd xd) (C : o_Cx E p s m args meth c D o_cls (o_tys ca) "SchemaJudge$Program" b_Pg_repeat none 6 cc_Pg_repeat A) (hDD : ∀ (rt : Nat) (Sj : SSJ) (T0 : STx) (T1 : STx) (Rd : SRd) (Pg : SPg) (Pt : SPt) (Mk : SMk) (Lk : SLk) (Ck : SCk) (Jd : SJd) (Ld : SLd) (Pr : SPr), va_D A (o_cw ad ca rt Sj T0 T1 Rd Pg Pt Mk Lk Ck Jd Ld Pr)) (n : Nat) (x1 : Int32) (x3 : Int32) (x4 : Int32) (y1 : Int32) (y2 : Int32) (y3 : Int32) (Pg : SPg) (Sj : SSJ) (T0 : STx) (T1 : STx) (Rd : SRd) (Pt : SPt) (Mk : SMk) (Lk : SLk) (Ck : SCk) (Jd : SJd) (Ld : SLd) (Pr : SPr) (rt : Nat) {r : SPg} (h : m_Pg_repeat_j52 n x1 x3 x4 y1 y2 y3 Pg = some r) : o_At p l e rm_Pg_repeat s m args below meth c (MQ below (o_Qx D o_cls none (o_cw ad ca rt Sj T0 T1 Rd r Pt Mk Lk Ck Jd Ld Pr) A) args s 0 0 A) o_cls D A 6 52 [.int y3, .int y2, .int y1, .ref (ad 25)] (o_cw ad ca rt Sj T0 T1 Rd Pg Pt Mk Lk Ck Jd Ld Pr) [(0, .ref (ad 25)), (1, .int x1), (3, .int x3), (4, .int x4)] := by
  unfold m_Pg_repeat_j52 at h
  intro H locs ls hP hS hl
  have C0 := C
  obtain ⟨hx, hb, -, -, -, hown, hts, hK, -, -⟩ := C0
  obtain ⟨q8, hq8, h⟩ := o_bd_some h
  refine o_V (st1 := []) (w1 := (o_cw ad ca rt Sj T0 T1 Rd q8 Pt Mk Lk Ck Jd Ld Pr)) hE.1 C (c_Pg_insert hE l y1 y2 y3 Pg Sj T0 T1 Rd Pt Mk Lk Ck Jd Ld Pr rt hq8) hP (hDD _ _ _ _ _ _ _ _ _ _ _ _ _) hS hl.1 rfl cw_25 k_5_50 k_4_239 k_5_0 k_1_4 k_5_1 hv_Pg_insert rfl rfl ⟨(Nat.le_of_ble_eq_true rfl), (Nat.le_of_ble_eq_true rfl)⟩ rfl (Nat.le_of_ble_eq_true rfl) ⟨Nat.zero_le _, Nat.zero_le _⟩ rfl d_Pg_repeat_52 (fun H locs hP hS => ?_)
  refine lv_iload_n hx hb d_Pg_repeat_55 rfl (lv_at hl 2 rfl) ?_
  refine lv_iconst (v := (-1:Int32)) hx hb d_Pg_repeat_56 (by decide) ?_
  refine lv_icmp_ne (tgt := 71) hx hb d_Pg_repeat_57 (by decide) (fun c9 => ?_) (fun c9 => ?_)
  · replace h := o_ff c9 h
    refine lv_iconst (v := (1:Int32)) hx hb d_Pg_repeat_71 (by decide) ?_
    refine lv_istore (lv' := [(5, .int (1:Int32)), (0, .ref (ad 25)), (1, .int x1), (3, .int x3), (4, .int x4)]) hx hb d_Pg_repeat_72 hl (by decide) rfl (fun ls hl => ?_)
    obtain ⟨q10, hq10, h⟩ := o_bd_some h
    refine o_sim2 (AH := fun zz => o_At p l e rm_Pg_repeat s m args below meth c _ o_cls D A 6 74 [] (o_cw ad ca rt Sj T0 T1 Rd zz.2 Pt Mk Lk Ck Jd Ld Pr) [(0, .ref (ad 25)), (1, .int x1), (3, .int x3), (4, .int x4), (5, .int zz.1)]) (AX := fun qq => o_At p l e rm_Pg_repeat s m args below meth c _ o_cls D A 6 95 [] (o_cw ad ca rt Sj T0 T1 Rd qq.2.2 Pt Mk Lk Ck Jd Ld Pr) []) (fun zz qq h h0 h1 => w_Pg_repeat_b74 hE C hDD n x1 x3 x4 Sj T0 T1 Rd Pt Mk Lk Ck Jd Ld Pr rt zz qq h h0 h1) n _ q10 hq10 ?_ _ _ _ hP hS (lv_sub hl [1, 2, 3, 4, 0] rfl)
    intro H locs ls hP hS hl
    cases h
    exact o_rv C hP hS d_Pg_repeat_95
  · replace h := o_tt c9 h
    refine lv_aload_n hx hb d_Pg_repeat_60 rfl (lv_at hl 0 rfl) ?_
    refine lv_bipush (v := (7:Int32)) hx hb d_Pg_repeat_61 (by decide) ?_
    refine lv_iload hx hb d_Pg_repeat_63 (lv_at hl 3 rfl) ?_
    refine lv_iconst (v := (1:Int32)) hx hb d_Pg_repeat_65 (by decide) ?_
    refine lv_iadd hx hb d_Pg_repeat_66 ?_
    refine lv_ineg hx hb d_Pg_repeat_67 ?_
    obtain ⟨q11, hq11, h⟩ := o_bd_some h
    refine o_V (st1 := []) (w1 := (o_cw ad ca rt Sj T0 T1 Rd q11 Pt Mk Lk Ck Jd Ld Pr)) hE.1 C (c_Pg_emit hE l (7:Int32) (-(x4 + (1:Int32))) q8 Sj T0 T1 Rd Pt Mk Lk Ck Jd Ld Pr rt hq11) hP (hDD _ _ _ _ _ _ _ _ _ _ _ _ _) hS hl.1 rfl cw_25 k_5_51 k_5_8 k_5_9 k_1_4 k_5_10 hv_Pg_emit rfl rfl ⟨(Nat.le_of_ble_eq_true rfl), (Nat.le_of_ble_eq_true rfl)⟩ rfl (Nat.le_of_ble_eq_true rfl) ⟨Nat.zero_le _, Nat.zero_le _⟩ rfl d_Pg_repeat_68 (fun H locs hP hS => ?_)
    refine lv_iconst (v := (1:Int32)) hx hb d_Pg_repeat_71 (by decide) ?_
    refine lv_istore (lv' := [(5, .int (1:Int32)), (0, .ref (ad 25)), (1, .int x1), (3, .int x3), (4, .int x4)]) hx hb d_Pg_repeat_72 hl (by decide) rfl (fun ls hl => ?_)
    obtain ⟨q12, hq12, h⟩ := o_bd_some h
    refine o_sim2 (AH := fun zz => o_At p l e rm_Pg_repeat s m args below meth c _ o_cls D A 6 74 [] (o_cw ad ca rt Sj T0 T1 Rd zz.2 Pt Mk Lk Ck Jd Ld Pr) [(0, .ref (ad 25)), (1, .int x1), (3, .int x3), (4, .int x4), (5, .int zz.1)]) (AX := fun qq => o_At p l e rm_Pg_repeat s m args below meth c _ o_cls D A 6 95 [] (o_cw ad ca rt Sj T0 T1 Rd qq.2.2 Pt Mk Lk Ck Jd Ld Pr) []) (fun zz qq h h0 h1 => w_Pg_repeat_b74 hE C hDD n x1 x3 x4 Sj T0 T1 Rd Pt Mk Lk Ck Jd Ld Pr rt zz qq h h0 h1) n _ q12 hq12 ?_ _ _ _ hP hS (lv_sub hl [1, 2, 3, 4, 0] rfl)
    intro H locs ls hP hS hl
    cases h
    exact o_rv C hP hS d_Pg_repeat_95
set_option maxHeartbeats 4000000 in
set_option maxRecDepth 100000 in
theorem c_Pg_repeat {E : (Nat → Prop) → State → Heap → Prop} {D : va_G} {ad kd sd vd xd : Nat → Nat} {ca : Nat → ClassId} (hE : o_EK E kd sd vd xd) (l : Launch) (n : Nat) (x1 : Int32) (x2 : Int32) (x3 : Int32) (Pg : SPg) (Sj : SSJ) (T0 : STx) (T1 : STx) (Rd : SRd) (Pt : SPt) (Mk : SMk) (Lk : SLk) (Ck : SCk) (Jd : SJd) (Ld : SLd) (Pr : SPr) (rt : Nat) {r : SPg} (h : m_Pg_repeat n x1 x2 x3 Pg = some r) : o_Cn E l D o_cls (o_tys ca) y_Pg_repeat cc_Pg_repeat rm_Pg_repeat [.ref (ad 25), .int x1, .int x2, .int x3] (o_cw ad ca rt Sj T0 T1 Rd Pg Pt Mk Lk Ck Jd Ld Pr) (o_cw ad ca rt Sj T0 T1 Rd r Pt Mk Lk Ck Jd Ld Pr) none := by
  refine o_Cn_of (by decide) (Nat.le_of_ble_eq_true rfl) ?_
  intro p e s m below meth c A ls C hD hP hS hl
  have hDD : ∀ (rt : Nat) (Sj : SSJ) (T0 : STx) (T1 : STx) (Rd : SRd) (Pg : SPg) (Pt : SPt) (Mk : SMk) (Lk : SLk) (Ck : SCk) (Jd : SJd) (Ld : SLd) (Pr : SPr), va_D A (o_cw ad ca rt Sj T0 T1 Rd Pg Pt Mk Lk Ck Jd Ld Pr) := fun _ _ _ _ _ _ _ _ _ _ _ _ _ => o_D_map hD rfl
  have hl : lv_has ls 6 [(0, .ref (ad 25)), (1, .int x1), (2, .int x2), (3, .int x3)] := hl
  unfold m_Pg_repeat at h
  have C0 := C
  obtain ⟨hx, hb, -, -, -, hown, hts, hK, -, -⟩ := C0
  refine lv_aload_n hx hb d_Pg_repeat_0 rfl (lv_at hl 0 rfl) ?_
  refine o_get (v := .int (Pg_length Pg)) C in_Pg hP 25 cw_25 rfl 2 (by decide) k_1_121 rfl rfl d_Pg_repeat_1 ?_
  refine lv_iload_n hx hb d_Pg_repeat_4 rfl (lv_at hl 1 rfl) ?_
  refine lv_isub hx hb d_Pg_repeat_5 ?_
  refine lv_topi (fun x4_6 ex4_6 => ?_)
  replace h := o_nm_at ex4_6 h
  refine lv_istore (lv' := [(4, .int x4_6), (0, .ref (ad 25)), (1, .int x1), (2, .int x2), (3, .int x3)]) hx hb d_Pg_repeat_6 hl (by decide) rfl (fun ls hl => ?_)
  refine lv_iload_n hx hb d_Pg_repeat_8 rfl (lv_at hl 2 rfl) ?_
  refine lv_if_lt (tgt := 17) hx hb d_Pg_repeat_9 (by decide) (fun c1 => ?_) (fun c1 => ?_)
  · replace h := o_tt c1 h
    cases h
    exact o_rv C hP hS d_Pg_repeat_17
  · replace h := o_ff c1 h
    refine lv_iload hx hb d_Pg_repeat_12 (lv_at hl 0 rfl) ?_
    refine lv_if_gt (tgt := 18) hx hb d_Pg_repeat_14 (by decide) (fun c2 => ?_) (fun c2 => ?_)
    · replace h := o_tt c2 h
      refine lv_iload_n hx hb d_Pg_repeat_18 rfl (lv_at hl 4 rfl) ?_
      refine lv_if_ne (tgt := 28) hx hb d_Pg_repeat_19 (by decide) (fun c3 => ?_) (fun c3 => ?_)
      · replace h := o_ff c3 h
        refine lv_iload_n hx hb d_Pg_repeat_28 rfl (lv_at hl 3 rfl) ?_
        refine lv_if_ne (tgt := 96) hx hb d_Pg_repeat_29 (by decide) (fun c4 => ?_) (fun c4 => ?_)
        · replace h := o_ff c4 h
          refine lv_iconst (v := (1:Int32)) hx hb d_Pg_repeat_96 (by decide) ?_
          refine lv_istore (lv' := [(5, .int (1:Int32)), (4, .int x4_6), (0, .ref (ad 25)), (1, .int x1), (2, .int x2), (3, .int x3)]) hx hb d_Pg_repeat_97 hl (by decide) rfl (fun ls hl => ?_)
          obtain ⟨q2, hq2, h⟩ := o_bd_some h
          refine o_sim2 (AH := fun zz => o_At p l e rm_Pg_repeat s m _ below meth c _ o_cls D A 6 99 [] (o_cw ad ca rt Sj T0 T1 Rd zz.2 Pt Mk Lk Ck Jd Ld Pr) [(0, .ref (ad 25)), (1, .int x1), (2, .int x2), (3, .int x3), (4, .int x4_6), (5, .int zz.1)]) (AX := fun qq => o_At p l e rm_Pg_repeat s m _ below meth c _ o_cls D A 6 118 [] (o_cw ad ca rt Sj T0 T1 Rd qq.2.2 Pt Mk Lk Ck Jd Ld Pr) [(0, .ref (ad 25)), (1, .int x1), (2, .int x2), (3, .int x3), (4, .int x4_6)]) (fun zz qq h h0 h1 => w_Pg_repeat_b99 hE C hDD n x1 x2 x3 x4_6 Sj T0 T1 Rd Pt Mk Lk Ck Jd Ld Pr rt zz qq h h0 h1) n _ q2 hq2 ?_ _ _ _ hP hS (lv_sub hl [2, 3, 4, 5, 1, 0] rfl)
          intro H locs ls hP hS hl
          refine lv_iload_n hx hb d_Pg_repeat_118 rfl (lv_at hl 3 rfl) ?_
          refine lv_iconst (v := (-1:Int32)) hx hb d_Pg_repeat_119 (by decide) ?_
          refine lv_icmp_ne (tgt := 132) hx hb d_Pg_repeat_120 (by decide) (fun c6 => ?_) (fun c6 => ?_)
          · replace h := o_ff c6 h
            refine lv_iload_n hx hb d_Pg_repeat_132 rfl (lv_at hl 2 rfl) ?_
            refine lv_istore (lv' := [(5, .int x2), (0, .ref (ad 25)), (1, .int x1), (2, .int x2), (3, .int x3), (4, .int x4_6)]) hx hb d_Pg_repeat_133 hl (by decide) rfl (fun ls hl => ?_)
            obtain ⟨q5, hq5, h⟩ := o_bd_some h
            refine o_sim2 (AH := fun zz => o_At p l e rm_Pg_repeat s m _ below meth c _ o_cls D A 6 135 [] (o_cw ad ca rt Sj T0 T1 Rd zz.2 Pt Mk Lk Ck Jd Ld Pr) [(0, .ref (ad 25)), (1, .int x1), (3, .int x3), (4, .int x4_6), (5, .int zz.1)]) (AX := fun qq => o_At p l e rm_Pg_repeat s m _ below meth c _ o_cls D A 6 164 [] (o_cw ad ca rt Sj T0 T1 Rd qq.2.2 Pt Mk Lk Ck Jd Ld Pr) []) (fun zz qq h h0 h1 => w_Pg_repeat_b135 hE C hDD n x1 x3 x4_6 Sj T0 T1 Rd Pt Mk Lk Ck Jd Ld Pr rt zz qq h h0 h1) n _ q5 hq5 ?_ _ _ _ hP hS (lv_sub hl [1, 2, 4, 5, 0] rfl)
            intro H locs ls hP hS hl
            cases h
            exact o_rv C hP hS d_Pg_repeat_164
          · replace h := o_tt c6 h
            refine lv_aload_n hx hb d_Pg_repeat_123 rfl (lv_at hl 0 rfl) ?_
            refine lv_bipush (v := (6:Int32)) hx hb d_Pg_repeat_124 (by decide) ?_
            refine lv_iload hx hb d_Pg_repeat_126 (lv_at hl 4 rfl) ?_
            refine lv_ineg hx hb d_Pg_repeat_128 ?_
            obtain ⟨q6, hq6, h⟩ := o_bd_some h
            refine o_V (st1 := []) (w1 := (o_cw ad ca rt Sj T0 T1 Rd q6 Pt Mk Lk Ck Jd Ld Pr)) hE.1 C (c_Pg_emit hE l (6:Int32) (-x4_6) q2.2.2 Sj T0 T1 Rd Pt Mk Lk Ck Jd Ld Pr rt hq6) hP (hDD _ _ _ _ _ _ _ _ _ _ _ _ _) hS hl.1 rfl cw_25 k_5_51 k_5_8 k_5_9 k_1_4 k_5_10 hv_Pg_emit rfl rfl ⟨(Nat.le_of_ble_eq_true rfl), (Nat.le_of_ble_eq_true rfl)⟩ rfl (Nat.le_of_ble_eq_true rfl) ⟨Nat.zero_le _, Nat.zero_le _⟩ rfl d_Pg_repeat_129 (fun H locs hP hS => ?_)
            refine lv_iload_n hx hb d_Pg_repeat_132 rfl (lv_at hl 2 rfl) ?_
            refine lv_istore (lv' := [(5, .int x2), (0, .ref (ad 25)), (1, .int x1), (2, .int x2), (3, .int x3), (4, .int x4_6)]) hx hb d_Pg_repeat_133 hl (by decide) rfl (fun ls hl => ?_)
            obtain ⟨q7, hq7, h⟩ := o_bd_some h
            refine o_sim2 (AH := fun zz => o_At p l e rm_Pg_repeat s m _ below meth c _ o_cls D A 6 135 [] (o_cw ad ca rt Sj T0 T1 Rd zz.2 Pt Mk Lk Ck Jd Ld Pr) [(0, .ref (ad 25)), (1, .int x1), (3, .int x3), (4, .int x4_6), (5, .int zz.1)]) (AX := fun qq => o_At p l e rm_Pg_repeat s m _ below meth c _ o_cls D A 6 164 [] (o_cw ad ca rt Sj T0 T1 Rd qq.2.2 Pt Mk Lk Ck Jd Ld Pr) []) (fun zz qq h h0 h1 => w_Pg_repeat_b135 hE C hDD n x1 x3 x4_6 Sj T0 T1 Rd Pt Mk Lk Ck Jd Ld Pr rt zz qq h h0 h1) n _ q7 hq7 ?_ _ _ _ hP hS (lv_sub hl [1, 2, 4, 5, 0] rfl)
            intro H locs ls hP hS hl
            cases h
            exact o_rv C hP hS d_Pg_repeat_164
        · replace h := o_tt c4 h
          refine lv_aload_n hx hb d_Pg_repeat_32 rfl (lv_at hl 1 rfl) ?_
          refine lv_iload_n hx hb d_Pg_repeat_33 rfl (lv_at hl 2 rfl) ?_
          refine lv_bipush (v := (6:Int32)) hx hb d_Pg_repeat_34 (by decide) ?_
          refine lv_iload_n hx hb d_Pg_repeat_36 rfl (lv_at hl 4 rfl) ?_
          refine lv_iconst (v := (-1:Int32)) hx hb d_Pg_repeat_37 (by decide) ?_
          refine lv_icmp_ne (tgt := 48) hx hb d_Pg_repeat_38 (by decide) (fun c8 => ?_) (fun c8 => ?_)
          · replace h := o_ff c8 h
            refine lv_iload hx hb d_Pg_repeat_48 (lv_at hl 0 rfl) ?_
            refine lv_iconst (v := (1:Int32)) hx hb d_Pg_repeat_50 (by decide) ?_
            refine lv_iadd hx hb d_Pg_repeat_51 ?_
            exact w_Pg_repeat_j52 hE C hDD n x1 x3 x4_6 x1 (6:Int32) (x4_6 + (1:Int32)) Pg Sj T0 T1 Rd Pt Mk Lk Ck Jd Ld Pr rt h _ _ _ hP hS (lv_sub hl [1, 2, 4, 0] rfl)
          · replace h := o_tt c8 h
            refine lv_iload hx hb d_Pg_repeat_41 (lv_at hl 0 rfl) ?_
            refine lv_iconst (v := (2:Int32)) hx hb d_Pg_repeat_43 (by decide) ?_
            refine lv_iadd hx hb d_Pg_repeat_44 ?_
            refine lv_goto (tgt := 52) hx hb d_Pg_repeat_45 (by decide) ?_
            exact w_Pg_repeat_j52 hE C hDD n x1 x3 x4_6 x1 (6:Int32) (x4_6 + (2:Int32)) Pg Sj T0 T1 Rd Pt Mk Lk Ck Jd Ld Pr rt h _ _ _ hP hS (lv_sub hl [1, 2, 4, 0] rfl)
      · replace h := o_tt c3 h
        refine lv_aload_n hx hb d_Pg_repeat_22 rfl (lv_at hl 1 rfl) ?_
        refine lv_iload_n hx hb d_Pg_repeat_23 rfl (lv_at hl 2 rfl) ?_
        refine o_put (v := .int x1) (ty := .int) (w1 := (o_cw ad ca rt Sj T0 T1 Rd (Pg_mk (Pg_operations Pg) (Pg_arguments Pg) x1 (Pg_sets Pg) (Pg_setsUsed Pg) (Pg_rounds Pg) (Pg_stack Pg) (Pg_top Pg) (Pg_waiting Pg) (Pg_waitingCount Pg) (Pg_moved Pg)) Pt Mk Lk Ck Jd Ld Pr)) C in_Pg t_Pg t_Pg_ok n_Pg hP (hDD _ _ _ _ _ _ _ _ _ _ _ _ _) hS 25 cw_25 rfl 2 (by decide) k_1_121 rfl rfl (by decide +kernel) rfl rfl (Nat.le_of_ble_eq_true rfl) rfl d_Pg_repeat_24 (fun H locs hP hS => ?_)
        cases h
        exact o_rv C hP hS d_Pg_repeat_27
    · replace h := o_ff c2 h
      cases h
      exact o_rv C hP hS d_Pg_repeat_17
set_option maxHeartbeats 4000000 in
set_option maxRecDepth 100000 in
theorem w_Pt_parse_j325 {E : (Nat → Prop) → State → Heap → Prop} {p : Program} {l : Launch} {e : Env} {s : State} {m : MethodId} {args : Array Value} {below : List Frame} {meth : Method} {c : Code} {D : va_G} {ad kd sd vd xd : Nat → Nat} {ca : Nat → ClassId} {A : Nat → Prop} {Q : State → Prop} (hE : o_EK E kd sd vd xd) (C : o_Cx E p s m args meth c D o_cls (o_tys ca) "SchemaJudge$Pattern" b_Pt_parse (some .boolean) 8 cc_Pt_parse A) (hDD : ∀ (rt : Nat) (Sj : SSJ) (T0 : STx) (T1 : STx) (Rd : SRd) (Pg : SPg) (Pt : SPt) (Mk : SMk) (Lk : SLk) (Ck : SCk) (Jd : SJd) (Ld : SLd) (Pr : SPr), va_D A (o_cw ad ca rt Sj T0 T1 Rd Pg Pt Mk Lk Ck Jd Ld Pr)) (n : Nat) (u28_Sj : SSJ) (u28_T0 : STx) (u28_T1 : STx) (u28_Rd : SRd) (u28_Mk : SMk) (u28_Lk : SLk) (u28_Ck : SCk) (u28_Jd : SJd) (u28_Ld : SLd) (u28_Pr : SPr) (u28_rt : Nat) (x1 : Int32) (x6 : Int32) (Pg : SPg) (Pt : SPt) {q : Nat × Int32 × SPg × SPt} (h : m_Pt_parse_j325 n x1 x6 Pg Pt = some q) (h0 : q.1 = 0 → o_At p l e rm_Pt_parse s m args below meth c Q o_cls D A 8 28 [] (o_cw ad ca u28_rt u28_Sj u28_T0 u28_T1 u28_Rd q.2.2.1 q.2.2.2 u28_Mk u28_Lk u28_Ck u28_Jd u28_Ld u28_Pr) [(0, .ref (ad 33)), (1, .int q.2.1)]) (h1 : q.1 ≠ 0 → (if q.1 = 1 then o_At p l e rm_Pt_parse s m args below meth c Q o_cls D A 8 347 [] (o_cw ad ca u28_rt u28_Sj u28_T0 u28_T1 u28_Rd q.2.2.1 q.2.2.2 u28_Mk u28_Lk u28_Ck u28_Jd u28_Ld u28_Pr) [] else o_At p l e rm_Pt_parse s m args below meth c Q o_cls D A 8 355 [] (o_cw ad ca u28_rt u28_Sj u28_T0 u28_T1 u28_Rd q.2.2.1 q.2.2.2 u28_Mk u28_Lk u28_Ck u28_Jd u28_Ld u28_Pr) [(0, .ref (ad 33))])) : o_At p l e rm_Pt_parse s m args below meth c Q o_cls D A 8 325 [] (o_cw ad ca u28_rt u28_Sj u28_T0 u28_T1 u28_Rd Pg Pt u28_Mk u28_Lk u28_Ck u28_Jd u28_Ld u28_Pr) [(0, .ref (ad 33)), (1, .int x1), (6, .int x6)] := by
  unfold m_Pt_parse_j325 at h
  intro H locs ls hP hS hl
  have C0 := C
  obtain ⟨hx, hb, -, -, -, hown, hts, hK, -, -⟩ := C0
  refine lv_iload hx hb d_Pt_parse_325 (lv_at hl 2 rfl) ?_
  refine lv_if_eq (tgt := 347) hx hb d_Pt_parse_327 (by decide) (fun c9 => ?_) (fun c9 => ?_)
  · replace h := o_tt c9 h
    cases h
    exact h1 (Nat.succ_ne_zero 0) _ _ _ hP hS (lv_sub hl [] rfl)
  · replace h := o_ff c9 h
    refine lv_aload_n hx hb d_Pt_parse_330 rfl (lv_at hl 0 rfl) ?_
    refine o_get (v := .int (Pt_depth Pt)) C in_Pt hP 33 cw_33 rfl 8 (by decide) k_1_168 rfl rfl d_Pt_parse_331 ?_
    refine lv_if_ne (tgt := 349) hx hb d_Pt_parse_334 (by decide) (fun c10 => ?_) (fun c10 => ?_)
    · replace h := o_ff c10 h
      obtain ⟨x1_349, ex1_349⟩ : ∃ y : Int32, y = x1 + (1:Int32) := ⟨_, rfl⟩
      replace h := o_nm_at ex1_349 h
      refine lv_iinc (v := x1_349) (lv' := [(1, .int x1_349), (0, .ref (ad 33)), (6, .int x6)]) hx hb d_Pt_parse_349 hl (k := 1) rfl (by rw [ex1_349]; rfl) (by decide) rfl (fun ls hl => ?_)
      refine lv_goto (tgt := 28) hx hb d_Pt_parse_352 (by decide) ?_
      cases h
      exact h0 rfl _ _ _ hP hS (lv_sub hl [1, 0] rfl)
    · replace h := o_tt c10 h
      refine lv_aload_n hx hb d_Pt_parse_337 rfl (lv_at hl 0 rfl) ?_
      refine o_get (v := .int (Pt_total Pt)) C in_Pt hP 33 cw_33 rfl 5 (by decide) k_1_165 rfl rfl d_Pt_parse_338 ?_
      refine lv_sipush (v := (400:Int32)) hx hb d_Pt_parse_341 (by decide) ?_
      refine lv_icmp_le (tgt := 349) hx hb d_Pt_parse_344 (by decide) (fun c11 => ?_) (fun c11 => ?_)
      · replace h := o_tt c11 h
        obtain ⟨x1_349, ex1_349⟩ : ∃ y : Int32, y = x1 + (1:Int32) := ⟨_, rfl⟩
        replace h := o_nm_at ex1_349 h
        refine lv_iinc (v := x1_349) (lv' := [(1, .int x1_349), (0, .ref (ad 33)), (6, .int x6)]) hx hb d_Pt_parse_349 hl (k := 1) rfl (by rw [ex1_349]; rfl) (by decide) rfl (fun ls hl => ?_)
        refine lv_goto (tgt := 28) hx hb d_Pt_parse_352 (by decide) ?_
        cases h
        exact h0 rfl _ _ _ hP hS (lv_sub hl [1, 0] rfl)
      · replace h := o_ff c11 h
        cases h
        exact h1 (Nat.succ_ne_zero 0) _ _ _ hP hS (lv_sub hl [] rfl)
set_option maxHeartbeats 4000000 in
set_option maxRecDepth 100000 in
theorem w_Pt_parse_j286 {E : (Nat → Prop) → State → Heap → Prop} {p : Program} {l : Launch} {e : Env} {s : State} {m : MethodId} {args : Array Value} {below : List Frame} {meth : Method} {c : Code} {D : va_G} {ad kd sd vd xd : Nat → Nat} {ca : Nat → ClassId} {A : Nat → Prop} {Q : State → Prop} (hE : o_EK E kd sd vd xd) (C : o_Cx E p s m args meth c D o_cls (o_tys ca) "SchemaJudge$Pattern" b_Pt_parse (some .boolean) 8 cc_Pt_parse A) (hDD : ∀ (rt : Nat) (Sj : SSJ) (T0 : STx) (T1 : STx) (Rd : SRd) (Pg : SPg) (Pt : SPt) (Mk : SMk) (Lk : SLk) (Ck : SCk) (Jd : SJd) (Ld : SLd) (Pr : SPr), va_D A (o_cw ad ca rt Sj T0 T1 Rd Pg Pt Mk Lk Ck Jd Ld Pr)) (n : Nat) (u28_Sj : SSJ) (u28_T0 : STx) (u28_T1 : STx) (u28_Rd : SRd) (u28_Mk : SMk) (u28_Lk : SLk) (u28_Ck : SCk) (u28_Jd : SJd) (u28_Ld : SLd) (u28_Pr : SPr) (u28_rt : Nat) (x1 : Int32) (x3 : Int32) (x4 : Int32) (x6 : Int32) (y0 : Int32) (y1 : Int32) (Pg : SPg) (Pt : SPt) {q : Nat × Int32 × SPg × SPt} (h : m_Pt_parse_j286 n x1 x3 x4 x6 y0 y1 Pg Pt = some q) (h0 : q.1 = 0 → o_At p l e rm_Pt_parse s m args below meth c Q o_cls D A 8 28 [] (o_cw ad ca u28_rt u28_Sj u28_T0 u28_T1 u28_Rd q.2.2.1 q.2.2.2 u28_Mk u28_Lk u28_Ck u28_Jd u28_Ld u28_Pr) [(0, .ref (ad 33)), (1, .int q.2.1)]) (h1 : q.1 ≠ 0 → (if q.1 = 1 then o_At p l e rm_Pt_parse s m args below meth c Q o_cls D A 8 347 [] (o_cw ad ca u28_rt u28_Sj u28_T0 u28_T1 u28_Rd q.2.2.1 q.2.2.2 u28_Mk u28_Lk u28_Ck u28_Jd u28_Ld u28_Pr) [] else o_At p l e rm_Pt_parse s m args below meth c Q o_cls D A 8 355 [] (o_cw ad ca u28_rt u28_Sj u28_T0 u28_T1 u28_Rd q.2.2.1 q.2.2.2 u28_Mk u28_Lk u28_Ck u28_Jd u28_Ld u28_Pr) [(0, .ref (ad 33))])) : o_At p l e rm_Pt_parse s m args below meth c Q o_cls D A 8 286 [.int y1, .int y0] (o_cw ad ca u28_rt u28_Sj u28_T0 u28_T1 u28_Rd Pg Pt u28_Mk u28_Lk u28_Ck u28_Jd u28_Ld u28_Pr) [(0, .ref (ad 33)), (1, .int x1), (3, .int x3), (4, .int x4), (6, .int x6)] := by
  unfold m_Pt_parse_j286 at h
  intro H locs ls hP hS hl
  have C0 := C
  obtain ⟨hx, hb, -, -, -, hown, hts, hK, -, -⟩ := C0
  refine lv_imul hx hb d_Pt_parse_286 ?_
  refine lv_topi (fun x7_287 ex7_287 => ?_)
  replace h := o_nm_at ex7_287 h
  refine lv_istore (lv' := [(7, .int x7_287), (0, .ref (ad 33)), (1, .int x1), (3, .int x3), (4, .int x4), (6, .int x6)]) hx hb d_Pt_parse_287 hl (by decide) rfl (fun ls hl => ?_)
  refine lv_aload_n hx hb d_Pt_parse_289 rfl (lv_at hl 1 rfl) ?_
  refine lv_iload hx hb d_Pt_parse_290 (lv_at hl 4 rfl) ?_
  refine lv_iload hx hb d_Pt_parse_292 (lv_at hl 0 rfl) ?_
  refine lv_iconst (v := (1:Int32)) hx hb d_Pt_parse_294 (by decide) ?_
  refine va_mmax hx hb (C.2.2.2.2.1.trans hl.1.symm) hown (hts _ k_5_44) (hts _ k_4_152) (hts _ k_1_26) (hts _ k_4_153) (Nat.le_of_ble_eq_true rfl) (Nat.le_of_ble_eq_true rfl) (Nat.zero_le _) (Nat.zero_le _) d_Pt_parse_295 ?_
  refine lv_iadd hx hb d_Pt_parse_298 ?_
  refine lv_iconst (v := (1:Int32)) hx hb d_Pt_parse_299 (by decide) ?_
  refine lv_iadd hx hb d_Pt_parse_300 ?_
  refine lv_ldc (v := (1048576:Int32)) hx hb hown (hts _ k_5_45) d_Pt_parse_301 ?_
  refine va_mmin hx hb (C.2.2.2.2.1.trans hl.1.symm) hown (hts _ k_4_113) (hts _ k_4_114) (hts _ k_1_26) (hts _ k_4_115) (Nat.le_of_ble_eq_true rfl) (Nat.le_of_ble_eq_true rfl) (Nat.zero_le _) (Nat.zero_le _) d_Pt_parse_303 ?_
  refine o_put (v := .int (if (1048576:Int32) < ((x4 + (if x7_287 < (1:Int32) then (1:Int32) else x7_287)) + (1:Int32)) then (1048576:Int32) else ((x4 + (if x7_287 < (1:Int32) then (1:Int32) else x7_287)) + (1:Int32)))) (ty := .int) (w1 := (o_cw ad ca u28_rt u28_Sj u28_T0 u28_T1 u28_Rd Pg (Pt_mk (Pt_tokens Pt) (Pt_characterCount Pt) (Pt_tokenCount Pt) (Pt_position Pt) (if (1048576:Int32) < ((x4 + (if x7_287 < (1:Int32) then (1:Int32) else x7_287)) + (1:Int32)) then (1048576:Int32) else ((x4 + (if x7_287 < (1:Int32) then (1:Int32) else x7_287)) + (1:Int32))) (Pt_least Pt) (Pt_most Pt) (Pt_depth Pt) (Pt_blockStarts Pt) (Pt_branchStarts Pt) (Pt_jumps Pt) (Pt_sizesBefore Pt)) u28_Mk u28_Lk u28_Ck u28_Jd u28_Ld u28_Pr)) C in_Pt t_Pt t_Pt_ok n_Pt hP (hDD _ _ _ _ _ _ _ _ _ _ _ _ _) hS 33 cw_33 rfl 5 (by decide) k_1_165 rfl rfl (by decide +kernel) rfl rfl (Nat.le_of_ble_eq_true rfl) rfl d_Pt_parse_306 (fun H locs hP hS => ?_)
  refine lv_aload_n hx hb d_Pt_parse_309 rfl (lv_at hl 1 rfl) ?_
  refine o_get (v := .ref (ad 25)) C in_Pt hP 33 cw_33 rfl 0 (by decide) k_1_160 rfl rfl d_Pt_parse_310 ?_
  refine lv_iload_n hx hb d_Pt_parse_313 rfl (lv_at hl 3 rfl) ?_
  refine lv_aload_n hx hb d_Pt_parse_314 rfl (lv_at hl 1 rfl) ?_
  refine o_get (v := .int (Pt_least Pt)) C in_Pt hP 33 cw_33 rfl 6 (by decide) k_1_166 rfl rfl d_Pt_parse_315 ?_
  refine lv_aload_n hx hb d_Pt_parse_318 rfl (lv_at hl 1 rfl) ?_
  refine o_get (v := .int (Pt_most Pt)) C in_Pt hP 33 cw_33 rfl 7 (by decide) k_1_167 rfl rfl d_Pt_parse_319 ?_
  obtain ⟨q8, hq8, h⟩ := o_bd_some h
  refine o_V (st1 := []) (w1 := (o_cw ad ca u28_rt u28_Sj u28_T0 u28_T1 u28_Rd q8 (Pt_mk (Pt_tokens Pt) (Pt_characterCount Pt) (Pt_tokenCount Pt) (Pt_position Pt) (if (1048576:Int32) < ((x4 + (if x7_287 < (1:Int32) then (1:Int32) else x7_287)) + (1:Int32)) then (1048576:Int32) else ((x4 + (if x7_287 < (1:Int32) then (1:Int32) else x7_287)) + (1:Int32))) (Pt_least Pt) (Pt_most Pt) (Pt_depth Pt) (Pt_blockStarts Pt) (Pt_branchStarts Pt) (Pt_jumps Pt) (Pt_sizesBefore Pt)) u28_Mk u28_Lk u28_Ck u28_Jd u28_Ld u28_Pr)) hE.1 C (c_Pg_repeat hE l n x3 (Pt_least Pt) (Pt_most Pt) Pg u28_Sj u28_T0 u28_T1 u28_Rd (Pt_mk (Pt_tokens Pt) (Pt_characterCount Pt) (Pt_tokenCount Pt) (Pt_position Pt) (if (1048576:Int32) < ((x4 + (if x7_287 < (1:Int32) then (1:Int32) else x7_287)) + (1:Int32)) then (1048576:Int32) else ((x4 + (if x7_287 < (1:Int32) then (1:Int32) else x7_287)) + (1:Int32))) (Pt_least Pt) (Pt_most Pt) (Pt_depth Pt) (Pt_blockStarts Pt) (Pt_branchStarts Pt) (Pt_jumps Pt) (Pt_sizesBefore Pt)) u28_Mk u28_Lk u28_Ck u28_Jd u28_Ld u28_Pr u28_rt hq8) hP (hDD _ _ _ _ _ _ _ _ _ _ _ _ _) hS hl.1 rfl cw_25 k_5_46 k_5_47 k_5_48 k_1_4 k_5_49 hv_Pg_repeat rfl rfl ⟨(Nat.le_of_ble_eq_true rfl), (Nat.le_of_ble_eq_true rfl)⟩ rfl (Nat.le_of_ble_eq_true rfl) ⟨Nat.zero_le _, Nat.zero_le _⟩ rfl d_Pt_parse_322 (fun H locs hP hS => ?_)
  exact w_Pt_parse_j325 hE C hDD n u28_Sj u28_T0 u28_T1 u28_Rd u28_Mk u28_Lk u28_Ck u28_Jd u28_Ld u28_Pr u28_rt x1 x6 q8 (Pt_mk (Pt_tokens Pt) (Pt_characterCount Pt) (Pt_tokenCount Pt) (Pt_position Pt) (if (1048576:Int32) < ((x4 + (if x7_287 < (1:Int32) then (1:Int32) else x7_287)) + (1:Int32)) then (1048576:Int32) else ((x4 + (if x7_287 < (1:Int32) then (1:Int32) else x7_287)) + (1:Int32))) (Pt_least Pt) (Pt_most Pt) (Pt_depth Pt) (Pt_blockStarts Pt) (Pt_branchStarts Pt) (Pt_jumps Pt) (Pt_sizesBefore Pt)) h h0 h1 _ _ _ hP hS (lv_sub hl [1, 2, 5] rfl)
set_option maxHeartbeats 4000000 in
set_option maxRecDepth 100000 in
theorem w_Pt_parse_j226 {E : (Nat → Prop) → State → Heap → Prop} {p : Program} {l : Launch} {e : Env} {s : State} {m : MethodId} {args : Array Value} {below : List Frame} {meth : Method} {c : Code} {D : va_G} {ad kd sd vd xd : Nat → Nat} {ca : Nat → ClassId} {A : Nat → Prop} {Q : State → Prop} (hE : o_EK E kd sd vd xd) (C : o_Cx E p s m args meth c D o_cls (o_tys ca) "SchemaJudge$Pattern" b_Pt_parse (some .boolean) 8 cc_Pt_parse A) (hDD : ∀ (rt : Nat) (Sj : SSJ) (T0 : STx) (T1 : STx) (Rd : SRd) (Pg : SPg) (Pt : SPt) (Mk : SMk) (Lk : SLk) (Ck : SCk) (Jd : SJd) (Ld : SLd) (Pr : SPr), va_D A (o_cw ad ca rt Sj T0 T1 Rd Pg Pt Mk Lk Ck Jd Ld Pr)) (n : Nat) (u28_Sj : SSJ) (u28_T0 : STx) (u28_T1 : STx) (u28_Rd : SRd) (u28_Mk : SMk) (u28_Lk : SLk) (u28_Ck : SCk) (u28_Jd : SJd) (u28_Ld : SLd) (u28_Pr : SPr) (u28_rt : Nat) (x1 : Int32) (x3 : Int32) (x4 : Int32) (x5 : Int32) (x6 : Int32) (Pg : SPg) (Pt : SPt) {q : Nat × Int32 × SPg × SPt} (h : m_Pt_parse_j226 n x1 x3 x4 x5 x6 Pg Pt = some q) (h0 : q.1 = 0 → o_At p l e rm_Pt_parse s m args below meth c Q o_cls D A 8 28 [] (o_cw ad ca u28_rt u28_Sj u28_T0 u28_T1 u28_Rd q.2.2.1 q.2.2.2 u28_Mk u28_Lk u28_Ck u28_Jd u28_Ld u28_Pr) [(0, .ref (ad 33)), (1, .int q.2.1)]) (h1 : q.1 ≠ 0 → (if q.1 = 1 then o_At p l e rm_Pt_parse s m args below meth c Q o_cls D A 8 347 [] (o_cw ad ca u28_rt u28_Sj u28_T0 u28_T1 u28_Rd q.2.2.1 q.2.2.2 u28_Mk u28_Lk u28_Ck u28_Jd u28_Ld u28_Pr) [] else o_At p l e rm_Pt_parse s m args below meth c Q o_cls D A 8 355 [] (o_cw ad ca u28_rt u28_Sj u28_T0 u28_T1 u28_Rd q.2.2.1 q.2.2.2 u28_Mk u28_Lk u28_Ck u28_Jd u28_Ld u28_Pr) [(0, .ref (ad 33))])) : o_At p l e rm_Pt_parse s m args below meth c Q o_cls D A 8 226 [] (o_cw ad ca u28_rt u28_Sj u28_T0 u28_T1 u28_Rd Pg Pt u28_Mk u28_Lk u28_Ck u28_Jd u28_Ld u28_Pr) [(0, .ref (ad 33)), (1, .int x1), (3, .int x3), (4, .int x4), (5, .int x5), (6, .int x6)] := by
  unfold m_Pt_parse_j226 at h
  intro H locs ls hP hS hl
  have C0 := C
  obtain ⟨hx, hb, -, -, -, hown, hts, hK, -, -⟩ := C0
  refine lv_iload hx hb d_Pt_parse_226 (lv_at hl 5 rfl) ?_
  refine lv_if_eq (tgt := 325) hx hb d_Pt_parse_228 (by decide) (fun c8 => ?_) (fun c8 => ?_)
  · replace h := o_tt c8 h
    exact w_Pt_parse_j325 hE C hDD n u28_Sj u28_T0 u28_T1 u28_Rd u28_Mk u28_Lk u28_Ck u28_Jd u28_Ld u28_Pr u28_rt x1 x6 Pg Pt h h0 h1 _ _ _ hP hS (lv_sub hl [0, 1, 5] rfl)
  · replace h := o_ff c8 h
    refine lv_iload hx hb d_Pt_parse_231 (lv_at hl 4 rfl) ?_
    refine lv_if_eq (tgt := 325) hx hb d_Pt_parse_233 (by decide) (fun c12 => ?_) (fun c12 => ?_)
    · replace h := o_tt c12 h
      exact w_Pt_parse_j325 hE C hDD n u28_Sj u28_T0 u28_T1 u28_Rd u28_Mk u28_Lk u28_Ck u28_Jd u28_Ld u28_Pr u28_rt x1 x6 Pg Pt h h0 h1 _ _ _ hP hS (lv_sub hl [0, 1, 5] rfl)
    · replace h := o_ff c12 h
      refine lv_aload_n hx hb d_Pt_parse_236 rfl (lv_at hl 0 rfl) ?_
      refine lv_iconst (v := (0:Int32)) hx hb d_Pt_parse_237 (by decide) ?_
      obtain ⟨q5, hq5, h⟩ := o_bd_some h
      refine o_V (st1 := [.int q5]) (w1 := (o_cw ad ca u28_rt u28_Sj u28_T0 u28_T1 u28_Rd Pg Pt u28_Mk u28_Lk u28_Ck u28_Jd u28_Ld u28_Pr)) hE.1 C (c_Pt_peek hE l (0:Int32) Pt u28_Sj u28_T0 u28_T1 u28_Rd Pg u28_Mk u28_Lk u28_Ck u28_Jd u28_Ld u28_Pr u28_rt hq5) hP (hDD _ _ _ _ _ _ _ _ _ _ _ _ _) hS hl.1 rfl cw_33 k_4_214 k_4_216 k_s_28 k_1_5 k_4_217 hv_Pt_peek rfl rfl ⟨(Nat.le_of_ble_eq_true rfl), (Nat.le_of_ble_eq_true rfl)⟩ rfl (Nat.le_of_ble_eq_true rfl) ⟨Nat.zero_le _, Nat.zero_le _⟩ rfl d_Pt_parse_238 (fun H locs hP hS => ?_)
      obtain ⟨q6, hq6, h⟩ := o_bd_some h
      refine o_S (st1 := [.int q6]) (w1 := (o_cw ad ca u28_rt u28_Sj u28_T0 u28_T1 u28_Rd Pg Pt u28_Mk u28_Lk u28_Ck u28_Jd u28_Ld u28_Pr)) hE.1 C (c_Pt_isQuantifier hE l q5 u28_Sj u28_T0 u28_T1 u28_Rd Pg Pt u28_Mk u28_Lk u28_Ck u28_Jd u28_Ld u28_Pr u28_rt hq6) hP (hDD _ _ _ _ _ _ _ _ _ _ _ _ _) hS hl.1 k_5_33 k_5_34 k_1_5 k_5_35 hs_Pt_isQuantifier rfl rfl ⟨(Nat.le_of_ble_eq_true rfl), (Nat.le_of_ble_eq_true rfl)⟩ rfl (Nat.le_of_ble_eq_true rfl) ⟨Nat.zero_le _, Nat.zero_le _⟩ rfl d_Pt_parse_241 (fun H locs hP hS => ?_)
      refine lv_if_eq (tgt := 325) hx hb d_Pt_parse_244 (by decide) (fun c13 => ?_) (fun c13 => ?_)
      · replace h := o_tt c13 h
        exact w_Pt_parse_j325 hE C hDD n u28_Sj u28_T0 u28_T1 u28_Rd u28_Mk u28_Lk u28_Ck u28_Jd u28_Ld u28_Pr u28_rt x1 x6 Pg Pt h h0 h1 _ _ _ hP hS (lv_sub hl [0, 1, 5] rfl)
      · replace h := o_ff c13 h
        refine lv_aload_n hx hb d_Pt_parse_247 rfl (lv_at hl 0 rfl) ?_
        obtain ⟨q7, hq7, h⟩ := o_bd_some h
        refine o_V (st1 := [.int q7.1]) (w1 := (o_cw ad ca u28_rt u28_Sj u28_T0 u28_T1 u28_Rd Pg q7.2 u28_Mk u28_Lk u28_Ck u28_Jd u28_Ld u28_Pr)) hE.1 C (c_Pt_readQuantifier hE l n Pt u28_Sj u28_T0 u28_T1 u28_Rd Pg u28_Mk u28_Lk u28_Ck u28_Jd u28_Ld u28_Pr u28_rt hq7) hP (hDD _ _ _ _ _ _ _ _ _ _ _ _ _) hS hl.1 rfl cw_33 k_5_36 k_5_38 k_s_34 k_1_5 k_5_39 hv_Pt_readQuantifier rfl rfl ⟨(Nat.le_of_ble_eq_true rfl), (Nat.le_of_ble_eq_true rfl)⟩ rfl (Nat.le_of_ble_eq_true rfl) ⟨Nat.zero_le _, Nat.zero_le _⟩ rfl d_Pt_parse_248 (fun H locs hP hS => ?_)
        refine lv_istore (lv' := [(6, .int q7.1), (0, .ref (ad 33)), (1, .int x1), (3, .int x3), (4, .int x4), (5, .int x5)]) hx hb d_Pt_parse_251 hl (by decide) rfl (fun ls hl => ?_)
        refine lv_iload hx hb d_Pt_parse_253 (lv_at hl 0 rfl) ?_
        refine lv_if_eq (tgt := 325) hx hb d_Pt_parse_255 (by decide) (fun c14 => ?_) (fun c14 => ?_)
        · replace h := o_tt c14 h
          exact w_Pt_parse_j325 hE C hDD n u28_Sj u28_T0 u28_T1 u28_Rd u28_Mk u28_Lk u28_Ck u28_Jd u28_Ld u28_Pr u28_rt x1 q7.1 Pg q7.2 h h0 h1 _ _ _ hP hS (lv_sub hl [1, 2, 0] rfl)
        · replace h := o_ff c14 h
          refine lv_aload_n hx hb d_Pt_parse_258 rfl (lv_at hl 1 rfl) ?_
          refine o_get (v := .int (Pt_total q7.2)) C in_Pt hP 33 cw_33 rfl 5 (by decide) k_1_165 rfl rfl d_Pt_parse_259 ?_
          refine lv_iload hx hb d_Pt_parse_262 (lv_at hl 4 rfl) ?_
          refine lv_isub hx hb d_Pt_parse_264 ?_
          refine lv_aload_n hx hb d_Pt_parse_265 rfl (lv_at hl 1 rfl) ?_
          refine o_get (v := .int (Pt_most q7.2)) C in_Pt hP 33 cw_33 rfl 7 (by decide) k_1_167 rfl rfl d_Pt_parse_266 ?_
          refine lv_iconst (v := (-1:Int32)) hx hb d_Pt_parse_269 (by decide) ?_
          refine lv_icmp_ne (tgt := 282) hx hb d_Pt_parse_270 (by decide) (fun c15 => ?_) (fun c15 => ?_)
          · replace h := o_ff c15 h
            refine lv_aload_n hx hb d_Pt_parse_282 rfl (lv_at hl 1 rfl) ?_
            refine o_get (v := .int (Pt_most q7.2)) C in_Pt hP 33 cw_33 rfl 7 (by decide) k_1_167 rfl rfl d_Pt_parse_283 ?_
            exact w_Pt_parse_j286 hE C hDD n u28_Sj u28_T0 u28_T1 u28_Rd u28_Mk u28_Lk u28_Ck u28_Jd u28_Ld u28_Pr u28_rt x1 x3 x4 q7.1 ((Pt_total q7.2) - x4) (Pt_most q7.2) Pg q7.2 h h0 h1 _ _ _ hP hS (lv_sub hl [1, 2, 3, 4, 0] rfl)
          · replace h := o_tt c15 h
            refine lv_aload_n hx hb d_Pt_parse_273 rfl (lv_at hl 1 rfl) ?_
            refine o_get (v := .int (Pt_least q7.2)) C in_Pt hP 33 cw_33 rfl 6 (by decide) k_1_166 rfl rfl d_Pt_parse_274 ?_
            refine lv_iconst (v := (1:Int32)) hx hb d_Pt_parse_277 (by decide) ?_
            refine lv_iadd hx hb d_Pt_parse_278 ?_
            refine lv_goto (tgt := 286) hx hb d_Pt_parse_279 (by decide) ?_
            exact w_Pt_parse_j286 hE C hDD n u28_Sj u28_T0 u28_T1 u28_Rd u28_Mk u28_Lk u28_Ck u28_Jd u28_Ld u28_Pr u28_rt x1 x3 x4 q7.1 ((Pt_total q7.2) - x4) ((Pt_least q7.2) + (1:Int32)) Pg q7.2 h h0 h1 _ _ _ hP hS (lv_sub hl [1, 2, 3, 4, 0] rfl)
set_option maxHeartbeats 4000000 in
set_option maxRecDepth 100000 in
theorem w_Pt_parse_j221 {E : (Nat → Prop) → State → Heap → Prop} {p : Program} {l : Launch} {e : Env} {s : State} {m : MethodId} {args : Array Value} {below : List Frame} {meth : Method} {c : Code} {D : va_G} {ad kd sd vd xd : Nat → Nat} {ca : Nat → ClassId} {A : Nat → Prop} {Q : State → Prop} (hE : o_EK E kd sd vd xd) (C : o_Cx E p s m args meth c D o_cls (o_tys ca) "SchemaJudge$Pattern" b_Pt_parse (some .boolean) 8 cc_Pt_parse A) (hDD : ∀ (rt : Nat) (Sj : SSJ) (T0 : STx) (T1 : STx) (Rd : SRd) (Pg : SPg) (Pt : SPt) (Mk : SMk) (Lk : SLk) (Ck : SCk) (Jd : SJd) (Ld : SLd) (Pr : SPr), va_D A (o_cw ad ca rt Sj T0 T1 Rd Pg Pt Mk Lk Ck Jd Ld Pr)) (n : Nat) (u28_Sj : SSJ) (u28_T0 : STx) (u28_T1 : STx) (u28_Rd : SRd) (u28_Mk : SMk) (u28_Lk : SLk) (u28_Ck : SCk) (u28_Jd : SJd) (u28_Ld : SLd) (u28_Pr : SPr) (u28_rt : Nat) (x1 : Int32) (x3 : Int32) (x4 : Int32) (x5 : Int32) (y1 : Int32) (y2 : Int32) (Pg : SPg) (Pt : SPt) {q : Nat × Int32 × SPg × SPt} (h : m_Pt_parse_j221 n x1 x3 x4 x5 y1 y2 Pg Pt = some q) (h0 : q.1 = 0 → o_At p l e rm_Pt_parse s m args below meth c Q o_cls D A 8 28 [] (o_cw ad ca u28_rt u28_Sj u28_T0 u28_T1 u28_Rd q.2.2.1 q.2.2.2 u28_Mk u28_Lk u28_Ck u28_Jd u28_Ld u28_Pr) [(0, .ref (ad 33)), (1, .int q.2.1)]) (h1 : q.1 ≠ 0 → (if q.1 = 1 then o_At p l e rm_Pt_parse s m args below meth c Q o_cls D A 8 347 [] (o_cw ad ca u28_rt u28_Sj u28_T0 u28_T1 u28_Rd q.2.2.1 q.2.2.2 u28_Mk u28_Lk u28_Ck u28_Jd u28_Ld u28_Pr) [] else o_At p l e rm_Pt_parse s m args below meth c Q o_cls D A 8 355 [] (o_cw ad ca u28_rt u28_Sj u28_T0 u28_T1 u28_Rd q.2.2.1 q.2.2.2 u28_Mk u28_Lk u28_Ck u28_Jd u28_Ld u28_Pr) [(0, .ref (ad 33))])) : o_At p l e rm_Pt_parse s m args below meth c Q o_cls D A 8 221 [.int y2, .int y1, .ref (ad 33)] (o_cw ad ca u28_rt u28_Sj u28_T0 u28_T1 u28_Rd Pg Pt u28_Mk u28_Lk u28_Ck u28_Jd u28_Ld u28_Pr) [(0, .ref (ad 33)), (1, .int x1), (3, .int x3), (4, .int x4), (5, .int x5)] := by
  unfold m_Pt_parse_j221 at h
  intro H locs ls hP hS hl
  have C0 := C
  obtain ⟨hx, hb, -, -, -, hown, hts, hK, -, -⟩ := C0
  obtain ⟨q4, hq4, h⟩ := o_bd_some h
  refine o_V (st1 := [.int q4.1]) (w1 := (o_cw ad ca u28_rt u28_Sj u28_T0 u28_T1 u28_Rd q4.2.1 q4.2.2 u28_Mk u28_Lk u28_Ck u28_Jd u28_Ld u28_Pr)) hE.1 C (c_Pt_single hE l y1 y2 Pg Pt u28_Sj u28_T0 u28_T1 u28_Rd u28_Mk u28_Lk u28_Ck u28_Jd u28_Ld u28_Pr u28_rt hq4) hP (hDD _ _ _ _ _ _ _ _ _ _ _ _ _) hS hl.1 rfl cw_33 k_5_29 k_5_31 k_s_33 k_1_5 k_5_32 hv_Pt_single rfl rfl ⟨(Nat.le_of_ble_eq_true rfl), (Nat.le_of_ble_eq_true rfl)⟩ rfl (Nat.le_of_ble_eq_true rfl) ⟨Nat.zero_le _, Nat.zero_le _⟩ rfl d_Pt_parse_221 (fun H locs hP hS => ?_)
  refine lv_istore (lv' := [(6, .int q4.1), (0, .ref (ad 33)), (1, .int x1), (3, .int x3), (4, .int x4), (5, .int x5)]) hx hb d_Pt_parse_224 hl (by decide) rfl (fun ls hl => ?_)
  exact w_Pt_parse_j226 hE C hDD n u28_Sj u28_T0 u28_T1 u28_Rd u28_Mk u28_Lk u28_Ck u28_Jd u28_Ld u28_Pr u28_rt x1 x3 x4 x5 q4.1 q4.2.1 q4.2.2 h h0 h1 _ _ _ hP hS (lv_sub hl [1, 2, 3, 4, 5, 0] rfl)
set_option maxHeartbeats 4000000 in
set_option maxRecDepth 100000 in
theorem w_Pt_parse_j128 {E : (Nat → Prop) → State → Heap → Prop} {p : Program} {l : Launch} {e : Env} {s : State} {m : MethodId} {args : Array Value} {below : List Frame} {meth : Method} {c : Code} {D : va_G} {ad kd sd vd xd : Nat → Nat} {ca : Nat → ClassId} {A : Nat → Prop} {Q : State → Prop} (hE : o_EK E kd sd vd xd) (C : o_Cx E p s m args meth c D o_cls (o_tys ca) "SchemaJudge$Pattern" b_Pt_parse (some .boolean) 8 cc_Pt_parse A) (hDD : ∀ (rt : Nat) (Sj : SSJ) (T0 : STx) (T1 : STx) (Rd : SRd) (Pg : SPg) (Pt : SPt) (Mk : SMk) (Lk : SLk) (Ck : SCk) (Jd : SJd) (Ld : SLd) (Pr : SPr), va_D A (o_cw ad ca rt Sj T0 T1 Rd Pg Pt Mk Lk Ck Jd Ld Pr)) (n : Nat) (u28_Sj : SSJ) (u28_T0 : STx) (u28_T1 : STx) (u28_Rd : SRd) (u28_Mk : SMk) (u28_Lk : SLk) (u28_Ck : SCk) (u28_Jd : SJd) (u28_Ld : SLd) (u28_Pr : SPr) (u28_rt : Nat) (x1 : Int32) (x5 : Int32) (y0 : Int32) (Pg : SPg) (Pt : SPt) {q : Nat × Int32 × SPg × SPt} (h : m_Pt_parse_j128 n x1 x5 y0 Pg Pt = some q) (h0 : q.1 = 0 → o_At p l e rm_Pt_parse s m args below meth c Q o_cls D A 8 28 [] (o_cw ad ca u28_rt u28_Sj u28_T0 u28_T1 u28_Rd q.2.2.1 q.2.2.2 u28_Mk u28_Lk u28_Ck u28_Jd u28_Ld u28_Pr) [(0, .ref (ad 33)), (1, .int q.2.1)]) (h1 : q.1 ≠ 0 → (if q.1 = 1 then o_At p l e rm_Pt_parse s m args below meth c Q o_cls D A 8 347 [] (o_cw ad ca u28_rt u28_Sj u28_T0 u28_T1 u28_Rd q.2.2.1 q.2.2.2 u28_Mk u28_Lk u28_Ck u28_Jd u28_Ld u28_Pr) [] else o_At p l e rm_Pt_parse s m args below meth c Q o_cls D A 8 355 [] (o_cw ad ca u28_rt u28_Sj u28_T0 u28_T1 u28_Rd q.2.2.1 q.2.2.2 u28_Mk u28_Lk u28_Ck u28_Jd u28_Ld u28_Pr) [(0, .ref (ad 33))])) : o_At p l e rm_Pt_parse s m args below meth c Q o_cls D A 8 128 [.int y0] (o_cw ad ca u28_rt u28_Sj u28_T0 u28_T1 u28_Rd Pg Pt u28_Mk u28_Lk u28_Ck u28_Jd u28_Ld u28_Pr) [(0, .ref (ad 33)), (1, .int x1), (5, .int x5)] := by
  unfold m_Pt_parse_j128 at h
  intro H locs ls hP hS hl
  have C0 := C
  obtain ⟨hx, hb, -, -, -, hown, hts, hK, -, -⟩ := C0
  refine lv_istore (lv' := [(6, .int y0), (0, .ref (ad 33)), (1, .int x1), (5, .int x5)]) hx hb d_Pt_parse_128 hl (by decide) rfl (fun ls hl => ?_)
  refine lv_aload_n hx hb d_Pt_parse_130 rfl (lv_at hl 1 rfl) ?_
  refine o_get (v := .ref (ad 35)) C in_Pt hP 33 cw_33 rfl 9 (by decide) k_1_169 rfl rfl d_Pt_parse_131 ?_
  refine lv_aload_n hx hb d_Pt_parse_134 rfl (lv_at hl 1 rfl) ?_
  refine o_get (v := .int (Pt_depth Pt)) C in_Pt hP 33 cw_33 rfl 8 (by decide) k_1_168 rfl rfl d_Pt_parse_135 ?_
  obtain ⟨g17, h⟩ := o_gd_some h
  refine o_iald (f := (Pt_blockStarts Pt)) C hP 35 29 cw_35 rfl g17 d_Pt_parse_138 ?_
  refine lv_topi (fun x3_139 ex3_139 => ?_)
  replace h := o_nm_at ex3_139 h
  refine lv_istore_n (lv' := [(3, .int x3_139), (6, .int y0), (0, .ref (ad 33)), (1, .int x1), (5, .int x5)]) hx hb d_Pt_parse_139 rfl hl (by decide) rfl (fun ls hl => ?_)
  refine lv_aload_n hx hb d_Pt_parse_140 rfl (lv_at hl 2 rfl) ?_
  refine o_get (v := .ref (ad 38)) C in_Pt hP 33 cw_33 rfl 12 (by decide) k_1_172 rfl rfl d_Pt_parse_141 ?_
  refine lv_aload_n hx hb d_Pt_parse_144 rfl (lv_at hl 2 rfl) ?_
  refine o_get (v := .int (Pt_depth Pt)) C in_Pt hP 33 cw_33 rfl 8 (by decide) k_1_168 rfl rfl d_Pt_parse_145 ?_
  obtain ⟨g18, h⟩ := o_gd_some h
  refine o_iald (f := (Pt_sizesBefore Pt)) C hP 38 32 cw_38 rfl g18 d_Pt_parse_148 ?_
  refine lv_topi (fun x4_149 ex4_149 => ?_)
  replace h := o_nm_at ex4_149 h
  refine lv_istore (lv' := [(4, .int x4_149), (3, .int x3_139), (6, .int y0), (0, .ref (ad 33)), (1, .int x1), (5, .int x5)]) hx hb d_Pt_parse_149 hl (by decide) rfl (fun ls hl => ?_)
  refine lv_aload_n hx hb d_Pt_parse_151 rfl (lv_at hl 3 rfl) ?_
  obtain ⟨q12, hq12, h⟩ := o_bd_some h
  refine o_V (st1 := []) (w1 := (o_cw ad ca u28_rt u28_Sj u28_T0 u28_T1 u28_Rd q12 Pt u28_Mk u28_Lk u28_Ck u28_Jd u28_Ld u28_Pr)) hE.1 C (c_Pt_endBlock hE l n Pg Pt u28_Sj u28_T0 u28_T1 u28_Rd u28_Mk u28_Lk u28_Ck u28_Jd u28_Ld u28_Pr u28_rt hq12) hP (hDD _ _ _ _ _ _ _ _ _ _ _ _ _) hS hl.1 rfl cw_33 k_4_218 k_4_220 k_s_29 k_1_5 k_4_221 hv_Pt_endBlock rfl rfl ⟨(Nat.le_of_ble_eq_true rfl), (Nat.le_of_ble_eq_true rfl)⟩ rfl (Nat.le_of_ble_eq_true rfl) ⟨Nat.zero_le _, Nat.zero_le _⟩ rfl d_Pt_parse_152 (fun H locs hP hS => ?_)
  refine lv_aload_n hx hb d_Pt_parse_155 rfl (lv_at hl 3 rfl) ?_
  refine lv_dup hx hb d_Pt_parse_156 rfl ?_
  refine o_get (v := .int (Pt_depth Pt)) C in_Pt hP 33 cw_33 rfl 8 (by decide) k_1_168 rfl rfl d_Pt_parse_157 ?_
  refine lv_iload hx hb d_Pt_parse_160 (lv_at hl 2 rfl) ?_
  refine lv_if_eq (tgt := 169) hx hb d_Pt_parse_162 (by decide) (fun c19 => ?_) (fun c19 => ?_)
  · replace h := o_tt c19 h
    refine lv_iconst (v := (0:Int32)) hx hb d_Pt_parse_169 (by decide) ?_
    refine lv_isub hx hb d_Pt_parse_170 ?_
    refine o_put (v := .int ((Pt_depth Pt) - (0:Int32))) (ty := .int) (w1 := (o_cw ad ca u28_rt u28_Sj u28_T0 u28_T1 u28_Rd q12 (Pt_mk (Pt_tokens Pt) (Pt_characterCount Pt) (Pt_tokenCount Pt) (Pt_position Pt) (Pt_total Pt) (Pt_least Pt) (Pt_most Pt) ((Pt_depth Pt) - (0:Int32)) (Pt_blockStarts Pt) (Pt_branchStarts Pt) (Pt_jumps Pt) (Pt_sizesBefore Pt)) u28_Mk u28_Lk u28_Ck u28_Jd u28_Ld u28_Pr)) C in_Pt t_Pt t_Pt_ok n_Pt hP (hDD _ _ _ _ _ _ _ _ _ _ _ _ _) hS 33 cw_33 rfl 8 (by decide) k_1_168 rfl rfl (by decide +kernel) rfl rfl (Nat.le_of_ble_eq_true rfl) rfl d_Pt_parse_171 (fun H locs hP hS => ?_)
    refine lv_goto (tgt := 226) hx hb d_Pt_parse_174 (by decide) ?_
    exact w_Pt_parse_j226 hE C hDD n u28_Sj u28_T0 u28_T1 u28_Rd u28_Mk u28_Lk u28_Ck u28_Jd u28_Ld u28_Pr u28_rt x1 x3_139 x4_149 x5 y0 q12 (Pt_mk (Pt_tokens Pt) (Pt_characterCount Pt) (Pt_tokenCount Pt) (Pt_position Pt) (Pt_total Pt) (Pt_least Pt) (Pt_most Pt) ((Pt_depth Pt) - (0:Int32)) (Pt_blockStarts Pt) (Pt_branchStarts Pt) (Pt_jumps Pt) (Pt_sizesBefore Pt)) h h0 h1 _ _ _ hP hS (lv_sub hl [3, 4, 1, 0, 5, 2] rfl)
  · replace h := o_ff c19 h
    refine lv_iconst (v := (1:Int32)) hx hb d_Pt_parse_165 (by decide) ?_
    refine lv_goto (tgt := 170) hx hb d_Pt_parse_166 (by decide) ?_
    refine lv_isub hx hb d_Pt_parse_170 ?_
    refine o_put (v := .int ((Pt_depth Pt) - (1:Int32))) (ty := .int) (w1 := (o_cw ad ca u28_rt u28_Sj u28_T0 u28_T1 u28_Rd q12 (Pt_mk (Pt_tokens Pt) (Pt_characterCount Pt) (Pt_tokenCount Pt) (Pt_position Pt) (Pt_total Pt) (Pt_least Pt) (Pt_most Pt) ((Pt_depth Pt) - (1:Int32)) (Pt_blockStarts Pt) (Pt_branchStarts Pt) (Pt_jumps Pt) (Pt_sizesBefore Pt)) u28_Mk u28_Lk u28_Ck u28_Jd u28_Ld u28_Pr)) C in_Pt t_Pt t_Pt_ok n_Pt hP (hDD _ _ _ _ _ _ _ _ _ _ _ _ _) hS 33 cw_33 rfl 8 (by decide) k_1_168 rfl rfl (by decide +kernel) rfl rfl (Nat.le_of_ble_eq_true rfl) rfl d_Pt_parse_171 (fun H locs hP hS => ?_)
    refine lv_goto (tgt := 226) hx hb d_Pt_parse_174 (by decide) ?_
    exact w_Pt_parse_j226 hE C hDD n u28_Sj u28_T0 u28_T1 u28_Rd u28_Mk u28_Lk u28_Ck u28_Jd u28_Ld u28_Pr u28_rt x1 x3_139 x4_149 x5 y0 q12 (Pt_mk (Pt_tokens Pt) (Pt_characterCount Pt) (Pt_tokenCount Pt) (Pt_position Pt) (Pt_total Pt) (Pt_least Pt) (Pt_most Pt) ((Pt_depth Pt) - (1:Int32)) (Pt_blockStarts Pt) (Pt_branchStarts Pt) (Pt_jumps Pt) (Pt_sizesBefore Pt)) h h0 h1 _ _ _ hP hS (lv_sub hl [3, 4, 1, 0, 5, 2] rfl)
set_option maxHeartbeats 4000000 in
set_option maxRecDepth 100000 in
theorem w_Pt_parse_j105 {E : (Nat → Prop) → State → Heap → Prop} {p : Program} {l : Launch} {e : Env} {s : State} {m : MethodId} {args : Array Value} {below : List Frame} {meth : Method} {c : Code} {D : va_G} {ad kd sd vd xd : Nat → Nat} {ca : Nat → ClassId} {A : Nat → Prop} {Q : State → Prop} (hE : o_EK E kd sd vd xd) (C : o_Cx E p s m args meth c D o_cls (o_tys ca) "SchemaJudge$Pattern" b_Pt_parse (some .boolean) 8 cc_Pt_parse A) (hDD : ∀ (rt : Nat) (Sj : SSJ) (T0 : STx) (T1 : STx) (Rd : SRd) (Pg : SPg) (Pt : SPt) (Mk : SMk) (Lk : SLk) (Ck : SCk) (Jd : SJd) (Ld : SLd) (Pr : SPr), va_D A (o_cw ad ca rt Sj T0 T1 Rd Pg Pt Mk Lk Ck Jd Ld Pr)) (n : Nat) (u28_Sj : SSJ) (u28_T0 : STx) (u28_T1 : STx) (u28_Rd : SRd) (u28_Mk : SMk) (u28_Lk : SLk) (u28_Ck : SCk) (u28_Jd : SJd) (u28_Ld : SLd) (u28_Pr : SPr) (u28_rt : Nat) (x1 : Int32) (x2 : Int32) (x3 : Int32) (x4 : Int32) (y0 : Int32) (Pg : SPg) (Pt : SPt) {q : Nat × Int32 × SPg × SPt} (h : m_Pt_parse_j105 n x1 x2 x3 x4 y0 Pg Pt = some q) (h0 : q.1 = 0 → o_At p l e rm_Pt_parse s m args below meth c Q o_cls D A 8 28 [] (o_cw ad ca u28_rt u28_Sj u28_T0 u28_T1 u28_Rd q.2.2.1 q.2.2.2 u28_Mk u28_Lk u28_Ck u28_Jd u28_Ld u28_Pr) [(0, .ref (ad 33)), (1, .int q.2.1)]) (h1 : q.1 ≠ 0 → (if q.1 = 1 then o_At p l e rm_Pt_parse s m args below meth c Q o_cls D A 8 347 [] (o_cw ad ca u28_rt u28_Sj u28_T0 u28_T1 u28_Rd q.2.2.1 q.2.2.2 u28_Mk u28_Lk u28_Ck u28_Jd u28_Ld u28_Pr) [] else o_At p l e rm_Pt_parse s m args below meth c Q o_cls D A 8 355 [] (o_cw ad ca u28_rt u28_Sj u28_T0 u28_T1 u28_Rd q.2.2.1 q.2.2.2 u28_Mk u28_Lk u28_Ck u28_Jd u28_Ld u28_Pr) [(0, .ref (ad 33))])) : o_At p l e rm_Pt_parse s m args below meth c Q o_cls D A 8 105 [.int y0] (o_cw ad ca u28_rt u28_Sj u28_T0 u28_T1 u28_Rd Pg Pt u28_Mk u28_Lk u28_Ck u28_Jd u28_Ld u28_Pr) [(0, .ref (ad 33)), (1, .int x1), (2, .int x2), (3, .int x3), (4, .int x4)] := by
  unfold m_Pt_parse_j105 at h
  intro H locs ls hP hS hl
  have C0 := C
  obtain ⟨hx, hb, -, -, -, hown, hts, hK, -, -⟩ := C0
  refine lv_istore (lv' := [(5, .int y0), (0, .ref (ad 33)), (1, .int x1), (2, .int x2), (3, .int x3), (4, .int x4)]) hx hb d_Pt_parse_105 hl (by decide) rfl (fun ls hl => ?_)
  refine lv_iconst (v := (1:Int32)) hx hb d_Pt_parse_107 (by decide) ?_
  refine lv_istore (lv' := [(6, .int (1:Int32)), (5, .int y0), (0, .ref (ad 33)), (1, .int x1), (2, .int x2), (3, .int x3), (4, .int x4)]) hx hb d_Pt_parse_108 hl (by decide) rfl (fun ls hl => ?_)
  refine lv_iload_n hx hb d_Pt_parse_110 rfl (lv_at hl 4 rfl) ?_
  refine lv_bipush (v := (-41:Int32)) hx hb d_Pt_parse_111 (by decide) ?_
  refine lv_icmp_ne (tgt := 177) hx hb d_Pt_parse_113 (by decide) (fun c4 => ?_) (fun c4 => ?_)
  · replace h := o_ff c4 h
    refine lv_iload_n hx hb d_Pt_parse_177 rfl (lv_at hl 4 rfl) ?_
    refine lv_bipush (v := (-40:Int32)) hx hb d_Pt_parse_178 (by decide) ?_
    refine lv_icmp_ne (tgt := 192) hx hb d_Pt_parse_180 (by decide) (fun c5 => ?_) (fun c5 => ?_)
    · replace h := o_ff c5 h
      refine lv_iload_n hx hb d_Pt_parse_192 rfl (lv_at hl 4 rfl) ?_
      refine lv_bipush (v := (-124:Int32)) hx hb d_Pt_parse_193 (by decide) ?_
      refine lv_icmp_ne (tgt := 205) hx hb d_Pt_parse_195 (by decide) (fun c6 => ?_) (fun c6 => ?_)
      · replace h := o_ff c6 h
        refine lv_aload_n hx hb d_Pt_parse_205 rfl (lv_at hl 2 rfl) ?_
        refine lv_iload_n hx hb d_Pt_parse_206 rfl (lv_at hl 4 rfl) ?_
        refine lv_iload_n hx hb d_Pt_parse_207 rfl (lv_at hl 4 rfl) ?_
        refine lv_bipush (v := (-91:Int32)) hx hb d_Pt_parse_208 (by decide) ?_
        refine lv_icmp_ne (tgt := 220) hx hb d_Pt_parse_210 (by decide) (fun c7 => ?_) (fun c7 => ?_)
        · replace h := o_ff c7 h
          refine lv_iconst (v := (0:Int32)) hx hb d_Pt_parse_220 (by decide) ?_
          exact w_Pt_parse_j221 hE C hDD n u28_Sj u28_T0 u28_T1 u28_Rd u28_Mk u28_Lk u28_Ck u28_Jd u28_Ld u28_Pr u28_rt x1 x3 x4 y0 x2 (0:Int32) Pg Pt h h0 h1 _ _ _ hP hS (lv_sub hl [2, 3, 5, 6, 1] rfl)
        · replace h := o_tt c7 h
          refine lv_aload_n hx hb d_Pt_parse_213 rfl (lv_at hl 2 rfl) ?_
          obtain ⟨q9, hq9, h⟩ := o_bd_some h
          refine o_V (st1 := [.int q9.1, .int x2, .ref (ad 33)]) (w1 := (o_cw ad ca u28_rt u28_Sj u28_T0 u28_T1 u28_Rd q9.2.1 q9.2.2 u28_Mk u28_Lk u28_Ck u28_Jd u28_Ld u28_Pr)) hE.1 C (c_Pt_readSet hE l n Pg Pt u28_Sj u28_T0 u28_T1 u28_Rd u28_Mk u28_Lk u28_Ck u28_Jd u28_Ld u28_Pr u28_rt hq9) hP (hDD _ _ _ _ _ _ _ _ _ _ _ _ _) hS hl.1 rfl cw_33 k_5_11 k_5_13 k_s_32 k_1_5 k_5_14 hv_Pt_readSet rfl rfl ⟨(Nat.le_of_ble_eq_true rfl), (Nat.le_of_ble_eq_true rfl)⟩ rfl (Nat.le_of_ble_eq_true rfl) ⟨Nat.zero_le _, Nat.zero_le _⟩ rfl d_Pt_parse_214 (fun H locs hP hS => ?_)
          refine lv_goto (tgt := 221) hx hb d_Pt_parse_217 (by decide) ?_
          exact w_Pt_parse_j221 hE C hDD n u28_Sj u28_T0 u28_T1 u28_Rd u28_Mk u28_Lk u28_Ck u28_Jd u28_Ld u28_Pr u28_rt x1 x3 x4 y0 x2 q9.1 q9.2.1 q9.2.2 h h0 h1 _ _ _ hP hS (lv_sub hl [2, 3, 5, 6, 1] rfl)
      · replace h := o_tt c6 h
        refine lv_aload_n hx hb d_Pt_parse_198 rfl (lv_at hl 2 rfl) ?_
        obtain ⟨q10, hq10, h⟩ := o_bd_some h
        refine o_V (st1 := []) (w1 := (o_cw ad ca u28_rt u28_Sj u28_T0 u28_T1 u28_Rd q10.1 q10.2 u28_Mk u28_Lk u28_Ck u28_Jd u28_Ld u28_Pr)) hE.1 C (c_Pt_nextBranch hE l Pg Pt u28_Sj u28_T0 u28_T1 u28_Rd u28_Mk u28_Lk u28_Ck u28_Jd u28_Ld u28_Pr u28_rt hq10) hP (hDD _ _ _ _ _ _ _ _ _ _ _ _ _) hS hl.1 rfl cw_33 k_4_234 k_4_236 k_s_31 k_1_5 k_4_237 hv_Pt_nextBranch rfl rfl ⟨(Nat.le_of_ble_eq_true rfl), (Nat.le_of_ble_eq_true rfl)⟩ rfl (Nat.le_of_ble_eq_true rfl) ⟨Nat.zero_le _, Nat.zero_le _⟩ rfl d_Pt_parse_199 (fun H locs hP hS => ?_)
        refine lv_goto (tgt := 226) hx hb d_Pt_parse_202 (by decide) ?_
        exact w_Pt_parse_j226 hE C hDD n u28_Sj u28_T0 u28_T1 u28_Rd u28_Mk u28_Lk u28_Ck u28_Jd u28_Ld u28_Pr u28_rt x1 x3 x4 y0 (1:Int32) q10.1 q10.2 h h0 h1 _ _ _ hP hS (lv_sub hl [2, 3, 5, 6, 1, 0] rfl)
    · replace h := o_tt c5 h
      refine lv_aload_n hx hb d_Pt_parse_183 rfl (lv_at hl 2 rfl) ?_
      obtain ⟨q11, hq11, h⟩ := o_bd_some h
      refine o_V (st1 := [.int q11.1]) (w1 := (o_cw ad ca u28_rt u28_Sj u28_T0 u28_T1 u28_Rd Pg q11.2 u28_Mk u28_Lk u28_Ck u28_Jd u28_Ld u28_Pr)) hE.1 C (c_Pt_openGroup hE l Pg Pt u28_Sj u28_T0 u28_T1 u28_Rd u28_Mk u28_Lk u28_Ck u28_Jd u28_Ld u28_Pr u28_rt hq11) hP (hDD _ _ _ _ _ _ _ _ _ _ _ _ _) hS hl.1 rfl cw_33 k_4_230 k_4_232 k_s_30 k_1_5 k_4_233 hv_Pt_openGroup rfl rfl ⟨(Nat.le_of_ble_eq_true rfl), (Nat.le_of_ble_eq_true rfl)⟩ rfl (Nat.le_of_ble_eq_true rfl) ⟨Nat.zero_le _, Nat.zero_le _⟩ rfl d_Pt_parse_184 (fun H locs hP hS => ?_)
      refine lv_istore (lv' := [(6, .int q11.1), (5, .int y0), (0, .ref (ad 33)), (1, .int x1), (2, .int x2), (3, .int x3), (4, .int x4)]) hx hb d_Pt_parse_187 hl (by decide) rfl (fun ls hl => ?_)
      refine lv_goto (tgt := 226) hx hb d_Pt_parse_189 (by decide) ?_
      exact w_Pt_parse_j226 hE C hDD n u28_Sj u28_T0 u28_T1 u28_Rd u28_Mk u28_Lk u28_Ck u28_Jd u28_Ld u28_Pr u28_rt x1 x3 x4 y0 q11.1 Pg q11.2 h h0 h1 _ _ _ hP hS (lv_sub hl [2, 3, 5, 6, 1, 0] rfl)
  · replace h := o_tt c4 h
    refine lv_aload_n hx hb d_Pt_parse_116 rfl (lv_at hl 2 rfl) ?_
    refine o_get (v := .int (Pt_depth Pt)) C in_Pt hP 33 cw_33 rfl 8 (by decide) k_1_168 rfl rfl d_Pt_parse_117 ?_
    refine lv_if_le (tgt := 127) hx hb d_Pt_parse_120 (by decide) (fun c16 => ?_) (fun c16 => ?_)
    · replace h := o_tt c16 h
      refine lv_iconst (v := (0:Int32)) hx hb d_Pt_parse_127 (by decide) ?_
      exact w_Pt_parse_j128 hE C hDD n u28_Sj u28_T0 u28_T1 u28_Rd u28_Mk u28_Lk u28_Ck u28_Jd u28_Ld u28_Pr u28_rt x1 y0 (0:Int32) Pg Pt h h0 h1 _ _ _ hP hS (lv_sub hl [2, 3, 1] rfl)
    · replace h := o_ff c16 h
      refine lv_iconst (v := (1:Int32)) hx hb d_Pt_parse_123 (by decide) ?_
      refine lv_goto (tgt := 128) hx hb d_Pt_parse_124 (by decide) ?_
      exact w_Pt_parse_j128 hE C hDD n u28_Sj u28_T0 u28_T1 u28_Rd u28_Mk u28_Lk u28_Ck u28_Jd u28_Ld u28_Pr u28_rt x1 y0 (1:Int32) Pg Pt h h0 h1 _ _ _ hP hS (lv_sub hl [2, 3, 1] rfl)
set_option maxHeartbeats 4000000 in
set_option maxRecDepth 100000 in
theorem w_Pt_parse_b28 {E : (Nat → Prop) → State → Heap → Prop} {p : Program} {l : Launch} {e : Env} {s : State} {m : MethodId} {args : Array Value} {below : List Frame} {meth : Method} {c : Code} {D : va_G} {ad kd sd vd xd : Nat → Nat} {ca : Nat → ClassId} {A : Nat → Prop} {Q : State → Prop} (hE : o_EK E kd sd vd xd) (C : o_Cx E p s m args meth c D o_cls (o_tys ca) "SchemaJudge$Pattern" b_Pt_parse (some .boolean) 8 cc_Pt_parse A) (hDD : ∀ (rt : Nat) (Sj : SSJ) (T0 : STx) (T1 : STx) (Rd : SRd) (Pg : SPg) (Pt : SPt) (Mk : SMk) (Lk : SLk) (Ck : SCk) (Jd : SJd) (Ld : SLd) (Pr : SPr), va_D A (o_cw ad ca rt Sj T0 T1 Rd Pg Pt Mk Lk Ck Jd Ld Pr)) (n : Nat) (u28_Sj : SSJ) (u28_T0 : STx) (u28_T1 : STx) (u28_Rd : SRd) (u28_Mk : SMk) (u28_Lk : SLk) (u28_Ck : SCk) (u28_Jd : SJd) (u28_Ld : SLd) (u28_Pr : SPr) (u28_rt : Nat) (z : Int32 × SPg × SPt) (q : Nat × Int32 × SPg × SPt) (h : m_Pt_parse_b28 n z = some q) (h0 : q.1 = 0 → o_At p l e rm_Pt_parse s m args below meth c Q o_cls D A 8 28 [] (o_cw ad ca u28_rt u28_Sj u28_T0 u28_T1 u28_Rd q.2.2.1 q.2.2.2 u28_Mk u28_Lk u28_Ck u28_Jd u28_Ld u28_Pr) [(0, .ref (ad 33)), (1, .int q.2.1)]) (h1 : q.1 ≠ 0 → (if q.1 = 1 then o_At p l e rm_Pt_parse s m args below meth c Q o_cls D A 8 347 [] (o_cw ad ca u28_rt u28_Sj u28_T0 u28_T1 u28_Rd q.2.2.1 q.2.2.2 u28_Mk u28_Lk u28_Ck u28_Jd u28_Ld u28_Pr) [] else o_At p l e rm_Pt_parse s m args below meth c Q o_cls D A 8 355 [] (o_cw ad ca u28_rt u28_Sj u28_T0 u28_T1 u28_Rd q.2.2.1 q.2.2.2 u28_Mk u28_Lk u28_Ck u28_Jd u28_Ld u28_Pr) [(0, .ref (ad 33))])) : o_At p l e rm_Pt_parse s m args below meth c Q o_cls D A 8 28 [] (o_cw ad ca u28_rt u28_Sj u28_T0 u28_T1 u28_Rd z.2.1 z.2.2 u28_Mk u28_Lk u28_Ck u28_Jd u28_Ld u28_Pr) [(0, .ref (ad 33)), (1, .int z.1)] := by
  unfold m_Pt_parse_b28 at h
  intro H locs ls hP hS hl
  have C0 := C
  obtain ⟨hx, hb, -, -, -, hown, hts, hK, -, -⟩ := C0
  refine lv_iload_n hx hb d_Pt_parse_28 rfl (lv_at hl 1 rfl) ?_
  refine lv_sipush (v := (4000:Int32)) hx hb d_Pt_parse_29 (by decide) ?_
  refine lv_icmp_ge (tgt := 355) hx hb d_Pt_parse_32 (by decide) (fun c1 => ?_) (fun c1 => ?_)
  · replace h := o_tt c1 h
    cases h
    exact h1 (Nat.succ_ne_zero 1) _ _ _ hP hS (lv_sub hl [0] rfl)
  · replace h := o_ff c1 h
    refine lv_aload_n hx hb d_Pt_parse_35 rfl (lv_at hl 0 rfl) ?_
    refine o_get (v := .int (Pt_position z.2.2)) C in_Pt hP 33 cw_33 rfl 4 (by decide) k_1_164 rfl rfl d_Pt_parse_36 ?_
    refine lv_aload_n hx hb d_Pt_parse_39 rfl (lv_at hl 0 rfl) ?_
    refine o_get (v := .int (Pt_tokenCount z.2.2)) C in_Pt hP 33 cw_33 rfl 3 (by decide) k_1_163 rfl rfl d_Pt_parse_40 ?_
    refine lv_icmp_ge (tgt := 355) hx hb d_Pt_parse_43 (by decide) (fun c2 => ?_) (fun c2 => ?_)
    · replace h := o_tt c2 h
      cases h
      exact h1 (Nat.succ_ne_zero 1) _ _ _ hP hS (lv_sub hl [0] rfl)
    · replace h := o_ff c2 h
      refine lv_aload_n hx hb d_Pt_parse_46 rfl (lv_at hl 0 rfl) ?_
      refine lv_iconst (v := (0:Int32)) hx hb d_Pt_parse_47 (by decide) ?_
      obtain ⟨q3, hq3, h⟩ := o_bd_some h
      refine o_V (st1 := [.int q3]) (w1 := (o_cw ad ca u28_rt u28_Sj u28_T0 u28_T1 u28_Rd z.2.1 z.2.2 u28_Mk u28_Lk u28_Ck u28_Jd u28_Ld u28_Pr)) hE.1 C (c_Pt_peek hE l (0:Int32) z.2.2 u28_Sj u28_T0 u28_T1 u28_Rd z.2.1 u28_Mk u28_Lk u28_Ck u28_Jd u28_Ld u28_Pr u28_rt hq3) hP (hDD _ _ _ _ _ _ _ _ _ _ _ _ _) hS hl.1 rfl cw_33 k_4_214 k_4_216 k_s_28 k_1_5 k_4_217 hv_Pt_peek rfl rfl ⟨(Nat.le_of_ble_eq_true rfl), (Nat.le_of_ble_eq_true rfl)⟩ rfl (Nat.le_of_ble_eq_true rfl) ⟨Nat.zero_le _, Nat.zero_le _⟩ rfl d_Pt_parse_48 (fun H locs hP hS => ?_)
      refine lv_istore_n (lv' := [(2, .int q3), (0, .ref (ad 33)), (1, .int z.1)]) hx hb d_Pt_parse_51 rfl hl (by decide) rfl (fun ls hl => ?_)
      refine lv_aload_n hx hb d_Pt_parse_52 rfl (lv_at hl 1 rfl) ?_
      refine lv_dup hx hb d_Pt_parse_53 rfl ?_
      refine o_get (v := .int (Pt_position z.2.2)) C in_Pt hP 33 cw_33 rfl 4 (by decide) k_1_164 rfl rfl d_Pt_parse_54 ?_
      refine lv_iconst (v := (1:Int32)) hx hb d_Pt_parse_57 (by decide) ?_
      refine lv_iadd hx hb d_Pt_parse_58 ?_
      refine o_put (v := .int ((Pt_position z.2.2) + (1:Int32))) (ty := .int) (w1 := (o_cw ad ca u28_rt u28_Sj u28_T0 u28_T1 u28_Rd z.2.1 (Pt_mk (Pt_tokens z.2.2) (Pt_characterCount z.2.2) (Pt_tokenCount z.2.2) ((Pt_position z.2.2) + (1:Int32)) (Pt_total z.2.2) (Pt_least z.2.2) (Pt_most z.2.2) (Pt_depth z.2.2) (Pt_blockStarts z.2.2) (Pt_branchStarts z.2.2) (Pt_jumps z.2.2) (Pt_sizesBefore z.2.2)) u28_Mk u28_Lk u28_Ck u28_Jd u28_Ld u28_Pr)) C in_Pt t_Pt t_Pt_ok n_Pt hP (hDD _ _ _ _ _ _ _ _ _ _ _ _ _) hS 33 cw_33 rfl 4 (by decide) k_1_164 rfl rfl (by decide +kernel) rfl rfl (Nat.le_of_ble_eq_true rfl) rfl d_Pt_parse_59 (fun H locs hP hS => ?_)
      refine lv_aload_n hx hb d_Pt_parse_62 rfl (lv_at hl 1 rfl) ?_
      refine o_get (v := .ref (ad 25)) C in_Pt hP 33 cw_33 rfl 0 (by decide) k_1_160 rfl rfl d_Pt_parse_63 ?_
      refine o_get (v := .int (Pg_length z.2.1)) C in_Pg hP 25 cw_25 rfl 2 (by decide) k_1_122 rfl rfl d_Pt_parse_66 ?_
      refine lv_topi (fun x3_69 ex3_69 => ?_)
      replace h := o_nm_at ex3_69 h
      refine lv_istore_n (lv' := [(3, .int x3_69), (2, .int q3), (0, .ref (ad 33)), (1, .int z.1)]) hx hb d_Pt_parse_69 rfl hl (by decide) rfl (fun ls hl => ?_)
      refine lv_aload_n hx hb d_Pt_parse_70 rfl (lv_at hl 2 rfl) ?_
      refine o_get (v := .int (Pt_total z.2.2)) C in_Pt hP 33 cw_33 rfl 5 (by decide) k_1_165 rfl rfl d_Pt_parse_71 ?_
      refine lv_topi (fun x4_74 ex4_74 => ?_)
      replace h := o_nm_at ex4_74 h
      refine lv_istore (lv' := [(4, .int x4_74), (3, .int x3_69), (2, .int q3), (0, .ref (ad 33)), (1, .int z.1)]) hx hb d_Pt_parse_74 hl (by decide) rfl (fun ls hl => ?_)
      refine lv_iload_n hx hb d_Pt_parse_76 rfl (lv_at hl 2 rfl) ?_
      refine lv_bipush (v := (-94:Int32)) hx hb d_Pt_parse_77 (by decide) ?_
      refine lv_icmp_eq (tgt := 104) hx hb d_Pt_parse_79 (by decide) (fun c3 => ?_) (fun c3 => ?_)
      · replace h := o_tt c3 h
        refine lv_iconst (v := (0:Int32)) hx hb d_Pt_parse_104 (by decide) ?_
        exact w_Pt_parse_j105 hE C hDD n u28_Sj u28_T0 u28_T1 u28_Rd u28_Mk u28_Lk u28_Ck u28_Jd u28_Ld u28_Pr u28_rt z.1 q3 x3_69 x4_74 (0:Int32) z.2.1 (Pt_mk (Pt_tokens z.2.2) (Pt_characterCount z.2.2) (Pt_tokenCount z.2.2) ((Pt_position z.2.2) + (1:Int32)) (Pt_total z.2.2) (Pt_least z.2.2) (Pt_most z.2.2) (Pt_depth z.2.2) (Pt_blockStarts z.2.2) (Pt_branchStarts z.2.2) (Pt_jumps z.2.2) (Pt_sizesBefore z.2.2)) h h0 h1 _ _ _ hP hS (lv_sub hl [3, 4, 2, 1, 0] rfl)
      · replace h := o_ff c3 h
        refine lv_iload_n hx hb d_Pt_parse_82 rfl (lv_at hl 2 rfl) ?_
        refine lv_bipush (v := (-36:Int32)) hx hb d_Pt_parse_83 (by decide) ?_
        refine lv_icmp_eq (tgt := 104) hx hb d_Pt_parse_85 (by decide) (fun c20 => ?_) (fun c20 => ?_)
        · replace h := o_tt c20 h
          refine lv_iconst (v := (0:Int32)) hx hb d_Pt_parse_104 (by decide) ?_
          exact w_Pt_parse_j105 hE C hDD n u28_Sj u28_T0 u28_T1 u28_Rd u28_Mk u28_Lk u28_Ck u28_Jd u28_Ld u28_Pr u28_rt z.1 q3 x3_69 x4_74 (0:Int32) z.2.1 (Pt_mk (Pt_tokens z.2.2) (Pt_characterCount z.2.2) (Pt_tokenCount z.2.2) ((Pt_position z.2.2) + (1:Int32)) (Pt_total z.2.2) (Pt_least z.2.2) (Pt_most z.2.2) (Pt_depth z.2.2) (Pt_blockStarts z.2.2) (Pt_branchStarts z.2.2) (Pt_jumps z.2.2) (Pt_sizesBefore z.2.2)) h h0 h1 _ _ _ hP hS (lv_sub hl [3, 4, 2, 1, 0] rfl)
        · replace h := o_ff c20 h
          refine lv_iload_n hx hb d_Pt_parse_88 rfl (lv_at hl 2 rfl) ?_
          refine lv_bipush (v := (-124:Int32)) hx hb d_Pt_parse_89 (by decide) ?_
          refine lv_icmp_eq (tgt := 104) hx hb d_Pt_parse_91 (by decide) (fun c21 => ?_) (fun c21 => ?_)
          · replace h := o_tt c21 h
            refine lv_iconst (v := (0:Int32)) hx hb d_Pt_parse_104 (by decide) ?_
            exact w_Pt_parse_j105 hE C hDD n u28_Sj u28_T0 u28_T1 u28_Rd u28_Mk u28_Lk u28_Ck u28_Jd u28_Ld u28_Pr u28_rt z.1 q3 x3_69 x4_74 (0:Int32) z.2.1 (Pt_mk (Pt_tokens z.2.2) (Pt_characterCount z.2.2) (Pt_tokenCount z.2.2) ((Pt_position z.2.2) + (1:Int32)) (Pt_total z.2.2) (Pt_least z.2.2) (Pt_most z.2.2) (Pt_depth z.2.2) (Pt_blockStarts z.2.2) (Pt_branchStarts z.2.2) (Pt_jumps z.2.2) (Pt_sizesBefore z.2.2)) h h0 h1 _ _ _ hP hS (lv_sub hl [3, 4, 2, 1, 0] rfl)
          · replace h := o_ff c21 h
            refine lv_iload_n hx hb d_Pt_parse_94 rfl (lv_at hl 2 rfl) ?_
            refine lv_bipush (v := (-40:Int32)) hx hb d_Pt_parse_95 (by decide) ?_
            refine lv_icmp_eq (tgt := 104) hx hb d_Pt_parse_97 (by decide) (fun c22 => ?_) (fun c22 => ?_)
            · replace h := o_tt c22 h
              refine lv_iconst (v := (0:Int32)) hx hb d_Pt_parse_104 (by decide) ?_
              exact w_Pt_parse_j105 hE C hDD n u28_Sj u28_T0 u28_T1 u28_Rd u28_Mk u28_Lk u28_Ck u28_Jd u28_Ld u28_Pr u28_rt z.1 q3 x3_69 x4_74 (0:Int32) z.2.1 (Pt_mk (Pt_tokens z.2.2) (Pt_characterCount z.2.2) (Pt_tokenCount z.2.2) ((Pt_position z.2.2) + (1:Int32)) (Pt_total z.2.2) (Pt_least z.2.2) (Pt_most z.2.2) (Pt_depth z.2.2) (Pt_blockStarts z.2.2) (Pt_branchStarts z.2.2) (Pt_jumps z.2.2) (Pt_sizesBefore z.2.2)) h h0 h1 _ _ _ hP hS (lv_sub hl [3, 4, 2, 1, 0] rfl)
            · replace h := o_ff c22 h
              refine lv_iconst (v := (1:Int32)) hx hb d_Pt_parse_100 (by decide) ?_
              refine lv_goto (tgt := 105) hx hb d_Pt_parse_101 (by decide) ?_
              exact w_Pt_parse_j105 hE C hDD n u28_Sj u28_T0 u28_T1 u28_Rd u28_Mk u28_Lk u28_Ck u28_Jd u28_Ld u28_Pr u28_rt z.1 q3 x3_69 x4_74 (1:Int32) z.2.1 (Pt_mk (Pt_tokens z.2.2) (Pt_characterCount z.2.2) (Pt_tokenCount z.2.2) ((Pt_position z.2.2) + (1:Int32)) (Pt_total z.2.2) (Pt_least z.2.2) (Pt_most z.2.2) (Pt_depth z.2.2) (Pt_blockStarts z.2.2) (Pt_branchStarts z.2.2) (Pt_jumps z.2.2) (Pt_sizesBefore z.2.2)) h h0 h1 _ _ _ hP hS (lv_sub hl [3, 4, 2, 1, 0] rfl)
set_option maxHeartbeats 4000000 in
set_option maxRecDepth 100000 in
theorem w_Pt_parse_j355 {E : (Nat → Prop) → State → Heap → Prop} {p : Program} {l : Launch} {e : Env} {s : State} {m : MethodId} {args : Array Value} {below : List Frame} {meth : Method} {c : Code} {D : va_G} {ad kd sd vd xd : Nat → Nat} {ca : Nat → ClassId} {A : Nat → Prop} (hE : o_EK E kd sd vd xd) (C : o_Cx E p s m args meth c D o_cls (o_tys ca) "SchemaJudge$Pattern" b_Pt_parse (some .boolean) 8 cc_Pt_parse A) (hDD : ∀ (rt : Nat) (Sj : SSJ) (T0 : STx) (T1 : STx) (Rd : SRd) (Pg : SPg) (Pt : SPt) (Mk : SMk) (Lk : SLk) (Ck : SCk) (Jd : SJd) (Ld : SLd) (Pr : SPr), va_D A (o_cw ad ca rt Sj T0 T1 Rd Pg Pt Mk Lk Ck Jd Ld Pr)) (n : Nat)  (Pg : SPg) (Pt : SPt) (Sj : SSJ) (T0 : STx) (T1 : STx) (Rd : SRd) (Mk : SMk) (Lk : SLk) (Ck : SCk) (Jd : SJd) (Ld : SLd) (Pr : SPr) (rt : Nat) {r : Int32 × SPg × SPt} (h : m_Pt_parse_j355 n Pg Pt = some r) : o_At p l e rm_Pt_parse s m args below meth c (MQ below (o_Qx D o_cls (some (.int r.1)) (o_cw ad ca rt Sj T0 T1 Rd r.2.1 r.2.2 Mk Lk Ck Jd Ld Pr) A) args s 0 0 A) o_cls D A 8 355 [] (o_cw ad ca rt Sj T0 T1 Rd Pg Pt Mk Lk Ck Jd Ld Pr) [(0, .ref (ad 33))] := by
  unfold m_Pt_parse_j355 at h
  intro H locs ls hP hS hl
  have C0 := C
  obtain ⟨hx, hb, -, -, -, hown, hts, hK, -, -⟩ := C0
  refine lv_aload_n hx hb d_Pt_parse_355 rfl (lv_at hl 0 rfl) ?_
  obtain ⟨q14, hq14, h⟩ := o_bd_some h
  refine o_V (st1 := []) (w1 := (o_cw ad ca rt Sj T0 T1 Rd q14 Pt Mk Lk Ck Jd Ld Pr)) hE.1 C (c_Pt_endBlock hE l n Pg Pt Sj T0 T1 Rd Mk Lk Ck Jd Ld Pr rt hq14) hP (hDD _ _ _ _ _ _ _ _ _ _ _ _ _) hS hl.1 rfl cw_33 k_4_218 k_4_220 k_s_29 k_1_5 k_4_221 hv_Pt_endBlock rfl rfl ⟨(Nat.le_of_ble_eq_true rfl), (Nat.le_of_ble_eq_true rfl)⟩ rfl (Nat.le_of_ble_eq_true rfl) ⟨Nat.zero_le _, Nat.zero_le _⟩ rfl d_Pt_parse_356 (fun H locs hP hS => ?_)
  refine lv_aload_n hx hb d_Pt_parse_359 rfl (lv_at hl 0 rfl) ?_
  refine o_get (v := .ref (ad 25)) C in_Pt hP 33 cw_33 rfl 0 (by decide) k_1_160 rfl rfl d_Pt_parse_360 ?_
  refine lv_bipush (v := (8:Int32)) hx hb d_Pt_parse_363 (by decide) ?_
  refine lv_iconst (v := (0:Int32)) hx hb d_Pt_parse_365 (by decide) ?_
  obtain ⟨q15, hq15, h⟩ := o_bd_some h
  refine o_V (st1 := []) (w1 := (o_cw ad ca rt Sj T0 T1 Rd q15 Pt Mk Lk Ck Jd Ld Pr)) hE.1 C (c_Pg_emit hE l (8:Int32) (0:Int32) q14 Sj T0 T1 Rd Pt Mk Lk Ck Jd Ld Pr rt hq15) hP (hDD _ _ _ _ _ _ _ _ _ _ _ _ _) hS hl.1 rfl cw_25 k_5_7 k_5_8 k_5_9 k_1_4 k_5_10 hv_Pg_emit rfl rfl ⟨(Nat.le_of_ble_eq_true rfl), (Nat.le_of_ble_eq_true rfl)⟩ rfl (Nat.le_of_ble_eq_true rfl) ⟨Nat.zero_le _, Nat.zero_le _⟩ rfl d_Pt_parse_366 (fun H locs hP hS => ?_)
  refine lv_aload_n hx hb d_Pt_parse_369 rfl (lv_at hl 0 rfl) ?_
  refine o_get (v := .int (Pt_depth Pt)) C in_Pt hP 33 cw_33 rfl 8 (by decide) k_1_168 rfl rfl d_Pt_parse_370 ?_
  refine lv_if_ne (tgt := 380) hx hb d_Pt_parse_373 (by decide) (fun c23 => ?_) (fun c23 => ?_)
  · replace h := o_ff c23 h
    refine lv_iconst (v := (0:Int32)) hx hb d_Pt_parse_380 (by decide) ?_
    cases h
    exact o_rz (v := (0:Int32)) C o_nar0 hP hS d_Pt_parse_381
  · replace h := o_tt c23 h
    refine lv_iconst (v := (1:Int32)) hx hb d_Pt_parse_376 (by decide) ?_
    refine lv_goto (tgt := 381) hx hb d_Pt_parse_377 (by decide) ?_
    cases h
    exact o_rz (v := (1:Int32)) C o_nar1 hP hS d_Pt_parse_381
set_option maxHeartbeats 4000000 in
set_option maxRecDepth 100000 in
theorem c_Pt_parse {E : (Nat → Prop) → State → Heap → Prop} {D : va_G} {ad kd sd vd xd : Nat → Nat} {ca : Nat → ClassId} (hE : o_EK E kd sd vd xd) (l : Launch) (n : Nat)  (Pg : SPg) (Pt : SPt) (Sj : SSJ) (T0 : STx) (T1 : STx) (Rd : SRd) (Mk : SMk) (Lk : SLk) (Ck : SCk) (Jd : SJd) (Ld : SLd) (Pr : SPr) (rt : Nat) {r : Int32 × SPg × SPt} (h : m_Pt_parse n Pg Pt = some r) : o_Cn E l D o_cls (o_tys ca) y_Pt_parse cc_Pt_parse rm_Pt_parse [.ref (ad 33)] (o_cw ad ca rt Sj T0 T1 Rd Pg Pt Mk Lk Ck Jd Ld Pr) (o_cw ad ca rt Sj T0 T1 Rd r.2.1 r.2.2 Mk Lk Ck Jd Ld Pr) (some (.int r.1)) := by
  refine o_Cn_of (by decide) (Nat.le_of_ble_eq_true rfl) ?_
  intro p e s m below meth c A ls C hD hP hS hl
  have hDD : ∀ (rt : Nat) (Sj : SSJ) (T0 : STx) (T1 : STx) (Rd : SRd) (Pg : SPg) (Pt : SPt) (Mk : SMk) (Lk : SLk) (Ck : SCk) (Jd : SJd) (Ld : SLd) (Pr : SPr), va_D A (o_cw ad ca rt Sj T0 T1 Rd Pg Pt Mk Lk Ck Jd Ld Pr) := fun _ _ _ _ _ _ _ _ _ _ _ _ _ => o_D_map hD rfl
  have hl : lv_has ls 8 [(0, .ref (ad 33))] := hl
  unfold m_Pt_parse at h
  have C0 := C
  obtain ⟨hx, hb, -, -, -, hown, hts, hK, -, -⟩ := C0
  refine lv_aload_n hx hb d_Pt_parse_0 rfl (lv_at hl 0 rfl) ?_
  refine o_get (v := .ref (ad 25)) C in_Pt hP 33 cw_33 rfl 0 (by decide) k_1_160 rfl rfl d_Pt_parse_1 ?_
  obtain ⟨q1, hq1, h⟩ := o_bd_some h
  refine o_V (st1 := []) (w1 := (o_cw ad ca rt Sj T0 T1 Rd q1 Pt Mk Lk Ck Jd Ld Pr)) hE.1 C (c_Pg_clear hE l Pg Sj T0 T1 Rd Pt Mk Lk Ck Jd Ld Pr rt hq1) hP (hDD _ _ _ _ _ _ _ _ _ _ _ _ _) hS hl.1 rfl cw_25 k_4_206 k_4_207 k_4_208 k_1_4 k_4_209 hv_Pg_clear rfl rfl ⟨(Nat.le_of_ble_eq_true rfl), (Nat.le_of_ble_eq_true rfl)⟩ rfl (Nat.le_of_ble_eq_true rfl) ⟨Nat.zero_le _, Nat.zero_le _⟩ rfl d_Pt_parse_4 (fun H locs hP hS => ?_)
  refine lv_aload_n hx hb d_Pt_parse_7 rfl (lv_at hl 0 rfl) ?_
  refine lv_iconst (v := (0:Int32)) hx hb d_Pt_parse_8 (by decide) ?_
  refine o_put (v := .int (0:Int32)) (ty := .int) (w1 := (o_cw ad ca rt Sj T0 T1 Rd q1 (Pt_mk (Pt_tokens Pt) (Pt_characterCount Pt) (Pt_tokenCount Pt) (0:Int32) (Pt_total Pt) (Pt_least Pt) (Pt_most Pt) (Pt_depth Pt) (Pt_blockStarts Pt) (Pt_branchStarts Pt) (Pt_jumps Pt) (Pt_sizesBefore Pt)) Mk Lk Ck Jd Ld Pr)) C in_Pt t_Pt t_Pt_ok n_Pt hP (hDD _ _ _ _ _ _ _ _ _ _ _ _ _) hS 33 cw_33 rfl 4 (by decide) k_1_164 rfl rfl (by decide +kernel) rfl rfl (Nat.le_of_ble_eq_true rfl) rfl d_Pt_parse_9 (fun H locs hP hS => ?_)
  refine lv_aload_n hx hb d_Pt_parse_12 rfl (lv_at hl 0 rfl) ?_
  refine lv_iconst (v := (0:Int32)) hx hb d_Pt_parse_13 (by decide) ?_
  refine o_put (v := .int (0:Int32)) (ty := .int) (w1 := (o_cw ad ca rt Sj T0 T1 Rd q1 (Pt_mk (Pt_tokens Pt) (Pt_characterCount Pt) (Pt_tokenCount Pt) (0:Int32) (0:Int32) (Pt_least Pt) (Pt_most Pt) (Pt_depth Pt) (Pt_blockStarts Pt) (Pt_branchStarts Pt) (Pt_jumps Pt) (Pt_sizesBefore Pt)) Mk Lk Ck Jd Ld Pr)) C in_Pt t_Pt t_Pt_ok n_Pt hP (hDD _ _ _ _ _ _ _ _ _ _ _ _ _) hS 33 cw_33 rfl 5 (by decide) k_1_165 rfl rfl (by decide +kernel) rfl rfl (Nat.le_of_ble_eq_true rfl) rfl d_Pt_parse_14 (fun H locs hP hS => ?_)
  refine lv_aload_n hx hb d_Pt_parse_17 rfl (lv_at hl 0 rfl) ?_
  refine lv_iconst (v := (0:Int32)) hx hb d_Pt_parse_18 (by decide) ?_
  refine o_put (v := .int (0:Int32)) (ty := .int) (w1 := (o_cw ad ca rt Sj T0 T1 Rd q1 (Pt_mk (Pt_tokens Pt) (Pt_characterCount Pt) (Pt_tokenCount Pt) (0:Int32) (0:Int32) (Pt_least Pt) (Pt_most Pt) (0:Int32) (Pt_blockStarts Pt) (Pt_branchStarts Pt) (Pt_jumps Pt) (Pt_sizesBefore Pt)) Mk Lk Ck Jd Ld Pr)) C in_Pt t_Pt t_Pt_ok n_Pt hP (hDD _ _ _ _ _ _ _ _ _ _ _ _ _) hS 33 cw_33 rfl 8 (by decide) k_1_168 rfl rfl (by decide +kernel) rfl rfl (Nat.le_of_ble_eq_true rfl) rfl d_Pt_parse_19 (fun H locs hP hS => ?_)
  refine lv_aload_n hx hb d_Pt_parse_22 rfl (lv_at hl 0 rfl) ?_
  obtain ⟨q2, hq2, h⟩ := o_bd_some h
  refine o_V (st1 := []) (w1 := (o_cw ad ca rt Sj T0 T1 Rd q1 q2 Mk Lk Ck Jd Ld Pr)) hE.1 C (c_Pt_beginBlock hE l q1 (Pt_mk (Pt_tokens Pt) (Pt_characterCount Pt) (Pt_tokenCount Pt) (0:Int32) (0:Int32) (Pt_least Pt) (Pt_most Pt) (0:Int32) (Pt_blockStarts Pt) (Pt_branchStarts Pt) (Pt_jumps Pt) (Pt_sizesBefore Pt)) Sj T0 T1 Rd Mk Lk Ck Jd Ld Pr rt hq2) hP (hDD _ _ _ _ _ _ _ _ _ _ _ _ _) hS hl.1 rfl cw_33 k_4_210 k_4_212 k_s_27 k_1_5 k_4_213 hv_Pt_beginBlock rfl rfl ⟨(Nat.le_of_ble_eq_true rfl), (Nat.le_of_ble_eq_true rfl)⟩ rfl (Nat.le_of_ble_eq_true rfl) ⟨Nat.zero_le _, Nat.zero_le _⟩ rfl d_Pt_parse_23 (fun H locs hP hS => ?_)
  refine lv_iconst (v := (0:Int32)) hx hb d_Pt_parse_26 (by decide) ?_
  refine lv_istore_n (lv' := [(1, .int (0:Int32)), (0, .ref (ad 33))]) hx hb d_Pt_parse_27 rfl hl (by decide) rfl (fun ls hl => ?_)
  obtain ⟨q13, hq13, h⟩ := o_bd_some h
  refine o_sim2 (AH := fun zz => o_At p l e rm_Pt_parse s m _ below meth c _ o_cls D A 8 28 [] (o_cw ad ca rt Sj T0 T1 Rd zz.2.1 zz.2.2 Mk Lk Ck Jd Ld Pr) [(0, .ref (ad 33)), (1, .int zz.1)]) (AX := fun qq => if qq.1 = 1 then o_At p l e rm_Pt_parse s m _ below meth c _ o_cls D A 8 347 [] (o_cw ad ca rt Sj T0 T1 Rd qq.2.2.1 qq.2.2.2 Mk Lk Ck Jd Ld Pr) [] else o_At p l e rm_Pt_parse s m _ below meth c _ o_cls D A 8 355 [] (o_cw ad ca rt Sj T0 T1 Rd qq.2.2.1 qq.2.2.2 Mk Lk Ck Jd Ld Pr) [(0, .ref (ad 33))]) (fun zz qq h h0 h1 => w_Pt_parse_b28 hE C hDD n Sj T0 T1 Rd Mk Lk Ck Jd Ld Pr rt zz qq h h0 h1) n _ q13 hq13 ?_ _ _ _ hP hS (lv_sub hl [1, 0] rfl)
  by_cases c24 : q13.1 = 1
  · replace h := o_tt c24 h
    refine o_ip c24 ?_
    intro H locs ls hP hS hl
    refine lv_iconst (v := (0:Int32)) hx hb d_Pt_parse_347 (by decide) ?_
    cases h
    exact o_rz (v := (0:Int32)) C o_nar0 hP hS d_Pt_parse_348
  replace h := o_ff c24 h
  refine o_in_ c24 ?_
  intro H locs ls hP hS hl
  exact w_Pt_parse_j355 hE C hDD n q13.2.2.1 q13.2.2.2 Sj T0 T1 Rd Mk Lk Ck Jd Ld Pr rt h _ _ _ hP hS (lv_sub hl [0] rfl)
