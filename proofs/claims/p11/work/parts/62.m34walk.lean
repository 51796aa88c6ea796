set_option maxHeartbeats 4000000 in
set_option maxRecDepth 100000 in
theorem w_Lk_placeNumber_b38 {E : (Nat → Prop) → State → Heap → Prop} {p : Program} {l : Launch} {e : Env} {s : State} {m : MethodId} {args : Array Value} {below : List Frame} {meth : Method} {c : Code} {D : va_G} {ad kd sd vd xd : Nat → Nat} {ca : Nat → ClassId} {A : Nat → Prop} {Q : State → Prop} (hE : o_EK E kd sd vd xd) (C : o_Cx E p s m args meth c D o_cls (o_tys ca) "SchemaJudge$Links" b_Lk_placeNumber (some .int) 6 cc_Lk_placeNumber A) (hDD : ∀ (rt : Nat) (Sj : SSJ) (T0 : STx) (T1 : STx) (Rd : SRd) (Pg : SPg) (Pt : SPt) (Mk : SMk) (Lk : SLk) (Ck : SCk) (Jd : SJd) (Ld : SLd) (Pr : SPr), va_D A (o_cw ad ca rt Sj T0 T1 Rd Pg Pt Mk Lk Ck Jd Ld Pr)) (n : Nat) (u38_x2 : Int32) (u38_Lk : SLk) (u38_Sj : SSJ) (u38_T0 : STx) (u38_T1 : STx) (u38_Rd : SRd) (u38_Pg : SPg) (u38_Pt : SPt) (u38_Mk : SMk) (u38_Ck : SCk) (u38_Jd : SJd) (u38_Ld : SLd) (u38_Pr : SPr) (u38_rt : Nat) (z : Int32 × Int32) (q : Nat × Int32 × Int32) (h : m_Lk_placeNumber_b38 n u38_x2 u38_Lk z = some q) (h0 : q.1 = 0 → o_At p l e rm_Lk_placeNumber s m args below meth c Q o_cls D A 6 38 [] (o_cw ad ca u38_rt u38_Sj u38_T0 u38_T1 u38_Rd u38_Pg u38_Pt u38_Mk u38_Lk u38_Ck u38_Jd u38_Ld u38_Pr) [(0, .ref (ad 43)), (2, .int u38_x2), (4, .int q.2.1), (5, .int q.2.2)]) (h1 : q.1 ≠ 0 → (if q.1 = 1 then o_At p l e rm_Lk_placeNumber s m args below meth c Q o_cls D A 6 57 [] (o_cw ad ca u38_rt u38_Sj u38_T0 u38_T1 u38_Rd u38_Pg u38_Pt u38_Mk u38_Lk u38_Ck u38_Jd u38_Ld u38_Pr) [] else o_At p l e rm_Lk_placeNumber s m args below meth c Q o_cls D A 6 83 [] (o_cw ad ca u38_rt u38_Sj u38_T0 u38_T1 u38_Rd u38_Pg u38_Pt u38_Mk u38_Lk u38_Ck u38_Jd u38_Ld u38_Pr) [(4, .int q.2.1)])) : o_At p l e rm_Lk_placeNumber s m args below meth c Q o_cls D A 6 38 [] (o_cw ad ca u38_rt u38_Sj u38_T0 u38_T1 u38_Rd u38_Pg u38_Pt u38_Mk u38_Lk u38_Ck u38_Jd u38_Ld u38_Pr) [(0, .ref (ad 43)), (2, .int u38_x2), (4, .int z.1), (5, .int z.2)] := by
  unfold m_Lk_placeNumber_b38 at h
  intro H locs ls hP hS hl
  have C0 := C
  obtain ⟨hx, hb, -, -, -, hown, hts, hK, -, -⟩ := C0
  refine lv_iload hx hb d_Lk_placeNumber_38 (lv_at hl 3 rfl) ?_
  refine lv_iload_n hx hb d_Lk_placeNumber_40 rfl (lv_at hl 1 rfl) ?_
  refine lv_icmp_ge (tgt := 83) hx hb d_Lk_placeNumber_41 (by decide) (fun c4 => ?_) (fun c4 => ?_)
  · replace h := o_tt c4 h
    cases h
    exact h1 (Nat.succ_ne_zero 1) _ _ _ hP hS (lv_sub hl [2] rfl)
  · replace h := o_ff c4 h
    refine lv_aload_n hx hb d_Lk_placeNumber_44 rfl (lv_at hl 0 rfl) ?_
    refine o_get (v := .ref (ad 44)) C in_Lk hP 43 cw_43 rfl 2 (by decide) k_1_233 rfl rfl d_Lk_placeNumber_45 ?_
    refine lv_iload hx hb d_Lk_placeNumber_48 (lv_at hl 3 rfl) ?_
    obtain ⟨g5, h⟩ := o_gd_some h
    refine o_iald (f := (Lk_characters u38_Lk)) C hP 44 36 cw_44 rfl g5 d_Lk_placeNumber_50 ?_
    obtain ⟨q1, hq1, h⟩ := o_bd_some h
    refine o_SN (st1 := [.int q1]) (w1 := (o_cw ad ca u38_rt u38_Sj u38_T0 u38_T1 u38_Rd u38_Pg u38_Pt u38_Mk u38_Lk u38_Ck u38_Jd u38_Ld u38_Pr)) hE.1 C (c_SJ_isDigit hE l ((Lk_characters u38_Lk) z.2.toNatClampNeg) u38_Sj u38_T0 u38_T1 u38_Rd u38_Pg u38_Pt u38_Mk u38_Lk u38_Ck u38_Jd u38_Ld u38_Pr u38_rt hq1) hP (hDD _ _ _ _ _ _ _ _ _ _ _ _ _) hS hl.1 (hE.2.1 _ _ _ C.2.2.2.2.2.2.2.2.2 _ nw_19) k_3_46 k_1_1 k_3_47 hs_SJ_isDigit rfl rfl ⟨(Nat.le_of_ble_eq_true rfl), (Nat.le_of_ble_eq_true rfl)⟩ rfl (Nat.le_of_ble_eq_true rfl) ⟨Nat.zero_le _, Nat.zero_le _⟩ rfl d_Lk_placeNumber_51 (fun H locs hP hS => ?_)
    refine lv_if_ne (tgt := 59) hx hb d_Lk_placeNumber_54 (by decide) (fun c6 => ?_) (fun c6 => ?_)
    · replace h := o_ff c6 h
      refine lv_iload hx hb d_Lk_placeNumber_59 (lv_at hl 2 rfl) ?_
      refine lv_bipush (v := (10:Int32)) hx hb d_Lk_placeNumber_61 (by decide) ?_
      refine lv_imul hx hb d_Lk_placeNumber_63 ?_
      refine lv_aload_n hx hb d_Lk_placeNumber_64 rfl (lv_at hl 0 rfl) ?_
      refine o_get (v := .ref (ad 44)) C in_Lk hP 43 cw_43 rfl 2 (by decide) k_1_233 rfl rfl d_Lk_placeNumber_65 ?_
      refine lv_iload hx hb d_Lk_placeNumber_68 (lv_at hl 3 rfl) ?_
      obtain ⟨g7, h⟩ := o_gd_some h
      refine o_iald (f := (Lk_characters u38_Lk)) C hP 44 36 cw_44 rfl g7 d_Lk_placeNumber_70 ?_
      refine lv_iadd hx hb d_Lk_placeNumber_71 ?_
      refine lv_bipush (v := (48:Int32)) hx hb d_Lk_placeNumber_72 (by decide) ?_
      refine lv_isub hx hb d_Lk_placeNumber_74 ?_
      refine lv_topi (fun x4_75 ex4_75 => ?_)
      replace h := o_nm_at ex4_75 h
      refine lv_istore (lv' := [(4, .int x4_75), (0, .ref (ad 43)), (2, .int u38_x2), (5, .int z.2)]) hx hb d_Lk_placeNumber_75 hl (by decide) rfl (fun ls hl => ?_)
      obtain ⟨x5_77, ex5_77⟩ : ∃ y : Int32, y = z.2 + (1:Int32) := ⟨_, rfl⟩
      replace h := o_nm_at ex5_77 h
      refine lv_iinc (v := x5_77) (lv' := [(5, .int x5_77), (4, .int x4_75), (0, .ref (ad 43)), (2, .int u38_x2)]) hx hb d_Lk_placeNumber_77 hl (k := 3) rfl (by rw [ex5_77]; rfl) (by decide) rfl (fun ls hl => ?_)
      refine lv_goto (tgt := 38) hx hb d_Lk_placeNumber_80 (by decide) ?_
      cases h
      exact h0 rfl _ _ _ hP hS (lv_sub hl [2, 3, 1, 0] rfl)
    · replace h := o_tt c6 h
      cases h
      exact h1 (Nat.succ_ne_zero 0) _ _ _ hP hS (lv_sub hl [] rfl)
set_option maxHeartbeats 4000000 in
set_option maxRecDepth 100000 in
theorem w_Lk_placeNumber_j32 {E : (Nat → Prop) → State → Heap → Prop} {p : Program} {l : Launch} {e : Env} {s : State} {m : MethodId} {args : Array Value} {below : List Frame} {meth : Method} {c : Code} {D : va_G} {ad kd sd vd xd : Nat → Nat} {ca : Nat → ClassId} {A : Nat → Prop} (hE : o_EK E kd sd vd xd) (C : o_Cx E p s m args meth c D o_cls (o_tys ca) "SchemaJudge$Links" b_Lk_placeNumber (some .int) 6 cc_Lk_placeNumber A) (hDD : ∀ (rt : Nat) (Sj : SSJ) (T0 : STx) (T1 : STx) (Rd : SRd) (Pg : SPg) (Pt : SPt) (Mk : SMk) (Lk : SLk) (Ck : SCk) (Jd : SJd) (Ld : SLd) (Pr : SPr), va_D A (o_cw ad ca rt Sj T0 T1 Rd Pg Pt Mk Lk Ck Jd Ld Pr)) (n : Nat) (x1 : Int32) (x2 : Int32) (Lk : SLk) (Sj : SSJ) (T0 : STx) (T1 : STx) (Rd : SRd) (Pg : SPg) (Pt : SPt) (Mk : SMk) (Ck : SCk) (Jd : SJd) (Ld : SLd) (Pr : SPr) (rt : Nat) {r : Int32} (h : m_Lk_placeNumber_j32 n x1 x2 Lk = some r) : o_At p l e rm_Lk_placeNumber s m args below meth c (MQ below (o_Qx D o_cls (some (.int r)) (o_cw ad ca rt Sj T0 T1 Rd Pg Pt Mk Lk Ck Jd Ld Pr) A) args s 0 0 A) o_cls D A 6 32 [] (o_cw ad ca rt Sj T0 T1 Rd Pg Pt Mk Lk Ck Jd Ld Pr) [(0, .ref (ad 43)), (1, .int x1), (2, .int x2)] := by
  unfold m_Lk_placeNumber_j32 at h
  intro H locs ls hP hS hl
  have C0 := C
  obtain ⟨hx, hb, -, -, -, hown, hts, hK, -, -⟩ := C0
  refine lv_iconst (v := (0:Int32)) hx hb d_Lk_placeNumber_32 (by decide) ?_
  refine lv_istore (lv' := [(4, .int (0:Int32)), (0, .ref (ad 43)), (1, .int x1), (2, .int x2)]) hx hb d_Lk_placeNumber_33 hl (by decide) rfl (fun ls hl => ?_)
  refine lv_iload_n hx hb d_Lk_placeNumber_35 rfl (lv_at hl 2 rfl) ?_
  refine lv_istore (lv' := [(5, .int x1), (4, .int (0:Int32)), (0, .ref (ad 43)), (1, .int x1), (2, .int x2)]) hx hb d_Lk_placeNumber_36 hl (by decide) rfl (fun ls hl => ?_)
  obtain ⟨q2, hq2, h⟩ := o_bd_some h
  refine o_sim2 (AH := fun zz => o_At p l e rm_Lk_placeNumber s m args below meth c _ o_cls D A 6 38 [] (o_cw ad ca rt Sj T0 T1 Rd Pg Pt Mk Lk Ck Jd Ld Pr) [(0, .ref (ad 43)), (2, .int x2), (4, .int zz.1), (5, .int zz.2)]) (AX := fun qq => if qq.1 = 1 then o_At p l e rm_Lk_placeNumber s m args below meth c _ o_cls D A 6 57 [] (o_cw ad ca rt Sj T0 T1 Rd Pg Pt Mk Lk Ck Jd Ld Pr) [] else o_At p l e rm_Lk_placeNumber s m args below meth c _ o_cls D A 6 83 [] (o_cw ad ca rt Sj T0 T1 Rd Pg Pt Mk Lk Ck Jd Ld Pr) [(4, .int qq.2.1)]) (fun zz qq h h0 h1 => w_Lk_placeNumber_b38 hE C hDD n x2 Lk Sj T0 T1 Rd Pg Pt Mk Ck Jd Ld Pr rt zz qq h h0 h1) n _ q2 hq2 ?_ _ _ _ hP hS (lv_sub hl [2, 4, 1, 0] rfl)
  by_cases c8 : q2.1 = 1
  · replace h := o_tt c8 h
    refine o_ip c8 ?_
    intro H locs ls hP hS hl
    refine lv_iconst (v := (-1:Int32)) hx hb d_Lk_placeNumber_57 (by decide) ?_
    cases h
    exact o_ri (v := (-1:Int32)) C hP hS d_Lk_placeNumber_58
  replace h := o_ff c8 h
  refine o_in_ c8 ?_
  intro H locs ls hP hS hl
  refine lv_iload hx hb d_Lk_placeNumber_83 (lv_at hl 0 rfl) ?_
  cases h
  exact o_ri C hP hS d_Lk_placeNumber_85
set_option maxHeartbeats 4000000 in
set_option maxRecDepth 100000 in
theorem c_Lk_placeNumber {E : (Nat → Prop) → State → Heap → Prop} {D : va_G} {ad kd sd vd xd : Nat → Nat} {ca : Nat → ClassId} (hE : o_EK E kd sd vd xd) (l : Launch) (n : Nat) (x1 : Int32) (x2 : Int32) (Lk : SLk) (Sj : SSJ) (T0 : STx) (T1 : STx) (Rd : SRd) (Pg : SPg) (Pt : SPt) (Mk : SMk) (Ck : SCk) (Jd : SJd) (Ld : SLd) (Pr : SPr) (rt : Nat) {r : Int32} (h : m_Lk_placeNumber n x1 x2 Lk = some r) : o_Cn E l D o_cls (o_tys ca) y_Lk_placeNumber cc_Lk_placeNumber rm_Lk_placeNumber [.ref (ad 43), .int x1, .int x2] (o_cw ad ca rt Sj T0 T1 Rd Pg Pt Mk Lk Ck Jd Ld Pr) (o_cw ad ca rt Sj T0 T1 Rd Pg Pt Mk Lk Ck Jd Ld Pr) (some (.int r)) := by
  refine o_Cn_of (by decide) (Nat.le_of_ble_eq_true rfl) ?_
  intro p e s m below meth c A ls C hD hP hS hl
  have hDD : ∀ (rt : Nat) (Sj : SSJ) (T0 : STx) (T1 : STx) (Rd : SRd) (Pg : SPg) (Pt : SPt) (Mk : SMk) (Lk : SLk) (Ck : SCk) (Jd : SJd) (Ld : SLd) (Pr : SPr), va_D A (o_cw ad ca rt Sj T0 T1 Rd Pg Pt Mk Lk Ck Jd Ld Pr) := fun _ _ _ _ _ _ _ _ _ _ _ _ _ => o_D_map hD rfl
  have hl : lv_has ls 6 [(0, .ref (ad 43)), (1, .int x1), (2, .int x2)] := hl
  unfold m_Lk_placeNumber at h
  have C0 := C
  obtain ⟨hx, hb, -, -, -, hown, hts, hK, -, -⟩ := C0
  refine lv_iload_n hx hb d_Lk_placeNumber_0 rfl (lv_at hl 2 rfl) ?_
  refine lv_iload_n hx hb d_Lk_placeNumber_1 rfl (lv_at hl 1 rfl) ?_
  refine lv_isub hx hb d_Lk_placeNumber_2 ?_
  refine lv_topi (fun x3_3 ex3_3 => ?_)
  replace h := o_nm_at ex3_3 h
  refine lv_istore_n (lv' := [(3, .int x3_3), (0, .ref (ad 43)), (1, .int x1), (2, .int x2)]) hx hb d_Lk_placeNumber_3 rfl hl (by decide) rfl (fun ls hl => ?_)
  refine lv_iload_n hx hb d_Lk_placeNumber_4 rfl (lv_at hl 0 rfl) ?_
  refine lv_iconst (v := (1:Int32)) hx hb d_Lk_placeNumber_5 (by decide) ?_
  refine lv_icmp_lt (tgt := 30) hx hb d_Lk_placeNumber_6 (by decide) (fun c1 => ?_) (fun c1 => ?_)
  · replace h := o_tt c1 h
    refine lv_iconst (v := (-1:Int32)) hx hb d_Lk_placeNumber_30 (by decide) ?_
    cases h
    exact o_ri (v := (-1:Int32)) C hP hS d_Lk_placeNumber_31
  · replace h := o_ff c1 h
    refine lv_iload_n hx hb d_Lk_placeNumber_9 rfl (lv_at hl 0 rfl) ?_
    refine lv_iconst (v := (2:Int32)) hx hb d_Lk_placeNumber_10 (by decide) ?_
    refine lv_icmp_gt (tgt := 30) hx hb d_Lk_placeNumber_11 (by decide) (fun c2 => ?_) (fun c2 => ?_)
    · replace h := o_tt c2 h
      refine lv_iconst (v := (-1:Int32)) hx hb d_Lk_placeNumber_30 (by decide) ?_
      cases h
      exact o_ri (v := (-1:Int32)) C hP hS d_Lk_placeNumber_31
    · replace h := o_ff c2 h
      refine lv_iload_n hx hb d_Lk_placeNumber_14 rfl (lv_at hl 0 rfl) ?_
      refine lv_iconst (v := (2:Int32)) hx hb d_Lk_placeNumber_15 (by decide) ?_
      refine lv_icmp_ne (tgt := 32) hx hb d_Lk_placeNumber_16 (by decide) (fun c3 => ?_) (fun c3 => ?_)
      · replace h := o_ff c3 h
        exact w_Lk_placeNumber_j32 hE C hDD n x1 x2 Lk Sj T0 T1 Rd Pg Pt Mk Ck Jd Ld Pr rt h _ _ _ hP hS (lv_sub hl [1, 2, 3] rfl)
      · replace h := o_tt c3 h
        refine lv_aload_n hx hb d_Lk_placeNumber_19 rfl (lv_at hl 1 rfl) ?_
        refine o_get (v := .ref (ad 44)) C in_Lk hP 43 cw_43 rfl 2 (by decide) k_1_233 rfl rfl d_Lk_placeNumber_20 ?_
        refine lv_iload_n hx hb d_Lk_placeNumber_23 rfl (lv_at hl 2 rfl) ?_
        obtain ⟨g9, h⟩ := o_gd_some h
        refine o_iald (f := (Lk_characters Lk)) C hP 44 36 cw_44 rfl g9 d_Lk_placeNumber_24 ?_
        refine lv_bipush (v := (48:Int32)) hx hb d_Lk_placeNumber_25 (by decide) ?_
        refine lv_icmp_ne (tgt := 32) hx hb d_Lk_placeNumber_27 (by decide) (fun c10 => ?_) (fun c10 => ?_)
        · replace h := o_ff c10 h
          exact w_Lk_placeNumber_j32 hE C hDD n x1 x2 Lk Sj T0 T1 Rd Pg Pt Mk Ck Jd Ld Pr rt h _ _ _ hP hS (lv_sub hl [1, 2, 3] rfl)
        · replace h := o_tt c10 h
          refine lv_iconst (v := (-1:Int32)) hx hb d_Lk_placeNumber_30 (by decide) ?_
          cases h
          exact o_ri (v := (-1:Int32)) C hP hS d_Lk_placeNumber_31
set_option maxHeartbeats 4000000 in
set_option maxRecDepth 100000 in
theorem w_Lk_isNamed_j82 {E : (Nat → Prop) → State → Heap → Prop} {p : Program} {l : Launch} {e : Env} {s : State} {m : MethodId} {args : Array Value} {below : List Frame} {meth : Method} {c : Code} {D : va_G} {ad kd sd vd xd : Nat → Nat} {ca : Nat → ClassId} {A : Nat → Prop} {Q : State → Prop} (hE : o_EK E kd sd vd xd) (C : o_Cx E p s m args meth c D o_cls (o_tys ca) "SchemaJudge$Links" b_Lk_isNamed (some .boolean) 8 cc_Lk_isNamed A) (hDD : ∀ (rt : Nat) (Sj : SSJ) (T0 : STx) (T1 : STx) (Rd : SRd) (Pg : SPg) (Pt : SPt) (Mk : SMk) (Lk : SLk) (Ck : SCk) (Jd : SJd) (Ld : SLd) (Pr : SPr), va_D A (o_cw ad ca rt Sj T0 T1 Rd Pg Pt Mk Lk Ck Jd Ld Pr)) (n : Nat) (u6_x1 : Int32) (u6_x3 : Int32) (u6_T0 : STx) (u6_Lk : SLk) (u6_Sj : SSJ) (u6_T1 : STx) (u6_Rd : SRd) (u6_Pg : SPg) (u6_Pt : SPt) (u6_Mk : SMk) (u6_Ck : SCk) (u6_Jd : SJd) (u6_Ld : SLd) (u6_Pr : SPr) (u6_rt : Nat) (x4 : Int32) (x5 : Int32) (x6 : Int32) {q : Nat × Int32 × Int32} (h : m_Lk_isNamed_j82 n u6_x1 u6_x3 x4 x5 x6 u6_T0 u6_Lk = some q) (h0 : q.1 = 0 → o_At p l e rm_Lk_isNamed s m args below meth c Q o_cls D A 8 6 [] (o_cw ad ca u6_rt u6_Sj u6_T0 u6_T1 u6_Rd u6_Pg u6_Pt u6_Mk u6_Lk u6_Ck u6_Jd u6_Ld u6_Pr) [(0, .ref (ad 43)), (1, .int u6_x1), (3, .int u6_x3), (4, .int q.2.1), (5, .int q.2.2)]) (h1 : q.1 ≠ 0 → (if q.1 = 1 then o_At p l e rm_Lk_isNamed s m args below meth c Q o_cls D A 8 64 [] (o_cw ad ca u6_rt u6_Sj u6_T0 u6_T1 u6_Rd u6_Pg u6_Pt u6_Mk u6_Lk u6_Ck u6_Jd u6_Ld u6_Pr) [] else if q.1 = 2 then o_At p l e rm_Lk_isNamed s m args below meth c Q o_cls D A 8 110 [] (o_cw ad ca u6_rt u6_Sj u6_T0 u6_T1 u6_Rd u6_Pg u6_Pt u6_Mk u6_Lk u6_Ck u6_Jd u6_Ld u6_Pr) [] else o_At p l e rm_Lk_isNamed s m args below meth c Q o_cls D A 8 121 [] (o_cw ad ca u6_rt u6_Sj u6_T0 u6_T1 u6_Rd u6_Pg u6_Pt u6_Mk u6_Lk u6_Ck u6_Jd u6_Ld u6_Pr) [(0, .ref (ad 43)), (1, .int u6_x1), (4, .int q.2.1)])) : o_At p l e rm_Lk_isNamed s m args below meth c Q o_cls D A 8 82 [] (o_cw ad ca u6_rt u6_Sj u6_T0 u6_T1 u6_Rd u6_Pg u6_Pt u6_Mk u6_Lk u6_Ck u6_Jd u6_Ld u6_Pr) [(0, .ref (ad 43)), (1, .int u6_x1), (3, .int u6_x3), (4, .int x4), (5, .int x5), (6, .int x6)] := by
  unfold m_Lk_isNamed_j82 at h
  intro H locs ls hP hS hl
  have C0 := C
  obtain ⟨hx, hb, -, -, -, hown, hts, hK, -, -⟩ := C0
  refine lv_iload hx hb d_Lk_isNamed_82 (lv_at hl 3 rfl) ?_
  refine lv_aload_n hx hb d_Lk_isNamed_84 rfl (lv_at hl 0 rfl) ?_
  refine o_get (v := .ref (ad 1)) C in_Lk hP 43 cw_43 rfl 0 (by decide) k_1_231 rfl rfl d_Lk_isNamed_85 ?_
  refine lv_iload_n hx hb d_Lk_isNamed_88 rfl (lv_at hl 1 rfl) ?_
  obtain ⟨q1, hq1, h⟩ := o_bd_some h
  refine o_V (st1 := [.int q1, .int x4]) (w1 := (o_cw ad ca u6_rt u6_Sj u6_T0 u6_T1 u6_Rd u6_Pg u6_Pt u6_Mk u6_Lk u6_Ck u6_Jd u6_Ld u6_Pr)) hE.1 C (c_Tx_size_0 hE l u6_x1 u6_T0 u6_Sj u6_T1 u6_Rd u6_Pg u6_Pt u6_Mk u6_Lk u6_Ck u6_Jd u6_Ld u6_Pr u6_rt hq1) hP (hDD _ _ _ _ _ _ _ _ _ _ _ _ _) hS hl.1 rfl cw_1 k_5_149 k_3_215 k_3_216 k_1_2 k_3_217 hv_Tx_size rfl rfl ⟨(Nat.le_of_ble_eq_true rfl), (Nat.le_of_ble_eq_true rfl)⟩ rfl (Nat.le_of_ble_eq_true rfl) ⟨Nat.zero_le _, Nat.zero_le _⟩ rfl d_Lk_isNamed_89 (fun H locs hP hS => ?_)
  refine lv_icmp_ge (tgt := 110) hx hb d_Lk_isNamed_92 (by decide) (fun c4 => ?_) (fun c4 => ?_)
  · replace h := o_tt c4 h
    cases h
    exact h1 (Nat.succ_ne_zero 1) _ _ _ hP hS (lv_sub hl [] rfl)
  · replace h := o_ff c4 h
    refine lv_aload_n hx hb d_Lk_isNamed_95 rfl (lv_at hl 0 rfl) ?_
    refine o_get (v := .ref (ad 1)) C in_Lk hP 43 cw_43 rfl 0 (by decide) k_1_231 rfl rfl d_Lk_isNamed_96 ?_
    refine lv_iload_n hx hb d_Lk_isNamed_99 rfl (lv_at hl 1 rfl) ?_
    refine lv_iload hx hb d_Lk_isNamed_100 (lv_at hl 3 rfl) ?_
    obtain ⟨q2, hq2, h⟩ := o_bd_some h
    refine o_V (st1 := [.int q2]) (w1 := (o_cw ad ca u6_rt u6_Sj u6_T0 u6_T1 u6_Rd u6_Pg u6_Pt u6_Mk u6_Lk u6_Ck u6_Jd u6_Ld u6_Pr)) hE.1 C (c_Tx_cell_0 hE l u6_x1 x4 u6_T0 u6_Sj u6_T1 u6_Rd u6_Pg u6_Pt u6_Mk u6_Lk u6_Ck u6_Jd u6_Ld u6_Pr u6_rt hq2) hP (hDD _ _ _ _ _ _ _ _ _ _ _ _ _) hS hl.1 rfl cw_1 k_5_154 k_4_117 k_4_118 k_1_2 k_4_119 hv_Tx_cell rfl rfl ⟨(Nat.le_of_ble_eq_true rfl), (Nat.le_of_ble_eq_true rfl)⟩ rfl (Nat.le_of_ble_eq_true rfl) ⟨Nat.zero_le _, Nat.zero_le _⟩ rfl d_Lk_isNamed_102 (fun H locs hP hS => ?_)
    refine lv_iload hx hb d_Lk_isNamed_105 (lv_at hl 5 rfl) ?_
    refine lv_icmp_eq (tgt := 112) hx hb d_Lk_isNamed_107 (by decide) (fun c5 => ?_) (fun c5 => ?_)
    · replace h := o_tt c5 h
      obtain ⟨x4_112, ex4_112⟩ : ∃ y : Int32, y = x4 + (1:Int32) := ⟨_, rfl⟩
      replace h := o_nm_at ex4_112 h
      refine lv_iinc (v := x4_112) (lv' := [(4, .int x4_112), (0, .ref (ad 43)), (1, .int u6_x1), (3, .int u6_x3), (5, .int x5), (6, .int x6)]) hx hb d_Lk_isNamed_112 hl (k := 3) rfl (by rw [ex4_112]; rfl) (by decide) rfl (fun ls hl => ?_)
      obtain ⟨x5_115, ex5_115⟩ : ∃ y : Int32, y = x5 + (1:Int32) := ⟨_, rfl⟩
      replace h := o_nm_at ex5_115 h
      refine lv_iinc (v := x5_115) (lv' := [(5, .int x5_115), (4, .int x4_112), (0, .ref (ad 43)), (1, .int u6_x1), (3, .int u6_x3), (6, .int x6)]) hx hb d_Lk_isNamed_115 hl (k := 4) rfl (by rw [ex5_115]; rfl) (by decide) rfl (fun ls hl => ?_)
      refine lv_goto (tgt := 6) hx hb d_Lk_isNamed_118 (by decide) ?_
      cases h
      exact h0 rfl _ _ _ hP hS (lv_sub hl [2, 3, 4, 1, 0] rfl)
    · replace h := o_ff c5 h
      cases h
      exact h1 (Nat.succ_ne_zero 1) _ _ _ hP hS (lv_sub hl [] rfl)
set_option maxHeartbeats 4000000 in
set_option maxRecDepth 100000 in
theorem w_Lk_isNamed_j66 {E : (Nat → Prop) → State → Heap → Prop} {p : Program} {l : Launch} {e : Env} {s : State} {m : MethodId} {args : Array Value} {below : List Frame} {meth : Method} {c : Code} {D : va_G} {ad kd sd vd xd : Nat → Nat} {ca : Nat → ClassId} {A : Nat → Prop} {Q : State → Prop} (hE : o_EK E kd sd vd xd) (C : o_Cx E p s m args meth c D o_cls (o_tys ca) "SchemaJudge$Links" b_Lk_isNamed (some .boolean) 8 cc_Lk_isNamed A) (hDD : ∀ (rt : Nat) (Sj : SSJ) (T0 : STx) (T1 : STx) (Rd : SRd) (Pg : SPg) (Pt : SPt) (Mk : SMk) (Lk : SLk) (Ck : SCk) (Jd : SJd) (Ld : SLd) (Pr : SPr), va_D A (o_cw ad ca rt Sj T0 T1 Rd Pg Pt Mk Lk Ck Jd Ld Pr)) (n : Nat) (u6_x1 : Int32) (u6_x3 : Int32) (u6_T0 : STx) (u6_Lk : SLk) (u6_Sj : SSJ) (u6_T1 : STx) (u6_Rd : SRd) (u6_Pg : SPg) (u6_Pt : SPt) (u6_Mk : SMk) (u6_Ck : SCk) (u6_Jd : SJd) (u6_Ld : SLd) (u6_Pr : SPr) (u6_rt : Nat) (x4 : Int32) (x5 : Int32) (x7 : Int32) {q : Nat × Int32 × Int32} (h : m_Lk_isNamed_j66 n u6_x1 u6_x3 x4 x5 x7 u6_T0 u6_Lk = some q) (h0 : q.1 = 0 → o_At p l e rm_Lk_isNamed s m args below meth c Q o_cls D A 8 6 [] (o_cw ad ca u6_rt u6_Sj u6_T0 u6_T1 u6_Rd u6_Pg u6_Pt u6_Mk u6_Lk u6_Ck u6_Jd u6_Ld u6_Pr) [(0, .ref (ad 43)), (1, .int u6_x1), (3, .int u6_x3), (4, .int q.2.1), (5, .int q.2.2)]) (h1 : q.1 ≠ 0 → (if q.1 = 1 then o_At p l e rm_Lk_isNamed s m args below meth c Q o_cls D A 8 64 [] (o_cw ad ca u6_rt u6_Sj u6_T0 u6_T1 u6_Rd u6_Pg u6_Pt u6_Mk u6_Lk u6_Ck u6_Jd u6_Ld u6_Pr) [] else if q.1 = 2 then o_At p l e rm_Lk_isNamed s m args below meth c Q o_cls D A 8 110 [] (o_cw ad ca u6_rt u6_Sj u6_T0 u6_T1 u6_Rd u6_Pg u6_Pt u6_Mk u6_Lk u6_Ck u6_Jd u6_Ld u6_Pr) [] else o_At p l e rm_Lk_isNamed s m args below meth c Q o_cls D A 8 121 [] (o_cw ad ca u6_rt u6_Sj u6_T0 u6_T1 u6_Rd u6_Pg u6_Pt u6_Mk u6_Lk u6_Ck u6_Jd u6_Ld u6_Pr) [(0, .ref (ad 43)), (1, .int u6_x1), (4, .int q.2.1)])) : o_At p l e rm_Lk_isNamed s m args below meth c Q o_cls D A 8 66 [] (o_cw ad ca u6_rt u6_Sj u6_T0 u6_T1 u6_Rd u6_Pg u6_Pt u6_Mk u6_Lk u6_Ck u6_Jd u6_Ld u6_Pr) [(0, .ref (ad 43)), (1, .int u6_x1), (3, .int u6_x3), (4, .int x4), (5, .int x5), (7, .int x7)] := by
  unfold m_Lk_isNamed_j66 at h
  intro H locs ls hP hS hl
  have C0 := C
  obtain ⟨hx, hb, -, -, -, hown, hts, hK, -, -⟩ := C0
  refine lv_iload hx hb d_Lk_isNamed_66 (lv_at hl 5 rfl) ?_
  refine lv_bipush (v := (48:Int32)) hx hb d_Lk_isNamed_68 (by decide) ?_
  refine lv_icmp_ne (tgt := 78) hx hb d_Lk_isNamed_70 (by decide) (fun c8 => ?_) (fun c8 => ?_)
  · replace h := o_ff c8 h
    refine lv_bipush (v := (47:Int32)) hx hb d_Lk_isNamed_78 (by decide) ?_
    refine lv_istore (lv' := [(6, .int (47:Int32)), (0, .ref (ad 43)), (1, .int u6_x1), (3, .int u6_x3), (4, .int x4), (5, .int x5), (7, .int x7)]) hx hb d_Lk_isNamed_80 hl (by decide) rfl (fun ls hl => ?_)
    exact w_Lk_isNamed_j82 hE C hDD n u6_x1 u6_x3 u6_T0 u6_Lk u6_Sj u6_T1 u6_Rd u6_Pg u6_Pt u6_Mk u6_Ck u6_Jd u6_Ld u6_Pr u6_rt x4 x5 (47:Int32) h h0 h1 _ _ _ hP hS (lv_sub hl [1, 2, 3, 4, 5, 0] rfl)
  · replace h := o_tt c8 h
    refine lv_bipush (v := (126:Int32)) hx hb d_Lk_isNamed_73 (by decide) ?_
    refine lv_goto (tgt := 80) hx hb d_Lk_isNamed_75 (by decide) ?_
    refine lv_istore (lv' := [(6, .int (126:Int32)), (0, .ref (ad 43)), (1, .int u6_x1), (3, .int u6_x3), (4, .int x4), (5, .int x5), (7, .int x7)]) hx hb d_Lk_isNamed_80 hl (by decide) rfl (fun ls hl => ?_)
    exact w_Lk_isNamed_j82 hE C hDD n u6_x1 u6_x3 u6_T0 u6_Lk u6_Sj u6_T1 u6_Rd u6_Pg u6_Pt u6_Mk u6_Ck u6_Jd u6_Ld u6_Pr u6_rt x4 x5 (126:Int32) h h0 h1 _ _ _ hP hS (lv_sub hl [1, 2, 3, 4, 5, 0] rfl)
set_option maxHeartbeats 4000000 in
set_option maxRecDepth 100000 in
theorem w_Lk_isNamed_j48 {E : (Nat → Prop) → State → Heap → Prop} {p : Program} {l : Launch} {e : Env} {s : State} {m : MethodId} {args : Array Value} {below : List Frame} {meth : Method} {c : Code} {D : va_G} {ad kd sd vd xd : Nat → Nat} {ca : Nat → ClassId} {A : Nat → Prop} {Q : State → Prop} (hE : o_EK E kd sd vd xd) (C : o_Cx E p s m args meth c D o_cls (o_tys ca) "SchemaJudge$Links" b_Lk_isNamed (some .boolean) 8 cc_Lk_isNamed A) (hDD : ∀ (rt : Nat) (Sj : SSJ) (T0 : STx) (T1 : STx) (Rd : SRd) (Pg : SPg) (Pt : SPt) (Mk : SMk) (Lk : SLk) (Ck : SCk) (Jd : SJd) (Ld : SLd) (Pr : SPr), va_D A (o_cw ad ca rt Sj T0 T1 Rd Pg Pt Mk Lk Ck Jd Ld Pr)) (n : Nat) (u6_x1 : Int32) (u6_x3 : Int32) (u6_T0 : STx) (u6_Lk : SLk) (u6_Sj : SSJ) (u6_T1 : STx) (u6_Rd : SRd) (u6_Pg : SPg) (u6_Pt : SPt) (u6_Mk : SMk) (u6_Ck : SCk) (u6_Jd : SJd) (u6_Ld : SLd) (u6_Pr : SPr) (u6_rt : Nat) (x4 : Int32) (x5 : Int32) (y0 : Int32) {q : Nat × Int32 × Int32} (h : m_Lk_isNamed_j48 n u6_x1 u6_x3 x4 x5 y0 u6_T0 u6_Lk = some q) (h0 : q.1 = 0 → o_At p l e rm_Lk_isNamed s m args below meth c Q o_cls D A 8 6 [] (o_cw ad ca u6_rt u6_Sj u6_T0 u6_T1 u6_Rd u6_Pg u6_Pt u6_Mk u6_Lk u6_Ck u6_Jd u6_Ld u6_Pr) [(0, .ref (ad 43)), (1, .int u6_x1), (3, .int u6_x3), (4, .int q.2.1), (5, .int q.2.2)]) (h1 : q.1 ≠ 0 → (if q.1 = 1 then o_At p l e rm_Lk_isNamed s m args below meth c Q o_cls D A 8 64 [] (o_cw ad ca u6_rt u6_Sj u6_T0 u6_T1 u6_Rd u6_Pg u6_Pt u6_Mk u6_Lk u6_Ck u6_Jd u6_Ld u6_Pr) [] else if q.1 = 2 then o_At p l e rm_Lk_isNamed s m args below meth c Q o_cls D A 8 110 [] (o_cw ad ca u6_rt u6_Sj u6_T0 u6_T1 u6_Rd u6_Pg u6_Pt u6_Mk u6_Lk u6_Ck u6_Jd u6_Ld u6_Pr) [] else o_At p l e rm_Lk_isNamed s m args below meth c Q o_cls D A 8 121 [] (o_cw ad ca u6_rt u6_Sj u6_T0 u6_T1 u6_Rd u6_Pg u6_Pt u6_Mk u6_Lk u6_Ck u6_Jd u6_Ld u6_Pr) [(0, .ref (ad 43)), (1, .int u6_x1), (4, .int q.2.1)])) : o_At p l e rm_Lk_isNamed s m args below meth c Q o_cls D A 8 48 [.int y0] (o_cw ad ca u6_rt u6_Sj u6_T0 u6_T1 u6_Rd u6_Pg u6_Pt u6_Mk u6_Lk u6_Ck u6_Jd u6_Ld u6_Pr) [(0, .ref (ad 43)), (1, .int u6_x1), (3, .int u6_x3), (4, .int x4), (5, .int x5)] := by
  unfold m_Lk_isNamed_j48 at h
  intro H locs ls hP hS hl
  have C0 := C
  obtain ⟨hx, hb, -, -, -, hown, hts, hK, -, -⟩ := C0
  refine lv_istore (lv' := [(7, .int y0), (0, .ref (ad 43)), (1, .int u6_x1), (3, .int u6_x3), (4, .int x4), (5, .int x5)]) hx hb d_Lk_isNamed_48 hl (by decide) rfl (fun ls hl => ?_)
  refine lv_iload hx hb d_Lk_isNamed_50 (lv_at hl 0 rfl) ?_
  refine lv_bipush (v := (48:Int32)) hx hb d_Lk_isNamed_52 (by decide) ?_
  refine lv_icmp_eq (tgt := 66) hx hb d_Lk_isNamed_54 (by decide) (fun c7 => ?_) (fun c7 => ?_)
  · replace h := o_tt c7 h
    exact w_Lk_isNamed_j66 hE C hDD n u6_x1 u6_x3 u6_T0 u6_Lk u6_Sj u6_T1 u6_Rd u6_Pg u6_Pt u6_Mk u6_Ck u6_Jd u6_Ld u6_Pr u6_rt x4 x5 y0 h h0 h1 _ _ _ hP hS (lv_sub hl [1, 2, 3, 4, 5, 0] rfl)
  · replace h := o_ff c7 h
    refine lv_iload hx hb d_Lk_isNamed_57 (lv_at hl 0 rfl) ?_
    refine lv_bipush (v := (49:Int32)) hx hb d_Lk_isNamed_59 (by decide) ?_
    refine lv_icmp_eq (tgt := 66) hx hb d_Lk_isNamed_61 (by decide) (fun c9 => ?_) (fun c9 => ?_)
    · replace h := o_tt c9 h
      exact w_Lk_isNamed_j66 hE C hDD n u6_x1 u6_x3 u6_T0 u6_Lk u6_Sj u6_T1 u6_Rd u6_Pg u6_Pt u6_Mk u6_Ck u6_Jd u6_Ld u6_Pr u6_rt x4 x5 y0 h h0 h1 _ _ _ hP hS (lv_sub hl [1, 2, 3, 4, 5, 0] rfl)
    · replace h := o_ff c9 h
      cases h
      exact h1 (Nat.succ_ne_zero 0) _ _ _ hP hS (lv_sub hl [] rfl)
set_option maxHeartbeats 4000000 in
set_option maxRecDepth 100000 in
theorem w_Lk_isNamed_b6 {E : (Nat → Prop) → State → Heap → Prop} {p : Program} {l : Launch} {e : Env} {s : State} {m : MethodId} {args : Array Value} {below : List Frame} {meth : Method} {c : Code} {D : va_G} {ad kd sd vd xd : Nat → Nat} {ca : Nat → ClassId} {A : Nat → Prop} {Q : State → Prop} (hE : o_EK E kd sd vd xd) (C : o_Cx E p s m args meth c D o_cls (o_tys ca) "SchemaJudge$Links" b_Lk_isNamed (some .boolean) 8 cc_Lk_isNamed A) (hDD : ∀ (rt : Nat) (Sj : SSJ) (T0 : STx) (T1 : STx) (Rd : SRd) (Pg : SPg) (Pt : SPt) (Mk : SMk) (Lk : SLk) (Ck : SCk) (Jd : SJd) (Ld : SLd) (Pr : SPr), va_D A (o_cw ad ca rt Sj T0 T1 Rd Pg Pt Mk Lk Ck Jd Ld Pr)) (n : Nat) (u6_x1 : Int32) (u6_x3 : Int32) (u6_T0 : STx) (u6_Lk : SLk) (u6_Sj : SSJ) (u6_T1 : STx) (u6_Rd : SRd) (u6_Pg : SPg) (u6_Pt : SPt) (u6_Mk : SMk) (u6_Ck : SCk) (u6_Jd : SJd) (u6_Ld : SLd) (u6_Pr : SPr) (u6_rt : Nat) (z : Int32 × Int32) (q : Nat × Int32 × Int32) (h : m_Lk_isNamed_b6 n u6_x1 u6_x3 u6_T0 u6_Lk z = some q) (h0 : q.1 = 0 → o_At p l e rm_Lk_isNamed s m args below meth c Q o_cls D A 8 6 [] (o_cw ad ca u6_rt u6_Sj u6_T0 u6_T1 u6_Rd u6_Pg u6_Pt u6_Mk u6_Lk u6_Ck u6_Jd u6_Ld u6_Pr) [(0, .ref (ad 43)), (1, .int u6_x1), (3, .int u6_x3), (4, .int q.2.1), (5, .int q.2.2)]) (h1 : q.1 ≠ 0 → (if q.1 = 1 then o_At p l e rm_Lk_isNamed s m args below meth c Q o_cls D A 8 64 [] (o_cw ad ca u6_rt u6_Sj u6_T0 u6_T1 u6_Rd u6_Pg u6_Pt u6_Mk u6_Lk u6_Ck u6_Jd u6_Ld u6_Pr) [] else if q.1 = 2 then o_At p l e rm_Lk_isNamed s m args below meth c Q o_cls D A 8 110 [] (o_cw ad ca u6_rt u6_Sj u6_T0 u6_T1 u6_Rd u6_Pg u6_Pt u6_Mk u6_Lk u6_Ck u6_Jd u6_Ld u6_Pr) [] else o_At p l e rm_Lk_isNamed s m args below meth c Q o_cls D A 8 121 [] (o_cw ad ca u6_rt u6_Sj u6_T0 u6_T1 u6_Rd u6_Pg u6_Pt u6_Mk u6_Lk u6_Ck u6_Jd u6_Ld u6_Pr) [(0, .ref (ad 43)), (1, .int u6_x1), (4, .int q.2.1)])) : o_At p l e rm_Lk_isNamed s m args below meth c Q o_cls D A 8 6 [] (o_cw ad ca u6_rt u6_Sj u6_T0 u6_T1 u6_Rd u6_Pg u6_Pt u6_Mk u6_Lk u6_Ck u6_Jd u6_Ld u6_Pr) [(0, .ref (ad 43)), (1, .int u6_x1), (3, .int u6_x3), (4, .int z.1), (5, .int z.2)] := by
  unfold m_Lk_isNamed_b6 at h
  intro H locs ls hP hS hl
  have C0 := C
  obtain ⟨hx, hb, -, -, -, hown, hts, hK, -, -⟩ := C0
  refine lv_iload hx hb d_Lk_isNamed_6 (lv_at hl 4 rfl) ?_
  refine lv_iload_n hx hb d_Lk_isNamed_8 rfl (lv_at hl 2 rfl) ?_
  refine lv_icmp_ge (tgt := 121) hx hb d_Lk_isNamed_9 (by decide) (fun c1 => ?_) (fun c1 => ?_)
  · replace h := o_tt c1 h
    cases h
    exact h1 (Nat.succ_ne_zero 2) _ _ _ hP hS (lv_sub hl [0, 1, 3] rfl)
  · replace h := o_ff c1 h
    refine lv_aload_n hx hb d_Lk_isNamed_12 rfl (lv_at hl 0 rfl) ?_
    refine o_get (v := .ref (ad 44)) C in_Lk hP 43 cw_43 rfl 2 (by decide) k_1_233 rfl rfl d_Lk_isNamed_13 ?_
    refine lv_iload hx hb d_Lk_isNamed_16 (lv_at hl 4 rfl) ?_
    obtain ⟨g2, h⟩ := o_gd_some h
    refine o_iald (f := (Lk_characters u6_Lk)) C hP 44 36 cw_44 rfl g2 d_Lk_isNamed_18 ?_
    refine lv_topi (fun x6_19 ex6_19 => ?_)
    replace h := o_nm_at ex6_19 h
    refine lv_istore (lv' := [(6, .int x6_19), (0, .ref (ad 43)), (1, .int u6_x1), (3, .int u6_x3), (4, .int z.1), (5, .int z.2)]) hx hb d_Lk_isNamed_19 hl (by decide) rfl (fun ls hl => ?_)
    refine lv_iload hx hb d_Lk_isNamed_21 (lv_at hl 0 rfl) ?_
    refine lv_bipush (v := (126:Int32)) hx hb d_Lk_isNamed_23 (by decide) ?_
    refine lv_icmp_ne (tgt := 82) hx hb d_Lk_isNamed_25 (by decide) (fun c3 => ?_) (fun c3 => ?_)
    · replace h := o_ff c3 h
      exact w_Lk_isNamed_j82 hE C hDD n u6_x1 u6_x3 u6_T0 u6_Lk u6_Sj u6_T1 u6_Rd u6_Pg u6_Pt u6_Mk u6_Ck u6_Jd u6_Ld u6_Pr u6_rt z.1 z.2 x6_19 h h0 h1 _ _ _ hP hS (lv_sub hl [1, 2, 3, 4, 5, 0] rfl)
    · replace h := o_tt c3 h
      obtain ⟨x5_28, ex5_28⟩ : ∃ y : Int32, y = z.2 + (1:Int32) := ⟨_, rfl⟩
      replace h := o_nm_at ex5_28 h
      refine lv_iinc (v := x5_28) (lv' := [(5, .int x5_28), (6, .int x6_19), (0, .ref (ad 43)), (1, .int u6_x1), (3, .int u6_x3), (4, .int z.1)]) hx hb d_Lk_isNamed_28 hl (k := 5) rfl (by rw [ex5_28]; rfl) (by decide) rfl (fun ls hl => ?_)
      refine lv_iload hx hb d_Lk_isNamed_31 (lv_at hl 0 rfl) ?_
      refine lv_iload_n hx hb d_Lk_isNamed_33 rfl (lv_at hl 4 rfl) ?_
      refine lv_icmp_ge (tgt := 47) hx hb d_Lk_isNamed_34 (by decide) (fun c6 => ?_) (fun c6 => ?_)
      · replace h := o_tt c6 h
        refine lv_iconst (v := (-1:Int32)) hx hb d_Lk_isNamed_47 (by decide) ?_
        exact w_Lk_isNamed_j48 hE C hDD n u6_x1 u6_x3 u6_T0 u6_Lk u6_Sj u6_T1 u6_Rd u6_Pg u6_Pt u6_Mk u6_Ck u6_Jd u6_Ld u6_Pr u6_rt z.1 x5_28 (-1:Int32) h h0 h1 _ _ _ hP hS (lv_sub hl [2, 3, 4, 5, 0] rfl)
      · replace h := o_ff c6 h
        refine lv_aload_n hx hb d_Lk_isNamed_37 rfl (lv_at hl 2 rfl) ?_
        refine o_get (v := .ref (ad 44)) C in_Lk hP 43 cw_43 rfl 2 (by decide) k_1_233 rfl rfl d_Lk_isNamed_38 ?_
        refine lv_iload hx hb d_Lk_isNamed_41 (lv_at hl 0 rfl) ?_
        obtain ⟨g10, h⟩ := o_gd_some h
        refine o_iald (f := (Lk_characters u6_Lk)) C hP 44 36 cw_44 rfl g10 d_Lk_isNamed_43 ?_
        refine lv_goto (tgt := 48) hx hb d_Lk_isNamed_44 (by decide) ?_
        exact w_Lk_isNamed_j48 hE C hDD n u6_x1 u6_x3 u6_T0 u6_Lk u6_Sj u6_T1 u6_Rd u6_Pg u6_Pt u6_Mk u6_Ck u6_Jd u6_Ld u6_Pr u6_rt z.1 x5_28 ((Lk_characters u6_Lk) x5_28.toNatClampNeg) h h0 h1 _ _ _ hP hS (lv_sub hl [2, 3, 4, 5, 0] rfl)
set_option maxHeartbeats 4000000 in
set_option maxRecDepth 100000 in
theorem c_Lk_isNamed {E : (Nat → Prop) → State → Heap → Prop} {D : va_G} {ad kd sd vd xd : Nat → Nat} {ca : Nat → ClassId} (hE : o_EK E kd sd vd xd) (l : Launch) (n : Nat) (x1 : Int32) (x2 : Int32) (x3 : Int32) (T0 : STx) (Lk : SLk) (Sj : SSJ) (T1 : STx) (Rd : SRd) (Pg : SPg) (Pt : SPt) (Mk : SMk) (Ck : SCk) (Jd : SJd) (Ld : SLd) (Pr : SPr) (rt : Nat) {r : Int32} (h : m_Lk_isNamed n x1 x2 x3 T0 Lk = some r) : o_Cn E l D o_cls (o_tys ca) y_Lk_isNamed cc_Lk_isNamed rm_Lk_isNamed [.ref (ad 43), .int x1, .int x2, .int x3] (o_cw ad ca rt Sj T0 T1 Rd Pg Pt Mk Lk Ck Jd Ld Pr) (o_cw ad ca rt Sj T0 T1 Rd Pg Pt Mk Lk Ck Jd Ld Pr) (some (.int r)) := by
  refine o_Cn_of (by decide) (Nat.le_of_ble_eq_true rfl) ?_
  intro p e s m below meth c A ls C hD hP hS hl
  have hDD : ∀ (rt : Nat) (Sj : SSJ) (T0 : STx) (T1 : STx) (Rd : SRd) (Pg : SPg) (Pt : SPt) (Mk : SMk) (Lk : SLk) (Ck : SCk) (Jd : SJd) (Ld : SLd) (Pr : SPr), va_D A (o_cw ad ca rt Sj T0 T1 Rd Pg Pt Mk Lk Ck Jd Ld Pr) := fun _ _ _ _ _ _ _ _ _ _ _ _ _ => o_D_map hD rfl
  have hl : lv_has ls 8 [(0, .ref (ad 43)), (1, .int x1), (2, .int x2), (3, .int x3)] := hl
  unfold m_Lk_isNamed at h
  have C0 := C
  obtain ⟨hx, hb, -, -, -, hown, hts, hK, -, -⟩ := C0
  refine lv_iconst (v := (0:Int32)) hx hb d_Lk_isNamed_0 (by decide) ?_
  refine lv_istore (lv' := [(4, .int (0:Int32)), (0, .ref (ad 43)), (1, .int x1), (2, .int x2), (3, .int x3)]) hx hb d_Lk_isNamed_1 hl (by decide) rfl (fun ls hl => ?_)
  refine lv_iload_n hx hb d_Lk_isNamed_3 rfl (lv_at hl 3 rfl) ?_
  refine lv_istore (lv' := [(5, .int x2), (4, .int (0:Int32)), (0, .ref (ad 43)), (1, .int x1), (2, .int x2), (3, .int x3)]) hx hb d_Lk_isNamed_4 hl (by decide) rfl (fun ls hl => ?_)
  obtain ⟨q3, hq3, h⟩ := o_bd_some h
  refine o_sim2 (AH := fun zz => o_At p l e rm_Lk_isNamed s m _ below meth c _ o_cls D A 8 6 [] (o_cw ad ca rt Sj T0 T1 Rd Pg Pt Mk Lk Ck Jd Ld Pr) [(0, .ref (ad 43)), (1, .int x1), (3, .int x3), (4, .int zz.1), (5, .int zz.2)]) (AX := fun qq => if qq.1 = 1 then o_At p l e rm_Lk_isNamed s m _ below meth c _ o_cls D A 8 64 [] (o_cw ad ca rt Sj T0 T1 Rd Pg Pt Mk Lk Ck Jd Ld Pr) [] else if qq.1 = 2 then o_At p l e rm_Lk_isNamed s m _ below meth c _ o_cls D A 8 110 [] (o_cw ad ca rt Sj T0 T1 Rd Pg Pt Mk Lk Ck Jd Ld Pr) [] else o_At p l e rm_Lk_isNamed s m _ below meth c _ o_cls D A 8 121 [] (o_cw ad ca rt Sj T0 T1 Rd Pg Pt Mk Lk Ck Jd Ld Pr) [(0, .ref (ad 43)), (1, .int x1), (4, .int qq.2.1)]) (fun zz qq h h0 h1 => w_Lk_isNamed_b6 hE C hDD n x1 x3 T0 Lk Sj T1 Rd Pg Pt Mk Ck Jd Ld Pr rt zz qq h h0 h1) n _ q3 hq3 ?_ _ _ _ hP hS (lv_sub hl [2, 3, 5, 1, 0] rfl)
  by_cases c12 : q3.1 = 1
  · replace h := o_tt c12 h
    refine o_ip c12 ?_
    intro H locs ls hP hS hl
    refine lv_iconst (v := (0:Int32)) hx hb d_Lk_isNamed_64 (by decide) ?_
    cases h
    exact o_rz (v := (0:Int32)) C o_nar0 hP hS d_Lk_isNamed_65
  replace h := o_ff c12 h
  refine o_in_ c12 ?_
  by_cases c13 : q3.1 = 2
  · replace h := o_tt c13 h
    refine o_ip c13 ?_
    intro H locs ls hP hS hl
    refine lv_iconst (v := (0:Int32)) hx hb d_Lk_isNamed_110 (by decide) ?_
    cases h
    exact o_rz (v := (0:Int32)) C o_nar0 hP hS d_Lk_isNamed_111
  replace h := o_ff c13 h
  refine o_in_ c13 ?_
  intro H locs ls hP hS hl
  refine lv_iload hx hb d_Lk_isNamed_121 (lv_at hl 2 rfl) ?_
  refine lv_aload_n hx hb d_Lk_isNamed_123 rfl (lv_at hl 0 rfl) ?_
  refine o_get (v := .ref (ad 1)) C in_Lk hP 43 cw_43 rfl 0 (by decide) k_1_231 rfl rfl d_Lk_isNamed_124 ?_
  refine lv_iload_n hx hb d_Lk_isNamed_127 rfl (lv_at hl 1 rfl) ?_
  obtain ⟨q4, hq4, h⟩ := o_bd_some h
  refine o_V (st1 := [.int q4, .int q3.2.1]) (w1 := (o_cw ad ca rt Sj T0 T1 Rd Pg Pt Mk Lk Ck Jd Ld Pr)) hE.1 C (c_Tx_size_0 hE l x1 T0 Sj T1 Rd Pg Pt Mk Lk Ck Jd Ld Pr rt hq4) hP (hDD _ _ _ _ _ _ _ _ _ _ _ _ _) hS hl.1 rfl cw_1 k_5_149 k_3_215 k_3_216 k_1_2 k_3_217 hv_Tx_size rfl rfl ⟨(Nat.le_of_ble_eq_true rfl), (Nat.le_of_ble_eq_true rfl)⟩ rfl (Nat.le_of_ble_eq_true rfl) ⟨Nat.zero_le _, Nat.zero_le _⟩ rfl d_Lk_isNamed_128 (fun H locs hP hS => ?_)
  refine lv_icmp_ne (tgt := 138) hx hb d_Lk_isNamed_131 (by decide) (fun c11 => ?_) (fun c11 => ?_)
  · replace h := o_ff c11 h
    refine lv_iconst (v := (0:Int32)) hx hb d_Lk_isNamed_138 (by decide) ?_
    cases h
    exact o_rz (v := (0:Int32)) C o_nar0 hP hS d_Lk_isNamed_139
  · replace h := o_tt c11 h
    refine lv_iconst (v := (1:Int32)) hx hb d_Lk_isNamed_134 (by decide) ?_
    refine lv_goto (tgt := 139) hx hb d_Lk_isNamed_135 (by decide) ?_
    cases h
    exact o_rz (v := (1:Int32)) C o_nar1 hP hS d_Lk_isNamed_139
set_option maxHeartbeats 4000000 in
set_option maxRecDepth 100000 in
theorem w_Tx_element_b9_0 {E : (Nat → Prop) → State → Heap → Prop} {p : Program} {l : Launch} {e : Env} {s : State} {m : MethodId} {args : Array Value} {below : List Frame} {meth : Method} {c : Code} {D : va_G} {ad kd sd vd xd : Nat → Nat} {ca : Nat → ClassId} {A : Nat → Prop} {Q : State → Prop} (hE : o_EK E kd sd vd xd) (C : o_Cx E p s m args meth c D o_cls (o_tys ca) "SchemaJudge$Text" b_Tx_element (some .int) 5 cc_Tx_element A) (hDD : ∀ (rt : Nat) (Sj : SSJ) (T0 : STx) (T1 : STx) (Rd : SRd) (Pg : SPg) (Pt : SPt) (Mk : SMk) (Lk : SLk) (Ck : SCk) (Jd : SJd) (Ld : SLd) (Pr : SPr), va_D A (o_cw ad ca rt Sj T0 T1 Rd Pg Pt Mk Lk Ck Jd Ld Pr)) (n : Nat) (u9_x2 : Int32) (u9_a0 : STx) (u9_Sj : SSJ) (u9_T1 : STx) (u9_Rd : SRd) (u9_Pg : SPg) (u9_Pt : SPt) (u9_Mk : SMk) (u9_Lk : SLk) (u9_Ck : SCk) (u9_Jd : SJd) (u9_Ld : SLd) (u9_Pr : SPr) (u9_rt : Nat) (z : Int32 × Int32) (q : Nat × Int32 × Int32) (h : m_Tx_element_b9 n u9_x2 u9_a0 z = some q) (h0 : q.1 = 0 → o_At p l e rm_Tx_element s m args below meth c Q o_cls D A 5 9 [] (o_cw ad ca u9_rt u9_Sj u9_a0 u9_T1 u9_Rd u9_Pg u9_Pt u9_Mk u9_Lk u9_Ck u9_Jd u9_Ld u9_Pr) [(0, .ref (ad 1)), (2, .int u9_x2), (3, .int q.2.1), (4, .int q.2.2)]) (h1 : q.1 ≠ 0 → (o_At p l e rm_Tx_element s m args below meth c Q o_cls D A 5 32 [] (o_cw ad ca u9_rt u9_Sj u9_a0 u9_T1 u9_Rd u9_Pg u9_Pt u9_Mk u9_Lk u9_Ck u9_Jd u9_Ld u9_Pr) [(3, .int q.2.1)])) : o_At p l e rm_Tx_element s m args below meth c Q o_cls D A 5 9 [] (o_cw ad ca u9_rt u9_Sj u9_a0 u9_T1 u9_Rd u9_Pg u9_Pt u9_Mk u9_Lk u9_Ck u9_Jd u9_Ld u9_Pr) [(0, .ref (ad 1)), (2, .int u9_x2), (3, .int z.1), (4, .int z.2)] := by
  unfold m_Tx_element_b9 at h
  intro H locs ls hP hS hl
  have C0 := C
  obtain ⟨hx, hb, -, -, -, hown, hts, hK, -, -⟩ := C0
  refine lv_iload hx hb d_Tx_element_9 (lv_at hl 3 rfl) ?_
  refine lv_iload_n hx hb d_Tx_element_11 rfl (lv_at hl 1 rfl) ?_
  refine lv_icmp_ge (tgt := 32) hx hb d_Tx_element_12 (by decide) (fun c1 => ?_) (fun c1 => ?_)
  · replace h := o_tt c1 h
    cases h
    exact h1 (Nat.succ_ne_zero 0) _ _ _ hP hS (lv_sub hl [2] rfl)
  · replace h := o_ff c1 h
    refine lv_iload_n hx hb d_Tx_element_15 rfl (lv_at hl 2 rfl) ?_
    refine lv_iconst (v := (-1:Int32)) hx hb d_Tx_element_16 (by decide) ?_
    refine lv_icmp_eq (tgt := 32) hx hb d_Tx_element_17 (by decide) (fun c2 => ?_) (fun c2 => ?_)
    · replace h := o_tt c2 h
      cases h
      exact h1 (Nat.succ_ne_zero 0) _ _ _ hP hS (lv_sub hl [2] rfl)
    · replace h := o_ff c2 h
      refine lv_aload_n hx hb d_Tx_element_20 rfl (lv_at hl 0 rfl) ?_
      refine lv_iload_n hx hb d_Tx_element_21 rfl (lv_at hl 2 rfl) ?_
      obtain ⟨q2, hq2, h⟩ := o_bd_some h
      refine o_V (st1 := [.int q2]) (w1 := (o_cw ad ca u9_rt u9_Sj u9_a0 u9_T1 u9_Rd u9_Pg u9_Pt u9_Mk u9_Lk u9_Ck u9_Jd u9_Ld u9_Pr)) hE.1 C (c_Tx_nextChild_0 hE l z.1 u9_a0 u9_Sj u9_T1 u9_Rd u9_Pg u9_Pt u9_Mk u9_Lk u9_Ck u9_Jd u9_Ld u9_Pr u9_rt hq2) hP (hDD _ _ _ _ _ _ _ _ _ _ _ _ _) hS hl.1 rfl cw_1 k_3_221 k_3_222 k_3_223 k_1_2 k_3_224 hv_Tx_nextChild rfl rfl ⟨(Nat.le_of_ble_eq_true rfl), (Nat.le_of_ble_eq_true rfl)⟩ rfl (Nat.le_of_ble_eq_true rfl) ⟨Nat.zero_le _, Nat.zero_le _⟩ rfl d_Tx_element_22 (fun H locs hP hS => ?_)
      refine lv_istore_n (lv' := [(3, .int q2), (0, .ref (ad 1)), (2, .int u9_x2), (4, .int z.2)]) hx hb d_Tx_element_25 rfl hl (by decide) rfl (fun ls hl => ?_)
      obtain ⟨x4_26, ex4_26⟩ : ∃ y : Int32, y = z.2 + (1:Int32) := ⟨_, rfl⟩
      replace h := o_nm_at ex4_26 h
      refine lv_iinc (v := x4_26) (lv' := [(4, .int x4_26), (3, .int q2), (0, .ref (ad 1)), (2, .int u9_x2)]) hx hb d_Tx_element_26 hl (k := 3) rfl (by rw [ex4_26]; rfl) (by decide) rfl (fun ls hl => ?_)
      refine lv_goto (tgt := 9) hx hb d_Tx_element_29 (by decide) ?_
      cases h
      exact h0 rfl _ _ _ hP hS (lv_sub hl [2, 3, 1, 0] rfl)
set_option maxHeartbeats 4000000 in
set_option maxRecDepth 100000 in
theorem c_Tx_element_0 {E : (Nat → Prop) → State → Heap → Prop} {D : va_G} {ad kd sd vd xd : Nat → Nat} {ca : Nat → ClassId} (hE : o_EK E kd sd vd xd) (l : Launch) (n : Nat) (x1 : Int32) (x2 : Int32) (a0 : STx) (Sj : SSJ) (T1 : STx) (Rd : SRd) (Pg : SPg) (Pt : SPt) (Mk : SMk) (Lk : SLk) (Ck : SCk) (Jd : SJd) (Ld : SLd) (Pr : SPr) (rt : Nat) {r : Int32} (h : m_Tx_element n x1 x2 a0 = some r) : o_Cn E l D o_cls (o_tys ca) y_Tx_element cc_Tx_element rm_Tx_element [.ref (ad 1), .int x1, .int x2] (o_cw ad ca rt Sj a0 T1 Rd Pg Pt Mk Lk Ck Jd Ld Pr) (o_cw ad ca rt Sj a0 T1 Rd Pg Pt Mk Lk Ck Jd Ld Pr) (some (.int r)) := by
  refine o_Cn_of (by decide) (Nat.le_of_ble_eq_true rfl) ?_
  intro p e s m below meth c A ls C hD hP hS hl
  have hDD : ∀ (rt : Nat) (Sj : SSJ) (T0 : STx) (T1 : STx) (Rd : SRd) (Pg : SPg) (Pt : SPt) (Mk : SMk) (Lk : SLk) (Ck : SCk) (Jd : SJd) (Ld : SLd) (Pr : SPr), va_D A (o_cw ad ca rt Sj T0 T1 Rd Pg Pt Mk Lk Ck Jd Ld Pr) := fun _ _ _ _ _ _ _ _ _ _ _ _ _ => o_D_map hD rfl
  have hl : lv_has ls 5 [(0, .ref (ad 1)), (1, .int x1), (2, .int x2)] := hl
  unfold m_Tx_element at h
  have C0 := C
  obtain ⟨hx, hb, -, -, -, hown, hts, hK, -, -⟩ := C0
  refine lv_aload_n hx hb d_Tx_element_0 rfl (lv_at hl 0 rfl) ?_
  refine lv_iload_n hx hb d_Tx_element_1 rfl (lv_at hl 1 rfl) ?_
  obtain ⟨q1, hq1, h⟩ := o_bd_some h
  refine o_V (st1 := [.int q1]) (w1 := (o_cw ad ca rt Sj a0 T1 Rd Pg Pt Mk Lk Ck Jd Ld Pr)) hE.1 C (c_Tx_firstChild_0 hE l x1 a0 Sj T1 Rd Pg Pt Mk Lk Ck Jd Ld Pr rt hq1) hP (hDD _ _ _ _ _ _ _ _ _ _ _ _ _) hS hl.1 rfl cw_1 k_3_210 k_3_211 k_3_212 k_1_2 k_3_213 hv_Tx_firstChild rfl rfl ⟨(Nat.le_of_ble_eq_true rfl), (Nat.le_of_ble_eq_true rfl)⟩ rfl (Nat.le_of_ble_eq_true rfl) ⟨Nat.zero_le _, Nat.zero_le _⟩ rfl d_Tx_element_2 (fun H locs hP hS => ?_)
  refine lv_istore_n (lv' := [(3, .int q1), (0, .ref (ad 1)), (1, .int x1), (2, .int x2)]) hx hb d_Tx_element_5 rfl hl (by decide) rfl (fun ls hl => ?_)
  refine lv_iconst (v := (0:Int32)) hx hb d_Tx_element_6 (by decide) ?_
  refine lv_istore (lv' := [(4, .int (0:Int32)), (3, .int q1), (0, .ref (ad 1)), (1, .int x1), (2, .int x2)]) hx hb d_Tx_element_7 hl (by decide) rfl (fun ls hl => ?_)
  obtain ⟨q3, hq3, h⟩ := o_bd_some h
  refine o_sim2 (AH := fun zz => o_At p l e rm_Tx_element s m _ below meth c _ o_cls D A 5 9 [] (o_cw ad ca rt Sj a0 T1 Rd Pg Pt Mk Lk Ck Jd Ld Pr) [(0, .ref (ad 1)), (2, .int x2), (3, .int zz.1), (4, .int zz.2)]) (AX := fun qq => o_At p l e rm_Tx_element s m _ below meth c _ o_cls D A 5 32 [] (o_cw ad ca rt Sj a0 T1 Rd Pg Pt Mk Lk Ck Jd Ld Pr) [(3, .int qq.2.1)]) (fun zz qq h h0 h1 => w_Tx_element_b9_0 hE C hDD n x2 a0 Sj T1 Rd Pg Pt Mk Lk Ck Jd Ld Pr rt zz qq h h0 h1) n _ q3 hq3 ?_ _ _ _ hP hS (lv_sub hl [2, 4, 1, 0] rfl)
  intro H locs ls hP hS hl
  refine lv_iload_n hx hb d_Tx_element_32 rfl (lv_at hl 0 rfl) ?_
  cases h
  exact o_ri C hP hS d_Tx_element_33
set_option maxHeartbeats 4000000 in
set_option maxRecDepth 100000 in
theorem w_Lk_step_b69 {E : (Nat → Prop) → State → Heap → Prop} {p : Program} {l : Launch} {e : Env} {s : State} {m : MethodId} {args : Array Value} {below : List Frame} {meth : Method} {c : Code} {D : va_G} {ad kd sd vd xd : Nat → Nat} {ca : Nat → ClassId} {A : Nat → Prop} {Q : State → Prop} (hE : o_EK E kd sd vd xd) (C : o_Cx E p s m args meth c D o_cls (o_tys ca) "SchemaJudge$Links" b_Lk_step (some .int) 6 cc_Lk_step A) (hDD : ∀ (rt : Nat) (Sj : SSJ) (T0 : STx) (T1 : STx) (Rd : SRd) (Pg : SPg) (Pt : SPt) (Mk : SMk) (Lk : SLk) (Ck : SCk) (Jd : SJd) (Ld : SLd) (Pr : SPr), va_D A (o_cw ad ca rt Sj T0 T1 Rd Pg Pt Mk Lk Ck Jd Ld Pr)) (n : Nat) (u69_x1 : Int32) (u69_x2 : Int32) (u69_x3 : Int32) (u69_T0 : STx) (u69_Lk : SLk) (u69_Sj : SSJ) (u69_T1 : STx) (u69_Rd : SRd) (u69_Pg : SPg) (u69_Pt : SPt) (u69_Mk : SMk) (u69_Ck : SCk) (u69_Jd : SJd) (u69_Ld : SLd) (u69_Pr : SPr) (u69_rt : Nat) (z : Int32 × Int32) (q : Nat × Int32 × Int32) (h : m_Lk_step_b69 n u69_x1 u69_x2 u69_x3 u69_T0 u69_Lk z = some q) (h0 : q.1 = 0 → o_At p l e rm_Lk_step s m args below meth c Q o_cls D A 6 69 [] (o_cw ad ca u69_rt u69_Sj u69_T0 u69_T1 u69_Rd u69_Pg u69_Pt u69_Mk u69_Lk u69_Ck u69_Jd u69_Ld u69_Pr) [(0, .ref (ad 43)), (1, .int u69_x1), (2, .int u69_x2), (3, .int u69_x3), (4, .int q.2.1), (5, .int q.2.2)]) (h1 : q.1 ≠ 0 → (if q.1 = 1 then o_At p l e rm_Lk_step s m args below meth c Q o_cls D A 6 95 [] (o_cw ad ca u69_rt u69_Sj u69_T0 u69_T1 u69_Rd u69_Pg u69_Pt u69_Mk u69_Lk u69_Ck u69_Jd u69_Ld u69_Pr) [(4, .int q.2.1)] else o_At p l e rm_Lk_step s m args below meth c Q o_cls D A 6 115 [] (o_cw ad ca u69_rt u69_Sj u69_T0 u69_T1 u69_Rd u69_Pg u69_Pt u69_Mk u69_Lk u69_Ck u69_Jd u69_Ld u69_Pr) [])) : o_At p l e rm_Lk_step s m args below meth c Q o_cls D A 6 69 [] (o_cw ad ca u69_rt u69_Sj u69_T0 u69_T1 u69_Rd u69_Pg u69_Pt u69_Mk u69_Lk u69_Ck u69_Jd u69_Ld u69_Pr) [(0, .ref (ad 43)), (1, .int u69_x1), (2, .int u69_x2), (3, .int u69_x3), (4, .int z.1), (5, .int z.2)] := by
  unfold m_Lk_step_b69 at h
  intro H locs ls hP hS hl
  have C0 := C
  obtain ⟨hx, hb, -, -, -, hown, hts, hK, -, -⟩ := C0
  refine lv_iload hx hb d_Lk_step_69 (lv_at hl 5 rfl) ?_
  refine lv_aload_n hx hb d_Lk_step_71 rfl (lv_at hl 0 rfl) ?_
  refine o_get (v := .ref (ad 1)) C in_Lk hP 43 cw_43 rfl 0 (by decide) k_1_231 rfl rfl d_Lk_step_72 ?_
  refine lv_iload_n hx hb d_Lk_step_75 rfl (lv_at hl 1 rfl) ?_
  obtain ⟨q4, hq4, h⟩ := o_bd_some h
  refine o_V (st1 := [.int q4, .int z.2]) (w1 := (o_cw ad ca u69_rt u69_Sj u69_T0 u69_T1 u69_Rd u69_Pg u69_Pt u69_Mk u69_Lk u69_Ck u69_Jd u69_Ld u69_Pr)) hE.1 C (c_Tx_size_0 hE l u69_x1 u69_T0 u69_Sj u69_T1 u69_Rd u69_Pg u69_Pt u69_Mk u69_Lk u69_Ck u69_Jd u69_Ld u69_Pr u69_rt hq4) hP (hDD _ _ _ _ _ _ _ _ _ _ _ _ _) hS hl.1 rfl cw_1 k_5_149 k_3_215 k_3_216 k_1_2 k_3_217 hv_Tx_size rfl rfl ⟨(Nat.le_of_ble_eq_true rfl), (Nat.le_of_ble_eq_true rfl)⟩ rfl (Nat.le_of_ble_eq_true rfl) ⟨Nat.zero_le _, Nat.zero_le _⟩ rfl d_Lk_step_76 (fun H locs hP hS => ?_)
  refine lv_icmp_ge (tgt := 115) hx hb d_Lk_step_79 (by decide) (fun c3 => ?_) (fun c3 => ?_)
  · replace h := o_tt c3 h
    cases h
    exact h1 (Nat.succ_ne_zero 1) _ _ _ hP hS (lv_sub hl [] rfl)
  · replace h := o_ff c3 h
    refine lv_aload_n hx hb d_Lk_step_82 rfl (lv_at hl 0 rfl) ?_
    refine lv_iload hx hb d_Lk_step_83 (lv_at hl 4 rfl) ?_
    refine lv_iconst (v := (1:Int32)) hx hb d_Lk_step_85 (by decide) ?_
    refine lv_isub hx hb d_Lk_step_86 ?_
    refine lv_iload_n hx hb d_Lk_step_87 rfl (lv_at hl 2 rfl) ?_
    refine lv_iload_n hx hb d_Lk_step_88 rfl (lv_at hl 3 rfl) ?_
    obtain ⟨q5, hq5, h⟩ := o_bd_some h
    refine o_V (st1 := [.int q5]) (w1 := (o_cw ad ca u69_rt u69_Sj u69_T0 u69_T1 u69_Rd u69_Pg u69_Pt u69_Mk u69_Lk u69_Ck u69_Jd u69_Ld u69_Pr)) hE.1 C (c_Lk_isNamed hE l n (z.1 - (1:Int32)) u69_x2 u69_x3 u69_T0 u69_Lk u69_Sj u69_T1 u69_Rd u69_Pg u69_Pt u69_Mk u69_Ck u69_Jd u69_Ld u69_Pr u69_rt hq5) hP (hDD _ _ _ _ _ _ _ _ _ _ _ _ _) hS hl.1 rfl cw_43 k_5_183 k_5_185 k_s_53 k_1_8 k_5_186 hv_Lk_isNamed rfl rfl ⟨(Nat.le_of_ble_eq_true rfl), (Nat.le_of_ble_eq_true rfl)⟩ rfl (Nat.le_of_ble_eq_true rfl) ⟨Nat.zero_le _, Nat.zero_le _⟩ rfl d_Lk_step_89 (fun H locs hP hS => ?_)
    refine lv_if_eq (tgt := 98) hx hb d_Lk_step_92 (by decide) (fun c4 => ?_) (fun c4 => ?_)
    · replace h := o_tt c4 h
      refine lv_aload_n hx hb d_Lk_step_98 rfl (lv_at hl 0 rfl) ?_
      refine o_get (v := .ref (ad 1)) C in_Lk hP 43 cw_43 rfl 0 (by decide) k_1_231 rfl rfl d_Lk_step_99 ?_
      refine lv_iload hx hb d_Lk_step_102 (lv_at hl 4 rfl) ?_
      obtain ⟨q6, hq6, h⟩ := o_bd_some h
      refine o_V (st1 := [.int q6]) (w1 := (o_cw ad ca u69_rt u69_Sj u69_T0 u69_T1 u69_Rd u69_Pg u69_Pt u69_Mk u69_Lk u69_Ck u69_Jd u69_Ld u69_Pr)) hE.1 C (c_Tx_nextChild_0 hE l z.1 u69_T0 u69_Sj u69_T1 u69_Rd u69_Pg u69_Pt u69_Mk u69_Lk u69_Ck u69_Jd u69_Ld u69_Pr u69_rt hq6) hP (hDD _ _ _ _ _ _ _ _ _ _ _ _ _) hS hl.1 rfl cw_1 k_5_187 k_3_222 k_3_223 k_1_2 k_3_224 hv_Tx_nextChild rfl rfl ⟨(Nat.le_of_ble_eq_true rfl), (Nat.le_of_ble_eq_true rfl)⟩ rfl (Nat.le_of_ble_eq_true rfl) ⟨Nat.zero_le _, Nat.zero_le _⟩ rfl d_Lk_step_104 (fun H locs hP hS => ?_)
      refine lv_istore (lv' := [(4, .int q6), (0, .ref (ad 43)), (1, .int u69_x1), (2, .int u69_x2), (3, .int u69_x3), (5, .int z.2)]) hx hb d_Lk_step_107 hl (by decide) rfl (fun ls hl => ?_)
      obtain ⟨x5_109, ex5_109⟩ : ∃ y : Int32, y = z.2 + (1:Int32) := ⟨_, rfl⟩
      replace h := o_nm_at ex5_109 h
      refine lv_iinc (v := x5_109) (lv' := [(5, .int x5_109), (4, .int q6), (0, .ref (ad 43)), (1, .int u69_x1), (2, .int u69_x2), (3, .int u69_x3)]) hx hb d_Lk_step_109 hl (k := 5) rfl (by rw [ex5_109]; rfl) (by decide) rfl (fun ls hl => ?_)
      refine lv_goto (tgt := 69) hx hb d_Lk_step_112 (by decide) ?_
      cases h
      exact h0 rfl _ _ _ hP hS (lv_sub hl [2, 3, 4, 5, 1, 0] rfl)
    · replace h := o_ff c4 h
      cases h
      exact h1 (Nat.succ_ne_zero 0) _ _ _ hP hS (lv_sub hl [4] rfl)
set_option maxHeartbeats 4000000 in
set_option maxRecDepth 100000 in
theorem c_Lk_step {E : (Nat → Prop) → State → Heap → Prop} {D : va_G} {ad kd sd vd xd : Nat → Nat} {ca : Nat → ClassId} (hE : o_EK E kd sd vd xd) (l : Launch) (n : Nat) (x1 : Int32) (x2 : Int32) (x3 : Int32) (T0 : STx) (Lk : SLk) (Sj : SSJ) (T1 : STx) (Rd : SRd) (Pg : SPg) (Pt : SPt) (Mk : SMk) (Ck : SCk) (Jd : SJd) (Ld : SLd) (Pr : SPr) (rt : Nat) {r : Int32} (h : m_Lk_step n x1 x2 x3 T0 Lk = some r) : o_Cn E l D o_cls (o_tys ca) y_Lk_step cc_Lk_step rm_Lk_step [.ref (ad 43), .int x1, .int x2, .int x3] (o_cw ad ca rt Sj T0 T1 Rd Pg Pt Mk Lk Ck Jd Ld Pr) (o_cw ad ca rt Sj T0 T1 Rd Pg Pt Mk Lk Ck Jd Ld Pr) (some (.int r)) := by
  refine o_Cn_of (by decide) (Nat.le_of_ble_eq_true rfl) ?_
  intro p e s m below meth c A ls C hD hP hS hl
  have hDD : ∀ (rt : Nat) (Sj : SSJ) (T0 : STx) (T1 : STx) (Rd : SRd) (Pg : SPg) (Pt : SPt) (Mk : SMk) (Lk : SLk) (Ck : SCk) (Jd : SJd) (Ld : SLd) (Pr : SPr), va_D A (o_cw ad ca rt Sj T0 T1 Rd Pg Pt Mk Lk Ck Jd Ld Pr) := fun _ _ _ _ _ _ _ _ _ _ _ _ _ => o_D_map hD rfl
  have hl : lv_has ls 6 [(0, .ref (ad 43)), (1, .int x1), (2, .int x2), (3, .int x3)] := hl
  unfold m_Lk_step at h
  have C0 := C
  obtain ⟨hx, hb, -, -, -, hown, hts, hK, -, -⟩ := C0
  refine lv_aload_n hx hb d_Lk_step_0 rfl (lv_at hl 0 rfl) ?_
  refine o_get (v := .ref (ad 1)) C in_Lk hP 43 cw_43 rfl 0 (by decide) k_1_231 rfl rfl d_Lk_step_1 ?_
  refine lv_iload_n hx hb d_Lk_step_4 rfl (lv_at hl 1 rfl) ?_
  obtain ⟨q1, hq1, h⟩ := o_bd_some h
  refine o_V (st1 := [.int q1]) (w1 := (o_cw ad ca rt Sj T0 T1 Rd Pg Pt Mk Lk Ck Jd Ld Pr)) hE.1 C (c_Tx_kind_0 hE l x1 T0 Sj T1 Rd Pg Pt Mk Lk Ck Jd Ld Pr rt hq1) hP (hDD _ _ _ _ _ _ _ _ _ _ _ _ _) hS hl.1 rfl cw_1 k_5_172 k_4_50 k_4_51 k_1_2 k_4_52 hv_Tx_kind rfl rfl ⟨(Nat.le_of_ble_eq_true rfl), (Nat.le_of_ble_eq_true rfl)⟩ rfl (Nat.le_of_ble_eq_true rfl) ⟨Nat.zero_le _, Nat.zero_le _⟩ rfl d_Lk_step_5 (fun H locs hP hS => ?_)
  refine lv_iconst (v := (5:Int32)) hx hb d_Lk_step_8 (by decide) ?_
  refine lv_icmp_ne (tgt := 41) hx hb d_Lk_step_9 (by decide) (fun c1 => ?_) (fun c1 => ?_)
  · replace h := o_ff c1 h
    refine lv_aload_n hx hb d_Lk_step_41 rfl (lv_at hl 0 rfl) ?_
    refine o_get (v := .ref (ad 1)) C in_Lk hP 43 cw_43 rfl 0 (by decide) k_1_231 rfl rfl d_Lk_step_42 ?_
    refine lv_iload_n hx hb d_Lk_step_45 rfl (lv_at hl 1 rfl) ?_
    obtain ⟨q2, hq2, h⟩ := o_bd_some h
    refine o_V (st1 := [.int q2]) (w1 := (o_cw ad ca rt Sj T0 T1 Rd Pg Pt Mk Lk Ck Jd Ld Pr)) hE.1 C (c_Tx_kind_0 hE l x1 T0 Sj T1 Rd Pg Pt Mk Lk Ck Jd Ld Pr rt hq2) hP (hDD _ _ _ _ _ _ _ _ _ _ _ _ _) hS hl.1 rfl cw_1 k_5_172 k_4_50 k_4_51 k_1_2 k_4_52 hv_Tx_kind rfl rfl ⟨(Nat.le_of_ble_eq_true rfl), (Nat.le_of_ble_eq_true rfl)⟩ rfl (Nat.le_of_ble_eq_true rfl) ⟨Nat.zero_le _, Nat.zero_le _⟩ rfl d_Lk_step_46 (fun H locs hP hS => ?_)
    refine lv_bipush (v := (6:Int32)) hx hb d_Lk_step_49 (by decide) ?_
    refine lv_icmp_eq (tgt := 56) hx hb d_Lk_step_51 (by decide) (fun c2 => ?_) (fun c2 => ?_)
    · replace h := o_tt c2 h
      refine lv_aload_n hx hb d_Lk_step_56 rfl (lv_at hl 0 rfl) ?_
      refine o_get (v := .ref (ad 1)) C in_Lk hP 43 cw_43 rfl 0 (by decide) k_1_231 rfl rfl d_Lk_step_57 ?_
      refine lv_iload_n hx hb d_Lk_step_60 rfl (lv_at hl 1 rfl) ?_
      obtain ⟨q3, hq3, h⟩ := o_bd_some h
      refine o_V (st1 := [.int q3]) (w1 := (o_cw ad ca rt Sj T0 T1 Rd Pg Pt Mk Lk Ck Jd Ld Pr)) hE.1 C (c_Tx_firstChild_0 hE l x1 T0 Sj T1 Rd Pg Pt Mk Lk Ck Jd Ld Pr rt hq3) hP (hDD _ _ _ _ _ _ _ _ _ _ _ _ _) hS hl.1 rfl cw_1 k_5_182 k_3_211 k_3_212 k_1_2 k_3_213 hv_Tx_firstChild rfl rfl ⟨(Nat.le_of_ble_eq_true rfl), (Nat.le_of_ble_eq_true rfl)⟩ rfl (Nat.le_of_ble_eq_true rfl) ⟨Nat.zero_le _, Nat.zero_le _⟩ rfl d_Lk_step_61 (fun H locs hP hS => ?_)
      refine lv_istore (lv' := [(4, .int q3), (0, .ref (ad 43)), (1, .int x1), (2, .int x2), (3, .int x3)]) hx hb d_Lk_step_64 hl (by decide) rfl (fun ls hl => ?_)
      refine lv_iconst (v := (0:Int32)) hx hb d_Lk_step_66 (by decide) ?_
      refine lv_istore (lv' := [(5, .int (0:Int32)), (4, .int q3), (0, .ref (ad 43)), (1, .int x1), (2, .int x2), (3, .int x3)]) hx hb d_Lk_step_67 hl (by decide) rfl (fun ls hl => ?_)
      obtain ⟨q7, hq7, h⟩ := o_bd_some h
      refine o_sim2 (AH := fun zz => o_At p l e rm_Lk_step s m _ below meth c _ o_cls D A 6 69 [] (o_cw ad ca rt Sj T0 T1 Rd Pg Pt Mk Lk Ck Jd Ld Pr) [(0, .ref (ad 43)), (1, .int x1), (2, .int x2), (3, .int x3), (4, .int zz.1), (5, .int zz.2)]) (AX := fun qq => if qq.1 = 1 then o_At p l e rm_Lk_step s m _ below meth c _ o_cls D A 6 95 [] (o_cw ad ca rt Sj T0 T1 Rd Pg Pt Mk Lk Ck Jd Ld Pr) [(4, .int qq.2.1)] else o_At p l e rm_Lk_step s m _ below meth c _ o_cls D A 6 115 [] (o_cw ad ca rt Sj T0 T1 Rd Pg Pt Mk Lk Ck Jd Ld Pr) []) (fun zz qq h h0 h1 => w_Lk_step_b69 hE C hDD n x1 x2 x3 T0 Lk Sj T1 Rd Pg Pt Mk Ck Jd Ld Pr rt zz qq h h0 h1) n _ q7 hq7 ?_ _ _ _ hP hS (lv_sub hl [2, 3, 4, 5, 1, 0] rfl)
      by_cases c5 : q7.1 = 1
      · replace h := o_tt c5 h
        refine o_ip c5 ?_
        intro H locs ls hP hS hl
        refine lv_iload hx hb d_Lk_step_95 (lv_at hl 0 rfl) ?_
        cases h
        exact o_ri C hP hS d_Lk_step_97
      replace h := o_ff c5 h
      refine o_in_ c5 ?_
      intro H locs ls hP hS hl
      refine lv_iconst (v := (-1:Int32)) hx hb d_Lk_step_115 (by decide) ?_
      cases h
      exact o_ri (v := (-1:Int32)) C hP hS d_Lk_step_116
    · replace h := o_ff c2 h
      refine lv_iconst (v := (-1:Int32)) hx hb d_Lk_step_54 (by decide) ?_
      cases h
      exact o_ri (v := (-1:Int32)) C hP hS d_Lk_step_55
  · replace h := o_tt c1 h
    refine lv_aload_n hx hb d_Lk_step_12 rfl (lv_at hl 0 rfl) ?_
    refine lv_iload_n hx hb d_Lk_step_13 rfl (lv_at hl 2 rfl) ?_
    refine lv_iload_n hx hb d_Lk_step_14 rfl (lv_at hl 3 rfl) ?_
    obtain ⟨q8, hq8, h⟩ := o_bd_some h
    refine o_V (st1 := [.int q8]) (w1 := (o_cw ad ca rt Sj T0 T1 Rd Pg Pt Mk Lk Ck Jd Ld Pr)) hE.1 C (c_Lk_placeNumber hE l n x2 x3 Lk Sj T0 T1 Rd Pg Pt Mk Ck Jd Ld Pr rt hq8) hP (hDD _ _ _ _ _ _ _ _ _ _ _ _ _) hS hl.1 rfl cw_43 k_5_173 k_5_175 k_s_52 k_1_8 k_5_176 hv_Lk_placeNumber rfl rfl ⟨(Nat.le_of_ble_eq_true rfl), (Nat.le_of_ble_eq_true rfl)⟩ rfl (Nat.le_of_ble_eq_true rfl) ⟨Nat.zero_le _, Nat.zero_le _⟩ rfl d_Lk_step_15 (fun H locs hP hS => ?_)
    refine lv_istore (lv' := [(4, .int q8), (0, .ref (ad 43)), (1, .int x1), (2, .int x2), (3, .int x3)]) hx hb d_Lk_step_18 hl (by decide) rfl (fun ls hl => ?_)
    refine lv_iload hx hb d_Lk_step_20 (lv_at hl 0 rfl) ?_
    refine lv_iconst (v := (-1:Int32)) hx hb d_Lk_step_22 (by decide) ?_
    refine lv_icmp_ne (tgt := 30) hx hb d_Lk_step_23 (by decide) (fun c6 => ?_) (fun c6 => ?_)
    · replace h := o_ff c6 h
      refine lv_aload_n hx hb d_Lk_step_30 rfl (lv_at hl 1 rfl) ?_
      refine o_get (v := .ref (ad 1)) C in_Lk hP 43 cw_43 rfl 0 (by decide) k_1_231 rfl rfl d_Lk_step_31 ?_
      refine lv_iload_n hx hb d_Lk_step_34 rfl (lv_at hl 2 rfl) ?_
      refine lv_iload hx hb d_Lk_step_35 (lv_at hl 0 rfl) ?_
      obtain ⟨q9, hq9, h⟩ := o_bd_some h
      refine o_V (st1 := [.int q9]) (w1 := (o_cw ad ca rt Sj T0 T1 Rd Pg Pt Mk Lk Ck Jd Ld Pr)) hE.1 C (c_Tx_element_0 hE l n x1 q8 T0 Sj T1 Rd Pg Pt Mk Lk Ck Jd Ld Pr rt hq9) hP (hDD _ _ _ _ _ _ _ _ _ _ _ _ _) hS hl.1 rfl cw_1 k_5_178 k_5_179 k_5_180 k_1_2 k_5_181 hv_Tx_element rfl rfl ⟨(Nat.le_of_ble_eq_true rfl), (Nat.le_of_ble_eq_true rfl)⟩ rfl (Nat.le_of_ble_eq_true rfl) ⟨Nat.zero_le _, Nat.zero_le _⟩ rfl d_Lk_step_37 (fun H locs hP hS => ?_)
      cases h
      exact o_ri C hP hS d_Lk_step_40
    · replace h := o_tt c6 h
      refine lv_iconst (v := (-1:Int32)) hx hb d_Lk_step_26 (by decide) ?_
      refine lv_goto (tgt := 40) hx hb d_Lk_step_27 (by decide) ?_
      cases h
      exact o_ri (v := (-1:Int32)) C hP hS d_Lk_step_40
set_option maxHeartbeats 4000000 in
set_option maxRecDepth 100000 in
theorem w_Lk_walk_j33 {E : (Nat → Prop) → State → Heap → Prop} {p : Program} {l : Launch} {e : Env} {s : State} {m : MethodId} {args : Array Value} {below : List Frame} {meth : Method} {c : Code} {D : va_G} {ad kd sd vd xd : Nat → Nat} {ca : Nat → ClassId} {A : Nat → Prop} {Q : State → Prop} (hE : o_EK E kd sd vd xd) (C : o_Cx E p s m args meth c D o_cls (o_tys ca) "SchemaJudge$Links" b_Lk_walk (some .int) 4 cc_Lk_walk A) (hDD : ∀ (rt : Nat) (Sj : SSJ) (T0 : STx) (T1 : STx) (Rd : SRd) (Pg : SPg) (Pt : SPt) (Mk : SMk) (Lk : SLk) (Ck : SCk) (Jd : SJd) (Ld : SLd) (Pr : SPr), va_D A (o_cw ad ca rt Sj T0 T1 Rd Pg Pt Mk Lk Ck Jd Ld Pr)) (n : Nat) (u6_T0 : STx) (u6_Lk : SLk) (u6_Sj : SSJ) (u6_T1 : STx) (u6_Rd : SRd) (u6_Pg : SPg) (u6_Pt : SPt) (u6_Mk : SMk) (u6_Ck : SCk) (u6_Jd : SJd) (u6_Ld : SLd) (u6_Pr : SPr) (u6_rt : Nat) (x1 : Int32) (x2 : Int32) (x3 : Int32) {q : Nat × Int32 × Int32 × Int32} (h : m_Lk_walk_j33 n x1 x2 x3 u6_T0 u6_Lk = some q) (h0 : q.1 = 0 → o_At p l e rm_Lk_walk s m args below meth c Q o_cls D A 4 6 [] (o_cw ad ca u6_rt u6_Sj u6_T0 u6_T1 u6_Rd u6_Pg u6_Pt u6_Mk u6_Lk u6_Ck u6_Jd u6_Ld u6_Pr) [(0, .ref (ad 43)), (1, .int q.2.1), (2, .int q.2.2.1), (3, .int q.2.2.2)]) (h1 : q.1 ≠ 0 → (o_At p l e rm_Lk_walk s m args below meth c Q o_cls D A 4 51 [] (o_cw ad ca u6_rt u6_Sj u6_T0 u6_T1 u6_Rd u6_Pg u6_Pt u6_Mk u6_Lk u6_Ck u6_Jd u6_Ld u6_Pr) [(1, .int q.2.1)])) : o_At p l e rm_Lk_walk s m args below meth c Q o_cls D A 4 33 [] (o_cw ad ca u6_rt u6_Sj u6_T0 u6_T1 u6_Rd u6_Pg u6_Pt u6_Mk u6_Lk u6_Ck u6_Jd u6_Ld u6_Pr) [(0, .ref (ad 43)), (1, .int x1), (2, .int x2), (3, .int x3)] := by
  unfold m_Lk_walk_j33 at h
  intro H locs ls hP hS hl
  have C0 := C
  obtain ⟨hx, hb, -, -, -, hown, hts, hK, -, -⟩ := C0
  refine lv_aload_n hx hb d_Lk_walk_33 rfl (lv_at hl 0 rfl) ?_
  refine lv_iload_n hx hb d_Lk_walk_34 rfl (lv_at hl 1 rfl) ?_
  refine lv_iload_n hx hb d_Lk_walk_35 rfl (lv_at hl 2 rfl) ?_
  refine lv_iload_n hx hb d_Lk_walk_36 rfl (lv_at hl 3 rfl) ?_
  obtain ⟨q1, hq1, h⟩ := o_bd_some h
  refine o_V (st1 := [.int q1]) (w1 := (o_cw ad ca u6_rt u6_Sj u6_T0 u6_T1 u6_Rd u6_Pg u6_Pt u6_Mk u6_Lk u6_Ck u6_Jd u6_Ld u6_Pr)) hE.1 C (c_Lk_step hE l n x1 x2 x3 u6_T0 u6_Lk u6_Sj u6_T1 u6_Rd u6_Pg u6_Pt u6_Mk u6_Ck u6_Jd u6_Ld u6_Pr u6_rt hq1) hP (hDD _ _ _ _ _ _ _ _ _ _ _ _ _) hS hl.1 rfl cw_43 k_5_168 k_5_170 k_s_51 k_1_8 k_5_171 hv_Lk_step rfl rfl ⟨(Nat.le_of_ble_eq_true rfl), (Nat.le_of_ble_eq_true rfl)⟩ rfl (Nat.le_of_ble_eq_true rfl) ⟨Nat.zero_le _, Nat.zero_le _⟩ rfl d_Lk_walk_37 (fun H locs hP hS => ?_)
  refine lv_istore_n (lv' := [(1, .int q1), (0, .ref (ad 43)), (2, .int x2), (3, .int x3)]) hx hb d_Lk_walk_40 rfl hl (by decide) rfl (fun ls hl => ?_)
  refine lv_iload_n hx hb d_Lk_walk_41 rfl (lv_at hl 3 rfl) ?_
  refine lv_iconst (v := (1:Int32)) hx hb d_Lk_walk_42 (by decide) ?_
  refine lv_iadd hx hb d_Lk_walk_43 ?_
  refine lv_topi (fun x2_44 ex2_44 => ?_)
  replace h := o_nm_at ex2_44 h
  refine lv_istore_n (lv' := [(2, .int x2_44), (1, .int q1), (0, .ref (ad 43)), (3, .int x3)]) hx hb d_Lk_walk_44 rfl hl (by decide) rfl (fun ls hl => ?_)
  obtain ⟨x3_45, ex3_45⟩ : ∃ y : Int32, y = x3 + (1:Int32) := ⟨_, rfl⟩
  replace h := o_nm_at ex3_45 h
  refine lv_iinc (v := x3_45) (lv' := [(3, .int x3_45), (2, .int x2_44), (1, .int q1), (0, .ref (ad 43))]) hx hb d_Lk_walk_45 hl (k := 3) rfl (by rw [ex3_45]; rfl) (by decide) rfl (fun ls hl => ?_)
  refine lv_goto (tgt := 6) hx hb d_Lk_walk_48 (by decide) ?_
  cases h
  exact h0 rfl _ _ _ hP hS (lv_sub hl [3, 2, 1, 0] rfl)
set_option maxHeartbeats 4000000 in
set_option maxRecDepth 100000 in
theorem w_Lk_walk_b6 {E : (Nat → Prop) → State → Heap → Prop} {p : Program} {l : Launch} {e : Env} {s : State} {m : MethodId} {args : Array Value} {below : List Frame} {meth : Method} {c : Code} {D : va_G} {ad kd sd vd xd : Nat → Nat} {ca : Nat → ClassId} {A : Nat → Prop} {Q : State → Prop} (hE : o_EK E kd sd vd xd) (C : o_Cx E p s m args meth c D o_cls (o_tys ca) "SchemaJudge$Links" b_Lk_walk (some .int) 4 cc_Lk_walk A) (hDD : ∀ (rt : Nat) (Sj : SSJ) (T0 : STx) (T1 : STx) (Rd : SRd) (Pg : SPg) (Pt : SPt) (Mk : SMk) (Lk : SLk) (Ck : SCk) (Jd : SJd) (Ld : SLd) (Pr : SPr), va_D A (o_cw ad ca rt Sj T0 T1 Rd Pg Pt Mk Lk Ck Jd Ld Pr)) (n : Nat) (u6_T0 : STx) (u6_Lk : SLk) (u6_Sj : SSJ) (u6_T1 : STx) (u6_Rd : SRd) (u6_Pg : SPg) (u6_Pt : SPt) (u6_Mk : SMk) (u6_Ck : SCk) (u6_Jd : SJd) (u6_Ld : SLd) (u6_Pr : SPr) (u6_rt : Nat) (z : Int32 × Int32 × Int32) (q : Nat × Int32 × Int32 × Int32) (h : m_Lk_walk_b6 n u6_T0 u6_Lk z = some q) (h0 : q.1 = 0 → o_At p l e rm_Lk_walk s m args below meth c Q o_cls D A 4 6 [] (o_cw ad ca u6_rt u6_Sj u6_T0 u6_T1 u6_Rd u6_Pg u6_Pt u6_Mk u6_Lk u6_Ck u6_Jd u6_Ld u6_Pr) [(0, .ref (ad 43)), (1, .int q.2.1), (2, .int q.2.2.1), (3, .int q.2.2.2)]) (h1 : q.1 ≠ 0 → (o_At p l e rm_Lk_walk s m args below meth c Q o_cls D A 4 51 [] (o_cw ad ca u6_rt u6_Sj u6_T0 u6_T1 u6_Rd u6_Pg u6_Pt u6_Mk u6_Lk u6_Ck u6_Jd u6_Ld u6_Pr) [(1, .int q.2.1)])) : o_At p l e rm_Lk_walk s m args below meth c Q o_cls D A 4 6 [] (o_cw ad ca u6_rt u6_Sj u6_T0 u6_T1 u6_Rd u6_Pg u6_Pt u6_Mk u6_Lk u6_Ck u6_Jd u6_Ld u6_Pr) [(0, .ref (ad 43)), (1, .int z.1), (2, .int z.2.1), (3, .int z.2.2)] := by
  unfold m_Lk_walk_b6 at h
  intro H locs ls hP hS hl
  have C0 := C
  obtain ⟨hx, hb, -, -, -, hown, hts, hK, -, -⟩ := C0
  refine lv_iload_n hx hb d_Lk_walk_6 rfl (lv_at hl 3 rfl) ?_
  refine lv_aload_n hx hb d_Lk_walk_7 rfl (lv_at hl 0 rfl) ?_
  refine o_get (v := .int (Lk_length u6_Lk)) C in_Lk hP 43 cw_43 rfl 3 (by decide) k_1_234 rfl rfl d_Lk_walk_8 ?_
  refine lv_icmp_gt (tgt := 51) hx hb d_Lk_walk_11 (by decide) (fun c1 => ?_) (fun c1 => ?_)
  · replace h := o_tt c1 h
    cases h
    exact h1 (Nat.succ_ne_zero 0) _ _ _ hP hS (lv_sub hl [1] rfl)
  · replace h := o_ff c1 h
    refine lv_iload_n hx hb d_Lk_walk_14 rfl (lv_at hl 3 rfl) ?_
    refine lv_aload_n hx hb d_Lk_walk_15 rfl (lv_at hl 0 rfl) ?_
    refine o_get (v := .int (Lk_length u6_Lk)) C in_Lk hP 43 cw_43 rfl 3 (by decide) k_1_234 rfl rfl d_Lk_walk_16 ?_
    refine lv_icmp_eq (tgt := 33) hx hb d_Lk_walk_19 (by decide) (fun c2 => ?_) (fun c2 => ?_)
    · replace h := o_tt c2 h
      exact w_Lk_walk_j33 hE C hDD n u6_T0 u6_Lk u6_Sj u6_T1 u6_Rd u6_Pg u6_Pt u6_Mk u6_Ck u6_Jd u6_Ld u6_Pr u6_rt z.1 z.2.1 z.2.2 h h0 h1 _ _ _ hP hS (lv_sub hl [0, 1, 2, 3] rfl)
    · replace h := o_ff c2 h
      refine lv_aload_n hx hb d_Lk_walk_22 rfl (lv_at hl 0 rfl) ?_
      refine o_get (v := .ref (ad 44)) C in_Lk hP 43 cw_43 rfl 2 (by decide) k_1_233 rfl rfl d_Lk_walk_23 ?_
      refine lv_iload_n hx hb d_Lk_walk_26 rfl (lv_at hl 3 rfl) ?_
      obtain ⟨g3, h⟩ := o_gd_some h
      refine o_iald (f := (Lk_characters u6_Lk)) C hP 44 36 cw_44 rfl g3 d_Lk_walk_27 ?_
      refine lv_bipush (v := (47:Int32)) hx hb d_Lk_walk_28 (by decide) ?_
      refine lv_icmp_ne (tgt := 45) hx hb d_Lk_walk_30 (by decide) (fun c4 => ?_) (fun c4 => ?_)
      · replace h := o_ff c4 h
        obtain ⟨x3_45, ex3_45⟩ : ∃ y : Int32, y = z.2.2 + (1:Int32) := ⟨_, rfl⟩
        replace h := o_nm_at ex3_45 h
        refine lv_iinc (v := x3_45) (lv' := [(3, .int x3_45), (0, .ref (ad 43)), (1, .int z.1), (2, .int z.2.1)]) hx hb d_Lk_walk_45 hl (k := 3) rfl (by rw [ex3_45]; rfl) (by decide) rfl (fun ls hl => ?_)
        refine lv_goto (tgt := 6) hx hb d_Lk_walk_48 (by decide) ?_
        cases h
        exact h0 rfl _ _ _ hP hS (lv_sub hl [1, 2, 3, 0] rfl)
      · replace h := o_tt c4 h
        exact w_Lk_walk_j33 hE C hDD n u6_T0 u6_Lk u6_Sj u6_T1 u6_Rd u6_Pg u6_Pt u6_Mk u6_Ck u6_Jd u6_Ld u6_Pr u6_rt z.1 z.2.1 z.2.2 h h0 h1 _ _ _ hP hS (lv_sub hl [0, 1, 2, 3] rfl)
set_option maxHeartbeats 4000000 in
set_option maxRecDepth 100000 in
theorem c_Lk_walk {E : (Nat → Prop) → State → Heap → Prop} {D : va_G} {ad kd sd vd xd : Nat → Nat} {ca : Nat → ClassId} (hE : o_EK E kd sd vd xd) (l : Launch) (n : Nat)  (T0 : STx) (Lk : SLk) (Sj : SSJ) (T1 : STx) (Rd : SRd) (Pg : SPg) (Pt : SPt) (Mk : SMk) (Ck : SCk) (Jd : SJd) (Ld : SLd) (Pr : SPr) (rt : Nat) {r : Int32} (h : m_Lk_walk n T0 Lk = some r) : o_Cn E l D o_cls (o_tys ca) y_Lk_walk cc_Lk_walk rm_Lk_walk [.ref (ad 43)] (o_cw ad ca rt Sj T0 T1 Rd Pg Pt Mk Lk Ck Jd Ld Pr) (o_cw ad ca rt Sj T0 T1 Rd Pg Pt Mk Lk Ck Jd Ld Pr) (some (.int r)) := by
  refine o_Cn_of (by decide) (Nat.le_of_ble_eq_true rfl) ?_
  intro p e s m below meth c A ls C hD hP hS hl
  have hDD : ∀ (rt : Nat) (Sj : SSJ) (T0 : STx) (T1 : STx) (Rd : SRd) (Pg : SPg) (Pt : SPt) (Mk : SMk) (Lk : SLk) (Ck : SCk) (Jd : SJd) (Ld : SLd) (Pr : SPr), va_D A (o_cw ad ca rt Sj T0 T1 Rd Pg Pt Mk Lk Ck Jd Ld Pr) := fun _ _ _ _ _ _ _ _ _ _ _ _ _ => o_D_map hD rfl
  have hl : lv_has ls 4 [(0, .ref (ad 43))] := hl
  unfold m_Lk_walk at h
  have C0 := C
  obtain ⟨hx, hb, -, -, -, hown, hts, hK, -, -⟩ := C0
  refine lv_iconst (v := (0:Int32)) hx hb d_Lk_walk_0 (by decide) ?_
  refine lv_istore_n (lv' := [(1, .int (0:Int32)), (0, .ref (ad 43))]) hx hb d_Lk_walk_1 rfl hl (by decide) rfl (fun ls hl => ?_)
  refine lv_iconst (v := (2:Int32)) hx hb d_Lk_walk_2 (by decide) ?_
  refine lv_istore_n (lv' := [(2, .int (2:Int32)), (1, .int (0:Int32)), (0, .ref (ad 43))]) hx hb d_Lk_walk_3 rfl hl (by decide) rfl (fun ls hl => ?_)
  refine lv_iconst (v := (2:Int32)) hx hb d_Lk_walk_4 (by decide) ?_
  refine lv_istore_n (lv' := [(3, .int (2:Int32)), (2, .int (2:Int32)), (1, .int (0:Int32)), (0, .ref (ad 43))]) hx hb d_Lk_walk_5 rfl hl (by decide) rfl (fun ls hl => ?_)
  obtain ⟨q2, hq2, h⟩ := o_bd_some h
  refine o_sim2 (AH := fun zz => o_At p l e rm_Lk_walk s m _ below meth c _ o_cls D A 4 6 [] (o_cw ad ca rt Sj T0 T1 Rd Pg Pt Mk Lk Ck Jd Ld Pr) [(0, .ref (ad 43)), (1, .int zz.1), (2, .int zz.2.1), (3, .int zz.2.2)]) (AX := fun qq => o_At p l e rm_Lk_walk s m _ below meth c _ o_cls D A 4 51 [] (o_cw ad ca rt Sj T0 T1 Rd Pg Pt Mk Lk Ck Jd Ld Pr) [(1, .int qq.2.1)]) (fun zz qq h h0 h1 => w_Lk_walk_b6 hE C hDD n T0 Lk Sj T1 Rd Pg Pt Mk Ck Jd Ld Pr rt zz qq h h0 h1) n _ q2 hq2 ?_ _ _ _ hP hS (lv_sub hl [3, 2, 1, 0] rfl)
  intro H locs ls hP hS hl
  refine lv_iload_n hx hb d_Lk_walk_51 rfl (lv_at hl 0 rfl) ?_
  cases h
  exact o_ri C hP hS d_Lk_walk_52
set_option maxHeartbeats 4000000 in
set_option maxRecDepth 100000 in
theorem c_Tx_parent_0 {E : (Nat → Prop) → State → Heap → Prop} {D : va_G} {ad kd sd vd xd : Nat → Nat} {ca : Nat → ClassId} (hE : o_EK E kd sd vd xd) (l : Launch) (x1 : Int32) (a0 : STx) (Sj : SSJ) (T1 : STx) (Rd : SRd) (Pg : SPg) (Pt : SPt) (Mk : SMk) (Lk : SLk) (Ck : SCk) (Jd : SJd) (Ld : SLd) (Pr : SPr) (rt : Nat) {r : Int32} (h : m_Tx_parent x1 a0 = some r) : o_Cn E l D o_cls (o_tys ca) y_Tx_parent cc_Tx_parent rm_Tx_parent [.ref (ad 1), .int x1] (o_cw ad ca rt Sj a0 T1 Rd Pg Pt Mk Lk Ck Jd Ld Pr) (o_cw ad ca rt Sj a0 T1 Rd Pg Pt Mk Lk Ck Jd Ld Pr) (some (.int r)) := by
  refine o_Cn_of (by decide) (Nat.le_of_ble_eq_true rfl) ?_
  intro p e s m below meth c A ls C hD hP hS hl
  have hDD : ∀ (rt : Nat) (Sj : SSJ) (T0 : STx) (T1 : STx) (Rd : SRd) (Pg : SPg) (Pt : SPt) (Mk : SMk) (Lk : SLk) (Ck : SCk) (Jd : SJd) (Ld : SLd) (Pr : SPr), va_D A (o_cw ad ca rt Sj T0 T1 Rd Pg Pt Mk Lk Ck Jd Ld Pr) := fun _ _ _ _ _ _ _ _ _ _ _ _ _ => o_D_map hD rfl
  have hl : lv_has ls 2 [(0, .ref (ad 1)), (1, .int x1)] := hl
  unfold m_Tx_parent at h
  have C0 := C
  obtain ⟨hx, hb, -, -, -, hown, hts, hK, -, -⟩ := C0
  refine lv_iload_n hx hb d_Tx_parent_0 rfl (lv_at hl 1 rfl) ?_
  refine lv_if_lt (tgt := 21) hx hb d_Tx_parent_1 (by decide) (fun c1 => ?_) (fun c1 => ?_)
  · replace h := o_tt c1 h
    refine lv_iconst (v := (-1:Int32)) hx hb d_Tx_parent_21 (by decide) ?_
    cases h
    exact o_ri (v := (-1:Int32)) C hP hS d_Tx_parent_22
  · replace h := o_ff c1 h
    refine lv_iload_n hx hb d_Tx_parent_4 rfl (lv_at hl 1 rfl) ?_
    refine lv_aload_n hx hb d_Tx_parent_5 rfl (lv_at hl 0 rfl) ?_
    refine o_get (v := .int (Tx_total a0)) C in_Tx hP 1 cw_1 rfl 10 (by decide) k_1_56 rfl rfl d_Tx_parent_6 ?_
    refine lv_icmp_ge (tgt := 21) hx hb d_Tx_parent_9 (by decide) (fun c2 => ?_) (fun c2 => ?_)
    · replace h := o_tt c2 h
      refine lv_iconst (v := (-1:Int32)) hx hb d_Tx_parent_21 (by decide) ?_
      cases h
      exact o_ri (v := (-1:Int32)) C hP hS d_Tx_parent_22
    · replace h := o_ff c2 h
      refine lv_aload_n hx hb d_Tx_parent_12 rfl (lv_at hl 0 rfl) ?_
      refine o_get (v := .ref (ad 5)) C in_Tx hP 1 cw_1 rfl 3 (by decide) k_1_49 rfl rfl d_Tx_parent_13 ?_
      refine lv_iload_n hx hb d_Tx_parent_16 rfl (lv_at hl 1 rfl) ?_
      obtain ⟨g3, h⟩ := o_gd_some h
      refine o_iald (f := (Tx_parents a0)) C hP 5 3 cw_5 rfl g3 d_Tx_parent_17 ?_
      refine lv_goto (tgt := 22) hx hb d_Tx_parent_18 (by decide) ?_
      cases h
      exact o_ri (v := ((Tx_parents a0) x1.toNatClampNeg)) C hP hS d_Tx_parent_22
set_option maxHeartbeats 4000000 in
set_option maxRecDepth 100000 in
theorem w_Lk_anchored_b2 {E : (Nat → Prop) → State → Heap → Prop} {p : Program} {l : Launch} {e : Env} {s : State} {m : MethodId} {args : Array Value} {below : List Frame} {meth : Method} {c : Code} {D : va_G} {ad kd sd vd xd : Nat → Nat} {ca : Nat → ClassId} {A : Nat → Prop} {Q : State → Prop} (hE : o_EK E kd sd vd xd) (C : o_Cx E p s m args meth c D o_cls (o_tys ca) "SchemaJudge$Links" b_Lk_anchored (some .int) 2 cc_Lk_anchored A) (hDD : ∀ (rt : Nat) (Sj : SSJ) (T0 : STx) (T1 : STx) (Rd : SRd) (Pg : SPg) (Pt : SPt) (Mk : SMk) (Lk : SLk) (Ck : SCk) (Jd : SJd) (Ld : SLd) (Pr : SPr), va_D A (o_cw ad ca rt Sj T0 T1 Rd Pg Pt Mk Lk Ck Jd Ld Pr)) (n : Nat) (u2_T0 : STx) (u2_Mk : SMk) (u2_Lk : SLk) (u2_Sj : SSJ) (u2_T1 : STx) (u2_Rd : SRd) (u2_Pg : SPg) (u2_Pt : SPt) (u2_Ck : SCk) (u2_Jd : SJd) (u2_Ld : SLd) (u2_Pr : SPr) (u2_rt : Nat) (z : Int32) (q : Nat × Int32) (h : m_Lk_anchored_b2 n u2_T0 u2_Mk u2_Lk z = some q) (h0 : q.1 = 0 → o_At p l e rm_Lk_anchored s m args below meth c Q o_cls D A 2 2 [] (o_cw ad ca u2_rt u2_Sj u2_T0 u2_T1 u2_Rd u2_Pg u2_Pt u2_Mk u2_Lk u2_Ck u2_Jd u2_Ld u2_Pr) [(0, .ref (ad 43)), (1, .int q.2)]) (h1 : q.1 ≠ 0 → (if q.1 = 1 then o_At p l e rm_Lk_anchored s m args below meth c Q o_cls D A 2 40 [] (o_cw ad ca u2_rt u2_Sj u2_T0 u2_T1 u2_Rd u2_Pg u2_Pt u2_Mk u2_Lk u2_Ck u2_Jd u2_Ld u2_Pr) [(0, .ref (ad 43)), (1, .int q.2)] else o_At p l e rm_Lk_anchored s m args below meth c Q o_cls D A 2 55 [] (o_cw ad ca u2_rt u2_Sj u2_T0 u2_T1 u2_Rd u2_Pg u2_Pt u2_Mk u2_Lk u2_Ck u2_Jd u2_Ld u2_Pr) [])) : o_At p l e rm_Lk_anchored s m args below meth c Q o_cls D A 2 2 [] (o_cw ad ca u2_rt u2_Sj u2_T0 u2_T1 u2_Rd u2_Pg u2_Pt u2_Mk u2_Lk u2_Ck u2_Jd u2_Ld u2_Pr) [(0, .ref (ad 43)), (1, .int z)] := by
  unfold m_Lk_anchored_b2 at h
  intro H locs ls hP hS hl
  have C0 := C
  obtain ⟨hx, hb, -, -, -, hown, hts, hK, -, -⟩ := C0
  refine lv_iload_n hx hb d_Lk_anchored_2 rfl (lv_at hl 1 rfl) ?_
  refine lv_aload_n hx hb d_Lk_anchored_3 rfl (lv_at hl 0 rfl) ?_
  refine o_get (v := .ref (ad 1)) C in_Lk hP 43 cw_43 rfl 0 (by decide) k_1_231 rfl rfl d_Lk_anchored_4 ?_
  obtain ⟨q1, hq1, h⟩ := o_bd_some h
  refine o_V (st1 := [.int q1, .int z]) (w1 := (o_cw ad ca u2_rt u2_Sj u2_T0 u2_T1 u2_Rd u2_Pg u2_Pt u2_Mk u2_Lk u2_Ck u2_Jd u2_Ld u2_Pr)) hE.1 C (c_Tx_total_0 hE l u2_T0 u2_Sj u2_T1 u2_Rd u2_Pg u2_Pt u2_Mk u2_Lk u2_Ck u2_Jd u2_Ld u2_Pr u2_rt hq1) hP (hDD _ _ _ _ _ _ _ _ _ _ _ _ _) hS hl.1 rfl cw_1 k_5_192 k_4_6 k_4_7 k_1_2 k_4_8 hv_Tx_total rfl rfl ⟨(Nat.le_of_ble_eq_true rfl), (Nat.le_of_ble_eq_true rfl)⟩ rfl (Nat.le_of_ble_eq_true rfl) ⟨Nat.zero_le _, Nat.zero_le _⟩ rfl d_Lk_anchored_7 (fun H locs hP hS => ?_)
  refine lv_icmp_ge (tgt := 55) hx hb d_Lk_anchored_10 (by decide) (fun c1 => ?_) (fun c1 => ?_)
  · replace h := o_tt c1 h
    cases h
    exact h1 (Nat.succ_ne_zero 1) _ _ _ hP hS (lv_sub hl [] rfl)
  · replace h := o_ff c1 h
    refine lv_aload_n hx hb d_Lk_anchored_13 rfl (lv_at hl 0 rfl) ?_
    refine o_get (v := .ref (ad 39)) C in_Lk hP 43 cw_43 rfl 1 (by decide) k_1_232 rfl rfl d_Lk_anchored_14 ?_
    refine lv_iload_n hx hb d_Lk_anchored_17 rfl (lv_at hl 1 rfl) ?_
    obtain ⟨q2, hq2, h⟩ := o_bd_some h
    obtain ⟨g2, h⟩ := o_gd_some h
    refine o_V (st1 := [.ref (kd q2)]) (w1 := (o_cw ad ca u2_rt u2_Sj u2_T0 u2_T1 u2_Rd u2_Pg u2_Pt u2_Mk u2_Lk u2_Ck u2_Jd u2_Ld u2_Pr)) hE.1 C (c_Mk_keyword hE l z u2_Mk u2_Sj u2_T0 u2_T1 u2_Rd u2_Pg u2_Pt u2_Lk u2_Ck u2_Jd u2_Ld u2_Pr u2_rt hq2) hP (hDD _ _ _ _ _ _ _ _ _ _ _ _ _) hS hl.1 rfl cw_39 k_5_193 k_5_123 k_5_124 k_1_6 k_5_125 hv_Mk_keyword rfl rfl ⟨(Nat.le_of_ble_eq_true rfl), (Nat.le_of_ble_eq_true rfl)⟩ rfl (Nat.le_of_ble_eq_true rfl) ⟨Nat.zero_le _, Nat.zero_le _⟩ rfl d_Lk_anchored_18 (fun H locs hP hS => ?_)
    refine va_gets (v := .ref (kd 34)) hx hb ((hE.2.2.1 _ _ _ C.2.2.2.2.2.2.2.2.2).1 34 (by decide)).1 hS hown (hts _ k_5_194) (fun _ h9 => h9) d_Lk_anchored_21 ?_
    refine lv_acmp_ne (rx := some (kd q2)) (ry := some (kd 34)) (tgt := 49) hx hb d_Lk_anchored_24 (by decide) (fun c3 => ?_) (fun c3 => ?_)
    · replace h := o_ff (o_kn_ c3) h
      obtain ⟨x1_49, ex1_49⟩ : ∃ y : Int32, y = z + (1:Int32) := ⟨_, rfl⟩
      replace h := o_nm_at ex1_49 h
      refine lv_iinc (v := x1_49) (lv' := [(1, .int x1_49), (0, .ref (ad 43))]) hx hb d_Lk_anchored_49 hl (k := 1) rfl (by rw [ex1_49]; rfl) (by decide) rfl (fun ls hl => ?_)
      refine lv_goto (tgt := 2) hx hb d_Lk_anchored_52 (by decide) ?_
      cases h
      exact h0 rfl _ _ _ hP hS (lv_sub hl [1, 0] rfl)
    · replace h := o_tt (o_ki hE C g2 rfl c3) h
      refine lv_aload_n hx hb d_Lk_anchored_27 rfl (lv_at hl 0 rfl) ?_
      refine lv_iload_n hx hb d_Lk_anchored_28 rfl (lv_at hl 1 rfl) ?_
      refine lv_iconst (v := (1:Int32)) hx hb d_Lk_anchored_29 (by decide) ?_
      refine lv_aload_n hx hb d_Lk_anchored_30 rfl (lv_at hl 0 rfl) ?_
      refine o_get (v := .int (Lk_length u2_Lk)) C in_Lk hP 43 cw_43 rfl 3 (by decide) k_1_234 rfl rfl d_Lk_anchored_31 ?_
      obtain ⟨q3, hq3, h⟩ := o_bd_some h
      refine o_V (st1 := [.int q3]) (w1 := (o_cw ad ca u2_rt u2_Sj u2_T0 u2_T1 u2_Rd u2_Pg u2_Pt u2_Mk u2_Lk u2_Ck u2_Jd u2_Ld u2_Pr)) hE.1 C (c_Lk_isNamed hE l n z (1:Int32) (Lk_length u2_Lk) u2_T0 u2_Lk u2_Sj u2_T1 u2_Rd u2_Pg u2_Pt u2_Mk u2_Ck u2_Jd u2_Ld u2_Pr u2_rt hq3) hP (hDD _ _ _ _ _ _ _ _ _ _ _ _ _) hS hl.1 rfl cw_43 k_5_183 k_5_185 k_s_53 k_1_8 k_5_186 hv_Lk_isNamed rfl rfl ⟨(Nat.le_of_ble_eq_true rfl), (Nat.le_of_ble_eq_true rfl)⟩ rfl (Nat.le_of_ble_eq_true rfl) ⟨Nat.zero_le _, Nat.zero_le _⟩ rfl d_Lk_anchored_34 (fun H locs hP hS => ?_)
      refine lv_if_eq (tgt := 49) hx hb d_Lk_anchored_37 (by decide) (fun c4 => ?_) (fun c4 => ?_)
      · replace h := o_tt c4 h
        obtain ⟨x1_49, ex1_49⟩ : ∃ y : Int32, y = z + (1:Int32) := ⟨_, rfl⟩
        replace h := o_nm_at ex1_49 h
        refine lv_iinc (v := x1_49) (lv' := [(1, .int x1_49), (0, .ref (ad 43))]) hx hb d_Lk_anchored_49 hl (k := 1) rfl (by rw [ex1_49]; rfl) (by decide) rfl (fun ls hl => ?_)
        refine lv_goto (tgt := 2) hx hb d_Lk_anchored_52 (by decide) ?_
        cases h
        exact h0 rfl _ _ _ hP hS (lv_sub hl [1, 0] rfl)
      · replace h := o_ff c4 h
        cases h
        exact h1 (Nat.succ_ne_zero 0) _ _ _ hP hS (lv_sub hl [0, 1] rfl)
set_option maxHeartbeats 4000000 in
set_option maxRecDepth 100000 in
theorem c_Lk_anchored {E : (Nat → Prop) → State → Heap → Prop} {D : va_G} {ad kd sd vd xd : Nat → Nat} {ca : Nat → ClassId} (hE : o_EK E kd sd vd xd) (l : Launch) (n : Nat)  (T0 : STx) (Mk : SMk) (Lk : SLk) (Sj : SSJ) (T1 : STx) (Rd : SRd) (Pg : SPg) (Pt : SPt) (Ck : SCk) (Jd : SJd) (Ld : SLd) (Pr : SPr) (rt : Nat) {r : Int32} (h : m_Lk_anchored n T0 Mk Lk = some r) : o_Cn E l D o_cls (o_tys ca) y_Lk_anchored cc_Lk_anchored rm_Lk_anchored [.ref (ad 43)] (o_cw ad ca rt Sj T0 T1 Rd Pg Pt Mk Lk Ck Jd Ld Pr) (o_cw ad ca rt Sj T0 T1 Rd Pg Pt Mk Lk Ck Jd Ld Pr) (some (.int r)) := by
  refine o_Cn_of (by decide) (Nat.le_of_ble_eq_true rfl) ?_
  intro p e s m below meth c A ls C hD hP hS hl
  have hDD : ∀ (rt : Nat) (Sj : SSJ) (T0 : STx) (T1 : STx) (Rd : SRd) (Pg : SPg) (Pt : SPt) (Mk : SMk) (Lk : SLk) (Ck : SCk) (Jd : SJd) (Ld : SLd) (Pr : SPr), va_D A (o_cw ad ca rt Sj T0 T1 Rd Pg Pt Mk Lk Ck Jd Ld Pr) := fun _ _ _ _ _ _ _ _ _ _ _ _ _ => o_D_map hD rfl
  have hl : lv_has ls 2 [(0, .ref (ad 43))] := hl
  unfold m_Lk_anchored at h
  have C0 := C
  obtain ⟨hx, hb, -, -, -, hown, hts, hK, -, -⟩ := C0
  refine lv_iconst (v := (0:Int32)) hx hb d_Lk_anchored_0 (by decide) ?_
  refine lv_istore_n (lv' := [(1, .int (0:Int32)), (0, .ref (ad 43))]) hx hb d_Lk_anchored_1 rfl hl (by decide) rfl (fun ls hl => ?_)
  obtain ⟨q4, hq4, h⟩ := o_bd_some h
  refine o_sim2 (AH := fun zz => o_At p l e rm_Lk_anchored s m _ below meth c _ o_cls D A 2 2 [] (o_cw ad ca rt Sj T0 T1 Rd Pg Pt Mk Lk Ck Jd Ld Pr) [(0, .ref (ad 43)), (1, .int zz)]) (AX := fun qq => if qq.1 = 1 then o_At p l e rm_Lk_anchored s m _ below meth c _ o_cls D A 2 40 [] (o_cw ad ca rt Sj T0 T1 Rd Pg Pt Mk Lk Ck Jd Ld Pr) [(0, .ref (ad 43)), (1, .int qq.2)] else o_At p l e rm_Lk_anchored s m _ below meth c _ o_cls D A 2 55 [] (o_cw ad ca rt Sj T0 T1 Rd Pg Pt Mk Lk Ck Jd Ld Pr) []) (fun zz qq h h0 h1 => w_Lk_anchored_b2 hE C hDD n T0 Mk Lk Sj T1 Rd Pg Pt Ck Jd Ld Pr rt zz qq h h0 h1) n _ q4 hq4 ?_ _ _ _ hP hS (lv_sub hl [1, 0] rfl)
  by_cases c5 : q4.1 = 1
  · replace h := o_tt c5 h
    refine o_ip c5 ?_
    intro H locs ls hP hS hl
    refine lv_aload_n hx hb d_Lk_anchored_40 rfl (lv_at hl 0 rfl) ?_
    refine o_get (v := .ref (ad 1)) C in_Lk hP 43 cw_43 rfl 0 (by decide) k_1_231 rfl rfl d_Lk_anchored_41 ?_
    refine lv_iload_n hx hb d_Lk_anchored_44 rfl (lv_at hl 1 rfl) ?_
    obtain ⟨q5, hq5, h⟩ := o_bd_some h
    refine o_V (st1 := [.int q5]) (w1 := (o_cw ad ca rt Sj T0 T1 Rd Pg Pt Mk Lk Ck Jd Ld Pr)) hE.1 C (c_Tx_parent_0 hE l q4.2 T0 Sj T1 Rd Pg Pt Mk Lk Ck Jd Ld Pr rt hq5) hP (hDD _ _ _ _ _ _ _ _ _ _ _ _ _) hS hl.1 rfl cw_1 k_5_195 k_5_196 k_5_197 k_1_2 k_5_198 hv_Tx_parent rfl rfl ⟨(Nat.le_of_ble_eq_true rfl), (Nat.le_of_ble_eq_true rfl)⟩ rfl (Nat.le_of_ble_eq_true rfl) ⟨Nat.zero_le _, Nat.zero_le _⟩ rfl d_Lk_anchored_45 (fun H locs hP hS => ?_)
    cases h
    exact o_ri C hP hS d_Lk_anchored_48
  replace h := o_ff c5 h
  refine o_in_ c5 ?_
  intro H locs ls hP hS hl
  refine lv_iconst (v := (-1:Int32)) hx hb d_Lk_anchored_55 (by decide) ?_
  cases h
  exact o_ri (v := (-1:Int32)) C hP hS d_Lk_anchored_56
set_option maxHeartbeats 4000000 in
set_option maxRecDepth 100000 in
theorem w_Lk_resolve_j60 {E : (Nat → Prop) → State → Heap → Prop} {p : Program} {l : Launch} {e : Env} {s : State} {m : MethodId} {args : Array Value} {below : List Frame} {meth : Method} {c : Code} {D : va_G} {ad kd sd vd xd : Nat → Nat} {ca : Nat → ClassId} {A : Nat → Prop} (hE : o_EK E kd sd vd xd) (C : o_Cx E p s m args meth c D o_cls (o_tys ca) "SchemaJudge$Links" b_Lk_resolve (some .int) 3 cc_Lk_resolve A) (hDD : ∀ (rt : Nat) (Sj : SSJ) (T0 : STx) (T1 : STx) (Rd : SRd) (Pg : SPg) (Pt : SPt) (Mk : SMk) (Lk : SLk) (Ck : SCk) (Jd : SJd) (Ld : SLd) (Pr : SPr), va_D A (o_cw ad ca rt Sj T0 T1 Rd Pg Pt Mk Lk Ck Jd Ld Pr)) (n : Nat) (y0 : Int32) (T0 : STx) (Mk : SMk) (Lk : SLk) (Sj : SSJ) (T1 : STx) (Rd : SRd) (Pg : SPg) (Pt : SPt) (Ck : SCk) (Jd : SJd) (Ld : SLd) (Pr : SPr) (rt : Nat) {r : Int32 × SLk} (h : m_Lk_resolve_j60 n y0 T0 Mk Lk = some r) : o_At p l e rm_Lk_resolve s m args below meth c (MQ below (o_Qx D o_cls (some (.int r.1)) (o_cw ad ca rt Sj T0 T1 Rd Pg Pt Mk r.2 Ck Jd Ld Pr) A) args s 0 0 A) o_cls D A 3 60 [.int y0] (o_cw ad ca rt Sj T0 T1 Rd Pg Pt Mk Lk Ck Jd Ld Pr) [(0, .ref (ad 43))] := by
  unfold m_Lk_resolve_j60 at h
  intro H locs ls hP hS hl
  have C0 := C
  obtain ⟨hx, hb, -, -, -, hown, hts, hK, -, -⟩ := C0
  refine lv_istore_n (lv' := [(2, .int y0), (0, .ref (ad 43))]) hx hb d_Lk_resolve_60 rfl hl (by decide) rfl (fun ls hl => ?_)
  refine lv_aload_n hx hb d_Lk_resolve_61 rfl (lv_at hl 1 rfl) ?_
  refine o_get (v := .ref (ad 39)) C in_Lk hP 43 cw_43 rfl 1 (by decide) k_1_232 rfl rfl d_Lk_resolve_62 ?_
  refine lv_iload_n hx hb d_Lk_resolve_65 rfl (lv_at hl 0 rfl) ?_
  obtain ⟨q3, hq3, h⟩ := o_bd_some h
  refine o_V (st1 := [.int q3]) (w1 := (o_cw ad ca rt Sj T0 T1 Rd Pg Pt Mk Lk Ck Jd Ld Pr)) hE.1 C (c_Mk_isSchema hE l y0 Mk Sj T0 T1 Rd Pg Pt Lk Ck Jd Ld Pr rt hq3) hP (hDD _ _ _ _ _ _ _ _ _ _ _ _ _) hS hl.1 rfl cw_39 k_5_199 k_4_63 k_4_64 k_1_6 k_4_65 hv_Mk_isSchema rfl rfl ⟨(Nat.le_of_ble_eq_true rfl), (Nat.le_of_ble_eq_true rfl)⟩ rfl (Nat.le_of_ble_eq_true rfl) ⟨Nat.zero_le _, Nat.zero_le _⟩ rfl d_Lk_resolve_66 (fun H locs hP hS => ?_)
  refine lv_if_eq (tgt := 76) hx hb d_Lk_resolve_69 (by decide) (fun c8 => ?_) (fun c8 => ?_)
  · replace h := o_tt c8 h
    refine lv_iconst (v := (-1:Int32)) hx hb d_Lk_resolve_76 (by decide) ?_
    cases h
    exact o_ri (v := (-1:Int32)) C hP hS d_Lk_resolve_77
  · replace h := o_ff c8 h
    refine lv_iload_n hx hb d_Lk_resolve_72 rfl (lv_at hl 0 rfl) ?_
    refine lv_goto (tgt := 77) hx hb d_Lk_resolve_73 (by decide) ?_
    cases h
    exact o_ri C hP hS d_Lk_resolve_77
set_option maxHeartbeats 4000000 in
set_option maxRecDepth 100000 in
theorem c_Lk_resolve {E : (Nat → Prop) → State → Heap → Prop} {D : va_G} {ad kd sd vd xd : Nat → Nat} {ca : Nat → ClassId} (hE : o_EK E kd sd vd xd) (l : Launch) (n : Nat) (x1 : Int32) (T0 : STx) (Mk : SMk) (Lk : SLk) (Sj : SSJ) (T1 : STx) (Rd : SRd) (Pg : SPg) (Pt : SPt) (Ck : SCk) (Jd : SJd) (Ld : SLd) (Pr : SPr) (rt : Nat) {r : Int32 × SLk} (h : m_Lk_resolve n x1 T0 Mk Lk = some r) : o_Cn E l D o_cls (o_tys ca) y_Lk_resolve cc_Lk_resolve rm_Lk_resolve [.ref (ad 43), .int x1] (o_cw ad ca rt Sj T0 T1 Rd Pg Pt Mk Lk Ck Jd Ld Pr) (o_cw ad ca rt Sj T0 T1 Rd Pg Pt Mk r.2 Ck Jd Ld Pr) (some (.int r.1)) := by
  refine o_Cn_of (by decide) (Nat.le_of_ble_eq_true rfl) ?_
  intro p e s m below meth c A ls C hD hP hS hl
  have hDD : ∀ (rt : Nat) (Sj : SSJ) (T0 : STx) (T1 : STx) (Rd : SRd) (Pg : SPg) (Pt : SPt) (Mk : SMk) (Lk : SLk) (Ck : SCk) (Jd : SJd) (Ld : SLd) (Pr : SPr), va_D A (o_cw ad ca rt Sj T0 T1 Rd Pg Pt Mk Lk Ck Jd Ld Pr) := fun _ _ _ _ _ _ _ _ _ _ _ _ _ => o_D_map hD rfl
  have hl : lv_has ls 3 [(0, .ref (ad 43)), (1, .int x1)] := hl
  unfold m_Lk_resolve at h
  have C0 := C
  obtain ⟨hx, hb, -, -, -, hown, hts, hK, -, -⟩ := C0
  refine lv_aload_n hx hb d_Lk_resolve_0 rfl (lv_at hl 0 rfl) ?_
  refine lv_iload_n hx hb d_Lk_resolve_1 rfl (lv_at hl 1 rfl) ?_
  obtain ⟨q1, hq1, h⟩ := o_bd_some h
  refine o_V (st1 := [.int q1.1]) (w1 := (o_cw ad ca rt Sj T0 T1 Rd Pg Pt Mk q1.2 Ck Jd Ld Pr)) hE.1 C (c_Lk_decode hE l n x1 T0 Lk Sj T1 Rd Pg Pt Mk Ck Jd Ld Pr rt hq1) hP (hDD _ _ _ _ _ _ _ _ _ _ _ _ _) hS hl.1 rfl cw_43 k_5_145 k_5_147 k_s_47 k_1_8 k_5_148 hv_Lk_decode rfl rfl ⟨(Nat.le_of_ble_eq_true rfl), (Nat.le_of_ble_eq_true rfl)⟩ rfl (Nat.le_of_ble_eq_true rfl) ⟨Nat.zero_le _, Nat.zero_le _⟩ rfl d_Lk_resolve_2 (fun H locs hP hS => ?_)
  refine lv_if_eq (tgt := 26) hx hb d_Lk_resolve_5 (by decide) (fun c1 => ?_) (fun c1 => ?_)
  · replace h := o_tt c1 h
    refine lv_iconst (v := (-1:Int32)) hx hb d_Lk_resolve_26 (by decide) ?_
    cases h
    exact o_ri (v := (-1:Int32)) C hP hS d_Lk_resolve_27
  · replace h := o_ff c1 h
    refine lv_aload_n hx hb d_Lk_resolve_8 rfl (lv_at hl 0 rfl) ?_
    refine o_get (v := .int (Lk_length q1.2)) C in_Lk hP 43 cw_43 rfl 3 (by decide) k_1_234 rfl rfl d_Lk_resolve_9 ?_
    refine lv_if_eq (tgt := 26) hx hb d_Lk_resolve_12 (by decide) (fun c2 => ?_) (fun c2 => ?_)
    · replace h := o_tt c2 h
      refine lv_iconst (v := (-1:Int32)) hx hb d_Lk_resolve_26 (by decide) ?_
      cases h
      exact o_ri (v := (-1:Int32)) C hP hS d_Lk_resolve_27
    · replace h := o_ff c2 h
      refine lv_aload_n hx hb d_Lk_resolve_15 rfl (lv_at hl 0 rfl) ?_
      refine o_get (v := .ref (ad 44)) C in_Lk hP 43 cw_43 rfl 2 (by decide) k_1_233 rfl rfl d_Lk_resolve_16 ?_
      refine lv_iconst (v := (0:Int32)) hx hb d_Lk_resolve_19 (by decide) ?_
      obtain ⟨g3, h⟩ := o_gd_some h
      refine o_iald (f := (Lk_characters q1.2)) C hP 44 36 cw_44 rfl g3 d_Lk_resolve_20 ?_
      refine lv_bipush (v := (35:Int32)) hx hb d_Lk_resolve_21 (by decide) ?_
      refine lv_icmp_eq (tgt := 28) hx hb d_Lk_resolve_23 (by decide) (fun c4 => ?_) (fun c4 => ?_)
      · replace h := o_tt c4 h
        refine lv_aload_n hx hb d_Lk_resolve_28 rfl (lv_at hl 0 rfl) ?_
        refine o_get (v := .int (Lk_length q1.2)) C in_Lk hP 43 cw_43 rfl 3 (by decide) k_1_234 rfl rfl d_Lk_resolve_29 ?_
        refine lv_iconst (v := (1:Int32)) hx hb d_Lk_resolve_32 (by decide) ?_
        refine lv_icmp_ne (tgt := 38) hx hb d_Lk_resolve_33 (by decide) (fun c5 => ?_) (fun c5 => ?_)
        · replace h := o_ff c5 h
          refine lv_aload_n hx hb d_Lk_resolve_38 rfl (lv_at hl 0 rfl) ?_
          refine o_get (v := .ref (ad 44)) C in_Lk hP 43 cw_43 rfl 2 (by decide) k_1_233 rfl rfl d_Lk_resolve_39 ?_
          refine lv_iconst (v := (1:Int32)) hx hb d_Lk_resolve_42 (by decide) ?_
          obtain ⟨g6, h⟩ := o_gd_some h
          refine o_iald (f := (Lk_characters q1.2)) C hP 44 36 cw_44 rfl g6 d_Lk_resolve_43 ?_
          refine lv_bipush (v := (47:Int32)) hx hb d_Lk_resolve_44 (by decide) ?_
          refine lv_icmp_ne (tgt := 56) hx hb d_Lk_resolve_46 (by decide) (fun c7 => ?_) (fun c7 => ?_)
          · replace h := o_ff c7 h
            refine lv_aload_n hx hb d_Lk_resolve_56 rfl (lv_at hl 0 rfl) ?_
            obtain ⟨q2, hq2, h⟩ := o_bd_some h
            refine o_V (st1 := [.int q2]) (w1 := (o_cw ad ca rt Sj T0 T1 Rd Pg Pt Mk q1.2 Ck Jd Ld Pr)) hE.1 C (c_Lk_anchored hE l n T0 Mk q1.2 Sj T1 Rd Pg Pt Ck Jd Ld Pr rt hq2) hP (hDD _ _ _ _ _ _ _ _ _ _ _ _ _) hS hl.1 rfl cw_43 k_5_188 k_5_190 k_s_54 k_1_8 k_5_191 hv_Lk_anchored rfl rfl ⟨(Nat.le_of_ble_eq_true rfl), (Nat.le_of_ble_eq_true rfl)⟩ rfl (Nat.le_of_ble_eq_true rfl) ⟨Nat.zero_le _, Nat.zero_le _⟩ rfl d_Lk_resolve_57 (fun H locs hP hS => ?_)
            exact w_Lk_resolve_j60 hE C hDD n q2 T0 Mk q1.2 Sj T1 Rd Pg Pt Ck Jd Ld Pr rt h _ _ _ hP hS (lv_sub hl [0] rfl)
          · replace h := o_tt c7 h
            refine lv_aload_n hx hb d_Lk_resolve_49 rfl (lv_at hl 0 rfl) ?_
            obtain ⟨q4, hq4, h⟩ := o_bd_some h
            refine o_V (st1 := [.int q4]) (w1 := (o_cw ad ca rt Sj T0 T1 Rd Pg Pt Mk q1.2 Ck Jd Ld Pr)) hE.1 C (c_Lk_walk hE l n T0 q1.2 Sj T1 Rd Pg Pt Mk Ck Jd Ld Pr rt hq4) hP (hDD _ _ _ _ _ _ _ _ _ _ _ _ _) hS hl.1 rfl cw_43 k_5_164 k_5_166 k_s_50 k_1_8 k_5_167 hv_Lk_walk rfl rfl ⟨(Nat.le_of_ble_eq_true rfl), (Nat.le_of_ble_eq_true rfl)⟩ rfl (Nat.le_of_ble_eq_true rfl) ⟨Nat.zero_le _, Nat.zero_le _⟩ rfl d_Lk_resolve_50 (fun H locs hP hS => ?_)
            refine lv_goto (tgt := 60) hx hb d_Lk_resolve_53 (by decide) ?_
            exact w_Lk_resolve_j60 hE C hDD n q4 T0 Mk q1.2 Sj T1 Rd Pg Pt Ck Jd Ld Pr rt h _ _ _ hP hS (lv_sub hl [0] rfl)
        · replace h := o_tt c5 h
          refine lv_iconst (v := (0:Int32)) hx hb d_Lk_resolve_36 (by decide) ?_
          cases h
          exact o_ri (v := (0:Int32)) C hP hS d_Lk_resolve_37
      · replace h := o_ff c4 h
        refine lv_iconst (v := (-1:Int32)) hx hb d_Lk_resolve_26 (by decide) ?_
        cases h
        exact o_ri (v := (-1:Int32)) C hP hS d_Lk_resolve_27
set_option maxHeartbeats 4000000 in
set_option maxRecDepth 100000 in
theorem c_Mk_setTarget {E : (Nat → Prop) → State → Heap → Prop} {D : va_G} {ad kd sd vd xd : Nat → Nat} {ca : Nat → ClassId} (hE : o_EK E kd sd vd xd) (l : Launch) (x1 : Int32) (x2 : Int32) (Mk : SMk) (Sj : SSJ) (T0 : STx) (T1 : STx) (Rd : SRd) (Pg : SPg) (Pt : SPt) (Lk : SLk) (Ck : SCk) (Jd : SJd) (Ld : SLd) (Pr : SPr) (rt : Nat) {r : SMk} (h : m_Mk_setTarget x1 x2 Mk = some r) : o_Cn E l D o_cls (o_tys ca) y_Mk_setTarget cc_Mk_setTarget rm_Mk_setTarget [.ref (ad 39), .int x1, .int x2] (o_cw ad ca rt Sj T0 T1 Rd Pg Pt Mk Lk Ck Jd Ld Pr) (o_cw ad ca rt Sj T0 T1 Rd Pg Pt r Lk Ck Jd Ld Pr) none := by
  refine o_Cn_of (by decide) (Nat.le_of_ble_eq_true rfl) ?_
  intro p e s m below meth c A ls C hD hP hS hl
  have hDD : ∀ (rt : Nat) (Sj : SSJ) (T0 : STx) (T1 : STx) (Rd : SRd) (Pg : SPg) (Pt : SPt) (Mk : SMk) (Lk : SLk) (Ck : SCk) (Jd : SJd) (Ld : SLd) (Pr : SPr), va_D A (o_cw ad ca rt Sj T0 T1 Rd Pg Pt Mk Lk Ck Jd Ld Pr) := fun _ _ _ _ _ _ _ _ _ _ _ _ _ => o_D_map hD rfl
  have hl : lv_has ls 3 [(0, .ref (ad 39)), (1, .int x1), (2, .int x2)] := hl
  unfold m_Mk_setTarget at h
  have C0 := C
  obtain ⟨hx, hb, -, -, -, hown, hts, hK, -, -⟩ := C0
  refine lv_iload_n hx hb d_Mk_setTarget_0 rfl (lv_at hl 1 rfl) ?_
  refine lv_if_lt (tgt := 18) hx hb d_Mk_setTarget_1 (by decide) (fun c1 => ?_) (fun c1 => ?_)
  · replace h := o_tt c1 h
    cases h
    exact o_rv C hP hS d_Mk_setTarget_18
  · replace h := o_ff c1 h
    refine lv_iload_n hx hb d_Mk_setTarget_4 rfl (lv_at hl 1 rfl) ?_
    refine lv_sipush (v := (1000:Int32)) hx hb d_Mk_setTarget_5 (by decide) ?_
    refine lv_icmp_ge (tgt := 18) hx hb d_Mk_setTarget_8 (by decide) (fun c2 => ?_) (fun c2 => ?_)
    · replace h := o_tt c2 h
      cases h
      exact o_rv C hP hS d_Mk_setTarget_18
    · replace h := o_ff c2 h
      refine lv_aload_n hx hb d_Mk_setTarget_11 rfl (lv_at hl 0 rfl) ?_
      refine o_get (v := .ref (ad 42)) C in_Mk hP 39 cw_39 rfl 3 (by decide) k_1_209 rfl rfl d_Mk_setTarget_12 ?_
      refine lv_iload_n hx hb d_Mk_setTarget_15 rfl (lv_at hl 1 rfl) ?_
      refine lv_iload_n hx hb d_Mk_setTarget_16 rfl (lv_at hl 2 rfl) ?_
      obtain ⟨g3, h⟩ := o_gd_some h
      refine o_iast (f := (Mk_targets Mk)) (w1 := (o_cw ad ca rt Sj T0 T1 Rd Pg Pt (Mk_mk (Mk_keywords Mk) (Mk_schemas Mk) (upd (Mk_targets Mk) x1.toNatClampNeg x2)) Lk Ck Jd Ld Pr)) C hP (hDD _ _ _ _ _ _ _ _ _ _ _ _ _) hS 42 35 cw_42 rfl g3 rfl d_Mk_setTarget_17 (fun H locs hP hS => ?_)
      cases h
      exact o_rv C hP hS d_Mk_setTarget_18
set_option maxHeartbeats 4000000 in
set_option maxRecDepth 100000 in
theorem w_JA_fill_b5_r {E : (Nat → Prop) → State → Heap → Prop} {p : Program} {l : Launch} {e : Env} {s : State} {m : MethodId} {args : Array Value} {below : List Frame} {meth : Method} {c : Code} {D : va_G} {ad kd sd vd xd : Nat → Nat} {ca : Nat → ClassId} {A : Nat → Prop} {Q : State → Prop} (hE : o_EK E kd sd vd xd) (C : o_Cx E p s m args meth c D o_cls (o_tys ca) "java/util/Arrays" b_JA_fill none 4 cc_JA_fill A) (hDD : ∀ (rt : Nat) (Sj : SSJ) (T0 : STx) (T1 : STx) (Rd : SRd) (Pg : SPg) (Pt : SPt) (Mk : SMk) (Lk : SLk) (Ck : SCk) (Jd : SJd) (Ld : SLd) (Pr : SPr), va_D A (o_cw ad ca rt Sj T0 T1 Rd Pg Pt Mk Lk Ck Jd Ld Pr)) (n : Nat) (u5_x1 : Int32) (u5_x3 : Int32) (u5_Sj : SSJ) (u5_T0 : STx) (u5_T1 : STx) (u5_Rd : SRd) (u5_Pg : SPg) (u5_Pt : SPt) (u5_Mk : SMk) (u5_Lk : SLk) (u5_Ck : SCk) (u5_Jd : SJd) (u5_Ld : SLd) (u5_Pr : SPr) (u5_rt : Nat) (z : Int32 × (Nat → Int32)) (q : Nat × Int32 × (Nat → Int32)) (h : m_JA_fill_b5 n u5_x1 u5_x3 z = some q) (h0 : q.1 = 0 → o_At p l e rm_JA_fill s m args below meth c Q o_cls D A 4 5 [] (o_cw ad ca u5_rt u5_Sj u5_T0 u5_T1 u5_Rd u5_Pg u5_Pt u5_Mk u5_Lk (Ck_mk (Ck_aimedAt u5_Ck) (Ck_reached u5_Ck) q.2.2 (Ck_reachedCount u5_Ck) (Ck_found u5_Ck) (Ck_foundAt u5_Ck)) u5_Jd u5_Ld u5_Pr) [(0, .ref (ad 48)), (1, .int u5_x1), (2, .int q.2.1), (3, .int u5_x3)]) (h1 : q.1 ≠ 0 → (o_At p l e rm_JA_fill s m args below meth c Q o_cls D A 4 20 [] (o_cw ad ca u5_rt u5_Sj u5_T0 u5_T1 u5_Rd u5_Pg u5_Pt u5_Mk u5_Lk (Ck_mk (Ck_aimedAt u5_Ck) (Ck_reached u5_Ck) q.2.2 (Ck_reachedCount u5_Ck) (Ck_found u5_Ck) (Ck_foundAt u5_Ck)) u5_Jd u5_Ld u5_Pr) [])) : o_At p l e rm_JA_fill s m args below meth c Q o_cls D A 4 5 [] (o_cw ad ca u5_rt u5_Sj u5_T0 u5_T1 u5_Rd u5_Pg u5_Pt u5_Mk u5_Lk (Ck_mk (Ck_aimedAt u5_Ck) (Ck_reached u5_Ck) z.2 (Ck_reachedCount u5_Ck) (Ck_found u5_Ck) (Ck_foundAt u5_Ck)) u5_Jd u5_Ld u5_Pr) [(0, .ref (ad 48)), (1, .int u5_x1), (2, .int z.1), (3, .int u5_x3)] := by
  unfold m_JA_fill_b5 at h
  intro H locs ls hP hS hl
  have C0 := C
  obtain ⟨hx, hb, -, -, -, hown, hts, hK, -, -⟩ := C0
  refine lv_iload_n hx hb d_JA_fill_5 rfl (lv_at hl 2 rfl) ?_
  refine lv_iload_n hx hb d_JA_fill_6 rfl (lv_at hl 3 rfl) ?_
  refine lv_icmp_ge (tgt := 20) hx hb d_JA_fill_7 (by decide) (fun c1 => ?_) (fun c1 => ?_)
  · replace h := o_tt c1 h
    cases h
    exact h1 (Nat.succ_ne_zero 0) _ _ _ hP hS (lv_sub hl [] rfl)
  · replace h := o_ff c1 h
    refine lv_aload_n hx hb d_JA_fill_10 rfl (lv_at hl 0 rfl) ?_
    refine lv_iload_n hx hb d_JA_fill_11 rfl (lv_at hl 2 rfl) ?_
    refine lv_iload_n hx hb d_JA_fill_12 rfl (lv_at hl 1 rfl) ?_
    obtain ⟨g2, h⟩ := o_gd_some h
    refine o_iast (f := z.2) (w1 := (o_cw ad ca u5_rt u5_Sj u5_T0 u5_T1 u5_Rd u5_Pg u5_Pt u5_Mk u5_Lk (Ck_mk (Ck_aimedAt u5_Ck) (Ck_reached u5_Ck) (upd z.2 z.1.toNatClampNeg u5_x1) (Ck_reachedCount u5_Ck) (Ck_found u5_Ck) (Ck_foundAt u5_Ck)) u5_Jd u5_Ld u5_Pr)) C hP (hDD _ _ _ _ _ _ _ _ _ _ _ _ _) hS 48 39 cw_48 rfl g2 rfl d_JA_fill_13 (fun H locs hP hS => ?_)
    obtain ⟨x2_14, ex2_14⟩ : ∃ y : Int32, y = z.1 + (1:Int32) := ⟨_, rfl⟩
    replace h := o_nm_at ex2_14 h
    refine lv_iinc (v := x2_14) (lv' := [(2, .int x2_14), (0, .ref (ad 48)), (1, .int u5_x1), (3, .int u5_x3)]) hx hb d_JA_fill_14 hl (k := 2) rfl (by rw [ex2_14]; rfl) (by decide) rfl (fun ls hl => ?_)
    refine lv_goto (tgt := 5) hx hb d_JA_fill_17 (by decide) ?_
    cases h
    exact h0 rfl _ _ _ hP hS (lv_sub hl [1, 2, 0, 3] rfl)
set_option maxHeartbeats 4000000 in
set_option maxRecDepth 100000 in
theorem c_JA_fill_r {E : (Nat → Prop) → State → Heap → Prop} {D : va_G} {ad kd sd vd xd : Nat → Nat} {ca : Nat → ClassId} (hE : o_EK E kd sd vd xd) (l : Launch) (n : Nat) (x1 : Int32) (r0 : (Nat → Int32)) (Sj : SSJ) (T0 : STx) (T1 : STx) (Rd : SRd) (Pg : SPg) (Pt : SPt) (Mk : SMk) (Lk : SLk) (Ck : SCk) (Jd : SJd) (Ld : SLd) (Pr : SPr) (rt : Nat) {r : (Nat → Int32)} (h : m_JA_fill n x1 r0 = some r) : o_Cn E l D o_cls (o_tys ca) y_JA_fill cc_JA_fill rm_JA_fill [.ref (ad 48), .int x1] (o_cw ad ca rt Sj T0 T1 Rd Pg Pt Mk Lk (Ck_mk (Ck_aimedAt Ck) (Ck_reached Ck) r0 (Ck_reachedCount Ck) (Ck_found Ck) (Ck_foundAt Ck)) Jd Ld Pr) (o_cw ad ca rt Sj T0 T1 Rd Pg Pt Mk Lk (Ck_mk (Ck_aimedAt Ck) (Ck_reached Ck) r (Ck_reachedCount Ck) (Ck_found Ck) (Ck_foundAt Ck)) Jd Ld Pr) none := by
  refine o_Cn_of (by decide) (Nat.le_of_ble_eq_true rfl) ?_
  intro p e s m below meth c A ls C hD hP hS hl
  have hDD : ∀ (rt : Nat) (Sj : SSJ) (T0 : STx) (T1 : STx) (Rd : SRd) (Pg : SPg) (Pt : SPt) (Mk : SMk) (Lk : SLk) (Ck : SCk) (Jd : SJd) (Ld : SLd) (Pr : SPr), va_D A (o_cw ad ca rt Sj T0 T1 Rd Pg Pt Mk Lk Ck Jd Ld Pr) := fun _ _ _ _ _ _ _ _ _ _ _ _ _ => o_D_map hD rfl
  have hl : lv_has ls 4 [(0, .ref (ad 48)), (1, .int x1)] := hl
  unfold m_JA_fill at h
  have C0 := C
  obtain ⟨hx, hb, -, -, -, hown, hts, hK, -, -⟩ := C0
  refine lv_iconst (v := (0:Int32)) hx hb d_JA_fill_0 (by decide) ?_
  refine lv_istore_n (lv' := [(2, .int (0:Int32)), (0, .ref (ad 48)), (1, .int x1)]) hx hb d_JA_fill_1 rfl hl (by decide) rfl (fun ls hl => ?_)
  refine lv_aload_n hx hb d_JA_fill_2 rfl (lv_at hl 1 rfl) ?_
  refine va_alen (v := (1000:Int32)) hx hb hK hP 48 39 cw_48 rfl rfl d_JA_fill_3 ?_
  refine lv_istore_n (lv' := [(3, .int (1000:Int32)), (2, .int (0:Int32)), (0, .ref (ad 48)), (1, .int x1)]) hx hb d_JA_fill_4 rfl hl (by decide) rfl (fun ls hl => ?_)
  obtain ⟨q1, hq1, h⟩ := o_bd_some h
  refine o_sim2 (AH := fun zz => o_At p l e rm_JA_fill s m _ below meth c _ o_cls D A 4 5 [] (o_cw ad ca rt Sj T0 T1 Rd Pg Pt Mk Lk (Ck_mk (Ck_aimedAt Ck) (Ck_reached Ck) zz.2 (Ck_reachedCount Ck) (Ck_found Ck) (Ck_foundAt Ck)) Jd Ld Pr) [(0, .ref (ad 48)), (1, .int x1), (2, .int zz.1), (3, .int (1000:Int32))]) (AX := fun qq => o_At p l e rm_JA_fill s m _ below meth c _ o_cls D A 4 20 [] (o_cw ad ca rt Sj T0 T1 Rd Pg Pt Mk Lk (Ck_mk (Ck_aimedAt Ck) (Ck_reached Ck) qq.2.2 (Ck_reachedCount Ck) (Ck_found Ck) (Ck_foundAt Ck)) Jd Ld Pr) []) (fun zz qq h h0 h1 => w_JA_fill_b5_r hE C hDD n x1 (1000:Int32) Sj T0 T1 Rd Pg Pt Mk Lk Ck Jd Ld Pr rt zz qq h h0 h1) n _ q1 hq1 ?_ _ _ _ hP hS (lv_sub hl [2, 3, 1, 0] rfl)
  intro H locs ls hP hS hl
  cases h
  exact o_rv C hP hS d_JA_fill_20
set_option maxHeartbeats 4000000 in
set_option maxRecDepth 100000 in
theorem w_Ck_followReferences_b10 {E : (Nat → Prop) → State → Heap → Prop} {p : Program} {l : Launch} {e : Env} {s : State} {m : MethodId} {args : Array Value} {below : List Frame} {meth : Method} {c : Code} {D : va_G} {ad kd sd vd xd : Nat → Nat} {ca : Nat → ClassId} {A : Nat → Prop} {Q : State → Prop} (hE : o_EK E kd sd vd xd) (C : o_Cx E p s m args meth c D o_cls (o_tys ca) "SchemaJudge$Checker" b_Ck_followReferences none 3 cc_Ck_followReferences A) (hDD : ∀ (rt : Nat) (Sj : SSJ) (T0 : STx) (T1 : STx) (Rd : SRd) (Pg : SPg) (Pt : SPt) (Mk : SMk) (Lk : SLk) (Ck : SCk) (Jd : SJd) (Ld : SLd) (Pr : SPr), va_D A (o_cw ad ca rt Sj T0 T1 Rd Pg Pt Mk Lk Ck Jd Ld Pr)) (n : Nat) (u10_T0 : STx) (u10_Mk : SMk) (u10_Lk : SLk) (u10_Sj : SSJ) (u10_T1 : STx) (u10_Rd : SRd) (u10_Pg : SPg) (u10_Pt : SPt) (u10_Jd : SJd) (u10_Ld : SLd) (u10_Pr : SPr) (u10_rt : Nat) (z : Int32 × SCk) (q : Nat × Int32 × SCk) (h : m_Ck_followReferences_b10 n u10_T0 u10_Mk u10_Lk z = some q) (h0 : q.1 = 0 → o_At p l e rm_Ck_followReferences s m args below meth c Q o_cls D A 3 10 [] (o_cw ad ca u10_rt u10_Sj u10_T0 u10_T1 u10_Rd u10_Pg u10_Pt u10_Mk u10_Lk q.2.2 u10_Jd u10_Ld u10_Pr) [(0, .ref (ad 45)), (1, .int q.2.1)]) (h1 : q.1 ≠ 0 → (o_At p l e rm_Ck_followReferences s m args below meth c Q o_cls D A 3 30 [] (o_cw ad ca u10_rt u10_Sj u10_T0 u10_T1 u10_Rd u10_Pg u10_Pt u10_Mk u10_Lk q.2.2 u10_Jd u10_Ld u10_Pr) [(0, .ref (ad 45))])) : o_At p l e rm_Ck_followReferences s m args below meth c Q o_cls D A 3 10 [] (o_cw ad ca u10_rt u10_Sj u10_T0 u10_T1 u10_Rd u10_Pg u10_Pt u10_Mk u10_Lk z.2 u10_Jd u10_Ld u10_Pr) [(0, .ref (ad 45)), (1, .int z.1)] := by
  unfold m_Ck_followReferences_b10 at h
  intro H locs ls hP hS hl
  have C0 := C
  obtain ⟨hx, hb, -, -, -, hown, hts, hK, -, -⟩ := C0
  refine lv_iload_n hx hb d_Ck_followReferences_10 rfl (lv_at hl 1 rfl) ?_
  refine lv_sipush (v := (1000:Int32)) hx hb d_Ck_followReferences_11 (by decide) ?_
  refine lv_icmp_ge (tgt := 30) hx hb d_Ck_followReferences_14 (by decide) (fun c1 => ?_) (fun c1 => ?_)
  · replace h := o_tt c1 h
    cases h
    exact h1 (Nat.succ_ne_zero 0) _ _ _ hP hS (lv_sub hl [0] rfl)
  · replace h := o_ff c1 h
    refine lv_aload_n hx hb d_Ck_followReferences_17 rfl (lv_at hl 0 rfl) ?_
    refine o_get (v := .ref (ad 46)) C in_Ck hP 45 cw_45 rfl 4 (by decide) k_2_11 rfl rfl d_Ck_followReferences_18 ?_
    refine lv_iload_n hx hb d_Ck_followReferences_21 rfl (lv_at hl 1 rfl) ?_
    refine lv_iconst (v := (0:Int32)) hx hb d_Ck_followReferences_22 (by decide) ?_
    obtain ⟨g2, h⟩ := o_gd_some h
    refine o_zast (f := (Ck_aimedAt z.2)) (w1 := (o_cw ad ca u10_rt u10_Sj u10_T0 u10_T1 u10_Rd u10_Pg u10_Pt u10_Mk u10_Lk (Ck_mk (upd (Ck_aimedAt z.2) z.1.toNatClampNeg (vp_nar .boolean (0:Int32))) (Ck_reached z.2) (Ck_reachedFrom z.2) (Ck_reachedCount z.2) (Ck_found z.2) (Ck_foundAt z.2)) u10_Jd u10_Ld u10_Pr)) C hP (hDD _ _ _ _ _ _ _ _ _ _ _ _ _) hS 46 37 cw_46 rfl g2 rfl d_Ck_followReferences_23 (fun H locs hP hS => ?_)
    obtain ⟨x1_24, ex1_24⟩ : ∃ y : Int32, y = z.1 + (1:Int32) := ⟨_, rfl⟩
    replace h := o_nm_at ex1_24 h
    refine lv_iinc (v := x1_24) (lv' := [(1, .int x1_24), (0, .ref (ad 45))]) hx hb d_Ck_followReferences_24 hl (k := 1) rfl (by rw [ex1_24]; rfl) (by decide) rfl (fun ls hl => ?_)
    refine lv_goto (tgt := 10) hx hb d_Ck_followReferences_27 (by decide) ?_
    cases h
    exact h0 rfl _ _ _ hP hS (lv_sub hl [1, 0] rfl)
set_option maxHeartbeats 4000000 in
set_option maxRecDepth 100000 in
theorem w_Ck_followReferences_b32 {E : (Nat → Prop) → State → Heap → Prop} {p : Program} {l : Launch} {e : Env} {s : State} {m : MethodId} {args : Array Value} {below : List Frame} {meth : Method} {c : Code} {D : va_G} {ad kd sd vd xd : Nat → Nat} {ca : Nat → ClassId} {A : Nat → Prop} {Q : State → Prop} (hE : o_EK E kd sd vd xd) (C : o_Cx E p s m args meth c D o_cls (o_tys ca) "SchemaJudge$Checker" b_Ck_followReferences none 3 cc_Ck_followReferences A) (hDD : ∀ (rt : Nat) (Sj : SSJ) (T0 : STx) (T1 : STx) (Rd : SRd) (Pg : SPg) (Pt : SPt) (Mk : SMk) (Lk : SLk) (Ck : SCk) (Jd : SJd) (Ld : SLd) (Pr : SPr), va_D A (o_cw ad ca rt Sj T0 T1 Rd Pg Pt Mk Lk Ck Jd Ld Pr)) (n : Nat) (u32_T0 : STx) (u32_Sj : SSJ) (u32_T1 : STx) (u32_Rd : SRd) (u32_Pg : SPg) (u32_Pt : SPt) (u32_Jd : SJd) (u32_Ld : SLd) (u32_Pr : SPr) (u32_rt : Nat) (z : Int32 × SMk × SLk × SCk) (q : Nat × Int32 × SMk × SLk × SCk) (h : m_Ck_followReferences_b32 n u32_T0 z = some q) (h0 : q.1 = 0 → o_At p l e rm_Ck_followReferences s m args below meth c Q o_cls D A 3 32 [] (o_cw ad ca u32_rt u32_Sj u32_T0 u32_T1 u32_Rd u32_Pg u32_Pt q.2.2.1 q.2.2.2.1 q.2.2.2.2 u32_Jd u32_Ld u32_Pr) [(0, .ref (ad 45)), (1, .int q.2.1)]) (h1 : q.1 ≠ 0 → (o_At p l e rm_Ck_followReferences s m args below meth c Q o_cls D A 3 109 [] (o_cw ad ca u32_rt u32_Sj u32_T0 u32_T1 u32_Rd u32_Pg u32_Pt q.2.2.1 q.2.2.2.1 q.2.2.2.2 u32_Jd u32_Ld u32_Pr) [])) : o_At p l e rm_Ck_followReferences s m args below meth c Q o_cls D A 3 32 [] (o_cw ad ca u32_rt u32_Sj u32_T0 u32_T1 u32_Rd u32_Pg u32_Pt z.2.1 z.2.2.1 z.2.2.2 u32_Jd u32_Ld u32_Pr) [(0, .ref (ad 45)), (1, .int z.1)] := by
  unfold m_Ck_followReferences_b32 at h
  intro H locs ls hP hS hl
  have C0 := C
  obtain ⟨hx, hb, -, -, -, hown, hts, hK, -, -⟩ := C0
  refine lv_iload_n hx hb d_Ck_followReferences_32 rfl (lv_at hl 1 rfl) ?_
  refine lv_aload_n hx hb d_Ck_followReferences_33 rfl (lv_at hl 0 rfl) ?_
  refine o_get (v := .ref (ad 1)) C in_Ck hP 45 cw_45 rfl 0 (by decide) k_2_7 rfl rfl d_Ck_followReferences_34 ?_
  obtain ⟨q3, hq3, h⟩ := o_bd_some h
  refine o_V (st1 := [.int q3, .int z.1]) (w1 := (o_cw ad ca u32_rt u32_Sj u32_T0 u32_T1 u32_Rd u32_Pg u32_Pt z.2.1 z.2.2.1 z.2.2.2 u32_Jd u32_Ld u32_Pr)) hE.1 C (c_Tx_total_0 hE l u32_T0 u32_Sj u32_T1 u32_Rd u32_Pg u32_Pt z.2.1 z.2.2.1 z.2.2.2 u32_Jd u32_Ld u32_Pr u32_rt hq3) hP (hDD _ _ _ _ _ _ _ _ _ _ _ _ _) hS hl.1 rfl cw_1 k_4_61 k_4_6 k_4_7 k_1_2 k_4_8 hv_Tx_total rfl rfl ⟨(Nat.le_of_ble_eq_true rfl), (Nat.le_of_ble_eq_true rfl)⟩ rfl (Nat.le_of_ble_eq_true rfl) ⟨Nat.zero_le _, Nat.zero_le _⟩ rfl d_Ck_followReferences_37 (fun H locs hP hS => ?_)
  refine lv_icmp_ge (tgt := 109) hx hb d_Ck_followReferences_40 (by decide) (fun c3 => ?_) (fun c3 => ?_)
  · replace h := o_tt c3 h
    cases h
    exact h1 (Nat.succ_ne_zero 0) _ _ _ hP hS (lv_sub hl [] rfl)
  · replace h := o_ff c3 h
    refine lv_aload_n hx hb d_Ck_followReferences_43 rfl (lv_at hl 0 rfl) ?_
    refine o_get (v := .ref (ad 39)) C in_Ck hP 45 cw_45 rfl 1 (by decide) k_2_8 rfl rfl d_Ck_followReferences_44 ?_
    refine lv_iload_n hx hb d_Ck_followReferences_47 rfl (lv_at hl 1 rfl) ?_
    obtain ⟨q4, hq4, h⟩ := o_bd_some h
    obtain ⟨g4, h⟩ := o_gd_some h
    refine o_V (st1 := [.ref (kd q4)]) (w1 := (o_cw ad ca u32_rt u32_Sj u32_T0 u32_T1 u32_Rd u32_Pg u32_Pt z.2.1 z.2.2.1 z.2.2.2 u32_Jd u32_Ld u32_Pr)) hE.1 C (c_Mk_keyword hE l z.1 z.2.1 u32_Sj u32_T0 u32_T1 u32_Rd u32_Pg u32_Pt z.2.2.1 z.2.2.2 u32_Jd u32_Ld u32_Pr u32_rt hq4) hP (hDD _ _ _ _ _ _ _ _ _ _ _ _ _) hS hl.1 rfl cw_39 k_5_122 k_5_123 k_5_124 k_1_6 k_5_125 hv_Mk_keyword rfl rfl ⟨(Nat.le_of_ble_eq_true rfl), (Nat.le_of_ble_eq_true rfl)⟩ rfl (Nat.le_of_ble_eq_true rfl) ⟨Nat.zero_le _, Nat.zero_le _⟩ rfl d_Ck_followReferences_48 (fun H locs hP hS => ?_)
    refine va_gets (v := .ref (kd 33)) hx hb ((hE.2.2.1 _ _ _ C.2.2.2.2.2.2.2.2.2).1 33 (by decide)).1 hS hown (hts _ k_5_139) (fun _ h9 => h9) d_Ck_followReferences_51 ?_
    refine lv_acmp_ne (rx := some (kd q4)) (ry := some (kd 33)) (tgt := 103) hx hb d_Ck_followReferences_54 (by decide) (fun c5 => ?_) (fun c5 => ?_)
    · replace h := o_ff (o_kn_ c5) h
      obtain ⟨x1_103, ex1_103⟩ : ∃ y : Int32, y = z.1 + (1:Int32) := ⟨_, rfl⟩
      replace h := o_nm_at ex1_103 h
      refine lv_iinc (v := x1_103) (lv' := [(1, .int x1_103), (0, .ref (ad 45))]) hx hb d_Ck_followReferences_103 hl (k := 1) rfl (by rw [ex1_103]; rfl) (by decide) rfl (fun ls hl => ?_)
      refine lv_goto (tgt := 32) hx hb d_Ck_followReferences_106 (by decide) ?_
      cases h
      exact h0 rfl _ _ _ hP hS (lv_sub hl [1, 0] rfl)
    · replace h := o_tt (o_ki hE C g4 rfl c5) h
      refine lv_aload_n hx hb d_Ck_followReferences_57 rfl (lv_at hl 0 rfl) ?_
      refine o_get (v := .ref (ad 43)) C in_Ck hP 45 cw_45 rfl 3 (by decide) k_2_10 rfl rfl d_Ck_followReferences_58 ?_
      refine lv_iload_n hx hb d_Ck_followReferences_61 rfl (lv_at hl 1 rfl) ?_
      obtain ⟨q5, hq5, h⟩ := o_bd_some h
      refine o_V (st1 := [.int q5.1]) (w1 := (o_cw ad ca u32_rt u32_Sj u32_T0 u32_T1 u32_Rd u32_Pg u32_Pt z.2.1 q5.2 z.2.2.2 u32_Jd u32_Ld u32_Pr)) hE.1 C (c_Lk_resolve hE l n z.1 u32_T0 z.2.1 z.2.2.1 u32_Sj u32_T1 u32_Rd u32_Pg u32_Pt z.2.2.2 u32_Jd u32_Ld u32_Pr u32_rt hq5) hP (hDD _ _ _ _ _ _ _ _ _ _ _ _ _) hS hl.1 rfl cw_43 k_5_141 k_5_142 k_5_143 k_1_8 k_5_144 hv_Lk_resolve rfl rfl ⟨(Nat.le_of_ble_eq_true rfl), (Nat.le_of_ble_eq_true rfl)⟩ rfl (Nat.le_of_ble_eq_true rfl) ⟨Nat.zero_le _, Nat.zero_le _⟩ rfl d_Ck_followReferences_62 (fun H locs hP hS => ?_)
      refine lv_istore_n (lv' := [(2, .int q5.1), (0, .ref (ad 45)), (1, .int z.1)]) hx hb d_Ck_followReferences_65 rfl hl (by decide) rfl (fun ls hl => ?_)
      refine lv_aload_n hx hb d_Ck_followReferences_66 rfl (lv_at hl 1 rfl) ?_
      refine o_get (v := .ref (ad 39)) C in_Ck hP 45 cw_45 rfl 1 (by decide) k_2_8 rfl rfl d_Ck_followReferences_67 ?_
      refine lv_iload_n hx hb d_Ck_followReferences_70 rfl (lv_at hl 2 rfl) ?_
      refine lv_iload_n hx hb d_Ck_followReferences_71 rfl (lv_at hl 0 rfl) ?_
      obtain ⟨q6, hq6, h⟩ := o_bd_some h
      refine o_V (st1 := []) (w1 := (o_cw ad ca u32_rt u32_Sj u32_T0 u32_T1 u32_Rd u32_Pg u32_Pt q6 q5.2 z.2.2.2 u32_Jd u32_Ld u32_Pr)) hE.1 C (c_Mk_setTarget hE l z.1 q5.1 z.2.1 u32_Sj u32_T0 u32_T1 u32_Rd u32_Pg u32_Pt q5.2 z.2.2.2 u32_Jd u32_Ld u32_Pr u32_rt hq6) hP (hDD _ _ _ _ _ _ _ _ _ _ _ _ _) hS hl.1 rfl cw_39 k_5_200 k_5_201 k_5_202 k_1_6 k_5_203 hv_Mk_setTarget rfl rfl ⟨(Nat.le_of_ble_eq_true rfl), (Nat.le_of_ble_eq_true rfl)⟩ rfl (Nat.le_of_ble_eq_true rfl) ⟨Nat.zero_le _, Nat.zero_le _⟩ rfl d_Ck_followReferences_72 (fun H locs hP hS => ?_)
      refine lv_iload_n hx hb d_Ck_followReferences_75 rfl (lv_at hl 0 rfl) ?_
      refine lv_iconst (v := (-1:Int32)) hx hb d_Ck_followReferences_76 (by decide) ?_
      refine lv_icmp_ne (tgt := 89) hx hb d_Ck_followReferences_77 (by decide) (fun c6 => ?_) (fun c6 => ?_)
      · replace h := o_ff c6 h
        refine lv_iload_n hx hb d_Ck_followReferences_89 rfl (lv_at hl 0 rfl) ?_
        refine lv_sipush (v := (1000:Int32)) hx hb d_Ck_followReferences_90 (by decide) ?_
        refine lv_icmp_ge (tgt := 103) hx hb d_Ck_followReferences_93 (by decide) (fun c7 => ?_) (fun c7 => ?_)
        · replace h := o_tt c7 h
          obtain ⟨x1_103, ex1_103⟩ : ∃ y : Int32, y = z.1 + (1:Int32) := ⟨_, rfl⟩
          replace h := o_nm_at ex1_103 h
          refine lv_iinc (v := x1_103) (lv' := [(1, .int x1_103), (2, .int q5.1), (0, .ref (ad 45))]) hx hb d_Ck_followReferences_103 hl (k := 2) rfl (by rw [ex1_103]; rfl) (by decide) rfl (fun ls hl => ?_)
          refine lv_goto (tgt := 32) hx hb d_Ck_followReferences_106 (by decide) ?_
          cases h
          exact h0 rfl _ _ _ hP hS (lv_sub hl [2, 0] rfl)
        · replace h := o_ff c7 h
          refine lv_aload_n hx hb d_Ck_followReferences_96 rfl (lv_at hl 1 rfl) ?_
          refine o_get (v := .ref (ad 46)) C in_Ck hP 45 cw_45 rfl 4 (by decide) k_2_11 rfl rfl d_Ck_followReferences_97 ?_
          refine lv_iload_n hx hb d_Ck_followReferences_100 rfl (lv_at hl 0 rfl) ?_
          refine lv_iconst (v := (1:Int32)) hx hb d_Ck_followReferences_101 (by decide) ?_
          obtain ⟨g8, h⟩ := o_gd_some h
          refine o_zast (f := (Ck_aimedAt z.2.2.2)) (w1 := (o_cw ad ca u32_rt u32_Sj u32_T0 u32_T1 u32_Rd u32_Pg u32_Pt q6 q5.2 (Ck_mk (upd (Ck_aimedAt z.2.2.2) q5.1.toNatClampNeg (vp_nar .boolean (1:Int32))) (Ck_reached z.2.2.2) (Ck_reachedFrom z.2.2.2) (Ck_reachedCount z.2.2.2) (Ck_found z.2.2.2) (Ck_foundAt z.2.2.2)) u32_Jd u32_Ld u32_Pr)) C hP (hDD _ _ _ _ _ _ _ _ _ _ _ _ _) hS 46 37 cw_46 rfl g8 rfl d_Ck_followReferences_102 (fun H locs hP hS => ?_)
          obtain ⟨x1_103, ex1_103⟩ : ∃ y : Int32, y = z.1 + (1:Int32) := ⟨_, rfl⟩
          replace h := o_nm_at ex1_103 h
          refine lv_iinc (v := x1_103) (lv' := [(1, .int x1_103), (2, .int q5.1), (0, .ref (ad 45))]) hx hb d_Ck_followReferences_103 hl (k := 2) rfl (by rw [ex1_103]; rfl) (by decide) rfl (fun ls hl => ?_)
          refine lv_goto (tgt := 32) hx hb d_Ck_followReferences_106 (by decide) ?_
          cases h
          exact h0 rfl _ _ _ hP hS (lv_sub hl [2, 0] rfl)
      · replace h := o_tt c6 h
        refine lv_aload_n hx hb d_Ck_followReferences_80 rfl (lv_at hl 1 rfl) ?_
        refine lv_iconst (v := (5:Int32)) hx hb d_Ck_followReferences_81 (by decide) ?_
        refine lv_iload_n hx hb d_Ck_followReferences_82 rfl (lv_at hl 2 rfl) ?_
        obtain ⟨q7, hq7, h⟩ := o_bd_some h
        refine o_V (st1 := []) (w1 := (o_cw ad ca u32_rt u32_Sj u32_T0 u32_T1 u32_Rd u32_Pg u32_Pt q6 q5.2 q7 u32_Jd u32_Ld u32_Pr)) hE.1 C (c_Ck_report hE l (5:Int32) z.1 z.2.2.2 u32_Sj u32_T0 u32_T1 u32_Rd u32_Pg u32_Pt q6 q5.2 u32_Jd u32_Ld u32_Pr u32_rt hq7) hP (hDD _ _ _ _ _ _ _ _ _ _ _ _ _) hS hl.1 rfl cw_45 k_4_57 k_4_59 k_s_20 k_1_7 k_4_60 hv_Ck_report rfl rfl ⟨(Nat.le_of_ble_eq_true rfl), (Nat.le_of_ble_eq_true rfl)⟩ rfl (Nat.le_of_ble_eq_true rfl) ⟨Nat.zero_le _, Nat.zero_le _⟩ rfl d_Ck_followReferences_83 (fun H locs hP hS => ?_)
        refine lv_goto (tgt := 103) hx hb d_Ck_followReferences_86 (by decide) ?_
        obtain ⟨x1_103, ex1_103⟩ : ∃ y : Int32, y = z.1 + (1:Int32) := ⟨_, rfl⟩
        replace h := o_nm_at ex1_103 h
        refine lv_iinc (v := x1_103) (lv' := [(1, .int x1_103), (2, .int q5.1), (0, .ref (ad 45))]) hx hb d_Ck_followReferences_103 hl (k := 2) rfl (by rw [ex1_103]; rfl) (by decide) rfl (fun ls hl => ?_)
        refine lv_goto (tgt := 32) hx hb d_Ck_followReferences_106 (by decide) ?_
        cases h
        exact h0 rfl _ _ _ hP hS (lv_sub hl [2, 0] rfl)
set_option maxHeartbeats 4000000 in
set_option maxRecDepth 100000 in
theorem c_Ck_followReferences {E : (Nat → Prop) → State → Heap → Prop} {D : va_G} {ad kd sd vd xd : Nat → Nat} {ca : Nat → ClassId} (hE : o_EK E kd sd vd xd) (l : Launch) (n : Nat)  (T0 : STx) (Mk : SMk) (Lk : SLk) (Ck : SCk) (Sj : SSJ) (T1 : STx) (Rd : SRd) (Pg : SPg) (Pt : SPt) (Jd : SJd) (Ld : SLd) (Pr : SPr) (rt : Nat) {r : SMk × SLk × SCk} (h : m_Ck_followReferences n T0 Mk Lk Ck = some r) : o_Cn E l D o_cls (o_tys ca) y_Ck_followReferences cc_Ck_followReferences rm_Ck_followReferences [.ref (ad 45)] (o_cw ad ca rt Sj T0 T1 Rd Pg Pt Mk Lk Ck Jd Ld Pr) (o_cw ad ca rt Sj T0 T1 Rd Pg Pt r.1 r.2.1 r.2.2 Jd Ld Pr) none := by
  refine o_Cn_of (by decide) (Nat.le_of_ble_eq_true rfl) ?_
  intro p e s m below meth c A ls C hD hP hS hl
  have hDD : ∀ (rt : Nat) (Sj : SSJ) (T0 : STx) (T1 : STx) (Rd : SRd) (Pg : SPg) (Pt : SPt) (Mk : SMk) (Lk : SLk) (Ck : SCk) (Jd : SJd) (Ld : SLd) (Pr : SPr), va_D A (o_cw ad ca rt Sj T0 T1 Rd Pg Pt Mk Lk Ck Jd Ld Pr) := fun _ _ _ _ _ _ _ _ _ _ _ _ _ => o_D_map hD rfl
  have hl : lv_has ls 3 [(0, .ref (ad 45))] := hl
  unfold m_Ck_followReferences at h
  have C0 := C
  obtain ⟨hx, hb, -, -, -, hown, hts, hK, -, -⟩ := C0
  refine lv_aload_n hx hb d_Ck_followReferences_0 rfl (lv_at hl 0 rfl) ?_
  refine o_get (v := .ref (ad 48)) C in_Ck hP 45 cw_45 rfl 6 (by decide) k_2_13 rfl rfl d_Ck_followReferences_1 ?_
  refine lv_iconst (v := (-1:Int32)) hx hb d_Ck_followReferences_4 (by decide) ?_
  obtain ⟨q1, hq1, h⟩ := o_bd_some h
  refine o_S (st1 := []) (w1 := (o_cw ad ca rt Sj T0 T1 Rd Pg Pt Mk Lk (Ck_mk (Ck_aimedAt Ck) (Ck_reached Ck) q1 (Ck_reachedCount Ck) (Ck_found Ck) (Ck_foundAt Ck)) Jd Ld Pr)) hE.1 C (c_JA_fill_r hE l n (-1:Int32) (Ck_reachedFrom Ck) Sj T0 T1 Rd Pg Pt Mk Lk Ck Jd Ld Pr rt hq1) hP (hDD _ _ _ _ _ _ _ _ _ _ _ _ _) hS hl.1 k_5_136 k_5_137 k_1_29 k_5_138 hs_JA_fill rfl rfl ⟨(Nat.le_of_ble_eq_true rfl), (Nat.le_of_ble_eq_true rfl)⟩ rfl (Nat.le_of_ble_eq_true rfl) ⟨Nat.zero_le _, Nat.zero_le _⟩ rfl d_Ck_followReferences_5 (fun H locs hP hS => ?_)
  refine lv_iconst (v := (0:Int32)) hx hb d_Ck_followReferences_8 (by decide) ?_
  refine lv_istore_n (lv' := [(1, .int (0:Int32)), (0, .ref (ad 45))]) hx hb d_Ck_followReferences_9 rfl hl (by decide) rfl (fun ls hl => ?_)
  obtain ⟨q2, hq2, h⟩ := o_bd_some h
  refine o_sim2 (AH := fun zz => o_At p l e rm_Ck_followReferences s m _ below meth c _ o_cls D A 3 10 [] (o_cw ad ca rt Sj T0 T1 Rd Pg Pt Mk Lk zz.2 Jd Ld Pr) [(0, .ref (ad 45)), (1, .int zz.1)]) (AX := fun qq => o_At p l e rm_Ck_followReferences s m _ below meth c _ o_cls D A 3 30 [] (o_cw ad ca rt Sj T0 T1 Rd Pg Pt Mk Lk qq.2.2 Jd Ld Pr) [(0, .ref (ad 45))]) (fun zz qq h h0 h1 => w_Ck_followReferences_b10 hE C hDD n T0 Mk Lk Sj T1 Rd Pg Pt Jd Ld Pr rt zz qq h h0 h1) n _ q2 hq2 ?_ _ _ _ hP hS (lv_sub hl [1, 0] rfl)
  intro H locs ls hP hS hl
  refine lv_iconst (v := (0:Int32)) hx hb d_Ck_followReferences_30 (by decide) ?_
  refine lv_istore_n (lv' := [(1, .int (0:Int32)), (0, .ref (ad 45))]) hx hb d_Ck_followReferences_31 rfl hl (by decide) rfl (fun ls hl => ?_)
  obtain ⟨q8, hq8, h⟩ := o_bd_some h
  refine o_sim2 (AH := fun zz => o_At p l e rm_Ck_followReferences s m _ below meth c _ o_cls D A 3 32 [] (o_cw ad ca rt Sj T0 T1 Rd Pg Pt zz.2.1 zz.2.2.1 zz.2.2.2 Jd Ld Pr) [(0, .ref (ad 45)), (1, .int zz.1)]) (AX := fun qq => o_At p l e rm_Ck_followReferences s m _ below meth c _ o_cls D A 3 109 [] (o_cw ad ca rt Sj T0 T1 Rd Pg Pt qq.2.2.1 qq.2.2.2.1 qq.2.2.2.2 Jd Ld Pr) []) (fun zz qq h h0 h1 => w_Ck_followReferences_b32 hE C hDD n T0 Sj T1 Rd Pg Pt Jd Ld Pr rt zz qq h h0 h1) n _ q8 hq8 ?_ _ _ _ hP hS (lv_sub hl [1, 0] rfl)
  intro H locs ls hP hS hl
  cases h
  exact o_rv C hP hS d_Ck_followReferences_109
set_option maxHeartbeats 4000000 in
set_option maxRecDepth 100000 in
theorem w_Mk_schemaCount_j16 {E : (Nat → Prop) → State → Heap → Prop} {p : Program} {l : Launch} {e : Env} {s : State} {m : MethodId} {args : Array Value} {below : List Frame} {meth : Method} {c : Code} {D : va_G} {ad kd sd vd xd : Nat → Nat} {ca : Nat → ClassId} {A : Nat → Prop} (hE : o_EK E kd sd vd xd) (C : o_Cx E p s m args meth c D o_cls (o_tys ca) "SchemaJudge$Marks" b_Mk_schemaCount (some .int) 3 cc_Mk_schemaCount A) (hDD : ∀ (rt : Nat) (Sj : SSJ) (T0 : STx) (T1 : STx) (Rd : SRd) (Pg : SPg) (Pt : SPt) (Mk : SMk) (Lk : SLk) (Ck : SCk) (Jd : SJd) (Ld : SLd) (Pr : SPr), va_D A (o_cw ad ca rt Sj T0 T1 Rd Pg Pt Mk Lk Ck Jd Ld Pr)) (x2 : Int32) (T0 : STx) (Sj : SSJ) (T1 : STx) (Rd : SRd) (Pg : SPg) (Pt : SPt) (Mk : SMk) (Lk : SLk) (Ck : SCk) (Jd : SJd) (Ld : SLd) (Pr : SPr) (rt : Nat) {r : Int32} (h : m_Mk_schemaCount_j16 x2 T0 = some r) : o_At p l e rm_Mk_schemaCount s m args below meth c (MQ below (o_Qx D o_cls (some (.int r)) (o_cw ad ca rt Sj T0 T1 Rd Pg Pt Mk Lk Ck Jd Ld Pr) A) args s 0 0 A) o_cls D A 3 16 [] (o_cw ad ca rt Sj T0 T1 Rd Pg Pt Mk Lk Ck Jd Ld Pr) [(0, .ref (ad 39)), (2, .int x2)] := by
  unfold m_Mk_schemaCount_j16 at h
  intro H locs ls hP hS hl
  have C0 := C
  obtain ⟨hx, hb, -, -, -, hown, hts, hK, -, -⟩ := C0
  refine lv_aload_n hx hb d_Mk_schemaCount_16 rfl (lv_at hl 0 rfl) ?_
  refine o_get (v := .ref (ad 1)) C in_Mk hP 39 cw_39 rfl 0 (by decide) k_1_206 rfl rfl d_Mk_schemaCount_17 ?_
  refine lv_iload_n hx hb d_Mk_schemaCount_20 rfl (lv_at hl 1 rfl) ?_
  obtain ⟨q1, hq1, h⟩ := o_bd_some h
  refine o_V (st1 := [.int q1]) (w1 := (o_cw ad ca rt Sj T0 T1 Rd Pg Pt Mk Lk Ck Jd Ld Pr)) hE.1 C (c_Tx_size_0 hE l x2 T0 Sj T1 Rd Pg Pt Mk Lk Ck Jd Ld Pr rt hq1) hP (hDD _ _ _ _ _ _ _ _ _ _ _ _ _) hS hl.1 rfl cw_1 k_5_220 k_3_215 k_3_216 k_1_2 k_3_217 hv_Tx_size rfl rfl ⟨(Nat.le_of_ble_eq_true rfl), (Nat.le_of_ble_eq_true rfl)⟩ rfl (Nat.le_of_ble_eq_true rfl) ⟨Nat.zero_le _, Nat.zero_le _⟩ rfl d_Mk_schemaCount_21 (fun H locs hP hS => ?_)
  refine lv_goto (tgt := 28) hx hb d_Mk_schemaCount_24 (by decide) ?_
  cases h
  exact o_ri C hP hS d_Mk_schemaCount_28
set_option maxHeartbeats 4000000 in
set_option maxRecDepth 100000 in
theorem c_Mk_schemaCount {E : (Nat → Prop) → State → Heap → Prop} {D : va_G} {ad kd sd vd xd : Nat → Nat} {ca : Nat → ClassId} (hE : o_EK E kd sd vd xd) (l : Launch) (x1 : Nat) (gx1 : o_kb x1 = true) (x2 : Int32) (T0 : STx) (Sj : SSJ) (T1 : STx) (Rd : SRd) (Pg : SPg) (Pt : SPt) (Mk : SMk) (Lk : SLk) (Ck : SCk) (Jd : SJd) (Ld : SLd) (Pr : SPr) (rt : Nat) {r : Int32} (h : m_Mk_schemaCount x1 x2 T0 = some r) : o_Cn E l D o_cls (o_tys ca) y_Mk_schemaCount cc_Mk_schemaCount rm_Mk_schemaCount [.ref (ad 39), .ref (kd x1), .int x2] (o_cw ad ca rt Sj T0 T1 Rd Pg Pt Mk Lk Ck Jd Ld Pr) (o_cw ad ca rt Sj T0 T1 Rd Pg Pt Mk Lk Ck Jd Ld Pr) (some (.int r)) := by
  refine o_Cn_of (by decide) (Nat.le_of_ble_eq_true rfl) ?_
  intro p e s m below meth c A ls C hD hP hS hl
  have hDD : ∀ (rt : Nat) (Sj : SSJ) (T0 : STx) (T1 : STx) (Rd : SRd) (Pg : SPg) (Pt : SPt) (Mk : SMk) (Lk : SLk) (Ck : SCk) (Jd : SJd) (Ld : SLd) (Pr : SPr), va_D A (o_cw ad ca rt Sj T0 T1 Rd Pg Pt Mk Lk Ck Jd Ld Pr) := fun _ _ _ _ _ _ _ _ _ _ _ _ _ => o_D_map hD rfl
  have hl : lv_has ls 3 [(0, .ref (ad 39)), (1, .ref (kd x1)), (2, .int x2)] := hl
  unfold m_Mk_schemaCount at h
  have C0 := C
  obtain ⟨hx, hb, -, -, -, hown, hts, hK, -, -⟩ := C0
  refine lv_aload_n hx hb d_Mk_schemaCount_0 rfl (lv_at hl 1 rfl) ?_
  refine o_gkN (fi := 1) (v := (kw_form x1)) hE C gx1 hS rfl rfl nw_24 d_Mk_schemaCount_1 ?_
  refine lv_iconst (v := (2:Int32)) hx hb d_Mk_schemaCount_4 (by decide) ?_
  refine lv_icmp_eq (tgt := 16) hx hb d_Mk_schemaCount_5 (by decide) (fun c1 => ?_) (fun c1 => ?_)
  · replace h := o_tt c1 h
    exact w_Mk_schemaCount_j16 hE C hDD x2 T0 Sj T1 Rd Pg Pt Mk Lk Ck Jd Ld Pr rt h _ _ _ hP hS (lv_sub hl [0, 2] rfl)
  · replace h := o_ff c1 h
    refine lv_aload_n hx hb d_Mk_schemaCount_8 rfl (lv_at hl 1 rfl) ?_
    refine o_gkN (fi := 1) (v := (kw_form x1)) hE C gx1 hS rfl rfl nw_24 d_Mk_schemaCount_9 ?_
    refine lv_iconst (v := (3:Int32)) hx hb d_Mk_schemaCount_12 (by decide) ?_
    refine lv_icmp_ne (tgt := 27) hx hb d_Mk_schemaCount_13 (by decide) (fun c2 => ?_) (fun c2 => ?_)
    · replace h := o_ff c2 h
      refine lv_iconst (v := (1:Int32)) hx hb d_Mk_schemaCount_27 (by decide) ?_
      cases h
      exact o_ri (v := (1:Int32)) C hP hS d_Mk_schemaCount_28
    · replace h := o_tt c2 h
      exact w_Mk_schemaCount_j16 hE C hDD x2 T0 Sj T1 Rd Pg Pt Mk Lk Ck Jd Ld Pr rt h _ _ _ hP hS (lv_sub hl [0, 2] rfl)
set_option maxHeartbeats 4000000 in
set_option maxRecDepth 100000 in
theorem w_Mk_firstSchema_j16 {E : (Nat → Prop) → State → Heap → Prop} {p : Program} {l : Launch} {e : Env} {s : State} {m : MethodId} {args : Array Value} {below : List Frame} {meth : Method} {c : Code} {D : va_G} {ad kd sd vd xd : Nat → Nat} {ca : Nat → ClassId} {A : Nat → Prop} (hE : o_EK E kd sd vd xd) (C : o_Cx E p s m args meth c D o_cls (o_tys ca) "SchemaJudge$Marks" b_Mk_firstSchema (some .int) 3 cc_Mk_firstSchema A) (hDD : ∀ (rt : Nat) (Sj : SSJ) (T0 : STx) (T1 : STx) (Rd : SRd) (Pg : SPg) (Pt : SPt) (Mk : SMk) (Lk : SLk) (Ck : SCk) (Jd : SJd) (Ld : SLd) (Pr : SPr), va_D A (o_cw ad ca rt Sj T0 T1 Rd Pg Pt Mk Lk Ck Jd Ld Pr)) (x2 : Int32) (T0 : STx) (Mk : SMk) (Sj : SSJ) (T1 : STx) (Rd : SRd) (Pg : SPg) (Pt : SPt) (Lk : SLk) (Ck : SCk) (Jd : SJd) (Ld : SLd) (Pr : SPr) (rt : Nat) {r : Int32} (h : m_Mk_firstSchema_j16 x2 T0 Mk = some r) : o_At p l e rm_Mk_firstSchema s m args below meth c (MQ below (o_Qx D o_cls (some (.int r)) (o_cw ad ca rt Sj T0 T1 Rd Pg Pt Mk Lk Ck Jd Ld Pr) A) args s 0 0 A) o_cls D A 3 16 [] (o_cw ad ca rt Sj T0 T1 Rd Pg Pt Mk Lk Ck Jd Ld Pr) [(0, .ref (ad 39)), (2, .int x2)] := by
  unfold m_Mk_firstSchema_j16 at h
  intro H locs ls hP hS hl
  have C0 := C
  obtain ⟨hx, hb, -, -, -, hown, hts, hK, -, -⟩ := C0
  refine lv_aload_n hx hb d_Mk_firstSchema_16 rfl (lv_at hl 0 rfl) ?_
  refine o_get (v := .ref (ad 1)) C in_Mk hP 39 cw_39 rfl 0 (by decide) k_1_206 rfl rfl d_Mk_firstSchema_17 ?_
  refine lv_iload_n hx hb d_Mk_firstSchema_20 rfl (lv_at hl 1 rfl) ?_
  obtain ⟨q1, hq1, h⟩ := o_bd_some h
  refine o_V (st1 := [.int q1]) (w1 := (o_cw ad ca rt Sj T0 T1 Rd Pg Pt Mk Lk Ck Jd Ld Pr)) hE.1 C (c_Tx_firstChild_0 hE l x2 T0 Sj T1 Rd Pg Pt Mk Lk Ck Jd Ld Pr rt hq1) hP (hDD _ _ _ _ _ _ _ _ _ _ _ _ _) hS hl.1 rfl cw_1 k_5_225 k_3_211 k_3_212 k_1_2 k_3_213 hv_Tx_firstChild rfl rfl ⟨(Nat.le_of_ble_eq_true rfl), (Nat.le_of_ble_eq_true rfl)⟩ rfl (Nat.le_of_ble_eq_true rfl) ⟨Nat.zero_le _, Nat.zero_le _⟩ rfl d_Mk_firstSchema_21 (fun H locs hP hS => ?_)
  cases h
  exact o_ri C hP hS d_Mk_firstSchema_24
set_option maxHeartbeats 4000000 in
set_option maxRecDepth 100000 in
theorem c_Mk_firstSchema {E : (Nat → Prop) → State → Heap → Prop} {D : va_G} {ad kd sd vd xd : Nat → Nat} {ca : Nat → ClassId} (hE : o_EK E kd sd vd xd) (l : Launch) (x1 : Nat) (gx1 : o_kb x1 = true) (x2 : Int32) (T0 : STx) (Mk : SMk) (Sj : SSJ) (T1 : STx) (Rd : SRd) (Pg : SPg) (Pt : SPt) (Lk : SLk) (Ck : SCk) (Jd : SJd) (Ld : SLd) (Pr : SPr) (rt : Nat) {r : Int32} (h : m_Mk_firstSchema x1 x2 T0 Mk = some r) : o_Cn E l D o_cls (o_tys ca) y_Mk_firstSchema cc_Mk_firstSchema rm_Mk_firstSchema [.ref (ad 39), .ref (kd x1), .int x2] (o_cw ad ca rt Sj T0 T1 Rd Pg Pt Mk Lk Ck Jd Ld Pr) (o_cw ad ca rt Sj T0 T1 Rd Pg Pt Mk Lk Ck Jd Ld Pr) (some (.int r)) := by
  refine o_Cn_of (by decide) (Nat.le_of_ble_eq_true rfl) ?_
  intro p e s m below meth c A ls C hD hP hS hl
  have hDD : ∀ (rt : Nat) (Sj : SSJ) (T0 : STx) (T1 : STx) (Rd : SRd) (Pg : SPg) (Pt : SPt) (Mk : SMk) (Lk : SLk) (Ck : SCk) (Jd : SJd) (Ld : SLd) (Pr : SPr), va_D A (o_cw ad ca rt Sj T0 T1 Rd Pg Pt Mk Lk Ck Jd Ld Pr) := fun _ _ _ _ _ _ _ _ _ _ _ _ _ => o_D_map hD rfl
  have hl : lv_has ls 3 [(0, .ref (ad 39)), (1, .ref (kd x1)), (2, .int x2)] := hl
  unfold m_Mk_firstSchema at h
  have C0 := C
  obtain ⟨hx, hb, -, -, -, hown, hts, hK, -, -⟩ := C0
  refine lv_aload_n hx hb d_Mk_firstSchema_0 rfl (lv_at hl 1 rfl) ?_
  refine o_gkN (fi := 1) (v := (kw_form x1)) hE C gx1 hS rfl rfl nw_24 d_Mk_firstSchema_1 ?_
  refine lv_iconst (v := (2:Int32)) hx hb d_Mk_firstSchema_4 (by decide) ?_
  refine lv_icmp_eq (tgt := 16) hx hb d_Mk_firstSchema_5 (by decide) (fun c1 => ?_) (fun c1 => ?_)
  · replace h := o_tt c1 h
    exact w_Mk_firstSchema_j16 hE C hDD x2 T0 Mk Sj T1 Rd Pg Pt Lk Ck Jd Ld Pr rt h _ _ _ hP hS (lv_sub hl [0, 2] rfl)
  · replace h := o_ff c1 h
    refine lv_aload_n hx hb d_Mk_firstSchema_8 rfl (lv_at hl 1 rfl) ?_
    refine o_gkN (fi := 1) (v := (kw_form x1)) hE C gx1 hS rfl rfl nw_24 d_Mk_firstSchema_9 ?_
    refine lv_iconst (v := (3:Int32)) hx hb d_Mk_firstSchema_12 (by decide) ?_
    refine lv_icmp_ne (tgt := 25) hx hb d_Mk_firstSchema_13 (by decide) (fun c2 => ?_) (fun c2 => ?_)
    · replace h := o_ff c2 h
      refine lv_aload_n hx hb d_Mk_firstSchema_25 rfl (lv_at hl 1 rfl) ?_
      refine o_gkN (fi := 1) (v := (kw_form x1)) hE C gx1 hS rfl rfl nw_24 d_Mk_firstSchema_26 ?_
      refine lv_bipush (v := (8:Int32)) hx hb d_Mk_firstSchema_29 (by decide) ?_
      refine lv_icmp_ne (tgt := 56) hx hb d_Mk_firstSchema_31 (by decide) (fun c3 => ?_) (fun c3 => ?_)
      · replace h := o_ff c3 h
        refine lv_iload_n hx hb d_Mk_firstSchema_56 rfl (lv_at hl 2 rfl) ?_
        cases h
        exact o_ri C hP hS d_Mk_firstSchema_57
      · replace h := o_tt c3 h
        refine lv_iload_n hx hb d_Mk_firstSchema_34 rfl (lv_at hl 2 rfl) ?_
        refine lv_if_lt (tgt := 54) hx hb d_Mk_firstSchema_35 (by decide) (fun c4 => ?_) (fun c4 => ?_)
        · replace h := o_tt c4 h
          refine lv_iconst (v := (-1:Int32)) hx hb d_Mk_firstSchema_54 (by decide) ?_
          cases h
          exact o_ri (v := (-1:Int32)) C hP hS d_Mk_firstSchema_55
        · replace h := o_ff c4 h
          refine lv_iload_n hx hb d_Mk_firstSchema_38 rfl (lv_at hl 2 rfl) ?_
          refine lv_sipush (v := (1000:Int32)) hx hb d_Mk_firstSchema_39 (by decide) ?_
          refine lv_icmp_ge (tgt := 54) hx hb d_Mk_firstSchema_42 (by decide) (fun c5 => ?_) (fun c5 => ?_)
          · replace h := o_tt c5 h
            refine lv_iconst (v := (-1:Int32)) hx hb d_Mk_firstSchema_54 (by decide) ?_
            cases h
            exact o_ri (v := (-1:Int32)) C hP hS d_Mk_firstSchema_55
          · replace h := o_ff c5 h
            refine lv_aload_n hx hb d_Mk_firstSchema_45 rfl (lv_at hl 0 rfl) ?_
            refine o_get (v := .ref (ad 42)) C in_Mk hP 39 cw_39 rfl 3 (by decide) k_1_209 rfl rfl d_Mk_firstSchema_46 ?_
            refine lv_iload_n hx hb d_Mk_firstSchema_49 rfl (lv_at hl 2 rfl) ?_
            obtain ⟨g6, h⟩ := o_gd_some h
            refine o_iald (f := (Mk_targets Mk)) C hP 42 35 cw_42 rfl g6 d_Mk_firstSchema_50 ?_
            refine lv_goto (tgt := 55) hx hb d_Mk_firstSchema_51 (by decide) ?_
            cases h
            exact o_ri (v := ((Mk_targets Mk) x2.toNatClampNeg)) C hP hS d_Mk_firstSchema_55
    · replace h := o_tt c2 h
      exact w_Mk_firstSchema_j16 hE C hDD x2 T0 Mk Sj T1 Rd Pg Pt Lk Ck Jd Ld Pr rt h _ _ _ hP hS (lv_sub hl [0, 2] rfl)
set_option maxHeartbeats 4000000 in
set_option maxRecDepth 100000 in
theorem w_Ck_spread_j145 {E : (Nat → Prop) → State → Heap → Prop} {p : Program} {l : Launch} {e : Env} {s : State} {m : MethodId} {args : Array Value} {below : List Frame} {meth : Method} {c : Code} {D : va_G} {ad kd sd vd xd : Nat → Nat} {ca : Nat → ClassId} {A : Nat → Prop} {Q : State → Prop} (hE : o_EK E kd sd vd xd) (C : o_Cx E p s m args meth c D o_cls (o_tys ca) "SchemaJudge$Checker" b_Ck_spread none 9 cc_Ck_spread A) (hDD : ∀ (rt : Nat) (Sj : SSJ) (T0 : STx) (T1 : STx) (Rd : SRd) (Pg : SPg) (Pt : SPt) (Mk : SMk) (Lk : SLk) (Ck : SCk) (Jd : SJd) (Ld : SLd) (Pr : SPr), va_D A (o_cw ad ca rt Sj T0 T1 Rd Pg Pt Mk Lk Ck Jd Ld Pr)) (n : Nat) (u75_x1 : Int32) (u75_x2 : Int32) (u75_x3 : Int32) (u75_x4 : Int32) (u75_x6 : Int32) (u75_T0 : STx) (u75_Mk : SMk) (u75_Sj : SSJ) (u75_T1 : STx) (u75_Rd : SRd) (u75_Pg : SPg) (u75_Pt : SPt) (u75_Lk : SLk) (u75_Jd : SJd) (u75_Ld : SLd) (u75_Pr : SPr) (u75_rt : Nat) (x7 : Int32) (x8 : Int32) (Ck : SCk) {q : Nat × Int32 × Int32 × SCk} (h : m_Ck_spread_j145 n u75_x1 u75_x2 u75_x3 u75_x4 u75_x6 x7 x8 u75_T0 u75_Mk Ck = some q) (h0 : q.1 = 0 → o_At p l e rm_Ck_spread s m args below meth c Q o_cls D A 9 75 [] (o_cw ad ca u75_rt u75_Sj u75_T0 u75_T1 u75_Rd u75_Pg u75_Pt u75_Mk u75_Lk q.2.2.2 u75_Jd u75_Ld u75_Pr) [(0, .ref (ad 45)), (1, .int u75_x1), (2, .int u75_x2), (3, .int u75_x3), (4, .int u75_x4), (6, .int u75_x6), (7, .int q.2.1), (8, .int q.2.2.1)]) (h1 : q.1 ≠ 0 → (o_At p l e rm_Ck_spread s m args below meth c Q o_cls D A 9 162 [] (o_cw ad ca u75_rt u75_Sj u75_T0 u75_T1 u75_Rd u75_Pg u75_Pt u75_Mk u75_Lk q.2.2.2 u75_Jd u75_Ld u75_Pr) [(0, .ref (ad 45)), (1, .int u75_x1), (2, .int u75_x2), (3, .int u75_x3), (4, .int u75_x4)])) : o_At p l e rm_Ck_spread s m args below meth c Q o_cls D A 9 145 [] (o_cw ad ca u75_rt u75_Sj u75_T0 u75_T1 u75_Rd u75_Pg u75_Pt u75_Mk u75_Lk Ck u75_Jd u75_Ld u75_Pr) [(0, .ref (ad 45)), (1, .int u75_x1), (2, .int u75_x2), (3, .int u75_x3), (4, .int u75_x4), (6, .int u75_x6), (7, .int x7), (8, .int x8)] := by
  unfold m_Ck_spread_j145 at h
  intro H locs ls hP hS hl
  have C0 := C
  obtain ⟨hx, hb, -, -, -, hown, hts, hK, -, -⟩ := C0
  refine lv_aload_n hx hb d_Ck_spread_145 rfl (lv_at hl 0 rfl) ?_
  refine o_get (v := .ref (ad 1)) C in_Ck hP 45 cw_45 rfl 0 (by decide) k_2_7 rfl rfl d_Ck_spread_146 ?_
  refine lv_iload hx hb d_Ck_spread_149 (lv_at hl 6 rfl) ?_
  obtain ⟨q5, hq5, h⟩ := o_bd_some h
  refine o_V (st1 := [.int q5]) (w1 := (o_cw ad ca u75_rt u75_Sj u75_T0 u75_T1 u75_Rd u75_Pg u75_Pt u75_Mk u75_Lk Ck u75_Jd u75_Ld u75_Pr)) hE.1 C (c_Tx_nextChild_0 hE l x7 u75_T0 u75_Sj u75_T1 u75_Rd u75_Pg u75_Pt u75_Mk u75_Lk Ck u75_Jd u75_Ld u75_Pr u75_rt hq5) hP (hDD _ _ _ _ _ _ _ _ _ _ _ _ _) hS hl.1 rfl cw_1 k_4_101 k_3_222 k_3_223 k_1_2 k_3_224 hv_Tx_nextChild rfl rfl ⟨(Nat.le_of_ble_eq_true rfl), (Nat.le_of_ble_eq_true rfl)⟩ rfl (Nat.le_of_ble_eq_true rfl) ⟨Nat.zero_le _, Nat.zero_le _⟩ rfl d_Ck_spread_151 (fun H locs hP hS => ?_)
  refine lv_istore (lv' := [(7, .int q5), (0, .ref (ad 45)), (1, .int u75_x1), (2, .int u75_x2), (3, .int u75_x3), (4, .int u75_x4), (6, .int u75_x6), (8, .int x8)]) hx hb d_Ck_spread_154 hl (by decide) rfl (fun ls hl => ?_)
  obtain ⟨x8_156, ex8_156⟩ : ∃ y : Int32, y = x8 + (1:Int32) := ⟨_, rfl⟩
  replace h := o_nm_at ex8_156 h
  refine lv_iinc (v := x8_156) (lv' := [(8, .int x8_156), (7, .int q5), (0, .ref (ad 45)), (1, .int u75_x1), (2, .int u75_x2), (3, .int u75_x3), (4, .int u75_x4), (6, .int u75_x6)]) hx hb d_Ck_spread_156 hl (k := 7) rfl (by rw [ex8_156]; rfl) (by decide) rfl (fun ls hl => ?_)
  refine lv_goto (tgt := 75) hx hb d_Ck_spread_159 (by decide) ?_
  cases h
  exact h0 rfl _ _ _ hP hS (lv_sub hl [2, 3, 4, 5, 6, 7, 1, 0] rfl)
set_option maxHeartbeats 4000000 in
set_option maxRecDepth 100000 in
theorem w_Ck_spread_b75 {E : (Nat → Prop) → State → Heap → Prop} {p : Program} {l : Launch} {e : Env} {s : State} {m : MethodId} {args : Array Value} {below : List Frame} {meth : Method} {c : Code} {D : va_G} {ad kd sd vd xd : Nat → Nat} {ca : Nat → ClassId} {A : Nat → Prop} {Q : State → Prop} (hE : o_EK E kd sd vd xd) (C : o_Cx E p s m args meth c D o_cls (o_tys ca) "SchemaJudge$Checker" b_Ck_spread none 9 cc_Ck_spread A) (hDD : ∀ (rt : Nat) (Sj : SSJ) (T0 : STx) (T1 : STx) (Rd : SRd) (Pg : SPg) (Pt : SPt) (Mk : SMk) (Lk : SLk) (Ck : SCk) (Jd : SJd) (Ld : SLd) (Pr : SPr), va_D A (o_cw ad ca rt Sj T0 T1 Rd Pg Pt Mk Lk Ck Jd Ld Pr)) (n : Nat) (u75_x1 : Int32) (u75_x2 : Int32) (u75_x3 : Int32) (u75_x4 : Int32) (u75_x6 : Int32) (u75_T0 : STx) (u75_Mk : SMk) (u75_Sj : SSJ) (u75_T1 : STx) (u75_Rd : SRd) (u75_Pg : SPg) (u75_Pt : SPt) (u75_Lk : SLk) (u75_Jd : SJd) (u75_Ld : SLd) (u75_Pr : SPr) (u75_rt : Nat) (z : Int32 × Int32 × SCk) (q : Nat × Int32 × Int32 × SCk) (h : m_Ck_spread_b75 n u75_x1 u75_x2 u75_x3 u75_x4 u75_x6 u75_T0 u75_Mk z = some q) (h0 : q.1 = 0 → o_At p l e rm_Ck_spread s m args below meth c Q o_cls D A 9 75 [] (o_cw ad ca u75_rt u75_Sj u75_T0 u75_T1 u75_Rd u75_Pg u75_Pt u75_Mk u75_Lk q.2.2.2 u75_Jd u75_Ld u75_Pr) [(0, .ref (ad 45)), (1, .int u75_x1), (2, .int u75_x2), (3, .int u75_x3), (4, .int u75_x4), (6, .int u75_x6), (7, .int q.2.1), (8, .int q.2.2.1)]) (h1 : q.1 ≠ 0 → (o_At p l e rm_Ck_spread s m args below meth c Q o_cls D A 9 162 [] (o_cw ad ca u75_rt u75_Sj u75_T0 u75_T1 u75_Rd u75_Pg u75_Pt u75_Mk u75_Lk q.2.2.2 u75_Jd u75_Ld u75_Pr) [(0, .ref (ad 45)), (1, .int u75_x1), (2, .int u75_x2), (3, .int u75_x3), (4, .int u75_x4)])) : o_At p l e rm_Ck_spread s m args below meth c Q o_cls D A 9 75 [] (o_cw ad ca u75_rt u75_Sj u75_T0 u75_T1 u75_Rd u75_Pg u75_Pt u75_Mk u75_Lk z.2.2 u75_Jd u75_Ld u75_Pr) [(0, .ref (ad 45)), (1, .int u75_x1), (2, .int u75_x2), (3, .int u75_x3), (4, .int u75_x4), (6, .int u75_x6), (7, .int z.1), (8, .int z.2.1)] := by
  unfold m_Ck_spread_b75 at h
  intro H locs ls hP hS hl
  have C0 := C
  obtain ⟨hx, hb, -, -, -, hown, hts, hK, -, -⟩ := C0
  refine lv_iload hx hb d_Ck_spread_75 (lv_at hl 7 rfl) ?_
  refine lv_iload hx hb d_Ck_spread_77 (lv_at hl 5 rfl) ?_
  refine lv_icmp_ge (tgt := 162) hx hb d_Ck_spread_79 (by decide) (fun c4 => ?_) (fun c4 => ?_)
  · replace h := o_tt c4 h
    cases h
    exact h1 (Nat.succ_ne_zero 0) _ _ _ hP hS (lv_sub hl [0, 1, 2, 3, 4] rfl)
  · replace h := o_ff c4 h
    refine lv_iload hx hb d_Ck_spread_82 (lv_at hl 6 rfl) ?_
    refine lv_if_lt (tgt := 145) hx hb d_Ck_spread_84 (by decide) (fun c5 => ?_) (fun c5 => ?_)
    · replace h := o_tt c5 h
      exact w_Ck_spread_j145 hE C hDD n u75_x1 u75_x2 u75_x3 u75_x4 u75_x6 u75_T0 u75_Mk u75_Sj u75_T1 u75_Rd u75_Pg u75_Pt u75_Lk u75_Jd u75_Ld u75_Pr u75_rt z.1 z.2.1 z.2.2 h h0 h1 _ _ _ hP hS (lv_sub hl [0, 1, 2, 3, 4, 5, 6, 7] rfl)
    · replace h := o_ff c5 h
      refine lv_iload hx hb d_Ck_spread_87 (lv_at hl 6 rfl) ?_
      refine lv_sipush (v := (1000:Int32)) hx hb d_Ck_spread_89 (by decide) ?_
      refine lv_icmp_ge (tgt := 145) hx hb d_Ck_spread_92 (by decide) (fun c6 => ?_) (fun c6 => ?_)
      · replace h := o_tt c6 h
        exact w_Ck_spread_j145 hE C hDD n u75_x1 u75_x2 u75_x3 u75_x4 u75_x6 u75_T0 u75_Mk u75_Sj u75_T1 u75_Rd u75_Pg u75_Pt u75_Lk u75_Jd u75_Ld u75_Pr u75_rt z.1 z.2.1 z.2.2 h h0 h1 _ _ _ hP hS (lv_sub hl [0, 1, 2, 3, 4, 5, 6, 7] rfl)
      · replace h := o_ff c6 h
        refine lv_aload_n hx hb d_Ck_spread_95 rfl (lv_at hl 0 rfl) ?_
        refine o_get (v := .ref (ad 48)) C in_Ck hP 45 cw_45 rfl 6 (by decide) k_2_13 rfl rfl d_Ck_spread_96 ?_
        refine lv_iload hx hb d_Ck_spread_99 (lv_at hl 6 rfl) ?_
        obtain ⟨g7, h⟩ := o_gd_some h
        refine o_iald (f := (Ck_reachedFrom z.2.2)) C hP 48 39 cw_48 rfl g7 d_Ck_spread_101 ?_
        refine lv_iload_n hx hb d_Ck_spread_102 rfl (lv_at hl 2 rfl) ?_
        refine lv_icmp_eq (tgt := 145) hx hb d_Ck_spread_103 (by decide) (fun c8 => ?_) (fun c8 => ?_)
        · replace h := o_tt c8 h
          exact w_Ck_spread_j145 hE C hDD n u75_x1 u75_x2 u75_x3 u75_x4 u75_x6 u75_T0 u75_Mk u75_Sj u75_T1 u75_Rd u75_Pg u75_Pt u75_Lk u75_Jd u75_Ld u75_Pr u75_rt z.1 z.2.1 z.2.2 h h0 h1 _ _ _ hP hS (lv_sub hl [0, 1, 2, 3, 4, 5, 6, 7] rfl)
        · replace h := o_ff c8 h
          refine lv_aload_n hx hb d_Ck_spread_106 rfl (lv_at hl 0 rfl) ?_
          refine o_get (v := .int (Ck_reachedCount z.2.2)) C in_Ck hP 45 cw_45 rfl 7 (by decide) k_2_14 rfl rfl d_Ck_spread_107 ?_
          refine lv_sipush (v := (1000:Int32)) hx hb d_Ck_spread_110 (by decide) ?_
          refine lv_icmp_ge (tgt := 145) hx hb d_Ck_spread_113 (by decide) (fun c9 => ?_) (fun c9 => ?_)
          · replace h := o_tt c9 h
            exact w_Ck_spread_j145 hE C hDD n u75_x1 u75_x2 u75_x3 u75_x4 u75_x6 u75_T0 u75_Mk u75_Sj u75_T1 u75_Rd u75_Pg u75_Pt u75_Lk u75_Jd u75_Ld u75_Pr u75_rt z.1 z.2.1 z.2.2 h h0 h1 _ _ _ hP hS (lv_sub hl [0, 1, 2, 3, 4, 5, 6, 7] rfl)
          · replace h := o_ff c9 h
            refine lv_aload_n hx hb d_Ck_spread_116 rfl (lv_at hl 0 rfl) ?_
            refine o_get (v := .ref (ad 48)) C in_Ck hP 45 cw_45 rfl 6 (by decide) k_2_13 rfl rfl d_Ck_spread_117 ?_
            refine lv_iload hx hb d_Ck_spread_120 (lv_at hl 6 rfl) ?_
            refine lv_iload_n hx hb d_Ck_spread_122 rfl (lv_at hl 2 rfl) ?_
            obtain ⟨g10, h⟩ := o_gd_some h
            refine o_iast (f := (Ck_reachedFrom z.2.2)) (w1 := (o_cw ad ca u75_rt u75_Sj u75_T0 u75_T1 u75_Rd u75_Pg u75_Pt u75_Mk u75_Lk (Ck_mk (Ck_aimedAt z.2.2) (Ck_reached z.2.2) (upd (Ck_reachedFrom z.2.2) z.1.toNatClampNeg u75_x2) (Ck_reachedCount z.2.2) (Ck_found z.2.2) (Ck_foundAt z.2.2)) u75_Jd u75_Ld u75_Pr)) C hP (hDD _ _ _ _ _ _ _ _ _ _ _ _ _) hS 48 39 cw_48 rfl g10 rfl d_Ck_spread_123 (fun H locs hP hS => ?_)
            refine lv_aload_n hx hb d_Ck_spread_124 rfl (lv_at hl 0 rfl) ?_
            refine o_get (v := .ref (ad 47)) C in_Ck hP 45 cw_45 rfl 5 (by decide) k_2_12 rfl rfl d_Ck_spread_125 ?_
            refine lv_aload_n hx hb d_Ck_spread_128 rfl (lv_at hl 0 rfl) ?_
            refine o_get (v := .int (Ck_reachedCount z.2.2)) C in_Ck hP 45 cw_45 rfl 7 (by decide) k_2_14 rfl rfl d_Ck_spread_129 ?_
            refine lv_iload hx hb d_Ck_spread_132 (lv_at hl 6 rfl) ?_
            obtain ⟨g11, h⟩ := o_gd_some h
            refine o_iast (f := (Ck_reached z.2.2)) (w1 := (o_cw ad ca u75_rt u75_Sj u75_T0 u75_T1 u75_Rd u75_Pg u75_Pt u75_Mk u75_Lk (Ck_mk (Ck_aimedAt z.2.2) (upd (Ck_reached z.2.2) (Ck_reachedCount z.2.2).toNatClampNeg z.1) (upd (Ck_reachedFrom z.2.2) z.1.toNatClampNeg u75_x2) (Ck_reachedCount z.2.2) (Ck_found z.2.2) (Ck_foundAt z.2.2)) u75_Jd u75_Ld u75_Pr)) C hP (hDD _ _ _ _ _ _ _ _ _ _ _ _ _) hS 47 38 cw_47 rfl g11 rfl d_Ck_spread_134 (fun H locs hP hS => ?_)
            refine lv_aload_n hx hb d_Ck_spread_135 rfl (lv_at hl 0 rfl) ?_
            refine lv_dup hx hb d_Ck_spread_136 rfl ?_
            refine o_get (v := .int (Ck_reachedCount z.2.2)) C in_Ck hP 45 cw_45 rfl 7 (by decide) k_2_14 rfl rfl d_Ck_spread_137 ?_
            refine lv_iconst (v := (1:Int32)) hx hb d_Ck_spread_140 (by decide) ?_
            refine lv_iadd hx hb d_Ck_spread_141 ?_
            refine o_put (v := .int ((Ck_reachedCount z.2.2) + (1:Int32))) (ty := .int) (w1 := (o_cw ad ca u75_rt u75_Sj u75_T0 u75_T1 u75_Rd u75_Pg u75_Pt u75_Mk u75_Lk (Ck_mk (Ck_aimedAt z.2.2) (upd (Ck_reached z.2.2) (Ck_reachedCount z.2.2).toNatClampNeg z.1) (upd (Ck_reachedFrom z.2.2) z.1.toNatClampNeg u75_x2) ((Ck_reachedCount z.2.2) + (1:Int32)) (Ck_found z.2.2) (Ck_foundAt z.2.2)) u75_Jd u75_Ld u75_Pr)) C in_Ck t_Ck t_Ck_ok n_Ck hP (hDD _ _ _ _ _ _ _ _ _ _ _ _ _) hS 45 cw_45 rfl 7 (by decide) k_2_14 rfl rfl (by decide +kernel) rfl rfl (Nat.le_of_ble_eq_true rfl) rfl d_Ck_spread_142 (fun H locs hP hS => ?_)
            exact w_Ck_spread_j145 hE C hDD n u75_x1 u75_x2 u75_x3 u75_x4 u75_x6 u75_T0 u75_Mk u75_Sj u75_T1 u75_Rd u75_Pg u75_Pt u75_Lk u75_Jd u75_Ld u75_Pr u75_rt z.1 z.2.1 (Ck_mk (Ck_aimedAt z.2.2) (upd (Ck_reached z.2.2) (Ck_reachedCount z.2.2).toNatClampNeg z.1) (upd (Ck_reachedFrom z.2.2) z.1.toNatClampNeg u75_x2) ((Ck_reachedCount z.2.2) + (1:Int32)) (Ck_found z.2.2) (Ck_foundAt z.2.2)) h h0 h1 _ _ _ hP hS (lv_sub hl [0, 1, 2, 3, 4, 5, 6, 7] rfl)
set_option maxHeartbeats 4000000 in
set_option maxRecDepth 100000 in
theorem w_Ck_spread_j58 {E : (Nat → Prop) → State → Heap → Prop} {p : Program} {l : Launch} {e : Env} {s : State} {m : MethodId} {args : Array Value} {below : List Frame} {meth : Method} {c : Code} {D : va_G} {ad kd sd vd xd : Nat → Nat} {ca : Nat → ClassId} {A : Nat → Prop} {Q : State → Prop} (hE : o_EK E kd sd vd xd) (C : o_Cx E p s m args meth c D o_cls (o_tys ca) "SchemaJudge$Checker" b_Ck_spread none 9 cc_Ck_spread A) (hDD : ∀ (rt : Nat) (Sj : SSJ) (T0 : STx) (T1 : STx) (Rd : SRd) (Pg : SPg) (Pt : SPt) (Mk : SMk) (Lk : SLk) (Ck : SCk) (Jd : SJd) (Ld : SLd) (Pr : SPr), va_D A (o_cw ad ca rt Sj T0 T1 Rd Pg Pt Mk Lk Ck Jd Ld Pr)) (n : Nat) (u12_x1 : Int32) (u12_x2 : Int32) (u12_T0 : STx) (u12_Mk : SMk) (u12_Sj : SSJ) (u12_T1 : STx) (u12_Rd : SRd) (u12_Pg : SPg) (u12_Pt : SPt) (u12_Lk : SLk) (u12_Jd : SJd) (u12_Ld : SLd) (u12_Pr : SPr) (u12_rt : Nat) (x3 : Int32) (x4 : Int32) (x5 : Nat) (gx5 : o_kb x5 = true) (y0 : Int32) (Ck : SCk) {q : Nat × Int32 × Int32 × SCk} (h : m_Ck_spread_j58 n u12_x1 u12_x2 x3 x4 x5 y0 u12_T0 u12_Mk Ck = some q) (h0 : q.1 = 0 → o_At p l e rm_Ck_spread s m args below meth c Q o_cls D A 9 12 [] (o_cw ad ca u12_rt u12_Sj u12_T0 u12_T1 u12_Rd u12_Pg u12_Pt u12_Mk u12_Lk q.2.2.2 u12_Jd u12_Ld u12_Pr) [(0, .ref (ad 45)), (1, .int u12_x1), (2, .int u12_x2), (3, .int q.2.1), (4, .int q.2.2.1)]) (h1 : q.1 ≠ 0 → (o_At p l e rm_Ck_spread s m args below meth c Q o_cls D A 9 177 [] (o_cw ad ca u12_rt u12_Sj u12_T0 u12_T1 u12_Rd u12_Pg u12_Pt u12_Mk u12_Lk q.2.2.2 u12_Jd u12_Ld u12_Pr) [])) : o_At p l e rm_Ck_spread s m args below meth c Q o_cls D A 9 58 [.int y0] (o_cw ad ca u12_rt u12_Sj u12_T0 u12_T1 u12_Rd u12_Pg u12_Pt u12_Mk u12_Lk Ck u12_Jd u12_Ld u12_Pr) [(0, .ref (ad 45)), (1, .int u12_x1), (2, .int u12_x2), (3, .int x3), (4, .int x4), (5, .ref (kd x5))] := by
  unfold m_Ck_spread_j58 at h
  intro H locs ls hP hS hl
  have C0 := C
  obtain ⟨hx, hb, -, -, -, hown, hts, hK, -, -⟩ := C0
  refine lv_istore (lv' := [(6, .int y0), (0, .ref (ad 45)), (1, .int u12_x1), (2, .int u12_x2), (3, .int x3), (4, .int x4), (5, .ref (kd x5))]) hx hb d_Ck_spread_58 hl (by decide) rfl (fun ls hl => ?_)
  refine lv_aload_n hx hb d_Ck_spread_60 rfl (lv_at hl 1 rfl) ?_
  refine o_get (v := .ref (ad 39)) C in_Ck hP 45 cw_45 rfl 1 (by decide) k_2_8 rfl rfl d_Ck_spread_61 ?_
  refine lv_aload hx hb d_Ck_spread_64 (lv_at hl 6 rfl) ?_
  refine lv_iload_n hx hb d_Ck_spread_66 rfl (lv_at hl 4 rfl) ?_
  obtain ⟨q4, hq4, h⟩ := o_bd_some h
  refine o_V (st1 := [.int q4]) (w1 := (o_cw ad ca u12_rt u12_Sj u12_T0 u12_T1 u12_Rd u12_Pg u12_Pt u12_Mk u12_Lk Ck u12_Jd u12_Ld u12_Pr)) hE.1 C (c_Mk_firstSchema hE l x5 gx5 x3 u12_T0 u12_Mk u12_Sj u12_T1 u12_Rd u12_Pg u12_Pt u12_Lk Ck u12_Jd u12_Ld u12_Pr u12_rt hq4) hP (hDD _ _ _ _ _ _ _ _ _ _ _ _ _) hS hl.1 rfl cw_39 k_5_221 k_5_222 k_5_223 k_1_6 k_5_224 hv_Mk_firstSchema rfl rfl ⟨(Nat.le_of_ble_eq_true rfl), (Nat.le_of_ble_eq_true rfl)⟩ rfl (Nat.le_of_ble_eq_true rfl) ⟨Nat.zero_le _, Nat.zero_le _⟩ rfl d_Ck_spread_67 (fun H locs hP hS => ?_)
  refine lv_istore (lv' := [(7, .int q4), (6, .int y0), (0, .ref (ad 45)), (1, .int u12_x1), (2, .int u12_x2), (3, .int x3), (4, .int x4), (5, .ref (kd x5))]) hx hb d_Ck_spread_70 hl (by decide) rfl (fun ls hl => ?_)
  refine lv_iconst (v := (0:Int32)) hx hb d_Ck_spread_72 (by decide) ?_
  refine lv_istore (lv' := [(8, .int (0:Int32)), (7, .int q4), (6, .int y0), (0, .ref (ad 45)), (1, .int u12_x1), (2, .int u12_x2), (3, .int x3), (4, .int x4), (5, .ref (kd x5))]) hx hb d_Ck_spread_73 hl (by decide) rfl (fun ls hl => ?_)
  obtain ⟨q6, hq6, h⟩ := o_bd_some h
  refine o_sim2 (AH := fun zz => o_At p l e rm_Ck_spread s m args below meth c _ o_cls D A 9 75 [] (o_cw ad ca u12_rt u12_Sj u12_T0 u12_T1 u12_Rd u12_Pg u12_Pt u12_Mk u12_Lk zz.2.2 u12_Jd u12_Ld u12_Pr) [(0, .ref (ad 45)), (1, .int u12_x1), (2, .int u12_x2), (3, .int x3), (4, .int x4), (6, .int y0), (7, .int zz.1), (8, .int zz.2.1)]) (AX := fun qq => o_At p l e rm_Ck_spread s m args below meth c _ o_cls D A 9 162 [] (o_cw ad ca u12_rt u12_Sj u12_T0 u12_T1 u12_Rd u12_Pg u12_Pt u12_Mk u12_Lk qq.2.2.2 u12_Jd u12_Ld u12_Pr) [(0, .ref (ad 45)), (1, .int u12_x1), (2, .int u12_x2), (3, .int x3), (4, .int x4)]) (fun zz qq h h0 h1 => w_Ck_spread_b75 hE C hDD n u12_x1 u12_x2 x3 x4 y0 u12_T0 u12_Mk u12_Sj u12_T1 u12_Rd u12_Pg u12_Pt u12_Lk u12_Jd u12_Ld u12_Pr u12_rt zz qq h h0 h1) n _ q6 hq6 ?_ _ _ _ hP hS (lv_sub hl [3, 4, 5, 6, 7, 2, 1, 0] rfl)
  intro H locs ls hP hS hl
  refine lv_aload_n hx hb d_Ck_spread_162 rfl (lv_at hl 0 rfl) ?_
  refine o_get (v := .ref (ad 1)) C in_Ck hP 45 cw_45 rfl 0 (by decide) k_2_7 rfl rfl d_Ck_spread_163 ?_
  refine lv_iload_n hx hb d_Ck_spread_166 rfl (lv_at hl 3 rfl) ?_
  obtain ⟨q7, hq7, h⟩ := o_bd_some h
  refine o_V (st1 := [.int q7]) (w1 := (o_cw ad ca u12_rt u12_Sj u12_T0 u12_T1 u12_Rd u12_Pg u12_Pt u12_Mk u12_Lk q6.2.2.2 u12_Jd u12_Ld u12_Pr)) hE.1 C (c_Tx_nextChild_0 hE l x3 u12_T0 u12_Sj u12_T1 u12_Rd u12_Pg u12_Pt u12_Mk u12_Lk q6.2.2.2 u12_Jd u12_Ld u12_Pr u12_rt hq7) hP (hDD _ _ _ _ _ _ _ _ _ _ _ _ _) hS hl.1 rfl cw_1 k_4_101 k_3_222 k_3_223 k_1_2 k_3_224 hv_Tx_nextChild rfl rfl ⟨(Nat.le_of_ble_eq_true rfl), (Nat.le_of_ble_eq_true rfl)⟩ rfl (Nat.le_of_ble_eq_true rfl) ⟨Nat.zero_le _, Nat.zero_le _⟩ rfl d_Ck_spread_167 (fun H locs hP hS => ?_)
  refine lv_istore_n (lv' := [(3, .int q7), (0, .ref (ad 45)), (1, .int u12_x1), (2, .int u12_x2), (4, .int x4)]) hx hb d_Ck_spread_170 rfl hl (by decide) rfl (fun ls hl => ?_)
  obtain ⟨x4_171, ex4_171⟩ : ∃ y : Int32, y = x4 + (1:Int32) := ⟨_, rfl⟩
  replace h := o_nm_at ex4_171 h
  refine lv_iinc (v := x4_171) (lv' := [(4, .int x4_171), (3, .int q7), (0, .ref (ad 45)), (1, .int u12_x1), (2, .int u12_x2)]) hx hb d_Ck_spread_171 hl (k := 4) rfl (by rw [ex4_171]; rfl) (by decide) rfl (fun ls hl => ?_)
  refine lv_goto (tgt := 12) hx hb d_Ck_spread_174 (by decide) ?_
  cases h
  exact h0 rfl _ _ _ hP hS (lv_sub hl [2, 3, 4, 1, 0] rfl)
set_option maxHeartbeats 4000000 in
set_option maxRecDepth 100000 in
theorem w_Ck_spread_b12 {E : (Nat → Prop) → State → Heap → Prop} {p : Program} {l : Launch} {e : Env} {s : State} {m : MethodId} {args : Array Value} {below : List Frame} {meth : Method} {c : Code} {D : va_G} {ad kd sd vd xd : Nat → Nat} {ca : Nat → ClassId} {A : Nat → Prop} {Q : State → Prop} (hE : o_EK E kd sd vd xd) (C : o_Cx E p s m args meth c D o_cls (o_tys ca) "SchemaJudge$Checker" b_Ck_spread none 9 cc_Ck_spread A) (hDD : ∀ (rt : Nat) (Sj : SSJ) (T0 : STx) (T1 : STx) (Rd : SRd) (Pg : SPg) (Pt : SPt) (Mk : SMk) (Lk : SLk) (Ck : SCk) (Jd : SJd) (Ld : SLd) (Pr : SPr), va_D A (o_cw ad ca rt Sj T0 T1 Rd Pg Pt Mk Lk Ck Jd Ld Pr)) (n : Nat) (u12_x1 : Int32) (u12_x2 : Int32) (u12_T0 : STx) (u12_Mk : SMk) (u12_Sj : SSJ) (u12_T1 : STx) (u12_Rd : SRd) (u12_Pg : SPg) (u12_Pt : SPt) (u12_Lk : SLk) (u12_Jd : SJd) (u12_Ld : SLd) (u12_Pr : SPr) (u12_rt : Nat) (z : Int32 × Int32 × SCk) (q : Nat × Int32 × Int32 × SCk) (h : m_Ck_spread_b12 n u12_x1 u12_x2 u12_T0 u12_Mk z = some q) (h0 : q.1 = 0 → o_At p l e rm_Ck_spread s m args below meth c Q o_cls D A 9 12 [] (o_cw ad ca u12_rt u12_Sj u12_T0 u12_T1 u12_Rd u12_Pg u12_Pt u12_Mk u12_Lk q.2.2.2 u12_Jd u12_Ld u12_Pr) [(0, .ref (ad 45)), (1, .int u12_x1), (2, .int u12_x2), (3, .int q.2.1), (4, .int q.2.2.1)]) (h1 : q.1 ≠ 0 → (o_At p l e rm_Ck_spread s m args below meth c Q o_cls D A 9 177 [] (o_cw ad ca u12_rt u12_Sj u12_T0 u12_T1 u12_Rd u12_Pg u12_Pt u12_Mk u12_Lk q.2.2.2 u12_Jd u12_Ld u12_Pr) [])) : o_At p l e rm_Ck_spread s m args below meth c Q o_cls D A 9 12 [] (o_cw ad ca u12_rt u12_Sj u12_T0 u12_T1 u12_Rd u12_Pg u12_Pt u12_Mk u12_Lk z.2.2 u12_Jd u12_Ld u12_Pr) [(0, .ref (ad 45)), (1, .int u12_x1), (2, .int u12_x2), (3, .int z.1), (4, .int z.2.1)] := by
  unfold m_Ck_spread_b12 at h
  intro H locs ls hP hS hl
  have C0 := C
  obtain ⟨hx, hb, -, -, -, hown, hts, hK, -, -⟩ := C0
  refine lv_iload hx hb d_Ck_spread_12 (lv_at hl 4 rfl) ?_
  refine lv_aload_n hx hb d_Ck_spread_14 rfl (lv_at hl 0 rfl) ?_
  refine o_get (v := .ref (ad 1)) C in_Ck hP 45 cw_45 rfl 0 (by decide) k_2_7 rfl rfl d_Ck_spread_15 ?_
  refine lv_iload_n hx hb d_Ck_spread_18 rfl (lv_at hl 1 rfl) ?_
  obtain ⟨q2, hq2, h⟩ := o_bd_some h
  refine o_V (st1 := [.int q2, .int z.2.1]) (w1 := (o_cw ad ca u12_rt u12_Sj u12_T0 u12_T1 u12_Rd u12_Pg u12_Pt u12_Mk u12_Lk z.2.2 u12_Jd u12_Ld u12_Pr)) hE.1 C (c_Tx_size_0 hE l u12_x1 u12_T0 u12_Sj u12_T1 u12_Rd u12_Pg u12_Pt u12_Mk u12_Lk z.2.2 u12_Jd u12_Ld u12_Pr u12_rt hq2) hP (hDD _ _ _ _ _ _ _ _ _ _ _ _ _) hS hl.1 rfl cw_1 k_4_71 k_3_215 k_3_216 k_1_2 k_3_217 hv_Tx_size rfl rfl ⟨(Nat.le_of_ble_eq_true rfl), (Nat.le_of_ble_eq_true rfl)⟩ rfl (Nat.le_of_ble_eq_true rfl) ⟨Nat.zero_le _, Nat.zero_le _⟩ rfl d_Ck_spread_19 (fun H locs hP hS => ?_)
  refine lv_icmp_ge (tgt := 177) hx hb d_Ck_spread_22 (by decide) (fun c1 => ?_) (fun c1 => ?_)
  · replace h := o_tt c1 h
    cases h
    exact h1 (Nat.succ_ne_zero 0) _ _ _ hP hS (lv_sub hl [] rfl)
  · replace h := o_ff c1 h
    refine lv_aload_n hx hb d_Ck_spread_25 rfl (lv_at hl 0 rfl) ?_
    refine o_get (v := .ref (ad 39)) C in_Ck hP 45 cw_45 rfl 1 (by decide) k_2_8 rfl rfl d_Ck_spread_26 ?_
    refine lv_iload_n hx hb d_Ck_spread_29 rfl (lv_at hl 3 rfl) ?_
    obtain ⟨q3, hq3, h⟩ := o_bd_some h
    obtain ⟨g2, h⟩ := o_gd_some h
    refine o_V (st1 := [.ref (kd q3)]) (w1 := (o_cw ad ca u12_rt u12_Sj u12_T0 u12_T1 u12_Rd u12_Pg u12_Pt u12_Mk u12_Lk z.2.2 u12_Jd u12_Ld u12_Pr)) hE.1 C (c_Mk_keyword hE l z.1 u12_Mk u12_Sj u12_T0 u12_T1 u12_Rd u12_Pg u12_Pt u12_Lk z.2.2 u12_Jd u12_Ld u12_Pr u12_rt hq3) hP (hDD _ _ _ _ _ _ _ _ _ _ _ _ _) hS hl.1 rfl cw_39 k_5_122 k_5_123 k_5_124 k_1_6 k_5_125 hv_Mk_keyword rfl rfl ⟨(Nat.le_of_ble_eq_true rfl), (Nat.le_of_ble_eq_true rfl)⟩ rfl (Nat.le_of_ble_eq_true rfl) ⟨Nat.zero_le _, Nat.zero_le _⟩ rfl d_Ck_spread_30 (fun H locs hP hS => ?_)
    refine lv_astore (lv' := [(5, .ref (kd q3)), (0, .ref (ad 45)), (1, .int u12_x1), (2, .int u12_x2), (3, .int z.1), (4, .int z.2.1)]) hx hb d_Ck_spread_33 hl (by decide) rfl (fun ls hl => ?_)
    refine lv_aload hx hb d_Ck_spread_35 (lv_at hl 0 rfl) ?_
    refine o_gkN (fi := 3) (v := (kw_reach q3)) hE C g2 hS rfl rfl nw_23 d_Ck_spread_37 ?_
    refine lv_iconst (v := (2:Int32)) hx hb d_Ck_spread_40 (by decide) ?_
    refine lv_icmp_ne (tgt := 57) hx hb d_Ck_spread_41 (by decide) (fun c3 => ?_) (fun c3 => ?_)
    · replace h := o_ff c3 h
      refine lv_iconst (v := (0:Int32)) hx hb d_Ck_spread_57 (by decide) ?_
      exact w_Ck_spread_j58 hE C hDD n u12_x1 u12_x2 u12_T0 u12_Mk u12_Sj u12_T1 u12_Rd u12_Pg u12_Pt u12_Lk u12_Jd u12_Ld u12_Pr u12_rt z.1 z.2.1 q3 g2 (0:Int32) z.2.2 h h0 h1 _ _ _ hP hS (lv_sub hl [1, 2, 3, 4, 5, 0] rfl)
    · replace h := o_tt c3 h
      refine lv_aload_n hx hb d_Ck_spread_44 rfl (lv_at hl 1 rfl) ?_
      refine o_get (v := .ref (ad 39)) C in_Ck hP 45 cw_45 rfl 1 (by decide) k_2_8 rfl rfl d_Ck_spread_45 ?_
      refine lv_aload hx hb d_Ck_spread_48 (lv_at hl 0 rfl) ?_
      refine lv_iload_n hx hb d_Ck_spread_50 rfl (lv_at hl 4 rfl) ?_
      obtain ⟨q8, hq8, h⟩ := o_bd_some h
      refine o_V (st1 := [.int q8]) (w1 := (o_cw ad ca u12_rt u12_Sj u12_T0 u12_T1 u12_Rd u12_Pg u12_Pt u12_Mk u12_Lk z.2.2 u12_Jd u12_Ld u12_Pr)) hE.1 C (c_Mk_schemaCount hE l q3 g2 z.1 u12_T0 u12_Sj u12_T1 u12_Rd u12_Pg u12_Pt u12_Mk u12_Lk z.2.2 u12_Jd u12_Ld u12_Pr u12_rt hq8) hP (hDD _ _ _ _ _ _ _ _ _ _ _ _ _) hS hl.1 rfl cw_39 k_5_216 k_5_217 k_5_218 k_1_6 k_5_219 hv_Mk_schemaCount rfl rfl ⟨(Nat.le_of_ble_eq_true rfl), (Nat.le_of_ble_eq_true rfl)⟩ rfl (Nat.le_of_ble_eq_true rfl) ⟨Nat.zero_le _, Nat.zero_le _⟩ rfl d_Ck_spread_51 (fun H locs hP hS => ?_)
      refine lv_goto (tgt := 58) hx hb d_Ck_spread_54 (by decide) ?_
      exact w_Ck_spread_j58 hE C hDD n u12_x1 u12_x2 u12_T0 u12_Mk u12_Sj u12_T1 u12_Rd u12_Pg u12_Pt u12_Lk u12_Jd u12_Ld u12_Pr u12_rt z.1 z.2.1 q3 g2 q8 z.2.2 h h0 h1 _ _ _ hP hS (lv_sub hl [1, 2, 3, 4, 5, 0] rfl)
set_option maxHeartbeats 4000000 in
set_option maxRecDepth 100000 in
theorem c_Ck_spread {E : (Nat → Prop) → State → Heap → Prop} {D : va_G} {ad kd sd vd xd : Nat → Nat} {ca : Nat → ClassId} (hE : o_EK E kd sd vd xd) (l : Launch) (n : Nat) (x1 : Int32) (x2 : Int32) (T0 : STx) (Mk : SMk) (Ck : SCk) (Sj : SSJ) (T1 : STx) (Rd : SRd) (Pg : SPg) (Pt : SPt) (Lk : SLk) (Jd : SJd) (Ld : SLd) (Pr : SPr) (rt : Nat) {r : SCk} (h : m_Ck_spread n x1 x2 T0 Mk Ck = some r) : o_Cn E l D o_cls (o_tys ca) y_Ck_spread cc_Ck_spread rm_Ck_spread [.ref (ad 45), .int x1, .int x2] (o_cw ad ca rt Sj T0 T1 Rd Pg Pt Mk Lk Ck Jd Ld Pr) (o_cw ad ca rt Sj T0 T1 Rd Pg Pt Mk Lk r Jd Ld Pr) none := by
  refine o_Cn_of (by decide) (Nat.le_of_ble_eq_true rfl) ?_
  intro p e s m below meth c A ls C hD hP hS hl
  have hDD : ∀ (rt : Nat) (Sj : SSJ) (T0 : STx) (T1 : STx) (Rd : SRd) (Pg : SPg) (Pt : SPt) (Mk : SMk) (Lk : SLk) (Ck : SCk) (Jd : SJd) (Ld : SLd) (Pr : SPr), va_D A (o_cw ad ca rt Sj T0 T1 Rd Pg Pt Mk Lk Ck Jd Ld Pr) := fun _ _ _ _ _ _ _ _ _ _ _ _ _ => o_D_map hD rfl
  have hl : lv_has ls 9 [(0, .ref (ad 45)), (1, .int x1), (2, .int x2)] := hl
  unfold m_Ck_spread at h
  have C0 := C
  obtain ⟨hx, hb, -, -, -, hown, hts, hK, -, -⟩ := C0
  refine lv_aload_n hx hb d_Ck_spread_0 rfl (lv_at hl 0 rfl) ?_
  refine o_get (v := .ref (ad 1)) C in_Ck hP 45 cw_45 rfl 0 (by decide) k_2_7 rfl rfl d_Ck_spread_1 ?_
  refine lv_iload_n hx hb d_Ck_spread_4 rfl (lv_at hl 1 rfl) ?_
  obtain ⟨q1, hq1, h⟩ := o_bd_some h
  refine o_V (st1 := [.int q1]) (w1 := (o_cw ad ca rt Sj T0 T1 Rd Pg Pt Mk Lk Ck Jd Ld Pr)) hE.1 C (c_Tx_firstChild_0 hE l x1 T0 Sj T1 Rd Pg Pt Mk Lk Ck Jd Ld Pr rt hq1) hP (hDD _ _ _ _ _ _ _ _ _ _ _ _ _) hS hl.1 rfl cw_1 k_4_70 k_3_211 k_3_212 k_1_2 k_3_213 hv_Tx_firstChild rfl rfl ⟨(Nat.le_of_ble_eq_true rfl), (Nat.le_of_ble_eq_true rfl)⟩ rfl (Nat.le_of_ble_eq_true rfl) ⟨Nat.zero_le _, Nat.zero_le _⟩ rfl d_Ck_spread_5 (fun H locs hP hS => ?_)
  refine lv_istore_n (lv' := [(3, .int q1), (0, .ref (ad 45)), (1, .int x1), (2, .int x2)]) hx hb d_Ck_spread_8 rfl hl (by decide) rfl (fun ls hl => ?_)
  refine lv_iconst (v := (0:Int32)) hx hb d_Ck_spread_9 (by decide) ?_
  refine lv_istore (lv' := [(4, .int (0:Int32)), (3, .int q1), (0, .ref (ad 45)), (1, .int x1), (2, .int x2)]) hx hb d_Ck_spread_10 hl (by decide) rfl (fun ls hl => ?_)
  obtain ⟨q9, hq9, h⟩ := o_bd_some h
  refine o_sim2 (AH := fun zz => o_At p l e rm_Ck_spread s m _ below meth c _ o_cls D A 9 12 [] (o_cw ad ca rt Sj T0 T1 Rd Pg Pt Mk Lk zz.2.2 Jd Ld Pr) [(0, .ref (ad 45)), (1, .int x1), (2, .int x2), (3, .int zz.1), (4, .int zz.2.1)]) (AX := fun qq => o_At p l e rm_Ck_spread s m _ below meth c _ o_cls D A 9 177 [] (o_cw ad ca rt Sj T0 T1 Rd Pg Pt Mk Lk qq.2.2.2 Jd Ld Pr) []) (fun zz qq h h0 h1 => w_Ck_spread_b12 hE C hDD n x1 x2 T0 Mk Sj T1 Rd Pg Pt Lk Jd Ld Pr rt zz qq h h0 h1) n _ q9 hq9 ?_ _ _ _ hP hS (lv_sub hl [2, 3, 4, 1, 0] rfl)
  intro H locs ls hP hS hl
  cases h
  exact o_rv C hP hS d_Ck_spread_177
set_option maxHeartbeats 4000000 in
set_option maxRecDepth 100000 in
theorem w_Ck_leadsBack_b13 {E : (Nat → Prop) → State → Heap → Prop} {p : Program} {l : Launch} {e : Env} {s : State} {m : MethodId} {args : Array Value} {below : List Frame} {meth : Method} {c : Code} {D : va_G} {ad kd sd vd xd : Nat → Nat} {ca : Nat → ClassId} {A : Nat → Prop} {Q : State → Prop} (hE : o_EK E kd sd vd xd) (C : o_Cx E p s m args meth c D o_cls (o_tys ca) "SchemaJudge$Checker" b_Ck_leadsBack (some .boolean) 3 cc_Ck_leadsBack A) (hDD : ∀ (rt : Nat) (Sj : SSJ) (T0 : STx) (T1 : STx) (Rd : SRd) (Pg : SPg) (Pt : SPt) (Mk : SMk) (Lk : SLk) (Ck : SCk) (Jd : SJd) (Ld : SLd) (Pr : SPr), va_D A (o_cw ad ca rt Sj T0 T1 Rd Pg Pt Mk Lk Ck Jd Ld Pr)) (n : Nat) (u13_x1 : Int32) (u13_T0 : STx) (u13_Mk : SMk) (u13_Sj : SSJ) (u13_T1 : STx) (u13_Rd : SRd) (u13_Pg : SPg) (u13_Pt : SPt) (u13_Lk : SLk) (u13_Jd : SJd) (u13_Ld : SLd) (u13_Pr : SPr) (u13_rt : Nat) (z : Int32 × SCk) (q : Nat × Int32 × SCk) (h : m_Ck_leadsBack_b13 n u13_x1 u13_T0 u13_Mk z = some q) (h0 : q.1 = 0 → o_At p l e rm_Ck_leadsBack s m args below meth c Q o_cls D A 3 13 [] (o_cw ad ca u13_rt u13_Sj u13_T0 u13_T1 u13_Rd u13_Pg u13_Pt u13_Mk u13_Lk q.2.2 u13_Jd u13_Ld u13_Pr) [(0, .ref (ad 45)), (1, .int u13_x1), (2, .int q.2.1)]) (h1 : q.1 ≠ 0 → (if q.1 = 1 then o_At p l e rm_Ck_leadsBack s m args below meth c Q o_cls D A 3 31 [] (o_cw ad ca u13_rt u13_Sj u13_T0 u13_T1 u13_Rd u13_Pg u13_Pt u13_Mk u13_Lk q.2.2 u13_Jd u13_Ld u13_Pr) [] else o_At p l e rm_Ck_leadsBack s m args below meth c Q o_cls D A 3 50 [] (o_cw ad ca u13_rt u13_Sj u13_T0 u13_T1 u13_Rd u13_Pg u13_Pt u13_Mk u13_Lk q.2.2 u13_Jd u13_Ld u13_Pr) [])) : o_At p l e rm_Ck_leadsBack s m args below meth c Q o_cls D A 3 13 [] (o_cw ad ca u13_rt u13_Sj u13_T0 u13_T1 u13_Rd u13_Pg u13_Pt u13_Mk u13_Lk z.2 u13_Jd u13_Ld u13_Pr) [(0, .ref (ad 45)), (1, .int u13_x1), (2, .int z.1)] := by
  unfold m_Ck_leadsBack_b13 at h
  intro H locs ls hP hS hl
  have C0 := C
  obtain ⟨hx, hb, -, -, -, hown, hts, hK, -, -⟩ := C0
  refine lv_iload_n hx hb d_Ck_leadsBack_13 rfl (lv_at hl 2 rfl) ?_
  refine lv_aload_n hx hb d_Ck_leadsBack_14 rfl (lv_at hl 0 rfl) ?_
  refine o_get (v := .int (Ck_reachedCount z.2)) C in_Ck hP 45 cw_45 rfl 7 (by decide) k_2_14 rfl rfl d_Ck_leadsBack_15 ?_
  refine lv_icmp_ge (tgt := 50) hx hb d_Ck_leadsBack_18 (by decide) (fun c1 => ?_) (fun c1 => ?_)
  · replace h := o_tt c1 h
    cases h
    exact h1 (Nat.succ_ne_zero 1) _ _ _ hP hS (lv_sub hl [] rfl)
  · replace h := o_ff c1 h
    refine lv_aload_n hx hb d_Ck_leadsBack_21 rfl (lv_at hl 0 rfl) ?_
    refine o_get (v := .ref (ad 47)) C in_Ck hP 45 cw_45 rfl 5 (by decide) k_2_12 rfl rfl d_Ck_leadsBack_22 ?_
    refine lv_iload_n hx hb d_Ck_leadsBack_25 rfl (lv_at hl 2 rfl) ?_
    obtain ⟨g2, h⟩ := o_gd_some h
    refine o_iald (f := (Ck_reached z.2)) C hP 47 38 cw_47 rfl g2 d_Ck_leadsBack_26 ?_
    refine lv_iload_n hx hb d_Ck_leadsBack_27 rfl (lv_at hl 1 rfl) ?_
    refine lv_icmp_ne (tgt := 33) hx hb d_Ck_leadsBack_28 (by decide) (fun c3 => ?_) (fun c3 => ?_)
    · replace h := o_ff c3 h
      refine lv_aload_n hx hb d_Ck_leadsBack_33 rfl (lv_at hl 0 rfl) ?_
      refine lv_aload_n hx hb d_Ck_leadsBack_34 rfl (lv_at hl 0 rfl) ?_
      refine o_get (v := .ref (ad 47)) C in_Ck hP 45 cw_45 rfl 5 (by decide) k_2_12 rfl rfl d_Ck_leadsBack_35 ?_
      refine lv_iload_n hx hb d_Ck_leadsBack_38 rfl (lv_at hl 2 rfl) ?_
      obtain ⟨g4, h⟩ := o_gd_some h
      refine o_iald (f := (Ck_reached z.2)) C hP 47 38 cw_47 rfl g4 d_Ck_leadsBack_39 ?_
      refine lv_iload_n hx hb d_Ck_leadsBack_40 rfl (lv_at hl 1 rfl) ?_
      obtain ⟨q2, hq2, h⟩ := o_bd_some h
      refine o_V (st1 := []) (w1 := (o_cw ad ca u13_rt u13_Sj u13_T0 u13_T1 u13_Rd u13_Pg u13_Pt u13_Mk u13_Lk q2 u13_Jd u13_Ld u13_Pr)) hE.1 C (c_Ck_spread hE l n ((Ck_reached z.2) z.1.toNatClampNeg) u13_x1 u13_T0 u13_Mk z.2 u13_Sj u13_T1 u13_Rd u13_Pg u13_Pt u13_Lk u13_Jd u13_Ld u13_Pr u13_rt hq2) hP (hDD _ _ _ _ _ _ _ _ _ _ _ _ _) hS hl.1 rfl cw_45 k_5_212 k_5_214 k_s_57 k_1_7 k_5_215 hv_Ck_spread rfl rfl ⟨(Nat.le_of_ble_eq_true rfl), (Nat.le_of_ble_eq_true rfl)⟩ rfl (Nat.le_of_ble_eq_true rfl) ⟨Nat.zero_le _, Nat.zero_le _⟩ rfl d_Ck_leadsBack_41 (fun H locs hP hS => ?_)
      obtain ⟨x2_44, ex2_44⟩ : ∃ y : Int32, y = z.1 + (1:Int32) := ⟨_, rfl⟩
      replace h := o_nm_at ex2_44 h
      refine lv_iinc (v := x2_44) (lv' := [(2, .int x2_44), (0, .ref (ad 45)), (1, .int u13_x1)]) hx hb d_Ck_leadsBack_44 hl (k := 2) rfl (by rw [ex2_44]; rfl) (by decide) rfl (fun ls hl => ?_)
      refine lv_goto (tgt := 13) hx hb d_Ck_leadsBack_47 (by decide) ?_
      cases h
      exact h0 rfl _ _ _ hP hS (lv_sub hl [1, 2, 0] rfl)
    · replace h := o_tt c3 h
      cases h
      exact h1 (Nat.succ_ne_zero 0) _ _ _ hP hS (lv_sub hl [] rfl)
set_option maxHeartbeats 4000000 in
set_option maxRecDepth 100000 in
theorem c_Ck_leadsBack {E : (Nat → Prop) → State → Heap → Prop} {D : va_G} {ad kd sd vd xd : Nat → Nat} {ca : Nat → ClassId} (hE : o_EK E kd sd vd xd) (l : Launch) (n : Nat) (x1 : Int32) (T0 : STx) (Mk : SMk) (Ck : SCk) (Sj : SSJ) (T1 : STx) (Rd : SRd) (Pg : SPg) (Pt : SPt) (Lk : SLk) (Jd : SJd) (Ld : SLd) (Pr : SPr) (rt : Nat) {r : Int32 × SCk} (h : m_Ck_leadsBack n x1 T0 Mk Ck = some r) : o_Cn E l D o_cls (o_tys ca) y_Ck_leadsBack cc_Ck_leadsBack rm_Ck_leadsBack [.ref (ad 45), .int x1] (o_cw ad ca rt Sj T0 T1 Rd Pg Pt Mk Lk Ck Jd Ld Pr) (o_cw ad ca rt Sj T0 T1 Rd Pg Pt Mk Lk r.2 Jd Ld Pr) (some (.int r.1)) := by
  refine o_Cn_of (by decide) (Nat.le_of_ble_eq_true rfl) ?_
  intro p e s m below meth c A ls C hD hP hS hl
  have hDD : ∀ (rt : Nat) (Sj : SSJ) (T0 : STx) (T1 : STx) (Rd : SRd) (Pg : SPg) (Pt : SPt) (Mk : SMk) (Lk : SLk) (Ck : SCk) (Jd : SJd) (Ld : SLd) (Pr : SPr), va_D A (o_cw ad ca rt Sj T0 T1 Rd Pg Pt Mk Lk Ck Jd Ld Pr) := fun _ _ _ _ _ _ _ _ _ _ _ _ _ => o_D_map hD rfl
  have hl : lv_has ls 3 [(0, .ref (ad 45)), (1, .int x1)] := hl
  unfold m_Ck_leadsBack at h
  have C0 := C
  obtain ⟨hx, hb, -, -, -, hown, hts, hK, -, -⟩ := C0
  refine lv_aload_n hx hb d_Ck_leadsBack_0 rfl (lv_at hl 0 rfl) ?_
  refine lv_iconst (v := (0:Int32)) hx hb d_Ck_leadsBack_1 (by decide) ?_
  refine o_put (v := .int (0:Int32)) (ty := .int) (w1 := (o_cw ad ca rt Sj T0 T1 Rd Pg Pt Mk Lk (Ck_mk (Ck_aimedAt Ck) (Ck_reached Ck) (Ck_reachedFrom Ck) (0:Int32) (Ck_found Ck) (Ck_foundAt Ck)) Jd Ld Pr)) C in_Ck t_Ck t_Ck_ok n_Ck hP (hDD _ _ _ _ _ _ _ _ _ _ _ _ _) hS 45 cw_45 rfl 7 (by decide) k_2_14 rfl rfl (by decide +kernel) rfl rfl (Nat.le_of_ble_eq_true rfl) rfl d_Ck_leadsBack_2 (fun H locs hP hS => ?_)
  refine lv_aload_n hx hb d_Ck_leadsBack_5 rfl (lv_at hl 0 rfl) ?_
  refine lv_iload_n hx hb d_Ck_leadsBack_6 rfl (lv_at hl 1 rfl) ?_
  refine lv_iload_n hx hb d_Ck_leadsBack_7 rfl (lv_at hl 1 rfl) ?_
  obtain ⟨q1, hq1, h⟩ := o_bd_some h
  refine o_V (st1 := []) (w1 := (o_cw ad ca rt Sj T0 T1 Rd Pg Pt Mk Lk q1 Jd Ld Pr)) hE.1 C (c_Ck_spread hE l n x1 x1 T0 Mk (Ck_mk (Ck_aimedAt Ck) (Ck_reached Ck) (Ck_reachedFrom Ck) (0:Int32) (Ck_found Ck) (Ck_foundAt Ck)) Sj T1 Rd Pg Pt Lk Jd Ld Pr rt hq1) hP (hDD _ _ _ _ _ _ _ _ _ _ _ _ _) hS hl.1 rfl cw_45 k_5_212 k_5_214 k_s_57 k_1_7 k_5_215 hv_Ck_spread rfl rfl ⟨(Nat.le_of_ble_eq_true rfl), (Nat.le_of_ble_eq_true rfl)⟩ rfl (Nat.le_of_ble_eq_true rfl) ⟨Nat.zero_le _, Nat.zero_le _⟩ rfl d_Ck_leadsBack_8 (fun H locs hP hS => ?_)
  refine lv_iconst (v := (0:Int32)) hx hb d_Ck_leadsBack_11 (by decide) ?_
  refine lv_istore_n (lv' := [(2, .int (0:Int32)), (0, .ref (ad 45)), (1, .int x1)]) hx hb d_Ck_leadsBack_12 rfl hl (by decide) rfl (fun ls hl => ?_)
  obtain ⟨q3, hq3, h⟩ := o_bd_some h
  refine o_sim2 (AH := fun zz => o_At p l e rm_Ck_leadsBack s m _ below meth c _ o_cls D A 3 13 [] (o_cw ad ca rt Sj T0 T1 Rd Pg Pt Mk Lk zz.2 Jd Ld Pr) [(0, .ref (ad 45)), (1, .int x1), (2, .int zz.1)]) (AX := fun qq => if qq.1 = 1 then o_At p l e rm_Ck_leadsBack s m _ below meth c _ o_cls D A 3 31 [] (o_cw ad ca rt Sj T0 T1 Rd Pg Pt Mk Lk qq.2.2 Jd Ld Pr) [] else o_At p l e rm_Ck_leadsBack s m _ below meth c _ o_cls D A 3 50 [] (o_cw ad ca rt Sj T0 T1 Rd Pg Pt Mk Lk qq.2.2 Jd Ld Pr) []) (fun zz qq h h0 h1 => w_Ck_leadsBack_b13 hE C hDD n x1 T0 Mk Sj T1 Rd Pg Pt Lk Jd Ld Pr rt zz qq h h0 h1) n _ q3 hq3 ?_ _ _ _ hP hS (lv_sub hl [1, 2, 0] rfl)
  by_cases c5 : q3.1 = 1
  · replace h := o_tt c5 h
    refine o_ip c5 ?_
    intro H locs ls hP hS hl
    refine lv_iconst (v := (1:Int32)) hx hb d_Ck_leadsBack_31 (by decide) ?_
    cases h
    exact o_rz (v := (1:Int32)) C o_nar1 hP hS d_Ck_leadsBack_32
  replace h := o_ff c5 h
  refine o_in_ c5 ?_
  intro H locs ls hP hS hl
  refine lv_iconst (v := (0:Int32)) hx hb d_Ck_leadsBack_50 (by decide) ?_
  cases h
  exact o_rz (v := (0:Int32)) C o_nar0 hP hS d_Ck_leadsBack_51
set_option maxHeartbeats 4000000 in
set_option maxRecDepth 100000 in
theorem w_Ck_findCircle_b2 {E : (Nat → Prop) → State → Heap → Prop} {p : Program} {l : Launch} {e : Env} {s : State} {m : MethodId} {args : Array Value} {below : List Frame} {meth : Method} {c : Code} {D : va_G} {ad kd sd vd xd : Nat → Nat} {ca : Nat → ClassId} {A : Nat → Prop} {Q : State → Prop} (hE : o_EK E kd sd vd xd) (C : o_Cx E p s m args meth c D o_cls (o_tys ca) "SchemaJudge$Checker" b_Ck_findCircle none 2 cc_Ck_findCircle A) (hDD : ∀ (rt : Nat) (Sj : SSJ) (T0 : STx) (T1 : STx) (Rd : SRd) (Pg : SPg) (Pt : SPt) (Mk : SMk) (Lk : SLk) (Ck : SCk) (Jd : SJd) (Ld : SLd) (Pr : SPr), va_D A (o_cw ad ca rt Sj T0 T1 Rd Pg Pt Mk Lk Ck Jd Ld Pr)) (n : Nat) (u2_T0 : STx) (u2_Mk : SMk) (u2_Sj : SSJ) (u2_T1 : STx) (u2_Rd : SRd) (u2_Pg : SPg) (u2_Pt : SPt) (u2_Lk : SLk) (u2_Jd : SJd) (u2_Ld : SLd) (u2_Pr : SPr) (u2_rt : Nat) (z : Int32 × SCk) (q : Nat × Int32 × SCk) (h : m_Ck_findCircle_b2 n u2_T0 u2_Mk z = some q) (h0 : q.1 = 0 → o_At p l e rm_Ck_findCircle s m args below meth c Q o_cls D A 2 2 [] (o_cw ad ca u2_rt u2_Sj u2_T0 u2_T1 u2_Rd u2_Pg u2_Pt u2_Mk u2_Lk q.2.2 u2_Jd u2_Ld u2_Pr) [(0, .ref (ad 45)), (1, .int q.2.1)]) (h1 : q.1 ≠ 0 → (o_At p l e rm_Ck_findCircle s m args below meth c Q o_cls D A 2 50 [] (o_cw ad ca u2_rt u2_Sj u2_T0 u2_T1 u2_Rd u2_Pg u2_Pt u2_Mk u2_Lk q.2.2 u2_Jd u2_Ld u2_Pr) [])) : o_At p l e rm_Ck_findCircle s m args below meth c Q o_cls D A 2 2 [] (o_cw ad ca u2_rt u2_Sj u2_T0 u2_T1 u2_Rd u2_Pg u2_Pt u2_Mk u2_Lk z.2 u2_Jd u2_Ld u2_Pr) [(0, .ref (ad 45)), (1, .int z.1)] := by
  unfold m_Ck_findCircle_b2 at h
  intro H locs ls hP hS hl
  have C0 := C
  obtain ⟨hx, hb, -, -, -, hown, hts, hK, -, -⟩ := C0
  refine lv_iload_n hx hb d_Ck_findCircle_2 rfl (lv_at hl 1 rfl) ?_
  refine lv_aload_n hx hb d_Ck_findCircle_3 rfl (lv_at hl 0 rfl) ?_
  refine o_get (v := .ref (ad 1)) C in_Ck hP 45 cw_45 rfl 0 (by decide) k_2_7 rfl rfl d_Ck_findCircle_4 ?_
  obtain ⟨q1, hq1, h⟩ := o_bd_some h
  refine o_V (st1 := [.int q1, .int z.1]) (w1 := (o_cw ad ca u2_rt u2_Sj u2_T0 u2_T1 u2_Rd u2_Pg u2_Pt u2_Mk u2_Lk z.2 u2_Jd u2_Ld u2_Pr)) hE.1 C (c_Tx_total_0 hE l u2_T0 u2_Sj u2_T1 u2_Rd u2_Pg u2_Pt u2_Mk u2_Lk z.2 u2_Jd u2_Ld u2_Pr u2_rt hq1) hP (hDD _ _ _ _ _ _ _ _ _ _ _ _ _) hS hl.1 rfl cw_1 k_4_61 k_4_6 k_4_7 k_1_2 k_4_8 hv_Tx_total rfl rfl ⟨(Nat.le_of_ble_eq_true rfl), (Nat.le_of_ble_eq_true rfl)⟩ rfl (Nat.le_of_ble_eq_true rfl) ⟨Nat.zero_le _, Nat.zero_le _⟩ rfl d_Ck_findCircle_7 (fun H locs hP hS => ?_)
  refine lv_icmp_ge (tgt := 50) hx hb d_Ck_findCircle_10 (by decide) (fun c1 => ?_) (fun c1 => ?_)
  · replace h := o_tt c1 h
    cases h
    exact h1 (Nat.succ_ne_zero 0) _ _ _ hP hS (lv_sub hl [] rfl)
  · replace h := o_ff c1 h
    refine lv_aload_n hx hb d_Ck_findCircle_13 rfl (lv_at hl 0 rfl) ?_
    refine o_get (v := .int (Ck_found z.2)) C in_Ck hP 45 cw_45 rfl 8 (by decide) k_2_15 rfl rfl d_Ck_findCircle_14 ?_
    refine lv_if_ne (tgt := 50) hx hb d_Ck_findCircle_17 (by decide) (fun c2 => ?_) (fun c2 => ?_)
    · replace h := o_ff c2 h
      cases h
      exact h1 (Nat.succ_ne_zero 0) _ _ _ hP hS (lv_sub hl [] rfl)
    · replace h := o_tt c2 h
      refine lv_aload_n hx hb d_Ck_findCircle_20 rfl (lv_at hl 0 rfl) ?_
      refine o_get (v := .ref (ad 46)) C in_Ck hP 45 cw_45 rfl 4 (by decide) k_2_11 rfl rfl d_Ck_findCircle_21 ?_
      refine lv_iload_n hx hb d_Ck_findCircle_24 rfl (lv_at hl 1 rfl) ?_
      obtain ⟨g3, h⟩ := o_gd_some h
      refine o_zald (f := (Ck_aimedAt z.2)) C hP 46 37 cw_46 rfl g3 d_Ck_findCircle_25 ?_
      refine lv_if_eq (tgt := 44) hx hb d_Ck_findCircle_26 (by decide) (fun c4 => ?_) (fun c4 => ?_)
      · replace h := o_tt c4 h
        obtain ⟨x1_44, ex1_44⟩ : ∃ y : Int32, y = z.1 + (1:Int32) := ⟨_, rfl⟩
        replace h := o_nm_at ex1_44 h
        refine lv_iinc (v := x1_44) (lv' := [(1, .int x1_44), (0, .ref (ad 45))]) hx hb d_Ck_findCircle_44 hl (k := 1) rfl (by rw [ex1_44]; rfl) (by decide) rfl (fun ls hl => ?_)
        refine lv_goto (tgt := 2) hx hb d_Ck_findCircle_47 (by decide) ?_
        cases h
        exact h0 rfl _ _ _ hP hS (lv_sub hl [1, 0] rfl)
      · replace h := o_ff c4 h
        refine lv_aload_n hx hb d_Ck_findCircle_29 rfl (lv_at hl 0 rfl) ?_
        refine lv_iload_n hx hb d_Ck_findCircle_30 rfl (lv_at hl 1 rfl) ?_
        obtain ⟨q2, hq2, h⟩ := o_bd_some h
        refine o_V (st1 := [.int q2.1]) (w1 := (o_cw ad ca u2_rt u2_Sj u2_T0 u2_T1 u2_Rd u2_Pg u2_Pt u2_Mk u2_Lk q2.2 u2_Jd u2_Ld u2_Pr)) hE.1 C (c_Ck_leadsBack hE l n z.1 u2_T0 u2_Mk z.2 u2_Sj u2_T1 u2_Rd u2_Pg u2_Pt u2_Lk u2_Jd u2_Ld u2_Pr u2_rt hq2) hP (hDD _ _ _ _ _ _ _ _ _ _ _ _ _) hS hl.1 rfl cw_45 k_5_208 k_5_210 k_s_56 k_1_7 k_5_211 hv_Ck_leadsBack rfl rfl ⟨(Nat.le_of_ble_eq_true rfl), (Nat.le_of_ble_eq_true rfl)⟩ rfl (Nat.le_of_ble_eq_true rfl) ⟨Nat.zero_le _, Nat.zero_le _⟩ rfl d_Ck_findCircle_31 (fun H locs hP hS => ?_)
        refine lv_if_eq (tgt := 44) hx hb d_Ck_findCircle_34 (by decide) (fun c5 => ?_) (fun c5 => ?_)
        · replace h := o_tt c5 h
          obtain ⟨x1_44, ex1_44⟩ : ∃ y : Int32, y = z.1 + (1:Int32) := ⟨_, rfl⟩
          replace h := o_nm_at ex1_44 h
          refine lv_iinc (v := x1_44) (lv' := [(1, .int x1_44), (0, .ref (ad 45))]) hx hb d_Ck_findCircle_44 hl (k := 1) rfl (by rw [ex1_44]; rfl) (by decide) rfl (fun ls hl => ?_)
          refine lv_goto (tgt := 2) hx hb d_Ck_findCircle_47 (by decide) ?_
          cases h
          exact h0 rfl _ _ _ hP hS (lv_sub hl [1, 0] rfl)
        · replace h := o_ff c5 h
          refine lv_aload_n hx hb d_Ck_findCircle_37 rfl (lv_at hl 0 rfl) ?_
          refine lv_bipush (v := (6:Int32)) hx hb d_Ck_findCircle_38 (by decide) ?_
          refine lv_iload_n hx hb d_Ck_findCircle_40 rfl (lv_at hl 1 rfl) ?_
          obtain ⟨q3, hq3, h⟩ := o_bd_some h
          refine o_V (st1 := []) (w1 := (o_cw ad ca u2_rt u2_Sj u2_T0 u2_T1 u2_Rd u2_Pg u2_Pt u2_Mk u2_Lk q3 u2_Jd u2_Ld u2_Pr)) hE.1 C (c_Ck_report hE l (6:Int32) z.1 q2.2 u2_Sj u2_T0 u2_T1 u2_Rd u2_Pg u2_Pt u2_Mk u2_Lk u2_Jd u2_Ld u2_Pr u2_rt hq3) hP (hDD _ _ _ _ _ _ _ _ _ _ _ _ _) hS hl.1 rfl cw_45 k_4_57 k_4_59 k_s_20 k_1_7 k_4_60 hv_Ck_report rfl rfl ⟨(Nat.le_of_ble_eq_true rfl), (Nat.le_of_ble_eq_true rfl)⟩ rfl (Nat.le_of_ble_eq_true rfl) ⟨Nat.zero_le _, Nat.zero_le _⟩ rfl d_Ck_findCircle_41 (fun H locs hP hS => ?_)
          obtain ⟨x1_44, ex1_44⟩ : ∃ y : Int32, y = z.1 + (1:Int32) := ⟨_, rfl⟩
          replace h := o_nm_at ex1_44 h
          refine lv_iinc (v := x1_44) (lv' := [(1, .int x1_44), (0, .ref (ad 45))]) hx hb d_Ck_findCircle_44 hl (k := 1) rfl (by rw [ex1_44]; rfl) (by decide) rfl (fun ls hl => ?_)
          refine lv_goto (tgt := 2) hx hb d_Ck_findCircle_47 (by decide) ?_
          cases h
          exact h0 rfl _ _ _ hP hS (lv_sub hl [1, 0] rfl)
set_option maxHeartbeats 4000000 in
set_option maxRecDepth 100000 in
theorem c_Ck_findCircle {E : (Nat → Prop) → State → Heap → Prop} {D : va_G} {ad kd sd vd xd : Nat → Nat} {ca : Nat → ClassId} (hE : o_EK E kd sd vd xd) (l : Launch) (n : Nat)  (T0 : STx) (Mk : SMk) (Ck : SCk) (Sj : SSJ) (T1 : STx) (Rd : SRd) (Pg : SPg) (Pt : SPt) (Lk : SLk) (Jd : SJd) (Ld : SLd) (Pr : SPr) (rt : Nat) {r : SCk} (h : m_Ck_findCircle n T0 Mk Ck = some r) : o_Cn E l D o_cls (o_tys ca) y_Ck_findCircle cc_Ck_findCircle rm_Ck_findCircle [.ref (ad 45)] (o_cw ad ca rt Sj T0 T1 Rd Pg Pt Mk Lk Ck Jd Ld Pr) (o_cw ad ca rt Sj T0 T1 Rd Pg Pt Mk Lk r Jd Ld Pr) none := by
  refine o_Cn_of (by decide) (Nat.le_of_ble_eq_true rfl) ?_
  intro p e s m below meth c A ls C hD hP hS hl
  have hDD : ∀ (rt : Nat) (Sj : SSJ) (T0 : STx) (T1 : STx) (Rd : SRd) (Pg : SPg) (Pt : SPt) (Mk : SMk) (Lk : SLk) (Ck : SCk) (Jd : SJd) (Ld : SLd) (Pr : SPr), va_D A (o_cw ad ca rt Sj T0 T1 Rd Pg Pt Mk Lk Ck Jd Ld Pr) := fun _ _ _ _ _ _ _ _ _ _ _ _ _ => o_D_map hD rfl
  have hl : lv_has ls 2 [(0, .ref (ad 45))] := hl
  unfold m_Ck_findCircle at h
  have C0 := C
  obtain ⟨hx, hb, -, -, -, hown, hts, hK, -, -⟩ := C0
  refine lv_iconst (v := (0:Int32)) hx hb d_Ck_findCircle_0 (by decide) ?_
  refine lv_istore_n (lv' := [(1, .int (0:Int32)), (0, .ref (ad 45))]) hx hb d_Ck_findCircle_1 rfl hl (by decide) rfl (fun ls hl => ?_)
  obtain ⟨q4, hq4, h⟩ := o_bd_some h
  refine o_sim2 (AH := fun zz => o_At p l e rm_Ck_findCircle s m _ below meth c _ o_cls D A 2 2 [] (o_cw ad ca rt Sj T0 T1 Rd Pg Pt Mk Lk zz.2 Jd Ld Pr) [(0, .ref (ad 45)), (1, .int zz.1)]) (AX := fun qq => o_At p l e rm_Ck_findCircle s m _ below meth c _ o_cls D A 2 50 [] (o_cw ad ca rt Sj T0 T1 Rd Pg Pt Mk Lk qq.2.2 Jd Ld Pr) []) (fun zz qq h h0 h1 => w_Ck_findCircle_b2 hE C hDD n T0 Mk Sj T1 Rd Pg Pt Lk Jd Ld Pr rt zz qq h h0 h1) n _ q4 hq4 ?_ _ _ _ hP hS (lv_sub hl [1, 0] rfl)
  intro H locs ls hP hS hl
  cases h
  exact o_rv C hP hS d_Ck_findCircle_50
set_option maxHeartbeats 4000000 in
set_option maxRecDepth 100000 in
theorem w_Ck_inspect_b24 {E : (Nat → Prop) → State → Heap → Prop} {p : Program} {l : Launch} {e : Env} {s : State} {m : MethodId} {args : Array Value} {below : List Frame} {meth : Method} {c : Code} {D : va_G} {ad kd sd vd xd : Nat → Nat} {ca : Nat → ClassId} {A : Nat → Prop} {Q : State → Prop} (hE : o_EK E kd sd vd xd) (C : o_Cx E p s m args meth c D o_cls (o_tys ca) "SchemaJudge$Checker" b_Ck_inspect (some .int) 2 cc_Ck_inspect A) (hDD : ∀ (rt : Nat) (Sj : SSJ) (T0 : STx) (T1 : STx) (Rd : SRd) (Pg : SPg) (Pt : SPt) (Mk : SMk) (Lk : SLk) (Ck : SCk) (Jd : SJd) (Ld : SLd) (Pr : SPr), va_D A (o_cw ad ca rt Sj T0 T1 Rd Pg Pt Mk Lk Ck Jd Ld Pr)) (n : Nat) (u24_T0 : STx) (u24_Lk : SLk) (u24_Sj : SSJ) (u24_T1 : STx) (u24_Rd : SRd) (u24_Jd : SJd) (u24_Ld : SLd) (u24_Pr : SPr) (u24_rt : Nat) (z : Int32 × SPg × SPt × SMk × SCk) (q : Nat × Int32 × SPg × SPt × SMk × SCk) (h : m_Ck_inspect_b24 n u24_T0 u24_Lk z = some q) (h0 : q.1 = 0 → o_At p l e rm_Ck_inspect s m args below meth c Q o_cls D A 2 24 [] (o_cw ad ca u24_rt u24_Sj u24_T0 u24_T1 u24_Rd q.2.2.1 q.2.2.2.1 q.2.2.2.2.1 u24_Lk q.2.2.2.2.2 u24_Jd u24_Ld u24_Pr) [(0, .ref (ad 45)), (1, .int q.2.1)]) (h1 : q.1 ≠ 0 → (o_At p l e rm_Ck_inspect s m args below meth c Q o_cls D A 2 57 [] (o_cw ad ca u24_rt u24_Sj u24_T0 u24_T1 u24_Rd q.2.2.1 q.2.2.2.1 q.2.2.2.2.1 u24_Lk q.2.2.2.2.2 u24_Jd u24_Ld u24_Pr) [(0, .ref (ad 45))])) : o_At p l e rm_Ck_inspect s m args below meth c Q o_cls D A 2 24 [] (o_cw ad ca u24_rt u24_Sj u24_T0 u24_T1 u24_Rd z.2.1 z.2.2.1 z.2.2.2.1 u24_Lk z.2.2.2.2 u24_Jd u24_Ld u24_Pr) [(0, .ref (ad 45)), (1, .int z.1)] := by
  unfold m_Ck_inspect_b24 at h
  intro H locs ls hP hS hl
  have C0 := C
  obtain ⟨hx, hb, -, -, -, hown, hts, hK, -, -⟩ := C0
  refine lv_iload_n hx hb d_Ck_inspect_24 rfl (lv_at hl 1 rfl) ?_
  refine lv_aload_n hx hb d_Ck_inspect_25 rfl (lv_at hl 0 rfl) ?_
  refine o_get (v := .ref (ad 1)) C in_Ck hP 45 cw_45 rfl 0 (by decide) k_2_7 rfl rfl d_Ck_inspect_26 ?_
  obtain ⟨q3, hq3, h⟩ := o_bd_some h
  refine o_V (st1 := [.int q3, .int z.1]) (w1 := (o_cw ad ca u24_rt u24_Sj u24_T0 u24_T1 u24_Rd z.2.1 z.2.2.1 z.2.2.2.1 u24_Lk z.2.2.2.2 u24_Jd u24_Ld u24_Pr)) hE.1 C (c_Tx_total_0 hE l u24_T0 u24_Sj u24_T1 u24_Rd z.2.1 z.2.2.1 z.2.2.2.1 u24_Lk z.2.2.2.2 u24_Jd u24_Ld u24_Pr u24_rt hq3) hP (hDD _ _ _ _ _ _ _ _ _ _ _ _ _) hS hl.1 rfl cw_1 k_4_61 k_4_6 k_4_7 k_1_2 k_4_8 hv_Tx_total rfl rfl ⟨(Nat.le_of_ble_eq_true rfl), (Nat.le_of_ble_eq_true rfl)⟩ rfl (Nat.le_of_ble_eq_true rfl) ⟨Nat.zero_le _, Nat.zero_le _⟩ rfl d_Ck_inspect_29 (fun H locs hP hS => ?_)
  refine lv_icmp_ge (tgt := 57) hx hb d_Ck_inspect_32 (by decide) (fun c1 => ?_) (fun c1 => ?_)
  · replace h := o_tt c1 h
    cases h
    exact h1 (Nat.succ_ne_zero 0) _ _ _ hP hS (lv_sub hl [0] rfl)
  · replace h := o_ff c1 h
    refine lv_aload_n hx hb d_Ck_inspect_35 rfl (lv_at hl 0 rfl) ?_
    refine o_get (v := .ref (ad 39)) C in_Ck hP 45 cw_45 rfl 1 (by decide) k_2_8 rfl rfl d_Ck_inspect_36 ?_
    refine lv_iload_n hx hb d_Ck_inspect_39 rfl (lv_at hl 1 rfl) ?_
    obtain ⟨q4, hq4, h⟩ := o_bd_some h
    refine o_V (st1 := [.int q4]) (w1 := (o_cw ad ca u24_rt u24_Sj u24_T0 u24_T1 u24_Rd z.2.1 z.2.2.1 z.2.2.2.1 u24_Lk z.2.2.2.2 u24_Jd u24_Ld u24_Pr)) hE.1 C (c_Mk_isSchema hE l z.1 z.2.2.2.1 u24_Sj u24_T0 u24_T1 u24_Rd z.2.1 z.2.2.1 u24_Lk z.2.2.2.2 u24_Jd u24_Ld u24_Pr u24_rt hq4) hP (hDD _ _ _ _ _ _ _ _ _ _ _ _ _) hS hl.1 rfl cw_39 k_4_62 k_4_63 k_4_64 k_1_6 k_4_65 hv_Mk_isSchema rfl rfl ⟨(Nat.le_of_ble_eq_true rfl), (Nat.le_of_ble_eq_true rfl)⟩ rfl (Nat.le_of_ble_eq_true rfl) ⟨Nat.zero_le _, Nat.zero_le _⟩ rfl d_Ck_inspect_40 (fun H locs hP hS => ?_)
    refine lv_if_eq (tgt := 51) hx hb d_Ck_inspect_43 (by decide) (fun c2 => ?_) (fun c2 => ?_)
    · replace h := o_tt c2 h
      obtain ⟨x1_51, ex1_51⟩ : ∃ y : Int32, y = z.1 + (1:Int32) := ⟨_, rfl⟩
      replace h := o_nm_at ex1_51 h
      refine lv_iinc (v := x1_51) (lv' := [(1, .int x1_51), (0, .ref (ad 45))]) hx hb d_Ck_inspect_51 hl (k := 1) rfl (by rw [ex1_51]; rfl) (by decide) rfl (fun ls hl => ?_)
      refine lv_goto (tgt := 24) hx hb d_Ck_inspect_54 (by decide) ?_
      cases h
      exact h0 rfl _ _ _ hP hS (lv_sub hl [1, 0] rfl)
    · replace h := o_ff c2 h
      refine lv_aload_n hx hb d_Ck_inspect_46 rfl (lv_at hl 0 rfl) ?_
      refine lv_iload_n hx hb d_Ck_inspect_47 rfl (lv_at hl 1 rfl) ?_
      obtain ⟨q5, hq5, h⟩ := o_bd_some h
      refine o_V (st1 := []) (w1 := (o_cw ad ca u24_rt u24_Sj u24_T0 u24_T1 u24_Rd q5.1 q5.2.1 q5.2.2.1 u24_Lk q5.2.2.2 u24_Jd u24_Ld u24_Pr)) hE.1 C (c_Ck_inspectSchema hE l n z.1 u24_T0 z.2.1 z.2.2.1 z.2.2.2.1 z.2.2.2.2 u24_Sj u24_T1 u24_Rd u24_Lk u24_Jd u24_Ld u24_Pr u24_rt hq5) hP (hDD _ _ _ _ _ _ _ _ _ _ _ _ _) hS hl.1 rfl cw_45 k_4_66 k_4_68 k_s_21 k_1_7 k_4_69 hv_Ck_inspectSchema rfl rfl ⟨(Nat.le_of_ble_eq_true rfl), (Nat.le_of_ble_eq_true rfl)⟩ rfl (Nat.le_of_ble_eq_true rfl) ⟨Nat.zero_le _, Nat.zero_le _⟩ rfl d_Ck_inspect_48 (fun H locs hP hS => ?_)
      obtain ⟨x1_51, ex1_51⟩ : ∃ y : Int32, y = z.1 + (1:Int32) := ⟨_, rfl⟩
      replace h := o_nm_at ex1_51 h
      refine lv_iinc (v := x1_51) (lv' := [(1, .int x1_51), (0, .ref (ad 45))]) hx hb d_Ck_inspect_51 hl (k := 1) rfl (by rw [ex1_51]; rfl) (by decide) rfl (fun ls hl => ?_)
      refine lv_goto (tgt := 24) hx hb d_Ck_inspect_54 (by decide) ?_
      cases h
      exact h0 rfl _ _ _ hP hS (lv_sub hl [1, 0] rfl)
set_option maxHeartbeats 4000000 in
set_option maxRecDepth 100000 in
theorem w_Ck_inspect_j72 {E : (Nat → Prop) → State → Heap → Prop} {p : Program} {l : Launch} {e : Env} {s : State} {m : MethodId} {args : Array Value} {below : List Frame} {meth : Method} {c : Code} {D : va_G} {ad kd sd vd xd : Nat → Nat} {ca : Nat → ClassId} {A : Nat → Prop} (hE : o_EK E kd sd vd xd) (C : o_Cx E p s m args meth c D o_cls (o_tys ca) "SchemaJudge$Checker" b_Ck_inspect (some .int) 2 cc_Ck_inspect A) (hDD : ∀ (rt : Nat) (Sj : SSJ) (T0 : STx) (T1 : STx) (Rd : SRd) (Pg : SPg) (Pt : SPt) (Mk : SMk) (Lk : SLk) (Ck : SCk) (Jd : SJd) (Ld : SLd) (Pr : SPr), va_D A (o_cw ad ca rt Sj T0 T1 Rd Pg Pt Mk Lk Ck Jd Ld Pr)) (n : Nat)  (T0 : STx) (Pg : SPg) (Pt : SPt) (Mk : SMk) (Lk : SLk) (Ck : SCk) (Sj : SSJ) (T1 : STx) (Rd : SRd) (Jd : SJd) (Ld : SLd) (Pr : SPr) (rt : Nat) {r : Int32 × SPg × SPt × SMk × SLk × SCk} (h : m_Ck_inspect_j72 n T0 Pg Pt Mk Lk Ck = some r) : o_At p l e rm_Ck_inspect s m args below meth c (MQ below (o_Qx D o_cls (some (.int r.1)) (o_cw ad ca rt Sj T0 T1 Rd r.2.1 r.2.2.1 r.2.2.2.1 r.2.2.2.2.1 r.2.2.2.2.2 Jd Ld Pr) A) args s 0 0 A) o_cls D A 2 72 [] (o_cw ad ca rt Sj T0 T1 Rd Pg Pt Mk Lk Ck Jd Ld Pr) [(0, .ref (ad 45))] := by
  unfold m_Ck_inspect_j72 at h
  intro H locs ls hP hS hl
  have C0 := C
  obtain ⟨hx, hb, -, -, -, hown, hts, hK, -, -⟩ := C0
  refine lv_aload_n hx hb d_Ck_inspect_72 rfl (lv_at hl 0 rfl) ?_
  refine o_get (v := .int (Ck_found Ck)) C in_Ck hP 45 cw_45 rfl 8 (by decide) k_2_15 rfl rfl d_Ck_inspect_73 ?_
  refine lv_if_ne (tgt := 83) hx hb d_Ck_inspect_76 (by decide) (fun c4 => ?_) (fun c4 => ?_)
  · replace h := o_ff c4 h
    refine lv_aload_n hx hb d_Ck_inspect_83 rfl (lv_at hl 0 rfl) ?_
    refine o_get (v := .int (Ck_found Ck)) C in_Ck hP 45 cw_45 rfl 8 (by decide) k_2_15 rfl rfl d_Ck_inspect_84 ?_
    cases h
    exact o_ri (v := (Ck_found Ck)) C hP hS d_Ck_inspect_87
  · replace h := o_tt c4 h
    refine lv_aload_n hx hb d_Ck_inspect_79 rfl (lv_at hl 0 rfl) ?_
    obtain ⟨q8, hq8, h⟩ := o_bd_some h
    refine o_V (st1 := []) (w1 := (o_cw ad ca rt Sj T0 T1 Rd Pg Pt Mk Lk q8 Jd Ld Pr)) hE.1 C (c_Ck_findCircle hE l n T0 Mk Ck Sj T1 Rd Pg Pt Lk Jd Ld Pr rt hq8) hP (hDD _ _ _ _ _ _ _ _ _ _ _ _ _) hS hl.1 rfl cw_45 k_5_204 k_5_206 k_s_55 k_1_7 k_5_207 hv_Ck_findCircle rfl rfl ⟨(Nat.le_of_ble_eq_true rfl), (Nat.le_of_ble_eq_true rfl)⟩ rfl (Nat.le_of_ble_eq_true rfl) ⟨Nat.zero_le _, Nat.zero_le _⟩ rfl d_Ck_inspect_80 (fun H locs hP hS => ?_)
    refine lv_aload_n hx hb d_Ck_inspect_83 rfl (lv_at hl 0 rfl) ?_
    refine o_get (v := .int (Ck_found q8)) C in_Ck hP 45 cw_45 rfl 8 (by decide) k_2_15 rfl rfl d_Ck_inspect_84 ?_
    cases h
    exact o_ri (v := (Ck_found q8)) C hP hS d_Ck_inspect_87
set_option maxHeartbeats 4000000 in
set_option maxRecDepth 100000 in
theorem c_Ck_inspect {E : (Nat → Prop) → State → Heap → Prop} {D : va_G} {ad kd sd vd xd : Nat → Nat} {ca : Nat → ClassId} (hE : o_EK E kd sd vd xd) (l : Launch) (n : Nat)  (T0 : STx) (Pg : SPg) (Pt : SPt) (Mk : SMk) (Lk : SLk) (Ck : SCk) (Sj : SSJ) (T1 : STx) (Rd : SRd) (Jd : SJd) (Ld : SLd) (Pr : SPr) (rt : Nat) {r : Int32 × SPg × SPt × SMk × SLk × SCk} (h : m_Ck_inspect n T0 Pg Pt Mk Lk Ck = some r) : o_Cn E l D o_cls (o_tys ca) y_Ck_inspect cc_Ck_inspect rm_Ck_inspect [.ref (ad 45)] (o_cw ad ca rt Sj T0 T1 Rd Pg Pt Mk Lk Ck Jd Ld Pr) (o_cw ad ca rt Sj T0 T1 Rd r.2.1 r.2.2.1 r.2.2.2.1 r.2.2.2.2.1 r.2.2.2.2.2 Jd Ld Pr) (some (.int r.1)) := by
  refine o_Cn_of (by decide) (Nat.le_of_ble_eq_true rfl) ?_
  intro p e s m below meth c A ls C hD hP hS hl
  have hDD : ∀ (rt : Nat) (Sj : SSJ) (T0 : STx) (T1 : STx) (Rd : SRd) (Pg : SPg) (Pt : SPt) (Mk : SMk) (Lk : SLk) (Ck : SCk) (Jd : SJd) (Ld : SLd) (Pr : SPr), va_D A (o_cw ad ca rt Sj T0 T1 Rd Pg Pt Mk Lk Ck Jd Ld Pr) := fun _ _ _ _ _ _ _ _ _ _ _ _ _ => o_D_map hD rfl
  have hl : lv_has ls 2 [(0, .ref (ad 45))] := hl
  unfold m_Ck_inspect at h
  have C0 := C
  obtain ⟨hx, hb, -, -, -, hown, hts, hK, -, -⟩ := C0
  refine lv_aload_n hx hb d_Ck_inspect_0 rfl (lv_at hl 0 rfl) ?_
  refine lv_iconst (v := (0:Int32)) hx hb d_Ck_inspect_1 (by decide) ?_
  refine o_put (v := .int (0:Int32)) (ty := .int) (w1 := (o_cw ad ca rt Sj T0 T1 Rd Pg Pt Mk Lk (Ck_mk (Ck_aimedAt Ck) (Ck_reached Ck) (Ck_reachedFrom Ck) (Ck_reachedCount Ck) (0:Int32) (Ck_foundAt Ck)) Jd Ld Pr)) C in_Ck t_Ck t_Ck_ok n_Ck hP (hDD _ _ _ _ _ _ _ _ _ _ _ _ _) hS 45 cw_45 rfl 8 (by decide) k_2_15 rfl rfl (by decide +kernel) rfl rfl (Nat.le_of_ble_eq_true rfl) rfl d_Ck_inspect_2 (fun H locs hP hS => ?_)
  refine lv_aload_n hx hb d_Ck_inspect_5 rfl (lv_at hl 0 rfl) ?_
  refine lv_iconst (v := (-1:Int32)) hx hb d_Ck_inspect_6 (by decide) ?_
  refine o_put (v := .int (-1:Int32)) (ty := .int) (w1 := (o_cw ad ca rt Sj T0 T1 Rd Pg Pt Mk Lk (Ck_mk (Ck_aimedAt Ck) (Ck_reached Ck) (Ck_reachedFrom Ck) (Ck_reachedCount Ck) (0:Int32) (-1:Int32)) Jd Ld Pr)) C in_Ck t_Ck t_Ck_ok n_Ck hP (hDD _ _ _ _ _ _ _ _ _ _ _ _ _) hS 45 cw_45 rfl 9 (by decide) k_2_16 rfl rfl (by decide +kernel) rfl rfl (Nat.le_of_ble_eq_true rfl) rfl d_Ck_inspect_7 (fun H locs hP hS => ?_)
  refine lv_aload_n hx hb d_Ck_inspect_10 rfl (lv_at hl 0 rfl) ?_
  refine o_get (v := .ref (ad 39)) C in_Ck hP 45 cw_45 rfl 1 (by decide) k_2_8 rfl rfl d_Ck_inspect_11 ?_
  obtain ⟨q1, hq1, h⟩ := o_bd_some h
  refine o_V (st1 := []) (w1 := (o_cw ad ca rt Sj T0 T1 Rd Pg Pt q1 Lk (Ck_mk (Ck_aimedAt Ck) (Ck_reached Ck) (Ck_reachedFrom Ck) (Ck_reachedCount Ck) (0:Int32) (-1:Int32)) Jd Ld Pr)) hE.1 C (c_Mk_clear hE l n Mk Sj T0 T1 Rd Pg Pt Lk (Ck_mk (Ck_aimedAt Ck) (Ck_reached Ck) (Ck_reachedFrom Ck) (Ck_reachedCount Ck) (0:Int32) (-1:Int32)) Jd Ld Pr rt hq1) hP (hDD _ _ _ _ _ _ _ _ _ _ _ _ _) hS hl.1 rfl cw_39 k_4_37 k_4_38 k_4_39 k_1_6 k_4_40 hv_Mk_clear rfl rfl ⟨(Nat.le_of_ble_eq_true rfl), (Nat.le_of_ble_eq_true rfl)⟩ rfl (Nat.le_of_ble_eq_true rfl) ⟨Nat.zero_le _, Nat.zero_le _⟩ rfl d_Ck_inspect_14 (fun H locs hP hS => ?_)
  refine lv_aload_n hx hb d_Ck_inspect_17 rfl (lv_at hl 0 rfl) ?_
  refine lv_iconst (v := (0:Int32)) hx hb d_Ck_inspect_18 (by decide) ?_
  obtain ⟨q2, hq2, h⟩ := o_bd_some h
  refine o_V (st1 := []) (w1 := (o_cw ad ca rt Sj T0 T1 Rd Pg Pt q2.1 Lk q2.2 Jd Ld Pr)) hE.1 C (c_Ck_takeSchema hE l (0:Int32) T0 q1 (Ck_mk (Ck_aimedAt Ck) (Ck_reached Ck) (Ck_reachedFrom Ck) (Ck_reachedCount Ck) (0:Int32) (-1:Int32)) Sj T1 Rd Pg Pt Lk Jd Ld Pr rt hq2) hP (hDD _ _ _ _ _ _ _ _ _ _ _ _ _) hS hl.1 rfl cw_45 k_4_41 k_4_43 k_s_18 k_1_7 k_4_44 hv_Ck_takeSchema rfl rfl ⟨(Nat.le_of_ble_eq_true rfl), (Nat.le_of_ble_eq_true rfl)⟩ rfl (Nat.le_of_ble_eq_true rfl) ⟨Nat.zero_le _, Nat.zero_le _⟩ rfl d_Ck_inspect_19 (fun H locs hP hS => ?_)
  refine lv_iconst (v := (0:Int32)) hx hb d_Ck_inspect_22 (by decide) ?_
  refine lv_istore_n (lv' := [(1, .int (0:Int32)), (0, .ref (ad 45))]) hx hb d_Ck_inspect_23 rfl hl (by decide) rfl (fun ls hl => ?_)
  obtain ⟨q6, hq6, h⟩ := o_bd_some h
  refine o_sim2 (AH := fun zz => o_At p l e rm_Ck_inspect s m _ below meth c _ o_cls D A 2 24 [] (o_cw ad ca rt Sj T0 T1 Rd zz.2.1 zz.2.2.1 zz.2.2.2.1 Lk zz.2.2.2.2 Jd Ld Pr) [(0, .ref (ad 45)), (1, .int zz.1)]) (AX := fun qq => o_At p l e rm_Ck_inspect s m _ below meth c _ o_cls D A 2 57 [] (o_cw ad ca rt Sj T0 T1 Rd qq.2.2.1 qq.2.2.2.1 qq.2.2.2.2.1 Lk qq.2.2.2.2.2 Jd Ld Pr) [(0, .ref (ad 45))]) (fun zz qq h h0 h1 => w_Ck_inspect_b24 hE C hDD n T0 Lk Sj T1 Rd Jd Ld Pr rt zz qq h h0 h1) n _ q6 hq6 ?_ _ _ _ hP hS (lv_sub hl [1, 0] rfl)
  intro H locs ls hP hS hl
  refine lv_aload_n hx hb d_Ck_inspect_57 rfl (lv_at hl 0 rfl) ?_
  obtain ⟨q7, hq7, h⟩ := o_bd_some h
  refine o_V (st1 := []) (w1 := (o_cw ad ca rt Sj T0 T1 Rd q6.2.2.1 q6.2.2.2.1 q6.2.2.2.2.1 Lk q7 Jd Ld Pr)) hE.1 C (c_Ck_compareAnchors hE l n T0 q6.2.2.2.2.1 q6.2.2.2.2.2 Sj T1 Rd q6.2.2.1 q6.2.2.2.1 Lk Jd Ld Pr rt hq7) hP (hDD _ _ _ _ _ _ _ _ _ _ _ _ _) hS hl.1 rfl cw_45 k_5_114 k_5_116 k_s_43 k_1_7 k_5_117 hv_Ck_compareAnchors rfl rfl ⟨(Nat.le_of_ble_eq_true rfl), (Nat.le_of_ble_eq_true rfl)⟩ rfl (Nat.le_of_ble_eq_true rfl) ⟨Nat.zero_le _, Nat.zero_le _⟩ rfl d_Ck_inspect_58 (fun H locs hP hS => ?_)
  refine lv_aload_n hx hb d_Ck_inspect_61 rfl (lv_at hl 0 rfl) ?_
  refine o_get (v := .int (Ck_found q7)) C in_Ck hP 45 cw_45 rfl 8 (by decide) k_2_15 rfl rfl d_Ck_inspect_62 ?_
  refine lv_if_ne (tgt := 72) hx hb d_Ck_inspect_65 (by decide) (fun c3 => ?_) (fun c3 => ?_)
  · replace h := o_ff c3 h
    exact w_Ck_inspect_j72 hE C hDD n T0 q6.2.2.1 q6.2.2.2.1 q6.2.2.2.2.1 Lk q7 Sj T1 Rd Jd Ld Pr rt h _ _ _ hP hS (lv_sub hl [0] rfl)
  · replace h := o_tt c3 h
    refine lv_aload_n hx hb d_Ck_inspect_68 rfl (lv_at hl 0 rfl) ?_
    obtain ⟨q9, hq9, h⟩ := o_bd_some h
    refine o_V (st1 := []) (w1 := (o_cw ad ca rt Sj T0 T1 Rd q6.2.2.1 q6.2.2.2.1 q9.1 q9.2.1 q9.2.2 Jd Ld Pr)) hE.1 C (c_Ck_followReferences hE l n T0 q6.2.2.2.2.1 Lk q7 Sj T1 Rd q6.2.2.1 q6.2.2.2.1 Jd Ld Pr rt hq9) hP (hDD _ _ _ _ _ _ _ _ _ _ _ _ _) hS hl.1 rfl cw_45 k_5_132 k_5_134 k_s_46 k_1_7 k_5_135 hv_Ck_followReferences rfl rfl ⟨(Nat.le_of_ble_eq_true rfl), (Nat.le_of_ble_eq_true rfl)⟩ rfl (Nat.le_of_ble_eq_true rfl) ⟨Nat.zero_le _, Nat.zero_le _⟩ rfl d_Ck_inspect_69 (fun H locs hP hS => ?_)
    exact w_Ck_inspect_j72 hE C hDD n T0 q6.2.2.1 q6.2.2.2.1 q9.1 q9.2.1 q9.2.2 Sj T1 Rd Jd Ld Pr rt h _ _ _ hP hS (lv_sub hl [0] rfl)
set_option maxHeartbeats 4000000 in
set_option maxRecDepth 100000 in
theorem c_Ck_faultyValue {E : (Nat → Prop) → State → Heap → Prop} {D : va_G} {ad kd sd vd xd : Nat → Nat} {ca : Nat → ClassId} (hE : o_EK E kd sd vd xd) (l : Launch)  (Ck : SCk) (Sj : SSJ) (T0 : STx) (T1 : STx) (Rd : SRd) (Pg : SPg) (Pt : SPt) (Mk : SMk) (Lk : SLk) (Jd : SJd) (Ld : SLd) (Pr : SPr) (rt : Nat) {r : Int32} (h : m_Ck_faultyValue Ck = some r) : o_Cn E l D o_cls (o_tys ca) y_Ck_faultyValue cc_Ck_faultyValue rm_Ck_faultyValue [.ref (ad 45)] (o_cw ad ca rt Sj T0 T1 Rd Pg Pt Mk Lk Ck Jd Ld Pr) (o_cw ad ca rt Sj T0 T1 Rd Pg Pt Mk Lk Ck Jd Ld Pr) (some (.int r)) := by
  refine o_Cn_of (by decide) (Nat.le_of_ble_eq_true rfl) ?_
  intro p e s m below meth c A ls C hD hP hS hl
  have hDD : ∀ (rt : Nat) (Sj : SSJ) (T0 : STx) (T1 : STx) (Rd : SRd) (Pg : SPg) (Pt : SPt) (Mk : SMk) (Lk : SLk) (Ck : SCk) (Jd : SJd) (Ld : SLd) (Pr : SPr), va_D A (o_cw ad ca rt Sj T0 T1 Rd Pg Pt Mk Lk Ck Jd Ld Pr) := fun _ _ _ _ _ _ _ _ _ _ _ _ _ => o_D_map hD rfl
  have hl : lv_has ls 1 [(0, .ref (ad 45))] := hl
  unfold m_Ck_faultyValue at h
  have C0 := C
  obtain ⟨hx, hb, -, -, -, hown, hts, hK, -, -⟩ := C0
  refine lv_aload_n hx hb d_Ck_faultyValue_0 rfl (lv_at hl 0 rfl) ?_
  refine o_get (v := .int (Ck_foundAt Ck)) C in_Ck hP 45 cw_45 rfl 9 (by decide) k_2_16 rfl rfl d_Ck_faultyValue_1 ?_
  cases h
  exact o_ri (v := (Ck_foundAt Ck)) C hP hS d_Ck_faultyValue_4
set_option maxHeartbeats 4000000 in
set_option maxRecDepth 100000 in
theorem c_Ck_passed {E : (Nat → Prop) → State → Heap → Prop} {D : va_G} {ad kd sd vd xd : Nat → Nat} {ca : Nat → ClassId} (hE : o_EK E kd sd vd xd) (l : Launch)  (Ck : SCk) (Sj : SSJ) (T0 : STx) (T1 : STx) (Rd : SRd) (Pg : SPg) (Pt : SPt) (Mk : SMk) (Lk : SLk) (Jd : SJd) (Ld : SLd) (Pr : SPr) (rt : Nat) {r : Int32} (h : m_Ck_passed Ck = some r) : o_Cn E l D o_cls (o_tys ca) y_Ck_passed cc_Ck_passed rm_Ck_passed [.ref (ad 45)] (o_cw ad ca rt Sj T0 T1 Rd Pg Pt Mk Lk Ck Jd Ld Pr) (o_cw ad ca rt Sj T0 T1 Rd Pg Pt Mk Lk Ck Jd Ld Pr) (some (.int r)) := by
  refine o_Cn_of (by decide) (Nat.le_of_ble_eq_true rfl) ?_
  intro p e s m below meth c A ls C hD hP hS hl
  have hDD : ∀ (rt : Nat) (Sj : SSJ) (T0 : STx) (T1 : STx) (Rd : SRd) (Pg : SPg) (Pt : SPt) (Mk : SMk) (Lk : SLk) (Ck : SCk) (Jd : SJd) (Ld : SLd) (Pr : SPr), va_D A (o_cw ad ca rt Sj T0 T1 Rd Pg Pt Mk Lk Ck Jd Ld Pr) := fun _ _ _ _ _ _ _ _ _ _ _ _ _ => o_D_map hD rfl
  have hl : lv_has ls 1 [(0, .ref (ad 45))] := hl
  unfold m_Ck_passed at h
  have C0 := C
  obtain ⟨hx, hb, -, -, -, hown, hts, hK, -, -⟩ := C0
  refine lv_aload_n hx hb d_Ck_passed_0 rfl (lv_at hl 0 rfl) ?_
  refine o_get (v := .int (Ck_found Ck)) C in_Ck hP 45 cw_45 rfl 8 (by decide) k_2_15 rfl rfl d_Ck_passed_1 ?_
  refine lv_if_ne (tgt := 11) hx hb d_Ck_passed_4 (by decide) (fun c1 => ?_) (fun c1 => ?_)
  · replace h := o_ff c1 h
    refine lv_iconst (v := (0:Int32)) hx hb d_Ck_passed_11 (by decide) ?_
    cases h
    exact o_rz (v := (0:Int32)) C o_nar0 hP hS d_Ck_passed_12
  · replace h := o_tt c1 h
    refine lv_iconst (v := (1:Int32)) hx hb d_Ck_passed_7 (by decide) ?_
    refine lv_goto (tgt := 12) hx hb d_Ck_passed_8 (by decide) ?_
    cases h
    exact o_rz (v := (1:Int32)) C o_nar1 hP hS d_Ck_passed_12
set_option maxHeartbeats 4000000 in
set_option maxRecDepth 100000 in
theorem c_Pr_cut {E : (Nat → Prop) → State → Heap → Prop} {D : va_G} {ad kd sd vd xd : Nat → Nat} {ca : Nat → ClassId} (hE : o_EK E kd sd vd xd) (l : Launch) (x1 : Int32) (Pr : SPr) (Sj : SSJ) (T0 : STx) (T1 : STx) (Rd : SRd) (Pg : SPg) (Pt : SPt) (Mk : SMk) (Lk : SLk) (Ck : SCk) (Jd : SJd) (Ld : SLd) (rt : Nat) {r : SPr} (h : m_Pr_cut x1 Pr = some r) : o_Cn E l D o_cls (o_tys ca) y_Pr_cut cc_Pr_cut rm_Pr_cut [.ref (ad 54), .int x1] (o_cw ad ca rt Sj T0 T1 Rd Pg Pt Mk Lk Ck Jd Ld Pr) (o_cw ad ca rt Sj T0 T1 Rd Pg Pt Mk Lk Ck Jd Ld r) none := by
  refine o_Cn_of (by decide) (Nat.le_of_ble_eq_true rfl) ?_
  intro p e s m below meth c A ls C hD hP hS hl
  have hDD : ∀ (rt : Nat) (Sj : SSJ) (T0 : STx) (T1 : STx) (Rd : SRd) (Pg : SPg) (Pt : SPt) (Mk : SMk) (Lk : SLk) (Ck : SCk) (Jd : SJd) (Ld : SLd) (Pr : SPr), va_D A (o_cw ad ca rt Sj T0 T1 Rd Pg Pt Mk Lk Ck Jd Ld Pr) := fun _ _ _ _ _ _ _ _ _ _ _ _ _ => o_D_map hD rfl
  have hl : lv_has ls 2 [(0, .ref (ad 54)), (1, .int x1)] := hl
  unfold m_Pr_cut at h
  have C0 := C
  obtain ⟨hx, hb, -, -, -, hown, hts, hK, -, -⟩ := C0
  refine lv_iload_n hx hb d_Pr_cut_0 rfl (lv_at hl 1 rfl) ?_
  refine lv_if_lt (tgt := 17) hx hb d_Pr_cut_1 (by decide) (fun c1 => ?_) (fun c1 => ?_)
  · replace h := o_tt c1 h
    cases h
    exact o_rv C hP hS d_Pr_cut_17
  · replace h := o_ff c1 h
    refine lv_iload_n hx hb d_Pr_cut_4 rfl (lv_at hl 1 rfl) ?_
    refine lv_aload_n hx hb d_Pr_cut_5 rfl (lv_at hl 0 rfl) ?_
    refine o_get (v := .int (Pr_size Pr)) C in_Pr hP 54 cw_54 rfl 2 (by decide) k_2_66 rfl rfl d_Pr_cut_6 ?_
    refine lv_icmp_ge (tgt := 17) hx hb d_Pr_cut_9 (by decide) (fun c2 => ?_) (fun c2 => ?_)
    · replace h := o_tt c2 h
      cases h
      exact o_rv C hP hS d_Pr_cut_17
    · replace h := o_ff c2 h
      refine lv_aload_n hx hb d_Pr_cut_12 rfl (lv_at hl 0 rfl) ?_
      refine lv_iload_n hx hb d_Pr_cut_13 rfl (lv_at hl 1 rfl) ?_
      refine o_put (v := .int x1) (ty := .int) (w1 := (o_cw ad ca rt Sj T0 T1 Rd Pg Pt Mk Lk Ck Jd Ld (Pr_mk (Pr_values Pr) (Pr_keywords Pr) x1))) C in_Pr t_Pr t_Pr_ok n_Pr hP (hDD _ _ _ _ _ _ _ _ _ _ _ _ _) hS 54 cw_54 rfl 2 (by decide) k_2_66 rfl rfl (by decide +kernel) rfl rfl (Nat.le_of_ble_eq_true rfl) rfl d_Pr_cut_14 (fun H locs hP hS => ?_)
      cases h
      exact o_rv C hP hS d_Pr_cut_17
set_option maxHeartbeats 4000000 in
set_option maxRecDepth 100000 in
theorem c_Jd_begin {E : (Nat → Prop) → State → Heap → Prop} {D : va_G} {ad kd sd vd xd : Nat → Nat} {ca : Nat → ClassId} (hE : o_EK E kd sd vd xd) (l : Launch)  (Pr : SPr) (Jd : SJd) (Sj : SSJ) (T0 : STx) (T1 : STx) (Rd : SRd) (Pg : SPg) (Pt : SPt) (Mk : SMk) (Lk : SLk) (Ck : SCk) (Ld : SLd) (rt : Nat) {r : SPr × SJd} (h : m_Jd_begin Pr Jd = some r) : o_Cn E l D o_cls (o_tys ca) y_Jd_begin cc_Jd_begin rm_Jd_begin [.ref (ad 49)] (o_cw ad ca rt Sj T0 T1 Rd Pg Pt Mk Lk Ck Jd Ld Pr) (o_cw ad ca rt Sj T0 T1 Rd Pg Pt Mk Lk Ck r.2 Ld r.1) none := by
  refine o_Cn_of (by decide) (Nat.le_of_ble_eq_true rfl) ?_
  intro p e s m below meth c A ls C hD hP hS hl
  have hDD : ∀ (rt : Nat) (Sj : SSJ) (T0 : STx) (T1 : STx) (Rd : SRd) (Pg : SPg) (Pt : SPt) (Mk : SMk) (Lk : SLk) (Ck : SCk) (Jd : SJd) (Ld : SLd) (Pr : SPr), va_D A (o_cw ad ca rt Sj T0 T1 Rd Pg Pt Mk Lk Ck Jd Ld Pr) := fun _ _ _ _ _ _ _ _ _ _ _ _ _ => o_D_map hD rfl
  have hl : lv_has ls 1 [(0, .ref (ad 49))] := hl
  unfold m_Jd_begin at h
  have C0 := C
  obtain ⟨hx, hb, -, -, -, hown, hts, hK, -, -⟩ := C0
  refine lv_aload_n hx hb d_Jd_begin_0 rfl (lv_at hl 0 rfl) ?_
  refine o_get (v := .ref (ad 54)) C in_Jd hP 49 cw_49 rfl 6 (by decide) k_2_80 rfl rfl d_Jd_begin_1 ?_
  refine lv_iconst (v := (0:Int32)) hx hb d_Jd_begin_4 (by decide) ?_
  obtain ⟨q1, hq1, h⟩ := o_bd_some h
  refine o_V (st1 := []) (w1 := (o_cw ad ca rt Sj T0 T1 Rd Pg Pt Mk Lk Ck Jd Ld q1)) hE.1 C (c_Pr_cut hE l (0:Int32) Pr Sj T0 T1 Rd Pg Pt Mk Lk Ck Jd Ld rt hq1) hP (hDD _ _ _ _ _ _ _ _ _ _ _ _ _) hS hl.1 rfl cw_54 k_6_3 k_6_4 k_6_5 k_1_11 k_6_6 hv_Pr_cut rfl rfl ⟨(Nat.le_of_ble_eq_true rfl), (Nat.le_of_ble_eq_true rfl)⟩ rfl (Nat.le_of_ble_eq_true rfl) ⟨Nat.zero_le _, Nat.zero_le _⟩ rfl d_Jd_begin_5 (fun H locs hP hS => ?_)
  refine lv_aload_n hx hb d_Jd_begin_8 rfl (lv_at hl 0 rfl) ?_
  refine lv_iconst (v := (0:Int32)) hx hb d_Jd_begin_9 (by decide) ?_
  refine o_put (v := .int (0:Int32)) (ty := .int) (w1 := (o_cw ad ca rt Sj T0 T1 Rd Pg Pt Mk Lk Ck (Jd_mk (Jd_evaluated Jd) (0:Int32) (Jd_over Jd) (Jd_schemas Jd) (Jd_deepest Jd)) Ld q1)) C in_Jd t_Jd t_Jd_ok n_Jd hP (hDD _ _ _ _ _ _ _ _ _ _ _ _ _) hS 49 cw_49 rfl 8 (by decide) k_2_82 rfl rfl (by decide +kernel) rfl rfl (Nat.le_of_ble_eq_true rfl) rfl d_Jd_begin_10 (fun H locs hP hS => ?_)
  refine lv_aload_n hx hb d_Jd_begin_13 rfl (lv_at hl 0 rfl) ?_
  refine lv_iconst (v := (0:Int32)) hx hb d_Jd_begin_14 (by decide) ?_
  refine o_put (v := .int (0:Int32)) (ty := .boolean) (w1 := (o_cw ad ca rt Sj T0 T1 Rd Pg Pt Mk Lk Ck (Jd_mk (Jd_evaluated Jd) (0:Int32) (0:Int32) (Jd_schemas Jd) (Jd_deepest Jd)) Ld q1)) C in_Jd t_Jd t_Jd_ok n_Jd hP (hDD _ _ _ _ _ _ _ _ _ _ _ _ _) hS 49 cw_49 rfl 9 (by decide) k_2_83 rfl rfl (by decide +kernel) rfl rfl (Nat.le_of_ble_eq_true rfl) rfl d_Jd_begin_15 (fun H locs hP hS => ?_)
  refine lv_aload_n hx hb d_Jd_begin_18 rfl (lv_at hl 0 rfl) ?_
  refine lv_iconst (v := (0:Int32)) hx hb d_Jd_begin_19 (by decide) ?_
  refine o_put (v := .int (0:Int32)) (ty := .int) (w1 := (o_cw ad ca rt Sj T0 T1 Rd Pg Pt Mk Lk Ck (Jd_mk (Jd_evaluated Jd) (0:Int32) (0:Int32) (0:Int32) (Jd_deepest Jd)) Ld q1)) C in_Jd t_Jd t_Jd_ok n_Jd hP (hDD _ _ _ _ _ _ _ _ _ _ _ _ _) hS 49 cw_49 rfl 10 (by decide) k_2_84 rfl rfl (by decide +kernel) rfl rfl (Nat.le_of_ble_eq_true rfl) rfl d_Jd_begin_20 (fun H locs hP hS => ?_)
  refine lv_aload_n hx hb d_Jd_begin_23 rfl (lv_at hl 0 rfl) ?_
  refine lv_iconst (v := (0:Int32)) hx hb d_Jd_begin_24 (by decide) ?_
  refine o_put (v := .int (0:Int32)) (ty := .int) (w1 := (o_cw ad ca rt Sj T0 T1 Rd Pg Pt Mk Lk Ck (Jd_mk (Jd_evaluated Jd) (0:Int32) (0:Int32) (0:Int32) (0:Int32)) Ld q1)) C in_Jd t_Jd t_Jd_ok n_Jd hP (hDD _ _ _ _ _ _ _ _ _ _ _ _ _) hS 49 cw_49 rfl 11 (by decide) k_2_85 rfl rfl (by decide +kernel) rfl rfl (Nat.le_of_ble_eq_true rfl) rfl d_Jd_begin_25 (fun H locs hP hS => ?_)
  cases h
  exact o_rv C hP hS d_Jd_begin_28
set_option maxHeartbeats 4000000 in
set_option maxRecDepth 100000 in
theorem c_Jd_enter {E : (Nat → Prop) → State → Heap → Prop} {D : va_G} {ad kd sd vd xd : Nat → Nat} {ca : Nat → ClassId} (hE : o_EK E kd sd vd xd) (l : Launch) (x1 : Int32) (Jd : SJd) (Sj : SSJ) (T0 : STx) (T1 : STx) (Rd : SRd) (Pg : SPg) (Pt : SPt) (Mk : SMk) (Lk : SLk) (Ck : SCk) (Ld : SLd) (Pr : SPr) (rt : Nat) {r : Int32 × SJd} (h : m_Jd_enter x1 Jd = some r) : o_Cn E l D o_cls (o_tys ca) y_Jd_enter cc_Jd_enter rm_Jd_enter [.ref (ad 49), .int x1] (o_cw ad ca rt Sj T0 T1 Rd Pg Pt Mk Lk Ck Jd Ld Pr) (o_cw ad ca rt Sj T0 T1 Rd Pg Pt Mk Lk Ck r.2 Ld Pr) (some (.int r.1)) := by
  refine o_Cn_of (by decide) (Nat.le_of_ble_eq_true rfl) ?_
  intro p e s m below meth c A ls C hD hP hS hl
  have hDD : ∀ (rt : Nat) (Sj : SSJ) (T0 : STx) (T1 : STx) (Rd : SRd) (Pg : SPg) (Pt : SPt) (Mk : SMk) (Lk : SLk) (Ck : SCk) (Jd : SJd) (Ld : SLd) (Pr : SPr), va_D A (o_cw ad ca rt Sj T0 T1 Rd Pg Pt Mk Lk Ck Jd Ld Pr) := fun _ _ _ _ _ _ _ _ _ _ _ _ _ => o_D_map hD rfl
  have hl : lv_has ls 2 [(0, .ref (ad 49)), (1, .int x1)] := hl
  unfold m_Jd_enter at h
  have C0 := C
  obtain ⟨hx, hb, -, -, -, hown, hts, hK, -, -⟩ := C0
  refine lv_aload_n hx hb d_Jd_enter_0 rfl (lv_at hl 0 rfl) ?_
  refine lv_dup hx hb d_Jd_enter_1 rfl ?_
  refine o_get (v := .int (Jd_schemas Jd)) C in_Jd hP 49 cw_49 rfl 10 (by decide) k_2_84 rfl rfl d_Jd_enter_2 ?_
  refine lv_iconst (v := (1:Int32)) hx hb d_Jd_enter_5 (by decide) ?_
  refine lv_iadd hx hb d_Jd_enter_6 ?_
  refine o_put (v := .int ((Jd_schemas Jd) + (1:Int32))) (ty := .int) (w1 := (o_cw ad ca rt Sj T0 T1 Rd Pg Pt Mk Lk Ck (Jd_mk (Jd_evaluated Jd) (Jd_silences Jd) (Jd_over Jd) ((Jd_schemas Jd) + (1:Int32)) (Jd_deepest Jd)) Ld Pr)) C in_Jd t_Jd t_Jd_ok n_Jd hP (hDD _ _ _ _ _ _ _ _ _ _ _ _ _) hS 49 cw_49 rfl 10 (by decide) k_2_84 rfl rfl (by decide +kernel) rfl rfl (Nat.le_of_ble_eq_true rfl) rfl d_Jd_enter_7 (fun H locs hP hS => ?_)
  refine lv_iload_n hx hb d_Jd_enter_10 rfl (lv_at hl 1 rfl) ?_
  refine lv_iconst (v := (1:Int32)) hx hb d_Jd_enter_11 (by decide) ?_
  refine lv_icmp_lt (tgt := 31) hx hb d_Jd_enter_12 (by decide) (fun c1 => ?_) (fun c1 => ?_)
  · replace h := o_tt c1 h
    refine lv_aload_n hx hb d_Jd_enter_31 rfl (lv_at hl 0 rfl) ?_
    refine lv_iconst (v := (1:Int32)) hx hb d_Jd_enter_32 (by decide) ?_
    refine o_put (v := .int (1:Int32)) (ty := .boolean) (w1 := (o_cw ad ca rt Sj T0 T1 Rd Pg Pt Mk Lk Ck (Jd_mk (Jd_evaluated Jd) (Jd_silences Jd) (1:Int32) ((Jd_schemas Jd) + (1:Int32)) (Jd_deepest Jd)) Ld Pr)) C in_Jd t_Jd t_Jd_ok n_Jd hP (hDD _ _ _ _ _ _ _ _ _ _ _ _ _) hS 49 cw_49 rfl 9 (by decide) k_2_83 rfl rfl (by decide +kernel) rfl rfl (Nat.le_of_ble_eq_true rfl) rfl d_Jd_enter_33 (fun H locs hP hS => ?_)
    refine lv_iconst (v := (0:Int32)) hx hb d_Jd_enter_36 (by decide) ?_
    cases h
    exact o_rz (v := (0:Int32)) C o_nar0 hP hS d_Jd_enter_37
  · replace h := o_ff c1 h
    refine lv_iload_n hx hb d_Jd_enter_15 rfl (lv_at hl 1 rfl) ?_
    refine lv_bipush (v := (100:Int32)) hx hb d_Jd_enter_16 (by decide) ?_
    refine lv_icmp_gt (tgt := 31) hx hb d_Jd_enter_18 (by decide) (fun c2 => ?_) (fun c2 => ?_)
    · replace h := o_tt c2 h
      refine lv_aload_n hx hb d_Jd_enter_31 rfl (lv_at hl 0 rfl) ?_
      refine lv_iconst (v := (1:Int32)) hx hb d_Jd_enter_32 (by decide) ?_
      refine o_put (v := .int (1:Int32)) (ty := .boolean) (w1 := (o_cw ad ca rt Sj T0 T1 Rd Pg Pt Mk Lk Ck (Jd_mk (Jd_evaluated Jd) (Jd_silences Jd) (1:Int32) ((Jd_schemas Jd) + (1:Int32)) (Jd_deepest Jd)) Ld Pr)) C in_Jd t_Jd t_Jd_ok n_Jd hP (hDD _ _ _ _ _ _ _ _ _ _ _ _ _) hS 49 cw_49 rfl 9 (by decide) k_2_83 rfl rfl (by decide +kernel) rfl rfl (Nat.le_of_ble_eq_true rfl) rfl d_Jd_enter_33 (fun H locs hP hS => ?_)
      refine lv_iconst (v := (0:Int32)) hx hb d_Jd_enter_36 (by decide) ?_
      cases h
      exact o_rz (v := (0:Int32)) C o_nar0 hP hS d_Jd_enter_37
    · replace h := o_ff c2 h
      refine lv_aload_n hx hb d_Jd_enter_21 rfl (lv_at hl 0 rfl) ?_
      refine o_get (v := .int ((Jd_schemas Jd) + (1:Int32))) C in_Jd hP 49 cw_49 rfl 10 (by decide) k_2_84 rfl rfl d_Jd_enter_22 ?_
      refine lv_sipush (v := (20000:Int32)) hx hb d_Jd_enter_25 (by decide) ?_
      refine lv_icmp_le (tgt := 38) hx hb d_Jd_enter_28 (by decide) (fun c3 => ?_) (fun c3 => ?_)
      · replace h := o_tt c3 h
        refine lv_aload_n hx hb d_Jd_enter_38 rfl (lv_at hl 0 rfl) ?_
        refine lv_aload_n hx hb d_Jd_enter_39 rfl (lv_at hl 0 rfl) ?_
        refine o_get (v := .int (Jd_deepest Jd)) C in_Jd hP 49 cw_49 rfl 11 (by decide) k_2_85 rfl rfl d_Jd_enter_40 ?_
        refine lv_iload_n hx hb d_Jd_enter_43 rfl (lv_at hl 1 rfl) ?_
        refine va_mmax hx hb (C.2.2.2.2.1.trans hl.1.symm) hown (hts _ k_6_15) (hts _ k_4_152) (hts _ k_1_26) (hts _ k_4_153) (Nat.le_of_ble_eq_true rfl) (Nat.le_of_ble_eq_true rfl) (Nat.zero_le _) (Nat.zero_le _) d_Jd_enter_44 ?_
        refine o_put (v := .int (if (Jd_deepest Jd) < x1 then x1 else (Jd_deepest Jd))) (ty := .int) (w1 := (o_cw ad ca rt Sj T0 T1 Rd Pg Pt Mk Lk Ck (Jd_mk (Jd_evaluated Jd) (Jd_silences Jd) (Jd_over Jd) ((Jd_schemas Jd) + (1:Int32)) (if (Jd_deepest Jd) < x1 then x1 else (Jd_deepest Jd))) Ld Pr)) C in_Jd t_Jd t_Jd_ok n_Jd hP (hDD _ _ _ _ _ _ _ _ _ _ _ _ _) hS 49 cw_49 rfl 11 (by decide) k_2_85 rfl rfl (by decide +kernel) rfl rfl (Nat.le_of_ble_eq_true rfl) rfl d_Jd_enter_47 (fun H locs hP hS => ?_)
        refine lv_aload_n hx hb d_Jd_enter_50 rfl (lv_at hl 0 rfl) ?_
        refine o_get (v := .ref (ad 50)) C in_Jd hP 49 cw_49 rfl 7 (by decide) k_2_81 rfl rfl d_Jd_enter_51 ?_
        refine lv_iload_n hx hb d_Jd_enter_54 rfl (lv_at hl 1 rfl) ?_
        refine lv_lconst (v := (0:Int64)) hx hb d_Jd_enter_55 (by decide) ?_
        obtain ⟨g4, h⟩ := o_gd_some h
        refine o_last (f := (Jd_evaluated Jd)) (w1 := (o_cw ad ca rt Sj T0 T1 Rd Pg Pt Mk Lk Ck (Jd_mk (vp_updL (Jd_evaluated Jd) x1.toNatClampNeg (0:Int64)) (Jd_silences Jd) (Jd_over Jd) ((Jd_schemas Jd) + (1:Int32)) (if (Jd_deepest Jd) < x1 then x1 else (Jd_deepest Jd))) Ld Pr)) C hP (hDD _ _ _ _ _ _ _ _ _ _ _ _ _) hS 50 40 cw_50 rfl g4 rfl d_Jd_enter_56 (fun H locs hP hS => ?_)
        refine lv_iconst (v := (1:Int32)) hx hb d_Jd_enter_57 (by decide) ?_
        cases h
        exact o_rz (v := (1:Int32)) C o_nar1 hP hS d_Jd_enter_58
      · replace h := o_ff c3 h
        refine lv_aload_n hx hb d_Jd_enter_31 rfl (lv_at hl 0 rfl) ?_
        refine lv_iconst (v := (1:Int32)) hx hb d_Jd_enter_32 (by decide) ?_
        refine o_put (v := .int (1:Int32)) (ty := .boolean) (w1 := (o_cw ad ca rt Sj T0 T1 Rd Pg Pt Mk Lk Ck (Jd_mk (Jd_evaluated Jd) (Jd_silences Jd) (1:Int32) ((Jd_schemas Jd) + (1:Int32)) (Jd_deepest Jd)) Ld Pr)) C in_Jd t_Jd t_Jd_ok n_Jd hP (hDD _ _ _ _ _ _ _ _ _ _ _ _ _) hS 49 cw_49 rfl 9 (by decide) k_2_83 rfl rfl (by decide +kernel) rfl rfl (Nat.le_of_ble_eq_true rfl) rfl d_Jd_enter_33 (fun H locs hP hS => ?_)
        refine lv_iconst (v := (0:Int32)) hx hb d_Jd_enter_36 (by decide) ?_
        cases h
        exact o_rz (v := (0:Int32)) C o_nar0 hP hS d_Jd_enter_37
set_option maxHeartbeats 4000000 in
set_option maxRecDepth 100000 in
theorem w_Pr_add_b13 {E : (Nat → Prop) → State → Heap → Prop} {p : Program} {l : Launch} {e : Env} {s : State} {m : MethodId} {args : Array Value} {below : List Frame} {meth : Method} {c : Code} {D : va_G} {ad kd sd vd xd : Nat → Nat} {ca : Nat → ClassId} {A : Nat → Prop} {Q : State → Prop} (hE : o_EK E kd sd vd xd) (C : o_Cx E p s m args meth c D o_cls (o_tys ca) "SchemaJudge$Pairs" b_Pr_add none 4 cc_Pr_add A) (hDD : ∀ (rt : Nat) (Sj : SSJ) (T0 : STx) (T1 : STx) (Rd : SRd) (Pg : SPg) (Pt : SPt) (Mk : SMk) (Lk : SLk) (Ck : SCk) (Jd : SJd) (Ld : SLd) (Pr : SPr), va_D A (o_cw ad ca rt Sj T0 T1 Rd Pg Pt Mk Lk Ck Jd Ld Pr)) (n : Nat) (u13_x1 : Int32) (u13_x2 : Int32) (u13_Pr : SPr) (u13_Sj : SSJ) (u13_T0 : STx) (u13_T1 : STx) (u13_Rd : SRd) (u13_Pg : SPg) (u13_Pt : SPt) (u13_Mk : SMk) (u13_Lk : SLk) (u13_Ck : SCk) (u13_Jd : SJd) (u13_Ld : SLd) (u13_rt : Nat) (z : Int32) (q : Nat × Int32) (h : m_Pr_add_b13 n u13_x1 u13_x2 u13_Pr z = some q) (h0 : q.1 = 0 → o_At p l e rm_Pr_add s m args below meth c Q o_cls D A 4 13 [] (o_cw ad ca u13_rt u13_Sj u13_T0 u13_T1 u13_Rd u13_Pg u13_Pt u13_Mk u13_Lk u13_Ck u13_Jd u13_Ld u13_Pr) [(0, .ref (ad 54)), (1, .int u13_x1), (2, .int u13_x2), (3, .int q.2)]) (h1 : q.1 ≠ 0 → (if q.1 = 1 then o_At p l e rm_Pr_add s m args below meth c Q o_cls D A 4 41 [] (o_cw ad ca u13_rt u13_Sj u13_T0 u13_T1 u13_Rd u13_Pg u13_Pt u13_Mk u13_Lk u13_Ck u13_Jd u13_Ld u13_Pr) [] else o_At p l e rm_Pr_add s m args below meth c Q o_cls D A 4 48 [] (o_cw ad ca u13_rt u13_Sj u13_T0 u13_T1 u13_Rd u13_Pg u13_Pt u13_Mk u13_Lk u13_Ck u13_Jd u13_Ld u13_Pr) [(0, .ref (ad 54)), (1, .int u13_x1), (2, .int u13_x2)])) : o_At p l e rm_Pr_add s m args below meth c Q o_cls D A 4 13 [] (o_cw ad ca u13_rt u13_Sj u13_T0 u13_T1 u13_Rd u13_Pg u13_Pt u13_Mk u13_Lk u13_Ck u13_Jd u13_Ld u13_Pr) [(0, .ref (ad 54)), (1, .int u13_x1), (2, .int u13_x2), (3, .int z)] := by
  unfold m_Pr_add_b13 at h
  intro H locs ls hP hS hl
  have C0 := C
  obtain ⟨hx, hb, -, -, -, hown, hts, hK, -, -⟩ := C0
  refine lv_iload_n hx hb d_Pr_add_13 rfl (lv_at hl 3 rfl) ?_
  refine lv_aload_n hx hb d_Pr_add_14 rfl (lv_at hl 0 rfl) ?_
  refine o_get (v := .int (Pr_size u13_Pr)) C in_Pr hP 54 cw_54 rfl 2 (by decide) k_2_66 rfl rfl d_Pr_add_15 ?_
  refine lv_icmp_ge (tgt := 48) hx hb d_Pr_add_18 (by decide) (fun c2 => ?_) (fun c2 => ?_)
  · replace h := o_tt c2 h
    cases h
    exact h1 (Nat.succ_ne_zero 1) _ _ _ hP hS (lv_sub hl [0, 1, 2] rfl)
  · replace h := o_ff c2 h
    refine lv_aload_n hx hb d_Pr_add_21 rfl (lv_at hl 0 rfl) ?_
    refine o_get (v := .ref (ad 55)) C in_Pr hP 54 cw_54 rfl 0 (by decide) k_2_64 rfl rfl d_Pr_add_22 ?_
    refine lv_iload_n hx hb d_Pr_add_25 rfl (lv_at hl 3 rfl) ?_
    obtain ⟨g3, h⟩ := o_gd_some h
    refine o_iald (f := (Pr_values u13_Pr)) C hP 55 43 cw_55 rfl g3 d_Pr_add_26 ?_
    refine lv_iload_n hx hb d_Pr_add_27 rfl (lv_at hl 1 rfl) ?_
    refine lv_icmp_ne (tgt := 42) hx hb d_Pr_add_28 (by decide) (fun c4 => ?_) (fun c4 => ?_)
    · replace h := o_ff c4 h
      obtain ⟨x3_42, ex3_42⟩ : ∃ y : Int32, y = z + (1:Int32) := ⟨_, rfl⟩
      replace h := o_nm_at ex3_42 h
      refine lv_iinc (v := x3_42) (lv' := [(3, .int x3_42), (0, .ref (ad 54)), (1, .int u13_x1), (2, .int u13_x2)]) hx hb d_Pr_add_42 hl (k := 3) rfl (by rw [ex3_42]; rfl) (by decide) rfl (fun ls hl => ?_)
      refine lv_goto (tgt := 13) hx hb d_Pr_add_45 (by decide) ?_
      cases h
      exact h0 rfl _ _ _ hP hS (lv_sub hl [1, 2, 3, 0] rfl)
    · replace h := o_tt c4 h
      refine lv_aload_n hx hb d_Pr_add_31 rfl (lv_at hl 0 rfl) ?_
      refine o_get (v := .ref (ad 56)) C in_Pr hP 54 cw_54 rfl 1 (by decide) k_2_65 rfl rfl d_Pr_add_32 ?_
      refine lv_iload_n hx hb d_Pr_add_35 rfl (lv_at hl 3 rfl) ?_
      obtain ⟨g5, h⟩ := o_gd_some h
      refine o_iald (f := (Pr_keywords u13_Pr)) C hP 56 44 cw_56 rfl g5 d_Pr_add_36 ?_
      refine lv_iload_n hx hb d_Pr_add_37 rfl (lv_at hl 2 rfl) ?_
      refine lv_icmp_ne (tgt := 42) hx hb d_Pr_add_38 (by decide) (fun c6 => ?_) (fun c6 => ?_)
      · replace h := o_ff c6 h
        obtain ⟨x3_42, ex3_42⟩ : ∃ y : Int32, y = z + (1:Int32) := ⟨_, rfl⟩
        replace h := o_nm_at ex3_42 h
        refine lv_iinc (v := x3_42) (lv' := [(3, .int x3_42), (0, .ref (ad 54)), (1, .int u13_x1), (2, .int u13_x2)]) hx hb d_Pr_add_42 hl (k := 3) rfl (by rw [ex3_42]; rfl) (by decide) rfl (fun ls hl => ?_)
        refine lv_goto (tgt := 13) hx hb d_Pr_add_45 (by decide) ?_
        cases h
        exact h0 rfl _ _ _ hP hS (lv_sub hl [1, 2, 3, 0] rfl)
      · replace h := o_tt c6 h
        cases h
        exact h1 (Nat.succ_ne_zero 0) _ _ _ hP hS (lv_sub hl [] rfl)
set_option maxHeartbeats 4000000 in
set_option maxRecDepth 100000 in
theorem c_Pr_add {E : (Nat → Prop) → State → Heap → Prop} {D : va_G} {ad kd sd vd xd : Nat → Nat} {ca : Nat → ClassId} (hE : o_EK E kd sd vd xd) (l : Launch) (n : Nat) (x1 : Int32) (x2 : Int32) (Pr : SPr) (Sj : SSJ) (T0 : STx) (T1 : STx) (Rd : SRd) (Pg : SPg) (Pt : SPt) (Mk : SMk) (Lk : SLk) (Ck : SCk) (Jd : SJd) (Ld : SLd) (rt : Nat) {r : SPr} (h : m_Pr_add n x1 x2 Pr = some r) : o_Cn E l D o_cls (o_tys ca) y_Pr_add cc_Pr_add rm_Pr_add [.ref (ad 54), .int x1, .int x2] (o_cw ad ca rt Sj T0 T1 Rd Pg Pt Mk Lk Ck Jd Ld Pr) (o_cw ad ca rt Sj T0 T1 Rd Pg Pt Mk Lk Ck Jd Ld r) none := by
  refine o_Cn_of (by decide) (Nat.le_of_ble_eq_true rfl) ?_
  intro p e s m below meth c A ls C hD hP hS hl
  have hDD : ∀ (rt : Nat) (Sj : SSJ) (T0 : STx) (T1 : STx) (Rd : SRd) (Pg : SPg) (Pt : SPt) (Mk : SMk) (Lk : SLk) (Ck : SCk) (Jd : SJd) (Ld : SLd) (Pr : SPr), va_D A (o_cw ad ca rt Sj T0 T1 Rd Pg Pt Mk Lk Ck Jd Ld Pr) := fun _ _ _ _ _ _ _ _ _ _ _ _ _ => o_D_map hD rfl
  have hl : lv_has ls 4 [(0, .ref (ad 54)), (1, .int x1), (2, .int x2)] := hl
  unfold m_Pr_add at h
  have C0 := C
  obtain ⟨hx, hb, -, -, -, hown, hts, hK, -, -⟩ := C0
  refine lv_aload_n hx hb d_Pr_add_0 rfl (lv_at hl 0 rfl) ?_
  refine o_get (v := .int (Pr_size Pr)) C in_Pr hP 54 cw_54 rfl 2 (by decide) k_2_66 rfl rfl d_Pr_add_1 ?_
  refine lv_sipush (v := (300:Int32)) hx hb d_Pr_add_4 (by decide) ?_
  refine lv_icmp_lt (tgt := 11) hx hb d_Pr_add_7 (by decide) (fun c1 => ?_) (fun c1 => ?_)
  · replace h := o_tt c1 h
    refine lv_iconst (v := (0:Int32)) hx hb d_Pr_add_11 (by decide) ?_
    refine lv_istore_n (lv' := [(3, .int (0:Int32)), (0, .ref (ad 54)), (1, .int x1), (2, .int x2)]) hx hb d_Pr_add_12 rfl hl (by decide) rfl (fun ls hl => ?_)
    obtain ⟨q1, hq1, h⟩ := o_bd_some h
    refine o_sim2 (AH := fun zz => o_At p l e rm_Pr_add s m _ below meth c _ o_cls D A 4 13 [] (o_cw ad ca rt Sj T0 T1 Rd Pg Pt Mk Lk Ck Jd Ld Pr) [(0, .ref (ad 54)), (1, .int x1), (2, .int x2), (3, .int zz)]) (AX := fun qq => if qq.1 = 1 then o_At p l e rm_Pr_add s m _ below meth c _ o_cls D A 4 41 [] (o_cw ad ca rt Sj T0 T1 Rd Pg Pt Mk Lk Ck Jd Ld Pr) [] else o_At p l e rm_Pr_add s m _ below meth c _ o_cls D A 4 48 [] (o_cw ad ca rt Sj T0 T1 Rd Pg Pt Mk Lk Ck Jd Ld Pr) [(0, .ref (ad 54)), (1, .int x1), (2, .int x2)]) (fun zz qq h h0 h1 => w_Pr_add_b13 hE C hDD n x1 x2 Pr Sj T0 T1 Rd Pg Pt Mk Lk Ck Jd Ld rt zz qq h h0 h1) n _ q1 hq1 ?_ _ _ _ hP hS (lv_sub hl [1, 2, 3, 0] rfl)
    by_cases c9 : q1.1 = 1
    · replace h := o_tt c9 h
      refine o_ip c9 ?_
      intro H locs ls hP hS hl
      cases h
      exact o_rv C hP hS d_Pr_add_41
    replace h := o_ff c9 h
    refine o_in_ c9 ?_
    intro H locs ls hP hS hl
    refine lv_aload_n hx hb d_Pr_add_48 rfl (lv_at hl 0 rfl) ?_
    refine o_get (v := .ref (ad 55)) C in_Pr hP 54 cw_54 rfl 0 (by decide) k_2_64 rfl rfl d_Pr_add_49 ?_
    refine lv_aload_n hx hb d_Pr_add_52 rfl (lv_at hl 0 rfl) ?_
    refine o_get (v := .int (Pr_size Pr)) C in_Pr hP 54 cw_54 rfl 2 (by decide) k_2_66 rfl rfl d_Pr_add_53 ?_
    refine lv_iload_n hx hb d_Pr_add_56 rfl (lv_at hl 1 rfl) ?_
    obtain ⟨g7, h⟩ := o_gd_some h
    refine o_iast (f := (Pr_values Pr)) (w1 := (o_cw ad ca rt Sj T0 T1 Rd Pg Pt Mk Lk Ck Jd Ld (Pr_mk (upd (Pr_values Pr) (Pr_size Pr).toNatClampNeg x1) (Pr_keywords Pr) (Pr_size Pr)))) C hP (hDD _ _ _ _ _ _ _ _ _ _ _ _ _) hS 55 43 cw_55 rfl g7 rfl d_Pr_add_57 (fun H locs hP hS => ?_)
    refine lv_aload_n hx hb d_Pr_add_58 rfl (lv_at hl 0 rfl) ?_
    refine o_get (v := .ref (ad 56)) C in_Pr hP 54 cw_54 rfl 1 (by decide) k_2_65 rfl rfl d_Pr_add_59 ?_
    refine lv_aload_n hx hb d_Pr_add_62 rfl (lv_at hl 0 rfl) ?_
    refine o_get (v := .int (Pr_size Pr)) C in_Pr hP 54 cw_54 rfl 2 (by decide) k_2_66 rfl rfl d_Pr_add_63 ?_
    refine lv_iload_n hx hb d_Pr_add_66 rfl (lv_at hl 2 rfl) ?_
    obtain ⟨g8, h⟩ := o_gd_some h
    refine o_iast (f := (Pr_keywords Pr)) (w1 := (o_cw ad ca rt Sj T0 T1 Rd Pg Pt Mk Lk Ck Jd Ld (Pr_mk (upd (Pr_values Pr) (Pr_size Pr).toNatClampNeg x1) (upd (Pr_keywords Pr) (Pr_size Pr).toNatClampNeg x2) (Pr_size Pr)))) C hP (hDD _ _ _ _ _ _ _ _ _ _ _ _ _) hS 56 44 cw_56 rfl g8 rfl d_Pr_add_67 (fun H locs hP hS => ?_)
    refine lv_aload_n hx hb d_Pr_add_68 rfl (lv_at hl 0 rfl) ?_
    refine lv_dup hx hb d_Pr_add_69 rfl ?_
    refine o_get (v := .int (Pr_size Pr)) C in_Pr hP 54 cw_54 rfl 2 (by decide) k_2_66 rfl rfl d_Pr_add_70 ?_
    refine lv_iconst (v := (1:Int32)) hx hb d_Pr_add_73 (by decide) ?_
    refine lv_iadd hx hb d_Pr_add_74 ?_
    refine o_put (v := .int ((Pr_size Pr) + (1:Int32))) (ty := .int) (w1 := (o_cw ad ca rt Sj T0 T1 Rd Pg Pt Mk Lk Ck Jd Ld (Pr_mk (upd (Pr_values Pr) (Pr_size Pr).toNatClampNeg x1) (upd (Pr_keywords Pr) (Pr_size Pr).toNatClampNeg x2) ((Pr_size Pr) + (1:Int32))))) C in_Pr t_Pr t_Pr_ok n_Pr hP (hDD _ _ _ _ _ _ _ _ _ _ _ _ _) hS 54 cw_54 rfl 2 (by decide) k_2_66 rfl rfl (by decide +kernel) rfl rfl (Nat.le_of_ble_eq_true rfl) rfl d_Pr_add_75 (fun H locs hP hS => ?_)
    cases h
    exact o_rv C hP hS d_Pr_add_78
  · replace h := o_ff c1 h
    cases h
    exact o_rv C hP hS d_Pr_add_10
set_option maxHeartbeats 4000000 in
set_option maxRecDepth 100000 in
theorem c_Jd_tell {E : (Nat → Prop) → State → Heap → Prop} {D : va_G} {ad kd sd vd xd : Nat → Nat} {ca : Nat → ClassId} (hE : o_EK E kd sd vd xd) (l : Launch) (n : Nat) (x1 : Int32) (x2 : Int32) (Pr : SPr) (Jd : SJd) (Sj : SSJ) (T0 : STx) (T1 : STx) (Rd : SRd) (Pg : SPg) (Pt : SPt) (Mk : SMk) (Lk : SLk) (Ck : SCk) (Ld : SLd) (rt : Nat) {r : SPr} (h : m_Jd_tell n x1 x2 Pr Jd = some r) : o_Cn E l D o_cls (o_tys ca) y_Jd_tell cc_Jd_tell rm_Jd_tell [.ref (ad 49), .int x1, .int x2] (o_cw ad ca rt Sj T0 T1 Rd Pg Pt Mk Lk Ck Jd Ld Pr) (o_cw ad ca rt Sj T0 T1 Rd Pg Pt Mk Lk Ck Jd Ld r) none := by
  refine o_Cn_of (by decide) (Nat.le_of_ble_eq_true rfl) ?_
  intro p e s m below meth c A ls C hD hP hS hl
  have hDD : ∀ (rt : Nat) (Sj : SSJ) (T0 : STx) (T1 : STx) (Rd : SRd) (Pg : SPg) (Pt : SPt) (Mk : SMk) (Lk : SLk) (Ck : SCk) (Jd : SJd) (Ld : SLd) (Pr : SPr), va_D A (o_cw ad ca rt Sj T0 T1 Rd Pg Pt Mk Lk Ck Jd Ld Pr) := fun _ _ _ _ _ _ _ _ _ _ _ _ _ => o_D_map hD rfl
  have hl : lv_has ls 3 [(0, .ref (ad 49)), (1, .int x1), (2, .int x2)] := hl
  unfold m_Jd_tell at h
  have C0 := C
  obtain ⟨hx, hb, -, -, -, hown, hts, hK, -, -⟩ := C0
  refine lv_aload_n hx hb d_Jd_tell_0 rfl (lv_at hl 0 rfl) ?_
  refine o_get (v := .int (Jd_silences Jd)) C in_Jd hP 49 cw_49 rfl 8 (by decide) k_2_82 rfl rfl d_Jd_tell_1 ?_
  refine lv_if_ne (tgt := 16) hx hb d_Jd_tell_4 (by decide) (fun c1 => ?_) (fun c1 => ?_)
  · replace h := o_ff c1 h
    cases h
    exact o_rv C hP hS d_Jd_tell_16
  · replace h := o_tt c1 h
    refine lv_aload_n hx hb d_Jd_tell_7 rfl (lv_at hl 0 rfl) ?_
    refine o_get (v := .ref (ad 54)) C in_Jd hP 49 cw_49 rfl 6 (by decide) k_2_80 rfl rfl d_Jd_tell_8 ?_
    refine lv_iload_n hx hb d_Jd_tell_11 rfl (lv_at hl 1 rfl) ?_
    refine lv_iload_n hx hb d_Jd_tell_12 rfl (lv_at hl 2 rfl) ?_
    obtain ⟨q1, hq1, h⟩ := o_bd_some h
    refine o_V (st1 := []) (w1 := (o_cw ad ca rt Sj T0 T1 Rd Pg Pt Mk Lk Ck Jd Ld q1)) hE.1 C (c_Pr_add hE l n x1 x2 Pr Sj T0 T1 Rd Pg Pt Mk Lk Ck Jd Ld rt hq1) hP (hDD _ _ _ _ _ _ _ _ _ _ _ _ _) hS hl.1 rfl cw_54 k_6_21 k_6_22 k_6_23 k_1_11 k_6_24 hv_Pr_add rfl rfl ⟨(Nat.le_of_ble_eq_true rfl), (Nat.le_of_ble_eq_true rfl)⟩ rfl (Nat.le_of_ble_eq_true rfl) ⟨Nat.zero_le _, Nat.zero_le _⟩ rfl d_Jd_tell_13 (fun H locs hP hS => ?_)
    cases h
    exact o_rv C hP hS d_Jd_tell_16
set_option maxHeartbeats 4000000 in
set_option maxRecDepth 100000 in
theorem c_Kw_comesLast {E : (Nat → Prop) → State → Heap → Prop} {D : va_G} {ad kd sd vd xd : Nat → Nat} {ca : Nat → ClassId} (hE : o_EK E kd sd vd xd) (l : Launch) (x0 : Nat) (gx0 : o_kb x0 = true) (Sj : SSJ) (T0 : STx) (T1 : STx) (Rd : SRd) (Pg : SPg) (Pt : SPt) (Mk : SMk) (Lk : SLk) (Ck : SCk) (Jd : SJd) (Ld : SLd) (Pr : SPr) (rt : Nat) {r : Int32} (h : m_Kw_comesLast x0 = some r) : o_Cn E l D o_cls (o_tys ca) y_Kw_comesLast cc_Kw_comesLast rm_Kw_comesLast [.ref (kd x0)] (o_cw ad ca rt Sj T0 T1 Rd Pg Pt Mk Lk Ck Jd Ld Pr) (o_cw ad ca rt Sj T0 T1 Rd Pg Pt Mk Lk Ck Jd Ld Pr) (some (.int r)) := by
  refine o_Cn_of (by decide) (Nat.le_of_ble_eq_true rfl) ?_
  intro p e s m below meth c A ls C hD hP hS hl
  have hDD : ∀ (rt : Nat) (Sj : SSJ) (T0 : STx) (T1 : STx) (Rd : SRd) (Pg : SPg) (Pt : SPt) (Mk : SMk) (Lk : SLk) (Ck : SCk) (Jd : SJd) (Ld : SLd) (Pr : SPr), va_D A (o_cw ad ca rt Sj T0 T1 Rd Pg Pt Mk Lk Ck Jd Ld Pr) := fun _ _ _ _ _ _ _ _ _ _ _ _ _ => o_D_map hD rfl
  have hl : lv_has ls 1 [(0, .ref (kd x0))] := hl
  unfold m_Kw_comesLast at h
  have C0 := C
  obtain ⟨hx, hb, -, -, -, hown, hts, hK, -, -⟩ := C0
  refine lv_aload_n hx hb d_Kw_comesLast_0 rfl (lv_at hl 0 rfl) ?_
  refine va_gets (v := .ref (kd 9)) hx hb ((hE.2.2.1 _ _ _ C.2.2.2.2.2.2.2.2.2).1 9 (by decide)).1 hS hown (hts _ k_6_33) (fun _ h9 => h9) d_Kw_comesLast_1 ?_
  refine lv_acmp_eq (rx := some (kd x0)) (ry := some (kd 9)) (tgt := 14) hx hb d_Kw_comesLast_4 (by decide) (fun c1 => ?_) (fun c1 => ?_)
  · replace h := o_tt (o_ki hE C gx0 rfl c1) h
    refine lv_iconst (v := (1:Int32)) hx hb d_Kw_comesLast_14 (by decide) ?_
    refine lv_goto (tgt := 19) hx hb d_Kw_comesLast_15 (by decide) ?_
    cases h
    exact o_rz (v := (1:Int32)) C o_nar1 hP hS d_Kw_comesLast_19
  · replace h := o_ff (o_kn_ c1) h
    refine lv_aload_n hx hb d_Kw_comesLast_7 rfl (lv_at hl 0 rfl) ?_
    refine va_gets (v := .ref (kd 10)) hx hb ((hE.2.2.1 _ _ _ C.2.2.2.2.2.2.2.2.2).1 10 (by decide)).1 hS hown (hts _ k_6_35) (fun _ h9 => h9) d_Kw_comesLast_8 ?_
    refine lv_acmp_ne (rx := some (kd x0)) (ry := some (kd 10)) (tgt := 18) hx hb d_Kw_comesLast_11 (by decide) (fun c2 => ?_) (fun c2 => ?_)
    · replace h := o_ff (o_kn_ c2) h
      refine lv_iconst (v := (0:Int32)) hx hb d_Kw_comesLast_18 (by decide) ?_
      cases h
      exact o_rz (v := (0:Int32)) C o_nar0 hP hS d_Kw_comesLast_19
    · replace h := o_tt (o_ki hE C gx0 rfl c2) h
      refine lv_iconst (v := (1:Int32)) hx hb d_Kw_comesLast_14 (by decide) ?_
      refine lv_goto (tgt := 19) hx hb d_Kw_comesLast_15 (by decide) ?_
      cases h
      exact o_rz (v := (1:Int32)) C o_nar1 hP hS d_Kw_comesLast_19
set_option maxHeartbeats 4000000 in
set_option maxRecDepth 100000 in
theorem c_Pr_size {E : (Nat → Prop) → State → Heap → Prop} {D : va_G} {ad kd sd vd xd : Nat → Nat} {ca : Nat → ClassId} (hE : o_EK E kd sd vd xd) (l : Launch)  (Pr : SPr) (Sj : SSJ) (T0 : STx) (T1 : STx) (Rd : SRd) (Pg : SPg) (Pt : SPt) (Mk : SMk) (Lk : SLk) (Ck : SCk) (Jd : SJd) (Ld : SLd) (rt : Nat) {r : Int32} (h : m_Pr_size Pr = some r) : o_Cn E l D o_cls (o_tys ca) y_Pr_size cc_Pr_size rm_Pr_size [.ref (ad 54)] (o_cw ad ca rt Sj T0 T1 Rd Pg Pt Mk Lk Ck Jd Ld Pr) (o_cw ad ca rt Sj T0 T1 Rd Pg Pt Mk Lk Ck Jd Ld Pr) (some (.int r)) := by
  refine o_Cn_of (by decide) (Nat.le_of_ble_eq_true rfl) ?_
  intro p e s m below meth c A ls C hD hP hS hl
  have hDD : ∀ (rt : Nat) (Sj : SSJ) (T0 : STx) (T1 : STx) (Rd : SRd) (Pg : SPg) (Pt : SPt) (Mk : SMk) (Lk : SLk) (Ck : SCk) (Jd : SJd) (Ld : SLd) (Pr : SPr), va_D A (o_cw ad ca rt Sj T0 T1 Rd Pg Pt Mk Lk Ck Jd Ld Pr) := fun _ _ _ _ _ _ _ _ _ _ _ _ _ => o_D_map hD rfl
  have hl : lv_has ls 1 [(0, .ref (ad 54))] := hl
  unfold m_Pr_size at h
  have C0 := C
  obtain ⟨hx, hb, -, -, -, hown, hts, hK, -, -⟩ := C0
  refine lv_aload_n hx hb d_Pr_size_0 rfl (lv_at hl 0 rfl) ?_
  refine o_get (v := .int (Pr_size Pr)) C in_Pr hP 54 cw_54 rfl 2 (by decide) k_2_66 rfl rfl d_Pr_size_1 ?_
  cases h
  exact o_ri (v := (Pr_size Pr)) C hP hS d_Pr_size_4
set_option maxHeartbeats 4000000 in
set_option maxRecDepth 100000 in
theorem c_Kw_isSilent {E : (Nat → Prop) → State → Heap → Prop} {D : va_G} {ad kd sd vd xd : Nat → Nat} {ca : Nat → ClassId} (hE : o_EK E kd sd vd xd) (l : Launch) (x0 : Nat) (gx0 : o_kb x0 = true) (Sj : SSJ) (T0 : STx) (T1 : STx) (Rd : SRd) (Pg : SPg) (Pt : SPt) (Mk : SMk) (Lk : SLk) (Ck : SCk) (Jd : SJd) (Ld : SLd) (Pr : SPr) (rt : Nat) {r : Int32} (h : m_Kw_isSilent x0 = some r) : o_Cn E l D o_cls (o_tys ca) y_Kw_isSilent cc_Kw_isSilent rm_Kw_isSilent [.ref (kd x0)] (o_cw ad ca rt Sj T0 T1 Rd Pg Pt Mk Lk Ck Jd Ld Pr) (o_cw ad ca rt Sj T0 T1 Rd Pg Pt Mk Lk Ck Jd Ld Pr) (some (.int r)) := by
  refine o_Cn_of (by decide) (Nat.le_of_ble_eq_true rfl) ?_
  intro p e s m below meth c A ls C hD hP hS hl
  have hDD : ∀ (rt : Nat) (Sj : SSJ) (T0 : STx) (T1 : STx) (Rd : SRd) (Pg : SPg) (Pt : SPt) (Mk : SMk) (Lk : SLk) (Ck : SCk) (Jd : SJd) (Ld : SLd) (Pr : SPr), va_D A (o_cw ad ca rt Sj T0 T1 Rd Pg Pt Mk Lk Ck Jd Ld Pr) := fun _ _ _ _ _ _ _ _ _ _ _ _ _ => o_D_map hD rfl
  have hl : lv_has ls 1 [(0, .ref (kd x0))] := hl
  unfold m_Kw_isSilent at h
  have C0 := C
  obtain ⟨hx, hb, -, -, -, hown, hts, hK, -, -⟩ := C0
  refine lv_aload_n hx hb d_Kw_isSilent_0 rfl (lv_at hl 0 rfl) ?_
  refine va_gets (v := .ref (kd 1)) hx hb ((hE.2.2.1 _ _ _ C.2.2.2.2.2.2.2.2.2).1 1 (by decide)).1 hS hown (hts _ k_6_51) (fun _ h9 => h9) d_Kw_isSilent_1 ?_
  refine lv_acmp_eq (rx := some (kd x0)) (ry := some (kd 1)) (tgt := 21) hx hb d_Kw_isSilent_4 (by decide) (fun c1 => ?_) (fun c1 => ?_)
  · replace h := o_tt (o_ki hE C gx0 rfl c1) h
    refine lv_iconst (v := (1:Int32)) hx hb d_Kw_isSilent_21 (by decide) ?_
    refine lv_goto (tgt := 26) hx hb d_Kw_isSilent_22 (by decide) ?_
    cases h
    exact o_rz (v := (1:Int32)) C o_nar1 hP hS d_Kw_isSilent_26
  · replace h := o_ff (o_kn_ c1) h
    refine lv_aload_n hx hb d_Kw_isSilent_7 rfl (lv_at hl 0 rfl) ?_
    refine va_gets (v := .ref (kd 2)) hx hb ((hE.2.2.1 _ _ _ C.2.2.2.2.2.2.2.2.2).1 2 (by decide)).1 hS hown (hts _ k_6_53) (fun _ h9 => h9) d_Kw_isSilent_8 ?_
    refine lv_acmp_eq (rx := some (kd x0)) (ry := some (kd 2)) (tgt := 21) hx hb d_Kw_isSilent_11 (by decide) (fun c2 => ?_) (fun c2 => ?_)
    · replace h := o_tt (o_ki hE C gx0 rfl c2) h
      refine lv_iconst (v := (1:Int32)) hx hb d_Kw_isSilent_21 (by decide) ?_
      refine lv_goto (tgt := 26) hx hb d_Kw_isSilent_22 (by decide) ?_
      cases h
      exact o_rz (v := (1:Int32)) C o_nar1 hP hS d_Kw_isSilent_26
    · replace h := o_ff (o_kn_ c2) h
      refine lv_aload_n hx hb d_Kw_isSilent_14 rfl (lv_at hl 0 rfl) ?_
      refine va_gets (v := .ref (kd 6)) hx hb ((hE.2.2.1 _ _ _ C.2.2.2.2.2.2.2.2.2).1 6 (by decide)).1 hS hown (hts _ k_6_54) (fun _ h9 => h9) d_Kw_isSilent_15 ?_
      refine lv_acmp_ne (rx := some (kd x0)) (ry := some (kd 6)) (tgt := 25) hx hb d_Kw_isSilent_18 (by decide) (fun c3 => ?_) (fun c3 => ?_)
      · replace h := o_ff (o_kn_ c3) h
        refine lv_iconst (v := (0:Int32)) hx hb d_Kw_isSilent_25 (by decide) ?_
        cases h
        exact o_rz (v := (0:Int32)) C o_nar0 hP hS d_Kw_isSilent_26
      · replace h := o_tt (o_ki hE C gx0 rfl c3) h
        refine lv_iconst (v := (1:Int32)) hx hb d_Kw_isSilent_21 (by decide) ?_
        refine lv_goto (tgt := 26) hx hb d_Kw_isSilent_22 (by decide) ?_
        cases h
        exact o_rz (v := (1:Int32)) C o_nar1 hP hS d_Kw_isSilent_26
set_option maxHeartbeats 4000000 in
set_option maxRecDepth 100000 in
theorem w_Mk_find_b12 {E : (Nat → Prop) → State → Heap → Prop} {p : Program} {l : Launch} {e : Env} {s : State} {m : MethodId} {args : Array Value} {below : List Frame} {meth : Method} {c : Code} {D : va_G} {ad kd sd vd xd : Nat → Nat} {ca : Nat → ClassId} {A : Nat → Prop} {Q : State → Prop} (hE : o_EK E kd sd vd xd) (C : o_Cx E p s m args meth c D o_cls (o_tys ca) "SchemaJudge$Marks" b_Mk_find (some .int) 5 cc_Mk_find A) (hDD : ∀ (rt : Nat) (Sj : SSJ) (T0 : STx) (T1 : STx) (Rd : SRd) (Pg : SPg) (Pt : SPt) (Mk : SMk) (Lk : SLk) (Ck : SCk) (Jd : SJd) (Ld : SLd) (Pr : SPr), va_D A (o_cw ad ca rt Sj T0 T1 Rd Pg Pt Mk Lk Ck Jd Ld Pr)) (n : Nat) (u12_x1 : Int32) (u12_x2 : Nat) (gu12_x2 : o_kb u12_x2 = true) (u12_T0 : STx) (u12_Mk : SMk) (u12_Sj : SSJ) (u12_T1 : STx) (u12_Rd : SRd) (u12_Pg : SPg) (u12_Pt : SPt) (u12_Lk : SLk) (u12_Ck : SCk) (u12_Jd : SJd) (u12_Ld : SLd) (u12_Pr : SPr) (u12_rt : Nat) (z : Int32 × Int32) (q : Nat × Int32 × Int32) (h : m_Mk_find_b12 n u12_x1 u12_x2 u12_T0 u12_Mk z = some q) (h0 : q.1 = 0 → o_At p l e rm_Mk_find s m args below meth c Q o_cls D A 5 12 [] (o_cw ad ca u12_rt u12_Sj u12_T0 u12_T1 u12_Rd u12_Pg u12_Pt u12_Mk u12_Lk u12_Ck u12_Jd u12_Ld u12_Pr) [(0, .ref (ad 39)), (1, .int u12_x1), (2, .ref (kd u12_x2)), (3, .int q.2.1), (4, .int q.2.2)]) (h1 : q.1 ≠ 0 → (if q.1 = 1 then o_At p l e rm_Mk_find s m args below meth c Q o_cls D A 5 34 [] (o_cw ad ca u12_rt u12_Sj u12_T0 u12_T1 u12_Rd u12_Pg u12_Pt u12_Mk u12_Lk u12_Ck u12_Jd u12_Ld u12_Pr) [(3, .int q.2.1)] else o_At p l e rm_Mk_find s m args below meth c Q o_cls D A 5 51 [] (o_cw ad ca u12_rt u12_Sj u12_T0 u12_T1 u12_Rd u12_Pg u12_Pt u12_Mk u12_Lk u12_Ck u12_Jd u12_Ld u12_Pr) [])) : o_At p l e rm_Mk_find s m args below meth c Q o_cls D A 5 12 [] (o_cw ad ca u12_rt u12_Sj u12_T0 u12_T1 u12_Rd u12_Pg u12_Pt u12_Mk u12_Lk u12_Ck u12_Jd u12_Ld u12_Pr) [(0, .ref (ad 39)), (1, .int u12_x1), (2, .ref (kd u12_x2)), (3, .int z.1), (4, .int z.2)] := by
  unfold m_Mk_find_b12 at h
  intro H locs ls hP hS hl
  have C0 := C
  obtain ⟨hx, hb, -, -, -, hown, hts, hK, -, -⟩ := C0
  refine lv_iload hx hb d_Mk_find_12 (lv_at hl 4 rfl) ?_
  refine lv_aload_n hx hb d_Mk_find_14 rfl (lv_at hl 0 rfl) ?_
  refine o_get (v := .ref (ad 1)) C in_Mk hP 39 cw_39 rfl 0 (by decide) k_1_206 rfl rfl d_Mk_find_15 ?_
  refine lv_iload_n hx hb d_Mk_find_18 rfl (lv_at hl 1 rfl) ?_
  obtain ⟨q2, hq2, h⟩ := o_bd_some h
  refine o_V (st1 := [.int q2, .int z.2]) (w1 := (o_cw ad ca u12_rt u12_Sj u12_T0 u12_T1 u12_Rd u12_Pg u12_Pt u12_Mk u12_Lk u12_Ck u12_Jd u12_Ld u12_Pr)) hE.1 C (c_Tx_size_0 hE l u12_x1 u12_T0 u12_Sj u12_T1 u12_Rd u12_Pg u12_Pt u12_Mk u12_Lk u12_Ck u12_Jd u12_Ld u12_Pr u12_rt hq2) hP (hDD _ _ _ _ _ _ _ _ _ _ _ _ _) hS hl.1 rfl cw_1 k_5_220 k_3_215 k_3_216 k_1_2 k_3_217 hv_Tx_size rfl rfl ⟨(Nat.le_of_ble_eq_true rfl), (Nat.le_of_ble_eq_true rfl)⟩ rfl (Nat.le_of_ble_eq_true rfl) ⟨Nat.zero_le _, Nat.zero_le _⟩ rfl d_Mk_find_19 (fun H locs hP hS => ?_)
  refine lv_icmp_ge (tgt := 51) hx hb d_Mk_find_22 (by decide) (fun c1 => ?_) (fun c1 => ?_)
  · replace h := o_tt c1 h
    cases h
    exact h1 (Nat.succ_ne_zero 1) _ _ _ hP hS (lv_sub hl [] rfl)
  · replace h := o_ff c1 h
    refine lv_aload_n hx hb d_Mk_find_25 rfl (lv_at hl 0 rfl) ?_
    refine lv_iload_n hx hb d_Mk_find_26 rfl (lv_at hl 3 rfl) ?_
    obtain ⟨q3, hq3, h⟩ := o_bd_some h
    obtain ⟨g2, h⟩ := o_gd_some h
    refine o_V (st1 := [.ref (kd q3)]) (w1 := (o_cw ad ca u12_rt u12_Sj u12_T0 u12_T1 u12_Rd u12_Pg u12_Pt u12_Mk u12_Lk u12_Ck u12_Jd u12_Ld u12_Pr)) hE.1 C (c_Mk_keyword hE l z.1 u12_Mk u12_Sj u12_T0 u12_T1 u12_Rd u12_Pg u12_Pt u12_Lk u12_Ck u12_Jd u12_Ld u12_Pr u12_rt hq3) hP (hDD _ _ _ _ _ _ _ _ _ _ _ _ _) hS hl.1 rfl cw_39 k_6_77 k_5_123 k_5_124 k_1_6 k_5_125 hv_Mk_keyword rfl rfl ⟨(Nat.le_of_ble_eq_true rfl), (Nat.le_of_ble_eq_true rfl)⟩ rfl (Nat.le_of_ble_eq_true rfl) ⟨Nat.zero_le _, Nat.zero_le _⟩ rfl d_Mk_find_27 (fun H locs hP hS => ?_)
    refine lv_aload_n hx hb d_Mk_find_30 rfl (lv_at hl 2 rfl) ?_
    refine lv_acmp_ne (rx := some (kd q3)) (ry := some (kd u12_x2)) (tgt := 36) hx hb d_Mk_find_31 (by decide) (fun c3 => ?_) (fun c3 => ?_)
    · replace h := o_ff (o_kn_ c3) h
      refine lv_aload_n hx hb d_Mk_find_36 rfl (lv_at hl 0 rfl) ?_
      refine o_get (v := .ref (ad 1)) C in_Mk hP 39 cw_39 rfl 0 (by decide) k_1_206 rfl rfl d_Mk_find_37 ?_
      refine lv_iload_n hx hb d_Mk_find_40 rfl (lv_at hl 3 rfl) ?_
      obtain ⟨q4, hq4, h⟩ := o_bd_some h
      refine o_V (st1 := [.int q4]) (w1 := (o_cw ad ca u12_rt u12_Sj u12_T0 u12_T1 u12_Rd u12_Pg u12_Pt u12_Mk u12_Lk u12_Ck u12_Jd u12_Ld u12_Pr)) hE.1 C (c_Tx_nextChild_0 hE l z.1 u12_T0 u12_Sj u12_T1 u12_Rd u12_Pg u12_Pt u12_Mk u12_Lk u12_Ck u12_Jd u12_Ld u12_Pr u12_rt hq4) hP (hDD _ _ _ _ _ _ _ _ _ _ _ _ _) hS hl.1 rfl cw_1 k_6_78 k_3_222 k_3_223 k_1_2 k_3_224 hv_Tx_nextChild rfl rfl ⟨(Nat.le_of_ble_eq_true rfl), (Nat.le_of_ble_eq_true rfl)⟩ rfl (Nat.le_of_ble_eq_true rfl) ⟨Nat.zero_le _, Nat.zero_le _⟩ rfl d_Mk_find_41 (fun H locs hP hS => ?_)
      refine lv_istore_n (lv' := [(3, .int q4), (0, .ref (ad 39)), (1, .int u12_x1), (2, .ref (kd u12_x2)), (4, .int z.2)]) hx hb d_Mk_find_44 rfl hl (by decide) rfl (fun ls hl => ?_)
      obtain ⟨x4_45, ex4_45⟩ : ∃ y : Int32, y = z.2 + (1:Int32) := ⟨_, rfl⟩
      replace h := o_nm_at ex4_45 h
      refine lv_iinc (v := x4_45) (lv' := [(4, .int x4_45), (3, .int q4), (0, .ref (ad 39)), (1, .int u12_x1), (2, .ref (kd u12_x2))]) hx hb d_Mk_find_45 hl (k := 4) rfl (by rw [ex4_45]; rfl) (by decide) rfl (fun ls hl => ?_)
      refine lv_goto (tgt := 12) hx hb d_Mk_find_48 (by decide) ?_
      cases h
      exact h0 rfl _ _ _ hP hS (lv_sub hl [2, 3, 4, 1, 0] rfl)
    · replace h := o_tt (o_ki hE C g2 gu12_x2 c3) h
      cases h
      exact h1 (Nat.succ_ne_zero 0) _ _ _ hP hS (lv_sub hl [3] rfl)
set_option maxHeartbeats 4000000 in
set_option maxRecDepth 100000 in
theorem c_Mk_find {E : (Nat → Prop) → State → Heap → Prop} {D : va_G} {ad kd sd vd xd : Nat → Nat} {ca : Nat → ClassId} (hE : o_EK E kd sd vd xd) (l : Launch) (n : Nat) (x1 : Int32) (x2 : Nat) (gx2 : o_kb x2 = true) (T0 : STx) (Mk : SMk) (Sj : SSJ) (T1 : STx) (Rd : SRd) (Pg : SPg) (Pt : SPt) (Lk : SLk) (Ck : SCk) (Jd : SJd) (Ld : SLd) (Pr : SPr) (rt : Nat) {r : Int32} (h : m_Mk_find n x1 x2 T0 Mk = some r) : o_Cn E l D o_cls (o_tys ca) y_Mk_find cc_Mk_find rm_Mk_find [.ref (ad 39), .int x1, .ref (kd x2)] (o_cw ad ca rt Sj T0 T1 Rd Pg Pt Mk Lk Ck Jd Ld Pr) (o_cw ad ca rt Sj T0 T1 Rd Pg Pt Mk Lk Ck Jd Ld Pr) (some (.int r)) := by
  refine o_Cn_of (by decide) (Nat.le_of_ble_eq_true rfl) ?_
  intro p e s m below meth c A ls C hD hP hS hl
  have hDD : ∀ (rt : Nat) (Sj : SSJ) (T0 : STx) (T1 : STx) (Rd : SRd) (Pg : SPg) (Pt : SPt) (Mk : SMk) (Lk : SLk) (Ck : SCk) (Jd : SJd) (Ld : SLd) (Pr : SPr), va_D A (o_cw ad ca rt Sj T0 T1 Rd Pg Pt Mk Lk Ck Jd Ld Pr) := fun _ _ _ _ _ _ _ _ _ _ _ _ _ => o_D_map hD rfl
  have hl : lv_has ls 5 [(0, .ref (ad 39)), (1, .int x1), (2, .ref (kd x2))] := hl
  unfold m_Mk_find at h
  have C0 := C
  obtain ⟨hx, hb, -, -, -, hown, hts, hK, -, -⟩ := C0
  refine lv_aload_n hx hb d_Mk_find_0 rfl (lv_at hl 0 rfl) ?_
  refine o_get (v := .ref (ad 1)) C in_Mk hP 39 cw_39 rfl 0 (by decide) k_1_206 rfl rfl d_Mk_find_1 ?_
  refine lv_iload_n hx hb d_Mk_find_4 rfl (lv_at hl 1 rfl) ?_
  obtain ⟨q1, hq1, h⟩ := o_bd_some h
  refine o_V (st1 := [.int q1]) (w1 := (o_cw ad ca rt Sj T0 T1 Rd Pg Pt Mk Lk Ck Jd Ld Pr)) hE.1 C (c_Tx_firstChild_0 hE l x1 T0 Sj T1 Rd Pg Pt Mk Lk Ck Jd Ld Pr rt hq1) hP (hDD _ _ _ _ _ _ _ _ _ _ _ _ _) hS hl.1 rfl cw_1 k_5_225 k_3_211 k_3_212 k_1_2 k_3_213 hv_Tx_firstChild rfl rfl ⟨(Nat.le_of_ble_eq_true rfl), (Nat.le_of_ble_eq_true rfl)⟩ rfl (Nat.le_of_ble_eq_true rfl) ⟨Nat.zero_le _, Nat.zero_le _⟩ rfl d_Mk_find_5 (fun H locs hP hS => ?_)
  refine lv_istore_n (lv' := [(3, .int q1), (0, .ref (ad 39)), (1, .int x1), (2, .ref (kd x2))]) hx hb d_Mk_find_8 rfl hl (by decide) rfl (fun ls hl => ?_)
  refine lv_iconst (v := (0:Int32)) hx hb d_Mk_find_9 (by decide) ?_
  refine lv_istore (lv' := [(4, .int (0:Int32)), (3, .int q1), (0, .ref (ad 39)), (1, .int x1), (2, .ref (kd x2))]) hx hb d_Mk_find_10 hl (by decide) rfl (fun ls hl => ?_)
  obtain ⟨q5, hq5, h⟩ := o_bd_some h
  refine o_sim2 (AH := fun zz => o_At p l e rm_Mk_find s m _ below meth c _ o_cls D A 5 12 [] (o_cw ad ca rt Sj T0 T1 Rd Pg Pt Mk Lk Ck Jd Ld Pr) [(0, .ref (ad 39)), (1, .int x1), (2, .ref (kd x2)), (3, .int zz.1), (4, .int zz.2)]) (AX := fun qq => if qq.1 = 1 then o_At p l e rm_Mk_find s m _ below meth c _ o_cls D A 5 34 [] (o_cw ad ca rt Sj T0 T1 Rd Pg Pt Mk Lk Ck Jd Ld Pr) [(3, .int qq.2.1)] else o_At p l e rm_Mk_find s m _ below meth c _ o_cls D A 5 51 [] (o_cw ad ca rt Sj T0 T1 Rd Pg Pt Mk Lk Ck Jd Ld Pr) []) (fun zz qq h h0 h1 => w_Mk_find_b12 hE C hDD n x1 x2 gx2 T0 Mk Sj T1 Rd Pg Pt Lk Ck Jd Ld Pr rt zz qq h h0 h1) n _ q5 hq5 ?_ _ _ _ hP hS (lv_sub hl [2, 3, 4, 1, 0] rfl)
  by_cases c4 : q5.1 = 1
  · replace h := o_tt c4 h
    refine o_ip c4 ?_
    intro H locs ls hP hS hl
    refine lv_iload_n hx hb d_Mk_find_34 rfl (lv_at hl 0 rfl) ?_
    cases h
    exact o_ri C hP hS d_Mk_find_35
  replace h := o_ff c4 h
  refine o_in_ c4 ?_
  intro H locs ls hP hS hl
  refine lv_iconst (v := (-1:Int32)) hx hb d_Mk_find_51 (by decide) ?_
  cases h
  exact o_ri (v := (-1:Int32)) C hP hS d_Mk_find_52
