set_option maxHeartbeats 4000000 in
set_option maxRecDepth 100000 in
theorem c_Pg_push {E : (Nat → Prop) → State → Heap → Prop} {D : va_G} {ad kd sd vd xd : Nat → Nat} {ca : Nat → ClassId} (hE : o_EK E kd sd vd xd) (l : Launch) (x1 : Int32) (x2 : Int32) (Pg : SPg) (Sj : SSJ) (T0 : STx) (T1 : STx) (Rd : SRd) (Pt : SPt) (Mk : SMk) (Lk : SLk) (Ck : SCk) (Jd : SJd) (Ld : SLd) (Pr : SPr) (rt : Nat) {r : SPg} (h : m_Pg_push x1 x2 Pg = some r) : o_Cn E l D o_cls (o_tys ca) y_Pg_push cc_Pg_push rm_Pg_push [.ref (ad 25), .int x1, .int x2] (o_cw ad ca rt Sj T0 T1 Rd Pg Pt Mk Lk Ck Jd Ld Pr) (o_cw ad ca rt Sj T0 T1 Rd r Pt Mk Lk Ck Jd Ld Pr) none := by
  refine o_Cn_of (by decide) (Nat.le_of_ble_eq_true rfl) ?_
  intro p e s m below meth c A ls C hD hP hS hl
  have hDD : ∀ (rt : Nat) (Sj : SSJ) (T0 : STx) (T1 : STx) (Rd : SRd) (Pg : SPg) (Pt : SPt) (Mk : SMk) (Lk : SLk) (Ck : SCk) (Jd : SJd) (Ld : SLd) (Pr : SPr), va_D A (o_cw ad ca rt Sj T0 T1 Rd Pg Pt Mk Lk Ck Jd Ld Pr) := fun _ _ _ _ _ _ _ _ _ _ _ _ _ => o_D_map hD rfl
  have hl : lv_has ls 3 [(0, .ref (ad 25)), (1, .int x1), (2, .int x2)] := hl
  unfold m_Pg_push at h
  have C0 := C
  obtain ⟨hx, hb, -, -, -, hown, hts, hK, -, -⟩ := C0
  refine lv_iload_n hx hb d_Pg_push_0 rfl (lv_at hl 1 rfl) ?_
  refine lv_if_lt (tgt := 58) hx hb d_Pg_push_1 (by decide) (fun c1 => ?_) (fun c1 => ?_)
  · replace h := o_tt c1 h
    cases h
    exact o_rv C hP hS d_Pg_push_58
  · replace h := o_ff c1 h
    refine lv_iload_n hx hb d_Pg_push_4 rfl (lv_at hl 1 rfl) ?_
    refine lv_sipush (v := (1300:Int32)) hx hb d_Pg_push_5 (by decide) ?_
    refine lv_icmp_ge (tgt := 58) hx hb d_Pg_push_8 (by decide) (fun c2 => ?_) (fun c2 => ?_)
    · replace h := o_tt c2 h
      cases h
      exact o_rv C hP hS d_Pg_push_58
    · replace h := o_ff c2 h
      refine lv_aload_n hx hb d_Pg_push_11 rfl (lv_at hl 0 rfl) ?_
      refine o_get (v := .ref (ad 29)) C in_Pg hP 25 cw_25 rfl 5 (by decide) k_1_125 rfl rfl d_Pg_push_12 ?_
      refine lv_iload_n hx hb d_Pg_push_15 rfl (lv_at hl 1 rfl) ?_
      obtain ⟨g3, h⟩ := o_gd_some h
      refine o_iald (f := (Pg_rounds Pg)) C hP 29 24 cw_29 rfl g3 d_Pg_push_16 ?_
      refine lv_iload_n hx hb d_Pg_push_17 rfl (lv_at hl 2 rfl) ?_
      refine lv_icmp_eq (tgt := 58) hx hb d_Pg_push_18 (by decide) (fun c4 => ?_) (fun c4 => ?_)
      · replace h := o_tt c4 h
        cases h
        exact o_rv C hP hS d_Pg_push_58
      · replace h := o_ff c4 h
        refine lv_aload_n hx hb d_Pg_push_21 rfl (lv_at hl 0 rfl) ?_
        refine o_get (v := .int (Pg_top Pg)) C in_Pg hP 25 cw_25 rfl 7 (by decide) k_1_127 rfl rfl d_Pg_push_22 ?_
        refine lv_sipush (v := (1300:Int32)) hx hb d_Pg_push_25 (by decide) ?_
        refine lv_icmp_ge (tgt := 58) hx hb d_Pg_push_28 (by decide) (fun c5 => ?_) (fun c5 => ?_)
        · replace h := o_tt c5 h
          cases h
          exact o_rv C hP hS d_Pg_push_58
        · replace h := o_ff c5 h
          refine lv_aload_n hx hb d_Pg_push_31 rfl (lv_at hl 0 rfl) ?_
          refine o_get (v := .ref (ad 29)) C in_Pg hP 25 cw_25 rfl 5 (by decide) k_1_125 rfl rfl d_Pg_push_32 ?_
          refine lv_iload_n hx hb d_Pg_push_35 rfl (lv_at hl 1 rfl) ?_
          refine lv_iload_n hx hb d_Pg_push_36 rfl (lv_at hl 2 rfl) ?_
          obtain ⟨g6, h⟩ := o_gd_some h
          refine o_iast (f := (Pg_rounds Pg)) (w1 := (o_cw ad ca rt Sj T0 T1 Rd (Pg_mk (Pg_operations Pg) (Pg_arguments Pg) (Pg_length Pg) (Pg_sets Pg) (Pg_setsUsed Pg) (upd (Pg_rounds Pg) x1.toNatClampNeg x2) (Pg_stack Pg) (Pg_top Pg) (Pg_waiting Pg) (Pg_waitingCount Pg) (Pg_moved Pg)) Pt Mk Lk Ck Jd Ld Pr)) C hP (hDD _ _ _ _ _ _ _ _ _ _ _ _ _) hS 29 24 cw_29 rfl g6 rfl d_Pg_push_37 (fun H locs hP hS => ?_)
          refine lv_aload_n hx hb d_Pg_push_38 rfl (lv_at hl 0 rfl) ?_
          refine o_get (v := .ref (ad 30)) C in_Pg hP 25 cw_25 rfl 6 (by decide) k_1_126 rfl rfl d_Pg_push_39 ?_
          refine lv_aload_n hx hb d_Pg_push_42 rfl (lv_at hl 0 rfl) ?_
          refine o_get (v := .int (Pg_top Pg)) C in_Pg hP 25 cw_25 rfl 7 (by decide) k_1_127 rfl rfl d_Pg_push_43 ?_
          refine lv_iload_n hx hb d_Pg_push_46 rfl (lv_at hl 1 rfl) ?_
          obtain ⟨g7, h⟩ := o_gd_some h
          refine o_iast (f := (Pg_stack Pg)) (w1 := (o_cw ad ca rt Sj T0 T1 Rd (Pg_mk (Pg_operations Pg) (Pg_arguments Pg) (Pg_length Pg) (Pg_sets Pg) (Pg_setsUsed Pg) (upd (Pg_rounds Pg) x1.toNatClampNeg x2) (upd (Pg_stack Pg) (Pg_top Pg).toNatClampNeg x1) (Pg_top Pg) (Pg_waiting Pg) (Pg_waitingCount Pg) (Pg_moved Pg)) Pt Mk Lk Ck Jd Ld Pr)) C hP (hDD _ _ _ _ _ _ _ _ _ _ _ _ _) hS 30 25 cw_30 rfl g7 rfl d_Pg_push_47 (fun H locs hP hS => ?_)
          refine lv_aload_n hx hb d_Pg_push_48 rfl (lv_at hl 0 rfl) ?_
          refine lv_dup hx hb d_Pg_push_49 rfl ?_
          refine o_get (v := .int (Pg_top Pg)) C in_Pg hP 25 cw_25 rfl 7 (by decide) k_1_127 rfl rfl d_Pg_push_50 ?_
          refine lv_iconst (v := (1:Int32)) hx hb d_Pg_push_53 (by decide) ?_
          refine lv_iadd hx hb d_Pg_push_54 ?_
          refine o_put (v := .int ((Pg_top Pg) + (1:Int32))) (ty := .int) (w1 := (o_cw ad ca rt Sj T0 T1 Rd (Pg_mk (Pg_operations Pg) (Pg_arguments Pg) (Pg_length Pg) (Pg_sets Pg) (Pg_setsUsed Pg) (upd (Pg_rounds Pg) x1.toNatClampNeg x2) (upd (Pg_stack Pg) (Pg_top Pg).toNatClampNeg x1) ((Pg_top Pg) + (1:Int32)) (Pg_waiting Pg) (Pg_waitingCount Pg) (Pg_moved Pg)) Pt Mk Lk Ck Jd Ld Pr)) C in_Pg t_Pg t_Pg_ok n_Pg hP (hDD _ _ _ _ _ _ _ _ _ _ _ _ _) hS 25 cw_25 rfl 7 (by decide) k_1_127 rfl rfl (by decide +kernel) rfl rfl (Nat.le_of_ble_eq_true rfl) rfl d_Pg_push_55 (fun H locs hP hS => ?_)
          cases h
          exact o_rv C hP hS d_Pg_push_58
set_option maxHeartbeats 4000000 in
set_option maxRecDepth 100000 in
theorem w_Pg_follow_j144 {E : (Nat → Prop) → State → Heap → Prop} {p : Program} {l : Launch} {e : Env} {s : State} {m : MethodId} {args : Array Value} {below : List Frame} {meth : Method} {c : Code} {D : va_G} {ad kd sd vd xd : Nat → Nat} {ca : Nat → ClassId} {A : Nat → Prop} {Q : State → Prop} (hE : o_EK E kd sd vd xd) (C : o_Cx E p s m args meth c D o_cls (o_tys ca) "SchemaJudge$Program" b_Pg_follow (some .boolean) 6 cc_Pg_follow A) (hDD : ∀ (rt : Nat) (Sj : SSJ) (T0 : STx) (T1 : STx) (Rd : SRd) (Pg : SPg) (Pt : SPt) (Mk : SMk) (Lk : SLk) (Ck : SCk) (Jd : SJd) (Ld : SLd) (Pr : SPr), va_D A (o_cw ad ca rt Sj T0 T1 Rd Pg Pt Mk Lk Ck Jd Ld Pr)) (n : Nat) (u7_x1 : Int32) (u7_x2 : Int32) (u7_x3 : Int32) (u7_Sj : SSJ) (u7_T0 : STx) (u7_T1 : STx) (u7_Rd : SRd) (u7_Pt : SPt) (u7_Mk : SMk) (u7_Lk : SLk) (u7_Ck : SCk) (u7_Jd : SJd) (u7_Ld : SLd) (u7_Pr : SPr) (u7_rt : Nat) (x4 : Int32) (y1 : Int32) (Pg : SPg) {q : Nat × Int32 × SPg} (h : m_Pg_follow_j144 n u7_x1 u7_x2 u7_x3 x4 y1 Pg = some q) (h0 : q.1 = 0 → o_At p l e rm_Pg_follow s m args below meth c Q o_cls D A 6 7 [] (o_cw ad ca u7_rt u7_Sj u7_T0 u7_T1 u7_Rd q.2.2 u7_Pt u7_Mk u7_Lk u7_Ck u7_Jd u7_Ld u7_Pr) [(0, .ref (ad 25)), (1, .int u7_x1), (2, .int u7_x2), (3, .int u7_x3), (4, .int q.2.1)]) (h1 : q.1 ≠ 0 → (if q.1 = 1 then o_At p l e rm_Pg_follow s m args below meth c Q o_cls D A 6 84 [] (o_cw ad ca u7_rt u7_Sj u7_T0 u7_T1 u7_Rd q.2.2 u7_Pt u7_Mk u7_Lk u7_Ck u7_Jd u7_Ld u7_Pr) [] else o_At p l e rm_Pg_follow s m args below meth c Q o_cls D A 6 211 [] (o_cw ad ca u7_rt u7_Sj u7_T0 u7_T1 u7_Rd q.2.2 u7_Pt u7_Mk u7_Lk u7_Ck u7_Jd u7_Ld u7_Pr) [])) : o_At p l e rm_Pg_follow s m args below meth c Q o_cls D A 6 144 [.int y1, .ref (ad 25)] (o_cw ad ca u7_rt u7_Sj u7_T0 u7_T1 u7_Rd Pg u7_Pt u7_Mk u7_Lk u7_Ck u7_Jd u7_Ld u7_Pr) [(0, .ref (ad 25)), (1, .int u7_x1), (2, .int u7_x2), (3, .int u7_x3), (4, .int x4)] := by
  unfold m_Pg_follow_j144 at h
  intro H locs ls hP hS hl
  have C0 := C
  obtain ⟨hx, hb, -, -, -, hown, hts, hK, -, -⟩ := C0
  refine lv_iload_n hx hb d_Pg_follow_144 rfl (lv_at hl 3 rfl) ?_
  obtain ⟨q1, hq1, h⟩ := o_bd_some h
  refine o_V (st1 := []) (w1 := (o_cw ad ca u7_rt u7_Sj u7_T0 u7_T1 u7_Rd q1 u7_Pt u7_Mk u7_Lk u7_Ck u7_Jd u7_Ld u7_Pr)) hE.1 C (c_Pg_push hE l y1 u7_x3 Pg u7_Sj u7_T0 u7_T1 u7_Rd u7_Pt u7_Mk u7_Lk u7_Ck u7_Jd u7_Ld u7_Pr u7_rt hq1) hP (hDD _ _ _ _ _ _ _ _ _ _ _ _ _) hS hl.1 rfl cw_25 k_6_90 k_6_92 k_s_63 k_1_4 k_6_93 hv_Pg_push rfl rfl ⟨(Nat.le_of_ble_eq_true rfl), (Nat.le_of_ble_eq_true rfl)⟩ rfl (Nat.le_of_ble_eq_true rfl) ⟨Nat.zero_le _, Nat.zero_le _⟩ rfl d_Pg_follow_145 (fun H locs hP hS => ?_)
  refine lv_goto (tgt := 205) hx hb d_Pg_follow_148 (by decide) ?_
  obtain ⟨x4_205, ex4_205⟩ : ∃ y : Int32, y = x4 + (1:Int32) := ⟨_, rfl⟩
  replace h := o_nm_at ex4_205 h
  refine lv_iinc (v := x4_205) (lv' := [(4, .int x4_205), (0, .ref (ad 25)), (1, .int u7_x1), (2, .int u7_x2), (3, .int u7_x3)]) hx hb d_Pg_follow_205 hl (k := 4) rfl (by rw [ex4_205]; rfl) (by decide) rfl (fun ls hl => ?_)
  refine lv_goto (tgt := 7) hx hb d_Pg_follow_208 (by decide) ?_
  cases h
  exact h0 rfl _ _ _ hP hS (lv_sub hl [1, 2, 3, 4, 0] rfl)
set_option maxHeartbeats 4000000 in
set_option maxRecDepth 100000 in
theorem w_Pg_follow_j165 {E : (Nat → Prop) → State → Heap → Prop} {p : Program} {l : Launch} {e : Env} {s : State} {m : MethodId} {args : Array Value} {below : List Frame} {meth : Method} {c : Code} {D : va_G} {ad kd sd vd xd : Nat → Nat} {ca : Nat → ClassId} {A : Nat → Prop} {Q : State → Prop} (hE : o_EK E kd sd vd xd) (C : o_Cx E p s m args meth c D o_cls (o_tys ca) "SchemaJudge$Program" b_Pg_follow (some .boolean) 6 cc_Pg_follow A) (hDD : ∀ (rt : Nat) (Sj : SSJ) (T0 : STx) (T1 : STx) (Rd : SRd) (Pg : SPg) (Pt : SPt) (Mk : SMk) (Lk : SLk) (Ck : SCk) (Jd : SJd) (Ld : SLd) (Pr : SPr), va_D A (o_cw ad ca rt Sj T0 T1 Rd Pg Pt Mk Lk Ck Jd Ld Pr)) (n : Nat) (u7_x1 : Int32) (u7_x2 : Int32) (u7_x3 : Int32) (u7_Sj : SSJ) (u7_T0 : STx) (u7_T1 : STx) (u7_Rd : SRd) (u7_Pt : SPt) (u7_Mk : SMk) (u7_Lk : SLk) (u7_Ck : SCk) (u7_Jd : SJd) (u7_Ld : SLd) (u7_Pr : SPr) (u7_rt : Nat) (x4 : Int32) (y1 : Int32) (Pg : SPg) {q : Nat × Int32 × SPg} (h : m_Pg_follow_j165 n u7_x1 u7_x2 u7_x3 x4 y1 Pg = some q) (h0 : q.1 = 0 → o_At p l e rm_Pg_follow s m args below meth c Q o_cls D A 6 7 [] (o_cw ad ca u7_rt u7_Sj u7_T0 u7_T1 u7_Rd q.2.2 u7_Pt u7_Mk u7_Lk u7_Ck u7_Jd u7_Ld u7_Pr) [(0, .ref (ad 25)), (1, .int u7_x1), (2, .int u7_x2), (3, .int u7_x3), (4, .int q.2.1)]) (h1 : q.1 ≠ 0 → (if q.1 = 1 then o_At p l e rm_Pg_follow s m args below meth c Q o_cls D A 6 84 [] (o_cw ad ca u7_rt u7_Sj u7_T0 u7_T1 u7_Rd q.2.2 u7_Pt u7_Mk u7_Lk u7_Ck u7_Jd u7_Ld u7_Pr) [] else o_At p l e rm_Pg_follow s m args below meth c Q o_cls D A 6 211 [] (o_cw ad ca u7_rt u7_Sj u7_T0 u7_T1 u7_Rd q.2.2 u7_Pt u7_Mk u7_Lk u7_Ck u7_Jd u7_Ld u7_Pr) [])) : o_At p l e rm_Pg_follow s m args below meth c Q o_cls D A 6 165 [.int y1, .ref (ad 25)] (o_cw ad ca u7_rt u7_Sj u7_T0 u7_T1 u7_Rd Pg u7_Pt u7_Mk u7_Lk u7_Ck u7_Jd u7_Ld u7_Pr) [(0, .ref (ad 25)), (1, .int u7_x1), (2, .int u7_x2), (3, .int u7_x3), (4, .int x4)] := by
  unfold m_Pg_follow_j165 at h
  intro H locs ls hP hS hl
  have C0 := C
  obtain ⟨hx, hb, -, -, -, hown, hts, hK, -, -⟩ := C0
  refine lv_iload_n hx hb d_Pg_follow_165 rfl (lv_at hl 3 rfl) ?_
  obtain ⟨q2, hq2, h⟩ := o_bd_some h
  refine o_V (st1 := []) (w1 := (o_cw ad ca u7_rt u7_Sj u7_T0 u7_T1 u7_Rd q2 u7_Pt u7_Mk u7_Lk u7_Ck u7_Jd u7_Ld u7_Pr)) hE.1 C (c_Pg_push hE l y1 u7_x3 Pg u7_Sj u7_T0 u7_T1 u7_Rd u7_Pt u7_Mk u7_Lk u7_Ck u7_Jd u7_Ld u7_Pr u7_rt hq2) hP (hDD _ _ _ _ _ _ _ _ _ _ _ _ _) hS hl.1 rfl cw_25 k_6_90 k_6_92 k_s_63 k_1_4 k_6_93 hv_Pg_push rfl rfl ⟨(Nat.le_of_ble_eq_true rfl), (Nat.le_of_ble_eq_true rfl)⟩ rfl (Nat.le_of_ble_eq_true rfl) ⟨Nat.zero_le _, Nat.zero_le _⟩ rfl d_Pg_follow_166 (fun H locs hP hS => ?_)
  refine lv_goto (tgt := 205) hx hb d_Pg_follow_169 (by decide) ?_
  obtain ⟨x4_205, ex4_205⟩ : ∃ y : Int32, y = x4 + (1:Int32) := ⟨_, rfl⟩
  replace h := o_nm_at ex4_205 h
  refine lv_iinc (v := x4_205) (lv' := [(4, .int x4_205), (0, .ref (ad 25)), (1, .int u7_x1), (2, .int u7_x2), (3, .int u7_x3)]) hx hb d_Pg_follow_205 hl (k := 4) rfl (by rw [ex4_205]; rfl) (by decide) rfl (fun ls hl => ?_)
  refine lv_goto (tgt := 7) hx hb d_Pg_follow_208 (by decide) ?_
  cases h
  exact h0 rfl _ _ _ hP hS (lv_sub hl [1, 2, 3, 4, 0] rfl)
set_option maxHeartbeats 4000000 in
set_option maxRecDepth 100000 in
theorem w_Pg_follow_b7 {E : (Nat → Prop) → State → Heap → Prop} {p : Program} {l : Launch} {e : Env} {s : State} {m : MethodId} {args : Array Value} {below : List Frame} {meth : Method} {c : Code} {D : va_G} {ad kd sd vd xd : Nat → Nat} {ca : Nat → ClassId} {A : Nat → Prop} {Q : State → Prop} (hE : o_EK E kd sd vd xd) (C : o_Cx E p s m args meth c D o_cls (o_tys ca) "SchemaJudge$Program" b_Pg_follow (some .boolean) 6 cc_Pg_follow A) (hDD : ∀ (rt : Nat) (Sj : SSJ) (T0 : STx) (T1 : STx) (Rd : SRd) (Pg : SPg) (Pt : SPt) (Mk : SMk) (Lk : SLk) (Ck : SCk) (Jd : SJd) (Ld : SLd) (Pr : SPr), va_D A (o_cw ad ca rt Sj T0 T1 Rd Pg Pt Mk Lk Ck Jd Ld Pr)) (n : Nat) (u7_x1 : Int32) (u7_x2 : Int32) (u7_x3 : Int32) (u7_Sj : SSJ) (u7_T0 : STx) (u7_T1 : STx) (u7_Rd : SRd) (u7_Pt : SPt) (u7_Mk : SMk) (u7_Lk : SLk) (u7_Ck : SCk) (u7_Jd : SJd) (u7_Ld : SLd) (u7_Pr : SPr) (u7_rt : Nat) (z : Int32 × SPg) (q : Nat × Int32 × SPg) (h : m_Pg_follow_b7 n u7_x1 u7_x2 u7_x3 z = some q) (h0 : q.1 = 0 → o_At p l e rm_Pg_follow s m args below meth c Q o_cls D A 6 7 [] (o_cw ad ca u7_rt u7_Sj u7_T0 u7_T1 u7_Rd q.2.2 u7_Pt u7_Mk u7_Lk u7_Ck u7_Jd u7_Ld u7_Pr) [(0, .ref (ad 25)), (1, .int u7_x1), (2, .int u7_x2), (3, .int u7_x3), (4, .int q.2.1)]) (h1 : q.1 ≠ 0 → (if q.1 = 1 then o_At p l e rm_Pg_follow s m args below meth c Q o_cls D A 6 84 [] (o_cw ad ca u7_rt u7_Sj u7_T0 u7_T1 u7_Rd q.2.2 u7_Pt u7_Mk u7_Lk u7_Ck u7_Jd u7_Ld u7_Pr) [] else o_At p l e rm_Pg_follow s m args below meth c Q o_cls D A 6 211 [] (o_cw ad ca u7_rt u7_Sj u7_T0 u7_T1 u7_Rd q.2.2 u7_Pt u7_Mk u7_Lk u7_Ck u7_Jd u7_Ld u7_Pr) [])) : o_At p l e rm_Pg_follow s m args below meth c Q o_cls D A 6 7 [] (o_cw ad ca u7_rt u7_Sj u7_T0 u7_T1 u7_Rd z.2 u7_Pt u7_Mk u7_Lk u7_Ck u7_Jd u7_Ld u7_Pr) [(0, .ref (ad 25)), (1, .int u7_x1), (2, .int u7_x2), (3, .int u7_x3), (4, .int z.1)] := by
  unfold m_Pg_follow_b7 at h
  intro H locs ls hP hS hl
  have C0 := C
  obtain ⟨hx, hb, -, -, -, hown, hts, hK, -, -⟩ := C0
  refine lv_iload hx hb d_Pg_follow_7 (lv_at hl 4 rfl) ?_
  refine lv_sipush (v := (1300:Int32)) hx hb d_Pg_follow_9 (by decide) ?_
  refine lv_icmp_ge (tgt := 211) hx hb d_Pg_follow_12 (by decide) (fun c1 => ?_) (fun c1 => ?_)
  · replace h := o_tt c1 h
    cases h
    exact h1 (Nat.succ_ne_zero 1) _ _ _ hP hS (lv_sub hl [] rfl)
  · replace h := o_ff c1 h
    refine lv_aload_n hx hb d_Pg_follow_15 rfl (lv_at hl 0 rfl) ?_
    refine o_get (v := .int (Pg_top z.2)) C in_Pg hP 25 cw_25 rfl 7 (by decide) k_1_127 rfl rfl d_Pg_follow_16 ?_
    refine lv_if_le (tgt := 211) hx hb d_Pg_follow_19 (by decide) (fun c2 => ?_) (fun c2 => ?_)
    · replace h := o_tt c2 h
      cases h
      exact h1 (Nat.succ_ne_zero 1) _ _ _ hP hS (lv_sub hl [] rfl)
    · replace h := o_ff c2 h
      refine lv_aload_n hx hb d_Pg_follow_22 rfl (lv_at hl 0 rfl) ?_
      refine lv_dup hx hb d_Pg_follow_23 rfl ?_
      refine o_get (v := .int (Pg_top z.2)) C in_Pg hP 25 cw_25 rfl 7 (by decide) k_1_127 rfl rfl d_Pg_follow_24 ?_
      refine lv_iconst (v := (1:Int32)) hx hb d_Pg_follow_27 (by decide) ?_
      refine lv_isub hx hb d_Pg_follow_28 ?_
      refine o_put (v := .int ((Pg_top z.2) - (1:Int32))) (ty := .int) (w1 := (o_cw ad ca u7_rt u7_Sj u7_T0 u7_T1 u7_Rd (Pg_mk (Pg_operations z.2) (Pg_arguments z.2) (Pg_length z.2) (Pg_sets z.2) (Pg_setsUsed z.2) (Pg_rounds z.2) (Pg_stack z.2) ((Pg_top z.2) - (1:Int32)) (Pg_waiting z.2) (Pg_waitingCount z.2) (Pg_moved z.2)) u7_Pt u7_Mk u7_Lk u7_Ck u7_Jd u7_Ld u7_Pr)) C in_Pg t_Pg t_Pg_ok n_Pg hP (hDD _ _ _ _ _ _ _ _ _ _ _ _ _) hS 25 cw_25 rfl 7 (by decide) k_1_127 rfl rfl (by decide +kernel) rfl rfl (Nat.le_of_ble_eq_true rfl) rfl d_Pg_follow_29 (fun H locs hP hS => ?_)
      refine lv_aload_n hx hb d_Pg_follow_32 rfl (lv_at hl 0 rfl) ?_
      refine o_get (v := .ref (ad 30)) C in_Pg hP 25 cw_25 rfl 6 (by decide) k_1_126 rfl rfl d_Pg_follow_33 ?_
      refine lv_aload_n hx hb d_Pg_follow_36 rfl (lv_at hl 0 rfl) ?_
      refine o_get (v := .int ((Pg_top z.2) - (1:Int32))) C in_Pg hP 25 cw_25 rfl 7 (by decide) k_1_127 rfl rfl d_Pg_follow_37 ?_
      obtain ⟨g3, h⟩ := o_gd_some h
      refine o_iald (f := (Pg_stack z.2)) C hP 30 25 cw_30 rfl g3 d_Pg_follow_40 ?_
      refine lv_topi (fun x5_41 ex5_41 => ?_)
      replace h := o_nm_at ex5_41 h
      refine lv_istore (lv' := [(5, .int x5_41), (0, .ref (ad 25)), (1, .int u7_x1), (2, .int u7_x2), (3, .int u7_x3), (4, .int z.1)]) hx hb d_Pg_follow_41 hl (by decide) rfl (fun ls hl => ?_)
      refine lv_aload_n hx hb d_Pg_follow_43 rfl (lv_at hl 1 rfl) ?_
      refine o_get (v := .ref (ad 26)) C in_Pg hP 25 cw_25 rfl 0 (by decide) k_1_119 rfl rfl d_Pg_follow_44 ?_
      refine lv_iload hx hb d_Pg_follow_47 (lv_at hl 0 rfl) ?_
      obtain ⟨g4, h⟩ := o_gd_some h
      refine o_iald (f := (Pg_operations z.2)) C hP 26 21 cw_26 rfl g4 d_Pg_follow_49 ?_
      refine lv_topi (fun w50 ew50 => ?_)
      replace h := o_nm_at ew50 h
      by_cases c5 : w50 = (4:Int32)
      · replace h := o_tt c5 h
        refine lv_tableIn (off := 81) (tgt := 131) hx hb d_Pg_follow_50 (by rw [c5]; decide) (by rw [c5]; decide) (by rw [c5]; rfl) (by decide) ?_
        refine lv_aload_n hx hb d_Pg_follow_131 rfl (lv_at hl 1 rfl) ?_
        refine lv_iload_n hx hb d_Pg_follow_132 rfl (lv_at hl 2 rfl) ?_
        refine lv_if_ne (tgt := 143) hx hb d_Pg_follow_133 (by decide) (fun c6 => ?_) (fun c6 => ?_)
        · replace h := o_ff c6 h
          refine lv_iconst (v := (-1:Int32)) hx hb d_Pg_follow_143 (by decide) ?_
          exact w_Pg_follow_j144 hE C hDD n u7_x1 u7_x2 u7_x3 u7_Sj u7_T0 u7_T1 u7_Rd u7_Pt u7_Mk u7_Lk u7_Ck u7_Jd u7_Ld u7_Pr u7_rt z.1 (-1:Int32) (Pg_mk (Pg_operations z.2) (Pg_arguments z.2) (Pg_length z.2) (Pg_sets z.2) (Pg_setsUsed z.2) (Pg_rounds z.2) (Pg_stack z.2) ((Pg_top z.2) - (1:Int32)) (Pg_waiting z.2) (Pg_waitingCount z.2) (Pg_moved z.2)) h h0 h1 _ _ _ hP hS (lv_sub hl [1, 2, 3, 4, 5] rfl)
        · replace h := o_tt c6 h
          refine lv_iload hx hb d_Pg_follow_136 (lv_at hl 0 rfl) ?_
          refine lv_iconst (v := (1:Int32)) hx hb d_Pg_follow_138 (by decide) ?_
          refine lv_iadd hx hb d_Pg_follow_139 ?_
          refine lv_goto (tgt := 144) hx hb d_Pg_follow_140 (by decide) ?_
          exact w_Pg_follow_j144 hE C hDD n u7_x1 u7_x2 u7_x3 u7_Sj u7_T0 u7_T1 u7_Rd u7_Pt u7_Mk u7_Lk u7_Ck u7_Jd u7_Ld u7_Pr u7_rt z.1 (x5_41 + (1:Int32)) (Pg_mk (Pg_operations z.2) (Pg_arguments z.2) (Pg_length z.2) (Pg_sets z.2) (Pg_setsUsed z.2) (Pg_rounds z.2) (Pg_stack z.2) ((Pg_top z.2) - (1:Int32)) (Pg_waiting z.2) (Pg_waitingCount z.2) (Pg_moved z.2)) h h0 h1 _ _ _ hP hS (lv_sub hl [1, 2, 3, 4, 5] rfl)
      replace h := o_ff c5 h
      by_cases c7 : w50 = (5:Int32)
      · replace h := o_tt c7 h
        refine lv_tableIn (off := 101) (tgt := 151) hx hb d_Pg_follow_50 (by rw [c7]; decide) (by rw [c7]; decide) (by rw [c7]; rfl) (by decide) ?_
        refine lv_aload_n hx hb d_Pg_follow_151 rfl (lv_at hl 1 rfl) ?_
        refine lv_iload_n hx hb d_Pg_follow_152 rfl (lv_at hl 2 rfl) ?_
        refine lv_iload_n hx hb d_Pg_follow_153 rfl (lv_at hl 3 rfl) ?_
        refine lv_icmp_ne (tgt := 164) hx hb d_Pg_follow_154 (by decide) (fun c8 => ?_) (fun c8 => ?_)
        · replace h := o_ff c8 h
          refine lv_iconst (v := (-1:Int32)) hx hb d_Pg_follow_164 (by decide) ?_
          exact w_Pg_follow_j165 hE C hDD n u7_x1 u7_x2 u7_x3 u7_Sj u7_T0 u7_T1 u7_Rd u7_Pt u7_Mk u7_Lk u7_Ck u7_Jd u7_Ld u7_Pr u7_rt z.1 (-1:Int32) (Pg_mk (Pg_operations z.2) (Pg_arguments z.2) (Pg_length z.2) (Pg_sets z.2) (Pg_setsUsed z.2) (Pg_rounds z.2) (Pg_stack z.2) ((Pg_top z.2) - (1:Int32)) (Pg_waiting z.2) (Pg_waitingCount z.2) (Pg_moved z.2)) h h0 h1 _ _ _ hP hS (lv_sub hl [1, 2, 3, 4, 5] rfl)
        · replace h := o_tt c8 h
          refine lv_iload hx hb d_Pg_follow_157 (lv_at hl 0 rfl) ?_
          refine lv_iconst (v := (1:Int32)) hx hb d_Pg_follow_159 (by decide) ?_
          refine lv_iadd hx hb d_Pg_follow_160 ?_
          refine lv_goto (tgt := 165) hx hb d_Pg_follow_161 (by decide) ?_
          exact w_Pg_follow_j165 hE C hDD n u7_x1 u7_x2 u7_x3 u7_Sj u7_T0 u7_T1 u7_Rd u7_Pt u7_Mk u7_Lk u7_Ck u7_Jd u7_Ld u7_Pr u7_rt z.1 (x5_41 + (1:Int32)) (Pg_mk (Pg_operations z.2) (Pg_arguments z.2) (Pg_length z.2) (Pg_sets z.2) (Pg_setsUsed z.2) (Pg_rounds z.2) (Pg_stack z.2) ((Pg_top z.2) - (1:Int32)) (Pg_waiting z.2) (Pg_waitingCount z.2) (Pg_moved z.2)) h h0 h1 _ _ _ hP hS (lv_sub hl [1, 2, 3, 4, 5] rfl)
      replace h := o_ff c7 h
      by_cases c9 : w50 = (6:Int32)
      · replace h := o_tt c9 h
        refine lv_tableIn (off := 54) (tgt := 104) hx hb d_Pg_follow_50 (by rw [c9]; decide) (by rw [c9]; decide) (by rw [c9]; rfl) (by decide) ?_
        refine lv_aload_n hx hb d_Pg_follow_104 rfl (lv_at hl 1 rfl) ?_
        refine lv_iload hx hb d_Pg_follow_105 (lv_at hl 0 rfl) ?_
        refine lv_iconst (v := (1:Int32)) hx hb d_Pg_follow_107 (by decide) ?_
        refine lv_iadd hx hb d_Pg_follow_108 ?_
        refine lv_iload_n hx hb d_Pg_follow_109 rfl (lv_at hl 4 rfl) ?_
        obtain ⟨q3, hq3, h⟩ := o_bd_some h
        refine o_V (st1 := []) (w1 := (o_cw ad ca u7_rt u7_Sj u7_T0 u7_T1 u7_Rd q3 u7_Pt u7_Mk u7_Lk u7_Ck u7_Jd u7_Ld u7_Pr)) hE.1 C (c_Pg_push hE l (x5_41 + (1:Int32)) u7_x3 (Pg_mk (Pg_operations z.2) (Pg_arguments z.2) (Pg_length z.2) (Pg_sets z.2) (Pg_setsUsed z.2) (Pg_rounds z.2) (Pg_stack z.2) ((Pg_top z.2) - (1:Int32)) (Pg_waiting z.2) (Pg_waitingCount z.2) (Pg_moved z.2)) u7_Sj u7_T0 u7_T1 u7_Rd u7_Pt u7_Mk u7_Lk u7_Ck u7_Jd u7_Ld u7_Pr u7_rt hq3) hP (hDD _ _ _ _ _ _ _ _ _ _ _ _ _) hS hl.1 rfl cw_25 k_6_90 k_6_92 k_s_63 k_1_4 k_6_93 hv_Pg_push rfl rfl ⟨(Nat.le_of_ble_eq_true rfl), (Nat.le_of_ble_eq_true rfl)⟩ rfl (Nat.le_of_ble_eq_true rfl) ⟨Nat.zero_le _, Nat.zero_le _⟩ rfl d_Pg_follow_110 (fun H locs hP hS => ?_)
        refine lv_aload_n hx hb d_Pg_follow_113 rfl (lv_at hl 1 rfl) ?_
        refine lv_iload hx hb d_Pg_follow_114 (lv_at hl 0 rfl) ?_
        refine lv_aload_n hx hb d_Pg_follow_116 rfl (lv_at hl 1 rfl) ?_
        refine o_get (v := .ref (ad 27)) C in_Pg hP 25 cw_25 rfl 1 (by decide) k_1_120 rfl rfl d_Pg_follow_117 ?_
        refine lv_iload hx hb d_Pg_follow_120 (lv_at hl 0 rfl) ?_
        obtain ⟨g10, h⟩ := o_gd_some h
        refine o_iald (f := (Pg_arguments q3)) C hP 27 22 cw_27 rfl g10 d_Pg_follow_122 ?_
        refine lv_iadd hx hb d_Pg_follow_123 ?_
        refine lv_iload_n hx hb d_Pg_follow_124 rfl (lv_at hl 4 rfl) ?_
        obtain ⟨q4, hq4, h⟩ := o_bd_some h
        refine o_V (st1 := []) (w1 := (o_cw ad ca u7_rt u7_Sj u7_T0 u7_T1 u7_Rd q4 u7_Pt u7_Mk u7_Lk u7_Ck u7_Jd u7_Ld u7_Pr)) hE.1 C (c_Pg_push hE l (x5_41 + ((Pg_arguments q3) x5_41.toNatClampNeg)) u7_x3 q3 u7_Sj u7_T0 u7_T1 u7_Rd u7_Pt u7_Mk u7_Lk u7_Ck u7_Jd u7_Ld u7_Pr u7_rt hq4) hP (hDD _ _ _ _ _ _ _ _ _ _ _ _ _) hS hl.1 rfl cw_25 k_6_90 k_6_92 k_s_63 k_1_4 k_6_93 hv_Pg_push rfl rfl ⟨(Nat.le_of_ble_eq_true rfl), (Nat.le_of_ble_eq_true rfl)⟩ rfl (Nat.le_of_ble_eq_true rfl) ⟨Nat.zero_le _, Nat.zero_le _⟩ rfl d_Pg_follow_125 (fun H locs hP hS => ?_)
        refine lv_goto (tgt := 205) hx hb d_Pg_follow_128 (by decide) ?_
        obtain ⟨x4_205, ex4_205⟩ : ∃ y : Int32, y = z.1 + (1:Int32) := ⟨_, rfl⟩
        replace h := o_nm_at ex4_205 h
        refine lv_iinc (v := x4_205) (lv' := [(4, .int x4_205), (5, .int x5_41), (0, .ref (ad 25)), (1, .int u7_x1), (2, .int u7_x2), (3, .int u7_x3)]) hx hb d_Pg_follow_205 hl (k := 5) rfl (by rw [ex4_205]; rfl) (by decide) rfl (fun ls hl => ?_)
        refine lv_goto (tgt := 7) hx hb d_Pg_follow_208 (by decide) ?_
        cases h
        exact h0 rfl _ _ _ hP hS (lv_sub hl [2, 3, 4, 5, 0] rfl)
      replace h := o_ff c9 h
      by_cases c11 : w50 = (7:Int32)
      · replace h := o_tt c11 h
        refine lv_tableIn (off := 36) (tgt := 86) hx hb d_Pg_follow_50 (by rw [c11]; decide) (by rw [c11]; decide) (by rw [c11]; rfl) (by decide) ?_
        refine lv_aload_n hx hb d_Pg_follow_86 rfl (lv_at hl 1 rfl) ?_
        refine lv_iload hx hb d_Pg_follow_87 (lv_at hl 0 rfl) ?_
        refine lv_aload_n hx hb d_Pg_follow_89 rfl (lv_at hl 1 rfl) ?_
        refine o_get (v := .ref (ad 27)) C in_Pg hP 25 cw_25 rfl 1 (by decide) k_1_120 rfl rfl d_Pg_follow_90 ?_
        refine lv_iload hx hb d_Pg_follow_93 (lv_at hl 0 rfl) ?_
        obtain ⟨g12, h⟩ := o_gd_some h
        refine o_iald (f := (Pg_arguments z.2)) C hP 27 22 cw_27 rfl g12 d_Pg_follow_95 ?_
        refine lv_iadd hx hb d_Pg_follow_96 ?_
        refine lv_iload_n hx hb d_Pg_follow_97 rfl (lv_at hl 4 rfl) ?_
        obtain ⟨q5, hq5, h⟩ := o_bd_some h
        refine o_V (st1 := []) (w1 := (o_cw ad ca u7_rt u7_Sj u7_T0 u7_T1 u7_Rd q5 u7_Pt u7_Mk u7_Lk u7_Ck u7_Jd u7_Ld u7_Pr)) hE.1 C (c_Pg_push hE l (x5_41 + ((Pg_arguments z.2) x5_41.toNatClampNeg)) u7_x3 (Pg_mk (Pg_operations z.2) (Pg_arguments z.2) (Pg_length z.2) (Pg_sets z.2) (Pg_setsUsed z.2) (Pg_rounds z.2) (Pg_stack z.2) ((Pg_top z.2) - (1:Int32)) (Pg_waiting z.2) (Pg_waitingCount z.2) (Pg_moved z.2)) u7_Sj u7_T0 u7_T1 u7_Rd u7_Pt u7_Mk u7_Lk u7_Ck u7_Jd u7_Ld u7_Pr u7_rt hq5) hP (hDD _ _ _ _ _ _ _ _ _ _ _ _ _) hS hl.1 rfl cw_25 k_6_90 k_6_92 k_s_63 k_1_4 k_6_93 hv_Pg_push rfl rfl ⟨(Nat.le_of_ble_eq_true rfl), (Nat.le_of_ble_eq_true rfl)⟩ rfl (Nat.le_of_ble_eq_true rfl) ⟨Nat.zero_le _, Nat.zero_le _⟩ rfl d_Pg_follow_98 (fun H locs hP hS => ?_)
        refine lv_goto (tgt := 205) hx hb d_Pg_follow_101 (by decide) ?_
        obtain ⟨x4_205, ex4_205⟩ : ∃ y : Int32, y = z.1 + (1:Int32) := ⟨_, rfl⟩
        replace h := o_nm_at ex4_205 h
        refine lv_iinc (v := x4_205) (lv' := [(4, .int x4_205), (5, .int x5_41), (0, .ref (ad 25)), (1, .int u7_x1), (2, .int u7_x2), (3, .int u7_x3)]) hx hb d_Pg_follow_205 hl (k := 5) rfl (by rw [ex4_205]; rfl) (by decide) rfl (fun ls hl => ?_)
        refine lv_goto (tgt := 7) hx hb d_Pg_follow_208 (by decide) ?_
        cases h
        exact h0 rfl _ _ _ hP hS (lv_sub hl [2, 3, 4, 5, 0] rfl)
      replace h := o_ff c11 h
      by_cases c13 : w50 = (8:Int32)
      · replace h := o_tt c13 h
        refine lv_tableIn (off := 34) (tgt := 84) hx hb d_Pg_follow_50 (by rw [c13]; decide) (by rw [c13]; decide) (by rw [c13]; rfl) (by decide) ?_
        cases h
        exact h1 (Nat.succ_ne_zero 0) _ _ _ hP hS (lv_sub hl [] rfl)
      replace h := o_ff c13 h
      refine lv_tableOut (tgt := 172) hx hb d_Pg_follow_50 (by have ec5 := o_ne_i (n := 4) (by decide) c5; have ec7 := o_ne_i (n := 5) (by decide) c7; have ec9 := o_ne_i (n := 6) (by decide) c9; have ec11 := o_ne_i (n := 7) (by decide) c11; have ec13 := o_ne_i (n := 8) (by decide) c13; omega) (by decide) ?_
      refine lv_aload_n hx hb d_Pg_follow_172 rfl (lv_at hl 1 rfl) ?_
      refine o_get (v := .int (Pg_waitingCount z.2)) C in_Pg hP 25 cw_25 rfl 9 (by decide) k_1_129 rfl rfl d_Pg_follow_173 ?_
      refine lv_aload_n hx hb d_Pg_follow_176 rfl (lv_at hl 1 rfl) ?_
      refine o_get (v := .ref (ad 31)) C in_Pg hP 25 cw_25 rfl 8 (by decide) k_1_128 rfl rfl d_Pg_follow_177 ?_
      refine va_alen (v := (1300:Int32)) hx hb hK hP 31 26 cw_31 rfl rfl d_Pg_follow_180 ?_
      refine lv_icmp_ge (tgt := 205) hx hb d_Pg_follow_181 (by decide) (fun c14 => ?_) (fun c14 => ?_)
      · replace h := o_tt c14 h
        obtain ⟨x4_205, ex4_205⟩ : ∃ y : Int32, y = z.1 + (1:Int32) := ⟨_, rfl⟩
        replace h := o_nm_at ex4_205 h
        refine lv_iinc (v := x4_205) (lv' := [(4, .int x4_205), (5, .int x5_41), (0, .ref (ad 25)), (1, .int u7_x1), (2, .int u7_x2), (3, .int u7_x3)]) hx hb d_Pg_follow_205 hl (k := 5) rfl (by rw [ex4_205]; rfl) (by decide) rfl (fun ls hl => ?_)
        refine lv_goto (tgt := 7) hx hb d_Pg_follow_208 (by decide) ?_
        cases h
        exact h0 rfl _ _ _ hP hS (lv_sub hl [2, 3, 4, 5, 0] rfl)
      · replace h := o_ff c14 h
        refine lv_aload_n hx hb d_Pg_follow_184 rfl (lv_at hl 1 rfl) ?_
        refine o_get (v := .ref (ad 31)) C in_Pg hP 25 cw_25 rfl 8 (by decide) k_1_128 rfl rfl d_Pg_follow_185 ?_
        refine lv_aload_n hx hb d_Pg_follow_188 rfl (lv_at hl 1 rfl) ?_
        refine o_get (v := .int (Pg_waitingCount z.2)) C in_Pg hP 25 cw_25 rfl 9 (by decide) k_1_129 rfl rfl d_Pg_follow_189 ?_
        refine lv_iload hx hb d_Pg_follow_192 (lv_at hl 0 rfl) ?_
        obtain ⟨g15, h⟩ := o_gd_some h
        refine o_iast (f := (Pg_waiting z.2)) (w1 := (o_cw ad ca u7_rt u7_Sj u7_T0 u7_T1 u7_Rd (Pg_mk (Pg_operations z.2) (Pg_arguments z.2) (Pg_length z.2) (Pg_sets z.2) (Pg_setsUsed z.2) (Pg_rounds z.2) (Pg_stack z.2) ((Pg_top z.2) - (1:Int32)) (upd (Pg_waiting z.2) (Pg_waitingCount z.2).toNatClampNeg x5_41) (Pg_waitingCount z.2) (Pg_moved z.2)) u7_Pt u7_Mk u7_Lk u7_Ck u7_Jd u7_Ld u7_Pr)) C hP (hDD _ _ _ _ _ _ _ _ _ _ _ _ _) hS 31 26 cw_31 rfl g15 rfl d_Pg_follow_194 (fun H locs hP hS => ?_)
        refine lv_aload_n hx hb d_Pg_follow_195 rfl (lv_at hl 1 rfl) ?_
        refine lv_dup hx hb d_Pg_follow_196 rfl ?_
        refine o_get (v := .int (Pg_waitingCount z.2)) C in_Pg hP 25 cw_25 rfl 9 (by decide) k_1_129 rfl rfl d_Pg_follow_197 ?_
        refine lv_iconst (v := (1:Int32)) hx hb d_Pg_follow_200 (by decide) ?_
        refine lv_iadd hx hb d_Pg_follow_201 ?_
        refine o_put (v := .int ((Pg_waitingCount z.2) + (1:Int32))) (ty := .int) (w1 := (o_cw ad ca u7_rt u7_Sj u7_T0 u7_T1 u7_Rd (Pg_mk (Pg_operations z.2) (Pg_arguments z.2) (Pg_length z.2) (Pg_sets z.2) (Pg_setsUsed z.2) (Pg_rounds z.2) (Pg_stack z.2) ((Pg_top z.2) - (1:Int32)) (upd (Pg_waiting z.2) (Pg_waitingCount z.2).toNatClampNeg x5_41) ((Pg_waitingCount z.2) + (1:Int32)) (Pg_moved z.2)) u7_Pt u7_Mk u7_Lk u7_Ck u7_Jd u7_Ld u7_Pr)) C in_Pg t_Pg t_Pg_ok n_Pg hP (hDD _ _ _ _ _ _ _ _ _ _ _ _ _) hS 25 cw_25 rfl 9 (by decide) k_1_129 rfl rfl (by decide +kernel) rfl rfl (Nat.le_of_ble_eq_true rfl) rfl d_Pg_follow_202 (fun H locs hP hS => ?_)
        obtain ⟨x4_205, ex4_205⟩ : ∃ y : Int32, y = z.1 + (1:Int32) := ⟨_, rfl⟩
        replace h := o_nm_at ex4_205 h
        refine lv_iinc (v := x4_205) (lv' := [(4, .int x4_205), (5, .int x5_41), (0, .ref (ad 25)), (1, .int u7_x1), (2, .int u7_x2), (3, .int u7_x3)]) hx hb d_Pg_follow_205 hl (k := 5) rfl (by rw [ex4_205]; rfl) (by decide) rfl (fun ls hl => ?_)
        refine lv_goto (tgt := 7) hx hb d_Pg_follow_208 (by decide) ?_
        cases h
        exact h0 rfl _ _ _ hP hS (lv_sub hl [2, 3, 4, 5, 0] rfl)
set_option maxHeartbeats 4000000 in
set_option maxRecDepth 100000 in
theorem c_Pg_follow {E : (Nat → Prop) → State → Heap → Prop} {D : va_G} {ad kd sd vd xd : Nat → Nat} {ca : Nat → ClassId} (hE : o_EK E kd sd vd xd) (l : Launch) (n : Nat) (x1 : Int32) (x2 : Int32) (Pg : SPg) (Sj : SSJ) (T0 : STx) (T1 : STx) (Rd : SRd) (Pt : SPt) (Mk : SMk) (Lk : SLk) (Ck : SCk) (Jd : SJd) (Ld : SLd) (Pr : SPr) (rt : Nat) {r : Int32 × SPg} (h : m_Pg_follow n x1 x2 Pg = some r) : o_Cn E l D o_cls (o_tys ca) y_Pg_follow cc_Pg_follow rm_Pg_follow [.ref (ad 25), .int x1, .int x2] (o_cw ad ca rt Sj T0 T1 Rd Pg Pt Mk Lk Ck Jd Ld Pr) (o_cw ad ca rt Sj T0 T1 Rd r.2 Pt Mk Lk Ck Jd Ld Pr) (some (.int r.1)) := by
  refine o_Cn_of (by decide) (Nat.le_of_ble_eq_true rfl) ?_
  intro p e s m below meth c A ls C hD hP hS hl
  have hDD : ∀ (rt : Nat) (Sj : SSJ) (T0 : STx) (T1 : STx) (Rd : SRd) (Pg : SPg) (Pt : SPt) (Mk : SMk) (Lk : SLk) (Ck : SCk) (Jd : SJd) (Ld : SLd) (Pr : SPr), va_D A (o_cw ad ca rt Sj T0 T1 Rd Pg Pt Mk Lk Ck Jd Ld Pr) := fun _ _ _ _ _ _ _ _ _ _ _ _ _ => o_D_map hD rfl
  have hl : lv_has ls 6 [(0, .ref (ad 25)), (1, .int x1), (2, .int x2)] := hl
  unfold m_Pg_follow at h
  have C0 := C
  obtain ⟨hx, hb, -, -, -, hown, hts, hK, -, -⟩ := C0
  refine lv_iload_n hx hb d_Pg_follow_0 rfl (lv_at hl 1 rfl) ?_
  refine lv_iconst (v := (1:Int32)) hx hb d_Pg_follow_1 (by decide) ?_
  refine lv_iadd hx hb d_Pg_follow_2 ?_
  refine lv_topi (fun x3_3 ex3_3 => ?_)
  replace h := o_nm_at ex3_3 h
  refine lv_istore_n (lv' := [(3, .int x3_3), (0, .ref (ad 25)), (1, .int x1), (2, .int x2)]) hx hb d_Pg_follow_3 rfl hl (by decide) rfl (fun ls hl => ?_)
  refine lv_iconst (v := (0:Int32)) hx hb d_Pg_follow_4 (by decide) ?_
  refine lv_istore (lv' := [(4, .int (0:Int32)), (3, .int x3_3), (0, .ref (ad 25)), (1, .int x1), (2, .int x2)]) hx hb d_Pg_follow_5 hl (by decide) rfl (fun ls hl => ?_)
  obtain ⟨q6, hq6, h⟩ := o_bd_some h
  refine o_sim2 (AH := fun zz => o_At p l e rm_Pg_follow s m _ below meth c _ o_cls D A 6 7 [] (o_cw ad ca rt Sj T0 T1 Rd zz.2 Pt Mk Lk Ck Jd Ld Pr) [(0, .ref (ad 25)), (1, .int x1), (2, .int x2), (3, .int x3_3), (4, .int zz.1)]) (AX := fun qq => if qq.1 = 1 then o_At p l e rm_Pg_follow s m _ below meth c _ o_cls D A 6 84 [] (o_cw ad ca rt Sj T0 T1 Rd qq.2.2 Pt Mk Lk Ck Jd Ld Pr) [] else o_At p l e rm_Pg_follow s m _ below meth c _ o_cls D A 6 211 [] (o_cw ad ca rt Sj T0 T1 Rd qq.2.2 Pt Mk Lk Ck Jd Ld Pr) []) (fun zz qq h h0 h1 => w_Pg_follow_b7 hE C hDD n x1 x2 x3_3 Sj T0 T1 Rd Pt Mk Lk Ck Jd Ld Pr rt zz qq h h0 h1) n _ q6 hq6 ?_ _ _ _ hP hS (lv_sub hl [2, 3, 4, 1, 0] rfl)
  by_cases c16 : q6.1 = 1
  · replace h := o_tt c16 h
    refine o_ip c16 ?_
    intro H locs ls hP hS hl
    refine lv_iconst (v := (1:Int32)) hx hb d_Pg_follow_84 (by decide) ?_
    cases h
    exact o_rz (v := (1:Int32)) C o_nar1 hP hS d_Pg_follow_85
  replace h := o_ff c16 h
  refine o_in_ c16 ?_
  intro H locs ls hP hS hl
  refine lv_iconst (v := (0:Int32)) hx hb d_Pg_follow_211 (by decide) ?_
  cases h
  exact o_rz (v := (0:Int32)) C o_nar0 hP hS d_Pg_follow_212
set_option maxHeartbeats 4000000 in
set_option maxRecDepth 100000 in
theorem w_Pg_inClasses_j194 {E : (Nat → Prop) → State → Heap → Prop} {p : Program} {l : Launch} {e : Env} {s : State} {m : MethodId} {args : Array Value} {below : List Frame} {meth : Method} {c : Code} {D : va_G} {ad kd sd vd xd : Nat → Nat} {ca : Nat → ClassId} {A : Nat → Prop} (hE : o_EK E kd sd vd xd) (C : o_Cx E p s m args meth c D o_cls (o_tys ca) "SchemaJudge$Program" b_Pg_inClasses (some .boolean) 5 cc_Pg_inClasses A) (hDD : ∀ (rt : Nat) (Sj : SSJ) (T0 : STx) (T1 : STx) (Rd : SRd) (Pg : SPg) (Pt : SPt) (Mk : SMk) (Lk : SLk) (Ck : SCk) (Jd : SJd) (Ld : SLd) (Pr : SPr), va_D A (o_cw ad ca rt Sj T0 T1 Rd Pg Pt Mk Lk Ck Jd Ld Pr)) (y0 : Int32) (y1 : Int32) (Sj : SSJ) (T0 : STx) (T1 : STx) (Rd : SRd) (Pg : SPg) (Pt : SPt) (Mk : SMk) (Lk : SLk) (Ck : SCk) (Jd : SJd) (Ld : SLd) (Pr : SPr) (rt : Nat) {r : Int32} (h : m_Pg_inClasses_j194 y0 y1 = some r) : o_At p l e rm_Pg_inClasses s m args below meth c (MQ below (o_Qx D o_cls (some (.int r)) (o_cw ad ca rt Sj T0 T1 Rd Pg Pt Mk Lk Ck Jd Ld Pr) A) args s 0 0 A) o_cls D A 5 194 [.int y1, .int y0] (o_cw ad ca rt Sj T0 T1 Rd Pg Pt Mk Lk Ck Jd Ld Pr) [] := by
  unfold m_Pg_inClasses_j194 at h
  intro H locs ls hP hS hl
  have C0 := C
  obtain ⟨hx, hb, -, -, -, hown, hts, hK, -, -⟩ := C0
  refine lv_iand hx hb d_Pg_inClasses_194 ?_
  refine lv_if_eq (tgt := 202) hx hb d_Pg_inClasses_195 (by decide) (fun c10 => ?_) (fun c10 => ?_)
  · replace h := o_tt c10 h
    refine lv_iconst (v := (0:Int32)) hx hb d_Pg_inClasses_202 (by decide) ?_
    cases h
    exact o_rz (v := (0:Int32)) C o_nar0 hP hS d_Pg_inClasses_203
  · replace h := o_ff c10 h
    refine lv_iconst (v := (1:Int32)) hx hb d_Pg_inClasses_198 (by decide) ?_
    refine lv_goto (tgt := 203) hx hb d_Pg_inClasses_199 (by decide) ?_
    cases h
    exact o_rz (v := (1:Int32)) C o_nar1 hP hS d_Pg_inClasses_203
set_option maxHeartbeats 4000000 in
set_option maxRecDepth 100000 in
theorem w_Pg_inClasses_j177 {E : (Nat → Prop) → State → Heap → Prop} {p : Program} {l : Launch} {e : Env} {s : State} {m : MethodId} {args : Array Value} {below : List Frame} {meth : Method} {c : Code} {D : va_G} {ad kd sd vd xd : Nat → Nat} {ca : Nat → ClassId} {A : Nat → Prop} (hE : o_EK E kd sd vd xd) (C : o_Cx E p s m args meth c D o_cls (o_tys ca) "SchemaJudge$Program" b_Pg_inClasses (some .boolean) 5 cc_Pg_inClasses A) (hDD : ∀ (rt : Nat) (Sj : SSJ) (T0 : STx) (T1 : STx) (Rd : SRd) (Pg : SPg) (Pt : SPt) (Mk : SMk) (Lk : SLk) (Ck : SCk) (Jd : SJd) (Ld : SLd) (Pr : SPr), va_D A (o_cw ad ca rt Sj T0 T1 Rd Pg Pt Mk Lk Ck Jd Ld Pr)) (x0 : Int32) (x4 : Int32) (y0 : Int32) (y1 : Int32) (Sj : SSJ) (T0 : STx) (T1 : STx) (Rd : SRd) (Pg : SPg) (Pt : SPt) (Mk : SMk) (Lk : SLk) (Ck : SCk) (Jd : SJd) (Ld : SLd) (Pr : SPr) (rt : Nat) {r : Int32} (h : m_Pg_inClasses_j177 x0 x4 y0 y1 = some r) : o_At p l e rm_Pg_inClasses s m args below meth c (MQ below (o_Qx D o_cls (some (.int r)) (o_cw ad ca rt Sj T0 T1 Rd Pg Pt Mk Lk Ck Jd Ld Pr) A) args s 0 0 A) o_cls D A 5 177 [.int y1, .int y0] (o_cw ad ca rt Sj T0 T1 Rd Pg Pt Mk Lk Ck Jd Ld Pr) [(0, .int x0), (4, .int x4)] := by
  unfold m_Pg_inClasses_j177 at h
  intro H locs ls hP hS hl
  have C0 := C
  obtain ⟨hx, hb, -, -, -, hown, hts, hK, -, -⟩ := C0
  refine lv_iand hx hb d_Pg_inClasses_177 ?_
  refine lv_if_ne (tgt := 198) hx hb d_Pg_inClasses_178 (by decide) (fun c8 => ?_) (fun c8 => ?_)
  · replace h := o_ff c8 h
    refine lv_iconst (v := (1:Int32)) hx hb d_Pg_inClasses_198 (by decide) ?_
    refine lv_goto (tgt := 203) hx hb d_Pg_inClasses_199 (by decide) ?_
    cases h
    exact o_rz (v := (1:Int32)) C o_nar1 hP hS d_Pg_inClasses_203
  · replace h := o_tt c8 h
    refine lv_iload_n hx hb d_Pg_inClasses_181 rfl (lv_at hl 0 rfl) ?_
    refine lv_iload hx hb d_Pg_inClasses_182 (lv_at hl 1 rfl) ?_
    refine lv_if_eq (tgt := 192) hx hb d_Pg_inClasses_184 (by decide) (fun c9 => ?_) (fun c9 => ?_)
    · replace h := o_tt c9 h
      refine lv_bipush (v := (32:Int32)) hx hb d_Pg_inClasses_192 (by decide) ?_
      exact w_Pg_inClasses_j194 hE C hDD x0 (32:Int32) Sj T0 T1 Rd Pg Pt Mk Lk Ck Jd Ld Pr rt h _ _ _ hP hS (lv_sub hl [] rfl)
    · replace h := o_ff c9 h
      refine lv_bipush (v := (16:Int32)) hx hb d_Pg_inClasses_187 (by decide) ?_
      refine lv_goto (tgt := 194) hx hb d_Pg_inClasses_189 (by decide) ?_
      exact w_Pg_inClasses_j194 hE C hDD x0 (16:Int32) Sj T0 T1 Rd Pg Pt Mk Lk Ck Jd Ld Pr rt h _ _ _ hP hS (lv_sub hl [] rfl)
set_option maxHeartbeats 4000000 in
set_option maxRecDepth 100000 in
theorem w_Pg_inClasses_j162 {E : (Nat → Prop) → State → Heap → Prop} {p : Program} {l : Launch} {e : Env} {s : State} {m : MethodId} {args : Array Value} {below : List Frame} {meth : Method} {c : Code} {D : va_G} {ad kd sd vd xd : Nat → Nat} {ca : Nat → ClassId} {A : Nat → Prop} (hE : o_EK E kd sd vd xd) (C : o_Cx E p s m args meth c D o_cls (o_tys ca) "SchemaJudge$Program" b_Pg_inClasses (some .boolean) 5 cc_Pg_inClasses A) (hDD : ∀ (rt : Nat) (Sj : SSJ) (T0 : STx) (T1 : STx) (Rd : SRd) (Pg : SPg) (Pt : SPt) (Mk : SMk) (Lk : SLk) (Ck : SCk) (Jd : SJd) (Ld : SLd) (Pr : SPr), va_D A (o_cw ad ca rt Sj T0 T1 Rd Pg Pt Mk Lk Ck Jd Ld Pr)) (x0 : Int32) (x3 : Int32) (x4 : Int32) (y0 : Int32) (y1 : Int32) (Sj : SSJ) (T0 : STx) (T1 : STx) (Rd : SRd) (Pg : SPg) (Pt : SPt) (Mk : SMk) (Lk : SLk) (Ck : SCk) (Jd : SJd) (Ld : SLd) (Pr : SPr) (rt : Nat) {r : Int32} (h : m_Pg_inClasses_j162 x0 x3 x4 y0 y1 = some r) : o_At p l e rm_Pg_inClasses s m args below meth c (MQ below (o_Qx D o_cls (some (.int r)) (o_cw ad ca rt Sj T0 T1 Rd Pg Pt Mk Lk Ck Jd Ld Pr) A) args s 0 0 A) o_cls D A 5 162 [.int y1, .int y0] (o_cw ad ca rt Sj T0 T1 Rd Pg Pt Mk Lk Ck Jd Ld Pr) [(0, .int x0), (3, .int x3), (4, .int x4)] := by
  unfold m_Pg_inClasses_j162 at h
  intro H locs ls hP hS hl
  have C0 := C
  obtain ⟨hx, hb, -, -, -, hown, hts, hK, -, -⟩ := C0
  refine lv_iand hx hb d_Pg_inClasses_162 ?_
  refine lv_if_ne (tgt := 198) hx hb d_Pg_inClasses_163 (by decide) (fun c6 => ?_) (fun c6 => ?_)
  · replace h := o_ff c6 h
    refine lv_iconst (v := (1:Int32)) hx hb d_Pg_inClasses_198 (by decide) ?_
    refine lv_goto (tgt := 203) hx hb d_Pg_inClasses_199 (by decide) ?_
    cases h
    exact o_rz (v := (1:Int32)) C o_nar1 hP hS d_Pg_inClasses_203
  · replace h := o_tt c6 h
    refine lv_iload_n hx hb d_Pg_inClasses_166 rfl (lv_at hl 0 rfl) ?_
    refine lv_iload_n hx hb d_Pg_inClasses_167 rfl (lv_at hl 1 rfl) ?_
    refine lv_if_eq (tgt := 175) hx hb d_Pg_inClasses_168 (by decide) (fun c7 => ?_) (fun c7 => ?_)
    · replace h := o_tt c7 h
      refine lv_bipush (v := (8:Int32)) hx hb d_Pg_inClasses_175 (by decide) ?_
      exact w_Pg_inClasses_j177 hE C hDD x0 x4 x0 (8:Int32) Sj T0 T1 Rd Pg Pt Mk Lk Ck Jd Ld Pr rt h _ _ _ hP hS (lv_sub hl [0, 2] rfl)
    · replace h := o_ff c7 h
      refine lv_iconst (v := (4:Int32)) hx hb d_Pg_inClasses_171 (by decide) ?_
      refine lv_goto (tgt := 177) hx hb d_Pg_inClasses_172 (by decide) ?_
      exact w_Pg_inClasses_j177 hE C hDD x0 x4 x0 (4:Int32) Sj T0 T1 Rd Pg Pt Mk Lk Ck Jd Ld Pr rt h _ _ _ hP hS (lv_sub hl [0, 2] rfl)
set_option maxHeartbeats 4000000 in
set_option maxRecDepth 100000 in
theorem w_Pg_inClasses_j150 {E : (Nat → Prop) → State → Heap → Prop} {p : Program} {l : Launch} {e : Env} {s : State} {m : MethodId} {args : Array Value} {below : List Frame} {meth : Method} {c : Code} {D : va_G} {ad kd sd vd xd : Nat → Nat} {ca : Nat → ClassId} {A : Nat → Prop} (hE : o_EK E kd sd vd xd) (C : o_Cx E p s m args meth c D o_cls (o_tys ca) "SchemaJudge$Program" b_Pg_inClasses (some .boolean) 5 cc_Pg_inClasses A) (hDD : ∀ (rt : Nat) (Sj : SSJ) (T0 : STx) (T1 : STx) (Rd : SRd) (Pg : SPg) (Pt : SPt) (Mk : SMk) (Lk : SLk) (Ck : SCk) (Jd : SJd) (Ld : SLd) (Pr : SPr), va_D A (o_cw ad ca rt Sj T0 T1 Rd Pg Pt Mk Lk Ck Jd Ld Pr)) (x0 : Int32) (x2 : Int32) (x3 : Int32) (y0 : Int32) (Sj : SSJ) (T0 : STx) (T1 : STx) (Rd : SRd) (Pg : SPg) (Pt : SPt) (Mk : SMk) (Lk : SLk) (Ck : SCk) (Jd : SJd) (Ld : SLd) (Pr : SPr) (rt : Nat) {r : Int32} (h : m_Pg_inClasses_j150 x0 x2 x3 y0 = some r) : o_At p l e rm_Pg_inClasses s m args below meth c (MQ below (o_Qx D o_cls (some (.int r)) (o_cw ad ca rt Sj T0 T1 Rd Pg Pt Mk Lk Ck Jd Ld Pr) A) args s 0 0 A) o_cls D A 5 150 [.int y0] (o_cw ad ca rt Sj T0 T1 Rd Pg Pt Mk Lk Ck Jd Ld Pr) [(0, .int x0), (2, .int x2), (3, .int x3)] := by
  unfold m_Pg_inClasses_j150 at h
  intro H locs ls hP hS hl
  have C0 := C
  obtain ⟨hx, hb, -, -, -, hown, hts, hK, -, -⟩ := C0
  refine lv_istore (lv' := [(4, .int y0), (0, .int x0), (2, .int x2), (3, .int x3)]) hx hb d_Pg_inClasses_150 hl (by decide) rfl (fun ls hl => ?_)
  refine lv_iload_n hx hb d_Pg_inClasses_152 rfl (lv_at hl 1 rfl) ?_
  refine lv_iload_n hx hb d_Pg_inClasses_153 rfl (lv_at hl 2 rfl) ?_
  refine lv_if_eq (tgt := 161) hx hb d_Pg_inClasses_154 (by decide) (fun c5 => ?_) (fun c5 => ?_)
  · replace h := o_tt c5 h
    refine lv_iconst (v := (2:Int32)) hx hb d_Pg_inClasses_161 (by decide) ?_
    exact w_Pg_inClasses_j162 hE C hDD x0 x3 y0 x0 (2:Int32) Sj T0 T1 Rd Pg Pt Mk Lk Ck Jd Ld Pr rt h _ _ _ hP hS (lv_sub hl [1, 3, 0] rfl)
  · replace h := o_ff c5 h
    refine lv_iconst (v := (1:Int32)) hx hb d_Pg_inClasses_157 (by decide) ?_
    refine lv_goto (tgt := 162) hx hb d_Pg_inClasses_158 (by decide) ?_
    exact w_Pg_inClasses_j162 hE C hDD x0 x3 y0 x0 (1:Int32) Sj T0 T1 Rd Pg Pt Mk Lk Ck Jd Ld Pr rt h _ _ _ hP hS (lv_sub hl [1, 3, 0] rfl)
set_option maxHeartbeats 4000000 in
set_option maxRecDepth 100000 in
theorem w_Pg_inClasses_j104 {E : (Nat → Prop) → State → Heap → Prop} {p : Program} {l : Launch} {e : Env} {s : State} {m : MethodId} {args : Array Value} {below : List Frame} {meth : Method} {c : Code} {D : va_G} {ad kd sd vd xd : Nat → Nat} {ca : Nat → ClassId} {A : Nat → Prop} (hE : o_EK E kd sd vd xd) (C : o_Cx E p s m args meth c D o_cls (o_tys ca) "SchemaJudge$Program" b_Pg_inClasses (some .boolean) 5 cc_Pg_inClasses A) (hDD : ∀ (rt : Nat) (Sj : SSJ) (T0 : STx) (T1 : STx) (Rd : SRd) (Pg : SPg) (Pt : SPt) (Mk : SMk) (Lk : SLk) (Ck : SCk) (Jd : SJd) (Ld : SLd) (Pr : SPr), va_D A (o_cw ad ca rt Sj T0 T1 Rd Pg Pt Mk Lk Ck Jd Ld Pr)) (x0 : Int32) (x1 : Int32) (x2 : Int32) (x3 : Int32) (Sj : SSJ) (T0 : STx) (T1 : STx) (Rd : SRd) (Pg : SPg) (Pt : SPt) (Mk : SMk) (Lk : SLk) (Ck : SCk) (Jd : SJd) (Ld : SLd) (Pr : SPr) (rt : Nat) {r : Int32} (h : m_Pg_inClasses_j104 x0 x1 x2 x3 = some r) : o_At p l e rm_Pg_inClasses s m args below meth c (MQ below (o_Qx D o_cls (some (.int r)) (o_cw ad ca rt Sj T0 T1 Rd Pg Pt Mk Lk Ck Jd Ld Pr) A) args s 0 0 A) o_cls D A 5 104 [] (o_cw ad ca rt Sj T0 T1 Rd Pg Pt Mk Lk Ck Jd Ld Pr) [(0, .int x0), (1, .int x1), (2, .int x2), (3, .int x3)] := by
  unfold m_Pg_inClasses_j104 at h
  intro H locs ls hP hS hl
  have C0 := C
  obtain ⟨hx, hb, -, -, -, hown, hts, hK, -, -⟩ := C0
  refine lv_iload_n hx hb d_Pg_inClasses_104 rfl (lv_at hl 1 rfl) ?_
  refine lv_sipush (v := (8232:Int32)) hx hb d_Pg_inClasses_105 (by decide) ?_
  refine lv_icmp_eq (tgt := 145) hx hb d_Pg_inClasses_108 (by decide) (fun c14 => ?_) (fun c14 => ?_)
  · replace h := o_tt c14 h
    refine lv_iconst (v := (1:Int32)) hx hb d_Pg_inClasses_145 (by decide) ?_
    refine lv_goto (tgt := 150) hx hb d_Pg_inClasses_146 (by decide) ?_
    exact w_Pg_inClasses_j150 hE C hDD x0 x2 x3 (1:Int32) Sj T0 T1 Rd Pg Pt Mk Lk Ck Jd Ld Pr rt h _ _ _ hP hS (lv_sub hl [0, 2, 3] rfl)
  · replace h := o_ff c14 h
    refine lv_iload_n hx hb d_Pg_inClasses_111 rfl (lv_at hl 1 rfl) ?_
    refine lv_sipush (v := (8233:Int32)) hx hb d_Pg_inClasses_112 (by decide) ?_
    refine lv_icmp_eq (tgt := 145) hx hb d_Pg_inClasses_115 (by decide) (fun c15 => ?_) (fun c15 => ?_)
    · replace h := o_tt c15 h
      refine lv_iconst (v := (1:Int32)) hx hb d_Pg_inClasses_145 (by decide) ?_
      refine lv_goto (tgt := 150) hx hb d_Pg_inClasses_146 (by decide) ?_
      exact w_Pg_inClasses_j150 hE C hDD x0 x2 x3 (1:Int32) Sj T0 T1 Rd Pg Pt Mk Lk Ck Jd Ld Pr rt h _ _ _ hP hS (lv_sub hl [0, 2, 3] rfl)
    · replace h := o_ff c15 h
      refine lv_iload_n hx hb d_Pg_inClasses_118 rfl (lv_at hl 1 rfl) ?_
      refine lv_sipush (v := (8239:Int32)) hx hb d_Pg_inClasses_119 (by decide) ?_
      refine lv_icmp_eq (tgt := 145) hx hb d_Pg_inClasses_122 (by decide) (fun c16 => ?_) (fun c16 => ?_)
      · replace h := o_tt c16 h
        refine lv_iconst (v := (1:Int32)) hx hb d_Pg_inClasses_145 (by decide) ?_
        refine lv_goto (tgt := 150) hx hb d_Pg_inClasses_146 (by decide) ?_
        exact w_Pg_inClasses_j150 hE C hDD x0 x2 x3 (1:Int32) Sj T0 T1 Rd Pg Pt Mk Lk Ck Jd Ld Pr rt h _ _ _ hP hS (lv_sub hl [0, 2, 3] rfl)
      · replace h := o_ff c16 h
        refine lv_iload_n hx hb d_Pg_inClasses_125 rfl (lv_at hl 1 rfl) ?_
        refine lv_sipush (v := (8287:Int32)) hx hb d_Pg_inClasses_126 (by decide) ?_
        refine lv_icmp_eq (tgt := 145) hx hb d_Pg_inClasses_129 (by decide) (fun c17 => ?_) (fun c17 => ?_)
        · replace h := o_tt c17 h
          refine lv_iconst (v := (1:Int32)) hx hb d_Pg_inClasses_145 (by decide) ?_
          refine lv_goto (tgt := 150) hx hb d_Pg_inClasses_146 (by decide) ?_
          exact w_Pg_inClasses_j150 hE C hDD x0 x2 x3 (1:Int32) Sj T0 T1 Rd Pg Pt Mk Lk Ck Jd Ld Pr rt h _ _ _ hP hS (lv_sub hl [0, 2, 3] rfl)
        · replace h := o_ff c17 h
          refine lv_iload_n hx hb d_Pg_inClasses_132 rfl (lv_at hl 1 rfl) ?_
          refine lv_sipush (v := (12288:Int32)) hx hb d_Pg_inClasses_133 (by decide) ?_
          refine lv_icmp_eq (tgt := 145) hx hb d_Pg_inClasses_136 (by decide) (fun c18 => ?_) (fun c18 => ?_)
          · replace h := o_tt c18 h
            refine lv_iconst (v := (1:Int32)) hx hb d_Pg_inClasses_145 (by decide) ?_
            refine lv_goto (tgt := 150) hx hb d_Pg_inClasses_146 (by decide) ?_
            exact w_Pg_inClasses_j150 hE C hDD x0 x2 x3 (1:Int32) Sj T0 T1 Rd Pg Pt Mk Lk Ck Jd Ld Pr rt h _ _ _ hP hS (lv_sub hl [0, 2, 3] rfl)
          · replace h := o_ff c18 h
            refine lv_iload_n hx hb d_Pg_inClasses_139 rfl (lv_at hl 1 rfl) ?_
            refine lv_ldc (v := (65279:Int32)) hx hb hown (hts _ k_6_106) d_Pg_inClasses_140 ?_
            refine lv_icmp_ne (tgt := 149) hx hb d_Pg_inClasses_142 (by decide) (fun c19 => ?_) (fun c19 => ?_)
            · replace h := o_ff c19 h
              refine lv_iconst (v := (0:Int32)) hx hb d_Pg_inClasses_149 (by decide) ?_
              exact w_Pg_inClasses_j150 hE C hDD x0 x2 x3 (0:Int32) Sj T0 T1 Rd Pg Pt Mk Lk Ck Jd Ld Pr rt h _ _ _ hP hS (lv_sub hl [0, 2, 3] rfl)
            · replace h := o_tt c19 h
              refine lv_iconst (v := (1:Int32)) hx hb d_Pg_inClasses_145 (by decide) ?_
              refine lv_goto (tgt := 150) hx hb d_Pg_inClasses_146 (by decide) ?_
              exact w_Pg_inClasses_j150 hE C hDD x0 x2 x3 (1:Int32) Sj T0 T1 Rd Pg Pt Mk Lk Ck Jd Ld Pr rt h _ _ _ hP hS (lv_sub hl [0, 2, 3] rfl)
set_option maxHeartbeats 4000000 in
set_option maxRecDepth 100000 in
theorem w_Pg_inClasses_j70 {E : (Nat → Prop) → State → Heap → Prop} {p : Program} {l : Launch} {e : Env} {s : State} {m : MethodId} {args : Array Value} {below : List Frame} {meth : Method} {c : Code} {D : va_G} {ad kd sd vd xd : Nat → Nat} {ca : Nat → ClassId} {A : Nat → Prop} (hE : o_EK E kd sd vd xd) (C : o_Cx E p s m args meth c D o_cls (o_tys ca) "SchemaJudge$Program" b_Pg_inClasses (some .boolean) 5 cc_Pg_inClasses A) (hDD : ∀ (rt : Nat) (Sj : SSJ) (T0 : STx) (T1 : STx) (Rd : SRd) (Pg : SPg) (Pt : SPt) (Mk : SMk) (Lk : SLk) (Ck : SCk) (Jd : SJd) (Ld : SLd) (Pr : SPr), va_D A (o_cw ad ca rt Sj T0 T1 Rd Pg Pt Mk Lk Ck Jd Ld Pr)) (x0 : Int32) (x1 : Int32) (x2 : Int32) (x3 : Int32) (Sj : SSJ) (T0 : STx) (T1 : STx) (Rd : SRd) (Pg : SPg) (Pt : SPt) (Mk : SMk) (Lk : SLk) (Ck : SCk) (Jd : SJd) (Ld : SLd) (Pr : SPr) (rt : Nat) {r : Int32} (h : m_Pg_inClasses_j70 x0 x1 x2 x3 = some r) : o_At p l e rm_Pg_inClasses s m args below meth c (MQ below (o_Qx D o_cls (some (.int r)) (o_cw ad ca rt Sj T0 T1 Rd Pg Pt Mk Lk Ck Jd Ld Pr) A) args s 0 0 A) o_cls D A 5 70 [] (o_cw ad ca rt Sj T0 T1 Rd Pg Pt Mk Lk Ck Jd Ld Pr) [(0, .int x0), (1, .int x1), (2, .int x2), (3, .int x3)] := by
  unfold m_Pg_inClasses_j70 at h
  intro H locs ls hP hS hl
  have C0 := C
  obtain ⟨hx, hb, -, -, -, hown, hts, hK, -, -⟩ := C0
  refine lv_iload_n hx hb d_Pg_inClasses_70 rfl (lv_at hl 1 rfl) ?_
  refine lv_bipush (v := (32:Int32)) hx hb d_Pg_inClasses_71 (by decide) ?_
  refine lv_icmp_eq (tgt := 145) hx hb d_Pg_inClasses_73 (by decide) (fun c4 => ?_) (fun c4 => ?_)
  · replace h := o_tt c4 h
    refine lv_iconst (v := (1:Int32)) hx hb d_Pg_inClasses_145 (by decide) ?_
    refine lv_goto (tgt := 150) hx hb d_Pg_inClasses_146 (by decide) ?_
    exact w_Pg_inClasses_j150 hE C hDD x0 x2 x3 (1:Int32) Sj T0 T1 Rd Pg Pt Mk Lk Ck Jd Ld Pr rt h _ _ _ hP hS (lv_sub hl [0, 2, 3] rfl)
  · replace h := o_ff c4 h
    refine lv_iload_n hx hb d_Pg_inClasses_76 rfl (lv_at hl 1 rfl) ?_
    refine lv_sipush (v := (160:Int32)) hx hb d_Pg_inClasses_77 (by decide) ?_
    refine lv_icmp_eq (tgt := 145) hx hb d_Pg_inClasses_80 (by decide) (fun c11 => ?_) (fun c11 => ?_)
    · replace h := o_tt c11 h
      refine lv_iconst (v := (1:Int32)) hx hb d_Pg_inClasses_145 (by decide) ?_
      refine lv_goto (tgt := 150) hx hb d_Pg_inClasses_146 (by decide) ?_
      exact w_Pg_inClasses_j150 hE C hDD x0 x2 x3 (1:Int32) Sj T0 T1 Rd Pg Pt Mk Lk Ck Jd Ld Pr rt h _ _ _ hP hS (lv_sub hl [0, 2, 3] rfl)
    · replace h := o_ff c11 h
      refine lv_iload_n hx hb d_Pg_inClasses_83 rfl (lv_at hl 1 rfl) ?_
      refine lv_sipush (v := (5760:Int32)) hx hb d_Pg_inClasses_84 (by decide) ?_
      refine lv_icmp_eq (tgt := 145) hx hb d_Pg_inClasses_87 (by decide) (fun c12 => ?_) (fun c12 => ?_)
      · replace h := o_tt c12 h
        refine lv_iconst (v := (1:Int32)) hx hb d_Pg_inClasses_145 (by decide) ?_
        refine lv_goto (tgt := 150) hx hb d_Pg_inClasses_146 (by decide) ?_
        exact w_Pg_inClasses_j150 hE C hDD x0 x2 x3 (1:Int32) Sj T0 T1 Rd Pg Pt Mk Lk Ck Jd Ld Pr rt h _ _ _ hP hS (lv_sub hl [0, 2, 3] rfl)
      · replace h := o_ff c12 h
        refine lv_iload_n hx hb d_Pg_inClasses_90 rfl (lv_at hl 1 rfl) ?_
        refine lv_sipush (v := (8192:Int32)) hx hb d_Pg_inClasses_91 (by decide) ?_
        refine lv_icmp_lt (tgt := 104) hx hb d_Pg_inClasses_94 (by decide) (fun c13 => ?_) (fun c13 => ?_)
        · replace h := o_tt c13 h
          exact w_Pg_inClasses_j104 hE C hDD x0 x1 x2 x3 Sj T0 T1 Rd Pg Pt Mk Lk Ck Jd Ld Pr rt h _ _ _ hP hS (lv_sub hl [0, 1, 2, 3] rfl)
        · replace h := o_ff c13 h
          refine lv_iload_n hx hb d_Pg_inClasses_97 rfl (lv_at hl 1 rfl) ?_
          refine lv_sipush (v := (8202:Int32)) hx hb d_Pg_inClasses_98 (by decide) ?_
          refine lv_icmp_le (tgt := 145) hx hb d_Pg_inClasses_101 (by decide) (fun c20 => ?_) (fun c20 => ?_)
          · replace h := o_tt c20 h
            refine lv_iconst (v := (1:Int32)) hx hb d_Pg_inClasses_145 (by decide) ?_
            refine lv_goto (tgt := 150) hx hb d_Pg_inClasses_146 (by decide) ?_
            exact w_Pg_inClasses_j150 hE C hDD x0 x2 x3 (1:Int32) Sj T0 T1 Rd Pg Pt Mk Lk Ck Jd Ld Pr rt h _ _ _ hP hS (lv_sub hl [0, 2, 3] rfl)
          · replace h := o_ff c20 h
            exact w_Pg_inClasses_j104 hE C hDD x0 x1 x2 x3 Sj T0 T1 Rd Pg Pt Mk Lk Ck Jd Ld Pr rt h _ _ _ hP hS (lv_sub hl [0, 1, 2, 3] rfl)
set_option maxHeartbeats 4000000 in
set_option maxRecDepth 100000 in
theorem w_Pg_inClasses_j57 {E : (Nat → Prop) → State → Heap → Prop} {p : Program} {l : Launch} {e : Env} {s : State} {m : MethodId} {args : Array Value} {below : List Frame} {meth : Method} {c : Code} {D : va_G} {ad kd sd vd xd : Nat → Nat} {ca : Nat → ClassId} {A : Nat → Prop} (hE : o_EK E kd sd vd xd) (C : o_Cx E p s m args meth c D o_cls (o_tys ca) "SchemaJudge$Program" b_Pg_inClasses (some .boolean) 5 cc_Pg_inClasses A) (hDD : ∀ (rt : Nat) (Sj : SSJ) (T0 : STx) (T1 : STx) (Rd : SRd) (Pg : SPg) (Pt : SPt) (Mk : SMk) (Lk : SLk) (Ck : SCk) (Jd : SJd) (Ld : SLd) (Pr : SPr), va_D A (o_cw ad ca rt Sj T0 T1 Rd Pg Pt Mk Lk Ck Jd Ld Pr)) (x0 : Int32) (x1 : Int32) (x2 : Int32) (y0 : Int32) (Sj : SSJ) (T0 : STx) (T1 : STx) (Rd : SRd) (Pg : SPg) (Pt : SPt) (Mk : SMk) (Lk : SLk) (Ck : SCk) (Jd : SJd) (Ld : SLd) (Pr : SPr) (rt : Nat) {r : Int32} (h : m_Pg_inClasses_j57 x0 x1 x2 y0 = some r) : o_At p l e rm_Pg_inClasses s m args below meth c (MQ below (o_Qx D o_cls (some (.int r)) (o_cw ad ca rt Sj T0 T1 Rd Pg Pt Mk Lk Ck Jd Ld Pr) A) args s 0 0 A) o_cls D A 5 57 [.int y0] (o_cw ad ca rt Sj T0 T1 Rd Pg Pt Mk Lk Ck Jd Ld Pr) [(0, .int x0), (1, .int x1), (2, .int x2)] := by
  unfold m_Pg_inClasses_j57 at h
  intro H locs ls hP hS hl
  have C0 := C
  obtain ⟨hx, hb, -, -, -, hown, hts, hK, -, -⟩ := C0
  refine lv_istore_n (lv' := [(3, .int y0), (0, .int x0), (1, .int x1), (2, .int x2)]) hx hb d_Pg_inClasses_57 rfl hl (by decide) rfl (fun ls hl => ?_)
  refine lv_iload_n hx hb d_Pg_inClasses_58 rfl (lv_at hl 2 rfl) ?_
  refine lv_bipush (v := (9:Int32)) hx hb d_Pg_inClasses_59 (by decide) ?_
  refine lv_icmp_lt (tgt := 70) hx hb d_Pg_inClasses_61 (by decide) (fun c3 => ?_) (fun c3 => ?_)
  · replace h := o_tt c3 h
    exact w_Pg_inClasses_j70 hE C hDD x0 x1 x2 y0 Sj T0 T1 Rd Pg Pt Mk Lk Ck Jd Ld Pr rt h _ _ _ hP hS (lv_sub hl [1, 2, 3, 0] rfl)
  · replace h := o_ff c3 h
    refine lv_iload_n hx hb d_Pg_inClasses_64 rfl (lv_at hl 2 rfl) ?_
    refine lv_bipush (v := (13:Int32)) hx hb d_Pg_inClasses_65 (by decide) ?_
    refine lv_icmp_le (tgt := 145) hx hb d_Pg_inClasses_67 (by decide) (fun c21 => ?_) (fun c21 => ?_)
    · replace h := o_tt c21 h
      refine lv_iconst (v := (1:Int32)) hx hb d_Pg_inClasses_145 (by decide) ?_
      refine lv_goto (tgt := 150) hx hb d_Pg_inClasses_146 (by decide) ?_
      exact w_Pg_inClasses_j150 hE C hDD x0 x2 y0 (1:Int32) Sj T0 T1 Rd Pg Pt Mk Lk Ck Jd Ld Pr rt h _ _ _ hP hS (lv_sub hl [1, 3, 0] rfl)
    · replace h := o_ff c21 h
      exact w_Pg_inClasses_j70 hE C hDD x0 x1 x2 y0 Sj T0 T1 Rd Pg Pt Mk Lk Ck Jd Ld Pr rt h _ _ _ hP hS (lv_sub hl [1, 2, 3, 0] rfl)
set_option maxHeartbeats 4000000 in
set_option maxRecDepth 100000 in
theorem w_Pg_inClasses_j46 {E : (Nat → Prop) → State → Heap → Prop} {p : Program} {l : Launch} {e : Env} {s : State} {m : MethodId} {args : Array Value} {below : List Frame} {meth : Method} {c : Code} {D : va_G} {ad kd sd vd xd : Nat → Nat} {ca : Nat → ClassId} {A : Nat → Prop} (hE : o_EK E kd sd vd xd) (C : o_Cx E p s m args meth c D o_cls (o_tys ca) "SchemaJudge$Program" b_Pg_inClasses (some .boolean) 5 cc_Pg_inClasses A) (hDD : ∀ (rt : Nat) (Sj : SSJ) (T0 : STx) (T1 : STx) (Rd : SRd) (Pg : SPg) (Pt : SPt) (Mk : SMk) (Lk : SLk) (Ck : SCk) (Jd : SJd) (Ld : SLd) (Pr : SPr), va_D A (o_cw ad ca rt Sj T0 T1 Rd Pg Pt Mk Lk Ck Jd Ld Pr)) (x0 : Int32) (x1 : Int32) (x2 : Int32) (Sj : SSJ) (T0 : STx) (T1 : STx) (Rd : SRd) (Pg : SPg) (Pt : SPt) (Mk : SMk) (Lk : SLk) (Ck : SCk) (Jd : SJd) (Ld : SLd) (Pr : SPr) (rt : Nat) {r : Int32} (h : m_Pg_inClasses_j46 x0 x1 x2 = some r) : o_At p l e rm_Pg_inClasses s m args below meth c (MQ below (o_Qx D o_cls (some (.int r)) (o_cw ad ca rt Sj T0 T1 Rd Pg Pt Mk Lk Ck Jd Ld Pr) A) args s 0 0 A) o_cls D A 5 46 [] (o_cw ad ca rt Sj T0 T1 Rd Pg Pt Mk Lk Ck Jd Ld Pr) [(0, .int x0), (1, .int x1), (2, .int x2)] := by
  unfold m_Pg_inClasses_j46 at h
  intro H locs ls hP hS hl
  have C0 := C
  obtain ⟨hx, hb, -, -, -, hown, hts, hK, -, -⟩ := C0
  refine lv_iload_n hx hb d_Pg_inClasses_46 rfl (lv_at hl 1 rfl) ?_
  refine lv_bipush (v := (95:Int32)) hx hb d_Pg_inClasses_47 (by decide) ?_
  refine lv_icmp_ne (tgt := 56) hx hb d_Pg_inClasses_49 (by decide) (fun c24 => ?_) (fun c24 => ?_)
  · replace h := o_ff c24 h
    refine lv_iconst (v := (0:Int32)) hx hb d_Pg_inClasses_56 (by decide) ?_
    exact w_Pg_inClasses_j57 hE C hDD x0 x1 x2 (0:Int32) Sj T0 T1 Rd Pg Pt Mk Lk Ck Jd Ld Pr rt h _ _ _ hP hS (lv_sub hl [0, 1, 2] rfl)
  · replace h := o_tt c24 h
    refine lv_iconst (v := (1:Int32)) hx hb d_Pg_inClasses_52 (by decide) ?_
    refine lv_goto (tgt := 57) hx hb d_Pg_inClasses_53 (by decide) ?_
    exact w_Pg_inClasses_j57 hE C hDD x0 x1 x2 (1:Int32) Sj T0 T1 Rd Pg Pt Mk Lk Ck Jd Ld Pr rt h _ _ _ hP hS (lv_sub hl [0, 1, 2] rfl)
set_option maxHeartbeats 4000000 in
set_option maxRecDepth 100000 in
theorem w_Pg_inClasses_j34 {E : (Nat → Prop) → State → Heap → Prop} {p : Program} {l : Launch} {e : Env} {s : State} {m : MethodId} {args : Array Value} {below : List Frame} {meth : Method} {c : Code} {D : va_G} {ad kd sd vd xd : Nat → Nat} {ca : Nat → ClassId} {A : Nat → Prop} (hE : o_EK E kd sd vd xd) (C : o_Cx E p s m args meth c D o_cls (o_tys ca) "SchemaJudge$Program" b_Pg_inClasses (some .boolean) 5 cc_Pg_inClasses A) (hDD : ∀ (rt : Nat) (Sj : SSJ) (T0 : STx) (T1 : STx) (Rd : SRd) (Pg : SPg) (Pt : SPt) (Mk : SMk) (Lk : SLk) (Ck : SCk) (Jd : SJd) (Ld : SLd) (Pr : SPr), va_D A (o_cw ad ca rt Sj T0 T1 Rd Pg Pt Mk Lk Ck Jd Ld Pr)) (x0 : Int32) (x1 : Int32) (x2 : Int32) (Sj : SSJ) (T0 : STx) (T1 : STx) (Rd : SRd) (Pg : SPg) (Pt : SPt) (Mk : SMk) (Lk : SLk) (Ck : SCk) (Jd : SJd) (Ld : SLd) (Pr : SPr) (rt : Nat) {r : Int32} (h : m_Pg_inClasses_j34 x0 x1 x2 = some r) : o_At p l e rm_Pg_inClasses s m args below meth c (MQ below (o_Qx D o_cls (some (.int r)) (o_cw ad ca rt Sj T0 T1 Rd Pg Pt Mk Lk Ck Jd Ld Pr) A) args s 0 0 A) o_cls D A 5 34 [] (o_cw ad ca rt Sj T0 T1 Rd Pg Pt Mk Lk Ck Jd Ld Pr) [(0, .int x0), (1, .int x1), (2, .int x2)] := by
  unfold m_Pg_inClasses_j34 at h
  intro H locs ls hP hS hl
  have C0 := C
  obtain ⟨hx, hb, -, -, -, hown, hts, hK, -, -⟩ := C0
  refine lv_iload_n hx hb d_Pg_inClasses_34 rfl (lv_at hl 1 rfl) ?_
  refine lv_bipush (v := (65:Int32)) hx hb d_Pg_inClasses_35 (by decide) ?_
  refine lv_icmp_lt (tgt := 46) hx hb d_Pg_inClasses_37 (by decide) (fun c23 => ?_) (fun c23 => ?_)
  · replace h := o_tt c23 h
    exact w_Pg_inClasses_j46 hE C hDD x0 x1 x2 Sj T0 T1 Rd Pg Pt Mk Lk Ck Jd Ld Pr rt h _ _ _ hP hS (lv_sub hl [0, 1, 2] rfl)
  · replace h := o_ff c23 h
    refine lv_iload_n hx hb d_Pg_inClasses_40 rfl (lv_at hl 1 rfl) ?_
    refine lv_bipush (v := (90:Int32)) hx hb d_Pg_inClasses_41 (by decide) ?_
    refine lv_icmp_le (tgt := 52) hx hb d_Pg_inClasses_43 (by decide) (fun c25 => ?_) (fun c25 => ?_)
    · replace h := o_tt c25 h
      refine lv_iconst (v := (1:Int32)) hx hb d_Pg_inClasses_52 (by decide) ?_
      refine lv_goto (tgt := 57) hx hb d_Pg_inClasses_53 (by decide) ?_
      exact w_Pg_inClasses_j57 hE C hDD x0 x1 x2 (1:Int32) Sj T0 T1 Rd Pg Pt Mk Lk Ck Jd Ld Pr rt h _ _ _ hP hS (lv_sub hl [0, 1, 2] rfl)
    · replace h := o_ff c25 h
      exact w_Pg_inClasses_j46 hE C hDD x0 x1 x2 Sj T0 T1 Rd Pg Pt Mk Lk Ck Jd Ld Pr rt h _ _ _ hP hS (lv_sub hl [0, 1, 2] rfl)
set_option maxHeartbeats 4000000 in
set_option maxRecDepth 100000 in
theorem w_Pg_inClasses_j17 {E : (Nat → Prop) → State → Heap → Prop} {p : Program} {l : Launch} {e : Env} {s : State} {m : MethodId} {args : Array Value} {below : List Frame} {meth : Method} {c : Code} {D : va_G} {ad kd sd vd xd : Nat → Nat} {ca : Nat → ClassId} {A : Nat → Prop} (hE : o_EK E kd sd vd xd) (C : o_Cx E p s m args meth c D o_cls (o_tys ca) "SchemaJudge$Program" b_Pg_inClasses (some .boolean) 5 cc_Pg_inClasses A) (hDD : ∀ (rt : Nat) (Sj : SSJ) (T0 : STx) (T1 : STx) (Rd : SRd) (Pg : SPg) (Pt : SPt) (Mk : SMk) (Lk : SLk) (Ck : SCk) (Jd : SJd) (Ld : SLd) (Pr : SPr), va_D A (o_cw ad ca rt Sj T0 T1 Rd Pg Pt Mk Lk Ck Jd Ld Pr)) (x0 : Int32) (x1 : Int32) (y0 : Int32) (Sj : SSJ) (T0 : STx) (T1 : STx) (Rd : SRd) (Pg : SPg) (Pt : SPt) (Mk : SMk) (Lk : SLk) (Ck : SCk) (Jd : SJd) (Ld : SLd) (Pr : SPr) (rt : Nat) {r : Int32} (h : m_Pg_inClasses_j17 x0 x1 y0 = some r) : o_At p l e rm_Pg_inClasses s m args below meth c (MQ below (o_Qx D o_cls (some (.int r)) (o_cw ad ca rt Sj T0 T1 Rd Pg Pt Mk Lk Ck Jd Ld Pr) A) args s 0 0 A) o_cls D A 5 17 [.int y0] (o_cw ad ca rt Sj T0 T1 Rd Pg Pt Mk Lk Ck Jd Ld Pr) [(0, .int x0), (1, .int x1)] := by
  unfold m_Pg_inClasses_j17 at h
  intro H locs ls hP hS hl
  have C0 := C
  obtain ⟨hx, hb, -, -, -, hown, hts, hK, -, -⟩ := C0
  refine lv_istore_n (lv' := [(2, .int y0), (0, .int x0), (1, .int x1)]) hx hb d_Pg_inClasses_17 rfl hl (by decide) rfl (fun ls hl => ?_)
  refine lv_iload_n hx hb d_Pg_inClasses_18 rfl (lv_at hl 0 rfl) ?_
  refine lv_if_ne (tgt := 52) hx hb d_Pg_inClasses_19 (by decide) (fun c2 => ?_) (fun c2 => ?_)
  · replace h := o_ff c2 h
    refine lv_iconst (v := (1:Int32)) hx hb d_Pg_inClasses_52 (by decide) ?_
    refine lv_goto (tgt := 57) hx hb d_Pg_inClasses_53 (by decide) ?_
    exact w_Pg_inClasses_j57 hE C hDD x0 x1 y0 (1:Int32) Sj T0 T1 Rd Pg Pt Mk Lk Ck Jd Ld Pr rt h _ _ _ hP hS (lv_sub hl [1, 2, 0] rfl)
  · replace h := o_tt c2 h
    refine lv_iload_n hx hb d_Pg_inClasses_22 rfl (lv_at hl 2 rfl) ?_
    refine lv_bipush (v := (97:Int32)) hx hb d_Pg_inClasses_23 (by decide) ?_
    refine lv_icmp_lt (tgt := 34) hx hb d_Pg_inClasses_25 (by decide) (fun c22 => ?_) (fun c22 => ?_)
    · replace h := o_tt c22 h
      exact w_Pg_inClasses_j34 hE C hDD x0 x1 y0 Sj T0 T1 Rd Pg Pt Mk Lk Ck Jd Ld Pr rt h _ _ _ hP hS (lv_sub hl [1, 2, 0] rfl)
    · replace h := o_ff c22 h
      refine lv_iload_n hx hb d_Pg_inClasses_28 rfl (lv_at hl 2 rfl) ?_
      refine lv_bipush (v := (122:Int32)) hx hb d_Pg_inClasses_29 (by decide) ?_
      refine lv_icmp_le (tgt := 52) hx hb d_Pg_inClasses_31 (by decide) (fun c26 => ?_) (fun c26 => ?_)
      · replace h := o_tt c26 h
        refine lv_iconst (v := (1:Int32)) hx hb d_Pg_inClasses_52 (by decide) ?_
        refine lv_goto (tgt := 57) hx hb d_Pg_inClasses_53 (by decide) ?_
        exact w_Pg_inClasses_j57 hE C hDD x0 x1 y0 (1:Int32) Sj T0 T1 Rd Pg Pt Mk Lk Ck Jd Ld Pr rt h _ _ _ hP hS (lv_sub hl [1, 2, 0] rfl)
      · replace h := o_ff c26 h
        exact w_Pg_inClasses_j34 hE C hDD x0 x1 y0 Sj T0 T1 Rd Pg Pt Mk Lk Ck Jd Ld Pr rt h _ _ _ hP hS (lv_sub hl [1, 2, 0] rfl)
set_option maxHeartbeats 4000000 in
set_option maxRecDepth 100000 in
theorem c_Pg_inClasses {E : (Nat → Prop) → State → Heap → Prop} {D : va_G} {ad kd sd vd xd : Nat → Nat} {ca : Nat → ClassId} (hE : o_EK E kd sd vd xd) (l : Launch) (x0 : Int32) (x1 : Int32) (Sj : SSJ) (T0 : STx) (T1 : STx) (Rd : SRd) (Pg : SPg) (Pt : SPt) (Mk : SMk) (Lk : SLk) (Ck : SCk) (Jd : SJd) (Ld : SLd) (Pr : SPr) (rt : Nat) {r : Int32} (h : m_Pg_inClasses x0 x1 = some r) : o_Cn E l D o_cls (o_tys ca) y_Pg_inClasses cc_Pg_inClasses rm_Pg_inClasses [.int x0, .int x1] (o_cw ad ca rt Sj T0 T1 Rd Pg Pt Mk Lk Ck Jd Ld Pr) (o_cw ad ca rt Sj T0 T1 Rd Pg Pt Mk Lk Ck Jd Ld Pr) (some (.int r)) := by
  refine o_Cn_of (by decide) (Nat.le_of_ble_eq_true rfl) ?_
  intro p e s m below meth c A ls C hD hP hS hl
  have hDD : ∀ (rt : Nat) (Sj : SSJ) (T0 : STx) (T1 : STx) (Rd : SRd) (Pg : SPg) (Pt : SPt) (Mk : SMk) (Lk : SLk) (Ck : SCk) (Jd : SJd) (Ld : SLd) (Pr : SPr), va_D A (o_cw ad ca rt Sj T0 T1 Rd Pg Pt Mk Lk Ck Jd Ld Pr) := fun _ _ _ _ _ _ _ _ _ _ _ _ _ => o_D_map hD rfl
  have hl : lv_has ls 5 [(0, .int x0), (1, .int x1)] := hl
  unfold m_Pg_inClasses at h
  have C0 := C
  obtain ⟨hx, hb, -, -, -, hown, hts, hK, -, -⟩ := C0
  refine lv_iload_n hx hb d_Pg_inClasses_0 rfl (lv_at hl 1 rfl) ?_
  refine lv_bipush (v := (48:Int32)) hx hb d_Pg_inClasses_1 (by decide) ?_
  refine lv_icmp_lt (tgt := 16) hx hb d_Pg_inClasses_3 (by decide) (fun c1 => ?_) (fun c1 => ?_)
  · replace h := o_tt c1 h
    refine lv_iconst (v := (0:Int32)) hx hb d_Pg_inClasses_16 (by decide) ?_
    exact w_Pg_inClasses_j17 hE C hDD x0 x1 (0:Int32) Sj T0 T1 Rd Pg Pt Mk Lk Ck Jd Ld Pr rt h _ _ _ hP hS (lv_sub hl [0, 1] rfl)
  · replace h := o_ff c1 h
    refine lv_iload_n hx hb d_Pg_inClasses_6 rfl (lv_at hl 1 rfl) ?_
    refine lv_bipush (v := (57:Int32)) hx hb d_Pg_inClasses_7 (by decide) ?_
    refine lv_icmp_gt (tgt := 16) hx hb d_Pg_inClasses_9 (by decide) (fun c27 => ?_) (fun c27 => ?_)
    · replace h := o_tt c27 h
      refine lv_iconst (v := (0:Int32)) hx hb d_Pg_inClasses_16 (by decide) ?_
      exact w_Pg_inClasses_j17 hE C hDD x0 x1 (0:Int32) Sj T0 T1 Rd Pg Pt Mk Lk Ck Jd Ld Pr rt h _ _ _ hP hS (lv_sub hl [0, 1] rfl)
    · replace h := o_ff c27 h
      refine lv_iconst (v := (1:Int32)) hx hb d_Pg_inClasses_12 (by decide) ?_
      refine lv_goto (tgt := 17) hx hb d_Pg_inClasses_13 (by decide) ?_
      exact w_Pg_inClasses_j17 hE C hDD x0 x1 (1:Int32) Sj T0 T1 Rd Pg Pt Mk Lk Ck Jd Ld Pr rt h _ _ _ hP hS (lv_sub hl [0, 1] rfl)
set_option maxHeartbeats 4000000 in
set_option maxRecDepth 100000 in
theorem w_Pg_inRanges_b27 {E : (Nat → Prop) → State → Heap → Prop} {p : Program} {l : Launch} {e : Env} {s : State} {m : MethodId} {args : Array Value} {below : List Frame} {meth : Method} {c : Code} {D : va_G} {ad kd sd vd xd : Nat → Nat} {ca : Nat → ClassId} {A : Nat → Prop} {Q : State → Prop} (hE : o_EK E kd sd vd xd) (C : o_Cx E p s m args meth c D o_cls (o_tys ca) "SchemaJudge$Program" b_Pg_inRanges (some .boolean) 6 cc_Pg_inRanges A) (hDD : ∀ (rt : Nat) (Sj : SSJ) (T0 : STx) (T1 : STx) (Rd : SRd) (Pg : SPg) (Pt : SPt) (Mk : SMk) (Lk : SLk) (Ck : SCk) (Jd : SJd) (Ld : SLd) (Pr : SPr), va_D A (o_cw ad ca rt Sj T0 T1 Rd Pg Pt Mk Lk Ck Jd Ld Pr)) (n : Nat) (u27_x1 : Int32) (u27_x2 : Int32) (u27_x3 : Int32) (u27_Pg : SPg) (u27_Sj : SSJ) (u27_T0 : STx) (u27_T1 : STx) (u27_Rd : SRd) (u27_Pt : SPt) (u27_Mk : SMk) (u27_Lk : SLk) (u27_Ck : SCk) (u27_Jd : SJd) (u27_Ld : SLd) (u27_Pr : SPr) (u27_rt : Nat) (z : Int32) (q : Nat × Int32) (h : m_Pg_inRanges_b27 n u27_x1 u27_x2 u27_x3 u27_Pg z = some q) (h0 : q.1 = 0 → o_At p l e rm_Pg_inRanges s m args below meth c Q o_cls D A 6 27 [] (o_cw ad ca u27_rt u27_Sj u27_T0 u27_T1 u27_Rd u27_Pg u27_Pt u27_Mk u27_Lk u27_Ck u27_Jd u27_Ld u27_Pr) [(0, .ref (ad 25)), (1, .int u27_x1), (2, .int u27_x2), (3, .int u27_x3), (4, .int q.2)]) (h1 : q.1 ≠ 0 → (if q.1 = 1 then o_At p l e rm_Pg_inRanges s m args below meth c Q o_cls D A 6 79 [] (o_cw ad ca u27_rt u27_Sj u27_T0 u27_T1 u27_Rd u27_Pg u27_Pt u27_Mk u27_Lk u27_Ck u27_Jd u27_Ld u27_Pr) [] else o_At p l e rm_Pg_inRanges s m args below meth c Q o_cls D A 6 87 [] (o_cw ad ca u27_rt u27_Sj u27_T0 u27_T1 u27_Rd u27_Pg u27_Pt u27_Mk u27_Lk u27_Ck u27_Jd u27_Ld u27_Pr) [])) : o_At p l e rm_Pg_inRanges s m args below meth c Q o_cls D A 6 27 [] (o_cw ad ca u27_rt u27_Sj u27_T0 u27_T1 u27_Rd u27_Pg u27_Pt u27_Mk u27_Lk u27_Ck u27_Jd u27_Ld u27_Pr) [(0, .ref (ad 25)), (1, .int u27_x1), (2, .int u27_x2), (3, .int u27_x3), (4, .int z)] := by
  unfold m_Pg_inRanges_b27 at h
  intro H locs ls hP hS hl
  have C0 := C
  obtain ⟨hx, hb, -, -, -, hown, hts, hK, -, -⟩ := C0
  refine lv_iload hx hb d_Pg_inRanges_27 (lv_at hl 4 rfl) ?_
  refine lv_iload_n hx hb d_Pg_inRanges_29 rfl (lv_at hl 3 rfl) ?_
  refine lv_icmp_ge (tgt := 87) hx hb d_Pg_inRanges_30 (by decide) (fun c2 => ?_) (fun c2 => ?_)
  · replace h := o_tt c2 h
    cases h
    exact h1 (Nat.succ_ne_zero 1) _ _ _ hP hS (lv_sub hl [] rfl)
  · replace h := o_ff c2 h
    refine lv_iload_n hx hb d_Pg_inRanges_33 rfl (lv_at hl 1 rfl) ?_
    refine lv_iconst (v := (2:Int32)) hx hb d_Pg_inRanges_34 (by decide) ?_
    refine lv_iadd hx hb d_Pg_inRanges_35 ?_
    refine lv_iconst (v := (2:Int32)) hx hb d_Pg_inRanges_36 (by decide) ?_
    refine lv_iload hx hb d_Pg_inRanges_37 (lv_at hl 4 rfl) ?_
    refine lv_imul hx hb d_Pg_inRanges_39 ?_
    refine lv_iadd hx hb d_Pg_inRanges_40 ?_
    refine lv_topi (fun x5_41 ex5_41 => ?_)
    replace h := o_nm_at ex5_41 h
    refine lv_istore (lv' := [(5, .int x5_41), (0, .ref (ad 25)), (1, .int u27_x1), (2, .int u27_x2), (3, .int u27_x3), (4, .int z)]) hx hb d_Pg_inRanges_41 hl (by decide) rfl (fun ls hl => ?_)
    refine lv_iload hx hb d_Pg_inRanges_43 (lv_at hl 0 rfl) ?_
    refine lv_iconst (v := (1:Int32)) hx hb d_Pg_inRanges_45 (by decide) ?_
    refine lv_iadd hx hb d_Pg_inRanges_46 ?_
    refine lv_aload_n hx hb d_Pg_inRanges_47 rfl (lv_at hl 1 rfl) ?_
    refine o_get (v := .ref (ad 28)) C in_Pg hP 25 cw_25 rfl 3 (by decide) k_1_123 rfl rfl d_Pg_inRanges_48 ?_
    refine va_alen (v := (8000:Int32)) hx hb hK hP 28 23 cw_28 rfl rfl d_Pg_inRanges_51 ?_
    refine lv_icmp_ge (tgt := 81) hx hb d_Pg_inRanges_52 (by decide) (fun c3 => ?_) (fun c3 => ?_)
    · replace h := o_tt c3 h
      obtain ⟨x4_81, ex4_81⟩ : ∃ y : Int32, y = z + (1:Int32) := ⟨_, rfl⟩
      replace h := o_nm_at ex4_81 h
      refine lv_iinc (v := x4_81) (lv' := [(4, .int x4_81), (5, .int x5_41), (0, .ref (ad 25)), (1, .int u27_x1), (2, .int u27_x2), (3, .int u27_x3)]) hx hb d_Pg_inRanges_81 hl (k := 5) rfl (by rw [ex4_81]; rfl) (by decide) rfl (fun ls hl => ?_)
      refine lv_goto (tgt := 27) hx hb d_Pg_inRanges_84 (by decide) ?_
      cases h
      exact h0 rfl _ _ _ hP hS (lv_sub hl [2, 3, 4, 5, 0] rfl)
    · replace h := o_ff c3 h
      refine lv_iload_n hx hb d_Pg_inRanges_55 rfl (lv_at hl 3 rfl) ?_
      refine lv_aload_n hx hb d_Pg_inRanges_56 rfl (lv_at hl 1 rfl) ?_
      refine o_get (v := .ref (ad 28)) C in_Pg hP 25 cw_25 rfl 3 (by decide) k_1_123 rfl rfl d_Pg_inRanges_57 ?_
      refine lv_iload hx hb d_Pg_inRanges_60 (lv_at hl 0 rfl) ?_
      obtain ⟨g4, h⟩ := o_gd_some h
      refine o_iald (f := (Pg_sets u27_Pg)) C hP 28 23 cw_28 rfl g4 d_Pg_inRanges_62 ?_
      refine lv_icmp_lt (tgt := 81) hx hb d_Pg_inRanges_63 (by decide) (fun c5 => ?_) (fun c5 => ?_)
      · replace h := o_tt c5 h
        obtain ⟨x4_81, ex4_81⟩ : ∃ y : Int32, y = z + (1:Int32) := ⟨_, rfl⟩
        replace h := o_nm_at ex4_81 h
        refine lv_iinc (v := x4_81) (lv' := [(4, .int x4_81), (5, .int x5_41), (0, .ref (ad 25)), (1, .int u27_x1), (2, .int u27_x2), (3, .int u27_x3)]) hx hb d_Pg_inRanges_81 hl (k := 5) rfl (by rw [ex4_81]; rfl) (by decide) rfl (fun ls hl => ?_)
        refine lv_goto (tgt := 27) hx hb d_Pg_inRanges_84 (by decide) ?_
        cases h
        exact h0 rfl _ _ _ hP hS (lv_sub hl [2, 3, 4, 5, 0] rfl)
      · replace h := o_ff c5 h
        refine lv_iload_n hx hb d_Pg_inRanges_66 rfl (lv_at hl 3 rfl) ?_
        refine lv_aload_n hx hb d_Pg_inRanges_67 rfl (lv_at hl 1 rfl) ?_
        refine o_get (v := .ref (ad 28)) C in_Pg hP 25 cw_25 rfl 3 (by decide) k_1_123 rfl rfl d_Pg_inRanges_68 ?_
        refine lv_iload hx hb d_Pg_inRanges_71 (lv_at hl 0 rfl) ?_
        refine lv_iconst (v := (1:Int32)) hx hb d_Pg_inRanges_73 (by decide) ?_
        refine lv_iadd hx hb d_Pg_inRanges_74 ?_
        obtain ⟨g6, h⟩ := o_gd_some h
        refine o_iald (f := (Pg_sets u27_Pg)) C hP 28 23 cw_28 rfl g6 d_Pg_inRanges_75 ?_
        refine lv_icmp_gt (tgt := 81) hx hb d_Pg_inRanges_76 (by decide) (fun c7 => ?_) (fun c7 => ?_)
        · replace h := o_tt c7 h
          obtain ⟨x4_81, ex4_81⟩ : ∃ y : Int32, y = z + (1:Int32) := ⟨_, rfl⟩
          replace h := o_nm_at ex4_81 h
          refine lv_iinc (v := x4_81) (lv' := [(4, .int x4_81), (5, .int x5_41), (0, .ref (ad 25)), (1, .int u27_x1), (2, .int u27_x2), (3, .int u27_x3)]) hx hb d_Pg_inRanges_81 hl (k := 5) rfl (by rw [ex4_81]; rfl) (by decide) rfl (fun ls hl => ?_)
          refine lv_goto (tgt := 27) hx hb d_Pg_inRanges_84 (by decide) ?_
          cases h
          exact h0 rfl _ _ _ hP hS (lv_sub hl [2, 3, 4, 5, 0] rfl)
        · replace h := o_ff c7 h
          cases h
          exact h1 (Nat.succ_ne_zero 0) _ _ _ hP hS (lv_sub hl [] rfl)
set_option maxHeartbeats 4000000 in
set_option maxRecDepth 100000 in
theorem c_Pg_inRanges {E : (Nat → Prop) → State → Heap → Prop} {D : va_G} {ad kd sd vd xd : Nat → Nat} {ca : Nat → ClassId} (hE : o_EK E kd sd vd xd) (l : Launch) (n : Nat) (x1 : Int32) (x2 : Int32) (Pg : SPg) (Sj : SSJ) (T0 : STx) (T1 : STx) (Rd : SRd) (Pt : SPt) (Mk : SMk) (Lk : SLk) (Ck : SCk) (Jd : SJd) (Ld : SLd) (Pr : SPr) (rt : Nat) {r : Int32} (h : m_Pg_inRanges n x1 x2 Pg = some r) : o_Cn E l D o_cls (o_tys ca) y_Pg_inRanges cc_Pg_inRanges rm_Pg_inRanges [.ref (ad 25), .int x1, .int x2] (o_cw ad ca rt Sj T0 T1 Rd Pg Pt Mk Lk Ck Jd Ld Pr) (o_cw ad ca rt Sj T0 T1 Rd Pg Pt Mk Lk Ck Jd Ld Pr) (some (.int r)) := by
  refine o_Cn_of (by decide) (Nat.le_of_ble_eq_true rfl) ?_
  intro p e s m below meth c A ls C hD hP hS hl
  have hDD : ∀ (rt : Nat) (Sj : SSJ) (T0 : STx) (T1 : STx) (Rd : SRd) (Pg : SPg) (Pt : SPt) (Mk : SMk) (Lk : SLk) (Ck : SCk) (Jd : SJd) (Ld : SLd) (Pr : SPr), va_D A (o_cw ad ca rt Sj T0 T1 Rd Pg Pt Mk Lk Ck Jd Ld Pr) := fun _ _ _ _ _ _ _ _ _ _ _ _ _ => o_D_map hD rfl
  have hl : lv_has ls 6 [(0, .ref (ad 25)), (1, .int x1), (2, .int x2)] := hl
  unfold m_Pg_inRanges at h
  have C0 := C
  obtain ⟨hx, hb, -, -, -, hown, hts, hK, -, -⟩ := C0
  refine lv_iload_n hx hb d_Pg_inRanges_0 rfl (lv_at hl 1 rfl) ?_
  refine lv_if_lt (tgt := 22) hx hb d_Pg_inRanges_1 (by decide) (fun c1 => ?_) (fun c1 => ?_)
  · replace h := o_tt c1 h
    refine lv_iconst (v := (0:Int32)) hx hb d_Pg_inRanges_22 (by decide) ?_
    refine lv_istore_n (lv' := [(3, .int (0:Int32)), (0, .ref (ad 25)), (1, .int x1), (2, .int x2)]) hx hb d_Pg_inRanges_23 rfl hl (by decide) rfl (fun ls hl => ?_)
    refine lv_iconst (v := (0:Int32)) hx hb d_Pg_inRanges_24 (by decide) ?_
    refine lv_istore (lv' := [(4, .int (0:Int32)), (3, .int (0:Int32)), (0, .ref (ad 25)), (1, .int x1), (2, .int x2)]) hx hb d_Pg_inRanges_25 hl (by decide) rfl (fun ls hl => ?_)
    obtain ⟨q1, hq1, h⟩ := o_bd_some h
    refine o_sim2 (AH := fun zz => o_At p l e rm_Pg_inRanges s m _ below meth c _ o_cls D A 6 27 [] (o_cw ad ca rt Sj T0 T1 Rd Pg Pt Mk Lk Ck Jd Ld Pr) [(0, .ref (ad 25)), (1, .int x1), (2, .int x2), (3, .int (0:Int32)), (4, .int zz)]) (AX := fun qq => if qq.1 = 1 then o_At p l e rm_Pg_inRanges s m _ below meth c _ o_cls D A 6 79 [] (o_cw ad ca rt Sj T0 T1 Rd Pg Pt Mk Lk Ck Jd Ld Pr) [] else o_At p l e rm_Pg_inRanges s m _ below meth c _ o_cls D A 6 87 [] (o_cw ad ca rt Sj T0 T1 Rd Pg Pt Mk Lk Ck Jd Ld Pr) []) (fun zz qq h h0 h1 => w_Pg_inRanges_b27 hE C hDD n x1 x2 (0:Int32) Pg Sj T0 T1 Rd Pt Mk Lk Ck Jd Ld Pr rt zz qq h h0 h1) n _ q1 hq1 ?_ _ _ _ hP hS (lv_sub hl [2, 3, 4, 1, 0] rfl)
    by_cases c8 : q1.1 = 1
    · replace h := o_tt c8 h
      refine o_ip c8 ?_
      intro H locs ls hP hS hl
      refine lv_iconst (v := (1:Int32)) hx hb d_Pg_inRanges_79 (by decide) ?_
      cases h
      exact o_rz (v := (1:Int32)) C o_nar1 hP hS d_Pg_inRanges_80
    replace h := o_ff c8 h
    refine o_in_ c8 ?_
    intro H locs ls hP hS hl
    refine lv_iconst (v := (0:Int32)) hx hb d_Pg_inRanges_87 (by decide) ?_
    cases h
    exact o_rz (v := (0:Int32)) C o_nar0 hP hS d_Pg_inRanges_88
  · replace h := o_ff c1 h
    refine lv_iload_n hx hb d_Pg_inRanges_4 rfl (lv_at hl 1 rfl) ?_
    refine lv_aload_n hx hb d_Pg_inRanges_5 rfl (lv_at hl 0 rfl) ?_
    refine o_get (v := .ref (ad 28)) C in_Pg hP 25 cw_25 rfl 3 (by decide) k_1_123 rfl rfl d_Pg_inRanges_6 ?_
    refine va_alen (v := (8000:Int32)) hx hb hK hP 28 23 cw_28 rfl rfl d_Pg_inRanges_9 ?_
    refine lv_icmp_ge (tgt := 22) hx hb d_Pg_inRanges_10 (by decide) (fun c9 => ?_) (fun c9 => ?_)
    · replace h := o_tt c9 h
      refine lv_iconst (v := (0:Int32)) hx hb d_Pg_inRanges_22 (by decide) ?_
      refine lv_istore_n (lv' := [(3, .int (0:Int32)), (0, .ref (ad 25)), (1, .int x1), (2, .int x2)]) hx hb d_Pg_inRanges_23 rfl hl (by decide) rfl (fun ls hl => ?_)
      refine lv_iconst (v := (0:Int32)) hx hb d_Pg_inRanges_24 (by decide) ?_
      refine lv_istore (lv' := [(4, .int (0:Int32)), (3, .int (0:Int32)), (0, .ref (ad 25)), (1, .int x1), (2, .int x2)]) hx hb d_Pg_inRanges_25 hl (by decide) rfl (fun ls hl => ?_)
      obtain ⟨q2, hq2, h⟩ := o_bd_some h
      refine o_sim2 (AH := fun zz => o_At p l e rm_Pg_inRanges s m _ below meth c _ o_cls D A 6 27 [] (o_cw ad ca rt Sj T0 T1 Rd Pg Pt Mk Lk Ck Jd Ld Pr) [(0, .ref (ad 25)), (1, .int x1), (2, .int x2), (3, .int (0:Int32)), (4, .int zz)]) (AX := fun qq => if qq.1 = 1 then o_At p l e rm_Pg_inRanges s m _ below meth c _ o_cls D A 6 79 [] (o_cw ad ca rt Sj T0 T1 Rd Pg Pt Mk Lk Ck Jd Ld Pr) [] else o_At p l e rm_Pg_inRanges s m _ below meth c _ o_cls D A 6 87 [] (o_cw ad ca rt Sj T0 T1 Rd Pg Pt Mk Lk Ck Jd Ld Pr) []) (fun zz qq h h0 h1 => w_Pg_inRanges_b27 hE C hDD n x1 x2 (0:Int32) Pg Sj T0 T1 Rd Pt Mk Lk Ck Jd Ld Pr rt zz qq h h0 h1) n _ q2 hq2 ?_ _ _ _ hP hS (lv_sub hl [2, 3, 4, 1, 0] rfl)
      by_cases c10 : q2.1 = 1
      · replace h := o_tt c10 h
        refine o_ip c10 ?_
        intro H locs ls hP hS hl
        refine lv_iconst (v := (1:Int32)) hx hb d_Pg_inRanges_79 (by decide) ?_
        cases h
        exact o_rz (v := (1:Int32)) C o_nar1 hP hS d_Pg_inRanges_80
      replace h := o_ff c10 h
      refine o_in_ c10 ?_
      intro H locs ls hP hS hl
      refine lv_iconst (v := (0:Int32)) hx hb d_Pg_inRanges_87 (by decide) ?_
      cases h
      exact o_rz (v := (0:Int32)) C o_nar0 hP hS d_Pg_inRanges_88
    · replace h := o_ff c9 h
      refine lv_aload_n hx hb d_Pg_inRanges_13 rfl (lv_at hl 0 rfl) ?_
      refine o_get (v := .ref (ad 28)) C in_Pg hP 25 cw_25 rfl 3 (by decide) k_1_123 rfl rfl d_Pg_inRanges_14 ?_
      refine lv_iload_n hx hb d_Pg_inRanges_17 rfl (lv_at hl 1 rfl) ?_
      obtain ⟨g11, h⟩ := o_gd_some h
      refine o_iald (f := (Pg_sets Pg)) C hP 28 23 cw_28 rfl g11 d_Pg_inRanges_18 ?_
      refine lv_goto (tgt := 23) hx hb d_Pg_inRanges_19 (by decide) ?_
      refine lv_topi (fun x3_23 ex3_23 => ?_)
      replace h := o_nm_at ex3_23 h
      refine lv_istore_n (lv' := [(3, .int x3_23), (0, .ref (ad 25)), (1, .int x1), (2, .int x2)]) hx hb d_Pg_inRanges_23 rfl hl (by decide) rfl (fun ls hl => ?_)
      refine lv_iconst (v := (0:Int32)) hx hb d_Pg_inRanges_24 (by decide) ?_
      refine lv_istore (lv' := [(4, .int (0:Int32)), (3, .int x3_23), (0, .ref (ad 25)), (1, .int x1), (2, .int x2)]) hx hb d_Pg_inRanges_25 hl (by decide) rfl (fun ls hl => ?_)
      obtain ⟨q3, hq3, h⟩ := o_bd_some h
      refine o_sim2 (AH := fun zz => o_At p l e rm_Pg_inRanges s m _ below meth c _ o_cls D A 6 27 [] (o_cw ad ca rt Sj T0 T1 Rd Pg Pt Mk Lk Ck Jd Ld Pr) [(0, .ref (ad 25)), (1, .int x1), (2, .int x2), (3, .int x3_23), (4, .int zz)]) (AX := fun qq => if qq.1 = 1 then o_At p l e rm_Pg_inRanges s m _ below meth c _ o_cls D A 6 79 [] (o_cw ad ca rt Sj T0 T1 Rd Pg Pt Mk Lk Ck Jd Ld Pr) [] else o_At p l e rm_Pg_inRanges s m _ below meth c _ o_cls D A 6 87 [] (o_cw ad ca rt Sj T0 T1 Rd Pg Pt Mk Lk Ck Jd Ld Pr) []) (fun zz qq h h0 h1 => w_Pg_inRanges_b27 hE C hDD n x1 x2 x3_23 Pg Sj T0 T1 Rd Pt Mk Lk Ck Jd Ld Pr rt zz qq h h0 h1) n _ q3 hq3 ?_ _ _ _ hP hS (lv_sub hl [2, 3, 4, 1, 0] rfl)
      by_cases c12 : q3.1 = 1
      · replace h := o_tt c12 h
        refine o_ip c12 ?_
        intro H locs ls hP hS hl
        refine lv_iconst (v := (1:Int32)) hx hb d_Pg_inRanges_79 (by decide) ?_
        cases h
        exact o_rz (v := (1:Int32)) C o_nar1 hP hS d_Pg_inRanges_80
      replace h := o_ff c12 h
      refine o_in_ c12 ?_
      intro H locs ls hP hS hl
      refine lv_iconst (v := (0:Int32)) hx hb d_Pg_inRanges_87 (by decide) ?_
      cases h
      exact o_rz (v := (0:Int32)) C o_nar0 hP hS d_Pg_inRanges_88
set_option maxHeartbeats 4000000 in
set_option maxRecDepth 100000 in
theorem w_Pg_accepts_j166 {E : (Nat → Prop) → State → Heap → Prop} {p : Program} {l : Launch} {e : Env} {s : State} {m : MethodId} {args : Array Value} {below : List Frame} {meth : Method} {c : Code} {D : va_G} {ad kd sd vd xd : Nat → Nat} {ca : Nat → ClassId} {A : Nat → Prop} (hE : o_EK E kd sd vd xd) (C : o_Cx E p s m args meth c D o_cls (o_tys ca) "SchemaJudge$Program" b_Pg_accepts (some .boolean) 5 cc_Pg_accepts A) (hDD : ∀ (rt : Nat) (Sj : SSJ) (T0 : STx) (T1 : STx) (Rd : SRd) (Pg : SPg) (Pt : SPt) (Mk : SMk) (Lk : SLk) (Ck : SCk) (Jd : SJd) (Ld : SLd) (Pr : SPr), va_D A (o_cw ad ca rt Sj T0 T1 Rd Pg Pt Mk Lk Ck Jd Ld Pr)) (n : Nat) (y0 : Int32) (y1 : Int32) (Pg : SPg) (Sj : SSJ) (T0 : STx) (T1 : STx) (Rd : SRd) (Pt : SPt) (Mk : SMk) (Lk : SLk) (Ck : SCk) (Jd : SJd) (Ld : SLd) (Pr : SPr) (rt : Nat) {r : Int32} (h : m_Pg_accepts_j166 n y0 y1 Pg = some r) : o_At p l e rm_Pg_accepts s m args below meth c (MQ below (o_Qx D o_cls (some (.int r)) (o_cw ad ca rt Sj T0 T1 Rd Pg Pt Mk Lk Ck Jd Ld Pr) A) args s 0 0 A) o_cls D A 5 166 [.int y1, .int y0] (o_cw ad ca rt Sj T0 T1 Rd Pg Pt Mk Lk Ck Jd Ld Pr) [] := by
  unfold m_Pg_accepts_j166 at h
  intro H locs ls hP hS hl
  have C0 := C
  obtain ⟨hx, hb, -, -, -, hown, hts, hK, -, -⟩ := C0
  refine lv_icmp_eq (tgt := 173) hx hb d_Pg_accepts_166 (by decide) (fun c17 => ?_) (fun c17 => ?_)
  · replace h := o_tt c17 h
    refine lv_iconst (v := (0:Int32)) hx hb d_Pg_accepts_173 (by decide) ?_
    cases h
    exact o_rz (v := (0:Int32)) C o_nar0 hP hS d_Pg_accepts_174
  · replace h := o_ff c17 h
    refine lv_iconst (v := (1:Int32)) hx hb d_Pg_accepts_169 (by decide) ?_
    refine lv_goto (tgt := 174) hx hb d_Pg_accepts_170 (by decide) ?_
    cases h
    exact o_rz (v := (1:Int32)) C o_nar1 hP hS d_Pg_accepts_174
set_option maxHeartbeats 4000000 in
set_option maxRecDepth 100000 in
theorem w_Pg_accepts_j153 {E : (Nat → Prop) → State → Heap → Prop} {p : Program} {l : Launch} {e : Env} {s : State} {m : MethodId} {args : Array Value} {below : List Frame} {meth : Method} {c : Code} {D : va_G} {ad kd sd vd xd : Nat → Nat} {ca : Nat → ClassId} {A : Nat → Prop} (hE : o_EK E kd sd vd xd) (C : o_Cx E p s m args meth c D o_cls (o_tys ca) "SchemaJudge$Program" b_Pg_accepts (some .boolean) 5 cc_Pg_accepts A) (hDD : ∀ (rt : Nat) (Sj : SSJ) (T0 : STx) (T1 : STx) (Rd : SRd) (Pg : SPg) (Pt : SPt) (Mk : SMk) (Lk : SLk) (Ck : SCk) (Jd : SJd) (Ld : SLd) (Pr : SPr), va_D A (o_cw ad ca rt Sj T0 T1 Rd Pg Pt Mk Lk Ck Jd Ld Pr)) (n : Nat) (x4 : Int32) (y0 : Int32) (Pg : SPg) (Sj : SSJ) (T0 : STx) (T1 : STx) (Rd : SRd) (Pt : SPt) (Mk : SMk) (Lk : SLk) (Ck : SCk) (Jd : SJd) (Ld : SLd) (Pr : SPr) (rt : Nat) {r : Int32} (h : m_Pg_accepts_j153 n x4 y0 Pg = some r) : o_At p l e rm_Pg_accepts s m args below meth c (MQ below (o_Qx D o_cls (some (.int r)) (o_cw ad ca rt Sj T0 T1 Rd Pg Pt Mk Lk Ck Jd Ld Pr) A) args s 0 0 A) o_cls D A 5 153 [.int y0] (o_cw ad ca rt Sj T0 T1 Rd Pg Pt Mk Lk Ck Jd Ld Pr) [(4, .int x4)] := by
  unfold m_Pg_accepts_j153 at h
  intro H locs ls hP hS hl
  have C0 := C
  obtain ⟨hx, hb, -, -, -, hown, hts, hK, -, -⟩ := C0
  refine lv_iload hx hb d_Pg_accepts_153 (lv_at hl 0 rfl) ?_
  refine lv_bipush (v := (64:Int32)) hx hb d_Pg_accepts_155 (by decide) ?_
  refine lv_iand hx hb d_Pg_accepts_157 ?_
  refine lv_if_eq (tgt := 165) hx hb d_Pg_accepts_158 (by decide) (fun c16 => ?_) (fun c16 => ?_)
  · replace h := o_tt c16 h
    refine lv_iconst (v := (0:Int32)) hx hb d_Pg_accepts_165 (by decide) ?_
    exact w_Pg_accepts_j166 hE C hDD n y0 (0:Int32) Pg Sj T0 T1 Rd Pt Mk Lk Ck Jd Ld Pr rt h _ _ _ hP hS (lv_sub hl [] rfl)
  · replace h := o_ff c16 h
    refine lv_iconst (v := (1:Int32)) hx hb d_Pg_accepts_161 (by decide) ?_
    refine lv_goto (tgt := 166) hx hb d_Pg_accepts_162 (by decide) ?_
    exact w_Pg_accepts_j166 hE C hDD n y0 (1:Int32) Pg Sj T0 T1 Rd Pt Mk Lk Ck Jd Ld Pr rt h _ _ _ hP hS (lv_sub hl [] rfl)
set_option maxHeartbeats 4000000 in
set_option maxRecDepth 100000 in
theorem w_Pg_accepts_j128 {E : (Nat → Prop) → State → Heap → Prop} {p : Program} {l : Launch} {e : Env} {s : State} {m : MethodId} {args : Array Value} {below : List Frame} {meth : Method} {c : Code} {D : va_G} {ad kd sd vd xd : Nat → Nat} {ca : Nat → ClassId} {A : Nat → Prop} (hE : o_EK E kd sd vd xd) (C : o_Cx E p s m args meth c D o_cls (o_tys ca) "SchemaJudge$Program" b_Pg_accepts (some .boolean) 5 cc_Pg_accepts A) (hDD : ∀ (rt : Nat) (Sj : SSJ) (T0 : STx) (T1 : STx) (Rd : SRd) (Pg : SPg) (Pt : SPt) (Mk : SMk) (Lk : SLk) (Ck : SCk) (Jd : SJd) (Ld : SLd) (Pr : SPr), va_D A (o_cw ad ca rt Sj T0 T1 Rd Pg Pt Mk Lk Ck Jd Ld Pr)) (n : Nat) (x2 : Int32) (x3 : Int32) (y0 : Int32) (Pg : SPg) (Sj : SSJ) (T0 : STx) (T1 : STx) (Rd : SRd) (Pt : SPt) (Mk : SMk) (Lk : SLk) (Ck : SCk) (Jd : SJd) (Ld : SLd) (Pr : SPr) (rt : Nat) {r : Int32} (h : m_Pg_accepts_j128 n x2 x3 y0 Pg = some r) : o_At p l e rm_Pg_accepts s m args below meth c (MQ below (o_Qx D o_cls (some (.int r)) (o_cw ad ca rt Sj T0 T1 Rd Pg Pt Mk Lk Ck Jd Ld Pr) A) args s 0 0 A) o_cls D A 5 128 [.int y0] (o_cw ad ca rt Sj T0 T1 Rd Pg Pt Mk Lk Ck Jd Ld Pr) [(0, .ref (ad 25)), (2, .int x2), (3, .int x3)] := by
  unfold m_Pg_accepts_j128 at h
  intro H locs ls hP hS hl
  have C0 := C
  obtain ⟨hx, hb, -, -, -, hown, hts, hK, -, -⟩ := C0
  refine lv_istore (lv' := [(4, .int y0), (0, .ref (ad 25)), (2, .int x2), (3, .int x3)]) hx hb d_Pg_accepts_128 hl (by decide) rfl (fun ls hl => ?_)
  refine lv_aload_n hx hb d_Pg_accepts_130 rfl (lv_at hl 1 rfl) ?_
  refine lv_iload_n hx hb d_Pg_accepts_131 rfl (lv_at hl 3 rfl) ?_
  refine lv_iload_n hx hb d_Pg_accepts_132 rfl (lv_at hl 2 rfl) ?_
  obtain ⟨q2, hq2, h⟩ := o_bd_some h
  refine o_V (st1 := [.int q2]) (w1 := (o_cw ad ca rt Sj T0 T1 Rd Pg Pt Mk Lk Ck Jd Ld Pr)) hE.1 C (c_Pg_inRanges hE l n x3 x2 Pg Sj T0 T1 Rd Pt Mk Lk Ck Jd Ld Pr rt hq2) hP (hDD _ _ _ _ _ _ _ _ _ _ _ _ _) hS hl.1 rfl cw_25 k_6_107 k_6_109 k_s_66 k_1_4 k_6_110 hv_Pg_inRanges rfl rfl ⟨(Nat.le_of_ble_eq_true rfl), (Nat.le_of_ble_eq_true rfl)⟩ rfl (Nat.le_of_ble_eq_true rfl) ⟨Nat.zero_le _, Nat.zero_le _⟩ rfl d_Pg_accepts_133 (fun H locs hP hS => ?_)
  refine lv_if_ne (tgt := 148) hx hb d_Pg_accepts_136 (by decide) (fun c15 => ?_) (fun c15 => ?_)
  · replace h := o_ff c15 h
    refine lv_iconst (v := (1:Int32)) hx hb d_Pg_accepts_148 (by decide) ?_
    refine lv_goto (tgt := 153) hx hb d_Pg_accepts_149 (by decide) ?_
    exact w_Pg_accepts_j153 hE C hDD n y0 (1:Int32) Pg Sj T0 T1 Rd Pt Mk Lk Ck Jd Ld Pr rt h _ _ _ hP hS (lv_sub hl [0] rfl)
  · replace h := o_tt c15 h
    refine lv_iload hx hb d_Pg_accepts_139 (lv_at hl 0 rfl) ?_
    refine lv_iload_n hx hb d_Pg_accepts_141 rfl (lv_at hl 2 rfl) ?_
    obtain ⟨q3, hq3, h⟩ := o_bd_some h
    refine o_S (st1 := [.int q3]) (w1 := (o_cw ad ca rt Sj T0 T1 Rd Pg Pt Mk Lk Ck Jd Ld Pr)) hE.1 C (c_Pg_inClasses hE l y0 x2 Sj T0 T1 Rd Pg Pt Mk Lk Ck Jd Ld Pr rt hq3) hP (hDD _ _ _ _ _ _ _ _ _ _ _ _ _) hS hl.1 k_6_103 k_6_104 k_1_4 k_6_105 hs_Pg_inClasses rfl rfl ⟨(Nat.le_of_ble_eq_true rfl), (Nat.le_of_ble_eq_true rfl)⟩ rfl (Nat.le_of_ble_eq_true rfl) ⟨Nat.zero_le _, Nat.zero_le _⟩ rfl d_Pg_accepts_142 (fun H locs hP hS => ?_)
    refine lv_if_eq (tgt := 152) hx hb d_Pg_accepts_145 (by decide) (fun c18 => ?_) (fun c18 => ?_)
    · replace h := o_tt c18 h
      refine lv_iconst (v := (0:Int32)) hx hb d_Pg_accepts_152 (by decide) ?_
      exact w_Pg_accepts_j153 hE C hDD n y0 (0:Int32) Pg Sj T0 T1 Rd Pt Mk Lk Ck Jd Ld Pr rt h _ _ _ hP hS (lv_sub hl [0] rfl)
    · replace h := o_ff c18 h
      refine lv_iconst (v := (1:Int32)) hx hb d_Pg_accepts_148 (by decide) ?_
      refine lv_goto (tgt := 153) hx hb d_Pg_accepts_149 (by decide) ?_
      exact w_Pg_accepts_j153 hE C hDD n y0 (1:Int32) Pg Sj T0 T1 Rd Pt Mk Lk Ck Jd Ld Pr rt h _ _ _ hP hS (lv_sub hl [0] rfl)
set_option maxHeartbeats 4000000 in
set_option maxRecDepth 100000 in
theorem c_Pg_accepts {E : (Nat → Prop) → State → Heap → Prop} {D : va_G} {ad kd sd vd xd : Nat → Nat} {ca : Nat → ClassId} (hE : o_EK E kd sd vd xd) (l : Launch) (n : Nat) (x1 : Int32) (x2 : Int32) (Pg : SPg) (Sj : SSJ) (T0 : STx) (T1 : STx) (Rd : SRd) (Pt : SPt) (Mk : SMk) (Lk : SLk) (Ck : SCk) (Jd : SJd) (Ld : SLd) (Pr : SPr) (rt : Nat) {r : Int32} (h : m_Pg_accepts n x1 x2 Pg = some r) : o_Cn E l D o_cls (o_tys ca) y_Pg_accepts cc_Pg_accepts rm_Pg_accepts [.ref (ad 25), .int x1, .int x2] (o_cw ad ca rt Sj T0 T1 Rd Pg Pt Mk Lk Ck Jd Ld Pr) (o_cw ad ca rt Sj T0 T1 Rd Pg Pt Mk Lk Ck Jd Ld Pr) (some (.int r)) := by
  refine o_Cn_of (by decide) (Nat.le_of_ble_eq_true rfl) ?_
  intro p e s m below meth c A ls C hD hP hS hl
  have hDD : ∀ (rt : Nat) (Sj : SSJ) (T0 : STx) (T1 : STx) (Rd : SRd) (Pg : SPg) (Pt : SPt) (Mk : SMk) (Lk : SLk) (Ck : SCk) (Jd : SJd) (Ld : SLd) (Pr : SPr), va_D A (o_cw ad ca rt Sj T0 T1 Rd Pg Pt Mk Lk Ck Jd Ld Pr) := fun _ _ _ _ _ _ _ _ _ _ _ _ _ => o_D_map hD rfl
  have hl : lv_has ls 5 [(0, .ref (ad 25)), (1, .int x1), (2, .int x2)] := hl
  unfold m_Pg_accepts at h
  have C0 := C
  obtain ⟨hx, hb, -, -, -, hown, hts, hK, -, -⟩ := C0
  refine lv_iload_n hx hb d_Pg_accepts_0 rfl (lv_at hl 1 rfl) ?_
  refine lv_if_lt (tgt := 11) hx hb d_Pg_accepts_1 (by decide) (fun c1 => ?_) (fun c1 => ?_)
  · replace h := o_tt c1 h
    refine lv_iconst (v := (0:Int32)) hx hb d_Pg_accepts_11 (by decide) ?_
    cases h
    exact o_rz (v := (0:Int32)) C o_nar0 hP hS d_Pg_accepts_12
  · replace h := o_ff c1 h
    refine lv_iload_n hx hb d_Pg_accepts_4 rfl (lv_at hl 1 rfl) ?_
    refine lv_sipush (v := (1300:Int32)) hx hb d_Pg_accepts_5 (by decide) ?_
    refine lv_icmp_lt (tgt := 13) hx hb d_Pg_accepts_8 (by decide) (fun c2 => ?_) (fun c2 => ?_)
    · replace h := o_tt c2 h
      refine lv_aload_n hx hb d_Pg_accepts_13 rfl (lv_at hl 0 rfl) ?_
      refine o_get (v := .ref (ad 27)) C in_Pg hP 25 cw_25 rfl 1 (by decide) k_1_120 rfl rfl d_Pg_accepts_14 ?_
      refine lv_iload_n hx hb d_Pg_accepts_17 rfl (lv_at hl 1 rfl) ?_
      obtain ⟨g3, h⟩ := o_gd_some h
      refine o_iald (f := (Pg_arguments Pg)) C hP 27 22 cw_27 rfl g3 d_Pg_accepts_18 ?_
      refine lv_topi (fun x3_19 ex3_19 => ?_)
      replace h := o_nm_at ex3_19 h
      refine lv_istore_n (lv' := [(3, .int x3_19), (0, .ref (ad 25)), (1, .int x1), (2, .int x2)]) hx hb d_Pg_accepts_19 rfl hl (by decide) rfl (fun ls hl => ?_)
      refine lv_aload_n hx hb d_Pg_accepts_20 rfl (lv_at hl 1 rfl) ?_
      refine o_get (v := .ref (ad 26)) C in_Pg hP 25 cw_25 rfl 0 (by decide) k_1_119 rfl rfl d_Pg_accepts_21 ?_
      refine lv_iload_n hx hb d_Pg_accepts_24 rfl (lv_at hl 2 rfl) ?_
      obtain ⟨g4, h⟩ := o_gd_some h
      refine o_iald (f := (Pg_operations Pg)) C hP 26 21 cw_26 rfl g4 d_Pg_accepts_25 ?_
      refine lv_topi (fun w26 ew26 => ?_)
      replace h := o_nm_at ew26 h
      by_cases c5 : w26 = (0:Int32)
      · replace h := o_tt c5 h
        refine lv_tableIn (off := 26) (tgt := 52) hx hb d_Pg_accepts_26 (by rw [c5]; decide) (by rw [c5]; decide) (by rw [c5]; rfl) (by decide) ?_
        refine lv_iload_n hx hb d_Pg_accepts_52 rfl (lv_at hl 0 rfl) ?_
        refine lv_iload_n hx hb d_Pg_accepts_53 rfl (lv_at hl 3 rfl) ?_
        refine lv_icmp_ne (tgt := 61) hx hb d_Pg_accepts_54 (by decide) (fun c6 => ?_) (fun c6 => ?_)
        · replace h := o_ff c6 h
          refine lv_iconst (v := (0:Int32)) hx hb d_Pg_accepts_61 (by decide) ?_
          cases h
          exact o_rz (v := (0:Int32)) C o_nar0 hP hS d_Pg_accepts_62
        · replace h := o_tt c6 h
          refine lv_iconst (v := (1:Int32)) hx hb d_Pg_accepts_57 (by decide) ?_
          refine lv_goto (tgt := 62) hx hb d_Pg_accepts_58 (by decide) ?_
          cases h
          exact o_rz (v := (1:Int32)) C o_nar1 hP hS d_Pg_accepts_62
      replace h := o_ff c5 h
      by_cases c7 : w26 = (1:Int32)
      · replace h := o_tt c7 h
        refine lv_tableIn (off := 37) (tgt := 63) hx hb d_Pg_accepts_26 (by rw [c7]; decide) (by rw [c7]; decide) (by rw [c7]; rfl) (by decide) ?_
        refine lv_iload_n hx hb d_Pg_accepts_63 rfl (lv_at hl 3 rfl) ?_
        refine lv_bipush (v := (10:Int32)) hx hb d_Pg_accepts_64 (by decide) ?_
        refine lv_icmp_eq (tgt := 93) hx hb d_Pg_accepts_66 (by decide) (fun c8 => ?_) (fun c8 => ?_)
        · replace h := o_tt c8 h
          refine lv_iconst (v := (0:Int32)) hx hb d_Pg_accepts_93 (by decide) ?_
          cases h
          exact o_rz (v := (0:Int32)) C o_nar0 hP hS d_Pg_accepts_94
        · replace h := o_ff c8 h
          refine lv_iload_n hx hb d_Pg_accepts_69 rfl (lv_at hl 3 rfl) ?_
          refine lv_bipush (v := (13:Int32)) hx hb d_Pg_accepts_70 (by decide) ?_
          refine lv_icmp_eq (tgt := 93) hx hb d_Pg_accepts_72 (by decide) (fun c9 => ?_) (fun c9 => ?_)
          · replace h := o_tt c9 h
            refine lv_iconst (v := (0:Int32)) hx hb d_Pg_accepts_93 (by decide) ?_
            cases h
            exact o_rz (v := (0:Int32)) C o_nar0 hP hS d_Pg_accepts_94
          · replace h := o_ff c9 h
            refine lv_iload_n hx hb d_Pg_accepts_75 rfl (lv_at hl 3 rfl) ?_
            refine lv_sipush (v := (8232:Int32)) hx hb d_Pg_accepts_76 (by decide) ?_
            refine lv_icmp_eq (tgt := 93) hx hb d_Pg_accepts_79 (by decide) (fun c10 => ?_) (fun c10 => ?_)
            · replace h := o_tt c10 h
              refine lv_iconst (v := (0:Int32)) hx hb d_Pg_accepts_93 (by decide) ?_
              cases h
              exact o_rz (v := (0:Int32)) C o_nar0 hP hS d_Pg_accepts_94
            · replace h := o_ff c10 h
              refine lv_iload_n hx hb d_Pg_accepts_82 rfl (lv_at hl 3 rfl) ?_
              refine lv_sipush (v := (8233:Int32)) hx hb d_Pg_accepts_83 (by decide) ?_
              refine lv_icmp_eq (tgt := 93) hx hb d_Pg_accepts_86 (by decide) (fun c11 => ?_) (fun c11 => ?_)
              · replace h := o_tt c11 h
                refine lv_iconst (v := (0:Int32)) hx hb d_Pg_accepts_93 (by decide) ?_
                cases h
                exact o_rz (v := (0:Int32)) C o_nar0 hP hS d_Pg_accepts_94
              · replace h := o_ff c11 h
                refine lv_iconst (v := (1:Int32)) hx hb d_Pg_accepts_89 (by decide) ?_
                refine lv_goto (tgt := 94) hx hb d_Pg_accepts_90 (by decide) ?_
                cases h
                exact o_rz (v := (1:Int32)) C o_nar1 hP hS d_Pg_accepts_94
      replace h := o_ff c7 h
      by_cases c12 : w26 = (2:Int32)
      · replace h := o_tt c12 h
        refine lv_tableIn (off := 69) (tgt := 95) hx hb d_Pg_accepts_26 (by rw [c12]; decide) (by rw [c12]; decide) (by rw [c12]; rfl) (by decide) ?_
        refine lv_iload_n hx hb d_Pg_accepts_95 rfl (lv_at hl 0 rfl) ?_
        refine lv_iload_n hx hb d_Pg_accepts_96 rfl (lv_at hl 3 rfl) ?_
        obtain ⟨q1, hq1, h⟩ := o_bd_some h
        refine o_S (st1 := [.int q1]) (w1 := (o_cw ad ca rt Sj T0 T1 Rd Pg Pt Mk Lk Ck Jd Ld Pr)) hE.1 C (c_Pg_inClasses hE l x3_19 x2 Sj T0 T1 Rd Pg Pt Mk Lk Ck Jd Ld Pr rt hq1) hP (hDD _ _ _ _ _ _ _ _ _ _ _ _ _) hS hl.1 k_6_103 k_6_104 k_1_4 k_6_105 hs_Pg_inClasses rfl rfl ⟨(Nat.le_of_ble_eq_true rfl), (Nat.le_of_ble_eq_true rfl)⟩ rfl (Nat.le_of_ble_eq_true rfl) ⟨Nat.zero_le _, Nat.zero_le _⟩ rfl d_Pg_accepts_97 (fun H locs hP hS => ?_)
        obtain ⟨g13, h⟩ := o_gd_some h
        cases h
        exact o_rz C (o_zb_nar g13) hP hS d_Pg_accepts_100
      replace h := o_ff c12 h
      refine lv_tableOut (tgt := 101) hx hb d_Pg_accepts_26 (by have ec5 := o_ne_i (n := 0) (by decide) c5; have ec7 := o_ne_i (n := 1) (by decide) c7; have ec12 := o_ne_i (n := 2) (by decide) c12; omega) (by decide) ?_
      refine lv_iload_n hx hb d_Pg_accepts_101 rfl (lv_at hl 0 rfl) ?_
      refine lv_if_lt (tgt := 127) hx hb d_Pg_accepts_102 (by decide) (fun c14 => ?_) (fun c14 => ?_)
      · replace h := o_tt c14 h
        refine lv_iconst (v := (0:Int32)) hx hb d_Pg_accepts_127 (by decide) ?_
        exact w_Pg_accepts_j128 hE C hDD n x2 x3_19 (0:Int32) Pg Sj T0 T1 Rd Pt Mk Lk Ck Jd Ld Pr rt h _ _ _ hP hS (lv_sub hl [1, 3, 0] rfl)
      · replace h := o_ff c14 h
        refine lv_iload_n hx hb d_Pg_accepts_105 rfl (lv_at hl 0 rfl) ?_
        refine lv_iconst (v := (1:Int32)) hx hb d_Pg_accepts_106 (by decide) ?_
        refine lv_iadd hx hb d_Pg_accepts_107 ?_
        refine lv_aload_n hx hb d_Pg_accepts_108 rfl (lv_at hl 1 rfl) ?_
        refine o_get (v := .ref (ad 28)) C in_Pg hP 25 cw_25 rfl 3 (by decide) k_1_123 rfl rfl d_Pg_accepts_109 ?_
        refine va_alen (v := (8000:Int32)) hx hb hK hP 28 23 cw_28 rfl rfl d_Pg_accepts_112 ?_
        refine lv_icmp_ge (tgt := 127) hx hb d_Pg_accepts_113 (by decide) (fun c19 => ?_) (fun c19 => ?_)
        · replace h := o_tt c19 h
          refine lv_iconst (v := (0:Int32)) hx hb d_Pg_accepts_127 (by decide) ?_
          exact w_Pg_accepts_j128 hE C hDD n x2 x3_19 (0:Int32) Pg Sj T0 T1 Rd Pt Mk Lk Ck Jd Ld Pr rt h _ _ _ hP hS (lv_sub hl [1, 3, 0] rfl)
        · replace h := o_ff c19 h
          refine lv_aload_n hx hb d_Pg_accepts_116 rfl (lv_at hl 1 rfl) ?_
          refine o_get (v := .ref (ad 28)) C in_Pg hP 25 cw_25 rfl 3 (by decide) k_1_123 rfl rfl d_Pg_accepts_117 ?_
          refine lv_iload_n hx hb d_Pg_accepts_120 rfl (lv_at hl 0 rfl) ?_
          refine lv_iconst (v := (1:Int32)) hx hb d_Pg_accepts_121 (by decide) ?_
          refine lv_iadd hx hb d_Pg_accepts_122 ?_
          obtain ⟨g20, h⟩ := o_gd_some h
          refine o_iald (f := (Pg_sets Pg)) C hP 28 23 cw_28 rfl g20 d_Pg_accepts_123 ?_
          refine lv_goto (tgt := 128) hx hb d_Pg_accepts_124 (by decide) ?_
          exact w_Pg_accepts_j128 hE C hDD n x2 x3_19 ((Pg_sets Pg) (x3_19 + (1:Int32)).toNatClampNeg) Pg Sj T0 T1 Rd Pt Mk Lk Ck Jd Ld Pr rt h _ _ _ hP hS (lv_sub hl [1, 3, 0] rfl)
    · replace h := o_ff c2 h
      refine lv_iconst (v := (0:Int32)) hx hb d_Pg_accepts_11 (by decide) ?_
      cases h
      exact o_rz (v := (0:Int32)) C o_nar0 hP hS d_Pg_accepts_12
set_option maxHeartbeats 4000000 in
set_option maxRecDepth 100000 in
theorem c_Tx_firstChild_1 {E : (Nat → Prop) → State → Heap → Prop} {D : va_G} {ad kd sd vd xd : Nat → Nat} {ca : Nat → ClassId} (hE : o_EK E kd sd vd xd) (l : Launch) (x1 : Int32) (a0 : STx) (Sj : SSJ) (T0 : STx) (Rd : SRd) (Pg : SPg) (Pt : SPt) (Mk : SMk) (Lk : SLk) (Ck : SCk) (Jd : SJd) (Ld : SLd) (Pr : SPr) (rt : Nat) {r : Int32} (h : m_Tx_firstChild x1 a0 = some r) : o_Cn E l D o_cls (o_tys ca) y_Tx_firstChild cc_Tx_firstChild rm_Tx_firstChild [.ref (ad 12), .int x1] (o_cw ad ca rt Sj T0 a0 Rd Pg Pt Mk Lk Ck Jd Ld Pr) (o_cw ad ca rt Sj T0 a0 Rd Pg Pt Mk Lk Ck Jd Ld Pr) (some (.int r)) := by
  refine o_Cn_of (by decide) (Nat.le_of_ble_eq_true rfl) ?_
  intro p e s m below meth c A ls C hD hP hS hl
  have hDD : ∀ (rt : Nat) (Sj : SSJ) (T0 : STx) (T1 : STx) (Rd : SRd) (Pg : SPg) (Pt : SPt) (Mk : SMk) (Lk : SLk) (Ck : SCk) (Jd : SJd) (Ld : SLd) (Pr : SPr), va_D A (o_cw ad ca rt Sj T0 T1 Rd Pg Pt Mk Lk Ck Jd Ld Pr) := fun _ _ _ _ _ _ _ _ _ _ _ _ _ => o_D_map hD rfl
  have hl : lv_has ls 2 [(0, .ref (ad 12)), (1, .int x1)] := hl
  unfold m_Tx_firstChild at h
  have C0 := C
  obtain ⟨hx, hb, -, -, -, hown, hts, hK, -, -⟩ := C0
  refine lv_iload_n hx hb d_Tx_firstChild_0 rfl (lv_at hl 1 rfl) ?_
  refine lv_if_lt (tgt := 31) hx hb d_Tx_firstChild_1 (by decide) (fun c1 => ?_) (fun c1 => ?_)
  · replace h := o_tt c1 h
    refine lv_iconst (v := (-1:Int32)) hx hb d_Tx_firstChild_31 (by decide) ?_
    cases h
    exact o_ri (v := (-1:Int32)) C hP hS d_Tx_firstChild_32
  · replace h := o_ff c1 h
    refine lv_iload_n hx hb d_Tx_firstChild_4 rfl (lv_at hl 1 rfl) ?_
    refine lv_aload_n hx hb d_Tx_firstChild_5 rfl (lv_at hl 0 rfl) ?_
    refine o_get (v := .int (Tx_total a0)) C in_Tx hP 12 cw_12 rfl 10 (by decide) k_1_56 rfl rfl d_Tx_firstChild_6 ?_
    refine lv_icmp_ge (tgt := 31) hx hb d_Tx_firstChild_9 (by decide) (fun c2 => ?_) (fun c2 => ?_)
    · replace h := o_tt c2 h
      refine lv_iconst (v := (-1:Int32)) hx hb d_Tx_firstChild_31 (by decide) ?_
      cases h
      exact o_ri (v := (-1:Int32)) C hP hS d_Tx_firstChild_32
    · replace h := o_ff c2 h
      refine lv_aload_n hx hb d_Tx_firstChild_12 rfl (lv_at hl 0 rfl) ?_
      refine o_get (v := .ref (ad 15)) C in_Tx hP 12 cw_12 rfl 2 (by decide) k_1_48 rfl rfl d_Tx_firstChild_13 ?_
      refine lv_iload_n hx hb d_Tx_firstChild_16 rfl (lv_at hl 1 rfl) ?_
      obtain ⟨g3, h⟩ := o_gd_some h
      refine o_iald (f := (Tx_sizes a0)) C hP 15 12 cw_15 rfl g3 d_Tx_firstChild_17 ?_
      refine lv_if_eq (tgt := 31) hx hb d_Tx_firstChild_18 (by decide) (fun c4 => ?_) (fun c4 => ?_)
      · replace h := o_tt c4 h
        refine lv_iconst (v := (-1:Int32)) hx hb d_Tx_firstChild_31 (by decide) ?_
        cases h
        exact o_ri (v := (-1:Int32)) C hP hS d_Tx_firstChild_32
      · replace h := o_ff c4 h
        refine lv_aload_n hx hb d_Tx_firstChild_21 rfl (lv_at hl 0 rfl) ?_
        refine o_get (v := .ref (ad 13)) C in_Tx hP 12 cw_12 rfl 0 (by decide) k_1_46 rfl rfl d_Tx_firstChild_22 ?_
        refine lv_iload_n hx hb d_Tx_firstChild_25 rfl (lv_at hl 1 rfl) ?_
        obtain ⟨g5, h⟩ := o_gd_some h
        refine o_iald (f := (Tx_kinds a0)) C hP 13 10 cw_13 rfl g5 d_Tx_firstChild_26 ?_
        refine lv_iconst (v := (5:Int32)) hx hb d_Tx_firstChild_27 (by decide) ?_
        refine lv_icmp_ge (tgt := 33) hx hb d_Tx_firstChild_28 (by decide) (fun c6 => ?_) (fun c6 => ?_)
        · replace h := o_tt c6 h
          refine lv_aload_n hx hb d_Tx_firstChild_33 rfl (lv_at hl 0 rfl) ?_
          refine o_get (v := .ref (ad 13)) C in_Tx hP 12 cw_12 rfl 0 (by decide) k_1_46 rfl rfl d_Tx_firstChild_34 ?_
          refine lv_iload_n hx hb d_Tx_firstChild_37 rfl (lv_at hl 1 rfl) ?_
          obtain ⟨g7, h⟩ := o_gd_some h
          refine o_iald (f := (Tx_kinds a0)) C hP 13 10 cw_13 rfl g7 d_Tx_firstChild_38 ?_
          refine lv_iconst (v := (5:Int32)) hx hb d_Tx_firstChild_39 (by decide) ?_
          refine lv_icmp_ne (tgt := 49) hx hb d_Tx_firstChild_40 (by decide) (fun c8 => ?_) (fun c8 => ?_)
          · replace h := o_ff c8 h
            refine lv_iload_n hx hb d_Tx_firstChild_49 rfl (lv_at hl 1 rfl) ?_
            refine lv_iconst (v := (2:Int32)) hx hb d_Tx_firstChild_50 (by decide) ?_
            refine lv_iadd hx hb d_Tx_firstChild_51 ?_
            cases h
            exact o_ri (v := (x1 + (2:Int32))) C hP hS d_Tx_firstChild_52
          · replace h := o_tt c8 h
            refine lv_iload_n hx hb d_Tx_firstChild_43 rfl (lv_at hl 1 rfl) ?_
            refine lv_iconst (v := (1:Int32)) hx hb d_Tx_firstChild_44 (by decide) ?_
            refine lv_iadd hx hb d_Tx_firstChild_45 ?_
            refine lv_goto (tgt := 52) hx hb d_Tx_firstChild_46 (by decide) ?_
            cases h
            exact o_ri (v := (x1 + (1:Int32))) C hP hS d_Tx_firstChild_52
        · replace h := o_ff c6 h
          refine lv_iconst (v := (-1:Int32)) hx hb d_Tx_firstChild_31 (by decide) ?_
          cases h
          exact o_ri (v := (-1:Int32)) C hP hS d_Tx_firstChild_32
set_option maxHeartbeats 4000000 in
set_option maxRecDepth 100000 in
theorem c_Tx_size_1 {E : (Nat → Prop) → State → Heap → Prop} {D : va_G} {ad kd sd vd xd : Nat → Nat} {ca : Nat → ClassId} (hE : o_EK E kd sd vd xd) (l : Launch) (x1 : Int32) (a0 : STx) (Sj : SSJ) (T0 : STx) (Rd : SRd) (Pg : SPg) (Pt : SPt) (Mk : SMk) (Lk : SLk) (Ck : SCk) (Jd : SJd) (Ld : SLd) (Pr : SPr) (rt : Nat) {r : Int32} (h : m_Tx_size x1 a0 = some r) : o_Cn E l D o_cls (o_tys ca) y_Tx_size cc_Tx_size rm_Tx_size [.ref (ad 12), .int x1] (o_cw ad ca rt Sj T0 a0 Rd Pg Pt Mk Lk Ck Jd Ld Pr) (o_cw ad ca rt Sj T0 a0 Rd Pg Pt Mk Lk Ck Jd Ld Pr) (some (.int r)) := by
  refine o_Cn_of (by decide) (Nat.le_of_ble_eq_true rfl) ?_
  intro p e s m below meth c A ls C hD hP hS hl
  have hDD : ∀ (rt : Nat) (Sj : SSJ) (T0 : STx) (T1 : STx) (Rd : SRd) (Pg : SPg) (Pt : SPt) (Mk : SMk) (Lk : SLk) (Ck : SCk) (Jd : SJd) (Ld : SLd) (Pr : SPr), va_D A (o_cw ad ca rt Sj T0 T1 Rd Pg Pt Mk Lk Ck Jd Ld Pr) := fun _ _ _ _ _ _ _ _ _ _ _ _ _ => o_D_map hD rfl
  have hl : lv_has ls 2 [(0, .ref (ad 12)), (1, .int x1)] := hl
  unfold m_Tx_size at h
  have C0 := C
  obtain ⟨hx, hb, -, -, -, hown, hts, hK, -, -⟩ := C0
  refine lv_iload_n hx hb d_Tx_size_0 rfl (lv_at hl 1 rfl) ?_
  refine lv_if_lt (tgt := 21) hx hb d_Tx_size_1 (by decide) (fun c1 => ?_) (fun c1 => ?_)
  · replace h := o_tt c1 h
    refine lv_iconst (v := (0:Int32)) hx hb d_Tx_size_21 (by decide) ?_
    cases h
    exact o_ri (v := (0:Int32)) C hP hS d_Tx_size_22
  · replace h := o_ff c1 h
    refine lv_iload_n hx hb d_Tx_size_4 rfl (lv_at hl 1 rfl) ?_
    refine lv_aload_n hx hb d_Tx_size_5 rfl (lv_at hl 0 rfl) ?_
    refine o_get (v := .int (Tx_total a0)) C in_Tx hP 12 cw_12 rfl 10 (by decide) k_1_56 rfl rfl d_Tx_size_6 ?_
    refine lv_icmp_ge (tgt := 21) hx hb d_Tx_size_9 (by decide) (fun c2 => ?_) (fun c2 => ?_)
    · replace h := o_tt c2 h
      refine lv_iconst (v := (0:Int32)) hx hb d_Tx_size_21 (by decide) ?_
      cases h
      exact o_ri (v := (0:Int32)) C hP hS d_Tx_size_22
    · replace h := o_ff c2 h
      refine lv_aload_n hx hb d_Tx_size_12 rfl (lv_at hl 0 rfl) ?_
      refine o_get (v := .ref (ad 15)) C in_Tx hP 12 cw_12 rfl 2 (by decide) k_1_48 rfl rfl d_Tx_size_13 ?_
      refine lv_iload_n hx hb d_Tx_size_16 rfl (lv_at hl 1 rfl) ?_
      obtain ⟨g3, h⟩ := o_gd_some h
      refine o_iald (f := (Tx_sizes a0)) C hP 15 12 cw_15 rfl g3 d_Tx_size_17 ?_
      refine lv_goto (tgt := 22) hx hb d_Tx_size_18 (by decide) ?_
      cases h
      exact o_ri (v := ((Tx_sizes a0) x1.toNatClampNeg)) C hP hS d_Tx_size_22
set_option maxHeartbeats 4000000 in
set_option maxRecDepth 100000 in
theorem c_Tx_cell_1 {E : (Nat → Prop) → State → Heap → Prop} {D : va_G} {ad kd sd vd xd : Nat → Nat} {ca : Nat → ClassId} (hE : o_EK E kd sd vd xd) (l : Launch) (x1 : Int32) (x2 : Int32) (a0 : STx) (Sj : SSJ) (T0 : STx) (Rd : SRd) (Pg : SPg) (Pt : SPt) (Mk : SMk) (Lk : SLk) (Ck : SCk) (Jd : SJd) (Ld : SLd) (Pr : SPr) (rt : Nat) {r : Int32} (h : m_Tx_cell x1 x2 a0 = some r) : o_Cn E l D o_cls (o_tys ca) y_Tx_cell cc_Tx_cell rm_Tx_cell [.ref (ad 12), .int x1, .int x2] (o_cw ad ca rt Sj T0 a0 Rd Pg Pt Mk Lk Ck Jd Ld Pr) (o_cw ad ca rt Sj T0 a0 Rd Pg Pt Mk Lk Ck Jd Ld Pr) (some (.int r)) := by
  refine o_Cn_of (by decide) (Nat.le_of_ble_eq_true rfl) ?_
  intro p e s m below meth c A ls C hD hP hS hl
  have hDD : ∀ (rt : Nat) (Sj : SSJ) (T0 : STx) (T1 : STx) (Rd : SRd) (Pg : SPg) (Pt : SPt) (Mk : SMk) (Lk : SLk) (Ck : SCk) (Jd : SJd) (Ld : SLd) (Pr : SPr), va_D A (o_cw ad ca rt Sj T0 T1 Rd Pg Pt Mk Lk Ck Jd Ld Pr) := fun _ _ _ _ _ _ _ _ _ _ _ _ _ => o_D_map hD rfl
  have hl : lv_has ls 4 [(0, .ref (ad 12)), (1, .int x1), (2, .int x2)] := hl
  unfold m_Tx_cell at h
  have C0 := C
  obtain ⟨hx, hb, -, -, -, hown, hts, hK, -, -⟩ := C0
  refine lv_iload_n hx hb d_Tx_cell_0 rfl (lv_at hl 1 rfl) ?_
  refine lv_if_lt (tgt := 26) hx hb d_Tx_cell_1 (by decide) (fun c1 => ?_) (fun c1 => ?_)
  · replace h := o_tt c1 h
    refine lv_iconst (v := (0:Int32)) hx hb d_Tx_cell_26 (by decide) ?_
    cases h
    exact o_ri (v := (0:Int32)) C hP hS d_Tx_cell_27
  · replace h := o_ff c1 h
    refine lv_iload_n hx hb d_Tx_cell_4 rfl (lv_at hl 1 rfl) ?_
    refine lv_aload_n hx hb d_Tx_cell_5 rfl (lv_at hl 0 rfl) ?_
    refine o_get (v := .int (Tx_total a0)) C in_Tx hP 12 cw_12 rfl 10 (by decide) k_1_56 rfl rfl d_Tx_cell_6 ?_
    refine lv_icmp_ge (tgt := 26) hx hb d_Tx_cell_9 (by decide) (fun c2 => ?_) (fun c2 => ?_)
    · replace h := o_tt c2 h
      refine lv_iconst (v := (0:Int32)) hx hb d_Tx_cell_26 (by decide) ?_
      cases h
      exact o_ri (v := (0:Int32)) C hP hS d_Tx_cell_27
    · replace h := o_ff c2 h
      refine lv_iload_n hx hb d_Tx_cell_12 rfl (lv_at hl 2 rfl) ?_
      refine lv_if_lt (tgt := 26) hx hb d_Tx_cell_13 (by decide) (fun c3 => ?_) (fun c3 => ?_)
      · replace h := o_tt c3 h
        refine lv_iconst (v := (0:Int32)) hx hb d_Tx_cell_26 (by decide) ?_
        cases h
        exact o_ri (v := (0:Int32)) C hP hS d_Tx_cell_27
      · replace h := o_ff c3 h
        refine lv_iload_n hx hb d_Tx_cell_16 rfl (lv_at hl 2 rfl) ?_
        refine lv_aload_n hx hb d_Tx_cell_17 rfl (lv_at hl 0 rfl) ?_
        refine o_get (v := .ref (ad 15)) C in_Tx hP 12 cw_12 rfl 2 (by decide) k_1_48 rfl rfl d_Tx_cell_18 ?_
        refine lv_iload_n hx hb d_Tx_cell_21 rfl (lv_at hl 1 rfl) ?_
        obtain ⟨g4, h⟩ := o_gd_some h
        refine o_iald (f := (Tx_sizes a0)) C hP 15 12 cw_15 rfl g4 d_Tx_cell_22 ?_
        refine lv_icmp_lt (tgt := 28) hx hb d_Tx_cell_23 (by decide) (fun c5 => ?_) (fun c5 => ?_)
        · replace h := o_tt c5 h
          refine lv_aload_n hx hb d_Tx_cell_28 rfl (lv_at hl 0 rfl) ?_
          refine o_get (v := .ref (ad 18)) C in_Tx hP 12 cw_12 rfl 5 (by decide) k_1_51 rfl rfl d_Tx_cell_29 ?_
          refine lv_iload_n hx hb d_Tx_cell_32 rfl (lv_at hl 1 rfl) ?_
          obtain ⟨g6, h⟩ := o_gd_some h
          refine o_iald (f := (Tx_starts a0)) C hP 18 15 cw_18 rfl g6 d_Tx_cell_33 ?_
          refine lv_iload_n hx hb d_Tx_cell_34 rfl (lv_at hl 2 rfl) ?_
          refine lv_iadd hx hb d_Tx_cell_35 ?_
          refine lv_topi (fun x3_36 ex3_36 => ?_)
          replace h := o_nm_at ex3_36 h
          refine lv_istore_n (lv' := [(3, .int x3_36), (0, .ref (ad 12)), (1, .int x1), (2, .int x2)]) hx hb d_Tx_cell_36 rfl hl (by decide) rfl (fun ls hl => ?_)
          refine lv_iload_n hx hb d_Tx_cell_37 rfl (lv_at hl 0 rfl) ?_
          refine lv_if_lt (tgt := 59) hx hb d_Tx_cell_38 (by decide) (fun c7 => ?_) (fun c7 => ?_)
          · replace h := o_tt c7 h
            refine lv_iconst (v := (0:Int32)) hx hb d_Tx_cell_59 (by decide) ?_
            cases h
            exact o_ri (v := (0:Int32)) C hP hS d_Tx_cell_60
          · replace h := o_ff c7 h
            refine lv_iload_n hx hb d_Tx_cell_41 rfl (lv_at hl 0 rfl) ?_
            refine lv_aload_n hx hb d_Tx_cell_42 rfl (lv_at hl 1 rfl) ?_
            refine o_get (v := .ref (ad 22)) C in_Tx hP 12 cw_12 rfl 9 (by decide) k_1_55 rfl rfl d_Tx_cell_43 ?_
            refine va_alen (v := (8192:Int32)) hx hb hK hP 22 19 cw_22 rfl rfl d_Tx_cell_46 ?_
            refine lv_icmp_ge (tgt := 59) hx hb d_Tx_cell_47 (by decide) (fun c8 => ?_) (fun c8 => ?_)
            · replace h := o_tt c8 h
              refine lv_iconst (v := (0:Int32)) hx hb d_Tx_cell_59 (by decide) ?_
              cases h
              exact o_ri (v := (0:Int32)) C hP hS d_Tx_cell_60
            · replace h := o_ff c8 h
              refine lv_aload_n hx hb d_Tx_cell_50 rfl (lv_at hl 1 rfl) ?_
              refine o_get (v := .ref (ad 22)) C in_Tx hP 12 cw_12 rfl 9 (by decide) k_1_55 rfl rfl d_Tx_cell_51 ?_
              refine lv_iload_n hx hb d_Tx_cell_54 rfl (lv_at hl 0 rfl) ?_
              obtain ⟨g9, h⟩ := o_gd_some h
              refine o_iald (f := (Tx_cells a0)) C hP 22 19 cw_22 rfl g9 d_Tx_cell_55 ?_
              refine lv_goto (tgt := 60) hx hb d_Tx_cell_56 (by decide) ?_
              cases h
              exact o_ri (v := ((Tx_cells a0) x3_36.toNatClampNeg)) C hP hS d_Tx_cell_60
        · replace h := o_ff c5 h
          refine lv_iconst (v := (0:Int32)) hx hb d_Tx_cell_26 (by decide) ?_
          cases h
          exact o_ri (v := (0:Int32)) C hP hS d_Tx_cell_27
set_option maxHeartbeats 4000000 in
set_option maxRecDepth 100000 in
theorem w_Pg_finds_b2_1 {E : (Nat → Prop) → State → Heap → Prop} {p : Program} {l : Launch} {e : Env} {s : State} {m : MethodId} {args : Array Value} {below : List Frame} {meth : Method} {c : Code} {D : va_G} {ad kd sd vd xd : Nat → Nat} {ca : Nat → ClassId} {A : Nat → Prop} {Q : State → Prop} (hE : o_EK E kd sd vd xd) (C : o_Cx E p s m args meth c D o_cls (o_tys ca) "SchemaJudge$Program" b_Pg_finds (some .boolean) 9 cc_Pg_finds A) (hDD : ∀ (rt : Nat) (Sj : SSJ) (T0 : STx) (T1 : STx) (Rd : SRd) (Pg : SPg) (Pt : SPt) (Mk : SMk) (Lk : SLk) (Ck : SCk) (Jd : SJd) (Ld : SLd) (Pr : SPr), va_D A (o_cw ad ca rt Sj T0 T1 Rd Pg Pt Mk Lk Ck Jd Ld Pr)) (n : Nat) (u2_x2 : Int32) (u2_a1 : STx) (u2_Sj : SSJ) (u2_T0 : STx) (u2_Rd : SRd) (u2_Pt : SPt) (u2_Mk : SMk) (u2_Lk : SLk) (u2_Ck : SCk) (u2_Jd : SJd) (u2_Ld : SLd) (u2_Pr : SPr) (u2_rt : Nat) (z : Int32 × SPg) (q : Nat × Int32 × SPg) (h : m_Pg_finds_b2 n u2_x2 u2_a1 z = some q) (h0 : q.1 = 0 → o_At p l e rm_Pg_finds s m args below meth c Q o_cls D A 9 2 [] (o_cw ad ca u2_rt u2_Sj u2_T0 u2_a1 u2_Rd q.2.2 u2_Pt u2_Mk u2_Lk u2_Ck u2_Jd u2_Ld u2_Pr) [(0, .ref (ad 25)), (1, .ref (ad 12)), (2, .int u2_x2), (3, .int q.2.1)]) (h1 : q.1 ≠ 0 → (o_At p l e rm_Pg_finds s m args below meth c Q o_cls D A 9 30 [] (o_cw ad ca u2_rt u2_Sj u2_T0 u2_a1 u2_Rd q.2.2 u2_Pt u2_Mk u2_Lk u2_Ck u2_Jd u2_Ld u2_Pr) [(0, .ref (ad 25)), (1, .ref (ad 12)), (2, .int u2_x2)])) : o_At p l e rm_Pg_finds s m args below meth c Q o_cls D A 9 2 [] (o_cw ad ca u2_rt u2_Sj u2_T0 u2_a1 u2_Rd z.2 u2_Pt u2_Mk u2_Lk u2_Ck u2_Jd u2_Ld u2_Pr) [(0, .ref (ad 25)), (1, .ref (ad 12)), (2, .int u2_x2), (3, .int z.1)] := by
  unfold m_Pg_finds_b2 at h
  intro H locs ls hP hS hl
  have C0 := C
  obtain ⟨hx, hb, -, -, -, hown, hts, hK, -, -⟩ := C0
  refine lv_iload_n hx hb d_Pg_finds_2 rfl (lv_at hl 3 rfl) ?_
  refine lv_aload_n hx hb d_Pg_finds_3 rfl (lv_at hl 0 rfl) ?_
  refine o_get (v := .int (Pg_length z.2)) C in_Pg hP 25 cw_25 rfl 2 (by decide) k_1_121 rfl rfl d_Pg_finds_4 ?_
  refine lv_icmp_ge (tgt := 30) hx hb d_Pg_finds_7 (by decide) (fun c1 => ?_) (fun c1 => ?_)
  · replace h := o_tt c1 h
    cases h
    exact h1 (Nat.succ_ne_zero 0) _ _ _ hP hS (lv_sub hl [0, 1, 2] rfl)
  · replace h := o_ff c1 h
    refine lv_iload_n hx hb d_Pg_finds_10 rfl (lv_at hl 3 rfl) ?_
    refine lv_sipush (v := (1300:Int32)) hx hb d_Pg_finds_11 (by decide) ?_
    refine lv_icmp_ge (tgt := 30) hx hb d_Pg_finds_14 (by decide) (fun c2 => ?_) (fun c2 => ?_)
    · replace h := o_tt c2 h
      cases h
      exact h1 (Nat.succ_ne_zero 0) _ _ _ hP hS (lv_sub hl [0, 1, 2] rfl)
    · replace h := o_ff c2 h
      refine lv_aload_n hx hb d_Pg_finds_17 rfl (lv_at hl 0 rfl) ?_
      refine o_get (v := .ref (ad 29)) C in_Pg hP 25 cw_25 rfl 5 (by decide) k_1_125 rfl rfl d_Pg_finds_18 ?_
      refine lv_iload_n hx hb d_Pg_finds_21 rfl (lv_at hl 3 rfl) ?_
      refine lv_iconst (v := (0:Int32)) hx hb d_Pg_finds_22 (by decide) ?_
      obtain ⟨g3, h⟩ := o_gd_some h
      refine o_iast (f := (Pg_rounds z.2)) (w1 := (o_cw ad ca u2_rt u2_Sj u2_T0 u2_a1 u2_Rd (Pg_mk (Pg_operations z.2) (Pg_arguments z.2) (Pg_length z.2) (Pg_sets z.2) (Pg_setsUsed z.2) (upd (Pg_rounds z.2) z.1.toNatClampNeg (0:Int32)) (Pg_stack z.2) (Pg_top z.2) (Pg_waiting z.2) (Pg_waitingCount z.2) (Pg_moved z.2)) u2_Pt u2_Mk u2_Lk u2_Ck u2_Jd u2_Ld u2_Pr)) C hP (hDD _ _ _ _ _ _ _ _ _ _ _ _ _) hS 29 24 cw_29 rfl g3 rfl d_Pg_finds_23 (fun H locs hP hS => ?_)
      obtain ⟨x3_24, ex3_24⟩ : ∃ y : Int32, y = z.1 + (1:Int32) := ⟨_, rfl⟩
      replace h := o_nm_at ex3_24 h
      refine lv_iinc (v := x3_24) (lv' := [(3, .int x3_24), (0, .ref (ad 25)), (1, .ref (ad 12)), (2, .int u2_x2)]) hx hb d_Pg_finds_24 hl (k := 3) rfl (by rw [ex3_24]; rfl) (by decide) rfl (fun ls hl => ?_)
      refine lv_goto (tgt := 2) hx hb d_Pg_finds_27 (by decide) ?_
      cases h
      exact h0 rfl _ _ _ hP hS (lv_sub hl [1, 2, 3, 0] rfl)
set_option maxHeartbeats 4000000 in
set_option maxRecDepth 100000 in
theorem w_Pg_finds_b71_1 {E : (Nat → Prop) → State → Heap → Prop} {p : Program} {l : Launch} {e : Env} {s : State} {m : MethodId} {args : Array Value} {below : List Frame} {meth : Method} {c : Code} {D : va_G} {ad kd sd vd xd : Nat → Nat} {ca : Nat → ClassId} {A : Nat → Prop} {Q : State → Prop} (hE : o_EK E kd sd vd xd) (C : o_Cx E p s m args meth c D o_cls (o_tys ca) "SchemaJudge$Program" b_Pg_finds (some .boolean) 9 cc_Pg_finds A) (hDD : ∀ (rt : Nat) (Sj : SSJ) (T0 : STx) (T1 : STx) (Rd : SRd) (Pg : SPg) (Pt : SPt) (Mk : SMk) (Lk : SLk) (Ck : SCk) (Jd : SJd) (Ld : SLd) (Pr : SPr), va_D A (o_cw ad ca rt Sj T0 T1 Rd Pg Pt Mk Lk Ck Jd Ld Pr)) (n : Nat) (u71_x2 : Int32) (u71_x3 : Int32) (u71_x4 : Int32) (u71_x5 : Int32) (u71_a1 : STx) (u71_Sj : SSJ) (u71_T0 : STx) (u71_Rd : SRd) (u71_Pt : SPt) (u71_Mk : SMk) (u71_Lk : SLk) (u71_Ck : SCk) (u71_Jd : SJd) (u71_Ld : SLd) (u71_Pr : SPr) (u71_rt : Nat) (z : Int32 × SPg) (q : Nat × Int32 × SPg) (h : m_Pg_finds_b71 n u71_x2 u71_x3 u71_x4 u71_x5 u71_a1 z = some q) (h0 : q.1 = 0 → o_At p l e rm_Pg_finds s m args below meth c Q o_cls D A 9 71 [] (o_cw ad ca u71_rt u71_Sj u71_T0 u71_a1 u71_Rd q.2.2 u71_Pt u71_Mk u71_Lk u71_Ck u71_Jd u71_Ld u71_Pr) [(0, .ref (ad 25)), (1, .ref (ad 12)), (2, .int u71_x2), (3, .int u71_x3), (4, .int u71_x4), (5, .int u71_x5), (6, .int q.2.1)]) (h1 : q.1 ≠ 0 → (o_At p l e rm_Pg_finds s m args below meth c Q o_cls D A 9 98 [] (o_cw ad ca u71_rt u71_Sj u71_T0 u71_a1 u71_Rd q.2.2 u71_Pt u71_Mk u71_Lk u71_Ck u71_Jd u71_Ld u71_Pr) [(0, .ref (ad 25)), (1, .ref (ad 12)), (2, .int u71_x2), (4, .int u71_x4), (5, .int u71_x5)])) : o_At p l e rm_Pg_finds s m args below meth c Q o_cls D A 9 71 [] (o_cw ad ca u71_rt u71_Sj u71_T0 u71_a1 u71_Rd z.2 u71_Pt u71_Mk u71_Lk u71_Ck u71_Jd u71_Ld u71_Pr) [(0, .ref (ad 25)), (1, .ref (ad 12)), (2, .int u71_x2), (3, .int u71_x3), (4, .int u71_x4), (5, .int u71_x5), (6, .int z.1)] := by
  unfold m_Pg_finds_b71 at h
  intro H locs ls hP hS hl
  have C0 := C
  obtain ⟨hx, hb, -, -, -, hown, hts, hK, -, -⟩ := C0
  refine lv_iload hx hb d_Pg_finds_71 (lv_at hl 6 rfl) ?_
  refine lv_iload_n hx hb d_Pg_finds_73 rfl (lv_at hl 3 rfl) ?_
  refine lv_icmp_ge (tgt := 98) hx hb d_Pg_finds_74 (by decide) (fun c5 => ?_) (fun c5 => ?_)
  · replace h := o_tt c5 h
    cases h
    exact h1 (Nat.succ_ne_zero 0) _ _ _ hP hS (lv_sub hl [0, 1, 2, 4, 5] rfl)
  · replace h := o_ff c5 h
    refine lv_aload_n hx hb d_Pg_finds_77 rfl (lv_at hl 0 rfl) ?_
    refine lv_aload_n hx hb d_Pg_finds_78 rfl (lv_at hl 0 rfl) ?_
    refine o_get (v := .ref (ad 32)) C in_Pg hP 25 cw_25 rfl 10 (by decide) k_1_130 rfl rfl d_Pg_finds_79 ?_
    refine lv_iload hx hb d_Pg_finds_82 (lv_at hl 6 rfl) ?_
    obtain ⟨g6, h⟩ := o_gd_some h
    refine o_iald (f := (Pg_moved z.2)) C hP 32 27 cw_32 rfl g6 d_Pg_finds_84 ?_
    refine lv_iload hx hb d_Pg_finds_85 (lv_at hl 5 rfl) ?_
    refine lv_iconst (v := (1:Int32)) hx hb d_Pg_finds_87 (by decide) ?_
    refine lv_iadd hx hb d_Pg_finds_88 ?_
    obtain ⟨q4, hq4, h⟩ := o_bd_some h
    refine o_V (st1 := []) (w1 := (o_cw ad ca u71_rt u71_Sj u71_T0 u71_a1 u71_Rd q4 u71_Pt u71_Mk u71_Lk u71_Ck u71_Jd u71_Ld u71_Pr)) hE.1 C (c_Pg_push hE l ((Pg_moved z.2) z.1.toNatClampNeg) (u71_x5 + (1:Int32)) z.2 u71_Sj u71_T0 u71_a1 u71_Rd u71_Pt u71_Mk u71_Lk u71_Ck u71_Jd u71_Ld u71_Pr u71_rt hq4) hP (hDD _ _ _ _ _ _ _ _ _ _ _ _ _) hS hl.1 rfl cw_25 k_6_90 k_6_92 k_s_63 k_1_4 k_6_93 hv_Pg_push rfl rfl ⟨(Nat.le_of_ble_eq_true rfl), (Nat.le_of_ble_eq_true rfl)⟩ rfl (Nat.le_of_ble_eq_true rfl) ⟨Nat.zero_le _, Nat.zero_le _⟩ rfl d_Pg_finds_89 (fun H locs hP hS => ?_)
    obtain ⟨x6_92, ex6_92⟩ : ∃ y : Int32, y = z.1 + (1:Int32) := ⟨_, rfl⟩
    replace h := o_nm_at ex6_92 h
    refine lv_iinc (v := x6_92) (lv' := [(6, .int x6_92), (0, .ref (ad 25)), (1, .ref (ad 12)), (2, .int u71_x2), (3, .int u71_x3), (4, .int u71_x4), (5, .int u71_x5)]) hx hb d_Pg_finds_92 hl (k := 6) rfl (by rw [ex6_92]; rfl) (by decide) rfl (fun ls hl => ?_)
    refine lv_goto (tgt := 71) hx hb d_Pg_finds_95 (by decide) ?_
    cases h
    exact h0 rfl _ _ _ hP hS (lv_sub hl [1, 2, 3, 4, 5, 6, 0] rfl)
set_option maxHeartbeats 4000000 in
set_option maxRecDepth 100000 in
theorem w_Pg_finds_b125_1 {E : (Nat → Prop) → State → Heap → Prop} {p : Program} {l : Launch} {e : Env} {s : State} {m : MethodId} {args : Array Value} {below : List Frame} {meth : Method} {c : Code} {D : va_G} {ad kd sd vd xd : Nat → Nat} {ca : Nat → ClassId} {A : Nat → Prop} {Q : State → Prop} (hE : o_EK E kd sd vd xd) (C : o_Cx E p s m args meth c D o_cls (o_tys ca) "SchemaJudge$Program" b_Pg_finds (some .boolean) 9 cc_Pg_finds A) (hDD : ∀ (rt : Nat) (Sj : SSJ) (T0 : STx) (T1 : STx) (Rd : SRd) (Pg : SPg) (Pt : SPt) (Mk : SMk) (Lk : SLk) (Ck : SCk) (Jd : SJd) (Ld : SLd) (Pr : SPr), va_D A (o_cw ad ca rt Sj T0 T1 Rd Pg Pt Mk Lk Ck Jd Ld Pr)) (n : Nat) (u125_x2 : Int32) (u125_x4 : Int32) (u125_x5 : Int32) (u125_x6 : Int32) (u125_a1 : STx) (u125_Sj : SSJ) (u125_T0 : STx) (u125_Rd : SRd) (u125_Pt : SPt) (u125_Mk : SMk) (u125_Lk : SLk) (u125_Ck : SCk) (u125_Jd : SJd) (u125_Ld : SLd) (u125_Pr : SPr) (u125_rt : Nat) (z : Int32 × Int32 × SPg) (q : Nat × Int32 × Int32 × SPg) (h : m_Pg_finds_b125 n u125_x2 u125_x4 u125_x5 u125_x6 u125_a1 z = some q) (h0 : q.1 = 0 → o_At p l e rm_Pg_finds s m args below meth c Q o_cls D A 9 125 [] (o_cw ad ca u125_rt u125_Sj u125_T0 u125_a1 u125_Rd q.2.2.2 u125_Pt u125_Mk u125_Lk u125_Ck u125_Jd u125_Ld u125_Pr) [(0, .ref (ad 25)), (1, .ref (ad 12)), (2, .int u125_x2), (3, .int q.2.1), (4, .int u125_x4), (5, .int u125_x5), (6, .int u125_x6), (7, .int q.2.2.1)]) (h1 : q.1 ≠ 0 → (o_At p l e rm_Pg_finds s m args below meth c Q o_cls D A 9 182 [] (o_cw ad ca u125_rt u125_Sj u125_T0 u125_a1 u125_Rd q.2.2.2 u125_Pt u125_Mk u125_Lk u125_Ck u125_Jd u125_Ld u125_Pr) [(0, .ref (ad 25)), (1, .ref (ad 12)), (2, .int u125_x2), (3, .int q.2.1), (4, .int u125_x4), (5, .int u125_x5)])) : o_At p l e rm_Pg_finds s m args below meth c Q o_cls D A 9 125 [] (o_cw ad ca u125_rt u125_Sj u125_T0 u125_a1 u125_Rd z.2.2 u125_Pt u125_Mk u125_Lk u125_Ck u125_Jd u125_Ld u125_Pr) [(0, .ref (ad 25)), (1, .ref (ad 12)), (2, .int u125_x2), (3, .int z.1), (4, .int u125_x4), (5, .int u125_x5), (6, .int u125_x6), (7, .int z.2.1)] := by
  unfold m_Pg_finds_b125 at h
  intro H locs ls hP hS hl
  have C0 := C
  obtain ⟨hx, hb, -, -, -, hown, hts, hK, -, -⟩ := C0
  refine lv_iload hx hb d_Pg_finds_125 (lv_at hl 7 rfl) ?_
  refine lv_aload_n hx hb d_Pg_finds_127 rfl (lv_at hl 0 rfl) ?_
  refine o_get (v := .int (Pg_waitingCount z.2.2)) C in_Pg hP 25 cw_25 rfl 9 (by decide) k_1_129 rfl rfl d_Pg_finds_128 ?_
  refine lv_icmp_ge (tgt := 182) hx hb d_Pg_finds_131 (by decide) (fun c8 => ?_) (fun c8 => ?_)
  · replace h := o_tt c8 h
    cases h
    exact h1 (Nat.succ_ne_zero 0) _ _ _ hP hS (lv_sub hl [0, 1, 2, 3, 4, 5] rfl)
  · replace h := o_ff c8 h
    refine lv_aload_n hx hb d_Pg_finds_134 rfl (lv_at hl 0 rfl) ?_
    refine o_get (v := .ref (ad 31)) C in_Pg hP 25 cw_25 rfl 8 (by decide) k_1_128 rfl rfl d_Pg_finds_135 ?_
    refine lv_iload hx hb d_Pg_finds_138 (lv_at hl 7 rfl) ?_
    obtain ⟨g9, h⟩ := o_gd_some h
    refine o_iald (f := (Pg_waiting z.2.2)) C hP 31 26 cw_31 rfl g9 d_Pg_finds_140 ?_
    refine lv_topi (fun x8_141 ex8_141 => ?_)
    replace h := o_nm_at ex8_141 h
    refine lv_istore (lv' := [(8, .int x8_141), (0, .ref (ad 25)), (1, .ref (ad 12)), (2, .int u125_x2), (3, .int z.1), (4, .int u125_x4), (5, .int u125_x5), (6, .int u125_x6), (7, .int z.2.1)]) hx hb d_Pg_finds_141 hl (by decide) rfl (fun ls hl => ?_)
    refine lv_aload_n hx hb d_Pg_finds_143 rfl (lv_at hl 1 rfl) ?_
    refine lv_iload hx hb d_Pg_finds_144 (lv_at hl 0 rfl) ?_
    refine lv_iload hx hb d_Pg_finds_146 (lv_at hl 7 rfl) ?_
    obtain ⟨q8, hq8, h⟩ := o_bd_some h
    refine o_V (st1 := [.int q8]) (w1 := (o_cw ad ca u125_rt u125_Sj u125_T0 u125_a1 u125_Rd z.2.2 u125_Pt u125_Mk u125_Lk u125_Ck u125_Jd u125_Ld u125_Pr)) hE.1 C (c_Pg_accepts hE l n x8_141 u125_x6 z.2.2 u125_Sj u125_T0 u125_a1 u125_Rd u125_Pt u125_Mk u125_Lk u125_Ck u125_Jd u125_Ld u125_Pr u125_rt hq8) hP (hDD _ _ _ _ _ _ _ _ _ _ _ _ _) hS hl.1 rfl cw_25 k_6_99 k_6_101 k_s_65 k_1_4 k_6_102 hv_Pg_accepts rfl rfl ⟨(Nat.le_of_ble_eq_true rfl), (Nat.le_of_ble_eq_true rfl)⟩ rfl (Nat.le_of_ble_eq_true rfl) ⟨Nat.zero_le _, Nat.zero_le _⟩ rfl d_Pg_finds_148 (fun H locs hP hS => ?_)
    refine lv_if_eq (tgt := 176) hx hb d_Pg_finds_151 (by decide) (fun c10 => ?_) (fun c10 => ?_)
    · replace h := o_tt c10 h
      obtain ⟨x7_176, ex7_176⟩ : ∃ y : Int32, y = z.2.1 + (1:Int32) := ⟨_, rfl⟩
      replace h := o_nm_at ex7_176 h
      refine lv_iinc (v := x7_176) (lv' := [(7, .int x7_176), (8, .int x8_141), (0, .ref (ad 25)), (1, .ref (ad 12)), (2, .int u125_x2), (3, .int z.1), (4, .int u125_x4), (5, .int u125_x5), (6, .int u125_x6)]) hx hb d_Pg_finds_176 hl (k := 8) rfl (by rw [ex7_176]; rfl) (by decide) rfl (fun ls hl => ?_)
      refine lv_goto (tgt := 125) hx hb d_Pg_finds_179 (by decide) ?_
      cases h
      exact h0 rfl _ _ _ hP hS (lv_sub hl [2, 3, 4, 5, 6, 7, 8, 0] rfl)
    · replace h := o_ff c10 h
      refine lv_iload_n hx hb d_Pg_finds_154 rfl (lv_at hl 4 rfl) ?_
      refine lv_aload_n hx hb d_Pg_finds_155 rfl (lv_at hl 1 rfl) ?_
      refine o_get (v := .ref (ad 32)) C in_Pg hP 25 cw_25 rfl 10 (by decide) k_1_130 rfl rfl d_Pg_finds_156 ?_
      refine va_alen (v := (1300:Int32)) hx hb hK hP 32 27 cw_32 rfl rfl d_Pg_finds_159 ?_
      refine lv_icmp_ge (tgt := 176) hx hb d_Pg_finds_160 (by decide) (fun c11 => ?_) (fun c11 => ?_)
      · replace h := o_tt c11 h
        obtain ⟨x7_176, ex7_176⟩ : ∃ y : Int32, y = z.2.1 + (1:Int32) := ⟨_, rfl⟩
        replace h := o_nm_at ex7_176 h
        refine lv_iinc (v := x7_176) (lv' := [(7, .int x7_176), (8, .int x8_141), (0, .ref (ad 25)), (1, .ref (ad 12)), (2, .int u125_x2), (3, .int z.1), (4, .int u125_x4), (5, .int u125_x5), (6, .int u125_x6)]) hx hb d_Pg_finds_176 hl (k := 8) rfl (by rw [ex7_176]; rfl) (by decide) rfl (fun ls hl => ?_)
        refine lv_goto (tgt := 125) hx hb d_Pg_finds_179 (by decide) ?_
        cases h
        exact h0 rfl _ _ _ hP hS (lv_sub hl [2, 3, 4, 5, 6, 7, 8, 0] rfl)
      · replace h := o_ff c11 h
        refine lv_aload_n hx hb d_Pg_finds_163 rfl (lv_at hl 1 rfl) ?_
        refine o_get (v := .ref (ad 32)) C in_Pg hP 25 cw_25 rfl 10 (by decide) k_1_130 rfl rfl d_Pg_finds_164 ?_
        refine lv_iload_n hx hb d_Pg_finds_167 rfl (lv_at hl 4 rfl) ?_
        refine lv_iload hx hb d_Pg_finds_168 (lv_at hl 0 rfl) ?_
        refine lv_iconst (v := (1:Int32)) hx hb d_Pg_finds_170 (by decide) ?_
        refine lv_iadd hx hb d_Pg_finds_171 ?_
        obtain ⟨g12, h⟩ := o_gd_some h
        refine o_iast (f := (Pg_moved z.2.2)) (w1 := (o_cw ad ca u125_rt u125_Sj u125_T0 u125_a1 u125_Rd (Pg_mk (Pg_operations z.2.2) (Pg_arguments z.2.2) (Pg_length z.2.2) (Pg_sets z.2.2) (Pg_setsUsed z.2.2) (Pg_rounds z.2.2) (Pg_stack z.2.2) (Pg_top z.2.2) (Pg_waiting z.2.2) (Pg_waitingCount z.2.2) (upd (Pg_moved z.2.2) z.1.toNatClampNeg (x8_141 + (1:Int32)))) u125_Pt u125_Mk u125_Lk u125_Ck u125_Jd u125_Ld u125_Pr)) C hP (hDD _ _ _ _ _ _ _ _ _ _ _ _ _) hS 32 27 cw_32 rfl g12 rfl d_Pg_finds_172 (fun H locs hP hS => ?_)
        obtain ⟨x3_173, ex3_173⟩ : ∃ y : Int32, y = z.1 + (1:Int32) := ⟨_, rfl⟩
        replace h := o_nm_at ex3_173 h
        refine lv_iinc (v := x3_173) (lv' := [(3, .int x3_173), (8, .int x8_141), (0, .ref (ad 25)), (1, .ref (ad 12)), (2, .int u125_x2), (4, .int u125_x4), (5, .int u125_x5), (6, .int u125_x6), (7, .int z.2.1)]) hx hb d_Pg_finds_173 hl (k := 4) rfl (by rw [ex3_173]; rfl) (by decide) rfl (fun ls hl => ?_)
        obtain ⟨x7_176, ex7_176⟩ : ∃ y : Int32, y = z.2.1 + (1:Int32) := ⟨_, rfl⟩
        replace h := o_nm_at ex7_176 h
        refine lv_iinc (v := x7_176) (lv' := [(7, .int x7_176), (3, .int x3_173), (8, .int x8_141), (0, .ref (ad 25)), (1, .ref (ad 12)), (2, .int u125_x2), (4, .int u125_x4), (5, .int u125_x5), (6, .int u125_x6)]) hx hb d_Pg_finds_176 hl (k := 8) rfl (by rw [ex7_176]; rfl) (by decide) rfl (fun ls hl => ?_)
        refine lv_goto (tgt := 125) hx hb d_Pg_finds_179 (by decide) ?_
        cases h
        exact h0 rfl _ _ _ hP hS (lv_sub hl [3, 4, 5, 1, 6, 7, 8, 0] rfl)
set_option maxHeartbeats 4000000 in
set_option maxRecDepth 100000 in
theorem w_Pg_finds_b42_1 {E : (Nat → Prop) → State → Heap → Prop} {p : Program} {l : Launch} {e : Env} {s : State} {m : MethodId} {args : Array Value} {below : List Frame} {meth : Method} {c : Code} {D : va_G} {ad kd sd vd xd : Nat → Nat} {ca : Nat → ClassId} {A : Nat → Prop} {Q : State → Prop} (hE : o_EK E kd sd vd xd) (C : o_Cx E p s m args meth c D o_cls (o_tys ca) "SchemaJudge$Program" b_Pg_finds (some .boolean) 9 cc_Pg_finds A) (hDD : ∀ (rt : Nat) (Sj : SSJ) (T0 : STx) (T1 : STx) (Rd : SRd) (Pg : SPg) (Pt : SPt) (Mk : SMk) (Lk : SLk) (Ck : SCk) (Jd : SJd) (Ld : SLd) (Pr : SPr), va_D A (o_cw ad ca rt Sj T0 T1 Rd Pg Pt Mk Lk Ck Jd Ld Pr)) (n : Nat) (u42_x2 : Int32) (u42_x4 : Int32) (u42_a1 : STx) (u42_Sj : SSJ) (u42_T0 : STx) (u42_Rd : SRd) (u42_Pt : SPt) (u42_Mk : SMk) (u42_Lk : SLk) (u42_Ck : SCk) (u42_Jd : SJd) (u42_Ld : SLd) (u42_Pr : SPr) (u42_rt : Nat) (z : Int32 × Int32 × SPg) (q : Nat × Int32 × Int32 × SPg) (h : m_Pg_finds_b42 n u42_x2 u42_x4 u42_a1 z = some q) (h0 : q.1 = 0 → o_At p l e rm_Pg_finds s m args below meth c Q o_cls D A 9 42 [] (o_cw ad ca u42_rt u42_Sj u42_T0 u42_a1 u42_Rd q.2.2.2 u42_Pt u42_Mk u42_Lk u42_Ck u42_Jd u42_Ld u42_Pr) [(0, .ref (ad 25)), (1, .ref (ad 12)), (2, .int u42_x2), (3, .int q.2.1), (4, .int u42_x4), (5, .int q.2.2.1)]) (h1 : q.1 ≠ 0 → (if q.1 = 1 then o_At p l e rm_Pg_finds s m args below meth c Q o_cls D A 9 109 [] (o_cw ad ca u42_rt u42_Sj u42_T0 u42_a1 u42_Rd q.2.2.2 u42_Pt u42_Mk u42_Lk u42_Ck u42_Jd u42_Ld u42_Pr) [] else o_At p l e rm_Pg_finds s m args below meth c Q o_cls D A 9 188 [] (o_cw ad ca u42_rt u42_Sj u42_T0 u42_a1 u42_Rd q.2.2.2 u42_Pt u42_Mk u42_Lk u42_Ck u42_Jd u42_Ld u42_Pr) [])) : o_At p l e rm_Pg_finds s m args below meth c Q o_cls D A 9 42 [] (o_cw ad ca u42_rt u42_Sj u42_T0 u42_a1 u42_Rd z.2.2 u42_Pt u42_Mk u42_Lk u42_Ck u42_Jd u42_Ld u42_Pr) [(0, .ref (ad 25)), (1, .ref (ad 12)), (2, .int u42_x2), (3, .int z.1), (4, .int u42_x4), (5, .int z.2.1)] := by
  unfold m_Pg_finds_b42 at h
  intro H locs ls hP hS hl
  have C0 := C
  obtain ⟨hx, hb, -, -, -, hown, hts, hK, -, -⟩ := C0
  refine lv_iload hx hb d_Pg_finds_42 (lv_at hl 5 rfl) ?_
  refine lv_iload hx hb d_Pg_finds_44 (lv_at hl 4 rfl) ?_
  refine lv_icmp_gt (tgt := 188) hx hb d_Pg_finds_46 (by decide) (fun c4 => ?_) (fun c4 => ?_)
  · replace h := o_tt c4 h
    cases h
    exact h1 (Nat.succ_ne_zero 1) _ _ _ hP hS (lv_sub hl [] rfl)
  · replace h := o_ff c4 h
    refine lv_aload_n hx hb d_Pg_finds_49 rfl (lv_at hl 0 rfl) ?_
    refine lv_iconst (v := (0:Int32)) hx hb d_Pg_finds_50 (by decide) ?_
    refine o_put (v := .int (0:Int32)) (ty := .int) (w1 := (o_cw ad ca u42_rt u42_Sj u42_T0 u42_a1 u42_Rd (Pg_mk (Pg_operations z.2.2) (Pg_arguments z.2.2) (Pg_length z.2.2) (Pg_sets z.2.2) (Pg_setsUsed z.2.2) (Pg_rounds z.2.2) (Pg_stack z.2.2) (Pg_top z.2.2) (Pg_waiting z.2.2) (0:Int32) (Pg_moved z.2.2)) u42_Pt u42_Mk u42_Lk u42_Ck u42_Jd u42_Ld u42_Pr)) C in_Pg t_Pg t_Pg_ok n_Pg hP (hDD _ _ _ _ _ _ _ _ _ _ _ _ _) hS 25 cw_25 rfl 9 (by decide) k_1_129 rfl rfl (by decide +kernel) rfl rfl (Nat.le_of_ble_eq_true rfl) rfl d_Pg_finds_51 (fun H locs hP hS => ?_)
    refine lv_aload_n hx hb d_Pg_finds_54 rfl (lv_at hl 0 rfl) ?_
    refine lv_iconst (v := (0:Int32)) hx hb d_Pg_finds_55 (by decide) ?_
    refine o_put (v := .int (0:Int32)) (ty := .int) (w1 := (o_cw ad ca u42_rt u42_Sj u42_T0 u42_a1 u42_Rd (Pg_mk (Pg_operations z.2.2) (Pg_arguments z.2.2) (Pg_length z.2.2) (Pg_sets z.2.2) (Pg_setsUsed z.2.2) (Pg_rounds z.2.2) (Pg_stack z.2.2) (0:Int32) (Pg_waiting z.2.2) (0:Int32) (Pg_moved z.2.2)) u42_Pt u42_Mk u42_Lk u42_Ck u42_Jd u42_Ld u42_Pr)) C in_Pg t_Pg t_Pg_ok n_Pg hP (hDD _ _ _ _ _ _ _ _ _ _ _ _ _) hS 25 cw_25 rfl 7 (by decide) k_1_127 rfl rfl (by decide +kernel) rfl rfl (Nat.le_of_ble_eq_true rfl) rfl d_Pg_finds_56 (fun H locs hP hS => ?_)
    refine lv_aload_n hx hb d_Pg_finds_59 rfl (lv_at hl 0 rfl) ?_
    refine lv_iconst (v := (0:Int32)) hx hb d_Pg_finds_60 (by decide) ?_
    refine lv_iload hx hb d_Pg_finds_61 (lv_at hl 5 rfl) ?_
    refine lv_iconst (v := (1:Int32)) hx hb d_Pg_finds_63 (by decide) ?_
    refine lv_iadd hx hb d_Pg_finds_64 ?_
    obtain ⟨q3, hq3, h⟩ := o_bd_some h
    refine o_V (st1 := []) (w1 := (o_cw ad ca u42_rt u42_Sj u42_T0 u42_a1 u42_Rd q3 u42_Pt u42_Mk u42_Lk u42_Ck u42_Jd u42_Ld u42_Pr)) hE.1 C (c_Pg_push hE l (0:Int32) (z.2.1 + (1:Int32)) (Pg_mk (Pg_operations z.2.2) (Pg_arguments z.2.2) (Pg_length z.2.2) (Pg_sets z.2.2) (Pg_setsUsed z.2.2) (Pg_rounds z.2.2) (Pg_stack z.2.2) (0:Int32) (Pg_waiting z.2.2) (0:Int32) (Pg_moved z.2.2)) u42_Sj u42_T0 u42_a1 u42_Rd u42_Pt u42_Mk u42_Lk u42_Ck u42_Jd u42_Ld u42_Pr u42_rt hq3) hP (hDD _ _ _ _ _ _ _ _ _ _ _ _ _) hS hl.1 rfl cw_25 k_6_90 k_6_92 k_s_63 k_1_4 k_6_93 hv_Pg_push rfl rfl ⟨(Nat.le_of_ble_eq_true rfl), (Nat.le_of_ble_eq_true rfl)⟩ rfl (Nat.le_of_ble_eq_true rfl) ⟨Nat.zero_le _, Nat.zero_le _⟩ rfl d_Pg_finds_65 (fun H locs hP hS => ?_)
    refine lv_iconst (v := (0:Int32)) hx hb d_Pg_finds_68 (by decide) ?_
    refine lv_istore (lv' := [(6, .int (0:Int32)), (0, .ref (ad 25)), (1, .ref (ad 12)), (2, .int u42_x2), (3, .int z.1), (4, .int u42_x4), (5, .int z.2.1)]) hx hb d_Pg_finds_69 hl (by decide) rfl (fun ls hl => ?_)
    obtain ⟨q5, hq5, h⟩ := o_bd_some h
    refine o_sim2 (AH := fun zz => o_At p l e rm_Pg_finds s m args below meth c _ o_cls D A 9 71 [] (o_cw ad ca u42_rt u42_Sj u42_T0 u42_a1 u42_Rd zz.2 u42_Pt u42_Mk u42_Lk u42_Ck u42_Jd u42_Ld u42_Pr) [(0, .ref (ad 25)), (1, .ref (ad 12)), (2, .int u42_x2), (3, .int z.1), (4, .int u42_x4), (5, .int z.2.1), (6, .int zz.1)]) (AX := fun qq => o_At p l e rm_Pg_finds s m args below meth c _ o_cls D A 9 98 [] (o_cw ad ca u42_rt u42_Sj u42_T0 u42_a1 u42_Rd qq.2.2 u42_Pt u42_Mk u42_Lk u42_Ck u42_Jd u42_Ld u42_Pr) [(0, .ref (ad 25)), (1, .ref (ad 12)), (2, .int u42_x2), (4, .int u42_x4), (5, .int z.2.1)]) (fun zz qq h h0 h1 => w_Pg_finds_b71_1 hE C hDD n u42_x2 z.1 u42_x4 z.2.1 u42_a1 u42_Sj u42_T0 u42_Rd u42_Pt u42_Mk u42_Lk u42_Ck u42_Jd u42_Ld u42_Pr u42_rt zz qq h h0 h1) n _ q5 hq5 ?_ _ _ _ hP hS (lv_sub hl [1, 2, 3, 4, 5, 6, 0] rfl)
    intro H locs ls hP hS hl
    refine lv_aload_n hx hb d_Pg_finds_98 rfl (lv_at hl 0 rfl) ?_
    refine lv_iload hx hb d_Pg_finds_99 (lv_at hl 4 rfl) ?_
    refine lv_iload hx hb d_Pg_finds_101 (lv_at hl 3 rfl) ?_
    obtain ⟨q6, hq6, h⟩ := o_bd_some h
    refine o_V (st1 := [.int q6.1]) (w1 := (o_cw ad ca u42_rt u42_Sj u42_T0 u42_a1 u42_Rd q6.2 u42_Pt u42_Mk u42_Lk u42_Ck u42_Jd u42_Ld u42_Pr)) hE.1 C (c_Pg_follow hE l n z.2.1 u42_x4 q5.2.2 u42_Sj u42_T0 u42_a1 u42_Rd u42_Pt u42_Mk u42_Lk u42_Ck u42_Jd u42_Ld u42_Pr u42_rt hq6) hP (hDD _ _ _ _ _ _ _ _ _ _ _ _ _) hS hl.1 rfl cw_25 k_6_94 k_6_96 k_s_64 k_1_4 k_6_97 hv_Pg_follow rfl rfl ⟨(Nat.le_of_ble_eq_true rfl), (Nat.le_of_ble_eq_true rfl)⟩ rfl (Nat.le_of_ble_eq_true rfl) ⟨Nat.zero_le _, Nat.zero_le _⟩ rfl d_Pg_finds_103 (fun H locs hP hS => ?_)
    refine lv_if_eq (tgt := 111) hx hb d_Pg_finds_106 (by decide) (fun c7 => ?_) (fun c7 => ?_)
    · replace h := o_tt c7 h
      refine lv_aload_n hx hb d_Pg_finds_111 rfl (lv_at hl 1 rfl) ?_
      refine lv_iload_n hx hb d_Pg_finds_112 rfl (lv_at hl 2 rfl) ?_
      refine lv_iload hx hb d_Pg_finds_113 (lv_at hl 4 rfl) ?_
      obtain ⟨q7, hq7, h⟩ := o_bd_some h
      refine o_V (st1 := [.int q7]) (w1 := (o_cw ad ca u42_rt u42_Sj u42_T0 u42_a1 u42_Rd q6.2 u42_Pt u42_Mk u42_Lk u42_Ck u42_Jd u42_Ld u42_Pr)) hE.1 C (c_Tx_cell_1 hE l u42_x2 z.2.1 u42_a1 u42_Sj u42_T0 u42_Rd q6.2 u42_Pt u42_Mk u42_Lk u42_Ck u42_Jd u42_Ld u42_Pr u42_rt hq7) hP (hDD _ _ _ _ _ _ _ _ _ _ _ _ _) hS hl.1 rfl cw_12 k_6_98 k_4_117 k_4_118 k_1_2 k_4_119 hv_Tx_cell rfl rfl ⟨(Nat.le_of_ble_eq_true rfl), (Nat.le_of_ble_eq_true rfl)⟩ rfl (Nat.le_of_ble_eq_true rfl) ⟨Nat.zero_le _, Nat.zero_le _⟩ rfl d_Pg_finds_115 (fun H locs hP hS => ?_)
      refine lv_istore (lv' := [(6, .int q7), (0, .ref (ad 25)), (1, .ref (ad 12)), (2, .int u42_x2), (4, .int u42_x4), (5, .int z.2.1)]) hx hb d_Pg_finds_118 hl (by decide) rfl (fun ls hl => ?_)
      refine lv_iconst (v := (0:Int32)) hx hb d_Pg_finds_120 (by decide) ?_
      refine lv_istore_n (lv' := [(3, .int (0:Int32)), (6, .int q7), (0, .ref (ad 25)), (1, .ref (ad 12)), (2, .int u42_x2), (4, .int u42_x4), (5, .int z.2.1)]) hx hb d_Pg_finds_121 rfl hl (by decide) rfl (fun ls hl => ?_)
      refine lv_iconst (v := (0:Int32)) hx hb d_Pg_finds_122 (by decide) ?_
      refine lv_istore (lv' := [(7, .int (0:Int32)), (3, .int (0:Int32)), (6, .int q7), (0, .ref (ad 25)), (1, .ref (ad 12)), (2, .int u42_x2), (4, .int u42_x4), (5, .int z.2.1)]) hx hb d_Pg_finds_123 hl (by decide) rfl (fun ls hl => ?_)
      obtain ⟨q9, hq9, h⟩ := o_bd_some h
      refine o_sim2 (AH := fun zz => o_At p l e rm_Pg_finds s m args below meth c _ o_cls D A 9 125 [] (o_cw ad ca u42_rt u42_Sj u42_T0 u42_a1 u42_Rd zz.2.2 u42_Pt u42_Mk u42_Lk u42_Ck u42_Jd u42_Ld u42_Pr) [(0, .ref (ad 25)), (1, .ref (ad 12)), (2, .int u42_x2), (3, .int zz.1), (4, .int u42_x4), (5, .int z.2.1), (6, .int q7), (7, .int zz.2.1)]) (AX := fun qq => o_At p l e rm_Pg_finds s m args below meth c _ o_cls D A 9 182 [] (o_cw ad ca u42_rt u42_Sj u42_T0 u42_a1 u42_Rd qq.2.2.2 u42_Pt u42_Mk u42_Lk u42_Ck u42_Jd u42_Ld u42_Pr) [(0, .ref (ad 25)), (1, .ref (ad 12)), (2, .int u42_x2), (3, .int qq.2.1), (4, .int u42_x4), (5, .int z.2.1)]) (fun zz qq h h0 h1 => w_Pg_finds_b125_1 hE C hDD n u42_x2 u42_x4 z.2.1 q7 u42_a1 u42_Sj u42_T0 u42_Rd u42_Pt u42_Mk u42_Lk u42_Ck u42_Jd u42_Ld u42_Pr u42_rt zz qq h h0 h1) n _ q9 hq9 ?_ _ _ _ hP hS (lv_sub hl [3, 4, 5, 1, 6, 7, 2, 0] rfl)
      intro H locs ls hP hS hl
      obtain ⟨x5_182, ex5_182⟩ : ∃ y : Int32, y = z.2.1 + (1:Int32) := ⟨_, rfl⟩
      replace h := o_nm_at ex5_182 h
      refine lv_iinc (v := x5_182) (lv' := [(5, .int x5_182), (0, .ref (ad 25)), (1, .ref (ad 12)), (2, .int u42_x2), (3, .int q9.2.1), (4, .int u42_x4)]) hx hb d_Pg_finds_182 hl (k := 5) rfl (by rw [ex5_182]; rfl) (by decide) rfl (fun ls hl => ?_)
      refine lv_goto (tgt := 42) hx hb d_Pg_finds_185 (by decide) ?_
      cases h
      exact h0 rfl _ _ _ hP hS (lv_sub hl [1, 2, 3, 4, 5, 0] rfl)
    · replace h := o_ff c7 h
      cases h
      exact h1 (Nat.succ_ne_zero 0) _ _ _ hP hS (lv_sub hl [] rfl)
set_option maxHeartbeats 4000000 in
set_option maxRecDepth 100000 in
theorem w_Pg_finds_j30_1 {E : (Nat → Prop) → State → Heap → Prop} {p : Program} {l : Launch} {e : Env} {s : State} {m : MethodId} {args : Array Value} {below : List Frame} {meth : Method} {c : Code} {D : va_G} {ad kd sd vd xd : Nat → Nat} {ca : Nat → ClassId} {A : Nat → Prop} (hE : o_EK E kd sd vd xd) (C : o_Cx E p s m args meth c D o_cls (o_tys ca) "SchemaJudge$Program" b_Pg_finds (some .boolean) 9 cc_Pg_finds A) (hDD : ∀ (rt : Nat) (Sj : SSJ) (T0 : STx) (T1 : STx) (Rd : SRd) (Pg : SPg) (Pt : SPt) (Mk : SMk) (Lk : SLk) (Ck : SCk) (Jd : SJd) (Ld : SLd) (Pr : SPr), va_D A (o_cw ad ca rt Sj T0 T1 Rd Pg Pt Mk Lk Ck Jd Ld Pr)) (n : Nat) (x2 : Int32) (a1 : STx) (Pg : SPg) (Sj : SSJ) (T0 : STx) (Rd : SRd) (Pt : SPt) (Mk : SMk) (Lk : SLk) (Ck : SCk) (Jd : SJd) (Ld : SLd) (Pr : SPr) (rt : Nat) {r : Int32 × SPg} (h : m_Pg_finds_j30 n x2 a1 Pg = some r) : o_At p l e rm_Pg_finds s m args below meth c (MQ below (o_Qx D o_cls (some (.int r.1)) (o_cw ad ca rt Sj T0 a1 Rd r.2 Pt Mk Lk Ck Jd Ld Pr) A) args s 0 0 A) o_cls D A 9 30 [] (o_cw ad ca rt Sj T0 a1 Rd Pg Pt Mk Lk Ck Jd Ld Pr) [(0, .ref (ad 25)), (1, .ref (ad 12)), (2, .int x2)] := by
  unfold m_Pg_finds_j30 at h
  intro H locs ls hP hS hl
  have C0 := C
  obtain ⟨hx, hb, -, -, -, hown, hts, hK, -, -⟩ := C0
  refine lv_iconst (v := (0:Int32)) hx hb d_Pg_finds_30 (by decide) ?_
  refine lv_istore_n (lv' := [(3, .int (0:Int32)), (0, .ref (ad 25)), (1, .ref (ad 12)), (2, .int x2)]) hx hb d_Pg_finds_31 rfl hl (by decide) rfl (fun ls hl => ?_)
  refine lv_aload_n hx hb d_Pg_finds_32 rfl (lv_at hl 2 rfl) ?_
  refine lv_iload_n hx hb d_Pg_finds_33 rfl (lv_at hl 3 rfl) ?_
  obtain ⟨q2, hq2, h⟩ := o_bd_some h
  refine o_V (st1 := [.int q2]) (w1 := (o_cw ad ca rt Sj T0 a1 Rd Pg Pt Mk Lk Ck Jd Ld Pr)) hE.1 C (c_Tx_size_1 hE l x2 a1 Sj T0 Rd Pg Pt Mk Lk Ck Jd Ld Pr rt hq2) hP (hDD _ _ _ _ _ _ _ _ _ _ _ _ _) hS hl.1 rfl cw_12 k_6_89 k_3_215 k_3_216 k_1_2 k_3_217 hv_Tx_size rfl rfl ⟨(Nat.le_of_ble_eq_true rfl), (Nat.le_of_ble_eq_true rfl)⟩ rfl (Nat.le_of_ble_eq_true rfl) ⟨Nat.zero_le _, Nat.zero_le _⟩ rfl d_Pg_finds_34 (fun H locs hP hS => ?_)
  refine lv_istore (lv' := [(4, .int q2), (3, .int (0:Int32)), (0, .ref (ad 25)), (1, .ref (ad 12)), (2, .int x2)]) hx hb d_Pg_finds_37 hl (by decide) rfl (fun ls hl => ?_)
  refine lv_iconst (v := (0:Int32)) hx hb d_Pg_finds_39 (by decide) ?_
  refine lv_istore (lv' := [(5, .int (0:Int32)), (4, .int q2), (3, .int (0:Int32)), (0, .ref (ad 25)), (1, .ref (ad 12)), (2, .int x2)]) hx hb d_Pg_finds_40 hl (by decide) rfl (fun ls hl => ?_)
  obtain ⟨q10, hq10, h⟩ := o_bd_some h
  refine o_sim2 (AH := fun zz => o_At p l e rm_Pg_finds s m args below meth c _ o_cls D A 9 42 [] (o_cw ad ca rt Sj T0 a1 Rd zz.2.2 Pt Mk Lk Ck Jd Ld Pr) [(0, .ref (ad 25)), (1, .ref (ad 12)), (2, .int x2), (3, .int zz.1), (4, .int q2), (5, .int zz.2.1)]) (AX := fun qq => if qq.1 = 1 then o_At p l e rm_Pg_finds s m args below meth c _ o_cls D A 9 109 [] (o_cw ad ca rt Sj T0 a1 Rd qq.2.2.2 Pt Mk Lk Ck Jd Ld Pr) [] else o_At p l e rm_Pg_finds s m args below meth c _ o_cls D A 9 188 [] (o_cw ad ca rt Sj T0 a1 Rd qq.2.2.2 Pt Mk Lk Ck Jd Ld Pr) []) (fun zz qq h h0 h1 => w_Pg_finds_b42_1 hE C hDD n x2 q2 a1 Sj T0 Rd Pt Mk Lk Ck Jd Ld Pr rt zz qq h h0 h1) n _ q10 hq10 ?_ _ _ _ hP hS (lv_sub hl [3, 4, 5, 2, 1, 0] rfl)
  by_cases c13 : q10.1 = 1
  · replace h := o_tt c13 h
    refine o_ip c13 ?_
    intro H locs ls hP hS hl
    refine lv_iconst (v := (1:Int32)) hx hb d_Pg_finds_109 (by decide) ?_
    cases h
    exact o_rz (v := (1:Int32)) C o_nar1 hP hS d_Pg_finds_110
  replace h := o_ff c13 h
  refine o_in_ c13 ?_
  intro H locs ls hP hS hl
  refine lv_iconst (v := (0:Int32)) hx hb d_Pg_finds_188 (by decide) ?_
  cases h
  exact o_rz (v := (0:Int32)) C o_nar0 hP hS d_Pg_finds_189
set_option maxHeartbeats 4000000 in
set_option maxRecDepth 100000 in
theorem c_Pg_finds_1 {E : (Nat → Prop) → State → Heap → Prop} {D : va_G} {ad kd sd vd xd : Nat → Nat} {ca : Nat → ClassId} (hE : o_EK E kd sd vd xd) (l : Launch) (n : Nat) (x2 : Int32) (a1 : STx) (Pg : SPg) (Sj : SSJ) (T0 : STx) (Rd : SRd) (Pt : SPt) (Mk : SMk) (Lk : SLk) (Ck : SCk) (Jd : SJd) (Ld : SLd) (Pr : SPr) (rt : Nat) {r : Int32 × SPg} (h : m_Pg_finds n x2 a1 Pg = some r) : o_Cn E l D o_cls (o_tys ca) y_Pg_finds cc_Pg_finds rm_Pg_finds [.ref (ad 25), .ref (ad 12), .int x2] (o_cw ad ca rt Sj T0 a1 Rd Pg Pt Mk Lk Ck Jd Ld Pr) (o_cw ad ca rt Sj T0 a1 Rd r.2 Pt Mk Lk Ck Jd Ld Pr) (some (.int r.1)) := by
  refine o_Cn_of (by decide) (Nat.le_of_ble_eq_true rfl) ?_
  intro p e s m below meth c A ls C hD hP hS hl
  have hDD : ∀ (rt : Nat) (Sj : SSJ) (T0 : STx) (T1 : STx) (Rd : SRd) (Pg : SPg) (Pt : SPt) (Mk : SMk) (Lk : SLk) (Ck : SCk) (Jd : SJd) (Ld : SLd) (Pr : SPr), va_D A (o_cw ad ca rt Sj T0 T1 Rd Pg Pt Mk Lk Ck Jd Ld Pr) := fun _ _ _ _ _ _ _ _ _ _ _ _ _ => o_D_map hD rfl
  have hl : lv_has ls 9 [(0, .ref (ad 25)), (1, .ref (ad 12)), (2, .int x2)] := hl
  unfold m_Pg_finds at h
  have C0 := C
  obtain ⟨hx, hb, -, -, -, hown, hts, hK, -, -⟩ := C0
  refine lv_iconst (v := (0:Int32)) hx hb d_Pg_finds_0 (by decide) ?_
  refine lv_istore_n (lv' := [(3, .int (0:Int32)), (0, .ref (ad 25)), (1, .ref (ad 12)), (2, .int x2)]) hx hb d_Pg_finds_1 rfl hl (by decide) rfl (fun ls hl => ?_)
  obtain ⟨q1, hq1, h⟩ := o_bd_some h
  refine o_sim2 (AH := fun zz => o_At p l e rm_Pg_finds s m _ below meth c _ o_cls D A 9 2 [] (o_cw ad ca rt Sj T0 a1 Rd zz.2 Pt Mk Lk Ck Jd Ld Pr) [(0, .ref (ad 25)), (1, .ref (ad 12)), (2, .int x2), (3, .int zz.1)]) (AX := fun qq => o_At p l e rm_Pg_finds s m _ below meth c _ o_cls D A 9 30 [] (o_cw ad ca rt Sj T0 a1 Rd qq.2.2 Pt Mk Lk Ck Jd Ld Pr) [(0, .ref (ad 25)), (1, .ref (ad 12)), (2, .int x2)]) (fun zz qq h h0 h1 => w_Pg_finds_b2_1 hE C hDD n x2 a1 Sj T0 Rd Pt Mk Lk Ck Jd Ld Pr rt zz qq h h0 h1) n _ q1 hq1 ?_ _ _ _ hP hS (lv_sub hl [1, 2, 3, 0] rfl)
  intro H locs ls hP hS hl
  exact w_Pg_finds_j30_1 hE C hDD n x2 a1 q1.2.2 Sj T0 Rd Pt Mk Lk Ck Jd Ld Pr rt h _ _ _ hP hS (lv_sub hl [0, 1, 2] rfl)
set_option maxHeartbeats 4000000 in
set_option maxRecDepth 100000 in
theorem w_Tx_nextChild_j22_1 {E : (Nat → Prop) → State → Heap → Prop} {p : Program} {l : Launch} {e : Env} {s : State} {m : MethodId} {args : Array Value} {below : List Frame} {meth : Method} {c : Code} {D : va_G} {ad kd sd vd xd : Nat → Nat} {ca : Nat → ClassId} {A : Nat → Prop} (hE : o_EK E kd sd vd xd) (C : o_Cx E p s m args meth c D o_cls (o_tys ca) "SchemaJudge$Text" b_Tx_nextChild (some .int) 3 cc_Tx_nextChild A) (hDD : ∀ (rt : Nat) (Sj : SSJ) (T0 : STx) (T1 : STx) (Rd : SRd) (Pg : SPg) (Pt : SPt) (Mk : SMk) (Lk : SLk) (Ck : SCk) (Jd : SJd) (Ld : SLd) (Pr : SPr), va_D A (o_cw ad ca rt Sj T0 T1 Rd Pg Pt Mk Lk Ck Jd Ld Pr)) (x1 : Int32) (y0 : Int32) (a0 : STx) (Sj : SSJ) (T0 : STx) (Rd : SRd) (Pg : SPg) (Pt : SPt) (Mk : SMk) (Lk : SLk) (Ck : SCk) (Jd : SJd) (Ld : SLd) (Pr : SPr) (rt : Nat) {r : Int32} (h : m_Tx_nextChild_j22 x1 y0 a0 = some r) : o_At p l e rm_Tx_nextChild s m args below meth c (MQ below (o_Qx D o_cls (some (.int r)) (o_cw ad ca rt Sj T0 a0 Rd Pg Pt Mk Lk Ck Jd Ld Pr) A) args s 0 0 A) o_cls D A 3 22 [.int y0] (o_cw ad ca rt Sj T0 a0 Rd Pg Pt Mk Lk Ck Jd Ld Pr) [(0, .ref (ad 12)), (1, .int x1)] := by
  unfold m_Tx_nextChild_j22 at h
  intro H locs ls hP hS hl
  have C0 := C
  obtain ⟨hx, hb, -, -, -, hown, hts, hK, -, -⟩ := C0
  refine lv_istore_n (lv' := [(2, .int y0), (0, .ref (ad 12)), (1, .int x1)]) hx hb d_Tx_nextChild_22 rfl hl (by decide) rfl (fun ls hl => ?_)
  refine lv_iload_n hx hb d_Tx_nextChild_23 rfl (lv_at hl 0 rfl) ?_
  refine lv_if_lt (tgt := 52) hx hb d_Tx_nextChild_24 (by decide) (fun c2 => ?_) (fun c2 => ?_)
  · replace h := o_tt c2 h
    refine lv_iconst (v := (-1:Int32)) hx hb d_Tx_nextChild_52 (by decide) ?_
    cases h
    exact o_ri (v := (-1:Int32)) C hP hS d_Tx_nextChild_53
  · replace h := o_ff c2 h
    refine lv_iload_n hx hb d_Tx_nextChild_27 rfl (lv_at hl 0 rfl) ?_
    refine lv_aload_n hx hb d_Tx_nextChild_28 rfl (lv_at hl 1 rfl) ?_
    refine o_get (v := .int (Tx_total a0)) C in_Tx hP 12 cw_12 rfl 10 (by decide) k_1_56 rfl rfl d_Tx_nextChild_29 ?_
    refine lv_icmp_ge (tgt := 52) hx hb d_Tx_nextChild_32 (by decide) (fun c3 => ?_) (fun c3 => ?_)
    · replace h := o_tt c3 h
      refine lv_iconst (v := (-1:Int32)) hx hb d_Tx_nextChild_52 (by decide) ?_
      cases h
      exact o_ri (v := (-1:Int32)) C hP hS d_Tx_nextChild_53
    · replace h := o_ff c3 h
      refine lv_aload_n hx hb d_Tx_nextChild_35 rfl (lv_at hl 1 rfl) ?_
      refine o_get (v := .ref (ad 20)) C in_Tx hP 12 cw_12 rfl 7 (by decide) k_1_53 rfl rfl d_Tx_nextChild_36 ?_
      refine lv_iload_n hx hb d_Tx_nextChild_39 rfl (lv_at hl 2 rfl) ?_
      obtain ⟨g4, h⟩ := o_gd_some h
      refine o_iald (f := (Tx_slots a0)) C hP 20 17 cw_20 rfl g4 d_Tx_nextChild_40 ?_
      refine lv_iconst (v := (1:Int32)) hx hb d_Tx_nextChild_41 (by decide) ?_
      refine lv_iadd hx hb d_Tx_nextChild_42 ?_
      refine lv_aload_n hx hb d_Tx_nextChild_43 rfl (lv_at hl 1 rfl) ?_
      refine o_get (v := .ref (ad 15)) C in_Tx hP 12 cw_12 rfl 2 (by decide) k_1_48 rfl rfl d_Tx_nextChild_44 ?_
      refine lv_iload_n hx hb d_Tx_nextChild_47 rfl (lv_at hl 0 rfl) ?_
      obtain ⟨g5, h⟩ := o_gd_some h
      refine o_iald (f := (Tx_sizes a0)) C hP 15 12 cw_15 rfl g5 d_Tx_nextChild_48 ?_
      refine lv_icmp_lt (tgt := 54) hx hb d_Tx_nextChild_49 (by decide) (fun c6 => ?_) (fun c6 => ?_)
      · replace h := o_tt c6 h
        refine lv_aload_n hx hb d_Tx_nextChild_54 rfl (lv_at hl 1 rfl) ?_
        refine o_get (v := .ref (ad 13)) C in_Tx hP 12 cw_12 rfl 0 (by decide) k_1_46 rfl rfl d_Tx_nextChild_55 ?_
        refine lv_iload_n hx hb d_Tx_nextChild_58 rfl (lv_at hl 0 rfl) ?_
        obtain ⟨g7, h⟩ := o_gd_some h
        refine o_iald (f := (Tx_kinds a0)) C hP 13 10 cw_13 rfl g7 d_Tx_nextChild_59 ?_
        refine lv_iconst (v := (5:Int32)) hx hb d_Tx_nextChild_60 (by decide) ?_
        refine lv_icmp_ne (tgt := 73) hx hb d_Tx_nextChild_61 (by decide) (fun c8 => ?_) (fun c8 => ?_)
        · replace h := o_ff c8 h
          refine lv_aload_n hx hb d_Tx_nextChild_73 rfl (lv_at hl 1 rfl) ?_
          refine o_get (v := .ref (ad 19)) C in_Tx hP 12 cw_12 rfl 6 (by decide) k_1_52 rfl rfl d_Tx_nextChild_74 ?_
          refine lv_iload_n hx hb d_Tx_nextChild_77 rfl (lv_at hl 2 rfl) ?_
          obtain ⟨g9, h⟩ := o_gd_some h
          refine o_iald (f := (Tx_afters a0)) C hP 19 16 cw_19 rfl g9 d_Tx_nextChild_78 ?_
          refine lv_iconst (v := (1:Int32)) hx hb d_Tx_nextChild_79 (by decide) ?_
          refine lv_iadd hx hb d_Tx_nextChild_80 ?_
          cases h
          exact o_ri (v := (((Tx_afters a0) x1.toNatClampNeg) + (1:Int32))) C hP hS d_Tx_nextChild_81
        · replace h := o_tt c8 h
          refine lv_aload_n hx hb d_Tx_nextChild_64 rfl (lv_at hl 1 rfl) ?_
          refine o_get (v := .ref (ad 19)) C in_Tx hP 12 cw_12 rfl 6 (by decide) k_1_52 rfl rfl d_Tx_nextChild_65 ?_
          refine lv_iload_n hx hb d_Tx_nextChild_68 rfl (lv_at hl 2 rfl) ?_
          obtain ⟨g10, h⟩ := o_gd_some h
          refine o_iald (f := (Tx_afters a0)) C hP 19 16 cw_19 rfl g10 d_Tx_nextChild_69 ?_
          refine lv_goto (tgt := 81) hx hb d_Tx_nextChild_70 (by decide) ?_
          cases h
          exact o_ri (v := ((Tx_afters a0) x1.toNatClampNeg)) C hP hS d_Tx_nextChild_81
      · replace h := o_ff c6 h
        refine lv_iconst (v := (-1:Int32)) hx hb d_Tx_nextChild_52 (by decide) ?_
        cases h
        exact o_ri (v := (-1:Int32)) C hP hS d_Tx_nextChild_53
set_option maxHeartbeats 4000000 in
set_option maxRecDepth 100000 in
theorem c_Tx_nextChild_1 {E : (Nat → Prop) → State → Heap → Prop} {D : va_G} {ad kd sd vd xd : Nat → Nat} {ca : Nat → ClassId} (hE : o_EK E kd sd vd xd) (l : Launch) (x1 : Int32) (a0 : STx) (Sj : SSJ) (T0 : STx) (Rd : SRd) (Pg : SPg) (Pt : SPt) (Mk : SMk) (Lk : SLk) (Ck : SCk) (Jd : SJd) (Ld : SLd) (Pr : SPr) (rt : Nat) {r : Int32} (h : m_Tx_nextChild x1 a0 = some r) : o_Cn E l D o_cls (o_tys ca) y_Tx_nextChild cc_Tx_nextChild rm_Tx_nextChild [.ref (ad 12), .int x1] (o_cw ad ca rt Sj T0 a0 Rd Pg Pt Mk Lk Ck Jd Ld Pr) (o_cw ad ca rt Sj T0 a0 Rd Pg Pt Mk Lk Ck Jd Ld Pr) (some (.int r)) := by
  refine o_Cn_of (by decide) (Nat.le_of_ble_eq_true rfl) ?_
  intro p e s m below meth c A ls C hD hP hS hl
  have hDD : ∀ (rt : Nat) (Sj : SSJ) (T0 : STx) (T1 : STx) (Rd : SRd) (Pg : SPg) (Pt : SPt) (Mk : SMk) (Lk : SLk) (Ck : SCk) (Jd : SJd) (Ld : SLd) (Pr : SPr), va_D A (o_cw ad ca rt Sj T0 T1 Rd Pg Pt Mk Lk Ck Jd Ld Pr) := fun _ _ _ _ _ _ _ _ _ _ _ _ _ => o_D_map hD rfl
  have hl : lv_has ls 3 [(0, .ref (ad 12)), (1, .int x1)] := hl
  unfold m_Tx_nextChild at h
  have C0 := C
  obtain ⟨hx, hb, -, -, -, hown, hts, hK, -, -⟩ := C0
  refine lv_iload_n hx hb d_Tx_nextChild_0 rfl (lv_at hl 1 rfl) ?_
  refine lv_if_lt (tgt := 21) hx hb d_Tx_nextChild_1 (by decide) (fun c1 => ?_) (fun c1 => ?_)
  · replace h := o_tt c1 h
    refine lv_iconst (v := (-1:Int32)) hx hb d_Tx_nextChild_21 (by decide) ?_
    exact w_Tx_nextChild_j22_1 hE C hDD x1 (-1:Int32) a0 Sj T0 Rd Pg Pt Mk Lk Ck Jd Ld Pr rt h _ _ _ hP hS (lv_sub hl [0, 1] rfl)
  · replace h := o_ff c1 h
    refine lv_iload_n hx hb d_Tx_nextChild_4 rfl (lv_at hl 1 rfl) ?_
    refine lv_aload_n hx hb d_Tx_nextChild_5 rfl (lv_at hl 0 rfl) ?_
    refine o_get (v := .int (Tx_total a0)) C in_Tx hP 12 cw_12 rfl 10 (by decide) k_1_56 rfl rfl d_Tx_nextChild_6 ?_
    refine lv_icmp_ge (tgt := 21) hx hb d_Tx_nextChild_9 (by decide) (fun c11 => ?_) (fun c11 => ?_)
    · replace h := o_tt c11 h
      refine lv_iconst (v := (-1:Int32)) hx hb d_Tx_nextChild_21 (by decide) ?_
      exact w_Tx_nextChild_j22_1 hE C hDD x1 (-1:Int32) a0 Sj T0 Rd Pg Pt Mk Lk Ck Jd Ld Pr rt h _ _ _ hP hS (lv_sub hl [0, 1] rfl)
    · replace h := o_ff c11 h
      refine lv_aload_n hx hb d_Tx_nextChild_12 rfl (lv_at hl 0 rfl) ?_
      refine o_get (v := .ref (ad 16)) C in_Tx hP 12 cw_12 rfl 3 (by decide) k_1_49 rfl rfl d_Tx_nextChild_13 ?_
      refine lv_iload_n hx hb d_Tx_nextChild_16 rfl (lv_at hl 1 rfl) ?_
      obtain ⟨g12, h⟩ := o_gd_some h
      refine o_iald (f := (Tx_parents a0)) C hP 16 13 cw_16 rfl g12 d_Tx_nextChild_17 ?_
      refine lv_goto (tgt := 22) hx hb d_Tx_nextChild_18 (by decide) ?_
      exact w_Tx_nextChild_j22_1 hE C hDD x1 ((Tx_parents a0) x1.toNatClampNeg) a0 Sj T0 Rd Pg Pt Mk Lk Ck Jd Ld Pr rt h _ _ _ hP hS (lv_sub hl [0, 1] rfl)
set_option maxHeartbeats 4000000 in
set_option maxRecDepth 100000 in
theorem w_Jd_matching_j80 {E : (Nat → Prop) → State → Heap → Prop} {p : Program} {l : Launch} {e : Env} {s : State} {m : MethodId} {args : Array Value} {below : List Frame} {meth : Method} {c : Code} {D : va_G} {ad kd sd vd xd : Nat → Nat} {ca : Nat → ClassId} {A : Nat → Prop} {Q : State → Prop} (hE : o_EK E kd sd vd xd) (C : o_Cx E p s m args meth c D o_cls (o_tys ca) "SchemaJudge$Judge" b_Jd_matching (some .long) 7 cc_Jd_matching A) (hDD : ∀ (rt : Nat) (Sj : SSJ) (T0 : STx) (T1 : STx) (Rd : SRd) (Pg : SPg) (Pt : SPt) (Mk : SMk) (Lk : SLk) (Ck : SCk) (Jd : SJd) (Ld : SLd) (Pr : SPr), va_D A (o_cw ad ca rt Sj T0 T1 Rd Pg Pt Mk Lk Ck Jd Ld Pr)) (n : Nat) (u42_x2 : Int32) (u42_T0 : STx) (u42_T1 : STx) (u42_Pt : SPt) (u42_Sj : SSJ) (u42_Rd : SRd) (u42_Mk : SMk) (u42_Lk : SLk) (u42_Ck : SCk) (u42_Jd : SJd) (u42_Ld : SLd) (u42_Pr : SPr) (u42_rt : Nat) (x3 : Int64) (x5 : Int32) (x6 : Int32) (Pg : SPg) {q : Nat × Int64 × Int32 × Int32 × SPg} (h : m_Jd_matching_j80 n u42_x2 x3 x5 x6 u42_T0 u42_T1 Pg u42_Pt = some q) (h0 : q.1 = 0 → o_At p l e rm_Jd_matching s m args below meth c Q o_cls D A 7 42 [] (o_cw ad ca u42_rt u42_Sj u42_T0 u42_T1 u42_Rd q.2.2.2.2 u42_Pt u42_Mk u42_Lk u42_Ck u42_Jd u42_Ld u42_Pr) [(0, .ref (ad 49)), (2, .int u42_x2), (3, .long q.2.1), (5, .int q.2.2.1), (6, .int q.2.2.2.1)]) (h1 : q.1 ≠ 0 → (o_At p l e rm_Jd_matching s m args below meth c Q o_cls D A 7 97 [] (o_cw ad ca u42_rt u42_Sj u42_T0 u42_T1 u42_Rd q.2.2.2.2 u42_Pt u42_Mk u42_Lk u42_Ck u42_Jd u42_Ld u42_Pr) [(3, .long q.2.1)])) : o_At p l e rm_Jd_matching s m args below meth c Q o_cls D A 7 80 [] (o_cw ad ca u42_rt u42_Sj u42_T0 u42_T1 u42_Rd Pg u42_Pt u42_Mk u42_Lk u42_Ck u42_Jd u42_Ld u42_Pr) [(0, .ref (ad 49)), (2, .int u42_x2), (3, .long x3), (5, .int x5), (6, .int x6)] := by
  unfold m_Jd_matching_j80 at h
  intro H locs ls hP hS hl
  have C0 := C
  obtain ⟨hx, hb, -, -, -, hown, hts, hK, -, -⟩ := C0
  refine lv_aload_n hx hb d_Jd_matching_80 rfl (lv_at hl 0 rfl) ?_
  refine o_get (v := .ref (ad 12)) C in_Jd hP 49 cw_49 rfl 2 (by decide) k_2_76 rfl rfl d_Jd_matching_81 ?_
  refine lv_iload hx hb d_Jd_matching_84 (lv_at hl 3 rfl) ?_
  obtain ⟨q6, hq6, h⟩ := o_bd_some h
  refine o_V (st1 := [.int q6]) (w1 := (o_cw ad ca u42_rt u42_Sj u42_T0 u42_T1 u42_Rd Pg u42_Pt u42_Mk u42_Lk u42_Ck u42_Jd u42_Ld u42_Pr)) hE.1 C (c_Tx_nextChild_1 hE l x5 u42_T1 u42_Sj u42_T0 u42_Rd Pg u42_Pt u42_Mk u42_Lk u42_Ck u42_Jd u42_Ld u42_Pr u42_rt hq6) hP (hDD _ _ _ _ _ _ _ _ _ _ _ _ _) hS hl.1 rfl cw_12 k_6_28 k_3_222 k_3_223 k_1_2 k_3_224 hv_Tx_nextChild rfl rfl ⟨(Nat.le_of_ble_eq_true rfl), (Nat.le_of_ble_eq_true rfl)⟩ rfl (Nat.le_of_ble_eq_true rfl) ⟨Nat.zero_le _, Nat.zero_le _⟩ rfl d_Jd_matching_86 (fun H locs hP hS => ?_)
  refine lv_istore (lv' := [(5, .int q6), (0, .ref (ad 49)), (2, .int u42_x2), (3, .long x3), (6, .int x6)]) hx hb d_Jd_matching_89 hl (by decide) rfl (fun ls hl => ?_)
  obtain ⟨x6_91, ex6_91⟩ : ∃ y : Int32, y = x6 + (1:Int32) := ⟨_, rfl⟩
  replace h := o_nm_at ex6_91 h
  refine lv_iinc (v := x6_91) (lv' := [(6, .int x6_91), (5, .int q6), (0, .ref (ad 49)), (2, .int u42_x2), (3, .long x3)]) hx hb d_Jd_matching_91 hl (k := 4) rfl (by rw [ex6_91]; rfl) (by decide) rfl (fun ls hl => ?_)
  refine lv_goto (tgt := 42) hx hb d_Jd_matching_94 (by decide) ?_
  cases h
  exact h0 rfl _ _ _ hP hS (lv_sub hl [2, 3, 4, 1, 0] rfl)
set_option maxHeartbeats 4000000 in
set_option maxRecDepth 100000 in
theorem w_Jd_matching_b42 {E : (Nat → Prop) → State → Heap → Prop} {p : Program} {l : Launch} {e : Env} {s : State} {m : MethodId} {args : Array Value} {below : List Frame} {meth : Method} {c : Code} {D : va_G} {ad kd sd vd xd : Nat → Nat} {ca : Nat → ClassId} {A : Nat → Prop} {Q : State → Prop} (hE : o_EK E kd sd vd xd) (C : o_Cx E p s m args meth c D o_cls (o_tys ca) "SchemaJudge$Judge" b_Jd_matching (some .long) 7 cc_Jd_matching A) (hDD : ∀ (rt : Nat) (Sj : SSJ) (T0 : STx) (T1 : STx) (Rd : SRd) (Pg : SPg) (Pt : SPt) (Mk : SMk) (Lk : SLk) (Ck : SCk) (Jd : SJd) (Ld : SLd) (Pr : SPr), va_D A (o_cw ad ca rt Sj T0 T1 Rd Pg Pt Mk Lk Ck Jd Ld Pr)) (n : Nat) (u42_x2 : Int32) (u42_T0 : STx) (u42_T1 : STx) (u42_Pt : SPt) (u42_Sj : SSJ) (u42_Rd : SRd) (u42_Mk : SMk) (u42_Lk : SLk) (u42_Ck : SCk) (u42_Jd : SJd) (u42_Ld : SLd) (u42_Pr : SPr) (u42_rt : Nat) (z : Int64 × Int32 × Int32 × SPg) (q : Nat × Int64 × Int32 × Int32 × SPg) (h : m_Jd_matching_b42 n u42_x2 u42_T0 u42_T1 u42_Pt z = some q) (h0 : q.1 = 0 → o_At p l e rm_Jd_matching s m args below meth c Q o_cls D A 7 42 [] (o_cw ad ca u42_rt u42_Sj u42_T0 u42_T1 u42_Rd q.2.2.2.2 u42_Pt u42_Mk u42_Lk u42_Ck u42_Jd u42_Ld u42_Pr) [(0, .ref (ad 49)), (2, .int u42_x2), (3, .long q.2.1), (5, .int q.2.2.1), (6, .int q.2.2.2.1)]) (h1 : q.1 ≠ 0 → (o_At p l e rm_Jd_matching s m args below meth c Q o_cls D A 7 97 [] (o_cw ad ca u42_rt u42_Sj u42_T0 u42_T1 u42_Rd q.2.2.2.2 u42_Pt u42_Mk u42_Lk u42_Ck u42_Jd u42_Ld u42_Pr) [(3, .long q.2.1)])) : o_At p l e rm_Jd_matching s m args below meth c Q o_cls D A 7 42 [] (o_cw ad ca u42_rt u42_Sj u42_T0 u42_T1 u42_Rd z.2.2.2 u42_Pt u42_Mk u42_Lk u42_Ck u42_Jd u42_Ld u42_Pr) [(0, .ref (ad 49)), (2, .int u42_x2), (3, .long z.1), (5, .int z.2.1), (6, .int z.2.2.1)] := by
  unfold m_Jd_matching_b42 at h
  intro H locs ls hP hS hl
  have C0 := C
  obtain ⟨hx, hb, -, -, -, hown, hts, hK, -, -⟩ := C0
  refine lv_iload hx hb d_Jd_matching_42 (lv_at hl 4 rfl) ?_
  refine lv_aload_n hx hb d_Jd_matching_44 rfl (lv_at hl 0 rfl) ?_
  refine o_get (v := .ref (ad 12)) C in_Jd hP 49 cw_49 rfl 2 (by decide) k_2_76 rfl rfl d_Jd_matching_45 ?_
  refine lv_iload_n hx hb d_Jd_matching_48 rfl (lv_at hl 1 rfl) ?_
  obtain ⟨q4, hq4, h⟩ := o_bd_some h
  refine o_V (st1 := [.int q4, .int z.2.2.1]) (w1 := (o_cw ad ca u42_rt u42_Sj u42_T0 u42_T1 u42_Rd z.2.2.2 u42_Pt u42_Mk u42_Lk u42_Ck u42_Jd u42_Ld u42_Pr)) hE.1 C (c_Tx_size_1 hE l u42_x2 u42_T1 u42_Sj u42_T0 u42_Rd z.2.2.2 u42_Pt u42_Mk u42_Lk u42_Ck u42_Jd u42_Ld u42_Pr u42_rt hq4) hP (hDD _ _ _ _ _ _ _ _ _ _ _ _ _) hS hl.1 rfl cw_12 k_6_26 k_3_215 k_3_216 k_1_2 k_3_217 hv_Tx_size rfl rfl ⟨(Nat.le_of_ble_eq_true rfl), (Nat.le_of_ble_eq_true rfl)⟩ rfl (Nat.le_of_ble_eq_true rfl) ⟨Nat.zero_le _, Nat.zero_le _⟩ rfl d_Jd_matching_49 (fun H locs hP hS => ?_)
  refine lv_icmp_ge (tgt := 97) hx hb d_Jd_matching_52 (by decide) (fun c3 => ?_) (fun c3 => ?_)
  · replace h := o_tt c3 h
    cases h
    exact h1 (Nat.succ_ne_zero 0) _ _ _ hP hS (lv_sub hl [2] rfl)
  · replace h := o_ff c3 h
    refine lv_aload_n hx hb d_Jd_matching_55 rfl (lv_at hl 0 rfl) ?_
    refine o_get (v := .ref (ad 25)) C in_Jd hP 49 cw_49 rfl 4 (by decide) k_2_78 rfl rfl d_Jd_matching_56 ?_
    refine lv_aload_n hx hb d_Jd_matching_59 rfl (lv_at hl 0 rfl) ?_
    refine o_get (v := .ref (ad 12)) C in_Jd hP 49 cw_49 rfl 2 (by decide) k_2_76 rfl rfl d_Jd_matching_60 ?_
    refine lv_iload hx hb d_Jd_matching_63 (lv_at hl 3 rfl) ?_
    refine lv_iconst (v := (1:Int32)) hx hb d_Jd_matching_65 (by decide) ?_
    refine lv_isub hx hb d_Jd_matching_66 ?_
    obtain ⟨q5, hq5, h⟩ := o_bd_some h
    refine o_V (st1 := [.int q5.1]) (w1 := (o_cw ad ca u42_rt u42_Sj u42_T0 u42_T1 u42_Rd q5.2 u42_Pt u42_Mk u42_Lk u42_Ck u42_Jd u42_Ld u42_Pr)) hE.1 C (c_Pg_finds_1 hE l n (z.2.1 - (1:Int32)) u42_T1 z.2.2.2 u42_Sj u42_T0 u42_Rd u42_Pt u42_Mk u42_Lk u42_Ck u42_Jd u42_Ld u42_Pr u42_rt hq5) hP (hDD _ _ _ _ _ _ _ _ _ _ _ _ _) hS hl.1 rfl cw_25 k_6_85 k_6_86 k_6_87 k_1_4 k_6_88 hv_Pg_finds rfl rfl ⟨(Nat.le_of_ble_eq_true rfl), (Nat.le_of_ble_eq_true rfl)⟩ rfl (Nat.le_of_ble_eq_true rfl) ⟨Nat.zero_le _, Nat.zero_le _⟩ rfl d_Jd_matching_67 (fun H locs hP hS => ?_)
    refine lv_if_eq (tgt := 80) hx hb d_Jd_matching_70 (by decide) (fun c4 => ?_) (fun c4 => ?_)
    · replace h := o_tt c4 h
      exact w_Jd_matching_j80 hE C hDD n u42_x2 u42_T0 u42_T1 u42_Pt u42_Sj u42_Rd u42_Mk u42_Lk u42_Ck u42_Jd u42_Ld u42_Pr u42_rt z.1 z.2.1 z.2.2.1 q5.2 h h0 h1 _ _ _ hP hS (lv_sub hl [0, 1, 2, 3, 4] rfl)
    · replace h := o_ff c4 h
      refine lv_lload_n hx hb d_Jd_matching_73 rfl (lv_at hl 2 rfl) ?_
      refine lv_lconst (v := (1:Int64)) hx hb d_Jd_matching_74 (by decide) ?_
      refine lv_iload hx hb d_Jd_matching_75 (lv_at hl 4 rfl) ?_
      refine lv_lshl hx hb d_Jd_matching_77 rfl ?_
      refine lv_lor hx hb d_Jd_matching_78 ?_
      refine lv_topl (fun x3_79 ex3_79 => ?_)
      replace h := o_nm_at ex3_79 h
      refine lv_lstore_n (lv' := [(3, .long x3_79), (0, .ref (ad 49)), (2, .int u42_x2), (5, .int z.2.1), (6, .int z.2.2.1)]) hx hb d_Jd_matching_79 rfl hl (by decide) rfl (fun ls hl => ?_)
      exact w_Jd_matching_j80 hE C hDD n u42_x2 u42_T0 u42_T1 u42_Pt u42_Sj u42_Rd u42_Mk u42_Lk u42_Ck u42_Jd u42_Ld u42_Pr u42_rt x3_79 z.2.1 z.2.2.1 q5.2 h h0 h1 _ _ _ hP hS (lv_sub hl [1, 2, 0, 3, 4] rfl)
set_option maxHeartbeats 4000000 in
set_option maxRecDepth 100000 in
theorem c_Jd_matching {E : (Nat → Prop) → State → Heap → Prop} {D : va_G} {ad kd sd vd xd : Nat → Nat} {ca : Nat → ClassId} (hE : o_EK E kd sd vd xd) (l : Launch) (n : Nat) (x1 : Int32) (x2 : Int32) (T0 : STx) (T1 : STx) (Pg : SPg) (Pt : SPt) (Sj : SSJ) (Rd : SRd) (Mk : SMk) (Lk : SLk) (Ck : SCk) (Jd : SJd) (Ld : SLd) (Pr : SPr) (rt : Nat) {r : Int64 × SPg × SPt} (h : m_Jd_matching n x1 x2 T0 T1 Pg Pt = some r) : o_Cn E l D o_cls (o_tys ca) y_Jd_matching cc_Jd_matching rm_Jd_matching [.ref (ad 49), .int x1, .int x2] (o_cw ad ca rt Sj T0 T1 Rd Pg Pt Mk Lk Ck Jd Ld Pr) (o_cw ad ca rt Sj T0 T1 Rd r.2.1 r.2.2 Mk Lk Ck Jd Ld Pr) (some (.long r.1)) := by
  refine o_Cn_of (by decide) (Nat.le_of_ble_eq_true rfl) ?_
  intro p e s m below meth c A ls C hD hP hS hl
  have hDD : ∀ (rt : Nat) (Sj : SSJ) (T0 : STx) (T1 : STx) (Rd : SRd) (Pg : SPg) (Pt : SPt) (Mk : SMk) (Lk : SLk) (Ck : SCk) (Jd : SJd) (Ld : SLd) (Pr : SPr), va_D A (o_cw ad ca rt Sj T0 T1 Rd Pg Pt Mk Lk Ck Jd Ld Pr) := fun _ _ _ _ _ _ _ _ _ _ _ _ _ => o_D_map hD rfl
  have hl : lv_has ls 7 [(0, .ref (ad 49)), (1, .int x1), (2, .int x2)] := hl
  unfold m_Jd_matching at h
  have C0 := C
  obtain ⟨hx, hb, -, -, -, hown, hts, hK, -, -⟩ := C0
  refine lv_lconst (v := (0:Int64)) hx hb d_Jd_matching_0 (by decide) ?_
  refine lv_lstore_n (lv' := [(3, .long (0:Int64)), (0, .ref (ad 49)), (1, .int x1), (2, .int x2)]) hx hb d_Jd_matching_1 rfl hl (by decide) rfl (fun ls hl => ?_)
  refine lv_aload_n hx hb d_Jd_matching_2 rfl (lv_at hl 1 rfl) ?_
  refine o_get (v := .ref (ad 33)) C in_Jd hP 49 cw_49 rfl 3 (by decide) k_2_77 rfl rfl d_Jd_matching_3 ?_
  refine lv_aload_n hx hb d_Jd_matching_6 rfl (lv_at hl 1 rfl) ?_
  refine o_get (v := .ref (ad 1)) C in_Jd hP 49 cw_49 rfl 0 (by decide) k_2_74 rfl rfl d_Jd_matching_7 ?_
  refine lv_iload_n hx hb d_Jd_matching_10 rfl (lv_at hl 2 rfl) ?_
  obtain ⟨q1, hq1, h⟩ := o_bd_some h
  refine o_V (st1 := [.int q1.1]) (w1 := (o_cw ad ca rt Sj T0 T1 Rd Pg q1.2 Mk Lk Ck Jd Ld Pr)) hE.1 C (c_Pt_tokenise_0 hE l n x1 T0 Pt Sj T1 Rd Pg Mk Lk Ck Jd Ld Pr rt hq1) hP (hDD _ _ _ _ _ _ _ _ _ _ _ _ _) hS hl.1 rfl cw_33 k_6_83 k_4_109 k_4_110 k_1_5 k_4_111 hv_Pt_tokenise rfl rfl ⟨(Nat.le_of_ble_eq_true rfl), (Nat.le_of_ble_eq_true rfl)⟩ rfl (Nat.le_of_ble_eq_true rfl) ⟨Nat.zero_le _, Nat.zero_le _⟩ rfl d_Jd_matching_11 (fun H locs hP hS => ?_)
  refine lv_if_eq (tgt := 27) hx hb d_Jd_matching_14 (by decide) (fun c1 => ?_) (fun c1 => ?_)
  · replace h := o_tt c1 h
    refine lv_lload_n hx hb d_Jd_matching_27 rfl (lv_at hl 0 rfl) ?_
    cases h
    exact o_rl C hP hS d_Jd_matching_28
  · replace h := o_ff c1 h
    refine lv_aload_n hx hb d_Jd_matching_17 rfl (lv_at hl 1 rfl) ?_
    refine o_get (v := .ref (ad 33)) C in_Jd hP 49 cw_49 rfl 3 (by decide) k_2_77 rfl rfl d_Jd_matching_18 ?_
    obtain ⟨q2, hq2, h⟩ := o_bd_some h
    refine o_V (st1 := [.int q2.1]) (w1 := (o_cw ad ca rt Sj T0 T1 Rd q2.2.1 q2.2.2 Mk Lk Ck Jd Ld Pr)) hE.1 C (c_Pt_parse hE l n Pg q1.2 Sj T0 T1 Rd Mk Lk Ck Jd Ld Pr rt hq2) hP (hDD _ _ _ _ _ _ _ _ _ _ _ _ _) hS hl.1 rfl cw_33 k_6_84 k_4_203 k_4_204 k_1_5 k_4_205 hv_Pt_parse rfl rfl ⟨(Nat.le_of_ble_eq_true rfl), (Nat.le_of_ble_eq_true rfl)⟩ rfl (Nat.le_of_ble_eq_true rfl) ⟨Nat.zero_le _, Nat.zero_le _⟩ rfl d_Jd_matching_21 (fun H locs hP hS => ?_)
    refine lv_if_ne (tgt := 29) hx hb d_Jd_matching_24 (by decide) (fun c2 => ?_) (fun c2 => ?_)
    · replace h := o_ff c2 h
      refine lv_aload_n hx hb d_Jd_matching_29 rfl (lv_at hl 1 rfl) ?_
      refine o_get (v := .ref (ad 12)) C in_Jd hP 49 cw_49 rfl 2 (by decide) k_2_76 rfl rfl d_Jd_matching_30 ?_
      refine lv_iload_n hx hb d_Jd_matching_33 rfl (lv_at hl 3 rfl) ?_
      obtain ⟨q3, hq3, h⟩ := o_bd_some h
      refine o_V (st1 := [.int q3]) (w1 := (o_cw ad ca rt Sj T0 T1 Rd q2.2.1 q2.2.2 Mk Lk Ck Jd Ld Pr)) hE.1 C (c_Tx_firstChild_1 hE l x2 T1 Sj T0 Rd q2.2.1 q2.2.2 Mk Lk Ck Jd Ld Pr rt hq3) hP (hDD _ _ _ _ _ _ _ _ _ _ _ _ _) hS hl.1 rfl cw_12 k_6_25 k_3_211 k_3_212 k_1_2 k_3_213 hv_Tx_firstChild rfl rfl ⟨(Nat.le_of_ble_eq_true rfl), (Nat.le_of_ble_eq_true rfl)⟩ rfl (Nat.le_of_ble_eq_true rfl) ⟨Nat.zero_le _, Nat.zero_le _⟩ rfl d_Jd_matching_34 (fun H locs hP hS => ?_)
      refine lv_istore (lv' := [(5, .int q3), (3, .long (0:Int64)), (0, .ref (ad 49)), (1, .int x1), (2, .int x2)]) hx hb d_Jd_matching_37 hl (by decide) rfl (fun ls hl => ?_)
      refine lv_iconst (v := (0:Int32)) hx hb d_Jd_matching_39 (by decide) ?_
      refine lv_istore (lv' := [(6, .int (0:Int32)), (5, .int q3), (3, .long (0:Int64)), (0, .ref (ad 49)), (1, .int x1), (2, .int x2)]) hx hb d_Jd_matching_40 hl (by decide) rfl (fun ls hl => ?_)
      obtain ⟨q7, hq7, h⟩ := o_bd_some h
      refine o_sim2 (AH := fun zz => o_At p l e rm_Jd_matching s m _ below meth c _ o_cls D A 7 42 [] (o_cw ad ca rt Sj T0 T1 Rd zz.2.2.2 q2.2.2 Mk Lk Ck Jd Ld Pr) [(0, .ref (ad 49)), (2, .int x2), (3, .long zz.1), (5, .int zz.2.1), (6, .int zz.2.2.1)]) (AX := fun qq => o_At p l e rm_Jd_matching s m _ below meth c _ o_cls D A 7 97 [] (o_cw ad ca rt Sj T0 T1 Rd qq.2.2.2.2 q2.2.2 Mk Lk Ck Jd Ld Pr) [(3, .long qq.2.1)]) (fun zz qq h h0 h1 => w_Jd_matching_b42 hE C hDD n x2 T0 T1 q2.2.2 Sj Rd Mk Lk Ck Jd Ld Pr rt zz qq h h0 h1) n _ q7 hq7 ?_ _ _ _ hP hS (lv_sub hl [3, 5, 2, 1, 0] rfl)
      intro H locs ls hP hS hl
      refine lv_lload_n hx hb d_Jd_matching_97 rfl (lv_at hl 0 rfl) ?_
      cases h
      exact o_rl C hP hS d_Jd_matching_98
    · replace h := o_tt c2 h
      refine lv_lload_n hx hb d_Jd_matching_27 rfl (lv_at hl 0 rfl) ?_
      cases h
      exact o_rl C hP hS d_Jd_matching_28
set_option maxHeartbeats 4000000 in
set_option maxRecDepth 100000 in
theorem w_Tx_sameString_b102_01 {E : (Nat → Prop) → State → Heap → Prop} {p : Program} {l : Launch} {e : Env} {s : State} {m : MethodId} {args : Array Value} {below : List Frame} {meth : Method} {c : Code} {D : va_G} {ad kd sd vd xd : Nat → Nat} {ca : Nat → ClassId} {A : Nat → Prop} {Q : State → Prop} (hE : o_EK E kd sd vd xd) (C : o_Cx E p s m args meth c D o_cls (o_tys ca) "SchemaJudge$Text" b_Tx_sameString (some .boolean) 8 cc_Tx_sameString A) (hDD : ∀ (rt : Nat) (Sj : SSJ) (T0 : STx) (T1 : STx) (Rd : SRd) (Pg : SPg) (Pt : SPt) (Mk : SMk) (Lk : SLk) (Ck : SCk) (Jd : SJd) (Ld : SLd) (Pr : SPr), va_D A (o_cw ad ca rt Sj T0 T1 Rd Pg Pt Mk Lk Ck Jd Ld Pr)) (n : Nat) (u102_x4 : Int32) (u102_x5 : Int32) (u102_x6 : Int32) (u102_a0 : STx) (u102_a2 : STx) (u102_Sj : SSJ) (u102_Rd : SRd) (u102_Pg : SPg) (u102_Pt : SPt) (u102_Mk : SMk) (u102_Lk : SLk) (u102_Ck : SCk) (u102_Jd : SJd) (u102_Ld : SLd) (u102_Pr : SPr) (u102_rt : Nat) (z : Int32) (q : Nat × Int32) (h : m_Tx_sameString_b102 n u102_x4 u102_x5 u102_x6 u102_a0 u102_a2 z = some q) (h0 : q.1 = 0 → o_At p l e rm_Tx_sameString s m args below meth c Q o_cls D A 8 102 [] (o_cw ad ca u102_rt u102_Sj u102_a0 u102_a2 u102_Rd u102_Pg u102_Pt u102_Mk u102_Lk u102_Ck u102_Jd u102_Ld u102_Pr) [(0, .ref (ad 1)), (2, .ref (ad 12)), (4, .int u102_x4), (5, .int u102_x5), (6, .int u102_x6), (7, .int q.2)]) (h1 : q.1 ≠ 0 → (if q.1 = 1 then o_At p l e rm_Tx_sameString s m args below meth c Q o_cls D A 8 132 [] (o_cw ad ca u102_rt u102_Sj u102_a0 u102_a2 u102_Rd u102_Pg u102_Pt u102_Mk u102_Lk u102_Ck u102_Jd u102_Ld u102_Pr) [] else o_At p l e rm_Tx_sameString s m args below meth c Q o_cls D A 8 140 [] (o_cw ad ca u102_rt u102_Sj u102_a0 u102_a2 u102_Rd u102_Pg u102_Pt u102_Mk u102_Lk u102_Ck u102_Jd u102_Ld u102_Pr) [])) : o_At p l e rm_Tx_sameString s m args below meth c Q o_cls D A 8 102 [] (o_cw ad ca u102_rt u102_Sj u102_a0 u102_a2 u102_Rd u102_Pg u102_Pt u102_Mk u102_Lk u102_Ck u102_Jd u102_Ld u102_Pr) [(0, .ref (ad 1)), (2, .ref (ad 12)), (4, .int u102_x4), (5, .int u102_x5), (6, .int u102_x6), (7, .int z)] := by
  unfold m_Tx_sameString_b102 at h
  intro H locs ls hP hS hl
  have C0 := C
  obtain ⟨hx, hb, -, -, -, hown, hts, hK, -, -⟩ := C0
  refine lv_iload hx hb d_Tx_sameString_102 (lv_at hl 5 rfl) ?_
  refine lv_iload hx hb d_Tx_sameString_104 (lv_at hl 4 rfl) ?_
  refine lv_icmp_ge (tgt := 140) hx hb d_Tx_sameString_106 (by decide) (fun c15 => ?_) (fun c15 => ?_)
  · replace h := o_tt c15 h
    cases h
    exact h1 (Nat.succ_ne_zero 1) _ _ _ hP hS (lv_sub hl [] rfl)
  · replace h := o_ff c15 h
    refine lv_aload_n hx hb d_Tx_sameString_109 rfl (lv_at hl 0 rfl) ?_
    refine o_get (v := .ref (ad 11)) C in_Tx hP 1 cw_1 rfl 9 (by decide) k_1_55 rfl rfl d_Tx_sameString_110 ?_
    refine lv_iload hx hb d_Tx_sameString_113 (lv_at hl 2 rfl) ?_
    refine lv_iload hx hb d_Tx_sameString_115 (lv_at hl 5 rfl) ?_
    refine lv_iadd hx hb d_Tx_sameString_117 ?_
    obtain ⟨g16, h⟩ := o_gd_some h
    refine o_iald (f := (Tx_cells u102_a0)) C hP 11 9 cw_11 rfl g16 d_Tx_sameString_118 ?_
    refine lv_aload_n hx hb d_Tx_sameString_119 rfl (lv_at hl 1 rfl) ?_
    refine o_get (v := .ref (ad 22)) C in_Tx hP 12 cw_12 rfl 9 (by decide) k_1_55 rfl rfl d_Tx_sameString_120 ?_
    refine lv_iload hx hb d_Tx_sameString_123 (lv_at hl 3 rfl) ?_
    refine lv_iload hx hb d_Tx_sameString_125 (lv_at hl 5 rfl) ?_
    refine lv_iadd hx hb d_Tx_sameString_127 ?_
    obtain ⟨g17, h⟩ := o_gd_some h
    refine o_iald (f := (Tx_cells u102_a2)) C hP 22 19 cw_22 rfl g17 d_Tx_sameString_128 ?_
    refine lv_icmp_eq (tgt := 134) hx hb d_Tx_sameString_129 (by decide) (fun c18 => ?_) (fun c18 => ?_)
    · replace h := o_tt c18 h
      obtain ⟨x7_134, ex7_134⟩ : ∃ y : Int32, y = z + (1:Int32) := ⟨_, rfl⟩
      replace h := o_nm_at ex7_134 h
      refine lv_iinc (v := x7_134) (lv' := [(7, .int x7_134), (0, .ref (ad 1)), (2, .ref (ad 12)), (4, .int u102_x4), (5, .int u102_x5), (6, .int u102_x6)]) hx hb d_Tx_sameString_134 hl (k := 5) rfl (by rw [ex7_134]; rfl) (by decide) rfl (fun ls hl => ?_)
      refine lv_goto (tgt := 102) hx hb d_Tx_sameString_137 (by decide) ?_
      cases h
      exact h0 rfl _ _ _ hP hS (lv_sub hl [1, 2, 3, 4, 5, 0] rfl)
    · replace h := o_ff c18 h
      cases h
      exact h1 (Nat.succ_ne_zero 0) _ _ _ hP hS (lv_sub hl [] rfl)
set_option maxHeartbeats 4000000 in
set_option maxRecDepth 100000 in
theorem c_Tx_sameString_01 {E : (Nat → Prop) → State → Heap → Prop} {D : va_G} {ad kd sd vd xd : Nat → Nat} {ca : Nat → ClassId} (hE : o_EK E kd sd vd xd) (l : Launch) (n : Nat) (x1 : Int32) (x3 : Int32) (a0 : STx) (a2 : STx) (Sj : SSJ) (Rd : SRd) (Pg : SPg) (Pt : SPt) (Mk : SMk) (Lk : SLk) (Ck : SCk) (Jd : SJd) (Ld : SLd) (Pr : SPr) (rt : Nat) {r : Int32} (h : m_Tx_sameString n x1 x3 a0 a2 = some r) : o_Cn E l D o_cls (o_tys ca) y_Tx_sameString cc_Tx_sameString rm_Tx_sameString [.ref (ad 1), .int x1, .ref (ad 12), .int x3] (o_cw ad ca rt Sj a0 a2 Rd Pg Pt Mk Lk Ck Jd Ld Pr) (o_cw ad ca rt Sj a0 a2 Rd Pg Pt Mk Lk Ck Jd Ld Pr) (some (.int r)) := by
  refine o_Cn_of (by decide) (Nat.le_of_ble_eq_true rfl) ?_
  intro p e s m below meth c A ls C hD hP hS hl
  have hDD : ∀ (rt : Nat) (Sj : SSJ) (T0 : STx) (T1 : STx) (Rd : SRd) (Pg : SPg) (Pt : SPt) (Mk : SMk) (Lk : SLk) (Ck : SCk) (Jd : SJd) (Ld : SLd) (Pr : SPr), va_D A (o_cw ad ca rt Sj T0 T1 Rd Pg Pt Mk Lk Ck Jd Ld Pr) := fun _ _ _ _ _ _ _ _ _ _ _ _ _ => o_D_map hD rfl
  have hl : lv_has ls 8 [(0, .ref (ad 1)), (1, .int x1), (2, .ref (ad 12)), (3, .int x3)] := hl
  unfold m_Tx_sameString at h
  have C0 := C
  obtain ⟨hx, hb, -, -, -, hown, hts, hK, -, -⟩ := C0
  refine lv_iload_n hx hb d_Tx_sameString_0 rfl (lv_at hl 1 rfl) ?_
  refine lv_if_lt (tgt := 39) hx hb d_Tx_sameString_1 (by decide) (fun c1 => ?_) (fun c1 => ?_)
  · replace h := o_tt c1 h
    refine lv_iconst (v := (0:Int32)) hx hb d_Tx_sameString_39 (by decide) ?_
    cases h
    exact o_rz (v := (0:Int32)) C o_nar0 hP hS d_Tx_sameString_40
  · replace h := o_ff c1 h
    refine lv_iload_n hx hb d_Tx_sameString_4 rfl (lv_at hl 1 rfl) ?_
    refine lv_aload_n hx hb d_Tx_sameString_5 rfl (lv_at hl 0 rfl) ?_
    refine o_get (v := .int (Tx_total a0)) C in_Tx hP 1 cw_1 rfl 10 (by decide) k_1_56 rfl rfl d_Tx_sameString_6 ?_
    refine lv_icmp_ge (tgt := 39) hx hb d_Tx_sameString_9 (by decide) (fun c2 => ?_) (fun c2 => ?_)
    · replace h := o_tt c2 h
      refine lv_iconst (v := (0:Int32)) hx hb d_Tx_sameString_39 (by decide) ?_
      cases h
      exact o_rz (v := (0:Int32)) C o_nar0 hP hS d_Tx_sameString_40
    · replace h := o_ff c2 h
      refine lv_iload_n hx hb d_Tx_sameString_12 rfl (lv_at hl 3 rfl) ?_
      refine lv_if_lt (tgt := 39) hx hb d_Tx_sameString_13 (by decide) (fun c3 => ?_) (fun c3 => ?_)
      · replace h := o_tt c3 h
        refine lv_iconst (v := (0:Int32)) hx hb d_Tx_sameString_39 (by decide) ?_
        cases h
        exact o_rz (v := (0:Int32)) C o_nar0 hP hS d_Tx_sameString_40
      · replace h := o_ff c3 h
        refine lv_iload_n hx hb d_Tx_sameString_16 rfl (lv_at hl 3 rfl) ?_
        refine lv_aload_n hx hb d_Tx_sameString_17 rfl (lv_at hl 2 rfl) ?_
        refine o_get (v := .int (Tx_total a2)) C in_Tx hP 12 cw_12 rfl 10 (by decide) k_1_56 rfl rfl d_Tx_sameString_18 ?_
        refine lv_icmp_ge (tgt := 39) hx hb d_Tx_sameString_21 (by decide) (fun c4 => ?_) (fun c4 => ?_)
        · replace h := o_tt c4 h
          refine lv_iconst (v := (0:Int32)) hx hb d_Tx_sameString_39 (by decide) ?_
          cases h
          exact o_rz (v := (0:Int32)) C o_nar0 hP hS d_Tx_sameString_40
        · replace h := o_ff c4 h
          refine lv_aload_n hx hb d_Tx_sameString_24 rfl (lv_at hl 0 rfl) ?_
          refine o_get (v := .ref (ad 4)) C in_Tx hP 1 cw_1 rfl 2 (by decide) k_1_48 rfl rfl d_Tx_sameString_25 ?_
          refine lv_iload_n hx hb d_Tx_sameString_28 rfl (lv_at hl 1 rfl) ?_
          obtain ⟨g5, h⟩ := o_gd_some h
          refine o_iald (f := (Tx_sizes a0)) C hP 4 2 cw_4 rfl g5 d_Tx_sameString_29 ?_
          refine lv_aload_n hx hb d_Tx_sameString_30 rfl (lv_at hl 2 rfl) ?_
          refine o_get (v := .ref (ad 15)) C in_Tx hP 12 cw_12 rfl 2 (by decide) k_1_48 rfl rfl d_Tx_sameString_31 ?_
          refine lv_iload_n hx hb d_Tx_sameString_34 rfl (lv_at hl 3 rfl) ?_
          obtain ⟨g6, h⟩ := o_gd_some h
          refine o_iald (f := (Tx_sizes a2)) C hP 15 12 cw_15 rfl g6 d_Tx_sameString_35 ?_
          refine lv_icmp_eq (tgt := 41) hx hb d_Tx_sameString_36 (by decide) (fun c7 => ?_) (fun c7 => ?_)
          · replace h := o_tt c7 h
            refine lv_aload_n hx hb d_Tx_sameString_41 rfl (lv_at hl 0 rfl) ?_
            refine o_get (v := .ref (ad 7)) C in_Tx hP 1 cw_1 rfl 5 (by decide) k_1_51 rfl rfl d_Tx_sameString_42 ?_
            refine lv_iload_n hx hb d_Tx_sameString_45 rfl (lv_at hl 1 rfl) ?_
            obtain ⟨g8, h⟩ := o_gd_some h
            refine o_iald (f := (Tx_starts a0)) C hP 7 5 cw_7 rfl g8 d_Tx_sameString_46 ?_
            refine lv_topi (fun x4_47 ex4_47 => ?_)
            replace h := o_nm_at ex4_47 h
            refine lv_istore (lv' := [(4, .int x4_47), (0, .ref (ad 1)), (1, .int x1), (2, .ref (ad 12)), (3, .int x3)]) hx hb d_Tx_sameString_47 hl (by decide) rfl (fun ls hl => ?_)
            refine lv_aload_n hx hb d_Tx_sameString_49 rfl (lv_at hl 3 rfl) ?_
            refine o_get (v := .ref (ad 18)) C in_Tx hP 12 cw_12 rfl 5 (by decide) k_1_51 rfl rfl d_Tx_sameString_50 ?_
            refine lv_iload_n hx hb d_Tx_sameString_53 rfl (lv_at hl 4 rfl) ?_
            obtain ⟨g9, h⟩ := o_gd_some h
            refine o_iald (f := (Tx_starts a2)) C hP 18 15 cw_18 rfl g9 d_Tx_sameString_54 ?_
            refine lv_topi (fun x5_55 ex5_55 => ?_)
            replace h := o_nm_at ex5_55 h
            refine lv_istore (lv' := [(5, .int x5_55), (4, .int x4_47), (0, .ref (ad 1)), (1, .int x1), (2, .ref (ad 12)), (3, .int x3)]) hx hb d_Tx_sameString_55 hl (by decide) rfl (fun ls hl => ?_)
            refine lv_aload_n hx hb d_Tx_sameString_57 rfl (lv_at hl 2 rfl) ?_
            refine o_get (v := .ref (ad 4)) C in_Tx hP 1 cw_1 rfl 2 (by decide) k_1_48 rfl rfl d_Tx_sameString_58 ?_
            refine lv_iload_n hx hb d_Tx_sameString_61 rfl (lv_at hl 3 rfl) ?_
            obtain ⟨g10, h⟩ := o_gd_some h
            refine o_iald (f := (Tx_sizes a0)) C hP 4 2 cw_4 rfl g10 d_Tx_sameString_62 ?_
            refine lv_topi (fun x6_63 ex6_63 => ?_)
            replace h := o_nm_at ex6_63 h
            refine lv_istore (lv' := [(6, .int x6_63), (5, .int x5_55), (4, .int x4_47), (0, .ref (ad 1)), (1, .int x1), (2, .ref (ad 12)), (3, .int x3)]) hx hb d_Tx_sameString_63 hl (by decide) rfl (fun ls hl => ?_)
            refine lv_iload hx hb d_Tx_sameString_65 (lv_at hl 2 rfl) ?_
            refine lv_if_lt (tgt := 97) hx hb d_Tx_sameString_67 (by decide) (fun c11 => ?_) (fun c11 => ?_)
            · replace h := o_tt c11 h
              refine lv_iconst (v := (0:Int32)) hx hb d_Tx_sameString_97 (by decide) ?_
              cases h
              exact o_rz (v := (0:Int32)) C o_nar0 hP hS d_Tx_sameString_98
            · replace h := o_ff c11 h
              refine lv_iload hx hb d_Tx_sameString_70 (lv_at hl 2 rfl) ?_
              refine lv_iload hx hb d_Tx_sameString_72 (lv_at hl 0 rfl) ?_
              refine lv_iadd hx hb d_Tx_sameString_74 ?_
              refine lv_sipush (v := (8192:Int32)) hx hb d_Tx_sameString_75 (by decide) ?_
              refine lv_icmp_gt (tgt := 97) hx hb d_Tx_sameString_78 (by decide) (fun c12 => ?_) (fun c12 => ?_)
              · replace h := o_tt c12 h
                refine lv_iconst (v := (0:Int32)) hx hb d_Tx_sameString_97 (by decide) ?_
                cases h
                exact o_rz (v := (0:Int32)) C o_nar0 hP hS d_Tx_sameString_98
              · replace h := o_ff c12 h
                refine lv_iload hx hb d_Tx_sameString_81 (lv_at hl 1 rfl) ?_
                refine lv_if_lt (tgt := 97) hx hb d_Tx_sameString_83 (by decide) (fun c13 => ?_) (fun c13 => ?_)
                · replace h := o_tt c13 h
                  refine lv_iconst (v := (0:Int32)) hx hb d_Tx_sameString_97 (by decide) ?_
                  cases h
                  exact o_rz (v := (0:Int32)) C o_nar0 hP hS d_Tx_sameString_98
                · replace h := o_ff c13 h
                  refine lv_iload hx hb d_Tx_sameString_86 (lv_at hl 1 rfl) ?_
                  refine lv_iload hx hb d_Tx_sameString_88 (lv_at hl 0 rfl) ?_
                  refine lv_iadd hx hb d_Tx_sameString_90 ?_
                  refine lv_sipush (v := (8192:Int32)) hx hb d_Tx_sameString_91 (by decide) ?_
                  refine lv_icmp_le (tgt := 99) hx hb d_Tx_sameString_94 (by decide) (fun c14 => ?_) (fun c14 => ?_)
                  · replace h := o_tt c14 h
                    refine lv_iconst (v := (0:Int32)) hx hb d_Tx_sameString_99 (by decide) ?_
                    refine lv_istore (lv' := [(7, .int (0:Int32)), (6, .int x6_63), (5, .int x5_55), (4, .int x4_47), (0, .ref (ad 1)), (1, .int x1), (2, .ref (ad 12)), (3, .int x3)]) hx hb d_Tx_sameString_100 hl (by decide) rfl (fun ls hl => ?_)
                    obtain ⟨q1, hq1, h⟩ := o_bd_some h
                    refine o_sim2 (AH := fun zz => o_At p l e rm_Tx_sameString s m _ below meth c _ o_cls D A 8 102 [] (o_cw ad ca rt Sj a0 a2 Rd Pg Pt Mk Lk Ck Jd Ld Pr) [(0, .ref (ad 1)), (2, .ref (ad 12)), (4, .int x4_47), (5, .int x5_55), (6, .int x6_63), (7, .int zz)]) (AX := fun qq => if qq.1 = 1 then o_At p l e rm_Tx_sameString s m _ below meth c _ o_cls D A 8 132 [] (o_cw ad ca rt Sj a0 a2 Rd Pg Pt Mk Lk Ck Jd Ld Pr) [] else o_At p l e rm_Tx_sameString s m _ below meth c _ o_cls D A 8 140 [] (o_cw ad ca rt Sj a0 a2 Rd Pg Pt Mk Lk Ck Jd Ld Pr) []) (fun zz qq h h0 h1 => w_Tx_sameString_b102_01 hE C hDD n x4_47 x5_55 x6_63 a0 a2 Sj Rd Pg Pt Mk Lk Ck Jd Ld Pr rt zz qq h h0 h1) n _ q1 hq1 ?_ _ _ _ hP hS (lv_sub hl [4, 6, 3, 2, 1, 0] rfl)
                    by_cases c19 : q1.1 = 1
                    · replace h := o_tt c19 h
                      refine o_ip c19 ?_
                      intro H locs ls hP hS hl
                      refine lv_iconst (v := (0:Int32)) hx hb d_Tx_sameString_132 (by decide) ?_
                      cases h
                      exact o_rz (v := (0:Int32)) C o_nar0 hP hS d_Tx_sameString_133
                    replace h := o_ff c19 h
                    refine o_in_ c19 ?_
                    intro H locs ls hP hS hl
                    refine lv_iconst (v := (1:Int32)) hx hb d_Tx_sameString_140 (by decide) ?_
                    cases h
                    exact o_rz (v := (1:Int32)) C o_nar1 hP hS d_Tx_sameString_141
                  · replace h := o_ff c14 h
                    refine lv_iconst (v := (0:Int32)) hx hb d_Tx_sameString_97 (by decide) ?_
                    cases h
                    exact o_rz (v := (0:Int32)) C o_nar0 hP hS d_Tx_sameString_98
          · replace h := o_ff c7 h
            refine lv_iconst (v := (0:Int32)) hx hb d_Tx_sameString_39 (by decide) ?_
            cases h
            exact o_rz (v := (0:Int32)) C o_nar0 hP hS d_Tx_sameString_40
set_option maxHeartbeats 4000000 in
set_option maxRecDepth 100000 in
theorem w_Tx_member_b10_01 {E : (Nat → Prop) → State → Heap → Prop} {p : Program} {l : Launch} {e : Env} {s : State} {m : MethodId} {args : Array Value} {below : List Frame} {meth : Method} {c : Code} {D : va_G} {ad kd sd vd xd : Nat → Nat} {ca : Nat → ClassId} {A : Nat → Prop} {Q : State → Prop} (hE : o_EK E kd sd vd xd) (C : o_Cx E p s m args meth c D o_cls (o_tys ca) "SchemaJudge$Text" b_Tx_member (some .int) 6 cc_Tx_member A) (hDD : ∀ (rt : Nat) (Sj : SSJ) (T0 : STx) (T1 : STx) (Rd : SRd) (Pg : SPg) (Pt : SPt) (Mk : SMk) (Lk : SLk) (Ck : SCk) (Jd : SJd) (Ld : SLd) (Pr : SPr), va_D A (o_cw ad ca rt Sj T0 T1 Rd Pg Pt Mk Lk Ck Jd Ld Pr)) (n : Nat) (u10_x1 : Int32) (u10_x3 : Int32) (u10_a0 : STx) (u10_a2 : STx) (u10_Sj : SSJ) (u10_Rd : SRd) (u10_Pg : SPg) (u10_Pt : SPt) (u10_Mk : SMk) (u10_Lk : SLk) (u10_Ck : SCk) (u10_Jd : SJd) (u10_Ld : SLd) (u10_Pr : SPr) (u10_rt : Nat) (z : Int32 × Int32) (q : Nat × Int32 × Int32) (h : m_Tx_member_b10 n u10_x1 u10_x3 u10_a0 u10_a2 z = some q) (h0 : q.1 = 0 → o_At p l e rm_Tx_member s m args below meth c Q o_cls D A 6 10 [] (o_cw ad ca u10_rt u10_Sj u10_a0 u10_a2 u10_Rd u10_Pg u10_Pt u10_Mk u10_Lk u10_Ck u10_Jd u10_Ld u10_Pr) [(0, .ref (ad 1)), (1, .int u10_x1), (2, .ref (ad 12)), (3, .int u10_x3), (4, .int q.2.1), (5, .int q.2.2)]) (h1 : q.1 ≠ 0 → (if q.1 = 1 then o_At p l e rm_Tx_member s m args below meth c Q o_cls D A 6 33 [] (o_cw ad ca u10_rt u10_Sj u10_a0 u10_a2 u10_Rd u10_Pg u10_Pt u10_Mk u10_Lk u10_Ck u10_Jd u10_Ld u10_Pr) [(4, .int q.2.1)] else o_At p l e rm_Tx_member s m args below meth c Q o_cls D A 6 50 [] (o_cw ad ca u10_rt u10_Sj u10_a0 u10_a2 u10_Rd u10_Pg u10_Pt u10_Mk u10_Lk u10_Ck u10_Jd u10_Ld u10_Pr) [])) : o_At p l e rm_Tx_member s m args below meth c Q o_cls D A 6 10 [] (o_cw ad ca u10_rt u10_Sj u10_a0 u10_a2 u10_Rd u10_Pg u10_Pt u10_Mk u10_Lk u10_Ck u10_Jd u10_Ld u10_Pr) [(0, .ref (ad 1)), (1, .int u10_x1), (2, .ref (ad 12)), (3, .int u10_x3), (4, .int z.1), (5, .int z.2)] := by
  unfold m_Tx_member_b10 at h
  intro H locs ls hP hS hl
  have C0 := C
  obtain ⟨hx, hb, -, -, -, hown, hts, hK, -, -⟩ := C0
  refine lv_iload hx hb d_Tx_member_10 (lv_at hl 5 rfl) ?_
  refine lv_aload_n hx hb d_Tx_member_12 rfl (lv_at hl 0 rfl) ?_
  refine lv_iload_n hx hb d_Tx_member_13 rfl (lv_at hl 1 rfl) ?_
  obtain ⟨q2, hq2, h⟩ := o_bd_some h
  refine o_V (st1 := [.int q2, .int z.2]) (w1 := (o_cw ad ca u10_rt u10_Sj u10_a0 u10_a2 u10_Rd u10_Pg u10_Pt u10_Mk u10_Lk u10_Ck u10_Jd u10_Ld u10_Pr)) hE.1 C (c_Tx_size_0 hE l u10_x1 u10_a0 u10_Sj u10_a2 u10_Rd u10_Pg u10_Pt u10_Mk u10_Lk u10_Ck u10_Jd u10_Ld u10_Pr u10_rt hq2) hP (hDD _ _ _ _ _ _ _ _ _ _ _ _ _) hS hl.1 rfl cw_1 k_3_214 k_3_215 k_3_216 k_1_2 k_3_217 hv_Tx_size rfl rfl ⟨(Nat.le_of_ble_eq_true rfl), (Nat.le_of_ble_eq_true rfl)⟩ rfl (Nat.le_of_ble_eq_true rfl) ⟨Nat.zero_le _, Nat.zero_le _⟩ rfl d_Tx_member_14 (fun H locs hP hS => ?_)
  refine lv_icmp_ge (tgt := 50) hx hb d_Tx_member_17 (by decide) (fun c1 => ?_) (fun c1 => ?_)
  · replace h := o_tt c1 h
    cases h
    exact h1 (Nat.succ_ne_zero 1) _ _ _ hP hS (lv_sub hl [] rfl)
  · replace h := o_ff c1 h
    refine lv_aload_n hx hb d_Tx_member_20 rfl (lv_at hl 0 rfl) ?_
    refine lv_iload hx hb d_Tx_member_21 (lv_at hl 4 rfl) ?_
    refine lv_iconst (v := (1:Int32)) hx hb d_Tx_member_23 (by decide) ?_
    refine lv_isub hx hb d_Tx_member_24 ?_
    refine lv_aload_n hx hb d_Tx_member_25 rfl (lv_at hl 2 rfl) ?_
    refine lv_iload_n hx hb d_Tx_member_26 rfl (lv_at hl 3 rfl) ?_
    obtain ⟨q3, hq3, h⟩ := o_bd_some h
    refine o_S (st1 := [.int q3]) (w1 := (o_cw ad ca u10_rt u10_Sj u10_a0 u10_a2 u10_Rd u10_Pg u10_Pt u10_Mk u10_Lk u10_Ck u10_Jd u10_Ld u10_Pr)) hE.1 C (c_Tx_sameString_01 hE l n (z.1 - (1:Int32)) u10_x3 u10_a0 u10_a2 u10_Sj u10_Rd u10_Pg u10_Pt u10_Mk u10_Lk u10_Ck u10_Jd u10_Ld u10_Pr u10_rt hq3) hP (hDD _ _ _ _ _ _ _ _ _ _ _ _ _) hS hl.1 k_3_218 k_3_219 k_1_2 k_3_220 hs_Tx_sameString rfl rfl ⟨(Nat.le_of_ble_eq_true rfl), (Nat.le_of_ble_eq_true rfl)⟩ rfl (Nat.le_of_ble_eq_true rfl) ⟨Nat.zero_le _, Nat.zero_le _⟩ rfl d_Tx_member_27 (fun H locs hP hS => ?_)
    refine lv_if_eq (tgt := 36) hx hb d_Tx_member_30 (by decide) (fun c2 => ?_) (fun c2 => ?_)
    · replace h := o_tt c2 h
      refine lv_aload_n hx hb d_Tx_member_36 rfl (lv_at hl 0 rfl) ?_
      refine lv_iload hx hb d_Tx_member_37 (lv_at hl 4 rfl) ?_
      obtain ⟨q4, hq4, h⟩ := o_bd_some h
      refine o_V (st1 := [.int q4]) (w1 := (o_cw ad ca u10_rt u10_Sj u10_a0 u10_a2 u10_Rd u10_Pg u10_Pt u10_Mk u10_Lk u10_Ck u10_Jd u10_Ld u10_Pr)) hE.1 C (c_Tx_nextChild_0 hE l z.1 u10_a0 u10_Sj u10_a2 u10_Rd u10_Pg u10_Pt u10_Mk u10_Lk u10_Ck u10_Jd u10_Ld u10_Pr u10_rt hq4) hP (hDD _ _ _ _ _ _ _ _ _ _ _ _ _) hS hl.1 rfl cw_1 k_3_221 k_3_222 k_3_223 k_1_2 k_3_224 hv_Tx_nextChild rfl rfl ⟨(Nat.le_of_ble_eq_true rfl), (Nat.le_of_ble_eq_true rfl)⟩ rfl (Nat.le_of_ble_eq_true rfl) ⟨Nat.zero_le _, Nat.zero_le _⟩ rfl d_Tx_member_39 (fun H locs hP hS => ?_)
      refine lv_istore (lv' := [(4, .int q4), (0, .ref (ad 1)), (1, .int u10_x1), (2, .ref (ad 12)), (3, .int u10_x3), (5, .int z.2)]) hx hb d_Tx_member_42 hl (by decide) rfl (fun ls hl => ?_)
      obtain ⟨x5_44, ex5_44⟩ : ∃ y : Int32, y = z.2 + (1:Int32) := ⟨_, rfl⟩
      replace h := o_nm_at ex5_44 h
      refine lv_iinc (v := x5_44) (lv' := [(5, .int x5_44), (4, .int q4), (0, .ref (ad 1)), (1, .int u10_x1), (2, .ref (ad 12)), (3, .int u10_x3)]) hx hb d_Tx_member_44 hl (k := 5) rfl (by rw [ex5_44]; rfl) (by decide) rfl (fun ls hl => ?_)
      refine lv_goto (tgt := 10) hx hb d_Tx_member_47 (by decide) ?_
      cases h
      exact h0 rfl _ _ _ hP hS (lv_sub hl [2, 3, 4, 5, 1, 0] rfl)
    · replace h := o_ff c2 h
      cases h
      exact h1 (Nat.succ_ne_zero 0) _ _ _ hP hS (lv_sub hl [4] rfl)
set_option maxHeartbeats 4000000 in
set_option maxRecDepth 100000 in
theorem c_Tx_member_01 {E : (Nat → Prop) → State → Heap → Prop} {D : va_G} {ad kd sd vd xd : Nat → Nat} {ca : Nat → ClassId} (hE : o_EK E kd sd vd xd) (l : Launch) (n : Nat) (x1 : Int32) (x3 : Int32) (a0 : STx) (a2 : STx) (Sj : SSJ) (Rd : SRd) (Pg : SPg) (Pt : SPt) (Mk : SMk) (Lk : SLk) (Ck : SCk) (Jd : SJd) (Ld : SLd) (Pr : SPr) (rt : Nat) {r : Int32} (h : m_Tx_member n x1 x3 a0 a2 = some r) : o_Cn E l D o_cls (o_tys ca) y_Tx_member cc_Tx_member rm_Tx_member [.ref (ad 1), .int x1, .ref (ad 12), .int x3] (o_cw ad ca rt Sj a0 a2 Rd Pg Pt Mk Lk Ck Jd Ld Pr) (o_cw ad ca rt Sj a0 a2 Rd Pg Pt Mk Lk Ck Jd Ld Pr) (some (.int r)) := by
  refine o_Cn_of (by decide) (Nat.le_of_ble_eq_true rfl) ?_
  intro p e s m below meth c A ls C hD hP hS hl
  have hDD : ∀ (rt : Nat) (Sj : SSJ) (T0 : STx) (T1 : STx) (Rd : SRd) (Pg : SPg) (Pt : SPt) (Mk : SMk) (Lk : SLk) (Ck : SCk) (Jd : SJd) (Ld : SLd) (Pr : SPr), va_D A (o_cw ad ca rt Sj T0 T1 Rd Pg Pt Mk Lk Ck Jd Ld Pr) := fun _ _ _ _ _ _ _ _ _ _ _ _ _ => o_D_map hD rfl
  have hl : lv_has ls 6 [(0, .ref (ad 1)), (1, .int x1), (2, .ref (ad 12)), (3, .int x3)] := hl
  unfold m_Tx_member at h
  have C0 := C
  obtain ⟨hx, hb, -, -, -, hown, hts, hK, -, -⟩ := C0
  refine lv_aload_n hx hb d_Tx_member_0 rfl (lv_at hl 0 rfl) ?_
  refine lv_iload_n hx hb d_Tx_member_1 rfl (lv_at hl 1 rfl) ?_
  obtain ⟨q1, hq1, h⟩ := o_bd_some h
  refine o_V (st1 := [.int q1]) (w1 := (o_cw ad ca rt Sj a0 a2 Rd Pg Pt Mk Lk Ck Jd Ld Pr)) hE.1 C (c_Tx_firstChild_0 hE l x1 a0 Sj a2 Rd Pg Pt Mk Lk Ck Jd Ld Pr rt hq1) hP (hDD _ _ _ _ _ _ _ _ _ _ _ _ _) hS hl.1 rfl cw_1 k_3_210 k_3_211 k_3_212 k_1_2 k_3_213 hv_Tx_firstChild rfl rfl ⟨(Nat.le_of_ble_eq_true rfl), (Nat.le_of_ble_eq_true rfl)⟩ rfl (Nat.le_of_ble_eq_true rfl) ⟨Nat.zero_le _, Nat.zero_le _⟩ rfl d_Tx_member_2 (fun H locs hP hS => ?_)
  refine lv_istore (lv' := [(4, .int q1), (0, .ref (ad 1)), (1, .int x1), (2, .ref (ad 12)), (3, .int x3)]) hx hb d_Tx_member_5 hl (by decide) rfl (fun ls hl => ?_)
  refine lv_iconst (v := (0:Int32)) hx hb d_Tx_member_7 (by decide) ?_
  refine lv_istore (lv' := [(5, .int (0:Int32)), (4, .int q1), (0, .ref (ad 1)), (1, .int x1), (2, .ref (ad 12)), (3, .int x3)]) hx hb d_Tx_member_8 hl (by decide) rfl (fun ls hl => ?_)
  obtain ⟨q5, hq5, h⟩ := o_bd_some h
  refine o_sim2 (AH := fun zz => o_At p l e rm_Tx_member s m _ below meth c _ o_cls D A 6 10 [] (o_cw ad ca rt Sj a0 a2 Rd Pg Pt Mk Lk Ck Jd Ld Pr) [(0, .ref (ad 1)), (1, .int x1), (2, .ref (ad 12)), (3, .int x3), (4, .int zz.1), (5, .int zz.2)]) (AX := fun qq => if qq.1 = 1 then o_At p l e rm_Tx_member s m _ below meth c _ o_cls D A 6 33 [] (o_cw ad ca rt Sj a0 a2 Rd Pg Pt Mk Lk Ck Jd Ld Pr) [(4, .int qq.2.1)] else o_At p l e rm_Tx_member s m _ below meth c _ o_cls D A 6 50 [] (o_cw ad ca rt Sj a0 a2 Rd Pg Pt Mk Lk Ck Jd Ld Pr) []) (fun zz qq h h0 h1 => w_Tx_member_b10_01 hE C hDD n x1 x3 a0 a2 Sj Rd Pg Pt Mk Lk Ck Jd Ld Pr rt zz qq h h0 h1) n _ q5 hq5 ?_ _ _ _ hP hS (lv_sub hl [2, 3, 4, 5, 1, 0] rfl)
  by_cases c3 : q5.1 = 1
  · replace h := o_tt c3 h
    refine o_ip c3 ?_
    intro H locs ls hP hS hl
    refine lv_iload hx hb d_Tx_member_33 (lv_at hl 0 rfl) ?_
    cases h
    exact o_ri C hP hS d_Tx_member_35
  replace h := o_ff c3 h
  refine o_in_ c3 ?_
  intro H locs ls hP hS hl
  refine lv_iconst (v := (-1:Int32)) hx hb d_Tx_member_50 (by decide) ?_
  cases h
  exact o_ri (v := (-1:Int32)) C hP hS d_Tx_member_51
set_option maxHeartbeats 4000000 in
set_option maxRecDepth 100000 in
theorem w_Jd_named_j55 {E : (Nat → Prop) → State → Heap → Prop} {p : Program} {l : Launch} {e : Env} {s : State} {m : MethodId} {args : Array Value} {below : List Frame} {meth : Method} {c : Code} {D : va_G} {ad kd sd vd xd : Nat → Nat} {ca : Nat → ClassId} {A : Nat → Prop} {Q : State → Prop} (hE : o_EK E kd sd vd xd) (C : o_Cx E p s m args meth c D o_cls (o_tys ca) "SchemaJudge$Judge" b_Jd_named (some .long) 7 cc_Jd_named A) (hDD : ∀ (rt : Nat) (Sj : SSJ) (T0 : STx) (T1 : STx) (Rd : SRd) (Pg : SPg) (Pt : SPt) (Mk : SMk) (Lk : SLk) (Ck : SCk) (Jd : SJd) (Ld : SLd) (Pr : SPr), va_D A (o_cw ad ca rt Sj T0 T1 Rd Pg Pt Mk Lk Ck Jd Ld Pr)) (n : Nat) (u15_x1 : Int32) (u15_x2 : Int32) (u15_T0 : STx) (u15_T1 : STx) (u15_Sj : SSJ) (u15_Rd : SRd) (u15_Pg : SPg) (u15_Pt : SPt) (u15_Mk : SMk) (u15_Lk : SLk) (u15_Ck : SCk) (u15_Jd : SJd) (u15_Ld : SLd) (u15_Pr : SPr) (u15_rt : Nat) (x3 : Int64) (x5 : Int32) (x6 : Int32) {q : Nat × Int64 × Int32 × Int32} (h : m_Jd_named_j55 n u15_x1 u15_x2 x3 x5 x6 u15_T0 u15_T1 = some q) (h0 : q.1 = 0 → o_At p l e rm_Jd_named s m args below meth c Q o_cls D A 7 15 [] (o_cw ad ca u15_rt u15_Sj u15_T0 u15_T1 u15_Rd u15_Pg u15_Pt u15_Mk u15_Lk u15_Ck u15_Jd u15_Ld u15_Pr) [(0, .ref (ad 49)), (1, .int u15_x1), (2, .int u15_x2), (3, .long q.2.1), (5, .int q.2.2.1), (6, .int q.2.2.2)]) (h1 : q.1 ≠ 0 → (o_At p l e rm_Jd_named s m args below meth c Q o_cls D A 7 72 [] (o_cw ad ca u15_rt u15_Sj u15_T0 u15_T1 u15_Rd u15_Pg u15_Pt u15_Mk u15_Lk u15_Ck u15_Jd u15_Ld u15_Pr) [(3, .long q.2.1)])) : o_At p l e rm_Jd_named s m args below meth c Q o_cls D A 7 55 [] (o_cw ad ca u15_rt u15_Sj u15_T0 u15_T1 u15_Rd u15_Pg u15_Pt u15_Mk u15_Lk u15_Ck u15_Jd u15_Ld u15_Pr) [(0, .ref (ad 49)), (1, .int u15_x1), (2, .int u15_x2), (3, .long x3), (5, .int x5), (6, .int x6)] := by
  unfold m_Jd_named_j55 at h
  intro H locs ls hP hS hl
  have C0 := C
  obtain ⟨hx, hb, -, -, -, hown, hts, hK, -, -⟩ := C0
  refine lv_aload_n hx hb d_Jd_named_55 rfl (lv_at hl 0 rfl) ?_
  refine o_get (v := .ref (ad 12)) C in_Jd hP 49 cw_49 rfl 2 (by decide) k_2_76 rfl rfl d_Jd_named_56 ?_
  refine lv_iload hx hb d_Jd_named_59 (lv_at hl 4 rfl) ?_
  obtain ⟨q4, hq4, h⟩ := o_bd_some h
  refine o_V (st1 := [.int q4]) (w1 := (o_cw ad ca u15_rt u15_Sj u15_T0 u15_T1 u15_Rd u15_Pg u15_Pt u15_Mk u15_Lk u15_Ck u15_Jd u15_Ld u15_Pr)) hE.1 C (c_Tx_nextChild_1 hE l x5 u15_T1 u15_Sj u15_T0 u15_Rd u15_Pg u15_Pt u15_Mk u15_Lk u15_Ck u15_Jd u15_Ld u15_Pr u15_rt hq4) hP (hDD _ _ _ _ _ _ _ _ _ _ _ _ _) hS hl.1 rfl cw_12 k_6_28 k_3_222 k_3_223 k_1_2 k_3_224 hv_Tx_nextChild rfl rfl ⟨(Nat.le_of_ble_eq_true rfl), (Nat.le_of_ble_eq_true rfl)⟩ rfl (Nat.le_of_ble_eq_true rfl) ⟨Nat.zero_le _, Nat.zero_le _⟩ rfl d_Jd_named_61 (fun H locs hP hS => ?_)
  refine lv_istore (lv' := [(5, .int q4), (0, .ref (ad 49)), (1, .int u15_x1), (2, .int u15_x2), (3, .long x3), (6, .int x6)]) hx hb d_Jd_named_64 hl (by decide) rfl (fun ls hl => ?_)
  obtain ⟨x6_66, ex6_66⟩ : ∃ y : Int32, y = x6 + (1:Int32) := ⟨_, rfl⟩
  replace h := o_nm_at ex6_66 h
  refine lv_iinc (v := x6_66) (lv' := [(6, .int x6_66), (5, .int q4), (0, .ref (ad 49)), (1, .int u15_x1), (2, .int u15_x2), (3, .long x3)]) hx hb d_Jd_named_66 hl (k := 5) rfl (by rw [ex6_66]; rfl) (by decide) rfl (fun ls hl => ?_)
  refine lv_goto (tgt := 15) hx hb d_Jd_named_69 (by decide) ?_
  cases h
  exact h0 rfl _ _ _ hP hS (lv_sub hl [2, 3, 4, 5, 1, 0] rfl)
set_option maxHeartbeats 4000000 in
set_option maxRecDepth 100000 in
theorem w_Jd_named_b15 {E : (Nat → Prop) → State → Heap → Prop} {p : Program} {l : Launch} {e : Env} {s : State} {m : MethodId} {args : Array Value} {below : List Frame} {meth : Method} {c : Code} {D : va_G} {ad kd sd vd xd : Nat → Nat} {ca : Nat → ClassId} {A : Nat → Prop} {Q : State → Prop} (hE : o_EK E kd sd vd xd) (C : o_Cx E p s m args meth c D o_cls (o_tys ca) "SchemaJudge$Judge" b_Jd_named (some .long) 7 cc_Jd_named A) (hDD : ∀ (rt : Nat) (Sj : SSJ) (T0 : STx) (T1 : STx) (Rd : SRd) (Pg : SPg) (Pt : SPt) (Mk : SMk) (Lk : SLk) (Ck : SCk) (Jd : SJd) (Ld : SLd) (Pr : SPr), va_D A (o_cw ad ca rt Sj T0 T1 Rd Pg Pt Mk Lk Ck Jd Ld Pr)) (n : Nat) (u15_x1 : Int32) (u15_x2 : Int32) (u15_T0 : STx) (u15_T1 : STx) (u15_Sj : SSJ) (u15_Rd : SRd) (u15_Pg : SPg) (u15_Pt : SPt) (u15_Mk : SMk) (u15_Lk : SLk) (u15_Ck : SCk) (u15_Jd : SJd) (u15_Ld : SLd) (u15_Pr : SPr) (u15_rt : Nat) (z : Int64 × Int32 × Int32) (q : Nat × Int64 × Int32 × Int32) (h : m_Jd_named_b15 n u15_x1 u15_x2 u15_T0 u15_T1 z = some q) (h0 : q.1 = 0 → o_At p l e rm_Jd_named s m args below meth c Q o_cls D A 7 15 [] (o_cw ad ca u15_rt u15_Sj u15_T0 u15_T1 u15_Rd u15_Pg u15_Pt u15_Mk u15_Lk u15_Ck u15_Jd u15_Ld u15_Pr) [(0, .ref (ad 49)), (1, .int u15_x1), (2, .int u15_x2), (3, .long q.2.1), (5, .int q.2.2.1), (6, .int q.2.2.2)]) (h1 : q.1 ≠ 0 → (o_At p l e rm_Jd_named s m args below meth c Q o_cls D A 7 72 [] (o_cw ad ca u15_rt u15_Sj u15_T0 u15_T1 u15_Rd u15_Pg u15_Pt u15_Mk u15_Lk u15_Ck u15_Jd u15_Ld u15_Pr) [(3, .long q.2.1)])) : o_At p l e rm_Jd_named s m args below meth c Q o_cls D A 7 15 [] (o_cw ad ca u15_rt u15_Sj u15_T0 u15_T1 u15_Rd u15_Pg u15_Pt u15_Mk u15_Lk u15_Ck u15_Jd u15_Ld u15_Pr) [(0, .ref (ad 49)), (1, .int u15_x1), (2, .int u15_x2), (3, .long z.1), (5, .int z.2.1), (6, .int z.2.2)] := by
  unfold m_Jd_named_b15 at h
  intro H locs ls hP hS hl
  have C0 := C
  obtain ⟨hx, hb, -, -, -, hown, hts, hK, -, -⟩ := C0
  refine lv_iload hx hb d_Jd_named_15 (lv_at hl 5 rfl) ?_
  refine lv_aload_n hx hb d_Jd_named_17 rfl (lv_at hl 0 rfl) ?_
  refine o_get (v := .ref (ad 12)) C in_Jd hP 49 cw_49 rfl 2 (by decide) k_2_76 rfl rfl d_Jd_named_18 ?_
  refine lv_iload_n hx hb d_Jd_named_21 rfl (lv_at hl 2 rfl) ?_
  obtain ⟨q2, hq2, h⟩ := o_bd_some h
  refine o_V (st1 := [.int q2, .int z.2.2]) (w1 := (o_cw ad ca u15_rt u15_Sj u15_T0 u15_T1 u15_Rd u15_Pg u15_Pt u15_Mk u15_Lk u15_Ck u15_Jd u15_Ld u15_Pr)) hE.1 C (c_Tx_size_1 hE l u15_x2 u15_T1 u15_Sj u15_T0 u15_Rd u15_Pg u15_Pt u15_Mk u15_Lk u15_Ck u15_Jd u15_Ld u15_Pr u15_rt hq2) hP (hDD _ _ _ _ _ _ _ _ _ _ _ _ _) hS hl.1 rfl cw_12 k_6_26 k_3_215 k_3_216 k_1_2 k_3_217 hv_Tx_size rfl rfl ⟨(Nat.le_of_ble_eq_true rfl), (Nat.le_of_ble_eq_true rfl)⟩ rfl (Nat.le_of_ble_eq_true rfl) ⟨Nat.zero_le _, Nat.zero_le _⟩ rfl d_Jd_named_22 (fun H locs hP hS => ?_)
  refine lv_icmp_ge (tgt := 72) hx hb d_Jd_named_25 (by decide) (fun c1 => ?_) (fun c1 => ?_)
  · replace h := o_tt c1 h
    cases h
    exact h1 (Nat.succ_ne_zero 0) _ _ _ hP hS (lv_sub hl [3] rfl)
  · replace h := o_ff c1 h
    refine lv_aload_n hx hb d_Jd_named_28 rfl (lv_at hl 0 rfl) ?_
    refine o_get (v := .ref (ad 1)) C in_Jd hP 49 cw_49 rfl 0 (by decide) k_2_74 rfl rfl d_Jd_named_29 ?_
    refine lv_iload_n hx hb d_Jd_named_32 rfl (lv_at hl 1 rfl) ?_
    refine lv_aload_n hx hb d_Jd_named_33 rfl (lv_at hl 0 rfl) ?_
    refine o_get (v := .ref (ad 12)) C in_Jd hP 49 cw_49 rfl 2 (by decide) k_2_76 rfl rfl d_Jd_named_34 ?_
    refine lv_iload hx hb d_Jd_named_37 (lv_at hl 4 rfl) ?_
    refine lv_iconst (v := (1:Int32)) hx hb d_Jd_named_39 (by decide) ?_
    refine lv_isub hx hb d_Jd_named_40 ?_
    obtain ⟨q3, hq3, h⟩ := o_bd_some h
    refine o_V (st1 := [.int q3]) (w1 := (o_cw ad ca u15_rt u15_Sj u15_T0 u15_T1 u15_Rd u15_Pg u15_Pt u15_Mk u15_Lk u15_Ck u15_Jd u15_Ld u15_Pr)) hE.1 C (c_Tx_member_01 hE l n u15_x1 (z.2.1 - (1:Int32)) u15_T0 u15_T1 u15_Sj u15_Rd u15_Pg u15_Pt u15_Mk u15_Lk u15_Ck u15_Jd u15_Ld u15_Pr u15_rt hq3) hP (hDD _ _ _ _ _ _ _ _ _ _ _ _ _) hS hl.1 rfl cw_1 k_6_118 k_3_207 k_3_208 k_1_2 k_3_209 hv_Tx_member rfl rfl ⟨(Nat.le_of_ble_eq_true rfl), (Nat.le_of_ble_eq_true rfl)⟩ rfl (Nat.le_of_ble_eq_true rfl) ⟨Nat.zero_le _, Nat.zero_le _⟩ rfl d_Jd_named_41 (fun H locs hP hS => ?_)
    refine lv_iconst (v := (-1:Int32)) hx hb d_Jd_named_44 (by decide) ?_
    refine lv_icmp_eq (tgt := 55) hx hb d_Jd_named_45 (by decide) (fun c2 => ?_) (fun c2 => ?_)
    · replace h := o_tt c2 h
      exact w_Jd_named_j55 hE C hDD n u15_x1 u15_x2 u15_T0 u15_T1 u15_Sj u15_Rd u15_Pg u15_Pt u15_Mk u15_Lk u15_Ck u15_Jd u15_Ld u15_Pr u15_rt z.1 z.2.1 z.2.2 h h0 h1 _ _ _ hP hS (lv_sub hl [0, 1, 2, 3, 4, 5] rfl)
    · replace h := o_ff c2 h
      refine lv_lload_n hx hb d_Jd_named_48 rfl (lv_at hl 3 rfl) ?_
      refine lv_lconst (v := (1:Int64)) hx hb d_Jd_named_49 (by decide) ?_
      refine lv_iload hx hb d_Jd_named_50 (lv_at hl 5 rfl) ?_
      refine lv_lshl hx hb d_Jd_named_52 rfl ?_
      refine lv_lor hx hb d_Jd_named_53 ?_
      refine lv_topl (fun x3_54 ex3_54 => ?_)
      replace h := o_nm_at ex3_54 h
      refine lv_lstore_n (lv' := [(3, .long x3_54), (0, .ref (ad 49)), (1, .int u15_x1), (2, .int u15_x2), (5, .int z.2.1), (6, .int z.2.2)]) hx hb d_Jd_named_54 rfl hl (by decide) rfl (fun ls hl => ?_)
      exact w_Jd_named_j55 hE C hDD n u15_x1 u15_x2 u15_T0 u15_T1 u15_Sj u15_Rd u15_Pg u15_Pt u15_Mk u15_Lk u15_Ck u15_Jd u15_Ld u15_Pr u15_rt x3_54 z.2.1 z.2.2 h h0 h1 _ _ _ hP hS (lv_sub hl [1, 2, 3, 0, 4, 5] rfl)
set_option maxHeartbeats 4000000 in
set_option maxRecDepth 100000 in
theorem c_Jd_named {E : (Nat → Prop) → State → Heap → Prop} {D : va_G} {ad kd sd vd xd : Nat → Nat} {ca : Nat → ClassId} (hE : o_EK E kd sd vd xd) (l : Launch) (n : Nat) (x1 : Int32) (x2 : Int32) (T0 : STx) (T1 : STx) (Sj : SSJ) (Rd : SRd) (Pg : SPg) (Pt : SPt) (Mk : SMk) (Lk : SLk) (Ck : SCk) (Jd : SJd) (Ld : SLd) (Pr : SPr) (rt : Nat) {r : Int64} (h : m_Jd_named n x1 x2 T0 T1 = some r) : o_Cn E l D o_cls (o_tys ca) y_Jd_named cc_Jd_named rm_Jd_named [.ref (ad 49), .int x1, .int x2] (o_cw ad ca rt Sj T0 T1 Rd Pg Pt Mk Lk Ck Jd Ld Pr) (o_cw ad ca rt Sj T0 T1 Rd Pg Pt Mk Lk Ck Jd Ld Pr) (some (.long r)) := by
  refine o_Cn_of (by decide) (Nat.le_of_ble_eq_true rfl) ?_
  intro p e s m below meth c A ls C hD hP hS hl
  have hDD : ∀ (rt : Nat) (Sj : SSJ) (T0 : STx) (T1 : STx) (Rd : SRd) (Pg : SPg) (Pt : SPt) (Mk : SMk) (Lk : SLk) (Ck : SCk) (Jd : SJd) (Ld : SLd) (Pr : SPr), va_D A (o_cw ad ca rt Sj T0 T1 Rd Pg Pt Mk Lk Ck Jd Ld Pr) := fun _ _ _ _ _ _ _ _ _ _ _ _ _ => o_D_map hD rfl
  have hl : lv_has ls 7 [(0, .ref (ad 49)), (1, .int x1), (2, .int x2)] := hl
  unfold m_Jd_named at h
  have C0 := C
  obtain ⟨hx, hb, -, -, -, hown, hts, hK, -, -⟩ := C0
  refine lv_lconst (v := (0:Int64)) hx hb d_Jd_named_0 (by decide) ?_
  refine lv_lstore_n (lv' := [(3, .long (0:Int64)), (0, .ref (ad 49)), (1, .int x1), (2, .int x2)]) hx hb d_Jd_named_1 rfl hl (by decide) rfl (fun ls hl => ?_)
  refine lv_aload_n hx hb d_Jd_named_2 rfl (lv_at hl 1 rfl) ?_
  refine o_get (v := .ref (ad 12)) C in_Jd hP 49 cw_49 rfl 2 (by decide) k_2_76 rfl rfl d_Jd_named_3 ?_
  refine lv_iload_n hx hb d_Jd_named_6 rfl (lv_at hl 3 rfl) ?_
  obtain ⟨q1, hq1, h⟩ := o_bd_some h
  refine o_V (st1 := [.int q1]) (w1 := (o_cw ad ca rt Sj T0 T1 Rd Pg Pt Mk Lk Ck Jd Ld Pr)) hE.1 C (c_Tx_firstChild_1 hE l x2 T1 Sj T0 Rd Pg Pt Mk Lk Ck Jd Ld Pr rt hq1) hP (hDD _ _ _ _ _ _ _ _ _ _ _ _ _) hS hl.1 rfl cw_12 k_6_25 k_3_211 k_3_212 k_1_2 k_3_213 hv_Tx_firstChild rfl rfl ⟨(Nat.le_of_ble_eq_true rfl), (Nat.le_of_ble_eq_true rfl)⟩ rfl (Nat.le_of_ble_eq_true rfl) ⟨Nat.zero_le _, Nat.zero_le _⟩ rfl d_Jd_named_7 (fun H locs hP hS => ?_)
  refine lv_istore (lv' := [(5, .int q1), (3, .long (0:Int64)), (0, .ref (ad 49)), (1, .int x1), (2, .int x2)]) hx hb d_Jd_named_10 hl (by decide) rfl (fun ls hl => ?_)
  refine lv_iconst (v := (0:Int32)) hx hb d_Jd_named_12 (by decide) ?_
  refine lv_istore (lv' := [(6, .int (0:Int32)), (5, .int q1), (3, .long (0:Int64)), (0, .ref (ad 49)), (1, .int x1), (2, .int x2)]) hx hb d_Jd_named_13 hl (by decide) rfl (fun ls hl => ?_)
  obtain ⟨q5, hq5, h⟩ := o_bd_some h
  refine o_sim2 (AH := fun zz => o_At p l e rm_Jd_named s m _ below meth c _ o_cls D A 7 15 [] (o_cw ad ca rt Sj T0 T1 Rd Pg Pt Mk Lk Ck Jd Ld Pr) [(0, .ref (ad 49)), (1, .int x1), (2, .int x2), (3, .long zz.1), (5, .int zz.2.1), (6, .int zz.2.2)]) (AX := fun qq => o_At p l e rm_Jd_named s m _ below meth c _ o_cls D A 7 72 [] (o_cw ad ca rt Sj T0 T1 Rd Pg Pt Mk Lk Ck Jd Ld Pr) [(3, .long qq.2.1)]) (fun zz qq h h0 h1 => w_Jd_named_b15 hE C hDD n x1 x2 T0 T1 Sj Rd Pg Pt Mk Lk Ck Jd Ld Pr rt zz qq h h0 h1) n _ q5 hq5 ?_ _ _ _ hP hS (lv_sub hl [3, 4, 5, 2, 1, 0] rfl)
  intro H locs ls hP hS hl
  refine lv_lload_n hx hb d_Jd_named_72 rfl (lv_at hl 0 rfl) ?_
  cases h
  exact o_rl C hP hS d_Jd_named_73
set_option maxHeartbeats 4000000 in
set_option maxRecDepth 100000 in
theorem w_Jd_skipped_b162 {E : (Nat → Prop) → State → Heap → Prop} {p : Program} {l : Launch} {e : Env} {s : State} {m : MethodId} {args : Array Value} {below : List Frame} {meth : Method} {c : Code} {D : va_G} {ad kd sd vd xd : Nat → Nat} {ca : Nat → ClassId} {A : Nat → Prop} {Q : State → Prop} (hE : o_EK E kd sd vd xd) (C : o_Cx E p s m args meth c D o_cls (o_tys ca) "SchemaJudge$Judge" b_Jd_skipped (some .long) 12 cc_Jd_skipped A) (hDD : ∀ (rt : Nat) (Sj : SSJ) (T0 : STx) (T1 : STx) (Rd : SRd) (Pg : SPg) (Pt : SPt) (Mk : SMk) (Lk : SLk) (Ck : SCk) (Jd : SJd) (Ld : SLd) (Pr : SPr), va_D A (o_cw ad ca rt Sj T0 T1 Rd Pg Pt Mk Lk Ck Jd Ld Pr)) (n : Nat) (u162_x4 : Int32) (u162_x9 : Int32) (u162_T0 : STx) (u162_T1 : STx) (u162_Mk : SMk) (u162_Jd : SJd) (u162_Sj : SSJ) (u162_Rd : SRd) (u162_Lk : SLk) (u162_Ck : SCk) (u162_Ld : SLd) (u162_Pr : SPr) (u162_rt : Nat) (z : Int64 × Int32 × Int32 × SPg × SPt) (q : Nat × Int64 × Int32 × Int32 × SPg × SPt) (h : m_Jd_skipped_b162 n u162_x4 u162_x9 u162_T0 u162_T1 u162_Mk u162_Jd z = some q) (h0 : q.1 = 0 → o_At p l e rm_Jd_skipped s m args below meth c Q o_cls D A 12 162 [] (o_cw ad ca u162_rt u162_Sj u162_T0 u162_T1 u162_Rd q.2.2.2.2.1 q.2.2.2.2.2 u162_Mk u162_Lk u162_Ck u162_Jd u162_Ld u162_Pr) [(0, .ref (ad 49)), (4, .int u162_x4), (7, .long q.2.1), (9, .int u162_x9), (10, .int q.2.2.1), (11, .int q.2.2.2.1)]) (h1 : q.1 ≠ 0 → (o_At p l e rm_Jd_skipped s m args below meth c Q o_cls D A 12 208 [] (o_cw ad ca u162_rt u162_Sj u162_T0 u162_T1 u162_Rd q.2.2.2.2.1 q.2.2.2.2.2 u162_Mk u162_Lk u162_Ck u162_Jd u162_Ld u162_Pr) [(7, .long q.2.1)])) : o_At p l e rm_Jd_skipped s m args below meth c Q o_cls D A 12 162 [] (o_cw ad ca u162_rt u162_Sj u162_T0 u162_T1 u162_Rd z.2.2.2.1 z.2.2.2.2 u162_Mk u162_Lk u162_Ck u162_Jd u162_Ld u162_Pr) [(0, .ref (ad 49)), (4, .int u162_x4), (7, .long z.1), (9, .int u162_x9), (10, .int z.2.1), (11, .int z.2.2.1)] := by
  unfold m_Jd_skipped_b162 at h
  intro H locs ls hP hS hl
  have C0 := C
  obtain ⟨hx, hb, -, -, -, hown, hts, hK, -, -⟩ := C0
  refine lv_iload hx hb d_Jd_skipped_162 (lv_at hl 5 rfl) ?_
  refine lv_aload_n hx hb d_Jd_skipped_164 rfl (lv_at hl 0 rfl) ?_
  refine o_get (v := .ref (ad 1)) C in_Jd hP 49 cw_49 rfl 0 (by decide) k_2_74 rfl rfl d_Jd_skipped_165 ?_
  refine lv_iload hx hb d_Jd_skipped_168 (lv_at hl 3 rfl) ?_
  obtain ⟨q11, hq11, h⟩ := o_bd_some h
  refine o_V (st1 := [.int q11, .int z.2.2.1]) (w1 := (o_cw ad ca u162_rt u162_Sj u162_T0 u162_T1 u162_Rd z.2.2.2.1 z.2.2.2.2 u162_Mk u162_Lk u162_Ck u162_Jd u162_Ld u162_Pr)) hE.1 C (c_Tx_size_0 hE l u162_x9 u162_T0 u162_Sj u162_T1 u162_Rd z.2.2.2.1 z.2.2.2.2 u162_Mk u162_Lk u162_Ck u162_Jd u162_Ld u162_Pr u162_rt hq11) hP (hDD _ _ _ _ _ _ _ _ _ _ _ _ _) hS hl.1 rfl cw_1 k_6_26 k_3_215 k_3_216 k_1_2 k_3_217 hv_Tx_size rfl rfl ⟨(Nat.le_of_ble_eq_true rfl), (Nat.le_of_ble_eq_true rfl)⟩ rfl (Nat.le_of_ble_eq_true rfl) ⟨Nat.zero_le _, Nat.zero_le _⟩ rfl d_Jd_skipped_170 (fun H locs hP hS => ?_)
  refine lv_icmp_ge (tgt := 208) hx hb d_Jd_skipped_173 (by decide) (fun c6 => ?_) (fun c6 => ?_)
  · replace h := o_tt c6 h
    cases h
    exact h1 (Nat.succ_ne_zero 0) _ _ _ hP hS (lv_sub hl [2] rfl)
  · replace h := o_ff c6 h
    refine lv_lload hx hb d_Jd_skipped_176 (lv_at hl 2 rfl) ?_
    refine lv_aload_n hx hb d_Jd_skipped_178 rfl (lv_at hl 0 rfl) ?_
    refine lv_iload hx hb d_Jd_skipped_179 (lv_at hl 4 rfl) ?_
    refine lv_iconst (v := (1:Int32)) hx hb d_Jd_skipped_181 (by decide) ?_
    refine lv_isub hx hb d_Jd_skipped_182 ?_
    refine lv_iload hx hb d_Jd_skipped_183 (lv_at hl 1 rfl) ?_
    obtain ⟨q12, hq12, h⟩ := o_bd_some h
    refine o_V (st1 := [.long q12.1, .long z.1]) (w1 := (o_cw ad ca u162_rt u162_Sj u162_T0 u162_T1 u162_Rd q12.2.1 q12.2.2 u162_Mk u162_Lk u162_Ck u162_Jd u162_Ld u162_Pr)) hE.1 C (c_Jd_matching hE l n (z.2.1 - (1:Int32)) u162_x4 u162_T0 u162_T1 z.2.2.2.1 z.2.2.2.2 u162_Sj u162_Rd u162_Mk u162_Lk u162_Ck u162_Jd u162_Ld u162_Pr u162_rt hq12) hP (hDD _ _ _ _ _ _ _ _ _ _ _ _ _) hS hl.1 rfl cw_49 k_6_79 k_6_81 k_s_62 k_1_9 k_6_82 hv_Jd_matching rfl rfl ⟨(Nat.le_of_ble_eq_true rfl), (Nat.le_of_ble_eq_true rfl)⟩ rfl (Nat.le_of_ble_eq_true rfl) ⟨Nat.zero_le _, Nat.zero_le _⟩ rfl d_Jd_skipped_185 (fun H locs hP hS => ?_)
    refine lv_lor hx hb d_Jd_skipped_188 ?_
    refine lv_topl (fun x7_189 ex7_189 => ?_)
    replace h := o_nm_at ex7_189 h
    refine lv_lstore (lv' := [(7, .long x7_189), (0, .ref (ad 49)), (4, .int u162_x4), (9, .int u162_x9), (10, .int z.2.1), (11, .int z.2.2.1)]) hx hb d_Jd_skipped_189 hl (by decide) rfl (fun ls hl => ?_)
    refine lv_aload_n hx hb d_Jd_skipped_191 rfl (lv_at hl 1 rfl) ?_
    refine o_get (v := .ref (ad 1)) C in_Jd hP 49 cw_49 rfl 0 (by decide) k_2_74 rfl rfl d_Jd_skipped_192 ?_
    refine lv_iload hx hb d_Jd_skipped_195 (lv_at hl 4 rfl) ?_
    obtain ⟨q13, hq13, h⟩ := o_bd_some h
    refine o_V (st1 := [.int q13]) (w1 := (o_cw ad ca u162_rt u162_Sj u162_T0 u162_T1 u162_Rd q12.2.1 q12.2.2 u162_Mk u162_Lk u162_Ck u162_Jd u162_Ld u162_Pr)) hE.1 C (c_Tx_nextChild_0 hE l z.2.1 u162_T0 u162_Sj u162_T1 u162_Rd q12.2.1 q12.2.2 u162_Mk u162_Lk u162_Ck u162_Jd u162_Ld u162_Pr u162_rt hq13) hP (hDD _ _ _ _ _ _ _ _ _ _ _ _ _) hS hl.1 rfl cw_1 k_6_28 k_3_222 k_3_223 k_1_2 k_3_224 hv_Tx_nextChild rfl rfl ⟨(Nat.le_of_ble_eq_true rfl), (Nat.le_of_ble_eq_true rfl)⟩ rfl (Nat.le_of_ble_eq_true rfl) ⟨Nat.zero_le _, Nat.zero_le _⟩ rfl d_Jd_skipped_197 (fun H locs hP hS => ?_)
    refine lv_istore (lv' := [(10, .int q13), (7, .long x7_189), (0, .ref (ad 49)), (4, .int u162_x4), (9, .int u162_x9), (11, .int z.2.2.1)]) hx hb d_Jd_skipped_200 hl (by decide) rfl (fun ls hl => ?_)
    obtain ⟨x11_202, ex11_202⟩ : ∃ y : Int32, y = z.2.2.1 + (1:Int32) := ⟨_, rfl⟩
    replace h := o_nm_at ex11_202 h
    refine lv_iinc (v := x11_202) (lv' := [(11, .int x11_202), (10, .int q13), (7, .long x7_189), (0, .ref (ad 49)), (4, .int u162_x4), (9, .int u162_x9)]) hx hb d_Jd_skipped_202 hl (k := 5) rfl (by rw [ex11_202]; rfl) (by decide) rfl (fun ls hl => ?_)
    refine lv_goto (tgt := 162) hx hb d_Jd_skipped_205 (by decide) ?_
    cases h
    exact h0 rfl _ _ _ hP hS (lv_sub hl [3, 4, 2, 5, 1, 0] rfl)
set_option maxHeartbeats 4000000 in
set_option maxRecDepth 100000 in
theorem c_Jd_skipped {E : (Nat → Prop) → State → Heap → Prop} {D : va_G} {ad kd sd vd xd : Nat → Nat} {ca : Nat → ClassId} (hE : o_EK E kd sd vd xd) (l : Launch) (n : Nat) (x1 : Nat) (gx1 : o_kb x1 = true) (x2 : Int32) (x3 : Int32) (x4 : Int32) (x5 : Int32) (T0 : STx) (T1 : STx) (Pg : SPg) (Pt : SPt) (Mk : SMk) (Jd : SJd) (Sj : SSJ) (Rd : SRd) (Lk : SLk) (Ck : SCk) (Ld : SLd) (Pr : SPr) (rt : Nat) {r : Int64 × SPg × SPt} (h : m_Jd_skipped n x1 x2 x3 x4 x5 T0 T1 Pg Pt Mk Jd = some r) : o_Cn E l D o_cls (o_tys ca) y_Jd_skipped cc_Jd_skipped rm_Jd_skipped [.ref (ad 49), .ref (kd x1), .int x2, .int x3, .int x4, .int x5] (o_cw ad ca rt Sj T0 T1 Rd Pg Pt Mk Lk Ck Jd Ld Pr) (o_cw ad ca rt Sj T0 T1 Rd r.2.1 r.2.2 Mk Lk Ck Jd Ld Pr) (some (.long r.1)) := by
  refine o_Cn_of (by decide) (Nat.le_of_ble_eq_true rfl) ?_
  intro p e s m below meth c A ls C hD hP hS hl
  have hDD : ∀ (rt : Nat) (Sj : SSJ) (T0 : STx) (T1 : STx) (Rd : SRd) (Pg : SPg) (Pt : SPt) (Mk : SMk) (Lk : SLk) (Ck : SCk) (Jd : SJd) (Ld : SLd) (Pr : SPr), va_D A (o_cw ad ca rt Sj T0 T1 Rd Pg Pt Mk Lk Ck Jd Ld Pr) := fun _ _ _ _ _ _ _ _ _ _ _ _ _ => o_D_map hD rfl
  have hl : lv_has ls 12 [(0, .ref (ad 49)), (1, .ref (kd x1)), (2, .int x2), (3, .int x3), (4, .int x4), (5, .int x5)] := hl
  unfold m_Jd_skipped at h
  have C0 := C
  obtain ⟨hx, hb, -, -, -, hown, hts, hK, -, -⟩ := C0
  refine va_gets (v := .ref (xd 1)) hx hb (hE.2.2.2.2.1 _ _ _ C.2.2.2.2.2.2.2.2.2).1 hS hown (hts _ k_6_62) (fun _ h9 => h9) d_Jd_skipped_0 ?_
  refine lv_aload_n hx hb d_Jd_skipped_3 rfl (lv_at hl 1 rfl) ?_
  refine o_ord (st1 := [.int (nI x1), .ref (xd 1)]) hE C gx1 hP (hDD _ _ _ _ _ _ _ _ _ _ _ _ _) hS hl.1 k_6_64 (Nat.le_of_ble_eq_true rfl) (Nat.le_of_ble_eq_true rfl) rfl (Nat.le_of_ble_eq_true rfl) d_Jd_skipped_4 (fun H locs hP hS => ?_)
  obtain ⟨g1, h⟩ := o_gd_some h
  refine va_ti (v := .int (sw_Keyword (nI x1).toNatClampNeg)) hx hb (hE.2.2.2.2.1 _ _ _ C.2.2.2.2.2.2.2.2.2).2 hS (o_in_in g1) rfl d_Jd_skipped_7 ?_
  refine lv_topi (fun w8 ew8 => ?_)
  replace h := o_nm_at ew8 h
  by_cases c2 : w8 = (4:Int32)
  · replace h := o_tt c2 h
    refine lv_tableIn (off := 36) (tgt := 44) hx hb d_Jd_skipped_8 (by rw [c2]; decide) (by rw [c2]; decide) (by rw [c2]; rfl) (by decide) ?_
    refine lv_aload_n hx hb d_Jd_skipped_44 rfl (lv_at hl 0 rfl) ?_
    refine o_get (v := .ref (ad 39)) C in_Jd hP 49 cw_49 rfl 1 (by decide) k_2_75 rfl rfl d_Jd_skipped_45 ?_
    refine lv_aload_n hx hb d_Jd_skipped_48 rfl (lv_at hl 0 rfl) ?_
    refine o_get (v := .ref (ad 1)) C in_Jd hP 49 cw_49 rfl 0 (by decide) k_2_74 rfl rfl d_Jd_skipped_49 ?_
    refine lv_iload_n hx hb d_Jd_skipped_52 rfl (lv_at hl 2 rfl) ?_
    obtain ⟨q1, hq1, h⟩ := o_bd_some h
    refine o_V (st1 := [.int q1, .ref (ad 39)]) (w1 := (o_cw ad ca rt Sj T0 T1 Rd Pg Pt Mk Lk Ck Jd Ld Pr)) hE.1 C (c_Tx_parent_0 hE l x2 T0 Sj T1 Rd Pg Pt Mk Lk Ck Jd Ld Pr rt hq1) hP (hDD _ _ _ _ _ _ _ _ _ _ _ _ _) hS hl.1 rfl cw_1 k_6_70 k_5_196 k_5_197 k_1_2 k_5_198 hv_Tx_parent rfl rfl ⟨(Nat.le_of_ble_eq_true rfl), (Nat.le_of_ble_eq_true rfl)⟩ rfl (Nat.le_of_ble_eq_true rfl) ⟨Nat.zero_le _, Nat.zero_le _⟩ rfl d_Jd_skipped_53 (fun H locs hP hS => ?_)
    refine va_gets (v := .ref (kd 14)) hx hb ((hE.2.2.1 _ _ _ C.2.2.2.2.2.2.2.2.2).1 14 (by decide)).1 hS hown (hts _ k_6_71) (fun _ h9 => h9) d_Jd_skipped_56 ?_
    obtain ⟨q2, hq2, h⟩ := o_bd_some h
    refine o_V (st1 := [.int q2]) (w1 := (o_cw ad ca rt Sj T0 T1 Rd Pg Pt Mk Lk Ck Jd Ld Pr)) hE.1 C (c_Mk_find hE l n q1 14 rfl T0 Mk Sj T1 Rd Pg Pt Lk Ck Jd Ld Pr rt hq2) hP (hDD _ _ _ _ _ _ _ _ _ _ _ _ _) hS hl.1 rfl cw_39 k_6_73 k_6_74 k_6_75 k_1_6 k_6_76 hv_Mk_find rfl rfl ⟨(Nat.le_of_ble_eq_true rfl), (Nat.le_of_ble_eq_true rfl)⟩ rfl (Nat.le_of_ble_eq_true rfl) ⟨Nat.zero_le _, Nat.zero_le _⟩ rfl d_Jd_skipped_59 (fun H locs hP hS => ?_)
    refine lv_istore (lv' := [(6, .int q2), (0, .ref (ad 49)), (1, .ref (kd x1)), (2, .int x2), (3, .int x3), (4, .int x4), (5, .int x5)]) hx hb d_Jd_skipped_62 hl (by decide) rfl (fun ls hl => ?_)
    refine lv_iload hx hb d_Jd_skipped_64 (lv_at hl 0 rfl) ?_
    refine lv_iconst (v := (-1:Int32)) hx hb d_Jd_skipped_66 (by decide) ?_
    refine lv_icmp_ne (tgt := 74) hx hb d_Jd_skipped_67 (by decide) (fun c3 => ?_) (fun c3 => ?_)
    · replace h := o_ff c3 h
      refine lv_lconst (v := (1:Int64)) hx hb d_Jd_skipped_74 (by decide) ?_
      refine lv_aload_n hx hb d_Jd_skipped_75 rfl (lv_at hl 1 rfl) ?_
      refine o_get (v := .ref (ad 1)) C in_Jd hP 49 cw_49 rfl 0 (by decide) k_2_74 rfl rfl d_Jd_skipped_76 ?_
      refine lv_iload hx hb d_Jd_skipped_79 (lv_at hl 0 rfl) ?_
      obtain ⟨q3, hq3, h⟩ := o_bd_some h
      refine o_V (st1 := [.int q3, .long (1:Int64)]) (w1 := (o_cw ad ca rt Sj T0 T1 Rd Pg Pt Mk Lk Ck Jd Ld Pr)) hE.1 C (c_Tx_size_0 hE l q2 T0 Sj T1 Rd Pg Pt Mk Lk Ck Jd Ld Pr rt hq3) hP (hDD _ _ _ _ _ _ _ _ _ _ _ _ _) hS hl.1 rfl cw_1 k_6_26 k_3_215 k_3_216 k_1_2 k_3_217 hv_Tx_size rfl rfl ⟨(Nat.le_of_ble_eq_true rfl), (Nat.le_of_ble_eq_true rfl)⟩ rfl (Nat.le_of_ble_eq_true rfl) ⟨Nat.zero_le _, Nat.zero_le _⟩ rfl d_Jd_skipped_81 (fun H locs hP hS => ?_)
      refine lv_lshl hx hb d_Jd_skipped_84 rfl ?_
      refine lv_lconst (v := (1:Int64)) hx hb d_Jd_skipped_85 (by decide) ?_
      refine lv_lsub hx hb d_Jd_skipped_86 ?_
      cases h
      exact o_rl C hP hS d_Jd_skipped_87
    · replace h := o_tt c3 h
      refine lv_lconst (v := (0:Int64)) hx hb d_Jd_skipped_70 (by decide) ?_
      refine lv_goto (tgt := 87) hx hb d_Jd_skipped_71 (by decide) ?_
      cases h
      exact o_rl C hP hS d_Jd_skipped_87
  replace h := o_ff c2 h
  by_cases c4 : w8 = (5:Int32)
  · replace h := o_tt c4 h
    refine lv_tableIn (off := 80) (tgt := 88) hx hb d_Jd_skipped_8 (by rw [c4]; decide) (by rw [c4]; decide) (by rw [c4]; rfl) (by decide) ?_
    refine lv_aload_n hx hb d_Jd_skipped_88 rfl (lv_at hl 0 rfl) ?_
    refine lv_iload_n hx hb d_Jd_skipped_89 rfl (lv_at hl 3 rfl) ?_
    refine lv_iconst (v := (1:Int32)) hx hb d_Jd_skipped_90 (by decide) ?_
    refine lv_isub hx hb d_Jd_skipped_91 ?_
    refine lv_iload hx hb d_Jd_skipped_92 (lv_at hl 4 rfl) ?_
    obtain ⟨q4, hq4, h⟩ := o_bd_some h
    refine o_V (st1 := [.long q4.1]) (w1 := (o_cw ad ca rt Sj T0 T1 Rd q4.2.1 q4.2.2 Mk Lk Ck Jd Ld Pr)) hE.1 C (c_Jd_matching hE l n (x3 - (1:Int32)) x4 T0 T1 Pg Pt Sj Rd Mk Lk Ck Jd Ld Pr rt hq4) hP (hDD _ _ _ _ _ _ _ _ _ _ _ _ _) hS hl.1 rfl cw_49 k_6_79 k_6_81 k_s_62 k_1_9 k_6_82 hv_Jd_matching rfl rfl ⟨(Nat.le_of_ble_eq_true rfl), (Nat.le_of_ble_eq_true rfl)⟩ rfl (Nat.le_of_ble_eq_true rfl) ⟨Nat.zero_le _, Nat.zero_le _⟩ rfl d_Jd_skipped_94 (fun H locs hP hS => ?_)
    refine lv_ldc2 (v := (-1:Int64)) hx hb hown (hts _ k_6_111) d_Jd_skipped_97 ?_
    refine lv_lxor hx hb d_Jd_skipped_100 ?_
    cases h
    exact o_rl C hP hS d_Jd_skipped_101
  replace h := o_ff c4 h
  by_cases c5 : w8 = (6:Int32)
  · replace h := o_tt c5 h
    refine lv_tableIn (off := 94) (tgt := 102) hx hb d_Jd_skipped_8 (by rw [c5]; decide) (by rw [c5]; decide) (by rw [c5]; rfl) (by decide) ?_
    refine lv_aload_n hx hb d_Jd_skipped_102 rfl (lv_at hl 0 rfl) ?_
    refine lv_aload_n hx hb d_Jd_skipped_103 rfl (lv_at hl 0 rfl) ?_
    refine o_get (v := .ref (ad 39)) C in_Jd hP 49 cw_49 rfl 1 (by decide) k_2_75 rfl rfl d_Jd_skipped_104 ?_
    refine lv_aload_n hx hb d_Jd_skipped_107 rfl (lv_at hl 0 rfl) ?_
    refine o_get (v := .ref (ad 1)) C in_Jd hP 49 cw_49 rfl 0 (by decide) k_2_74 rfl rfl d_Jd_skipped_108 ?_
    refine lv_iload_n hx hb d_Jd_skipped_111 rfl (lv_at hl 2 rfl) ?_
    obtain ⟨q5, hq5, h⟩ := o_bd_some h
    refine o_V (st1 := [.int q5, .ref (ad 39), .ref (ad 49)]) (w1 := (o_cw ad ca rt Sj T0 T1 Rd Pg Pt Mk Lk Ck Jd Ld Pr)) hE.1 C (c_Tx_parent_0 hE l x2 T0 Sj T1 Rd Pg Pt Mk Lk Ck Jd Ld Pr rt hq5) hP (hDD _ _ _ _ _ _ _ _ _ _ _ _ _) hS hl.1 rfl cw_1 k_6_70 k_5_196 k_5_197 k_1_2 k_5_198 hv_Tx_parent rfl rfl ⟨(Nat.le_of_ble_eq_true rfl), (Nat.le_of_ble_eq_true rfl)⟩ rfl (Nat.le_of_ble_eq_true rfl) ⟨Nat.zero_le _, Nat.zero_le _⟩ rfl d_Jd_skipped_112 (fun H locs hP hS => ?_)
    refine va_gets (v := .ref (kd 16)) hx hb ((hE.2.2.1 _ _ _ C.2.2.2.2.2.2.2.2.2).1 16 (by decide)).1 hS hown (hts _ k_6_112) (fun _ h9 => h9) d_Jd_skipped_115 ?_
    obtain ⟨q6, hq6, h⟩ := o_bd_some h
    refine o_V (st1 := [.int q6, .ref (ad 49)]) (w1 := (o_cw ad ca rt Sj T0 T1 Rd Pg Pt Mk Lk Ck Jd Ld Pr)) hE.1 C (c_Mk_find hE l n q5 16 rfl T0 Mk Sj T1 Rd Pg Pt Lk Ck Jd Ld Pr rt hq6) hP (hDD _ _ _ _ _ _ _ _ _ _ _ _ _) hS hl.1 rfl cw_39 k_6_73 k_6_74 k_6_75 k_1_6 k_6_76 hv_Mk_find rfl rfl ⟨(Nat.le_of_ble_eq_true rfl), (Nat.le_of_ble_eq_true rfl)⟩ rfl (Nat.le_of_ble_eq_true rfl) ⟨Nat.zero_le _, Nat.zero_le _⟩ rfl d_Jd_skipped_118 (fun H locs hP hS => ?_)
    refine lv_iload hx hb d_Jd_skipped_121 (lv_at hl 4 rfl) ?_
    obtain ⟨q7, hq7, h⟩ := o_bd_some h
    refine o_V (st1 := [.long q7]) (w1 := (o_cw ad ca rt Sj T0 T1 Rd Pg Pt Mk Lk Ck Jd Ld Pr)) hE.1 C (c_Jd_named hE l n q6 x4 T0 T1 Sj Rd Pg Pt Mk Lk Ck Jd Ld Pr rt hq7) hP (hDD _ _ _ _ _ _ _ _ _ _ _ _ _) hS hl.1 rfl cw_49 k_6_114 k_6_116 k_s_67 k_1_9 k_6_117 hv_Jd_named rfl rfl ⟨(Nat.le_of_ble_eq_true rfl), (Nat.le_of_ble_eq_true rfl)⟩ rfl (Nat.le_of_ble_eq_true rfl) ⟨Nat.zero_le _, Nat.zero_le _⟩ rfl d_Jd_skipped_123 (fun H locs hP hS => ?_)
    refine lv_lstore (lv' := [(7, .long q7), (0, .ref (ad 49)), (1, .ref (kd x1)), (2, .int x2), (3, .int x3), (4, .int x4), (5, .int x5)]) hx hb d_Jd_skipped_126 hl (by decide) rfl (fun ls hl => ?_)
    refine lv_aload_n hx hb d_Jd_skipped_128 rfl (lv_at hl 1 rfl) ?_
    refine o_get (v := .ref (ad 39)) C in_Jd hP 49 cw_49 rfl 1 (by decide) k_2_75 rfl rfl d_Jd_skipped_129 ?_
    refine lv_aload_n hx hb d_Jd_skipped_132 rfl (lv_at hl 1 rfl) ?_
    refine o_get (v := .ref (ad 1)) C in_Jd hP 49 cw_49 rfl 0 (by decide) k_2_74 rfl rfl d_Jd_skipped_133 ?_
    refine lv_iload_n hx hb d_Jd_skipped_136 rfl (lv_at hl 3 rfl) ?_
    obtain ⟨q8, hq8, h⟩ := o_bd_some h
    refine o_V (st1 := [.int q8, .ref (ad 39)]) (w1 := (o_cw ad ca rt Sj T0 T1 Rd Pg Pt Mk Lk Ck Jd Ld Pr)) hE.1 C (c_Tx_parent_0 hE l x2 T0 Sj T1 Rd Pg Pt Mk Lk Ck Jd Ld Pr rt hq8) hP (hDD _ _ _ _ _ _ _ _ _ _ _ _ _) hS hl.1 rfl cw_1 k_6_70 k_5_196 k_5_197 k_1_2 k_5_198 hv_Tx_parent rfl rfl ⟨(Nat.le_of_ble_eq_true rfl), (Nat.le_of_ble_eq_true rfl)⟩ rfl (Nat.le_of_ble_eq_true rfl) ⟨Nat.zero_le _, Nat.zero_le _⟩ rfl d_Jd_skipped_137 (fun H locs hP hS => ?_)
    refine va_gets (v := .ref (kd 17)) hx hb ((hE.2.2.1 _ _ _ C.2.2.2.2.2.2.2.2.2).1 17 (by decide)).1 hS hown (hts _ k_6_119) (fun _ h9 => h9) d_Jd_skipped_140 ?_
    obtain ⟨q9, hq9, h⟩ := o_bd_some h
    refine o_V (st1 := [.int q9]) (w1 := (o_cw ad ca rt Sj T0 T1 Rd Pg Pt Mk Lk Ck Jd Ld Pr)) hE.1 C (c_Mk_find hE l n q8 17 rfl T0 Mk Sj T1 Rd Pg Pt Lk Ck Jd Ld Pr rt hq9) hP (hDD _ _ _ _ _ _ _ _ _ _ _ _ _) hS hl.1 rfl cw_39 k_6_73 k_6_74 k_6_75 k_1_6 k_6_76 hv_Mk_find rfl rfl ⟨(Nat.le_of_ble_eq_true rfl), (Nat.le_of_ble_eq_true rfl)⟩ rfl (Nat.le_of_ble_eq_true rfl) ⟨Nat.zero_le _, Nat.zero_le _⟩ rfl d_Jd_skipped_143 (fun H locs hP hS => ?_)
    refine lv_istore (lv' := [(9, .int q9), (7, .long q7), (0, .ref (ad 49)), (1, .ref (kd x1)), (2, .int x2), (3, .int x3), (4, .int x4), (5, .int x5)]) hx hb d_Jd_skipped_146 hl (by decide) rfl (fun ls hl => ?_)
    refine lv_aload_n hx hb d_Jd_skipped_148 rfl (lv_at hl 2 rfl) ?_
    refine o_get (v := .ref (ad 1)) C in_Jd hP 49 cw_49 rfl 0 (by decide) k_2_74 rfl rfl d_Jd_skipped_149 ?_
    refine lv_iload hx hb d_Jd_skipped_152 (lv_at hl 0 rfl) ?_
    obtain ⟨q10, hq10, h⟩ := o_bd_some h
    refine o_V (st1 := [.int q10]) (w1 := (o_cw ad ca rt Sj T0 T1 Rd Pg Pt Mk Lk Ck Jd Ld Pr)) hE.1 C (c_Tx_firstChild_0 hE l q9 T0 Sj T1 Rd Pg Pt Mk Lk Ck Jd Ld Pr rt hq10) hP (hDD _ _ _ _ _ _ _ _ _ _ _ _ _) hS hl.1 rfl cw_1 k_6_25 k_3_211 k_3_212 k_1_2 k_3_213 hv_Tx_firstChild rfl rfl ⟨(Nat.le_of_ble_eq_true rfl), (Nat.le_of_ble_eq_true rfl)⟩ rfl (Nat.le_of_ble_eq_true rfl) ⟨Nat.zero_le _, Nat.zero_le _⟩ rfl d_Jd_skipped_154 (fun H locs hP hS => ?_)
    refine lv_istore (lv' := [(10, .int q10), (9, .int q9), (7, .long q7), (0, .ref (ad 49)), (1, .ref (kd x1)), (2, .int x2), (3, .int x3), (4, .int x4), (5, .int x5)]) hx hb d_Jd_skipped_157 hl (by decide) rfl (fun ls hl => ?_)
    refine lv_iconst (v := (0:Int32)) hx hb d_Jd_skipped_159 (by decide) ?_
    refine lv_istore (lv' := [(11, .int (0:Int32)), (10, .int q10), (9, .int q9), (7, .long q7), (0, .ref (ad 49)), (1, .ref (kd x1)), (2, .int x2), (3, .int x3), (4, .int x4), (5, .int x5)]) hx hb d_Jd_skipped_160 hl (by decide) rfl (fun ls hl => ?_)
    obtain ⟨q14, hq14, h⟩ := o_bd_some h
    refine o_sim2 (AH := fun zz => o_At p l e rm_Jd_skipped s m _ below meth c _ o_cls D A 12 162 [] (o_cw ad ca rt Sj T0 T1 Rd zz.2.2.2.1 zz.2.2.2.2 Mk Lk Ck Jd Ld Pr) [(0, .ref (ad 49)), (4, .int x4), (7, .long zz.1), (9, .int q9), (10, .int zz.2.1), (11, .int zz.2.2.1)]) (AX := fun qq => o_At p l e rm_Jd_skipped s m _ below meth c _ o_cls D A 12 208 [] (o_cw ad ca rt Sj T0 T1 Rd qq.2.2.2.2.1 qq.2.2.2.2.2 Mk Lk Ck Jd Ld Pr) [(7, .long qq.2.1)]) (fun zz qq h h0 h1 => w_Jd_skipped_b162 hE C hDD n x4 q9 T0 T1 Mk Jd Sj Rd Lk Ck Ld Pr rt zz qq h h0 h1) n _ q14 hq14 ?_ _ _ _ hP hS (lv_sub hl [4, 8, 3, 2, 1, 0] rfl)
    intro H locs ls hP hS hl
    refine lv_lload hx hb d_Jd_skipped_208 (lv_at hl 0 rfl) ?_
    cases h
    exact o_rl C hP hS d_Jd_skipped_210
  replace h := o_ff c5 h
  by_cases c7 : w8 = (7:Int32)
  · replace h := o_tt c7 h
    refine lv_tableIn (off := 203) (tgt := 211) hx hb d_Jd_skipped_8 (by rw [c7]; decide) (by rw [c7]; decide) (by rw [c7]; rfl) (by decide) ?_
    refine lv_iload hx hb d_Jd_skipped_211 (lv_at hl 5 rfl) ?_
    refine lv_if_lt (tgt := 236) hx hb d_Jd_skipped_213 (by decide) (fun c8 => ?_) (fun c8 => ?_)
    · replace h := o_tt c8 h
      refine lv_lconst (v := (0:Int64)) hx hb d_Jd_skipped_236 (by decide) ?_
      cases h
      exact o_rl C hP hS d_Jd_skipped_237
    · replace h := o_ff c8 h
      refine lv_iload hx hb d_Jd_skipped_216 (lv_at hl 5 rfl) ?_
      refine lv_aload_n hx hb d_Jd_skipped_218 rfl (lv_at hl 0 rfl) ?_
      refine o_get (v := .ref (ad 50)) C in_Jd hP 49 cw_49 rfl 7 (by decide) k_2_81 rfl rfl d_Jd_skipped_219 ?_
      refine va_alen (v := (102:Int32)) hx hb hK hP 50 40 cw_50 rfl rfl d_Jd_skipped_222 ?_
      refine lv_icmp_ge (tgt := 236) hx hb d_Jd_skipped_223 (by decide) (fun c9 => ?_) (fun c9 => ?_)
      · replace h := o_tt c9 h
        refine lv_lconst (v := (0:Int64)) hx hb d_Jd_skipped_236 (by decide) ?_
        cases h
        exact o_rl C hP hS d_Jd_skipped_237
      · replace h := o_ff c9 h
        refine lv_aload_n hx hb d_Jd_skipped_226 rfl (lv_at hl 0 rfl) ?_
        refine o_get (v := .ref (ad 50)) C in_Jd hP 49 cw_49 rfl 7 (by decide) k_2_81 rfl rfl d_Jd_skipped_227 ?_
        refine lv_iload hx hb d_Jd_skipped_230 (lv_at hl 5 rfl) ?_
        obtain ⟨g10, h⟩ := o_gd_some h
        refine o_lald (f := (Jd_evaluated Jd)) C hP 50 40 cw_50 rfl g10 d_Jd_skipped_232 ?_
        refine lv_goto (tgt := 237) hx hb d_Jd_skipped_233 (by decide) ?_
        cases h
        exact o_rl C hP hS d_Jd_skipped_237
  replace h := o_ff c7 h
  by_cases c11 : w8 = (8:Int32)
  · replace h := o_tt c11 h
    refine lv_tableIn (off := 203) (tgt := 211) hx hb d_Jd_skipped_8 (by rw [c11]; decide) (by rw [c11]; decide) (by rw [c11]; rfl) (by decide) ?_
    refine lv_iload hx hb d_Jd_skipped_211 (lv_at hl 5 rfl) ?_
    refine lv_if_lt (tgt := 236) hx hb d_Jd_skipped_213 (by decide) (fun c12 => ?_) (fun c12 => ?_)
    · replace h := o_tt c12 h
      refine lv_lconst (v := (0:Int64)) hx hb d_Jd_skipped_236 (by decide) ?_
      cases h
      exact o_rl C hP hS d_Jd_skipped_237
    · replace h := o_ff c12 h
      refine lv_iload hx hb d_Jd_skipped_216 (lv_at hl 5 rfl) ?_
      refine lv_aload_n hx hb d_Jd_skipped_218 rfl (lv_at hl 0 rfl) ?_
      refine o_get (v := .ref (ad 50)) C in_Jd hP 49 cw_49 rfl 7 (by decide) k_2_81 rfl rfl d_Jd_skipped_219 ?_
      refine va_alen (v := (102:Int32)) hx hb hK hP 50 40 cw_50 rfl rfl d_Jd_skipped_222 ?_
      refine lv_icmp_ge (tgt := 236) hx hb d_Jd_skipped_223 (by decide) (fun c13 => ?_) (fun c13 => ?_)
      · replace h := o_tt c13 h
        refine lv_lconst (v := (0:Int64)) hx hb d_Jd_skipped_236 (by decide) ?_
        cases h
        exact o_rl C hP hS d_Jd_skipped_237
      · replace h := o_ff c13 h
        refine lv_aload_n hx hb d_Jd_skipped_226 rfl (lv_at hl 0 rfl) ?_
        refine o_get (v := .ref (ad 50)) C in_Jd hP 49 cw_49 rfl 7 (by decide) k_2_81 rfl rfl d_Jd_skipped_227 ?_
        refine lv_iload hx hb d_Jd_skipped_230 (lv_at hl 5 rfl) ?_
        obtain ⟨g14, h⟩ := o_gd_some h
        refine o_lald (f := (Jd_evaluated Jd)) C hP 50 40 cw_50 rfl g14 d_Jd_skipped_232 ?_
        refine lv_goto (tgt := 237) hx hb d_Jd_skipped_233 (by decide) ?_
        cases h
        exact o_rl C hP hS d_Jd_skipped_237
  replace h := o_ff c11 h
  refine lv_tableOut (tgt := 238) hx hb d_Jd_skipped_8 (by have ec2 := o_ne_i (n := 4) (by decide) c2; have ec4 := o_ne_i (n := 5) (by decide) c4; have ec5 := o_ne_i (n := 6) (by decide) c5; have ec7 := o_ne_i (n := 7) (by decide) c7; have ec11 := o_ne_i (n := 8) (by decide) c11; omega) (by decide) ?_
  refine lv_lconst (v := (0:Int64)) hx hb d_Jd_skipped_238 (by decide) ?_
  cases h
  exact o_rl C hP hS d_Jd_skipped_239
