set_option maxHeartbeats 4000000 in
set_option maxRecDepth 100000 in
theorem f_MM_has_1_b10 {E : (Nat → Prop) → State → Heap → Prop} {p : Program} {l : Launch} {e : Env} {s : State} {m : MethodId} {args : Array Value} {below : List Frame} {meth : Method} {c : Code} {D : va_G} {ad kd sd vd xd : Nat → Nat} {ca : Nat → ClassId} {A : Nat → Prop} {ky ty : Nat → Option Nat} {Q : State → Prop} (hE : o_EK E kd sd vd xd) (hKy : m_KY ky ty sd) (C : o_Cx E p s m args meth c D m_cls (m_tys ca) "SchemaJudgeModel" b_MM_has_1 (some .boolean) 5 cc_MM_has_1 A) (hDD : ∀ (rt : Nat) (Mm : SMM) (M0 : SMT) (M1 : SMT), va_D A (m_cw ad ca ky ty rt Mm M0 M1)) (n : Nat) (u10_x1 : Int32) (u10_x2 : Int32) (u10_Mm : SMM) (u10_M0 : SMT) (u10_M1 : SMT) (u10_rt : Nat) (z : Int32 × Int32) (q : Nat × Int32 × Int32) (h : m_MM_has_1_b10 n u10_x1 u10_x2 u10_Mm z = some q) (h0 : q.1 = 0 → o_At p l e rm_MM_has_1 s m args below meth c Q m_cls D A 5 10 [] (m_cw ad ca ky ty u10_rt u10_Mm u10_M0 u10_M1) [(0, .ref (ad 0)), (1, .int u10_x1), (2, .int u10_x2), (3, .int q.2.1), (4, .int q.2.2)]) (h1 : q.1 ≠ 0 → (o_At p l e rm_MM_has_1 s m args below meth c Q m_cls D A 5 59 [] (m_cw ad ca ky ty u10_rt u10_Mm u10_M0 u10_M1) [(0, .ref (ad 0)), (1, .int u10_x1), (3, .int q.2.1)])) : o_At p l e rm_MM_has_1 s m args below meth c Q m_cls D A 5 10 [] (m_cw ad ca ky ty u10_rt u10_Mm u10_M0 u10_M1) [(0, .ref (ad 0)), (1, .int u10_x1), (2, .int u10_x2), (3, .int z.1), (4, .int z.2)] := by
  unfold m_MM_has_1_b10 at h
  intro H locs ls hP hS hl
  have C0 := C
  obtain ⟨hx, hb, -, -, -, hown, hts, hK, -, -⟩ := C0
  refine lv_iload hx hb d_MM_has_1_10 (lv_at hl 4 rfl) ?_
  refine lv_aload_n hx hb d_MM_has_1_12 rfl (lv_at hl 0 rfl) ?_
  refine o_get (v := .ref (ad 10)) C in_MM hP 0 mw_0 rfl 14 (by decide) k_8_4 rfl rfl d_MM_has_1_13 ?_
  refine lv_iload_n hx hb d_MM_has_1_16 rfl (lv_at hl 1 rfl) ?_
  obtain ⟨g2, h⟩ := o_gd_some h
  refine o_iald (f := (MM_setTo u10_Mm)) C hP 10 9 mw_10 rfl g2 d_MM_has_1_17 ?_
  refine lv_icmp_ge (tgt := 59) hx hb d_MM_has_1_18 (by decide) (fun c3 => ?_) (fun c3 => ?_)
  · replace h := o_tt c3 h
    cases h
    exact h1 (Nat.succ_ne_zero 0) _ _ _ hP hS (lv_sub hl [0, 1, 3] rfl)
  · replace h := o_ff c3 h
    refine lv_iload_n hx hb d_MM_has_1_21 rfl (lv_at hl 3 rfl) ?_
    refine lv_if_ne (tgt := 59) hx hb d_MM_has_1_22 (by decide) (fun c4 => ?_) (fun c4 => ?_)
    · replace h := o_ff c4 h
      cases h
      exact h1 (Nat.succ_ne_zero 0) _ _ _ hP hS (lv_sub hl [0, 1, 3] rfl)
    · replace h := o_tt c4 h
      refine lv_iload_n hx hb d_MM_has_1_25 rfl (lv_at hl 2 rfl) ?_
      refine lv_aload_n hx hb d_MM_has_1_26 rfl (lv_at hl 0 rfl) ?_
      refine o_get (v := .ref (ad 7)) C in_MM hP 0 mw_0 rfl 11 (by decide) k_8_1 rfl rfl d_MM_has_1_27 ?_
      refine lv_iload hx hb d_MM_has_1_30 (lv_at hl 4 rfl) ?_
      obtain ⟨g5, h⟩ := o_gd_some h
      refine o_iald (f := (MM_low u10_Mm)) C hP 7 6 mw_7 rfl g5 d_MM_has_1_32 ?_
      refine lv_icmp_lt (tgt := 51) hx hb d_MM_has_1_33 (by decide) (fun c6 => ?_) (fun c6 => ?_)
      · replace h := o_tt c6 h
        refine lv_iconst (v := (0:Int32)) hx hb d_MM_has_1_51 (by decide) ?_
        refine lv_istore_n (lv' := [(3, .int (0:Int32)), (0, .ref (ad 0)), (1, .int u10_x1), (2, .int u10_x2), (4, .int z.2)]) hx hb d_MM_has_1_52 rfl hl (by decide) rfl (fun ls hl => ?_)
        obtain ⟨x4_53, ex4_53⟩ : ∃ y : Int32, y = z.2 + (1:Int32) := ⟨_, rfl⟩
        replace h := o_nm_at ex4_53 h
        refine lv_iinc (v := x4_53) (lv' := [(4, .int x4_53), (3, .int (0:Int32)), (0, .ref (ad 0)), (1, .int u10_x1), (2, .int u10_x2)]) hx hb d_MM_has_1_53 hl (k := 4) rfl (by rw [ex4_53]; rfl) (by decide) rfl (fun ls hl => ?_)
        refine lv_goto (tgt := 10) hx hb d_MM_has_1_56 (by decide) ?_
        cases h
        exact h0 rfl _ _ _ hP hS (lv_sub hl [2, 3, 4, 1, 0] rfl)
      · replace h := o_ff c6 h
        refine lv_iload_n hx hb d_MM_has_1_36 rfl (lv_at hl 2 rfl) ?_
        refine lv_aload_n hx hb d_MM_has_1_37 rfl (lv_at hl 0 rfl) ?_
        refine o_get (v := .ref (ad 8)) C in_MM hP 0 mw_0 rfl 12 (by decide) k_8_2 rfl rfl d_MM_has_1_38 ?_
        refine lv_iload hx hb d_MM_has_1_41 (lv_at hl 4 rfl) ?_
        obtain ⟨g7, h⟩ := o_gd_some h
        refine o_iald (f := (MM_high u10_Mm)) C hP 8 7 mw_8 rfl g7 d_MM_has_1_43 ?_
        refine lv_icmp_gt (tgt := 51) hx hb d_MM_has_1_44 (by decide) (fun c8 => ?_) (fun c8 => ?_)
        · replace h := o_tt c8 h
          refine lv_iconst (v := (0:Int32)) hx hb d_MM_has_1_51 (by decide) ?_
          refine lv_istore_n (lv' := [(3, .int (0:Int32)), (0, .ref (ad 0)), (1, .int u10_x1), (2, .int u10_x2), (4, .int z.2)]) hx hb d_MM_has_1_52 rfl hl (by decide) rfl (fun ls hl => ?_)
          obtain ⟨x4_53, ex4_53⟩ : ∃ y : Int32, y = z.2 + (1:Int32) := ⟨_, rfl⟩
          replace h := o_nm_at ex4_53 h
          refine lv_iinc (v := x4_53) (lv' := [(4, .int x4_53), (3, .int (0:Int32)), (0, .ref (ad 0)), (1, .int u10_x1), (2, .int u10_x2)]) hx hb d_MM_has_1_53 hl (k := 4) rfl (by rw [ex4_53]; rfl) (by decide) rfl (fun ls hl => ?_)
          refine lv_goto (tgt := 10) hx hb d_MM_has_1_56 (by decide) ?_
          cases h
          exact h0 rfl _ _ _ hP hS (lv_sub hl [2, 3, 4, 1, 0] rfl)
        · replace h := o_ff c8 h
          refine lv_iconst (v := (1:Int32)) hx hb d_MM_has_1_47 (by decide) ?_
          refine lv_goto (tgt := 52) hx hb d_MM_has_1_48 (by decide) ?_
          refine lv_istore_n (lv' := [(3, .int (1:Int32)), (0, .ref (ad 0)), (1, .int u10_x1), (2, .int u10_x2), (4, .int z.2)]) hx hb d_MM_has_1_52 rfl hl (by decide) rfl (fun ls hl => ?_)
          obtain ⟨x4_53, ex4_53⟩ : ∃ y : Int32, y = z.2 + (1:Int32) := ⟨_, rfl⟩
          replace h := o_nm_at ex4_53 h
          refine lv_iinc (v := x4_53) (lv' := [(4, .int x4_53), (3, .int (1:Int32)), (0, .ref (ad 0)), (1, .int u10_x1), (2, .int u10_x2)]) hx hb d_MM_has_1_53 hl (k := 4) rfl (by rw [ex4_53]; rfl) (by decide) rfl (fun ls hl => ?_)
          refine lv_goto (tgt := 10) hx hb d_MM_has_1_56 (by decide) ?_
          cases h
          exact h0 rfl _ _ _ hP hS (lv_sub hl [2, 3, 4, 1, 0] rfl)
set_option maxHeartbeats 4000000 in
set_option maxRecDepth 100000 in
theorem f_MM_has_1_j59 {E : (Nat → Prop) → State → Heap → Prop} {p : Program} {l : Launch} {e : Env} {s : State} {m : MethodId} {args : Array Value} {below : List Frame} {meth : Method} {c : Code} {D : va_G} {ad kd sd vd xd : Nat → Nat} {ca : Nat → ClassId} {A : Nat → Prop} {ky ty : Nat → Option Nat} (hE : o_EK E kd sd vd xd) (hKy : m_KY ky ty sd) (C : o_Cx E p s m args meth c D m_cls (m_tys ca) "SchemaJudgeModel" b_MM_has_1 (some .boolean) 5 cc_MM_has_1 A) (hDD : ∀ (rt : Nat) (Mm : SMM) (M0 : SMT) (M1 : SMT), va_D A (m_cw ad ca ky ty rt Mm M0 M1)) (n : Nat) (x1 : Int32) (x3 : Int32) (Mm : SMM) (M0 : SMT) (M1 : SMT) (rt : Nat) {r : Int32} (h : m_MM_has_1_j59 n x1 x3 Mm = some r) : o_At p l e rm_MM_has_1 s m args below meth c (MQ below (o_Qx D m_cls (some (.int r)) (m_cw ad ca ky ty rt Mm M0 M1) A) args s 0 0 A) m_cls D A 5 59 [] (m_cw ad ca ky ty rt Mm M0 M1) [(0, .ref (ad 0)), (1, .int x1), (3, .int x3)] := by
  unfold m_MM_has_1_j59 at h
  intro H locs ls hP hS hl
  have C0 := C
  obtain ⟨hx, hb, -, -, -, hown, hts, hK, -, -⟩ := C0
  refine lv_iload_n hx hb d_MM_has_1_59 rfl (lv_at hl 2 rfl) ?_
  refine lv_aload_n hx hb d_MM_has_1_60 rfl (lv_at hl 0 rfl) ?_
  refine o_get (v := .ref (ad 11)) C in_MM hP 0 mw_0 rfl 15 (by decide) k_8_5 rfl rfl d_MM_has_1_61 ?_
  refine lv_iload_n hx hb d_MM_has_1_64 rfl (lv_at hl 1 rfl) ?_
  obtain ⟨g9, h⟩ := o_gd_some h
  refine o_zald (f := (MM_setNot Mm)) C hP 11 10 mw_11 rfl g9 d_MM_has_1_65 ?_
  refine lv_icmp_eq (tgt := 73) hx hb d_MM_has_1_66 (by decide) (fun c10 => ?_) (fun c10 => ?_)
  · replace h := o_tt c10 h
    refine lv_iconst (v := (0:Int32)) hx hb d_MM_has_1_73 (by decide) ?_
    cases h
    exact o_rz (v := (0:Int32)) C o_nar0 hP hS d_MM_has_1_74
  · replace h := o_ff c10 h
    refine lv_iconst (v := (1:Int32)) hx hb d_MM_has_1_69 (by decide) ?_
    refine lv_goto (tgt := 74) hx hb d_MM_has_1_70 (by decide) ?_
    cases h
    exact o_rz (v := (1:Int32)) C o_nar1 hP hS d_MM_has_1_74
set_option maxHeartbeats 4000000 in
set_option maxRecDepth 100000 in
theorem e_MM_has_1 {E : (Nat → Prop) → State → Heap → Prop} {D : va_G} {ad kd sd vd xd : Nat → Nat} {ca : Nat → ClassId} {ky ty : Nat → Option Nat} (hE : o_EK E kd sd vd xd) (hKy : m_KY ky ty sd) (l : Launch) (n : Nat) (x1 : Int32) (x2 : Int32) (Mm : SMM) (M0 : SMT) (M1 : SMT) (rt : Nat) {r : Int32} (h : m_MM_has_1 n x1 x2 Mm = some r) : o_Cn E l D m_cls (m_tys ca) y_MM_has_1 cc_MM_has_1 rm_MM_has_1 [.ref (ad 0), .int x1, .int x2] (m_cw ad ca ky ty rt Mm M0 M1) (m_cw ad ca ky ty rt Mm M0 M1) (some (.int r)) := by
  refine o_Cn_of (by decide) (Nat.le_of_ble_eq_true rfl) ?_
  intro p e s m below meth c A ls C hD hP hS hl
  have hDD : ∀ (rt : Nat) (Mm : SMM) (M0 : SMT) (M1 : SMT), va_D A (m_cw ad ca ky ty rt Mm M0 M1) := fun _ _ _ _ => o_D_map hD rfl
  have hl : lv_has ls 5 [(0, .ref (ad 0)), (1, .int x1), (2, .int x2)] := hl
  unfold m_MM_has_1 at h
  have C0 := C
  obtain ⟨hx, hb, -, -, -, hown, hts, hK, -, -⟩ := C0
  refine lv_iconst (v := (0:Int32)) hx hb d_MM_has_1_0 (by decide) ?_
  refine lv_istore_n (lv' := [(3, .int (0:Int32)), (0, .ref (ad 0)), (1, .int x1), (2, .int x2)]) hx hb d_MM_has_1_1 rfl hl (by decide) rfl (fun ls hl => ?_)
  refine lv_aload_n hx hb d_MM_has_1_2 rfl (lv_at hl 1 rfl) ?_
  refine o_get (v := .ref (ad 9)) C in_MM hP 0 mw_0 rfl 13 (by decide) k_8_3 rfl rfl d_MM_has_1_3 ?_
  refine lv_iload_n hx hb d_MM_has_1_6 rfl (lv_at hl 2 rfl) ?_
  obtain ⟨g1, h⟩ := o_gd_some h
  refine o_iald (f := (MM_setFrom Mm)) C hP 9 8 mw_9 rfl g1 d_MM_has_1_7 ?_
  refine lv_topi (fun x4_8 ex4_8 => ?_)
  replace h := o_nm_at ex4_8 h
  refine lv_istore (lv' := [(4, .int x4_8), (3, .int (0:Int32)), (0, .ref (ad 0)), (1, .int x1), (2, .int x2)]) hx hb d_MM_has_1_8 hl (by decide) rfl (fun ls hl => ?_)
  obtain ⟨q1, hq1, h⟩ := o_bd_some h
  refine o_sim2 (AH := fun zz => o_At p l e rm_MM_has_1 s m _ below meth c _ m_cls D A 5 10 [] (m_cw ad ca ky ty rt Mm M0 M1) [(0, .ref (ad 0)), (1, .int x1), (2, .int x2), (3, .int zz.1), (4, .int zz.2)]) (AX := fun qq => o_At p l e rm_MM_has_1 s m _ below meth c _ m_cls D A 5 59 [] (m_cw ad ca ky ty rt Mm M0 M1) [(0, .ref (ad 0)), (1, .int x1), (3, .int qq.2.1)]) (fun zz qq h h0 h1 => f_MM_has_1_b10 hE hKy C hDD n x1 x2 Mm M0 M1 rt zz qq h h0 h1) n _ q1 hq1 ?_ _ _ _ hP hS (lv_sub hl [2, 3, 4, 1, 0] rfl)
  intro H locs ls hP hS hl
  exact f_MM_has_1_j59 hE hKy C hDD n x1 q1.2.1 Mm M0 M1 rt h _ _ _ hP hS (lv_sub hl [0, 1, 2] rfl)
set_option maxHeartbeats 4000000 in
set_option maxRecDepth 100000 in
theorem f_MM_turn_b12 {E : (Nat → Prop) → State → Heap → Prop} {p : Program} {l : Launch} {e : Env} {s : State} {m : MethodId} {args : Array Value} {below : List Frame} {meth : Method} {c : Code} {D : va_G} {ad kd sd vd xd : Nat → Nat} {ca : Nat → ClassId} {A : Nat → Prop} {ky ty : Nat → Option Nat} {Q : State → Prop} (hE : o_EK E kd sd vd xd) (hKy : m_KY ky ty sd) (C : o_Cx E p s m args meth c D m_cls (m_tys ca) "SchemaJudgeModel" b_MM_turn none 2 cc_MM_turn A) (hDD : ∀ (rt : Nat) (Mm : SMM) (M0 : SMT) (M1 : SMT), va_D A (m_cw ad ca ky ty rt Mm M0 M1)) (n : Nat) (u12_M0 : SMT) (u12_M1 : SMT) (u12_rt : Nat) (z : Int32 × SMM) (q : Nat × Int32 × SMM) (h : m_MM_turn_b12 n z = some q) (h0 : q.1 = 0 → o_At p l e rm_MM_turn s m args below meth c Q m_cls D A 2 12 [] (m_cw ad ca ky ty u12_rt q.2.2 u12_M0 u12_M1) [(0, .ref (ad 0)), (1, .int q.2.1)]) (h1 : q.1 ≠ 0 → (o_At p l e rm_MM_turn s m args below meth c Q m_cls D A 2 32 [] (m_cw ad ca ky ty u12_rt q.2.2 u12_M0 u12_M1) [(0, .ref (ad 0))])) : o_At p l e rm_MM_turn s m args below meth c Q m_cls D A 2 12 [] (m_cw ad ca ky ty u12_rt z.2 u12_M0 u12_M1) [(0, .ref (ad 0)), (1, .int z.1)] := by
  unfold m_MM_turn_b12 at h
  intro H locs ls hP hS hl
  have C0 := C
  obtain ⟨hx, hb, -, -, -, hown, hts, hK, -, -⟩ := C0
  refine lv_iload_n hx hb d_MM_turn_12 rfl (lv_at hl 1 rfl) ?_
  refine lv_sipush (v := (25000:Int32)) hx hb d_MM_turn_13 (by decide) ?_
  refine lv_icmp_ge (tgt := 32) hx hb d_MM_turn_16 (by decide) (fun c2 => ?_) (fun c2 => ?_)
  · replace h := o_tt c2 h
    cases h
    exact h1 (Nat.succ_ne_zero 0) _ _ _ hP hS (lv_sub hl [0] rfl)
  · replace h := o_ff c2 h
    refine lv_aload_n hx hb d_MM_turn_19 rfl (lv_at hl 0 rfl) ?_
    refine o_get (v := .ref (ad 15)) C in_MM hP 0 mw_0 rfl 19 (by decide) k_8_9 rfl rfl d_MM_turn_20 ?_
    refine lv_iload_n hx hb d_MM_turn_23 rfl (lv_at hl 1 rfl) ?_
    refine lv_iconst (v := (0:Int32)) hx hb d_MM_turn_24 (by decide) ?_
    obtain ⟨g3, h⟩ := o_gd_some h
    refine o_iast (f := (MM_mark z.2)) (w1 := (m_cw ad ca ky ty u12_rt (MM_mk (MM_err z.2) (MM_fed z.2) (MM_wrong z.2) (MM_octets z.2) (MM_nodeKind z.2) (MM_nodeA z.2) (MM_nodeB z.2) (MM_nodeC z.2) (MM_nodeNext z.2) (MM_low z.2) (MM_high z.2) (MM_setFrom z.2) (MM_setTo z.2) (MM_setNot z.2) (MM_op z.2) (MM_opA z.2) (MM_opB z.2) (upd (MM_mark z.2) z.1.toNatClampNeg (0:Int32)) (MM_now z.2) (MM_then z.2) (MM_todo z.2) (MM_nodes z.2) (MM_sets z.2) (MM_ranges z.2) (MM_steps z.2) (MM_pat z.2) (MM_patEnd z.2) (MM_round z.2) (MM_many1 z.2) (MM_broken z.2) (MM_checked z.2) (MM_faultKind z.2) (MM_faultValue z.2) (MM_latestFault z.2) (MM_anchors z.2) (MM_key z.2) (MM_target z.2) (MM_anchorValue z.2) (MM_anchorSchema z.2) (MM_path z.2) (MM_route z.2) (MM_isSchema z.2) (MM_seen1 z.2) (MM_pathSize z.2) (MM_octetRow z.2) (MM_partRow z.2) (MM_pairValue z.2) (MM_pairKey z.2) (MM_pairs z.2) (MM_judged z.2) (MM_deepest z.2) (MM_depth z.2) (MM_over z.2) (MM_seen z.2)) u12_M0 u12_M1)) C hP (hDD _ _ _ _) hS 15 14 mw_15 rfl g3 rfl d_MM_turn_25 (fun H locs hP hS => ?_)
    obtain ⟨x1_26, ex1_26⟩ : ∃ y : Int32, y = z.1 + (1:Int32) := ⟨_, rfl⟩
    replace h := o_nm_at ex1_26 h
    refine lv_iinc (v := x1_26) (lv' := [(1, .int x1_26), (0, .ref (ad 0))]) hx hb d_MM_turn_26 hl (k := 1) rfl (by rw [ex1_26]; rfl) (by decide) rfl (fun ls hl => ?_)
    refine lv_goto (tgt := 12) hx hb d_MM_turn_29 (by decide) ?_
    cases h
    exact h0 rfl _ _ _ hP hS (lv_sub hl [1, 0] rfl)
set_option maxHeartbeats 4000000 in
set_option maxRecDepth 100000 in
theorem e_MM_turn {E : (Nat → Prop) → State → Heap → Prop} {D : va_G} {ad kd sd vd xd : Nat → Nat} {ca : Nat → ClassId} {ky ty : Nat → Option Nat} (hE : o_EK E kd sd vd xd) (hKy : m_KY ky ty sd) (l : Launch) (n : Nat)  (Mm : SMM) (M0 : SMT) (M1 : SMT) (rt : Nat) {r : SMM} (h : m_MM_turn n Mm = some r) : o_Cn E l D m_cls (m_tys ca) y_MM_turn cc_MM_turn rm_MM_turn [.ref (ad 0)] (m_cw ad ca ky ty rt Mm M0 M1) (m_cw ad ca ky ty rt r M0 M1) none := by
  refine o_Cn_of (by decide) (Nat.le_of_ble_eq_true rfl) ?_
  intro p e s m below meth c A ls C hD hP hS hl
  have hDD : ∀ (rt : Nat) (Mm : SMM) (M0 : SMT) (M1 : SMT), va_D A (m_cw ad ca ky ty rt Mm M0 M1) := fun _ _ _ _ => o_D_map hD rfl
  have hl : lv_has ls 2 [(0, .ref (ad 0))] := hl
  unfold m_MM_turn at h
  have C0 := C
  obtain ⟨hx, hb, -, -, -, hown, hts, hK, -, -⟩ := C0
  refine lv_aload_n hx hb d_MM_turn_0 rfl (lv_at hl 0 rfl) ?_
  refine o_get (v := .int (MM_round Mm)) C in_MM hP 0 mw_0 rfl 29 (by decide) k_8_19 rfl rfl d_MM_turn_1 ?_
  refine lv_ldcw (v := (2147483647:Int32)) hx hb hown (hts _ k_10_42) d_MM_turn_4 ?_
  refine lv_icmp_ne (tgt := 37) hx hb d_MM_turn_7 (by decide) (fun c1 => ?_) (fun c1 => ?_)
  · replace h := o_ff c1 h
    refine lv_aload_n hx hb d_MM_turn_37 rfl (lv_at hl 0 rfl) ?_
    refine lv_dup hx hb d_MM_turn_38 rfl ?_
    refine o_get (v := .int (MM_round Mm)) C in_MM hP 0 mw_0 rfl 29 (by decide) k_8_19 rfl rfl d_MM_turn_39 ?_
    refine lv_iconst (v := (1:Int32)) hx hb d_MM_turn_42 (by decide) ?_
    refine lv_iadd hx hb d_MM_turn_43 ?_
    refine o_put (v := .int ((MM_round Mm) + (1:Int32))) (ty := .int) (w1 := (m_cw ad ca ky ty rt (MM_mk (MM_err Mm) (MM_fed Mm) (MM_wrong Mm) (MM_octets Mm) (MM_nodeKind Mm) (MM_nodeA Mm) (MM_nodeB Mm) (MM_nodeC Mm) (MM_nodeNext Mm) (MM_low Mm) (MM_high Mm) (MM_setFrom Mm) (MM_setTo Mm) (MM_setNot Mm) (MM_op Mm) (MM_opA Mm) (MM_opB Mm) (MM_mark Mm) (MM_now Mm) (MM_then Mm) (MM_todo Mm) (MM_nodes Mm) (MM_sets Mm) (MM_ranges Mm) (MM_steps Mm) (MM_pat Mm) (MM_patEnd Mm) ((MM_round Mm) + (1:Int32)) (MM_many1 Mm) (MM_broken Mm) (MM_checked Mm) (MM_faultKind Mm) (MM_faultValue Mm) (MM_latestFault Mm) (MM_anchors Mm) (MM_key Mm) (MM_target Mm) (MM_anchorValue Mm) (MM_anchorSchema Mm) (MM_path Mm) (MM_route Mm) (MM_isSchema Mm) (MM_seen1 Mm) (MM_pathSize Mm) (MM_octetRow Mm) (MM_partRow Mm) (MM_pairValue Mm) (MM_pairKey Mm) (MM_pairs Mm) (MM_judged Mm) (MM_deepest Mm) (MM_depth Mm) (MM_over Mm) (MM_seen Mm)) M0 M1)) C in_MM t_MM t_MM_ok n_MM hP (hDD _ _ _ _) hS 0 mw_0 rfl 29 (by decide) k_8_19 rfl rfl (by decide +kernel) rfl rfl (Nat.le_of_ble_eq_true rfl) rfl d_MM_turn_44 (fun H locs hP hS => ?_)
    cases h
    exact o_rv C hP hS d_MM_turn_47
  · replace h := o_tt c1 h
    refine lv_iconst (v := (0:Int32)) hx hb d_MM_turn_10 (by decide) ?_
    refine lv_istore_n (lv' := [(1, .int (0:Int32)), (0, .ref (ad 0))]) hx hb d_MM_turn_11 rfl hl (by decide) rfl (fun ls hl => ?_)
    obtain ⟨q1, hq1, h⟩ := o_bd_some h
    refine o_sim2 (AH := fun zz => o_At p l e rm_MM_turn s m _ below meth c _ m_cls D A 2 12 [] (m_cw ad ca ky ty rt zz.2 M0 M1) [(0, .ref (ad 0)), (1, .int zz.1)]) (AX := fun qq => o_At p l e rm_MM_turn s m _ below meth c _ m_cls D A 2 32 [] (m_cw ad ca ky ty rt qq.2.2 M0 M1) [(0, .ref (ad 0))]) (fun zz qq h h0 h1 => f_MM_turn_b12 hE hKy C hDD n M0 M1 rt zz qq h h0 h1) n _ q1 hq1 ?_ _ _ _ hP hS (lv_sub hl [1, 0] rfl)
    intro H locs ls hP hS hl
    refine lv_aload_n hx hb d_MM_turn_32 rfl (lv_at hl 0 rfl) ?_
    refine lv_iconst (v := (0:Int32)) hx hb d_MM_turn_33 (by decide) ?_
    refine o_put (v := .int (0:Int32)) (ty := .int) (w1 := (m_cw ad ca ky ty rt (MM_mk (MM_err q1.2.2) (MM_fed q1.2.2) (MM_wrong q1.2.2) (MM_octets q1.2.2) (MM_nodeKind q1.2.2) (MM_nodeA q1.2.2) (MM_nodeB q1.2.2) (MM_nodeC q1.2.2) (MM_nodeNext q1.2.2) (MM_low q1.2.2) (MM_high q1.2.2) (MM_setFrom q1.2.2) (MM_setTo q1.2.2) (MM_setNot q1.2.2) (MM_op q1.2.2) (MM_opA q1.2.2) (MM_opB q1.2.2) (MM_mark q1.2.2) (MM_now q1.2.2) (MM_then q1.2.2) (MM_todo q1.2.2) (MM_nodes q1.2.2) (MM_sets q1.2.2) (MM_ranges q1.2.2) (MM_steps q1.2.2) (MM_pat q1.2.2) (MM_patEnd q1.2.2) (0:Int32) (MM_many1 q1.2.2) (MM_broken q1.2.2) (MM_checked q1.2.2) (MM_faultKind q1.2.2) (MM_faultValue q1.2.2) (MM_latestFault q1.2.2) (MM_anchors q1.2.2) (MM_key q1.2.2) (MM_target q1.2.2) (MM_anchorValue q1.2.2) (MM_anchorSchema q1.2.2) (MM_path q1.2.2) (MM_route q1.2.2) (MM_isSchema q1.2.2) (MM_seen1 q1.2.2) (MM_pathSize q1.2.2) (MM_octetRow q1.2.2) (MM_partRow q1.2.2) (MM_pairValue q1.2.2) (MM_pairKey q1.2.2) (MM_pairs q1.2.2) (MM_judged q1.2.2) (MM_deepest q1.2.2) (MM_depth q1.2.2) (MM_over q1.2.2) (MM_seen q1.2.2)) M0 M1)) C in_MM t_MM t_MM_ok n_MM hP (hDD _ _ _ _) hS 0 mw_0 rfl 29 (by decide) k_8_19 rfl rfl (by decide +kernel) rfl rfl (Nat.le_of_ble_eq_true rfl) rfl d_MM_turn_34 (fun H locs hP hS => ?_)
    refine lv_aload_n hx hb d_MM_turn_37 rfl (lv_at hl 0 rfl) ?_
    refine lv_dup hx hb d_MM_turn_38 rfl ?_
    refine o_get (v := .int (0:Int32)) C in_MM hP 0 mw_0 rfl 29 (by decide) k_8_19 rfl rfl d_MM_turn_39 ?_
    refine lv_iconst (v := (1:Int32)) hx hb d_MM_turn_42 (by decide) ?_
    refine lv_iadd hx hb d_MM_turn_43 ?_
    refine o_put (v := .int ((0:Int32) + (1:Int32))) (ty := .int) (w1 := (m_cw ad ca ky ty rt (MM_mk (MM_err q1.2.2) (MM_fed q1.2.2) (MM_wrong q1.2.2) (MM_octets q1.2.2) (MM_nodeKind q1.2.2) (MM_nodeA q1.2.2) (MM_nodeB q1.2.2) (MM_nodeC q1.2.2) (MM_nodeNext q1.2.2) (MM_low q1.2.2) (MM_high q1.2.2) (MM_setFrom q1.2.2) (MM_setTo q1.2.2) (MM_setNot q1.2.2) (MM_op q1.2.2) (MM_opA q1.2.2) (MM_opB q1.2.2) (MM_mark q1.2.2) (MM_now q1.2.2) (MM_then q1.2.2) (MM_todo q1.2.2) (MM_nodes q1.2.2) (MM_sets q1.2.2) (MM_ranges q1.2.2) (MM_steps q1.2.2) (MM_pat q1.2.2) (MM_patEnd q1.2.2) ((0:Int32) + (1:Int32)) (MM_many1 q1.2.2) (MM_broken q1.2.2) (MM_checked q1.2.2) (MM_faultKind q1.2.2) (MM_faultValue q1.2.2) (MM_latestFault q1.2.2) (MM_anchors q1.2.2) (MM_key q1.2.2) (MM_target q1.2.2) (MM_anchorValue q1.2.2) (MM_anchorSchema q1.2.2) (MM_path q1.2.2) (MM_route q1.2.2) (MM_isSchema q1.2.2) (MM_seen1 q1.2.2) (MM_pathSize q1.2.2) (MM_octetRow q1.2.2) (MM_partRow q1.2.2) (MM_pairValue q1.2.2) (MM_pairKey q1.2.2) (MM_pairs q1.2.2) (MM_judged q1.2.2) (MM_deepest q1.2.2) (MM_depth q1.2.2) (MM_over q1.2.2) (MM_seen q1.2.2)) M0 M1)) C in_MM t_MM t_MM_ok n_MM hP (hDD _ _ _ _) hS 0 mw_0 rfl 29 (by decide) k_8_19 rfl rfl (by decide +kernel) rfl rfl (Nat.le_of_ble_eq_true rfl) rfl d_MM_turn_44 (fun H locs hP hS => ?_)
    cases h
    exact o_rv C hP hS d_MM_turn_47
set_option maxHeartbeats 4000000 in
set_option maxRecDepth 100000 in
theorem f_MM_thread_now_b14 {E : (Nat → Prop) → State → Heap → Prop} {p : Program} {l : Launch} {e : Env} {s : State} {m : MethodId} {args : Array Value} {below : List Frame} {meth : Method} {c : Code} {D : va_G} {ad kd sd vd xd : Nat → Nat} {ca : Nat → ClassId} {A : Nat → Prop} {ky ty : Nat → Option Nat} {Q : State → Prop} (hE : o_EK E kd sd vd xd) (hKy : m_KY ky ty sd) (C : o_Cx E p s m args meth c D m_cls (m_tys ca) "SchemaJudgeModel" b_MM_thread (some .boolean) 7 cc_MM_thread A) (hDD : ∀ (rt : Nat) (Mm : SMM) (M0 : SMT) (M1 : SMT), va_D A (m_cw ad ca ky ty rt Mm M0 M1)) (n : Nat) (u14_x3 : Int32) (u14_x4 : Int32) (u14_M0 : SMT) (u14_M1 : SMT) (u14_rt : Nat) (z : Int32 × SMM) (q : Nat × Int32 × SMM) (h : m_MM_thread_now_b14 n u14_x3 u14_x4 z = some q) (h0 : q.1 = 0 → o_At p l e rm_MM_thread s m args below meth c Q m_cls D A 7 14 [] (m_cw ad ca ky ty u14_rt q.2.2 u14_M0 u14_M1) [(0, .ref (ad 0)), (1, .ref (ad 16)), (3, .int u14_x3), (4, .int u14_x4), (5, .int q.2.1)]) (h1 : q.1 ≠ 0 → (if q.1 = 1 then o_At p l e rm_MM_thread s m args below meth c Q m_cls D A 7 71 [] (m_cw ad ca ky ty u14_rt q.2.2 u14_M0 u14_M1) [] else o_At p l e rm_MM_thread s m args below meth c Q m_cls D A 7 235 [] (m_cw ad ca ky ty u14_rt q.2.2 u14_M0 u14_M1) [])) : o_At p l e rm_MM_thread s m args below meth c Q m_cls D A 7 14 [] (m_cw ad ca ky ty u14_rt z.2 u14_M0 u14_M1) [(0, .ref (ad 0)), (1, .ref (ad 16)), (3, .int u14_x3), (4, .int u14_x4), (5, .int z.1)] := by
  unfold m_MM_thread_now_b14 at h
  intro H locs ls hP hS hl
  have C0 := C
  obtain ⟨hx, hb, -, -, -, hown, hts, hK, -, -⟩ := C0
  refine lv_iload hx hb d_MM_thread_14 (lv_at hl 4 rfl) ?_
  refine lv_if_le (tgt := 235) hx hb d_MM_thread_16 (by decide) (fun c2 => ?_) (fun c2 => ?_)
  · replace h := o_tt c2 h
    cases h
    exact h1 (Nat.succ_ne_zero 1) _ _ _ hP hS (lv_sub hl [] rfl)
  · replace h := o_ff c2 h
    refine lv_aload_n hx hb d_MM_thread_19 rfl (lv_at hl 0 rfl) ?_
    refine o_get (v := .ref (ad 18)) C in_MM hP 0 mw_0 rfl 22 (by decide) k_8_12 rfl rfl d_MM_thread_20 ?_
    obtain ⟨x5_23, ex5_23⟩ : ∃ y : Int32, y = z.1 + (-1:Int32) := ⟨_, rfl⟩
    replace h := o_nm_at ex5_23 h
    refine lv_iinc (v := x5_23) (lv' := [(5, .int x5_23), (0, .ref (ad 0)), (1, .ref (ad 16)), (3, .int u14_x3), (4, .int u14_x4)]) hx hb d_MM_thread_23 hl (k := 4) rfl (by rw [ex5_23]; rfl) (by decide) rfl (fun ls hl => ?_)
    refine lv_iload hx hb d_MM_thread_26 (lv_at hl 0 rfl) ?_
    obtain ⟨g3, h⟩ := o_gd_some h
    refine o_iald (f := (MM_todo z.2)) C hP 18 17 mw_18 rfl g3 d_MM_thread_28 ?_
    refine lv_topi (fun x6_29 ex6_29 => ?_)
    replace h := o_nm_at ex6_29 h
    refine lv_istore (lv' := [(6, .int x6_29), (5, .int x5_23), (0, .ref (ad 0)), (1, .ref (ad 16)), (3, .int u14_x3), (4, .int u14_x4)]) hx hb d_MM_thread_29 hl (by decide) rfl (fun ls hl => ?_)
    refine lv_aload_n hx hb d_MM_thread_31 rfl (lv_at hl 2 rfl) ?_
    refine o_get (v := .ref (ad 15)) C in_MM hP 0 mw_0 rfl 19 (by decide) k_8_9 rfl rfl d_MM_thread_32 ?_
    refine lv_iload hx hb d_MM_thread_35 (lv_at hl 0 rfl) ?_
    obtain ⟨g4, h⟩ := o_gd_some h
    refine o_iald (f := (MM_mark z.2)) C hP 15 14 mw_15 rfl g4 d_MM_thread_37 ?_
    refine lv_aload_n hx hb d_MM_thread_38 rfl (lv_at hl 2 rfl) ?_
    refine o_get (v := .int (MM_round z.2)) C in_MM hP 0 mw_0 rfl 29 (by decide) k_8_19 rfl rfl d_MM_thread_39 ?_
    refine lv_icmp_ne (tgt := 48) hx hb d_MM_thread_42 (by decide) (fun c5 => ?_) (fun c5 => ?_)
    · replace h := o_ff c5 h
      refine lv_aload_n hx hb d_MM_thread_48 rfl (lv_at hl 2 rfl) ?_
      refine o_get (v := .ref (ad 15)) C in_MM hP 0 mw_0 rfl 19 (by decide) k_8_9 rfl rfl d_MM_thread_49 ?_
      refine lv_iload hx hb d_MM_thread_52 (lv_at hl 0 rfl) ?_
      refine lv_aload_n hx hb d_MM_thread_54 rfl (lv_at hl 2 rfl) ?_
      refine o_get (v := .int (MM_round z.2)) C in_MM hP 0 mw_0 rfl 29 (by decide) k_8_19 rfl rfl d_MM_thread_55 ?_
      obtain ⟨g6, h⟩ := o_gd_some h
      refine o_iast (f := (MM_mark z.2)) (w1 := (m_cw ad ca ky ty u14_rt (MM_mk (MM_err z.2) (MM_fed z.2) (MM_wrong z.2) (MM_octets z.2) (MM_nodeKind z.2) (MM_nodeA z.2) (MM_nodeB z.2) (MM_nodeC z.2) (MM_nodeNext z.2) (MM_low z.2) (MM_high z.2) (MM_setFrom z.2) (MM_setTo z.2) (MM_setNot z.2) (MM_op z.2) (MM_opA z.2) (MM_opB z.2) (upd (MM_mark z.2) x6_29.toNatClampNeg (MM_round z.2)) (MM_now z.2) (MM_then z.2) (MM_todo z.2) (MM_nodes z.2) (MM_sets z.2) (MM_ranges z.2) (MM_steps z.2) (MM_pat z.2) (MM_patEnd z.2) (MM_round z.2) (MM_many1 z.2) (MM_broken z.2) (MM_checked z.2) (MM_faultKind z.2) (MM_faultValue z.2) (MM_latestFault z.2) (MM_anchors z.2) (MM_key z.2) (MM_target z.2) (MM_anchorValue z.2) (MM_anchorSchema z.2) (MM_path z.2) (MM_route z.2) (MM_isSchema z.2) (MM_seen1 z.2) (MM_pathSize z.2) (MM_octetRow z.2) (MM_partRow z.2) (MM_pairValue z.2) (MM_pairKey z.2) (MM_pairs z.2) (MM_judged z.2) (MM_deepest z.2) (MM_depth z.2) (MM_over z.2) (MM_seen z.2)) u14_M0 u14_M1)) C hP (hDD _ _ _ _) hS 15 14 mw_15 rfl g6 rfl d_MM_thread_58 (fun H locs hP hS => ?_)
      refine lv_aload_n hx hb d_MM_thread_59 rfl (lv_at hl 2 rfl) ?_
      refine o_get (v := .ref (ad 12)) C in_MM hP 0 mw_0 rfl 16 (by decide) k_8_6 rfl rfl d_MM_thread_60 ?_
      refine lv_iload hx hb d_MM_thread_63 (lv_at hl 0 rfl) ?_
      obtain ⟨g7, h⟩ := o_gd_some h
      refine o_iald (f := (MM_op z.2)) C hP 12 11 mw_12 rfl g7 d_MM_thread_65 ?_
      refine lv_bipush (v := (9:Int32)) hx hb d_MM_thread_66 (by decide) ?_
      refine lv_icmp_ne (tgt := 73) hx hb d_MM_thread_68 (by decide) (fun c8 => ?_) (fun c8 => ?_)
      · replace h := o_ff c8 h
        refine lv_aload_n hx hb d_MM_thread_73 rfl (lv_at hl 2 rfl) ?_
        refine o_get (v := .ref (ad 12)) C in_MM hP 0 mw_0 rfl 16 (by decide) k_8_6 rfl rfl d_MM_thread_74 ?_
        refine lv_iload hx hb d_MM_thread_77 (lv_at hl 0 rfl) ?_
        obtain ⟨g9, h⟩ := o_gd_some h
        refine o_iald (f := (MM_op z.2)) C hP 12 11 mw_12 rfl g9 d_MM_thread_79 ?_
        refine lv_iconst (v := (1:Int32)) hx hb d_MM_thread_80 (by decide) ?_
        refine lv_icmp_ne (tgt := 102) hx hb d_MM_thread_81 (by decide) (fun c10 => ?_) (fun c10 => ?_)
        · replace h := o_ff c10 h
          refine lv_aload_n hx hb d_MM_thread_102 rfl (lv_at hl 2 rfl) ?_
          refine o_get (v := .ref (ad 12)) C in_MM hP 0 mw_0 rfl 16 (by decide) k_8_6 rfl rfl d_MM_thread_103 ?_
          refine lv_iload hx hb d_MM_thread_106 (lv_at hl 0 rfl) ?_
          obtain ⟨g11, h⟩ := o_gd_some h
          refine o_iald (f := (MM_op z.2)) C hP 12 11 mw_12 rfl g11 d_MM_thread_108 ?_
          refine lv_iconst (v := (2:Int32)) hx hb d_MM_thread_109 (by decide) ?_
          refine lv_icmp_ne (tgt := 134) hx hb d_MM_thread_110 (by decide) (fun c12 => ?_) (fun c12 => ?_)
          · replace h := o_ff c12 h
            refine lv_aload_n hx hb d_MM_thread_134 rfl (lv_at hl 2 rfl) ?_
            refine o_get (v := .ref (ad 12)) C in_MM hP 0 mw_0 rfl 16 (by decide) k_8_6 rfl rfl d_MM_thread_135 ?_
            refine lv_iload hx hb d_MM_thread_138 (lv_at hl 0 rfl) ?_
            obtain ⟨g13, h⟩ := o_gd_some h
            refine o_iald (f := (MM_op z.2)) C hP 12 11 mw_12 rfl g13 d_MM_thread_140 ?_
            refine lv_iconst (v := (3:Int32)) hx hb d_MM_thread_141 (by decide) ?_
            refine lv_icmp_ne (tgt := 167) hx hb d_MM_thread_142 (by decide) (fun c14 => ?_) (fun c14 => ?_)
            · replace h := o_ff c14 h
              refine lv_aload_n hx hb d_MM_thread_167 rfl (lv_at hl 2 rfl) ?_
              refine o_get (v := .ref (ad 12)) C in_MM hP 0 mw_0 rfl 16 (by decide) k_8_6 rfl rfl d_MM_thread_168 ?_
              refine lv_iload hx hb d_MM_thread_171 (lv_at hl 0 rfl) ?_
              obtain ⟨g15, h⟩ := o_gd_some h
              refine o_iald (f := (MM_op z.2)) C hP 12 11 mw_12 rfl g15 d_MM_thread_173 ?_
              refine lv_iconst (v := (5:Int32)) hx hb d_MM_thread_174 (by decide) ?_
              refine lv_icmp_ne (tgt := 198) hx hb d_MM_thread_175 (by decide) (fun c16 => ?_) (fun c16 => ?_)
              · replace h := o_ff c16 h
                refine lv_aload_n hx hb d_MM_thread_198 rfl (lv_at hl 2 rfl) ?_
                refine o_get (v := .ref (ad 18)) C in_MM hP 0 mw_0 rfl 22 (by decide) k_8_12 rfl rfl d_MM_thread_199 ?_
                refine lv_iload hx hb d_MM_thread_202 (lv_at hl 1 rfl) ?_
                obtain ⟨x5_204, ex5_204⟩ : ∃ y : Int32, y = x5_23 + (1:Int32) := ⟨_, rfl⟩
                replace h := o_nm_at ex5_204 h
                refine lv_iinc (v := x5_204) (lv' := [(5, .int x5_204), (6, .int x6_29), (0, .ref (ad 0)), (1, .ref (ad 16)), (3, .int u14_x3), (4, .int u14_x4)]) hx hb d_MM_thread_204 hl (k := 1) rfl (by rw [ex5_204]; rfl) (by decide) rfl (fun ls hl => ?_)
                refine lv_aload_n hx hb d_MM_thread_207 rfl (lv_at hl 2 rfl) ?_
                refine o_get (v := .ref (ad 13)) C in_MM hP 0 mw_0 rfl 17 (by decide) k_8_7 rfl rfl d_MM_thread_208 ?_
                refine lv_iload hx hb d_MM_thread_211 (lv_at hl 1 rfl) ?_
                obtain ⟨g17, h⟩ := o_gd_some h
                refine o_iald (f := (MM_opA z.2)) C hP 13 12 mw_13 rfl g17 d_MM_thread_213 ?_
                obtain ⟨g18, h⟩ := o_gd_some h
                refine o_iast (f := (MM_todo z.2)) (w1 := (m_cw ad ca ky ty u14_rt (MM_mk (MM_err z.2) (MM_fed z.2) (MM_wrong z.2) (MM_octets z.2) (MM_nodeKind z.2) (MM_nodeA z.2) (MM_nodeB z.2) (MM_nodeC z.2) (MM_nodeNext z.2) (MM_low z.2) (MM_high z.2) (MM_setFrom z.2) (MM_setTo z.2) (MM_setNot z.2) (MM_op z.2) (MM_opA z.2) (MM_opB z.2) (upd (MM_mark z.2) x6_29.toNatClampNeg (MM_round z.2)) (MM_now z.2) (MM_then z.2) (upd (MM_todo z.2) x5_23.toNatClampNeg ((MM_opA z.2) x6_29.toNatClampNeg)) (MM_nodes z.2) (MM_sets z.2) (MM_ranges z.2) (MM_steps z.2) (MM_pat z.2) (MM_patEnd z.2) (MM_round z.2) (MM_many1 z.2) (MM_broken z.2) (MM_checked z.2) (MM_faultKind z.2) (MM_faultValue z.2) (MM_latestFault z.2) (MM_anchors z.2) (MM_key z.2) (MM_target z.2) (MM_anchorValue z.2) (MM_anchorSchema z.2) (MM_path z.2) (MM_route z.2) (MM_isSchema z.2) (MM_seen1 z.2) (MM_pathSize z.2) (MM_octetRow z.2) (MM_partRow z.2) (MM_pairValue z.2) (MM_pairKey z.2) (MM_pairs z.2) (MM_judged z.2) (MM_deepest z.2) (MM_depth z.2) (MM_over z.2) (MM_seen z.2)) u14_M0 u14_M1)) C hP (hDD _ _ _ _) hS 18 17 mw_18 rfl g18 rfl d_MM_thread_214 (fun H locs hP hS => ?_)
                refine lv_aload_n hx hb d_MM_thread_215 rfl (lv_at hl 2 rfl) ?_
                refine o_get (v := .ref (ad 18)) C in_MM hP 0 mw_0 rfl 22 (by decide) k_8_12 rfl rfl d_MM_thread_216 ?_
                refine lv_iload hx hb d_MM_thread_219 (lv_at hl 0 rfl) ?_
                obtain ⟨x5_221, ex5_221⟩ : ∃ y : Int32, y = x5_204 + (1:Int32) := ⟨_, rfl⟩
                replace h := o_nm_at ex5_221 h
                refine lv_iinc (v := x5_221) (lv' := [(5, .int x5_221), (6, .int x6_29), (0, .ref (ad 0)), (1, .ref (ad 16)), (3, .int u14_x3), (4, .int u14_x4)]) hx hb d_MM_thread_221 hl (k := 0) rfl (by rw [ex5_221]; rfl) (by decide) rfl (fun ls hl => ?_)
                refine lv_aload_n hx hb d_MM_thread_224 rfl (lv_at hl 2 rfl) ?_
                refine o_get (v := .ref (ad 14)) C in_MM hP 0 mw_0 rfl 18 (by decide) k_8_8 rfl rfl d_MM_thread_225 ?_
                refine lv_iload hx hb d_MM_thread_228 (lv_at hl 1 rfl) ?_
                obtain ⟨g19, h⟩ := o_gd_some h
                refine o_iald (f := (MM_opB z.2)) C hP 14 13 mw_14 rfl g19 d_MM_thread_230 ?_
                obtain ⟨g20, h⟩ := o_gd_some h
                refine o_iast (f := (upd (MM_todo z.2) x5_23.toNatClampNeg ((MM_opA z.2) x6_29.toNatClampNeg))) (w1 := (m_cw ad ca ky ty u14_rt (MM_mk (MM_err z.2) (MM_fed z.2) (MM_wrong z.2) (MM_octets z.2) (MM_nodeKind z.2) (MM_nodeA z.2) (MM_nodeB z.2) (MM_nodeC z.2) (MM_nodeNext z.2) (MM_low z.2) (MM_high z.2) (MM_setFrom z.2) (MM_setTo z.2) (MM_setNot z.2) (MM_op z.2) (MM_opA z.2) (MM_opB z.2) (upd (MM_mark z.2) x6_29.toNatClampNeg (MM_round z.2)) (MM_now z.2) (MM_then z.2) (upd (upd (MM_todo z.2) x5_23.toNatClampNeg ((MM_opA z.2) x6_29.toNatClampNeg)) x5_204.toNatClampNeg ((MM_opB z.2) x6_29.toNatClampNeg)) (MM_nodes z.2) (MM_sets z.2) (MM_ranges z.2) (MM_steps z.2) (MM_pat z.2) (MM_patEnd z.2) (MM_round z.2) (MM_many1 z.2) (MM_broken z.2) (MM_checked z.2) (MM_faultKind z.2) (MM_faultValue z.2) (MM_latestFault z.2) (MM_anchors z.2) (MM_key z.2) (MM_target z.2) (MM_anchorValue z.2) (MM_anchorSchema z.2) (MM_path z.2) (MM_route z.2) (MM_isSchema z.2) (MM_seen1 z.2) (MM_pathSize z.2) (MM_octetRow z.2) (MM_partRow z.2) (MM_pairValue z.2) (MM_pairKey z.2) (MM_pairs z.2) (MM_judged z.2) (MM_deepest z.2) (MM_depth z.2) (MM_over z.2) (MM_seen z.2)) u14_M0 u14_M1)) C hP (hDD _ _ _ _) hS 18 17 mw_18 rfl g20 rfl d_MM_thread_231 (fun H locs hP hS => ?_)
                refine lv_goto (tgt := 14) hx hb d_MM_thread_232 (by decide) ?_
                cases h
                exact h0 rfl _ _ _ hP hS (lv_sub hl [2, 3, 4, 5, 0] rfl)
              · replace h := o_tt c16 h
                refine lv_aload_n hx hb d_MM_thread_178 rfl (lv_at hl 2 rfl) ?_
                refine o_get (v := .ref (ad 18)) C in_MM hP 0 mw_0 rfl 22 (by decide) k_8_12 rfl rfl d_MM_thread_179 ?_
                refine lv_iload hx hb d_MM_thread_182 (lv_at hl 1 rfl) ?_
                obtain ⟨x5_184, ex5_184⟩ : ∃ y : Int32, y = x5_23 + (1:Int32) := ⟨_, rfl⟩
                replace h := o_nm_at ex5_184 h
                refine lv_iinc (v := x5_184) (lv' := [(5, .int x5_184), (6, .int x6_29), (0, .ref (ad 0)), (1, .ref (ad 16)), (3, .int u14_x3), (4, .int u14_x4)]) hx hb d_MM_thread_184 hl (k := 1) rfl (by rw [ex5_184]; rfl) (by decide) rfl (fun ls hl => ?_)
                refine lv_aload_n hx hb d_MM_thread_187 rfl (lv_at hl 2 rfl) ?_
                refine o_get (v := .ref (ad 13)) C in_MM hP 0 mw_0 rfl 17 (by decide) k_8_7 rfl rfl d_MM_thread_188 ?_
                refine lv_iload hx hb d_MM_thread_191 (lv_at hl 1 rfl) ?_
                obtain ⟨g21, h⟩ := o_gd_some h
                refine o_iald (f := (MM_opA z.2)) C hP 13 12 mw_13 rfl g21 d_MM_thread_193 ?_
                obtain ⟨g22, h⟩ := o_gd_some h
                refine o_iast (f := (MM_todo z.2)) (w1 := (m_cw ad ca ky ty u14_rt (MM_mk (MM_err z.2) (MM_fed z.2) (MM_wrong z.2) (MM_octets z.2) (MM_nodeKind z.2) (MM_nodeA z.2) (MM_nodeB z.2) (MM_nodeC z.2) (MM_nodeNext z.2) (MM_low z.2) (MM_high z.2) (MM_setFrom z.2) (MM_setTo z.2) (MM_setNot z.2) (MM_op z.2) (MM_opA z.2) (MM_opB z.2) (upd (MM_mark z.2) x6_29.toNatClampNeg (MM_round z.2)) (MM_now z.2) (MM_then z.2) (upd (MM_todo z.2) x5_23.toNatClampNeg ((MM_opA z.2) x6_29.toNatClampNeg)) (MM_nodes z.2) (MM_sets z.2) (MM_ranges z.2) (MM_steps z.2) (MM_pat z.2) (MM_patEnd z.2) (MM_round z.2) (MM_many1 z.2) (MM_broken z.2) (MM_checked z.2) (MM_faultKind z.2) (MM_faultValue z.2) (MM_latestFault z.2) (MM_anchors z.2) (MM_key z.2) (MM_target z.2) (MM_anchorValue z.2) (MM_anchorSchema z.2) (MM_path z.2) (MM_route z.2) (MM_isSchema z.2) (MM_seen1 z.2) (MM_pathSize z.2) (MM_octetRow z.2) (MM_partRow z.2) (MM_pairValue z.2) (MM_pairKey z.2) (MM_pairs z.2) (MM_judged z.2) (MM_deepest z.2) (MM_depth z.2) (MM_over z.2) (MM_seen z.2)) u14_M0 u14_M1)) C hP (hDD _ _ _ _) hS 18 17 mw_18 rfl g22 rfl d_MM_thread_194 (fun H locs hP hS => ?_)
                refine lv_goto (tgt := 232) hx hb d_MM_thread_195 (by decide) ?_
                refine lv_goto (tgt := 14) hx hb d_MM_thread_232 (by decide) ?_
                cases h
                exact h0 rfl _ _ _ hP hS (lv_sub hl [2, 3, 4, 5, 0] rfl)
            · replace h := o_tt c14 h
              refine lv_iload hx hb d_MM_thread_145 (lv_at hl 5 rfl) ?_
              refine lv_if_eq (tgt := 232) hx hb d_MM_thread_147 (by decide) (fun c23 => ?_) (fun c23 => ?_)
              · replace h := o_tt c23 h
                refine lv_goto (tgt := 14) hx hb d_MM_thread_232 (by decide) ?_
                cases h
                exact h0 rfl _ _ _ hP hS (lv_sub hl [2, 3, 4, 5, 1] rfl)
              · replace h := o_ff c23 h
                refine lv_aload_n hx hb d_MM_thread_150 rfl (lv_at hl 2 rfl) ?_
                refine o_get (v := .ref (ad 18)) C in_MM hP 0 mw_0 rfl 22 (by decide) k_8_12 rfl rfl d_MM_thread_151 ?_
                refine lv_iload hx hb d_MM_thread_154 (lv_at hl 1 rfl) ?_
                obtain ⟨x5_156, ex5_156⟩ : ∃ y : Int32, y = x5_23 + (1:Int32) := ⟨_, rfl⟩
                replace h := o_nm_at ex5_156 h
                refine lv_iinc (v := x5_156) (lv' := [(5, .int x5_156), (6, .int x6_29), (0, .ref (ad 0)), (1, .ref (ad 16)), (3, .int u14_x3), (4, .int u14_x4)]) hx hb d_MM_thread_156 hl (k := 1) rfl (by rw [ex5_156]; rfl) (by decide) rfl (fun ls hl => ?_)
                refine lv_iload hx hb d_MM_thread_159 (lv_at hl 1 rfl) ?_
                refine lv_iconst (v := (1:Int32)) hx hb d_MM_thread_161 (by decide) ?_
                refine lv_iadd hx hb d_MM_thread_162 ?_
                obtain ⟨g24, h⟩ := o_gd_some h
                refine o_iast (f := (MM_todo z.2)) (w1 := (m_cw ad ca ky ty u14_rt (MM_mk (MM_err z.2) (MM_fed z.2) (MM_wrong z.2) (MM_octets z.2) (MM_nodeKind z.2) (MM_nodeA z.2) (MM_nodeB z.2) (MM_nodeC z.2) (MM_nodeNext z.2) (MM_low z.2) (MM_high z.2) (MM_setFrom z.2) (MM_setTo z.2) (MM_setNot z.2) (MM_op z.2) (MM_opA z.2) (MM_opB z.2) (upd (MM_mark z.2) x6_29.toNatClampNeg (MM_round z.2)) (MM_now z.2) (MM_then z.2) (upd (MM_todo z.2) x5_23.toNatClampNeg (x6_29 + (1:Int32))) (MM_nodes z.2) (MM_sets z.2) (MM_ranges z.2) (MM_steps z.2) (MM_pat z.2) (MM_patEnd z.2) (MM_round z.2) (MM_many1 z.2) (MM_broken z.2) (MM_checked z.2) (MM_faultKind z.2) (MM_faultValue z.2) (MM_latestFault z.2) (MM_anchors z.2) (MM_key z.2) (MM_target z.2) (MM_anchorValue z.2) (MM_anchorSchema z.2) (MM_path z.2) (MM_route z.2) (MM_isSchema z.2) (MM_seen1 z.2) (MM_pathSize z.2) (MM_octetRow z.2) (MM_partRow z.2) (MM_pairValue z.2) (MM_pairKey z.2) (MM_pairs z.2) (MM_judged z.2) (MM_deepest z.2) (MM_depth z.2) (MM_over z.2) (MM_seen z.2)) u14_M0 u14_M1)) C hP (hDD _ _ _ _) hS 18 17 mw_18 rfl g24 rfl d_MM_thread_163 (fun H locs hP hS => ?_)
                refine lv_goto (tgt := 232) hx hb d_MM_thread_164 (by decide) ?_
                refine lv_goto (tgt := 14) hx hb d_MM_thread_232 (by decide) ?_
                cases h
                exact h0 rfl _ _ _ hP hS (lv_sub hl [2, 3, 4, 5, 0] rfl)
          · replace h := o_tt c12 h
            refine lv_iload_n hx hb d_MM_thread_113 rfl (lv_at hl 4 rfl) ?_
            refine lv_if_eq (tgt := 232) hx hb d_MM_thread_114 (by decide) (fun c25 => ?_) (fun c25 => ?_)
            · replace h := o_tt c25 h
              refine lv_goto (tgt := 14) hx hb d_MM_thread_232 (by decide) ?_
              cases h
              exact h0 rfl _ _ _ hP hS (lv_sub hl [2, 3, 4, 5, 1] rfl)
            · replace h := o_ff c25 h
              refine lv_aload_n hx hb d_MM_thread_117 rfl (lv_at hl 2 rfl) ?_
              refine o_get (v := .ref (ad 18)) C in_MM hP 0 mw_0 rfl 22 (by decide) k_8_12 rfl rfl d_MM_thread_118 ?_
              refine lv_iload hx hb d_MM_thread_121 (lv_at hl 1 rfl) ?_
              obtain ⟨x5_123, ex5_123⟩ : ∃ y : Int32, y = x5_23 + (1:Int32) := ⟨_, rfl⟩
              replace h := o_nm_at ex5_123 h
              refine lv_iinc (v := x5_123) (lv' := [(5, .int x5_123), (6, .int x6_29), (0, .ref (ad 0)), (1, .ref (ad 16)), (3, .int u14_x3), (4, .int u14_x4)]) hx hb d_MM_thread_123 hl (k := 1) rfl (by rw [ex5_123]; rfl) (by decide) rfl (fun ls hl => ?_)
              refine lv_iload hx hb d_MM_thread_126 (lv_at hl 1 rfl) ?_
              refine lv_iconst (v := (1:Int32)) hx hb d_MM_thread_128 (by decide) ?_
              refine lv_iadd hx hb d_MM_thread_129 ?_
              obtain ⟨g26, h⟩ := o_gd_some h
              refine o_iast (f := (MM_todo z.2)) (w1 := (m_cw ad ca ky ty u14_rt (MM_mk (MM_err z.2) (MM_fed z.2) (MM_wrong z.2) (MM_octets z.2) (MM_nodeKind z.2) (MM_nodeA z.2) (MM_nodeB z.2) (MM_nodeC z.2) (MM_nodeNext z.2) (MM_low z.2) (MM_high z.2) (MM_setFrom z.2) (MM_setTo z.2) (MM_setNot z.2) (MM_op z.2) (MM_opA z.2) (MM_opB z.2) (upd (MM_mark z.2) x6_29.toNatClampNeg (MM_round z.2)) (MM_now z.2) (MM_then z.2) (upd (MM_todo z.2) x5_23.toNatClampNeg (x6_29 + (1:Int32))) (MM_nodes z.2) (MM_sets z.2) (MM_ranges z.2) (MM_steps z.2) (MM_pat z.2) (MM_patEnd z.2) (MM_round z.2) (MM_many1 z.2) (MM_broken z.2) (MM_checked z.2) (MM_faultKind z.2) (MM_faultValue z.2) (MM_latestFault z.2) (MM_anchors z.2) (MM_key z.2) (MM_target z.2) (MM_anchorValue z.2) (MM_anchorSchema z.2) (MM_path z.2) (MM_route z.2) (MM_isSchema z.2) (MM_seen1 z.2) (MM_pathSize z.2) (MM_octetRow z.2) (MM_partRow z.2) (MM_pairValue z.2) (MM_pairKey z.2) (MM_pairs z.2) (MM_judged z.2) (MM_deepest z.2) (MM_depth z.2) (MM_over z.2) (MM_seen z.2)) u14_M0 u14_M1)) C hP (hDD _ _ _ _) hS 18 17 mw_18 rfl g26 rfl d_MM_thread_130 (fun H locs hP hS => ?_)
              refine lv_goto (tgt := 232) hx hb d_MM_thread_131 (by decide) ?_
              refine lv_goto (tgt := 14) hx hb d_MM_thread_232 (by decide) ?_
              cases h
              exact h0 rfl _ _ _ hP hS (lv_sub hl [2, 3, 4, 5, 0] rfl)
        · replace h := o_tt c10 h
          refine lv_aload_n hx hb d_MM_thread_84 rfl (lv_at hl 3 rfl) ?_
          refine lv_aload_n hx hb d_MM_thread_85 rfl (lv_at hl 2 rfl) ?_
          refine lv_dup hx hb d_MM_thread_86 rfl ?_
          refine o_get (v := .int (MM_many1 z.2)) C in_MM hP 0 mw_0 rfl 30 (by decide) k_8_20 rfl rfl d_MM_thread_87 ?_
          refine lv_dup_x1 hx hb d_MM_thread_90 rfl rfl ?_
          refine lv_iconst (v := (1:Int32)) hx hb d_MM_thread_91 (by decide) ?_
          refine lv_iadd hx hb d_MM_thread_92 ?_
          refine o_put (v := .int ((MM_many1 z.2) + (1:Int32))) (ty := .int) (w1 := (m_cw ad ca ky ty u14_rt (MM_mk (MM_err z.2) (MM_fed z.2) (MM_wrong z.2) (MM_octets z.2) (MM_nodeKind z.2) (MM_nodeA z.2) (MM_nodeB z.2) (MM_nodeC z.2) (MM_nodeNext z.2) (MM_low z.2) (MM_high z.2) (MM_setFrom z.2) (MM_setTo z.2) (MM_setNot z.2) (MM_op z.2) (MM_opA z.2) (MM_opB z.2) (upd (MM_mark z.2) x6_29.toNatClampNeg (MM_round z.2)) (MM_now z.2) (MM_then z.2) (MM_todo z.2) (MM_nodes z.2) (MM_sets z.2) (MM_ranges z.2) (MM_steps z.2) (MM_pat z.2) (MM_patEnd z.2) (MM_round z.2) ((MM_many1 z.2) + (1:Int32)) (MM_broken z.2) (MM_checked z.2) (MM_faultKind z.2) (MM_faultValue z.2) (MM_latestFault z.2) (MM_anchors z.2) (MM_key z.2) (MM_target z.2) (MM_anchorValue z.2) (MM_anchorSchema z.2) (MM_path z.2) (MM_route z.2) (MM_isSchema z.2) (MM_seen1 z.2) (MM_pathSize z.2) (MM_octetRow z.2) (MM_partRow z.2) (MM_pairValue z.2) (MM_pairKey z.2) (MM_pairs z.2) (MM_judged z.2) (MM_deepest z.2) (MM_depth z.2) (MM_over z.2) (MM_seen z.2)) u14_M0 u14_M1)) C in_MM t_MM t_MM_ok n_MM hP (hDD _ _ _ _) hS 0 mw_0 rfl 30 (by decide) k_8_20 rfl rfl (by decide +kernel) rfl rfl (Nat.le_of_ble_eq_true rfl) rfl d_MM_thread_93 (fun H locs hP hS => ?_)
          refine lv_iload hx hb d_MM_thread_96 (lv_at hl 0 rfl) ?_
          obtain ⟨g27, h⟩ := o_gd_some h
          refine o_iast (f := (MM_now z.2)) (w1 := (m_cw ad ca ky ty u14_rt (MM_mk (MM_err z.2) (MM_fed z.2) (MM_wrong z.2) (MM_octets z.2) (MM_nodeKind z.2) (MM_nodeA z.2) (MM_nodeB z.2) (MM_nodeC z.2) (MM_nodeNext z.2) (MM_low z.2) (MM_high z.2) (MM_setFrom z.2) (MM_setTo z.2) (MM_setNot z.2) (MM_op z.2) (MM_opA z.2) (MM_opB z.2) (upd (MM_mark z.2) x6_29.toNatClampNeg (MM_round z.2)) (upd (MM_now z.2) (MM_many1 z.2).toNatClampNeg x6_29) (MM_then z.2) (MM_todo z.2) (MM_nodes z.2) (MM_sets z.2) (MM_ranges z.2) (MM_steps z.2) (MM_pat z.2) (MM_patEnd z.2) (MM_round z.2) ((MM_many1 z.2) + (1:Int32)) (MM_broken z.2) (MM_checked z.2) (MM_faultKind z.2) (MM_faultValue z.2) (MM_latestFault z.2) (MM_anchors z.2) (MM_key z.2) (MM_target z.2) (MM_anchorValue z.2) (MM_anchorSchema z.2) (MM_path z.2) (MM_route z.2) (MM_isSchema z.2) (MM_seen1 z.2) (MM_pathSize z.2) (MM_octetRow z.2) (MM_partRow z.2) (MM_pairValue z.2) (MM_pairKey z.2) (MM_pairs z.2) (MM_judged z.2) (MM_deepest z.2) (MM_depth z.2) (MM_over z.2) (MM_seen z.2)) u14_M0 u14_M1)) C hP (hDD _ _ _ _) hS 16 15 mw_16 rfl g27 rfl d_MM_thread_98 (fun H locs hP hS => ?_)
          refine lv_goto (tgt := 232) hx hb d_MM_thread_99 (by decide) ?_
          refine lv_goto (tgt := 14) hx hb d_MM_thread_232 (by decide) ?_
          cases h
          exact h0 rfl _ _ _ hP hS (lv_sub hl [2, 3, 4, 5, 1] rfl)
      · replace h := o_tt c8 h
        cases h
        exact h1 (Nat.succ_ne_zero 0) _ _ _ hP hS (lv_sub hl [] rfl)
    · replace h := o_tt c5 h
      refine lv_goto (tgt := 14) hx hb d_MM_thread_45 (by decide) ?_
      cases h
      exact h0 rfl _ _ _ hP hS (lv_sub hl [2, 3, 4, 5, 1] rfl)
set_option maxHeartbeats 4000000 in
set_option maxRecDepth 100000 in
theorem e_MM_thread_now {E : (Nat → Prop) → State → Heap → Prop} {D : va_G} {ad kd sd vd xd : Nat → Nat} {ca : Nat → ClassId} {ky ty : Nat → Option Nat} (hE : o_EK E kd sd vd xd) (hKy : m_KY ky ty sd) (l : Launch) (n : Nat) (x2 : Int32) (x3 : Int32) (x4 : Int32) (Mm : SMM) (M0 : SMT) (M1 : SMT) (rt : Nat) {r : Int32 × SMM} (h : m_MM_thread_now n x2 x3 x4 Mm = some r) : o_Cn E l D m_cls (m_tys ca) y_MM_thread cc_MM_thread rm_MM_thread [.ref (ad 0), .ref (ad 16), .int x2, .int x3, .int x4] (m_cw ad ca ky ty rt Mm M0 M1) (m_cw ad ca ky ty rt r.2 M0 M1) (some (.int r.1)) := by
  refine o_Cn_of (by decide) (Nat.le_of_ble_eq_true rfl) ?_
  intro p e s m below meth c A ls C hD hP hS hl
  have hDD : ∀ (rt : Nat) (Mm : SMM) (M0 : SMT) (M1 : SMT), va_D A (m_cw ad ca ky ty rt Mm M0 M1) := fun _ _ _ _ => o_D_map hD rfl
  have hl : lv_has ls 7 [(0, .ref (ad 0)), (1, .ref (ad 16)), (2, .int x2), (3, .int x3), (4, .int x4)] := hl
  unfold m_MM_thread_now at h
  have C0 := C
  obtain ⟨hx, hb, -, -, -, hown, hts, hK, -, -⟩ := C0
  refine lv_iconst (v := (0:Int32)) hx hb d_MM_thread_0 (by decide) ?_
  refine lv_istore (lv' := [(5, .int (0:Int32)), (0, .ref (ad 0)), (1, .ref (ad 16)), (2, .int x2), (3, .int x3), (4, .int x4)]) hx hb d_MM_thread_1 hl (by decide) rfl (fun ls hl => ?_)
  refine lv_aload_n hx hb d_MM_thread_3 rfl (lv_at hl 1 rfl) ?_
  refine o_get (v := .ref (ad 18)) C in_MM hP 0 mw_0 rfl 22 (by decide) k_8_12 rfl rfl d_MM_thread_4 ?_
  refine lv_iload hx hb d_MM_thread_7 (lv_at hl 0 rfl) ?_
  obtain ⟨x5_9, ex5_9⟩ : ∃ y : Int32, y = (0:Int32) + (1:Int32) := ⟨_, rfl⟩
  replace h := o_nm_at ex5_9 h
  refine lv_iinc (v := x5_9) (lv' := [(5, .int x5_9), (0, .ref (ad 0)), (1, .ref (ad 16)), (2, .int x2), (3, .int x3), (4, .int x4)]) hx hb d_MM_thread_9 hl (k := 0) rfl (by rw [ex5_9]; rfl) (by decide) rfl (fun ls hl => ?_)
  refine lv_iload_n hx hb d_MM_thread_12 rfl (lv_at hl 3 rfl) ?_
  obtain ⟨g1, h⟩ := o_gd_some h
  refine o_iast (f := (MM_todo Mm)) (w1 := (m_cw ad ca ky ty rt (MM_mk (MM_err Mm) (MM_fed Mm) (MM_wrong Mm) (MM_octets Mm) (MM_nodeKind Mm) (MM_nodeA Mm) (MM_nodeB Mm) (MM_nodeC Mm) (MM_nodeNext Mm) (MM_low Mm) (MM_high Mm) (MM_setFrom Mm) (MM_setTo Mm) (MM_setNot Mm) (MM_op Mm) (MM_opA Mm) (MM_opB Mm) (MM_mark Mm) (MM_now Mm) (MM_then Mm) (upd (MM_todo Mm) (0:Int32).toNatClampNeg x2) (MM_nodes Mm) (MM_sets Mm) (MM_ranges Mm) (MM_steps Mm) (MM_pat Mm) (MM_patEnd Mm) (MM_round Mm) (MM_many1 Mm) (MM_broken Mm) (MM_checked Mm) (MM_faultKind Mm) (MM_faultValue Mm) (MM_latestFault Mm) (MM_anchors Mm) (MM_key Mm) (MM_target Mm) (MM_anchorValue Mm) (MM_anchorSchema Mm) (MM_path Mm) (MM_route Mm) (MM_isSchema Mm) (MM_seen1 Mm) (MM_pathSize Mm) (MM_octetRow Mm) (MM_partRow Mm) (MM_pairValue Mm) (MM_pairKey Mm) (MM_pairs Mm) (MM_judged Mm) (MM_deepest Mm) (MM_depth Mm) (MM_over Mm) (MM_seen Mm)) M0 M1)) C hP (hDD _ _ _ _) hS 18 17 mw_18 rfl g1 rfl d_MM_thread_13 (fun H locs hP hS => ?_)
  obtain ⟨q1, hq1, h⟩ := o_bd_some h
  refine o_sim2 (AH := fun zz => o_At p l e rm_MM_thread s m _ below meth c _ m_cls D A 7 14 [] (m_cw ad ca ky ty rt zz.2 M0 M1) [(0, .ref (ad 0)), (1, .ref (ad 16)), (3, .int x3), (4, .int x4), (5, .int zz.1)]) (AX := fun qq => if qq.1 = 1 then o_At p l e rm_MM_thread s m _ below meth c _ m_cls D A 7 71 [] (m_cw ad ca ky ty rt qq.2.2 M0 M1) [] else o_At p l e rm_MM_thread s m _ below meth c _ m_cls D A 7 235 [] (m_cw ad ca ky ty rt qq.2.2 M0 M1) []) (fun zz qq h h0 h1 => f_MM_thread_now_b14 hE hKy C hDD n x3 x4 M0 M1 rt zz qq h h0 h1) n _ q1 hq1 ?_ _ _ _ hP hS (lv_sub hl [1, 2, 4, 5, 0] rfl)
  by_cases c28 : q1.1 = 1
  · replace h := o_tt c28 h
    refine o_ip c28 ?_
    intro H locs ls hP hS hl
    refine lv_iconst (v := (1:Int32)) hx hb d_MM_thread_71 (by decide) ?_
    cases h
    exact o_rz (v := (1:Int32)) C o_nar1 hP hS d_MM_thread_72
  replace h := o_ff c28 h
  refine o_in_ c28 ?_
  intro H locs ls hP hS hl
  refine lv_iconst (v := (0:Int32)) hx hb d_MM_thread_235 (by decide) ?_
  cases h
  exact o_rz (v := (0:Int32)) C o_nar0 hP hS d_MM_thread_236
set_option maxHeartbeats 4000000 in
set_option maxRecDepth 100000 in
theorem f_MM_thread_then_b14 {E : (Nat → Prop) → State → Heap → Prop} {p : Program} {l : Launch} {e : Env} {s : State} {m : MethodId} {args : Array Value} {below : List Frame} {meth : Method} {c : Code} {D : va_G} {ad kd sd vd xd : Nat → Nat} {ca : Nat → ClassId} {A : Nat → Prop} {ky ty : Nat → Option Nat} {Q : State → Prop} (hE : o_EK E kd sd vd xd) (hKy : m_KY ky ty sd) (C : o_Cx E p s m args meth c D m_cls (m_tys ca) "SchemaJudgeModel" b_MM_thread (some .boolean) 7 cc_MM_thread A) (hDD : ∀ (rt : Nat) (Mm : SMM) (M0 : SMT) (M1 : SMT), va_D A (m_cw ad ca ky ty rt Mm M0 M1)) (n : Nat) (u14_x3 : Int32) (u14_x4 : Int32) (u14_M0 : SMT) (u14_M1 : SMT) (u14_rt : Nat) (z : Int32 × SMM) (q : Nat × Int32 × SMM) (h : m_MM_thread_then_b14 n u14_x3 u14_x4 z = some q) (h0 : q.1 = 0 → o_At p l e rm_MM_thread s m args below meth c Q m_cls D A 7 14 [] (m_cw ad ca ky ty u14_rt q.2.2 u14_M0 u14_M1) [(0, .ref (ad 0)), (1, .ref (ad 17)), (3, .int u14_x3), (4, .int u14_x4), (5, .int q.2.1)]) (h1 : q.1 ≠ 0 → (if q.1 = 1 then o_At p l e rm_MM_thread s m args below meth c Q m_cls D A 7 71 [] (m_cw ad ca ky ty u14_rt q.2.2 u14_M0 u14_M1) [] else o_At p l e rm_MM_thread s m args below meth c Q m_cls D A 7 235 [] (m_cw ad ca ky ty u14_rt q.2.2 u14_M0 u14_M1) [])) : o_At p l e rm_MM_thread s m args below meth c Q m_cls D A 7 14 [] (m_cw ad ca ky ty u14_rt z.2 u14_M0 u14_M1) [(0, .ref (ad 0)), (1, .ref (ad 17)), (3, .int u14_x3), (4, .int u14_x4), (5, .int z.1)] := by
  unfold m_MM_thread_then_b14 at h
  intro H locs ls hP hS hl
  have C0 := C
  obtain ⟨hx, hb, -, -, -, hown, hts, hK, -, -⟩ := C0
  refine lv_iload hx hb d_MM_thread_14 (lv_at hl 4 rfl) ?_
  refine lv_if_le (tgt := 235) hx hb d_MM_thread_16 (by decide) (fun c2 => ?_) (fun c2 => ?_)
  · replace h := o_tt c2 h
    cases h
    exact h1 (Nat.succ_ne_zero 1) _ _ _ hP hS (lv_sub hl [] rfl)
  · replace h := o_ff c2 h
    refine lv_aload_n hx hb d_MM_thread_19 rfl (lv_at hl 0 rfl) ?_
    refine o_get (v := .ref (ad 18)) C in_MM hP 0 mw_0 rfl 22 (by decide) k_8_12 rfl rfl d_MM_thread_20 ?_
    obtain ⟨x5_23, ex5_23⟩ : ∃ y : Int32, y = z.1 + (-1:Int32) := ⟨_, rfl⟩
    replace h := o_nm_at ex5_23 h
    refine lv_iinc (v := x5_23) (lv' := [(5, .int x5_23), (0, .ref (ad 0)), (1, .ref (ad 17)), (3, .int u14_x3), (4, .int u14_x4)]) hx hb d_MM_thread_23 hl (k := 4) rfl (by rw [ex5_23]; rfl) (by decide) rfl (fun ls hl => ?_)
    refine lv_iload hx hb d_MM_thread_26 (lv_at hl 0 rfl) ?_
    obtain ⟨g3, h⟩ := o_gd_some h
    refine o_iald (f := (MM_todo z.2)) C hP 18 17 mw_18 rfl g3 d_MM_thread_28 ?_
    refine lv_topi (fun x6_29 ex6_29 => ?_)
    replace h := o_nm_at ex6_29 h
    refine lv_istore (lv' := [(6, .int x6_29), (5, .int x5_23), (0, .ref (ad 0)), (1, .ref (ad 17)), (3, .int u14_x3), (4, .int u14_x4)]) hx hb d_MM_thread_29 hl (by decide) rfl (fun ls hl => ?_)
    refine lv_aload_n hx hb d_MM_thread_31 rfl (lv_at hl 2 rfl) ?_
    refine o_get (v := .ref (ad 15)) C in_MM hP 0 mw_0 rfl 19 (by decide) k_8_9 rfl rfl d_MM_thread_32 ?_
    refine lv_iload hx hb d_MM_thread_35 (lv_at hl 0 rfl) ?_
    obtain ⟨g4, h⟩ := o_gd_some h
    refine o_iald (f := (MM_mark z.2)) C hP 15 14 mw_15 rfl g4 d_MM_thread_37 ?_
    refine lv_aload_n hx hb d_MM_thread_38 rfl (lv_at hl 2 rfl) ?_
    refine o_get (v := .int (MM_round z.2)) C in_MM hP 0 mw_0 rfl 29 (by decide) k_8_19 rfl rfl d_MM_thread_39 ?_
    refine lv_icmp_ne (tgt := 48) hx hb d_MM_thread_42 (by decide) (fun c5 => ?_) (fun c5 => ?_)
    · replace h := o_ff c5 h
      refine lv_aload_n hx hb d_MM_thread_48 rfl (lv_at hl 2 rfl) ?_
      refine o_get (v := .ref (ad 15)) C in_MM hP 0 mw_0 rfl 19 (by decide) k_8_9 rfl rfl d_MM_thread_49 ?_
      refine lv_iload hx hb d_MM_thread_52 (lv_at hl 0 rfl) ?_
      refine lv_aload_n hx hb d_MM_thread_54 rfl (lv_at hl 2 rfl) ?_
      refine o_get (v := .int (MM_round z.2)) C in_MM hP 0 mw_0 rfl 29 (by decide) k_8_19 rfl rfl d_MM_thread_55 ?_
      obtain ⟨g6, h⟩ := o_gd_some h
      refine o_iast (f := (MM_mark z.2)) (w1 := (m_cw ad ca ky ty u14_rt (MM_mk (MM_err z.2) (MM_fed z.2) (MM_wrong z.2) (MM_octets z.2) (MM_nodeKind z.2) (MM_nodeA z.2) (MM_nodeB z.2) (MM_nodeC z.2) (MM_nodeNext z.2) (MM_low z.2) (MM_high z.2) (MM_setFrom z.2) (MM_setTo z.2) (MM_setNot z.2) (MM_op z.2) (MM_opA z.2) (MM_opB z.2) (upd (MM_mark z.2) x6_29.toNatClampNeg (MM_round z.2)) (MM_now z.2) (MM_then z.2) (MM_todo z.2) (MM_nodes z.2) (MM_sets z.2) (MM_ranges z.2) (MM_steps z.2) (MM_pat z.2) (MM_patEnd z.2) (MM_round z.2) (MM_many1 z.2) (MM_broken z.2) (MM_checked z.2) (MM_faultKind z.2) (MM_faultValue z.2) (MM_latestFault z.2) (MM_anchors z.2) (MM_key z.2) (MM_target z.2) (MM_anchorValue z.2) (MM_anchorSchema z.2) (MM_path z.2) (MM_route z.2) (MM_isSchema z.2) (MM_seen1 z.2) (MM_pathSize z.2) (MM_octetRow z.2) (MM_partRow z.2) (MM_pairValue z.2) (MM_pairKey z.2) (MM_pairs z.2) (MM_judged z.2) (MM_deepest z.2) (MM_depth z.2) (MM_over z.2) (MM_seen z.2)) u14_M0 u14_M1)) C hP (hDD _ _ _ _) hS 15 14 mw_15 rfl g6 rfl d_MM_thread_58 (fun H locs hP hS => ?_)
      refine lv_aload_n hx hb d_MM_thread_59 rfl (lv_at hl 2 rfl) ?_
      refine o_get (v := .ref (ad 12)) C in_MM hP 0 mw_0 rfl 16 (by decide) k_8_6 rfl rfl d_MM_thread_60 ?_
      refine lv_iload hx hb d_MM_thread_63 (lv_at hl 0 rfl) ?_
      obtain ⟨g7, h⟩ := o_gd_some h
      refine o_iald (f := (MM_op z.2)) C hP 12 11 mw_12 rfl g7 d_MM_thread_65 ?_
      refine lv_bipush (v := (9:Int32)) hx hb d_MM_thread_66 (by decide) ?_
      refine lv_icmp_ne (tgt := 73) hx hb d_MM_thread_68 (by decide) (fun c8 => ?_) (fun c8 => ?_)
      · replace h := o_ff c8 h
        refine lv_aload_n hx hb d_MM_thread_73 rfl (lv_at hl 2 rfl) ?_
        refine o_get (v := .ref (ad 12)) C in_MM hP 0 mw_0 rfl 16 (by decide) k_8_6 rfl rfl d_MM_thread_74 ?_
        refine lv_iload hx hb d_MM_thread_77 (lv_at hl 0 rfl) ?_
        obtain ⟨g9, h⟩ := o_gd_some h
        refine o_iald (f := (MM_op z.2)) C hP 12 11 mw_12 rfl g9 d_MM_thread_79 ?_
        refine lv_iconst (v := (1:Int32)) hx hb d_MM_thread_80 (by decide) ?_
        refine lv_icmp_ne (tgt := 102) hx hb d_MM_thread_81 (by decide) (fun c10 => ?_) (fun c10 => ?_)
        · replace h := o_ff c10 h
          refine lv_aload_n hx hb d_MM_thread_102 rfl (lv_at hl 2 rfl) ?_
          refine o_get (v := .ref (ad 12)) C in_MM hP 0 mw_0 rfl 16 (by decide) k_8_6 rfl rfl d_MM_thread_103 ?_
          refine lv_iload hx hb d_MM_thread_106 (lv_at hl 0 rfl) ?_
          obtain ⟨g11, h⟩ := o_gd_some h
          refine o_iald (f := (MM_op z.2)) C hP 12 11 mw_12 rfl g11 d_MM_thread_108 ?_
          refine lv_iconst (v := (2:Int32)) hx hb d_MM_thread_109 (by decide) ?_
          refine lv_icmp_ne (tgt := 134) hx hb d_MM_thread_110 (by decide) (fun c12 => ?_) (fun c12 => ?_)
          · replace h := o_ff c12 h
            refine lv_aload_n hx hb d_MM_thread_134 rfl (lv_at hl 2 rfl) ?_
            refine o_get (v := .ref (ad 12)) C in_MM hP 0 mw_0 rfl 16 (by decide) k_8_6 rfl rfl d_MM_thread_135 ?_
            refine lv_iload hx hb d_MM_thread_138 (lv_at hl 0 rfl) ?_
            obtain ⟨g13, h⟩ := o_gd_some h
            refine o_iald (f := (MM_op z.2)) C hP 12 11 mw_12 rfl g13 d_MM_thread_140 ?_
            refine lv_iconst (v := (3:Int32)) hx hb d_MM_thread_141 (by decide) ?_
            refine lv_icmp_ne (tgt := 167) hx hb d_MM_thread_142 (by decide) (fun c14 => ?_) (fun c14 => ?_)
            · replace h := o_ff c14 h
              refine lv_aload_n hx hb d_MM_thread_167 rfl (lv_at hl 2 rfl) ?_
              refine o_get (v := .ref (ad 12)) C in_MM hP 0 mw_0 rfl 16 (by decide) k_8_6 rfl rfl d_MM_thread_168 ?_
              refine lv_iload hx hb d_MM_thread_171 (lv_at hl 0 rfl) ?_
              obtain ⟨g15, h⟩ := o_gd_some h
              refine o_iald (f := (MM_op z.2)) C hP 12 11 mw_12 rfl g15 d_MM_thread_173 ?_
              refine lv_iconst (v := (5:Int32)) hx hb d_MM_thread_174 (by decide) ?_
              refine lv_icmp_ne (tgt := 198) hx hb d_MM_thread_175 (by decide) (fun c16 => ?_) (fun c16 => ?_)
              · replace h := o_ff c16 h
                refine lv_aload_n hx hb d_MM_thread_198 rfl (lv_at hl 2 rfl) ?_
                refine o_get (v := .ref (ad 18)) C in_MM hP 0 mw_0 rfl 22 (by decide) k_8_12 rfl rfl d_MM_thread_199 ?_
                refine lv_iload hx hb d_MM_thread_202 (lv_at hl 1 rfl) ?_
                obtain ⟨x5_204, ex5_204⟩ : ∃ y : Int32, y = x5_23 + (1:Int32) := ⟨_, rfl⟩
                replace h := o_nm_at ex5_204 h
                refine lv_iinc (v := x5_204) (lv' := [(5, .int x5_204), (6, .int x6_29), (0, .ref (ad 0)), (1, .ref (ad 17)), (3, .int u14_x3), (4, .int u14_x4)]) hx hb d_MM_thread_204 hl (k := 1) rfl (by rw [ex5_204]; rfl) (by decide) rfl (fun ls hl => ?_)
                refine lv_aload_n hx hb d_MM_thread_207 rfl (lv_at hl 2 rfl) ?_
                refine o_get (v := .ref (ad 13)) C in_MM hP 0 mw_0 rfl 17 (by decide) k_8_7 rfl rfl d_MM_thread_208 ?_
                refine lv_iload hx hb d_MM_thread_211 (lv_at hl 1 rfl) ?_
                obtain ⟨g17, h⟩ := o_gd_some h
                refine o_iald (f := (MM_opA z.2)) C hP 13 12 mw_13 rfl g17 d_MM_thread_213 ?_
                obtain ⟨g18, h⟩ := o_gd_some h
                refine o_iast (f := (MM_todo z.2)) (w1 := (m_cw ad ca ky ty u14_rt (MM_mk (MM_err z.2) (MM_fed z.2) (MM_wrong z.2) (MM_octets z.2) (MM_nodeKind z.2) (MM_nodeA z.2) (MM_nodeB z.2) (MM_nodeC z.2) (MM_nodeNext z.2) (MM_low z.2) (MM_high z.2) (MM_setFrom z.2) (MM_setTo z.2) (MM_setNot z.2) (MM_op z.2) (MM_opA z.2) (MM_opB z.2) (upd (MM_mark z.2) x6_29.toNatClampNeg (MM_round z.2)) (MM_now z.2) (MM_then z.2) (upd (MM_todo z.2) x5_23.toNatClampNeg ((MM_opA z.2) x6_29.toNatClampNeg)) (MM_nodes z.2) (MM_sets z.2) (MM_ranges z.2) (MM_steps z.2) (MM_pat z.2) (MM_patEnd z.2) (MM_round z.2) (MM_many1 z.2) (MM_broken z.2) (MM_checked z.2) (MM_faultKind z.2) (MM_faultValue z.2) (MM_latestFault z.2) (MM_anchors z.2) (MM_key z.2) (MM_target z.2) (MM_anchorValue z.2) (MM_anchorSchema z.2) (MM_path z.2) (MM_route z.2) (MM_isSchema z.2) (MM_seen1 z.2) (MM_pathSize z.2) (MM_octetRow z.2) (MM_partRow z.2) (MM_pairValue z.2) (MM_pairKey z.2) (MM_pairs z.2) (MM_judged z.2) (MM_deepest z.2) (MM_depth z.2) (MM_over z.2) (MM_seen z.2)) u14_M0 u14_M1)) C hP (hDD _ _ _ _) hS 18 17 mw_18 rfl g18 rfl d_MM_thread_214 (fun H locs hP hS => ?_)
                refine lv_aload_n hx hb d_MM_thread_215 rfl (lv_at hl 2 rfl) ?_
                refine o_get (v := .ref (ad 18)) C in_MM hP 0 mw_0 rfl 22 (by decide) k_8_12 rfl rfl d_MM_thread_216 ?_
                refine lv_iload hx hb d_MM_thread_219 (lv_at hl 0 rfl) ?_
                obtain ⟨x5_221, ex5_221⟩ : ∃ y : Int32, y = x5_204 + (1:Int32) := ⟨_, rfl⟩
                replace h := o_nm_at ex5_221 h
                refine lv_iinc (v := x5_221) (lv' := [(5, .int x5_221), (6, .int x6_29), (0, .ref (ad 0)), (1, .ref (ad 17)), (3, .int u14_x3), (4, .int u14_x4)]) hx hb d_MM_thread_221 hl (k := 0) rfl (by rw [ex5_221]; rfl) (by decide) rfl (fun ls hl => ?_)
                refine lv_aload_n hx hb d_MM_thread_224 rfl (lv_at hl 2 rfl) ?_
                refine o_get (v := .ref (ad 14)) C in_MM hP 0 mw_0 rfl 18 (by decide) k_8_8 rfl rfl d_MM_thread_225 ?_
                refine lv_iload hx hb d_MM_thread_228 (lv_at hl 1 rfl) ?_
                obtain ⟨g19, h⟩ := o_gd_some h
                refine o_iald (f := (MM_opB z.2)) C hP 14 13 mw_14 rfl g19 d_MM_thread_230 ?_
                obtain ⟨g20, h⟩ := o_gd_some h
                refine o_iast (f := (upd (MM_todo z.2) x5_23.toNatClampNeg ((MM_opA z.2) x6_29.toNatClampNeg))) (w1 := (m_cw ad ca ky ty u14_rt (MM_mk (MM_err z.2) (MM_fed z.2) (MM_wrong z.2) (MM_octets z.2) (MM_nodeKind z.2) (MM_nodeA z.2) (MM_nodeB z.2) (MM_nodeC z.2) (MM_nodeNext z.2) (MM_low z.2) (MM_high z.2) (MM_setFrom z.2) (MM_setTo z.2) (MM_setNot z.2) (MM_op z.2) (MM_opA z.2) (MM_opB z.2) (upd (MM_mark z.2) x6_29.toNatClampNeg (MM_round z.2)) (MM_now z.2) (MM_then z.2) (upd (upd (MM_todo z.2) x5_23.toNatClampNeg ((MM_opA z.2) x6_29.toNatClampNeg)) x5_204.toNatClampNeg ((MM_opB z.2) x6_29.toNatClampNeg)) (MM_nodes z.2) (MM_sets z.2) (MM_ranges z.2) (MM_steps z.2) (MM_pat z.2) (MM_patEnd z.2) (MM_round z.2) (MM_many1 z.2) (MM_broken z.2) (MM_checked z.2) (MM_faultKind z.2) (MM_faultValue z.2) (MM_latestFault z.2) (MM_anchors z.2) (MM_key z.2) (MM_target z.2) (MM_anchorValue z.2) (MM_anchorSchema z.2) (MM_path z.2) (MM_route z.2) (MM_isSchema z.2) (MM_seen1 z.2) (MM_pathSize z.2) (MM_octetRow z.2) (MM_partRow z.2) (MM_pairValue z.2) (MM_pairKey z.2) (MM_pairs z.2) (MM_judged z.2) (MM_deepest z.2) (MM_depth z.2) (MM_over z.2) (MM_seen z.2)) u14_M0 u14_M1)) C hP (hDD _ _ _ _) hS 18 17 mw_18 rfl g20 rfl d_MM_thread_231 (fun H locs hP hS => ?_)
                refine lv_goto (tgt := 14) hx hb d_MM_thread_232 (by decide) ?_
                cases h
                exact h0 rfl _ _ _ hP hS (lv_sub hl [2, 3, 4, 5, 0] rfl)
              · replace h := o_tt c16 h
                refine lv_aload_n hx hb d_MM_thread_178 rfl (lv_at hl 2 rfl) ?_
                refine o_get (v := .ref (ad 18)) C in_MM hP 0 mw_0 rfl 22 (by decide) k_8_12 rfl rfl d_MM_thread_179 ?_
                refine lv_iload hx hb d_MM_thread_182 (lv_at hl 1 rfl) ?_
                obtain ⟨x5_184, ex5_184⟩ : ∃ y : Int32, y = x5_23 + (1:Int32) := ⟨_, rfl⟩
                replace h := o_nm_at ex5_184 h
                refine lv_iinc (v := x5_184) (lv' := [(5, .int x5_184), (6, .int x6_29), (0, .ref (ad 0)), (1, .ref (ad 17)), (3, .int u14_x3), (4, .int u14_x4)]) hx hb d_MM_thread_184 hl (k := 1) rfl (by rw [ex5_184]; rfl) (by decide) rfl (fun ls hl => ?_)
                refine lv_aload_n hx hb d_MM_thread_187 rfl (lv_at hl 2 rfl) ?_
                refine o_get (v := .ref (ad 13)) C in_MM hP 0 mw_0 rfl 17 (by decide) k_8_7 rfl rfl d_MM_thread_188 ?_
                refine lv_iload hx hb d_MM_thread_191 (lv_at hl 1 rfl) ?_
                obtain ⟨g21, h⟩ := o_gd_some h
                refine o_iald (f := (MM_opA z.2)) C hP 13 12 mw_13 rfl g21 d_MM_thread_193 ?_
                obtain ⟨g22, h⟩ := o_gd_some h
                refine o_iast (f := (MM_todo z.2)) (w1 := (m_cw ad ca ky ty u14_rt (MM_mk (MM_err z.2) (MM_fed z.2) (MM_wrong z.2) (MM_octets z.2) (MM_nodeKind z.2) (MM_nodeA z.2) (MM_nodeB z.2) (MM_nodeC z.2) (MM_nodeNext z.2) (MM_low z.2) (MM_high z.2) (MM_setFrom z.2) (MM_setTo z.2) (MM_setNot z.2) (MM_op z.2) (MM_opA z.2) (MM_opB z.2) (upd (MM_mark z.2) x6_29.toNatClampNeg (MM_round z.2)) (MM_now z.2) (MM_then z.2) (upd (MM_todo z.2) x5_23.toNatClampNeg ((MM_opA z.2) x6_29.toNatClampNeg)) (MM_nodes z.2) (MM_sets z.2) (MM_ranges z.2) (MM_steps z.2) (MM_pat z.2) (MM_patEnd z.2) (MM_round z.2) (MM_many1 z.2) (MM_broken z.2) (MM_checked z.2) (MM_faultKind z.2) (MM_faultValue z.2) (MM_latestFault z.2) (MM_anchors z.2) (MM_key z.2) (MM_target z.2) (MM_anchorValue z.2) (MM_anchorSchema z.2) (MM_path z.2) (MM_route z.2) (MM_isSchema z.2) (MM_seen1 z.2) (MM_pathSize z.2) (MM_octetRow z.2) (MM_partRow z.2) (MM_pairValue z.2) (MM_pairKey z.2) (MM_pairs z.2) (MM_judged z.2) (MM_deepest z.2) (MM_depth z.2) (MM_over z.2) (MM_seen z.2)) u14_M0 u14_M1)) C hP (hDD _ _ _ _) hS 18 17 mw_18 rfl g22 rfl d_MM_thread_194 (fun H locs hP hS => ?_)
                refine lv_goto (tgt := 232) hx hb d_MM_thread_195 (by decide) ?_
                refine lv_goto (tgt := 14) hx hb d_MM_thread_232 (by decide) ?_
                cases h
                exact h0 rfl _ _ _ hP hS (lv_sub hl [2, 3, 4, 5, 0] rfl)
            · replace h := o_tt c14 h
              refine lv_iload hx hb d_MM_thread_145 (lv_at hl 5 rfl) ?_
              refine lv_if_eq (tgt := 232) hx hb d_MM_thread_147 (by decide) (fun c23 => ?_) (fun c23 => ?_)
              · replace h := o_tt c23 h
                refine lv_goto (tgt := 14) hx hb d_MM_thread_232 (by decide) ?_
                cases h
                exact h0 rfl _ _ _ hP hS (lv_sub hl [2, 3, 4, 5, 1] rfl)
              · replace h := o_ff c23 h
                refine lv_aload_n hx hb d_MM_thread_150 rfl (lv_at hl 2 rfl) ?_
                refine o_get (v := .ref (ad 18)) C in_MM hP 0 mw_0 rfl 22 (by decide) k_8_12 rfl rfl d_MM_thread_151 ?_
                refine lv_iload hx hb d_MM_thread_154 (lv_at hl 1 rfl) ?_
                obtain ⟨x5_156, ex5_156⟩ : ∃ y : Int32, y = x5_23 + (1:Int32) := ⟨_, rfl⟩
                replace h := o_nm_at ex5_156 h
                refine lv_iinc (v := x5_156) (lv' := [(5, .int x5_156), (6, .int x6_29), (0, .ref (ad 0)), (1, .ref (ad 17)), (3, .int u14_x3), (4, .int u14_x4)]) hx hb d_MM_thread_156 hl (k := 1) rfl (by rw [ex5_156]; rfl) (by decide) rfl (fun ls hl => ?_)
                refine lv_iload hx hb d_MM_thread_159 (lv_at hl 1 rfl) ?_
                refine lv_iconst (v := (1:Int32)) hx hb d_MM_thread_161 (by decide) ?_
                refine lv_iadd hx hb d_MM_thread_162 ?_
                obtain ⟨g24, h⟩ := o_gd_some h
                refine o_iast (f := (MM_todo z.2)) (w1 := (m_cw ad ca ky ty u14_rt (MM_mk (MM_err z.2) (MM_fed z.2) (MM_wrong z.2) (MM_octets z.2) (MM_nodeKind z.2) (MM_nodeA z.2) (MM_nodeB z.2) (MM_nodeC z.2) (MM_nodeNext z.2) (MM_low z.2) (MM_high z.2) (MM_setFrom z.2) (MM_setTo z.2) (MM_setNot z.2) (MM_op z.2) (MM_opA z.2) (MM_opB z.2) (upd (MM_mark z.2) x6_29.toNatClampNeg (MM_round z.2)) (MM_now z.2) (MM_then z.2) (upd (MM_todo z.2) x5_23.toNatClampNeg (x6_29 + (1:Int32))) (MM_nodes z.2) (MM_sets z.2) (MM_ranges z.2) (MM_steps z.2) (MM_pat z.2) (MM_patEnd z.2) (MM_round z.2) (MM_many1 z.2) (MM_broken z.2) (MM_checked z.2) (MM_faultKind z.2) (MM_faultValue z.2) (MM_latestFault z.2) (MM_anchors z.2) (MM_key z.2) (MM_target z.2) (MM_anchorValue z.2) (MM_anchorSchema z.2) (MM_path z.2) (MM_route z.2) (MM_isSchema z.2) (MM_seen1 z.2) (MM_pathSize z.2) (MM_octetRow z.2) (MM_partRow z.2) (MM_pairValue z.2) (MM_pairKey z.2) (MM_pairs z.2) (MM_judged z.2) (MM_deepest z.2) (MM_depth z.2) (MM_over z.2) (MM_seen z.2)) u14_M0 u14_M1)) C hP (hDD _ _ _ _) hS 18 17 mw_18 rfl g24 rfl d_MM_thread_163 (fun H locs hP hS => ?_)
                refine lv_goto (tgt := 232) hx hb d_MM_thread_164 (by decide) ?_
                refine lv_goto (tgt := 14) hx hb d_MM_thread_232 (by decide) ?_
                cases h
                exact h0 rfl _ _ _ hP hS (lv_sub hl [2, 3, 4, 5, 0] rfl)
          · replace h := o_tt c12 h
            refine lv_iload_n hx hb d_MM_thread_113 rfl (lv_at hl 4 rfl) ?_
            refine lv_if_eq (tgt := 232) hx hb d_MM_thread_114 (by decide) (fun c25 => ?_) (fun c25 => ?_)
            · replace h := o_tt c25 h
              refine lv_goto (tgt := 14) hx hb d_MM_thread_232 (by decide) ?_
              cases h
              exact h0 rfl _ _ _ hP hS (lv_sub hl [2, 3, 4, 5, 1] rfl)
            · replace h := o_ff c25 h
              refine lv_aload_n hx hb d_MM_thread_117 rfl (lv_at hl 2 rfl) ?_
              refine o_get (v := .ref (ad 18)) C in_MM hP 0 mw_0 rfl 22 (by decide) k_8_12 rfl rfl d_MM_thread_118 ?_
              refine lv_iload hx hb d_MM_thread_121 (lv_at hl 1 rfl) ?_
              obtain ⟨x5_123, ex5_123⟩ : ∃ y : Int32, y = x5_23 + (1:Int32) := ⟨_, rfl⟩
              replace h := o_nm_at ex5_123 h
              refine lv_iinc (v := x5_123) (lv' := [(5, .int x5_123), (6, .int x6_29), (0, .ref (ad 0)), (1, .ref (ad 17)), (3, .int u14_x3), (4, .int u14_x4)]) hx hb d_MM_thread_123 hl (k := 1) rfl (by rw [ex5_123]; rfl) (by decide) rfl (fun ls hl => ?_)
              refine lv_iload hx hb d_MM_thread_126 (lv_at hl 1 rfl) ?_
              refine lv_iconst (v := (1:Int32)) hx hb d_MM_thread_128 (by decide) ?_
              refine lv_iadd hx hb d_MM_thread_129 ?_
              obtain ⟨g26, h⟩ := o_gd_some h
              refine o_iast (f := (MM_todo z.2)) (w1 := (m_cw ad ca ky ty u14_rt (MM_mk (MM_err z.2) (MM_fed z.2) (MM_wrong z.2) (MM_octets z.2) (MM_nodeKind z.2) (MM_nodeA z.2) (MM_nodeB z.2) (MM_nodeC z.2) (MM_nodeNext z.2) (MM_low z.2) (MM_high z.2) (MM_setFrom z.2) (MM_setTo z.2) (MM_setNot z.2) (MM_op z.2) (MM_opA z.2) (MM_opB z.2) (upd (MM_mark z.2) x6_29.toNatClampNeg (MM_round z.2)) (MM_now z.2) (MM_then z.2) (upd (MM_todo z.2) x5_23.toNatClampNeg (x6_29 + (1:Int32))) (MM_nodes z.2) (MM_sets z.2) (MM_ranges z.2) (MM_steps z.2) (MM_pat z.2) (MM_patEnd z.2) (MM_round z.2) (MM_many1 z.2) (MM_broken z.2) (MM_checked z.2) (MM_faultKind z.2) (MM_faultValue z.2) (MM_latestFault z.2) (MM_anchors z.2) (MM_key z.2) (MM_target z.2) (MM_anchorValue z.2) (MM_anchorSchema z.2) (MM_path z.2) (MM_route z.2) (MM_isSchema z.2) (MM_seen1 z.2) (MM_pathSize z.2) (MM_octetRow z.2) (MM_partRow z.2) (MM_pairValue z.2) (MM_pairKey z.2) (MM_pairs z.2) (MM_judged z.2) (MM_deepest z.2) (MM_depth z.2) (MM_over z.2) (MM_seen z.2)) u14_M0 u14_M1)) C hP (hDD _ _ _ _) hS 18 17 mw_18 rfl g26 rfl d_MM_thread_130 (fun H locs hP hS => ?_)
              refine lv_goto (tgt := 232) hx hb d_MM_thread_131 (by decide) ?_
              refine lv_goto (tgt := 14) hx hb d_MM_thread_232 (by decide) ?_
              cases h
              exact h0 rfl _ _ _ hP hS (lv_sub hl [2, 3, 4, 5, 0] rfl)
        · replace h := o_tt c10 h
          refine lv_aload_n hx hb d_MM_thread_84 rfl (lv_at hl 3 rfl) ?_
          refine lv_aload_n hx hb d_MM_thread_85 rfl (lv_at hl 2 rfl) ?_
          refine lv_dup hx hb d_MM_thread_86 rfl ?_
          refine o_get (v := .int (MM_many1 z.2)) C in_MM hP 0 mw_0 rfl 30 (by decide) k_8_20 rfl rfl d_MM_thread_87 ?_
          refine lv_dup_x1 hx hb d_MM_thread_90 rfl rfl ?_
          refine lv_iconst (v := (1:Int32)) hx hb d_MM_thread_91 (by decide) ?_
          refine lv_iadd hx hb d_MM_thread_92 ?_
          refine o_put (v := .int ((MM_many1 z.2) + (1:Int32))) (ty := .int) (w1 := (m_cw ad ca ky ty u14_rt (MM_mk (MM_err z.2) (MM_fed z.2) (MM_wrong z.2) (MM_octets z.2) (MM_nodeKind z.2) (MM_nodeA z.2) (MM_nodeB z.2) (MM_nodeC z.2) (MM_nodeNext z.2) (MM_low z.2) (MM_high z.2) (MM_setFrom z.2) (MM_setTo z.2) (MM_setNot z.2) (MM_op z.2) (MM_opA z.2) (MM_opB z.2) (upd (MM_mark z.2) x6_29.toNatClampNeg (MM_round z.2)) (MM_now z.2) (MM_then z.2) (MM_todo z.2) (MM_nodes z.2) (MM_sets z.2) (MM_ranges z.2) (MM_steps z.2) (MM_pat z.2) (MM_patEnd z.2) (MM_round z.2) ((MM_many1 z.2) + (1:Int32)) (MM_broken z.2) (MM_checked z.2) (MM_faultKind z.2) (MM_faultValue z.2) (MM_latestFault z.2) (MM_anchors z.2) (MM_key z.2) (MM_target z.2) (MM_anchorValue z.2) (MM_anchorSchema z.2) (MM_path z.2) (MM_route z.2) (MM_isSchema z.2) (MM_seen1 z.2) (MM_pathSize z.2) (MM_octetRow z.2) (MM_partRow z.2) (MM_pairValue z.2) (MM_pairKey z.2) (MM_pairs z.2) (MM_judged z.2) (MM_deepest z.2) (MM_depth z.2) (MM_over z.2) (MM_seen z.2)) u14_M0 u14_M1)) C in_MM t_MM t_MM_ok n_MM hP (hDD _ _ _ _) hS 0 mw_0 rfl 30 (by decide) k_8_20 rfl rfl (by decide +kernel) rfl rfl (Nat.le_of_ble_eq_true rfl) rfl d_MM_thread_93 (fun H locs hP hS => ?_)
          refine lv_iload hx hb d_MM_thread_96 (lv_at hl 0 rfl) ?_
          obtain ⟨g27, h⟩ := o_gd_some h
          refine o_iast (f := (MM_then z.2)) (w1 := (m_cw ad ca ky ty u14_rt (MM_mk (MM_err z.2) (MM_fed z.2) (MM_wrong z.2) (MM_octets z.2) (MM_nodeKind z.2) (MM_nodeA z.2) (MM_nodeB z.2) (MM_nodeC z.2) (MM_nodeNext z.2) (MM_low z.2) (MM_high z.2) (MM_setFrom z.2) (MM_setTo z.2) (MM_setNot z.2) (MM_op z.2) (MM_opA z.2) (MM_opB z.2) (upd (MM_mark z.2) x6_29.toNatClampNeg (MM_round z.2)) (MM_now z.2) (upd (MM_then z.2) (MM_many1 z.2).toNatClampNeg x6_29) (MM_todo z.2) (MM_nodes z.2) (MM_sets z.2) (MM_ranges z.2) (MM_steps z.2) (MM_pat z.2) (MM_patEnd z.2) (MM_round z.2) ((MM_many1 z.2) + (1:Int32)) (MM_broken z.2) (MM_checked z.2) (MM_faultKind z.2) (MM_faultValue z.2) (MM_latestFault z.2) (MM_anchors z.2) (MM_key z.2) (MM_target z.2) (MM_anchorValue z.2) (MM_anchorSchema z.2) (MM_path z.2) (MM_route z.2) (MM_isSchema z.2) (MM_seen1 z.2) (MM_pathSize z.2) (MM_octetRow z.2) (MM_partRow z.2) (MM_pairValue z.2) (MM_pairKey z.2) (MM_pairs z.2) (MM_judged z.2) (MM_deepest z.2) (MM_depth z.2) (MM_over z.2) (MM_seen z.2)) u14_M0 u14_M1)) C hP (hDD _ _ _ _) hS 17 16 mw_17 rfl g27 rfl d_MM_thread_98 (fun H locs hP hS => ?_)
          refine lv_goto (tgt := 232) hx hb d_MM_thread_99 (by decide) ?_
          refine lv_goto (tgt := 14) hx hb d_MM_thread_232 (by decide) ?_
          cases h
          exact h0 rfl _ _ _ hP hS (lv_sub hl [2, 3, 4, 5, 1] rfl)
      · replace h := o_tt c8 h
        cases h
        exact h1 (Nat.succ_ne_zero 0) _ _ _ hP hS (lv_sub hl [] rfl)
    · replace h := o_tt c5 h
      refine lv_goto (tgt := 14) hx hb d_MM_thread_45 (by decide) ?_
      cases h
      exact h0 rfl _ _ _ hP hS (lv_sub hl [2, 3, 4, 5, 1] rfl)
set_option maxHeartbeats 4000000 in
set_option maxRecDepth 100000 in
theorem e_MM_thread_then {E : (Nat → Prop) → State → Heap → Prop} {D : va_G} {ad kd sd vd xd : Nat → Nat} {ca : Nat → ClassId} {ky ty : Nat → Option Nat} (hE : o_EK E kd sd vd xd) (hKy : m_KY ky ty sd) (l : Launch) (n : Nat) (x2 : Int32) (x3 : Int32) (x4 : Int32) (Mm : SMM) (M0 : SMT) (M1 : SMT) (rt : Nat) {r : Int32 × SMM} (h : m_MM_thread_then n x2 x3 x4 Mm = some r) : o_Cn E l D m_cls (m_tys ca) y_MM_thread cc_MM_thread rm_MM_thread [.ref (ad 0), .ref (ad 17), .int x2, .int x3, .int x4] (m_cw ad ca ky ty rt Mm M0 M1) (m_cw ad ca ky ty rt r.2 M0 M1) (some (.int r.1)) := by
  refine o_Cn_of (by decide) (Nat.le_of_ble_eq_true rfl) ?_
  intro p e s m below meth c A ls C hD hP hS hl
  have hDD : ∀ (rt : Nat) (Mm : SMM) (M0 : SMT) (M1 : SMT), va_D A (m_cw ad ca ky ty rt Mm M0 M1) := fun _ _ _ _ => o_D_map hD rfl
  have hl : lv_has ls 7 [(0, .ref (ad 0)), (1, .ref (ad 17)), (2, .int x2), (3, .int x3), (4, .int x4)] := hl
  unfold m_MM_thread_then at h
  have C0 := C
  obtain ⟨hx, hb, -, -, -, hown, hts, hK, -, -⟩ := C0
  refine lv_iconst (v := (0:Int32)) hx hb d_MM_thread_0 (by decide) ?_
  refine lv_istore (lv' := [(5, .int (0:Int32)), (0, .ref (ad 0)), (1, .ref (ad 17)), (2, .int x2), (3, .int x3), (4, .int x4)]) hx hb d_MM_thread_1 hl (by decide) rfl (fun ls hl => ?_)
  refine lv_aload_n hx hb d_MM_thread_3 rfl (lv_at hl 1 rfl) ?_
  refine o_get (v := .ref (ad 18)) C in_MM hP 0 mw_0 rfl 22 (by decide) k_8_12 rfl rfl d_MM_thread_4 ?_
  refine lv_iload hx hb d_MM_thread_7 (lv_at hl 0 rfl) ?_
  obtain ⟨x5_9, ex5_9⟩ : ∃ y : Int32, y = (0:Int32) + (1:Int32) := ⟨_, rfl⟩
  replace h := o_nm_at ex5_9 h
  refine lv_iinc (v := x5_9) (lv' := [(5, .int x5_9), (0, .ref (ad 0)), (1, .ref (ad 17)), (2, .int x2), (3, .int x3), (4, .int x4)]) hx hb d_MM_thread_9 hl (k := 0) rfl (by rw [ex5_9]; rfl) (by decide) rfl (fun ls hl => ?_)
  refine lv_iload_n hx hb d_MM_thread_12 rfl (lv_at hl 3 rfl) ?_
  obtain ⟨g1, h⟩ := o_gd_some h
  refine o_iast (f := (MM_todo Mm)) (w1 := (m_cw ad ca ky ty rt (MM_mk (MM_err Mm) (MM_fed Mm) (MM_wrong Mm) (MM_octets Mm) (MM_nodeKind Mm) (MM_nodeA Mm) (MM_nodeB Mm) (MM_nodeC Mm) (MM_nodeNext Mm) (MM_low Mm) (MM_high Mm) (MM_setFrom Mm) (MM_setTo Mm) (MM_setNot Mm) (MM_op Mm) (MM_opA Mm) (MM_opB Mm) (MM_mark Mm) (MM_now Mm) (MM_then Mm) (upd (MM_todo Mm) (0:Int32).toNatClampNeg x2) (MM_nodes Mm) (MM_sets Mm) (MM_ranges Mm) (MM_steps Mm) (MM_pat Mm) (MM_patEnd Mm) (MM_round Mm) (MM_many1 Mm) (MM_broken Mm) (MM_checked Mm) (MM_faultKind Mm) (MM_faultValue Mm) (MM_latestFault Mm) (MM_anchors Mm) (MM_key Mm) (MM_target Mm) (MM_anchorValue Mm) (MM_anchorSchema Mm) (MM_path Mm) (MM_route Mm) (MM_isSchema Mm) (MM_seen1 Mm) (MM_pathSize Mm) (MM_octetRow Mm) (MM_partRow Mm) (MM_pairValue Mm) (MM_pairKey Mm) (MM_pairs Mm) (MM_judged Mm) (MM_deepest Mm) (MM_depth Mm) (MM_over Mm) (MM_seen Mm)) M0 M1)) C hP (hDD _ _ _ _) hS 18 17 mw_18 rfl g1 rfl d_MM_thread_13 (fun H locs hP hS => ?_)
  obtain ⟨q1, hq1, h⟩ := o_bd_some h
  refine o_sim2 (AH := fun zz => o_At p l e rm_MM_thread s m _ below meth c _ m_cls D A 7 14 [] (m_cw ad ca ky ty rt zz.2 M0 M1) [(0, .ref (ad 0)), (1, .ref (ad 17)), (3, .int x3), (4, .int x4), (5, .int zz.1)]) (AX := fun qq => if qq.1 = 1 then o_At p l e rm_MM_thread s m _ below meth c _ m_cls D A 7 71 [] (m_cw ad ca ky ty rt qq.2.2 M0 M1) [] else o_At p l e rm_MM_thread s m _ below meth c _ m_cls D A 7 235 [] (m_cw ad ca ky ty rt qq.2.2 M0 M1) []) (fun zz qq h h0 h1 => f_MM_thread_then_b14 hE hKy C hDD n x3 x4 M0 M1 rt zz qq h h0 h1) n _ q1 hq1 ?_ _ _ _ hP hS (lv_sub hl [1, 2, 4, 5, 0] rfl)
  by_cases c28 : q1.1 = 1
  · replace h := o_tt c28 h
    refine o_ip c28 ?_
    intro H locs ls hP hS hl
    refine lv_iconst (v := (1:Int32)) hx hb d_MM_thread_71 (by decide) ?_
    cases h
    exact o_rz (v := (1:Int32)) C o_nar1 hP hS d_MM_thread_72
  replace h := o_ff c28 h
  refine o_in_ c28 ?_
  intro H locs ls hP hS hl
  refine lv_iconst (v := (0:Int32)) hx hb d_MM_thread_235 (by decide) ?_
  cases h
  exact o_rz (v := (0:Int32)) C o_nar0 hP hS d_MM_thread_236
set_option maxHeartbeats 4000000 in
set_option maxRecDepth 100000 in
theorem e_MM_fault {E : (Nat → Prop) → State → Heap → Prop} {D : va_G} {ad kd sd vd xd : Nat → Nat} {ca : Nat → ClassId} {ky ty : Nat → Option Nat} (hE : o_EK E kd sd vd xd) (hKy : m_KY ky ty sd) (l : Launch) (x1 : Int32) (x2 : Int32) (Mm : SMM) (M0 : SMT) (M1 : SMT) (rt : Nat) {r : SMM} (h : m_MM_fault x1 x2 Mm = some r) : o_Cn E l D m_cls (m_tys ca) y_MM_fault cc_MM_fault rm_MM_fault [.ref (ad 0), .int x1, .int x2] (m_cw ad ca ky ty rt Mm M0 M1) (m_cw ad ca ky ty rt r M0 M1) none := by
  refine o_Cn_of (by decide) (Nat.le_of_ble_eq_true rfl) ?_
  intro p e s m below meth c A ls C hD hP hS hl
  have hDD : ∀ (rt : Nat) (Mm : SMM) (M0 : SMT) (M1 : SMT), va_D A (m_cw ad ca ky ty rt Mm M0 M1) := fun _ _ _ _ => o_D_map hD rfl
  have hl : lv_has ls 3 [(0, .ref (ad 0)), (1, .int x1), (2, .int x2)] := hl
  unfold m_MM_fault at h
  have C0 := C
  obtain ⟨hx, hb, -, -, -, hown, hts, hK, -, -⟩ := C0
  refine lv_aload_n hx hb d_MM_fault_0 rfl (lv_at hl 0 rfl) ?_
  refine o_get (v := .int (MM_faultKind Mm)) C in_MM hP 0 mw_0 rfl 36 (by decide) k_8_26 rfl rfl d_MM_fault_1 ?_
  refine lv_if_eq (tgt := 32) hx hb d_MM_fault_4 (by decide) (fun c1 => ?_) (fun c1 => ?_)
  · replace h := o_tt c1 h
    refine lv_aload_n hx hb d_MM_fault_32 rfl (lv_at hl 0 rfl) ?_
    refine lv_iload_n hx hb d_MM_fault_33 rfl (lv_at hl 1 rfl) ?_
    refine o_put (v := .int x1) (ty := .int) (w1 := (m_cw ad ca ky ty rt (MM_mk (MM_err Mm) (MM_fed Mm) (MM_wrong Mm) (MM_octets Mm) (MM_nodeKind Mm) (MM_nodeA Mm) (MM_nodeB Mm) (MM_nodeC Mm) (MM_nodeNext Mm) (MM_low Mm) (MM_high Mm) (MM_setFrom Mm) (MM_setTo Mm) (MM_setNot Mm) (MM_op Mm) (MM_opA Mm) (MM_opB Mm) (MM_mark Mm) (MM_now Mm) (MM_then Mm) (MM_todo Mm) (MM_nodes Mm) (MM_sets Mm) (MM_ranges Mm) (MM_steps Mm) (MM_pat Mm) (MM_patEnd Mm) (MM_round Mm) (MM_many1 Mm) (MM_broken Mm) (MM_checked Mm) x1 (MM_faultValue Mm) (MM_latestFault Mm) (MM_anchors Mm) (MM_key Mm) (MM_target Mm) (MM_anchorValue Mm) (MM_anchorSchema Mm) (MM_path Mm) (MM_route Mm) (MM_isSchema Mm) (MM_seen1 Mm) (MM_pathSize Mm) (MM_octetRow Mm) (MM_partRow Mm) (MM_pairValue Mm) (MM_pairKey Mm) (MM_pairs Mm) (MM_judged Mm) (MM_deepest Mm) (MM_depth Mm) (MM_over Mm) (MM_seen Mm)) M0 M1)) C in_MM t_MM t_MM_ok n_MM hP (hDD _ _ _ _) hS 0 mw_0 rfl 36 (by decide) k_8_26 rfl rfl (by decide +kernel) rfl rfl (Nat.le_of_ble_eq_true rfl) rfl d_MM_fault_34 (fun H locs hP hS => ?_)
    refine lv_aload_n hx hb d_MM_fault_37 rfl (lv_at hl 0 rfl) ?_
    refine lv_iload_n hx hb d_MM_fault_38 rfl (lv_at hl 2 rfl) ?_
    refine o_put (v := .int x2) (ty := .int) (w1 := (m_cw ad ca ky ty rt (MM_mk (MM_err Mm) (MM_fed Mm) (MM_wrong Mm) (MM_octets Mm) (MM_nodeKind Mm) (MM_nodeA Mm) (MM_nodeB Mm) (MM_nodeC Mm) (MM_nodeNext Mm) (MM_low Mm) (MM_high Mm) (MM_setFrom Mm) (MM_setTo Mm) (MM_setNot Mm) (MM_op Mm) (MM_opA Mm) (MM_opB Mm) (MM_mark Mm) (MM_now Mm) (MM_then Mm) (MM_todo Mm) (MM_nodes Mm) (MM_sets Mm) (MM_ranges Mm) (MM_steps Mm) (MM_pat Mm) (MM_patEnd Mm) (MM_round Mm) (MM_many1 Mm) (MM_broken Mm) (MM_checked Mm) x1 x2 (MM_latestFault Mm) (MM_anchors Mm) (MM_key Mm) (MM_target Mm) (MM_anchorValue Mm) (MM_anchorSchema Mm) (MM_path Mm) (MM_route Mm) (MM_isSchema Mm) (MM_seen1 Mm) (MM_pathSize Mm) (MM_octetRow Mm) (MM_partRow Mm) (MM_pairValue Mm) (MM_pairKey Mm) (MM_pairs Mm) (MM_judged Mm) (MM_deepest Mm) (MM_depth Mm) (MM_over Mm) (MM_seen Mm)) M0 M1)) C in_MM t_MM t_MM_ok n_MM hP (hDD _ _ _ _) hS 0 mw_0 rfl 37 (by decide) k_8_27 rfl rfl (by decide +kernel) rfl rfl (Nat.le_of_ble_eq_true rfl) rfl d_MM_fault_39 (fun H locs hP hS => ?_)
    cases h
    exact o_rv C hP hS d_MM_fault_42
  · replace h := o_ff c1 h
    refine lv_iload_n hx hb d_MM_fault_7 rfl (lv_at hl 2 rfl) ?_
    refine lv_aload_n hx hb d_MM_fault_8 rfl (lv_at hl 0 rfl) ?_
    refine o_get (v := .int (MM_faultValue Mm)) C in_MM hP 0 mw_0 rfl 37 (by decide) k_8_27 rfl rfl d_MM_fault_9 ?_
    refine lv_icmp_gt (tgt := 31) hx hb d_MM_fault_12 (by decide) (fun c2 => ?_) (fun c2 => ?_)
    · replace h := o_tt c2 h
      cases h
      exact o_rv C hP hS d_MM_fault_31
    · replace h := o_ff c2 h
      refine lv_iload_n hx hb d_MM_fault_15 rfl (lv_at hl 2 rfl) ?_
      refine lv_aload_n hx hb d_MM_fault_16 rfl (lv_at hl 0 rfl) ?_
      refine o_get (v := .int (MM_faultValue Mm)) C in_MM hP 0 mw_0 rfl 37 (by decide) k_8_27 rfl rfl d_MM_fault_17 ?_
      refine lv_icmp_ne (tgt := 32) hx hb d_MM_fault_20 (by decide) (fun c3 => ?_) (fun c3 => ?_)
      · replace h := o_ff c3 h
        refine lv_aload_n hx hb d_MM_fault_32 rfl (lv_at hl 0 rfl) ?_
        refine lv_iload_n hx hb d_MM_fault_33 rfl (lv_at hl 1 rfl) ?_
        refine o_put (v := .int x1) (ty := .int) (w1 := (m_cw ad ca ky ty rt (MM_mk (MM_err Mm) (MM_fed Mm) (MM_wrong Mm) (MM_octets Mm) (MM_nodeKind Mm) (MM_nodeA Mm) (MM_nodeB Mm) (MM_nodeC Mm) (MM_nodeNext Mm) (MM_low Mm) (MM_high Mm) (MM_setFrom Mm) (MM_setTo Mm) (MM_setNot Mm) (MM_op Mm) (MM_opA Mm) (MM_opB Mm) (MM_mark Mm) (MM_now Mm) (MM_then Mm) (MM_todo Mm) (MM_nodes Mm) (MM_sets Mm) (MM_ranges Mm) (MM_steps Mm) (MM_pat Mm) (MM_patEnd Mm) (MM_round Mm) (MM_many1 Mm) (MM_broken Mm) (MM_checked Mm) x1 (MM_faultValue Mm) (MM_latestFault Mm) (MM_anchors Mm) (MM_key Mm) (MM_target Mm) (MM_anchorValue Mm) (MM_anchorSchema Mm) (MM_path Mm) (MM_route Mm) (MM_isSchema Mm) (MM_seen1 Mm) (MM_pathSize Mm) (MM_octetRow Mm) (MM_partRow Mm) (MM_pairValue Mm) (MM_pairKey Mm) (MM_pairs Mm) (MM_judged Mm) (MM_deepest Mm) (MM_depth Mm) (MM_over Mm) (MM_seen Mm)) M0 M1)) C in_MM t_MM t_MM_ok n_MM hP (hDD _ _ _ _) hS 0 mw_0 rfl 36 (by decide) k_8_26 rfl rfl (by decide +kernel) rfl rfl (Nat.le_of_ble_eq_true rfl) rfl d_MM_fault_34 (fun H locs hP hS => ?_)
        refine lv_aload_n hx hb d_MM_fault_37 rfl (lv_at hl 0 rfl) ?_
        refine lv_iload_n hx hb d_MM_fault_38 rfl (lv_at hl 2 rfl) ?_
        refine o_put (v := .int x2) (ty := .int) (w1 := (m_cw ad ca ky ty rt (MM_mk (MM_err Mm) (MM_fed Mm) (MM_wrong Mm) (MM_octets Mm) (MM_nodeKind Mm) (MM_nodeA Mm) (MM_nodeB Mm) (MM_nodeC Mm) (MM_nodeNext Mm) (MM_low Mm) (MM_high Mm) (MM_setFrom Mm) (MM_setTo Mm) (MM_setNot Mm) (MM_op Mm) (MM_opA Mm) (MM_opB Mm) (MM_mark Mm) (MM_now Mm) (MM_then Mm) (MM_todo Mm) (MM_nodes Mm) (MM_sets Mm) (MM_ranges Mm) (MM_steps Mm) (MM_pat Mm) (MM_patEnd Mm) (MM_round Mm) (MM_many1 Mm) (MM_broken Mm) (MM_checked Mm) x1 x2 (MM_latestFault Mm) (MM_anchors Mm) (MM_key Mm) (MM_target Mm) (MM_anchorValue Mm) (MM_anchorSchema Mm) (MM_path Mm) (MM_route Mm) (MM_isSchema Mm) (MM_seen1 Mm) (MM_pathSize Mm) (MM_octetRow Mm) (MM_partRow Mm) (MM_pairValue Mm) (MM_pairKey Mm) (MM_pairs Mm) (MM_judged Mm) (MM_deepest Mm) (MM_depth Mm) (MM_over Mm) (MM_seen Mm)) M0 M1)) C in_MM t_MM t_MM_ok n_MM hP (hDD _ _ _ _) hS 0 mw_0 rfl 37 (by decide) k_8_27 rfl rfl (by decide +kernel) rfl rfl (Nat.le_of_ble_eq_true rfl) rfl d_MM_fault_39 (fun H locs hP hS => ?_)
        cases h
        exact o_rv C hP hS d_MM_fault_42
      · replace h := o_tt c3 h
        refine lv_iload_n hx hb d_MM_fault_23 rfl (lv_at hl 1 rfl) ?_
        refine lv_aload_n hx hb d_MM_fault_24 rfl (lv_at hl 0 rfl) ?_
        refine o_get (v := .int (MM_faultKind Mm)) C in_MM hP 0 mw_0 rfl 36 (by decide) k_8_26 rfl rfl d_MM_fault_25 ?_
        refine lv_icmp_lt (tgt := 32) hx hb d_MM_fault_28 (by decide) (fun c4 => ?_) (fun c4 => ?_)
        · replace h := o_tt c4 h
          refine lv_aload_n hx hb d_MM_fault_32 rfl (lv_at hl 0 rfl) ?_
          refine lv_iload_n hx hb d_MM_fault_33 rfl (lv_at hl 1 rfl) ?_
          refine o_put (v := .int x1) (ty := .int) (w1 := (m_cw ad ca ky ty rt (MM_mk (MM_err Mm) (MM_fed Mm) (MM_wrong Mm) (MM_octets Mm) (MM_nodeKind Mm) (MM_nodeA Mm) (MM_nodeB Mm) (MM_nodeC Mm) (MM_nodeNext Mm) (MM_low Mm) (MM_high Mm) (MM_setFrom Mm) (MM_setTo Mm) (MM_setNot Mm) (MM_op Mm) (MM_opA Mm) (MM_opB Mm) (MM_mark Mm) (MM_now Mm) (MM_then Mm) (MM_todo Mm) (MM_nodes Mm) (MM_sets Mm) (MM_ranges Mm) (MM_steps Mm) (MM_pat Mm) (MM_patEnd Mm) (MM_round Mm) (MM_many1 Mm) (MM_broken Mm) (MM_checked Mm) x1 (MM_faultValue Mm) (MM_latestFault Mm) (MM_anchors Mm) (MM_key Mm) (MM_target Mm) (MM_anchorValue Mm) (MM_anchorSchema Mm) (MM_path Mm) (MM_route Mm) (MM_isSchema Mm) (MM_seen1 Mm) (MM_pathSize Mm) (MM_octetRow Mm) (MM_partRow Mm) (MM_pairValue Mm) (MM_pairKey Mm) (MM_pairs Mm) (MM_judged Mm) (MM_deepest Mm) (MM_depth Mm) (MM_over Mm) (MM_seen Mm)) M0 M1)) C in_MM t_MM t_MM_ok n_MM hP (hDD _ _ _ _) hS 0 mw_0 rfl 36 (by decide) k_8_26 rfl rfl (by decide +kernel) rfl rfl (Nat.le_of_ble_eq_true rfl) rfl d_MM_fault_34 (fun H locs hP hS => ?_)
          refine lv_aload_n hx hb d_MM_fault_37 rfl (lv_at hl 0 rfl) ?_
          refine lv_iload_n hx hb d_MM_fault_38 rfl (lv_at hl 2 rfl) ?_
          refine o_put (v := .int x2) (ty := .int) (w1 := (m_cw ad ca ky ty rt (MM_mk (MM_err Mm) (MM_fed Mm) (MM_wrong Mm) (MM_octets Mm) (MM_nodeKind Mm) (MM_nodeA Mm) (MM_nodeB Mm) (MM_nodeC Mm) (MM_nodeNext Mm) (MM_low Mm) (MM_high Mm) (MM_setFrom Mm) (MM_setTo Mm) (MM_setNot Mm) (MM_op Mm) (MM_opA Mm) (MM_opB Mm) (MM_mark Mm) (MM_now Mm) (MM_then Mm) (MM_todo Mm) (MM_nodes Mm) (MM_sets Mm) (MM_ranges Mm) (MM_steps Mm) (MM_pat Mm) (MM_patEnd Mm) (MM_round Mm) (MM_many1 Mm) (MM_broken Mm) (MM_checked Mm) x1 x2 (MM_latestFault Mm) (MM_anchors Mm) (MM_key Mm) (MM_target Mm) (MM_anchorValue Mm) (MM_anchorSchema Mm) (MM_path Mm) (MM_route Mm) (MM_isSchema Mm) (MM_seen1 Mm) (MM_pathSize Mm) (MM_octetRow Mm) (MM_partRow Mm) (MM_pairValue Mm) (MM_pairKey Mm) (MM_pairs Mm) (MM_judged Mm) (MM_deepest Mm) (MM_depth Mm) (MM_over Mm) (MM_seen Mm)) M0 M1)) C in_MM t_MM t_MM_ok n_MM hP (hDD _ _ _ _) hS 0 mw_0 rfl 37 (by decide) k_8_27 rfl rfl (by decide +kernel) rfl rfl (Nat.le_of_ble_eq_true rfl) rfl d_MM_fault_39 (fun H locs hP hS => ?_)
          cases h
          exact o_rv C hP hS d_MM_fault_42
        · replace h := o_ff c4 h
          cases h
          exact o_rv C hP hS d_MM_fault_31
set_option maxHeartbeats 4000000 in
set_option maxRecDepth 100000 in
theorem f_MT_is_b17_a {E : (Nat → Prop) → State → Heap → Prop} {p : Program} {l : Launch} {e : Env} {s : State} {m : MethodId} {args : Array Value} {below : List Frame} {meth : Method} {c : Code} {D : va_G} {ad kd sd vd xd : Nat → Nat} {ca : Nat → ClassId} {A : Nat → Prop} {ky ty : Nat → Option Nat} {Q : State → Prop} (hE : o_EK E kd sd vd xd) (hKy : m_KY ky ty sd) (C : o_Cx E p s m args meth c D m_cls (m_tys ca) "SchemaJudgeModel$Text" b_MT_is (some .boolean) 4 cc_MT_is A) (hDD : ∀ (rt : Nat) (Mm : SMM) (M0 : SMT) (M1 : SMT), va_D A (m_cw ad ca ky ty rt Mm M0 M1)) (n : Nat) (u17_x1 : Int32) (u17_x2 : Nat) (gu17_x2 : o_sb u17_x2 = true) (u17_a0 : SMT) (u17_Mm : SMM) (u17_M1 : SMT) (u17_rt : Nat) (z : Int32) (q : Nat × Int32) (h : m_MT_is_b17 n u17_x1 u17_x2 u17_a0 z = some q) (h0 : q.1 = 0 → o_At p l e rm_MT_is s m args below meth c Q m_cls D A 4 17 [] (m_cw ad ca ky ty u17_rt u17_Mm u17_a0 u17_M1) [(0, .ref (ad 33)), (1, .int u17_x1), (2, .ref (sd u17_x2)), (3, .int q.2)]) (h1 : q.1 ≠ 0 → (if q.1 = 1 then o_At p l e rm_MT_is s m args below meth c Q m_cls D A 4 46 [] (m_cw ad ca ky ty u17_rt u17_Mm u17_a0 u17_M1) [] else o_At p l e rm_MT_is s m args below meth c Q m_cls D A 4 54 [] (m_cw ad ca ky ty u17_rt u17_Mm u17_a0 u17_M1) [])) : o_At p l e rm_MT_is s m args below meth c Q m_cls D A 4 17 [] (m_cw ad ca ky ty u17_rt u17_Mm u17_a0 u17_M1) [(0, .ref (ad 33)), (1, .int u17_x1), (2, .ref (sd u17_x2)), (3, .int z)] := by
  unfold m_MT_is_b17 at h
  intro H locs ls hP hS hl
  have C0 := C
  obtain ⟨hx, hb, -, -, -, hown, hts, hK, -, -⟩ := C0
  refine lv_iload_n hx hb d_MT_is_17 rfl (lv_at hl 3 rfl) ?_
  refine lv_aload_n hx hb d_MT_is_18 rfl (lv_at hl 2 rfl) ?_
  obtain ⟨q2, hq2, h⟩ := o_bd_some h
  refine o_VR (K := "java/lang/String") (st1 := [.int q2, .int z]) (w1 := (m_cw ad ca ky ty u17_rt u17_Mm u17_a0 u17_M1)) hE.1 C (e_JS_length hE hKy l u17_x2 gu17_x2 u17_Mm u17_a0 u17_M1 u17_rt hq2) hP (hDD _ _ _ _) hS hl.1 (o_rs hE C gu17_x2 hS) k_8_216 k_3_62 k_3_63 k_1_18 k_3_64 hv_JS_length rfl rfl ⟨(Nat.le_of_ble_eq_true rfl), (Nat.le_of_ble_eq_true rfl)⟩ rfl (Nat.le_of_ble_eq_true rfl) ⟨Nat.zero_le _, Nat.zero_le _⟩ rfl d_MT_is_19 (fun H locs hP hS => ?_)
  refine lv_icmp_ge (tgt := 54) hx hb d_MT_is_22 (by decide) (fun c3 => ?_) (fun c3 => ?_)
  · replace h := o_tt c3 h
    cases h
    exact h1 (Nat.succ_ne_zero 1) _ _ _ hP hS (lv_sub hl [] rfl)
  · replace h := o_ff c3 h
    refine lv_aload_n hx hb d_MT_is_25 rfl (lv_at hl 0 rfl) ?_
    refine o_get (v := .ref (ad 44)) C in_MT hP 33 mw_33 rfl 10 (by decide) k_7_120 rfl rfl d_MT_is_26 ?_
    refine lv_aload_n hx hb d_MT_is_29 rfl (lv_at hl 0 rfl) ?_
    refine o_get (v := .ref (ad 43)) C in_MT hP 33 mw_33 rfl 9 (by decide) k_7_118 rfl rfl d_MT_is_30 ?_
    refine lv_iload_n hx hb d_MT_is_33 rfl (lv_at hl 1 rfl) ?_
    obtain ⟨g4, h⟩ := o_gd_some h
    refine o_iald (f := (MT_from u17_a0)) C hP 43 41 mw_43 rfl g4 d_MT_is_34 ?_
    refine lv_iload_n hx hb d_MT_is_35 rfl (lv_at hl 3 rfl) ?_
    refine lv_iadd hx hb d_MT_is_36 ?_
    obtain ⟨g5, h⟩ := o_gd_some h
    refine o_iald (f := (MT_characters u17_a0)) C hP 44 42 mw_44 rfl g5 d_MT_is_37 ?_
    refine lv_aload_n hx hb d_MT_is_38 rfl (lv_at hl 2 rfl) ?_
    refine lv_iload_n hx hb d_MT_is_39 rfl (lv_at hl 3 rfl) ?_
    obtain ⟨q3, hq3, h⟩ := o_bd_some h
    refine o_VR (K := "java/lang/String") (st1 := [.int q3, .int ((MT_characters u17_a0) (((MT_from u17_a0) u17_x1.toNatClampNeg) + z).toNatClampNeg)]) (w1 := (m_cw ad ca ky ty u17_rt u17_Mm u17_a0 u17_M1)) hE.1 C (e_JS_charAt hE hKy l u17_x2 gu17_x2 z u17_Mm u17_a0 u17_M1 u17_rt hq3) hP (hDD _ _ _ _) hS hl.1 (o_rs hE C gu17_x2 hS) k_8_217 k_3_72 k_3_73 k_1_18 k_3_74 hv_JS_charAt rfl rfl ⟨(Nat.le_of_ble_eq_true rfl), (Nat.le_of_ble_eq_true rfl)⟩ rfl (Nat.le_of_ble_eq_true rfl) ⟨Nat.zero_le _, Nat.zero_le _⟩ rfl d_MT_is_40 (fun H locs hP hS => ?_)
    refine lv_icmp_eq (tgt := 48) hx hb d_MT_is_43 (by decide) (fun c6 => ?_) (fun c6 => ?_)
    · replace h := o_tt c6 h
      obtain ⟨x3_48, ex3_48⟩ : ∃ y : Int32, y = z + (1:Int32) := ⟨_, rfl⟩
      replace h := o_nm_at ex3_48 h
      refine lv_iinc (v := x3_48) (lv' := [(3, .int x3_48), (0, .ref (ad 33)), (1, .int u17_x1), (2, .ref (sd u17_x2))]) hx hb d_MT_is_48 hl (k := 3) rfl (by rw [ex3_48]; rfl) (by decide) rfl (fun ls hl => ?_)
      refine lv_goto (tgt := 17) hx hb d_MT_is_51 (by decide) ?_
      cases h
      exact h0 rfl _ _ _ hP hS (lv_sub hl [1, 2, 3, 0] rfl)
    · replace h := o_ff c6 h
      cases h
      exact h1 (Nat.succ_ne_zero 0) _ _ _ hP hS (lv_sub hl [] rfl)
set_option maxHeartbeats 4000000 in
set_option maxRecDepth 100000 in
theorem e_MT_is_a {E : (Nat → Prop) → State → Heap → Prop} {D : va_G} {ad kd sd vd xd : Nat → Nat} {ca : Nat → ClassId} {ky ty : Nat → Option Nat} (hE : o_EK E kd sd vd xd) (hKy : m_KY ky ty sd) (l : Launch) (n : Nat) (x1 : Int32) (x2 : Nat) (gx2 : o_sb x2 = true) (a0 : SMT) (Mm : SMM) (M1 : SMT) (rt : Nat) {r : Int32} (h : m_MT_is n x1 x2 a0 = some r) : o_Cn E l D m_cls (m_tys ca) y_MT_is cc_MT_is rm_MT_is [.ref (ad 33), .int x1, .ref (sd x2)] (m_cw ad ca ky ty rt Mm a0 M1) (m_cw ad ca ky ty rt Mm a0 M1) (some (.int r)) := by
  refine o_Cn_of (by decide) (Nat.le_of_ble_eq_true rfl) ?_
  intro p e s m below meth c A ls C hD hP hS hl
  have hDD : ∀ (rt : Nat) (Mm : SMM) (M0 : SMT) (M1 : SMT), va_D A (m_cw ad ca ky ty rt Mm M0 M1) := fun _ _ _ _ => o_D_map hD rfl
  have hl : lv_has ls 4 [(0, .ref (ad 33)), (1, .int x1), (2, .ref (sd x2))] := hl
  unfold m_MT_is at h
  have C0 := C
  obtain ⟨hx, hb, -, -, -, hown, hts, hK, -, -⟩ := C0
  refine lv_aload_n hx hb d_MT_is_0 rfl (lv_at hl 0 rfl) ?_
  refine o_get (v := .ref (ad 37)) C in_MT hP 33 mw_33 rfl 3 (by decide) k_7_106 rfl rfl d_MT_is_1 ?_
  refine lv_iload_n hx hb d_MT_is_4 rfl (lv_at hl 1 rfl) ?_
  obtain ⟨g1, h⟩ := o_gd_some h
  refine o_iald (f := (MT_many a0)) C hP 37 35 mw_37 rfl g1 d_MT_is_5 ?_
  refine lv_aload_n hx hb d_MT_is_6 rfl (lv_at hl 2 rfl) ?_
  obtain ⟨q1, hq1, h⟩ := o_bd_some h
  refine o_VR (K := "java/lang/String") (st1 := [.int q1, .int ((MT_many a0) x1.toNatClampNeg)]) (w1 := (m_cw ad ca ky ty rt Mm a0 M1)) hE.1 C (e_JS_length hE hKy l x2 gx2 Mm a0 M1 rt hq1) hP (hDD _ _ _ _) hS hl.1 (o_rs hE C gx2 hS) k_8_216 k_3_62 k_3_63 k_1_18 k_3_64 hv_JS_length rfl rfl ⟨(Nat.le_of_ble_eq_true rfl), (Nat.le_of_ble_eq_true rfl)⟩ rfl (Nat.le_of_ble_eq_true rfl) ⟨Nat.zero_le _, Nat.zero_le _⟩ rfl d_MT_is_7 (fun H locs hP hS => ?_)
  refine lv_icmp_eq (tgt := 15) hx hb d_MT_is_10 (by decide) (fun c2 => ?_) (fun c2 => ?_)
  · replace h := o_tt c2 h
    refine lv_iconst (v := (0:Int32)) hx hb d_MT_is_15 (by decide) ?_
    refine lv_istore_n (lv' := [(3, .int (0:Int32)), (0, .ref (ad 33)), (1, .int x1), (2, .ref (sd x2))]) hx hb d_MT_is_16 rfl hl (by decide) rfl (fun ls hl => ?_)
    obtain ⟨q4, hq4, h⟩ := o_bd_some h
    refine o_sim2 (AH := fun zz => o_At p l e rm_MT_is s m _ below meth c _ m_cls D A 4 17 [] (m_cw ad ca ky ty rt Mm a0 M1) [(0, .ref (ad 33)), (1, .int x1), (2, .ref (sd x2)), (3, .int zz)]) (AX := fun qq => if qq.1 = 1 then o_At p l e rm_MT_is s m _ below meth c _ m_cls D A 4 46 [] (m_cw ad ca ky ty rt Mm a0 M1) [] else o_At p l e rm_MT_is s m _ below meth c _ m_cls D A 4 54 [] (m_cw ad ca ky ty rt Mm a0 M1) []) (fun zz qq h h0 h1 => f_MT_is_b17_a hE hKy C hDD n x1 x2 gx2 a0 Mm M1 rt zz qq h h0 h1) n _ q4 hq4 ?_ _ _ _ hP hS (lv_sub hl [1, 2, 3, 0] rfl)
    by_cases c7 : q4.1 = 1
    · replace h := o_tt c7 h
      refine o_ip c7 ?_
      intro H locs ls hP hS hl
      refine lv_iconst (v := (0:Int32)) hx hb d_MT_is_46 (by decide) ?_
      cases h
      exact o_rz (v := (0:Int32)) C o_nar0 hP hS d_MT_is_47
    replace h := o_ff c7 h
    refine o_in_ c7 ?_
    intro H locs ls hP hS hl
    refine lv_iconst (v := (1:Int32)) hx hb d_MT_is_54 (by decide) ?_
    cases h
    exact o_rz (v := (1:Int32)) C o_nar1 hP hS d_MT_is_55
  · replace h := o_ff c2 h
    refine lv_iconst (v := (0:Int32)) hx hb d_MT_is_13 (by decide) ?_
    cases h
    exact o_rz (v := (0:Int32)) C o_nar0 hP hS d_MT_is_14
set_option maxHeartbeats 4000000 in
set_option maxRecDepth 100000 in
theorem f_MT_is_b17_b {E : (Nat → Prop) → State → Heap → Prop} {p : Program} {l : Launch} {e : Env} {s : State} {m : MethodId} {args : Array Value} {below : List Frame} {meth : Method} {c : Code} {D : va_G} {ad kd sd vd xd : Nat → Nat} {ca : Nat → ClassId} {A : Nat → Prop} {ky ty : Nat → Option Nat} {Q : State → Prop} (hE : o_EK E kd sd vd xd) (hKy : m_KY ky ty sd) (C : o_Cx E p s m args meth c D m_cls (m_tys ca) "SchemaJudgeModel$Text" b_MT_is (some .boolean) 4 cc_MT_is A) (hDD : ∀ (rt : Nat) (Mm : SMM) (M0 : SMT) (M1 : SMT), va_D A (m_cw ad ca ky ty rt Mm M0 M1)) (n : Nat) (u17_x1 : Int32) (u17_x2 : Nat) (gu17_x2 : o_sb u17_x2 = true) (u17_a0 : SMT) (u17_Mm : SMM) (u17_M0 : SMT) (u17_rt : Nat) (z : Int32) (q : Nat × Int32) (h : m_MT_is_b17 n u17_x1 u17_x2 u17_a0 z = some q) (h0 : q.1 = 0 → o_At p l e rm_MT_is s m args below meth c Q m_cls D A 4 17 [] (m_cw ad ca ky ty u17_rt u17_Mm u17_M0 u17_a0) [(0, .ref (ad 48)), (1, .int u17_x1), (2, .ref (sd u17_x2)), (3, .int q.2)]) (h1 : q.1 ≠ 0 → (if q.1 = 1 then o_At p l e rm_MT_is s m args below meth c Q m_cls D A 4 46 [] (m_cw ad ca ky ty u17_rt u17_Mm u17_M0 u17_a0) [] else o_At p l e rm_MT_is s m args below meth c Q m_cls D A 4 54 [] (m_cw ad ca ky ty u17_rt u17_Mm u17_M0 u17_a0) [])) : o_At p l e rm_MT_is s m args below meth c Q m_cls D A 4 17 [] (m_cw ad ca ky ty u17_rt u17_Mm u17_M0 u17_a0) [(0, .ref (ad 48)), (1, .int u17_x1), (2, .ref (sd u17_x2)), (3, .int z)] := by
  unfold m_MT_is_b17 at h
  intro H locs ls hP hS hl
  have C0 := C
  obtain ⟨hx, hb, -, -, -, hown, hts, hK, -, -⟩ := C0
  refine lv_iload_n hx hb d_MT_is_17 rfl (lv_at hl 3 rfl) ?_
  refine lv_aload_n hx hb d_MT_is_18 rfl (lv_at hl 2 rfl) ?_
  obtain ⟨q2, hq2, h⟩ := o_bd_some h
  refine o_VR (K := "java/lang/String") (st1 := [.int q2, .int z]) (w1 := (m_cw ad ca ky ty u17_rt u17_Mm u17_M0 u17_a0)) hE.1 C (e_JS_length hE hKy l u17_x2 gu17_x2 u17_Mm u17_M0 u17_a0 u17_rt hq2) hP (hDD _ _ _ _) hS hl.1 (o_rs hE C gu17_x2 hS) k_8_216 k_3_62 k_3_63 k_1_18 k_3_64 hv_JS_length rfl rfl ⟨(Nat.le_of_ble_eq_true rfl), (Nat.le_of_ble_eq_true rfl)⟩ rfl (Nat.le_of_ble_eq_true rfl) ⟨Nat.zero_le _, Nat.zero_le _⟩ rfl d_MT_is_19 (fun H locs hP hS => ?_)
  refine lv_icmp_ge (tgt := 54) hx hb d_MT_is_22 (by decide) (fun c3 => ?_) (fun c3 => ?_)
  · replace h := o_tt c3 h
    cases h
    exact h1 (Nat.succ_ne_zero 1) _ _ _ hP hS (lv_sub hl [] rfl)
  · replace h := o_ff c3 h
    refine lv_aload_n hx hb d_MT_is_25 rfl (lv_at hl 0 rfl) ?_
    refine o_get (v := .ref (ad 59)) C in_MT hP 48 mw_48 rfl 10 (by decide) k_7_120 rfl rfl d_MT_is_26 ?_
    refine lv_aload_n hx hb d_MT_is_29 rfl (lv_at hl 0 rfl) ?_
    refine o_get (v := .ref (ad 58)) C in_MT hP 48 mw_48 rfl 9 (by decide) k_7_118 rfl rfl d_MT_is_30 ?_
    refine lv_iload_n hx hb d_MT_is_33 rfl (lv_at hl 1 rfl) ?_
    obtain ⟨g4, h⟩ := o_gd_some h
    refine o_iald (f := (MT_from u17_a0)) C hP 58 55 mw_58 rfl g4 d_MT_is_34 ?_
    refine lv_iload_n hx hb d_MT_is_35 rfl (lv_at hl 3 rfl) ?_
    refine lv_iadd hx hb d_MT_is_36 ?_
    obtain ⟨g5, h⟩ := o_gd_some h
    refine o_iald (f := (MT_characters u17_a0)) C hP 59 56 mw_59 rfl g5 d_MT_is_37 ?_
    refine lv_aload_n hx hb d_MT_is_38 rfl (lv_at hl 2 rfl) ?_
    refine lv_iload_n hx hb d_MT_is_39 rfl (lv_at hl 3 rfl) ?_
    obtain ⟨q3, hq3, h⟩ := o_bd_some h
    refine o_VR (K := "java/lang/String") (st1 := [.int q3, .int ((MT_characters u17_a0) (((MT_from u17_a0) u17_x1.toNatClampNeg) + z).toNatClampNeg)]) (w1 := (m_cw ad ca ky ty u17_rt u17_Mm u17_M0 u17_a0)) hE.1 C (e_JS_charAt hE hKy l u17_x2 gu17_x2 z u17_Mm u17_M0 u17_a0 u17_rt hq3) hP (hDD _ _ _ _) hS hl.1 (o_rs hE C gu17_x2 hS) k_8_217 k_3_72 k_3_73 k_1_18 k_3_74 hv_JS_charAt rfl rfl ⟨(Nat.le_of_ble_eq_true rfl), (Nat.le_of_ble_eq_true rfl)⟩ rfl (Nat.le_of_ble_eq_true rfl) ⟨Nat.zero_le _, Nat.zero_le _⟩ rfl d_MT_is_40 (fun H locs hP hS => ?_)
    refine lv_icmp_eq (tgt := 48) hx hb d_MT_is_43 (by decide) (fun c6 => ?_) (fun c6 => ?_)
    · replace h := o_tt c6 h
      obtain ⟨x3_48, ex3_48⟩ : ∃ y : Int32, y = z + (1:Int32) := ⟨_, rfl⟩
      replace h := o_nm_at ex3_48 h
      refine lv_iinc (v := x3_48) (lv' := [(3, .int x3_48), (0, .ref (ad 48)), (1, .int u17_x1), (2, .ref (sd u17_x2))]) hx hb d_MT_is_48 hl (k := 3) rfl (by rw [ex3_48]; rfl) (by decide) rfl (fun ls hl => ?_)
      refine lv_goto (tgt := 17) hx hb d_MT_is_51 (by decide) ?_
      cases h
      exact h0 rfl _ _ _ hP hS (lv_sub hl [1, 2, 3, 0] rfl)
    · replace h := o_ff c6 h
      cases h
      exact h1 (Nat.succ_ne_zero 0) _ _ _ hP hS (lv_sub hl [] rfl)
set_option maxHeartbeats 4000000 in
set_option maxRecDepth 100000 in
theorem e_MT_is_b {E : (Nat → Prop) → State → Heap → Prop} {D : va_G} {ad kd sd vd xd : Nat → Nat} {ca : Nat → ClassId} {ky ty : Nat → Option Nat} (hE : o_EK E kd sd vd xd) (hKy : m_KY ky ty sd) (l : Launch) (n : Nat) (x1 : Int32) (x2 : Nat) (gx2 : o_sb x2 = true) (a0 : SMT) (Mm : SMM) (M0 : SMT) (rt : Nat) {r : Int32} (h : m_MT_is n x1 x2 a0 = some r) : o_Cn E l D m_cls (m_tys ca) y_MT_is cc_MT_is rm_MT_is [.ref (ad 48), .int x1, .ref (sd x2)] (m_cw ad ca ky ty rt Mm M0 a0) (m_cw ad ca ky ty rt Mm M0 a0) (some (.int r)) := by
  refine o_Cn_of (by decide) (Nat.le_of_ble_eq_true rfl) ?_
  intro p e s m below meth c A ls C hD hP hS hl
  have hDD : ∀ (rt : Nat) (Mm : SMM) (M0 : SMT) (M1 : SMT), va_D A (m_cw ad ca ky ty rt Mm M0 M1) := fun _ _ _ _ => o_D_map hD rfl
  have hl : lv_has ls 4 [(0, .ref (ad 48)), (1, .int x1), (2, .ref (sd x2))] := hl
  unfold m_MT_is at h
  have C0 := C
  obtain ⟨hx, hb, -, -, -, hown, hts, hK, -, -⟩ := C0
  refine lv_aload_n hx hb d_MT_is_0 rfl (lv_at hl 0 rfl) ?_
  refine o_get (v := .ref (ad 52)) C in_MT hP 48 mw_48 rfl 3 (by decide) k_7_106 rfl rfl d_MT_is_1 ?_
  refine lv_iload_n hx hb d_MT_is_4 rfl (lv_at hl 1 rfl) ?_
  obtain ⟨g1, h⟩ := o_gd_some h
  refine o_iald (f := (MT_many a0)) C hP 52 49 mw_52 rfl g1 d_MT_is_5 ?_
  refine lv_aload_n hx hb d_MT_is_6 rfl (lv_at hl 2 rfl) ?_
  obtain ⟨q1, hq1, h⟩ := o_bd_some h
  refine o_VR (K := "java/lang/String") (st1 := [.int q1, .int ((MT_many a0) x1.toNatClampNeg)]) (w1 := (m_cw ad ca ky ty rt Mm M0 a0)) hE.1 C (e_JS_length hE hKy l x2 gx2 Mm M0 a0 rt hq1) hP (hDD _ _ _ _) hS hl.1 (o_rs hE C gx2 hS) k_8_216 k_3_62 k_3_63 k_1_18 k_3_64 hv_JS_length rfl rfl ⟨(Nat.le_of_ble_eq_true rfl), (Nat.le_of_ble_eq_true rfl)⟩ rfl (Nat.le_of_ble_eq_true rfl) ⟨Nat.zero_le _, Nat.zero_le _⟩ rfl d_MT_is_7 (fun H locs hP hS => ?_)
  refine lv_icmp_eq (tgt := 15) hx hb d_MT_is_10 (by decide) (fun c2 => ?_) (fun c2 => ?_)
  · replace h := o_tt c2 h
    refine lv_iconst (v := (0:Int32)) hx hb d_MT_is_15 (by decide) ?_
    refine lv_istore_n (lv' := [(3, .int (0:Int32)), (0, .ref (ad 48)), (1, .int x1), (2, .ref (sd x2))]) hx hb d_MT_is_16 rfl hl (by decide) rfl (fun ls hl => ?_)
    obtain ⟨q4, hq4, h⟩ := o_bd_some h
    refine o_sim2 (AH := fun zz => o_At p l e rm_MT_is s m _ below meth c _ m_cls D A 4 17 [] (m_cw ad ca ky ty rt Mm M0 a0) [(0, .ref (ad 48)), (1, .int x1), (2, .ref (sd x2)), (3, .int zz)]) (AX := fun qq => if qq.1 = 1 then o_At p l e rm_MT_is s m _ below meth c _ m_cls D A 4 46 [] (m_cw ad ca ky ty rt Mm M0 a0) [] else o_At p l e rm_MT_is s m _ below meth c _ m_cls D A 4 54 [] (m_cw ad ca ky ty rt Mm M0 a0) []) (fun zz qq h h0 h1 => f_MT_is_b17_b hE hKy C hDD n x1 x2 gx2 a0 Mm M0 rt zz qq h h0 h1) n _ q4 hq4 ?_ _ _ _ hP hS (lv_sub hl [1, 2, 3, 0] rfl)
    by_cases c7 : q4.1 = 1
    · replace h := o_tt c7 h
      refine o_ip c7 ?_
      intro H locs ls hP hS hl
      refine lv_iconst (v := (0:Int32)) hx hb d_MT_is_46 (by decide) ?_
      cases h
      exact o_rz (v := (0:Int32)) C o_nar0 hP hS d_MT_is_47
    replace h := o_ff c7 h
    refine o_in_ c7 ?_
    intro H locs ls hP hS hl
    refine lv_iconst (v := (1:Int32)) hx hb d_MT_is_54 (by decide) ?_
    cases h
    exact o_rz (v := (1:Int32)) C o_nar1 hP hS d_MT_is_55
  · replace h := o_ff c2 h
    refine lv_iconst (v := (0:Int32)) hx hb d_MT_is_13 (by decide) ?_
    cases h
    exact o_rz (v := (0:Int32)) C o_nar0 hP hS d_MT_is_14
set_option maxHeartbeats 4000000 in
set_option maxRecDepth 100000 in
theorem e_MT_isWhole_a {E : (Nat → Prop) → State → Heap → Prop} {D : va_G} {ad kd sd vd xd : Nat → Nat} {ca : Nat → ClassId} {ky ty : Nat → Option Nat} (hE : o_EK E kd sd vd xd) (hKy : m_KY ky ty sd) (l : Launch) (x1 : Int32) (a0 : SMT) (Mm : SMM) (M1 : SMT) (rt : Nat) {r : Int32} (h : m_MT_isWhole x1 a0 = some r) : o_Cn E l D m_cls (m_tys ca) y_MT_isWhole cc_MT_isWhole rm_MT_isWhole [.ref (ad 33), .int x1] (m_cw ad ca ky ty rt Mm a0 M1) (m_cw ad ca ky ty rt Mm a0 M1) (some (.int r)) := by
  refine o_Cn_of (by decide) (Nat.le_of_ble_eq_true rfl) ?_
  intro p e s m below meth c A ls C hD hP hS hl
  have hDD : ∀ (rt : Nat) (Mm : SMM) (M0 : SMT) (M1 : SMT), va_D A (m_cw ad ca ky ty rt Mm M0 M1) := fun _ _ _ _ => o_D_map hD rfl
  have hl : lv_has ls 2 [(0, .ref (ad 33)), (1, .int x1)] := hl
  unfold m_MT_isWhole at h
  have C0 := C
  obtain ⟨hx, hb, -, -, -, hown, hts, hK, -, -⟩ := C0
  refine lv_aload_n hx hb d_MT_isWhole_0 rfl (lv_at hl 0 rfl) ?_
  refine o_get (v := .ref (ad 35)) C in_MT hP 33 mw_33 rfl 1 (by decide) k_7_102 rfl rfl d_MT_isWhole_1 ?_
  refine lv_iload_n hx hb d_MT_isWhole_4 rfl (lv_at hl 1 rfl) ?_
  obtain ⟨g1, h⟩ := o_gd_some h
  refine o_iald (f := (MT_kind a0)) C hP 35 33 mw_35 rfl g1 d_MT_isWhole_5 ?_
  refine lv_iconst (v := (3:Int32)) hx hb d_MT_isWhole_6 (by decide) ?_
  refine lv_icmp_ne (tgt := 23) hx hb d_MT_isWhole_7 (by decide) (fun c2 => ?_) (fun c2 => ?_)
  · replace h := o_ff c2 h
    refine lv_iconst (v := (0:Int32)) hx hb d_MT_isWhole_23 (by decide) ?_
    cases h
    exact o_rz (v := (0:Int32)) C o_nar0 hP hS d_MT_isWhole_24
  · replace h := o_tt c2 h
    refine lv_aload_n hx hb d_MT_isWhole_10 rfl (lv_at hl 0 rfl) ?_
    refine o_get (v := .ref (ad 39)) C in_MT hP 33 mw_33 rfl 5 (by decide) k_7_110 rfl rfl d_MT_isWhole_11 ?_
    refine lv_iload_n hx hb d_MT_isWhole_14 rfl (lv_at hl 1 rfl) ?_
    obtain ⟨g3, h⟩ := o_gd_some h
    refine o_iald (f := (MT_power a0)) C hP 39 37 mw_39 rfl g3 d_MT_isWhole_15 ?_
    refine lv_if_lt (tgt := 23) hx hb d_MT_isWhole_16 (by decide) (fun c4 => ?_) (fun c4 => ?_)
    · replace h := o_tt c4 h
      refine lv_iconst (v := (0:Int32)) hx hb d_MT_isWhole_23 (by decide) ?_
      cases h
      exact o_rz (v := (0:Int32)) C o_nar0 hP hS d_MT_isWhole_24
    · replace h := o_ff c4 h
      refine lv_iconst (v := (1:Int32)) hx hb d_MT_isWhole_19 (by decide) ?_
      refine lv_goto (tgt := 24) hx hb d_MT_isWhole_20 (by decide) ?_
      cases h
      exact o_rz (v := (1:Int32)) C o_nar1 hP hS d_MT_isWhole_24
set_option maxHeartbeats 4000000 in
set_option maxRecDepth 100000 in
theorem e_MT_isWhole_b {E : (Nat → Prop) → State → Heap → Prop} {D : va_G} {ad kd sd vd xd : Nat → Nat} {ca : Nat → ClassId} {ky ty : Nat → Option Nat} (hE : o_EK E kd sd vd xd) (hKy : m_KY ky ty sd) (l : Launch) (x1 : Int32) (a0 : SMT) (Mm : SMM) (M0 : SMT) (rt : Nat) {r : Int32} (h : m_MT_isWhole x1 a0 = some r) : o_Cn E l D m_cls (m_tys ca) y_MT_isWhole cc_MT_isWhole rm_MT_isWhole [.ref (ad 48), .int x1] (m_cw ad ca ky ty rt Mm M0 a0) (m_cw ad ca ky ty rt Mm M0 a0) (some (.int r)) := by
  refine o_Cn_of (by decide) (Nat.le_of_ble_eq_true rfl) ?_
  intro p e s m below meth c A ls C hD hP hS hl
  have hDD : ∀ (rt : Nat) (Mm : SMM) (M0 : SMT) (M1 : SMT), va_D A (m_cw ad ca ky ty rt Mm M0 M1) := fun _ _ _ _ => o_D_map hD rfl
  have hl : lv_has ls 2 [(0, .ref (ad 48)), (1, .int x1)] := hl
  unfold m_MT_isWhole at h
  have C0 := C
  obtain ⟨hx, hb, -, -, -, hown, hts, hK, -, -⟩ := C0
  refine lv_aload_n hx hb d_MT_isWhole_0 rfl (lv_at hl 0 rfl) ?_
  refine o_get (v := .ref (ad 50)) C in_MT hP 48 mw_48 rfl 1 (by decide) k_7_102 rfl rfl d_MT_isWhole_1 ?_
  refine lv_iload_n hx hb d_MT_isWhole_4 rfl (lv_at hl 1 rfl) ?_
  obtain ⟨g1, h⟩ := o_gd_some h
  refine o_iald (f := (MT_kind a0)) C hP 50 47 mw_50 rfl g1 d_MT_isWhole_5 ?_
  refine lv_iconst (v := (3:Int32)) hx hb d_MT_isWhole_6 (by decide) ?_
  refine lv_icmp_ne (tgt := 23) hx hb d_MT_isWhole_7 (by decide) (fun c2 => ?_) (fun c2 => ?_)
  · replace h := o_ff c2 h
    refine lv_iconst (v := (0:Int32)) hx hb d_MT_isWhole_23 (by decide) ?_
    cases h
    exact o_rz (v := (0:Int32)) C o_nar0 hP hS d_MT_isWhole_24
  · replace h := o_tt c2 h
    refine lv_aload_n hx hb d_MT_isWhole_10 rfl (lv_at hl 0 rfl) ?_
    refine o_get (v := .ref (ad 54)) C in_MT hP 48 mw_48 rfl 5 (by decide) k_7_110 rfl rfl d_MT_isWhole_11 ?_
    refine lv_iload_n hx hb d_MT_isWhole_14 rfl (lv_at hl 1 rfl) ?_
    obtain ⟨g3, h⟩ := o_gd_some h
    refine o_iald (f := (MT_power a0)) C hP 54 51 mw_54 rfl g3 d_MT_isWhole_15 ?_
    refine lv_if_lt (tgt := 23) hx hb d_MT_isWhole_16 (by decide) (fun c4 => ?_) (fun c4 => ?_)
    · replace h := o_tt c4 h
      refine lv_iconst (v := (0:Int32)) hx hb d_MT_isWhole_23 (by decide) ?_
      cases h
      exact o_rz (v := (0:Int32)) C o_nar0 hP hS d_MT_isWhole_24
    · replace h := o_ff c4 h
      refine lv_iconst (v := (1:Int32)) hx hb d_MT_isWhole_19 (by decide) ?_
      refine lv_goto (tgt := 24) hx hb d_MT_isWhole_20 (by decide) ?_
      cases h
      exact o_rz (v := (1:Int32)) C o_nar1 hP hS d_MT_isWhole_24
set_option maxHeartbeats 4000000 in
set_option maxRecDepth 100000 in
theorem f_MM_intOf_j95 {E : (Nat → Prop) → State → Heap → Prop} {p : Program} {l : Launch} {e : Env} {s : State} {m : MethodId} {args : Array Value} {below : List Frame} {meth : Method} {c : Code} {D : va_G} {ad kd sd vd xd : Nat → Nat} {ca : Nat → ClassId} {A : Nat → Prop} {ky ty : Nat → Option Nat} {Q : State → Prop} (hE : o_EK E kd sd vd xd) (hKy : m_KY ky ty sd) (C : o_Cx E p s m args meth c D m_cls (m_tys ca) "SchemaJudgeModel" b_MM_intOf (some .int) 4 cc_MM_intOf A) (hDD : ∀ (rt : Nat) (Mm : SMM) (M0 : SMT) (M1 : SMT), va_D A (m_cw ad ca ky ty rt Mm M0 M1)) (n : Nat) (u32_x1 : Int32) (u32_M0 : SMT) (u32_Mm : SMM) (u32_M1 : SMT) (u32_rt : Nat) (x3 : Int32) (y0 : Int32) (y1 : Int32) {q : Nat × Int32 × Int32} (h : m_MM_intOf_j95 n u32_x1 x3 y0 y1 u32_M0 = some q) (h0 : q.1 = 0 → o_At p l e rm_MM_intOf s m args below meth c Q m_cls D A 4 32 [] (m_cw ad ca ky ty u32_rt u32_Mm u32_M0 u32_M1) [(0, .ref (ad 0)), (1, .int u32_x1), (2, .int q.2.1), (3, .int q.2.2)]) (h1 : q.1 ≠ 0 → (o_At p l e rm_MM_intOf s m args below meth c Q m_cls D A 4 103 [] (m_cw ad ca ky ty u32_rt u32_Mm u32_M0 u32_M1) [(2, .int q.2.1)])) : o_At p l e rm_MM_intOf s m args below meth c Q m_cls D A 4 95 [.int y1, .int y0] (m_cw ad ca ky ty u32_rt u32_Mm u32_M0 u32_M1) [(0, .ref (ad 0)), (1, .int u32_x1), (3, .int x3)] := by
  unfold m_MM_intOf_j95 at h
  intro H locs ls hP hS hl
  have C0 := C
  obtain ⟨hx, hb, -, -, -, hown, hts, hK, -, -⟩ := C0
  refine lv_iadd hx hb d_MM_intOf_95 ?_
  refine lv_topi (fun x2_96 ex2_96 => ?_)
  replace h := o_nm_at ex2_96 h
  refine lv_istore_n (lv' := [(2, .int x2_96), (0, .ref (ad 0)), (1, .int u32_x1), (3, .int x3)]) hx hb d_MM_intOf_96 rfl hl (by decide) rfl (fun ls hl => ?_)
  obtain ⟨x3_97, ex3_97⟩ : ∃ y : Int32, y = x3 + (1:Int32) := ⟨_, rfl⟩
  replace h := o_nm_at ex3_97 h
  refine lv_iinc (v := x3_97) (lv' := [(3, .int x3_97), (2, .int x2_96), (0, .ref (ad 0)), (1, .int u32_x1)]) hx hb d_MM_intOf_97 hl (k := 3) rfl (by rw [ex3_97]; rfl) (by decide) rfl (fun ls hl => ?_)
  refine lv_goto (tgt := 32) hx hb d_MM_intOf_100 (by decide) ?_
  cases h
  exact h0 rfl _ _ _ hP hS (lv_sub hl [2, 3, 1, 0] rfl)
set_option maxHeartbeats 4000000 in
set_option maxRecDepth 100000 in
theorem f_MM_intOf_b32 {E : (Nat → Prop) → State → Heap → Prop} {p : Program} {l : Launch} {e : Env} {s : State} {m : MethodId} {args : Array Value} {below : List Frame} {meth : Method} {c : Code} {D : va_G} {ad kd sd vd xd : Nat → Nat} {ca : Nat → ClassId} {A : Nat → Prop} {ky ty : Nat → Option Nat} {Q : State → Prop} (hE : o_EK E kd sd vd xd) (hKy : m_KY ky ty sd) (C : o_Cx E p s m args meth c D m_cls (m_tys ca) "SchemaJudgeModel" b_MM_intOf (some .int) 4 cc_MM_intOf A) (hDD : ∀ (rt : Nat) (Mm : SMM) (M0 : SMT) (M1 : SMT), va_D A (m_cw ad ca ky ty rt Mm M0 M1)) (n : Nat) (u32_x1 : Int32) (u32_M0 : SMT) (u32_Mm : SMM) (u32_M1 : SMT) (u32_rt : Nat) (z : Int32 × Int32) (q : Nat × Int32 × Int32) (h : m_MM_intOf_b32 n u32_x1 u32_M0 z = some q) (h0 : q.1 = 0 → o_At p l e rm_MM_intOf s m args below meth c Q m_cls D A 4 32 [] (m_cw ad ca ky ty u32_rt u32_Mm u32_M0 u32_M1) [(0, .ref (ad 0)), (1, .int u32_x1), (2, .int q.2.1), (3, .int q.2.2)]) (h1 : q.1 ≠ 0 → (o_At p l e rm_MM_intOf s m args below meth c Q m_cls D A 4 103 [] (m_cw ad ca ky ty u32_rt u32_Mm u32_M0 u32_M1) [(2, .int q.2.1)])) : o_At p l e rm_MM_intOf s m args below meth c Q m_cls D A 4 32 [] (m_cw ad ca ky ty u32_rt u32_Mm u32_M0 u32_M1) [(0, .ref (ad 0)), (1, .int u32_x1), (2, .int z.1), (3, .int z.2)] := by
  unfold m_MM_intOf_b32 at h
  intro H locs ls hP hS hl
  have C0 := C
  obtain ⟨hx, hb, -, -, -, hown, hts, hK, -, -⟩ := C0
  refine lv_iload_n hx hb d_MM_intOf_32 rfl (lv_at hl 3 rfl) ?_
  refine lv_aload_n hx hb d_MM_intOf_33 rfl (lv_at hl 0 rfl) ?_
  refine o_get (v := .ref (ad 33)) C in_MM hP 0 mw_0 rfl 4 (by decide) k_7_234 rfl rfl d_MM_intOf_34 ?_
  refine o_get (v := .ref (ad 37)) C in_MT hP 33 mw_33 rfl 3 (by decide) k_7_107 rfl rfl d_MM_intOf_37 ?_
  refine lv_iload_n hx hb d_MM_intOf_40 rfl (lv_at hl 1 rfl) ?_
  obtain ⟨g4, h⟩ := o_gd_some h
  refine o_iald (f := (MT_many u32_M0)) C hP 37 35 mw_37 rfl g4 d_MM_intOf_41 ?_
  refine lv_aload_n hx hb d_MM_intOf_42 rfl (lv_at hl 0 rfl) ?_
  refine o_get (v := .ref (ad 33)) C in_MM hP 0 mw_0 rfl 4 (by decide) k_7_234 rfl rfl d_MM_intOf_43 ?_
  refine o_get (v := .ref (ad 39)) C in_MT hP 33 mw_33 rfl 5 (by decide) k_7_111 rfl rfl d_MM_intOf_46 ?_
  refine lv_iload_n hx hb d_MM_intOf_49 rfl (lv_at hl 1 rfl) ?_
  obtain ⟨g5, h⟩ := o_gd_some h
  refine o_iald (f := (MT_power u32_M0)) C hP 39 37 mw_39 rfl g5 d_MM_intOf_50 ?_
  refine lv_iadd hx hb d_MM_intOf_51 ?_
  refine lv_icmp_ge (tgt := 103) hx hb d_MM_intOf_52 (by decide) (fun c6 => ?_) (fun c6 => ?_)
  · replace h := o_tt c6 h
    cases h
    exact h1 (Nat.succ_ne_zero 0) _ _ _ hP hS (lv_sub hl [2] rfl)
  · replace h := o_ff c6 h
    refine lv_bipush (v := (10:Int32)) hx hb d_MM_intOf_55 (by decide) ?_
    refine lv_iload_n hx hb d_MM_intOf_57 rfl (lv_at hl 2 rfl) ?_
    refine lv_imul hx hb d_MM_intOf_58 ?_
    refine lv_iload_n hx hb d_MM_intOf_59 rfl (lv_at hl 3 rfl) ?_
    refine lv_aload_n hx hb d_MM_intOf_60 rfl (lv_at hl 0 rfl) ?_
    refine o_get (v := .ref (ad 33)) C in_MM hP 0 mw_0 rfl 4 (by decide) k_7_234 rfl rfl d_MM_intOf_61 ?_
    refine o_get (v := .ref (ad 37)) C in_MT hP 33 mw_33 rfl 3 (by decide) k_7_107 rfl rfl d_MM_intOf_64 ?_
    refine lv_iload_n hx hb d_MM_intOf_67 rfl (lv_at hl 1 rfl) ?_
    obtain ⟨g7, h⟩ := o_gd_some h
    refine o_iald (f := (MT_many u32_M0)) C hP 37 35 mw_37 rfl g7 d_MM_intOf_68 ?_
    refine lv_icmp_ge (tgt := 94) hx hb d_MM_intOf_69 (by decide) (fun c8 => ?_) (fun c8 => ?_)
    · replace h := o_tt c8 h
      refine lv_iconst (v := (0:Int32)) hx hb d_MM_intOf_94 (by decide) ?_
      exact f_MM_intOf_j95 hE hKy C hDD n u32_x1 u32_M0 u32_Mm u32_M1 u32_rt z.2 ((10:Int32) * z.1) (0:Int32) h h0 h1 _ _ _ hP hS (lv_sub hl [0, 1, 3] rfl)
    · replace h := o_ff c8 h
      refine lv_aload_n hx hb d_MM_intOf_72 rfl (lv_at hl 0 rfl) ?_
      refine o_get (v := .ref (ad 33)) C in_MM hP 0 mw_0 rfl 4 (by decide) k_7_234 rfl rfl d_MM_intOf_73 ?_
      refine o_get (v := .ref (ad 45)) C in_MT hP 33 mw_33 rfl 11 (by decide) k_7_123 rfl rfl d_MM_intOf_76 ?_
      refine lv_aload_n hx hb d_MM_intOf_79 rfl (lv_at hl 0 rfl) ?_
      refine o_get (v := .ref (ad 33)) C in_MM hP 0 mw_0 rfl 4 (by decide) k_7_234 rfl rfl d_MM_intOf_80 ?_
      refine o_get (v := .ref (ad 43)) C in_MT hP 33 mw_33 rfl 9 (by decide) k_7_119 rfl rfl d_MM_intOf_83 ?_
      refine lv_iload_n hx hb d_MM_intOf_86 rfl (lv_at hl 1 rfl) ?_
      obtain ⟨g9, h⟩ := o_gd_some h
      refine o_iald (f := (MT_from u32_M0)) C hP 43 41 mw_43 rfl g9 d_MM_intOf_87 ?_
      refine lv_iload_n hx hb d_MM_intOf_88 rfl (lv_at hl 3 rfl) ?_
      refine lv_iadd hx hb d_MM_intOf_89 ?_
      obtain ⟨g10, h⟩ := o_gd_some h
      refine o_iald (f := (MT_digits u32_M0)) C hP 45 43 mw_45 rfl g10 d_MM_intOf_90 ?_
      refine lv_goto (tgt := 95) hx hb d_MM_intOf_91 (by decide) ?_
      exact f_MM_intOf_j95 hE hKy C hDD n u32_x1 u32_M0 u32_Mm u32_M1 u32_rt z.2 ((10:Int32) * z.1) ((MT_digits u32_M0) (((MT_from u32_M0) u32_x1.toNatClampNeg) + z.2).toNatClampNeg) h h0 h1 _ _ _ hP hS (lv_sub hl [0, 1, 3] rfl)
set_option maxHeartbeats 4000000 in
set_option maxRecDepth 100000 in
theorem e_MM_intOf {E : (Nat → Prop) → State → Heap → Prop} {D : va_G} {ad kd sd vd xd : Nat → Nat} {ca : Nat → ClassId} {ky ty : Nat → Option Nat} (hE : o_EK E kd sd vd xd) (hKy : m_KY ky ty sd) (l : Launch) (n : Nat) (x1 : Int32) (M0 : SMT) (Mm : SMM) (M1 : SMT) (rt : Nat) {r : Int32} (h : m_MM_intOf n x1 M0 = some r) : o_Cn E l D m_cls (m_tys ca) y_MM_intOf cc_MM_intOf rm_MM_intOf [.ref (ad 0), .int x1] (m_cw ad ca ky ty rt Mm M0 M1) (m_cw ad ca ky ty rt Mm M0 M1) (some (.int r)) := by
  refine o_Cn_of (by decide) (Nat.le_of_ble_eq_true rfl) ?_
  intro p e s m below meth c A ls C hD hP hS hl
  have hDD : ∀ (rt : Nat) (Mm : SMM) (M0 : SMT) (M1 : SMT), va_D A (m_cw ad ca ky ty rt Mm M0 M1) := fun _ _ _ _ => o_D_map hD rfl
  have hl : lv_has ls 4 [(0, .ref (ad 0)), (1, .int x1)] := hl
  unfold m_MM_intOf at h
  have C0 := C
  obtain ⟨hx, hb, -, -, -, hown, hts, hK, -, -⟩ := C0
  refine lv_aload_n hx hb d_MM_intOf_0 rfl (lv_at hl 0 rfl) ?_
  refine o_get (v := .ref (ad 33)) C in_MM hP 0 mw_0 rfl 4 (by decide) k_7_234 rfl rfl d_MM_intOf_1 ?_
  refine o_get (v := .ref (ad 37)) C in_MT hP 33 mw_33 rfl 3 (by decide) k_7_107 rfl rfl d_MM_intOf_4 ?_
  refine lv_iload_n hx hb d_MM_intOf_7 rfl (lv_at hl 1 rfl) ?_
  obtain ⟨g1, h⟩ := o_gd_some h
  refine o_iald (f := (MT_many M0)) C hP 37 35 mw_37 rfl g1 d_MM_intOf_8 ?_
  refine lv_aload_n hx hb d_MM_intOf_9 rfl (lv_at hl 0 rfl) ?_
  refine o_get (v := .ref (ad 33)) C in_MM hP 0 mw_0 rfl 4 (by decide) k_7_234 rfl rfl d_MM_intOf_10 ?_
  refine o_get (v := .ref (ad 39)) C in_MT hP 33 mw_33 rfl 5 (by decide) k_7_111 rfl rfl d_MM_intOf_13 ?_
  refine lv_iload_n hx hb d_MM_intOf_16 rfl (lv_at hl 1 rfl) ?_
  obtain ⟨g2, h⟩ := o_gd_some h
  refine o_iald (f := (MT_power M0)) C hP 39 37 mw_39 rfl g2 d_MM_intOf_17 ?_
  refine lv_iadd hx hb d_MM_intOf_18 ?_
  refine lv_bipush (v := (7:Int32)) hx hb d_MM_intOf_19 (by decide) ?_
  refine lv_icmp_le (tgt := 28) hx hb d_MM_intOf_21 (by decide) (fun c3 => ?_) (fun c3 => ?_)
  · replace h := o_tt c3 h
    refine lv_iconst (v := (0:Int32)) hx hb d_MM_intOf_28 (by decide) ?_
    refine lv_istore_n (lv' := [(2, .int (0:Int32)), (0, .ref (ad 0)), (1, .int x1)]) hx hb d_MM_intOf_29 rfl hl (by decide) rfl (fun ls hl => ?_)
    refine lv_iconst (v := (0:Int32)) hx hb d_MM_intOf_30 (by decide) ?_
    refine lv_istore_n (lv' := [(3, .int (0:Int32)), (2, .int (0:Int32)), (0, .ref (ad 0)), (1, .int x1)]) hx hb d_MM_intOf_31 rfl hl (by decide) rfl (fun ls hl => ?_)
    obtain ⟨q1, hq1, h⟩ := o_bd_some h
    refine o_sim2 (AH := fun zz => o_At p l e rm_MM_intOf s m _ below meth c _ m_cls D A 4 32 [] (m_cw ad ca ky ty rt Mm M0 M1) [(0, .ref (ad 0)), (1, .int x1), (2, .int zz.1), (3, .int zz.2)]) (AX := fun qq => o_At p l e rm_MM_intOf s m _ below meth c _ m_cls D A 4 103 [] (m_cw ad ca ky ty rt Mm M0 M1) [(2, .int qq.2.1)]) (fun zz qq h h0 h1 => f_MM_intOf_b32 hE hKy C hDD n x1 M0 Mm M1 rt zz qq h h0 h1) n _ q1 hq1 ?_ _ _ _ hP hS (lv_sub hl [2, 3, 1, 0] rfl)
    intro H locs ls hP hS hl
    refine lv_iload_n hx hb d_MM_intOf_103 rfl (lv_at hl 0 rfl) ?_
    cases h
    exact o_ri C hP hS d_MM_intOf_104
  · replace h := o_ff c3 h
    refine lv_ldcw (v := (2000000:Int32)) hx hb hown (hts _ k_9_157) d_MM_intOf_24 ?_
    cases h
    exact o_ri (v := (2000000:Int32)) C hP hS d_MM_intOf_27
set_option maxHeartbeats 4000000 in
set_option maxRecDepth 100000 in
theorem e_MM_isName {E : (Nat → Prop) → State → Heap → Prop} {D : va_G} {ad kd sd vd xd : Nat → Nat} {ca : Nat → ClassId} {ky ty : Nat → Option Nat} (hE : o_EK E kd sd vd xd) (hKy : m_KY ky ty sd) (l : Launch) (x0 : Int32) (x1 : Int32) (Mm : SMM) (M0 : SMT) (M1 : SMT) (rt : Nat) {r : Int32} (h : m_MM_isName x0 x1 = some r) : o_Cn E l D m_cls (m_tys ca) y_MM_isName cc_MM_isName rm_MM_isName [.int x0, .int x1] (m_cw ad ca ky ty rt Mm M0 M1) (m_cw ad ca ky ty rt Mm M0 M1) (some (.int r)) := by
  refine o_Cn_of (by decide) (Nat.le_of_ble_eq_true rfl) ?_
  intro p e s m below meth c A ls C hD hP hS hl
  have hDD : ∀ (rt : Nat) (Mm : SMM) (M0 : SMT) (M1 : SMT), va_D A (m_cw ad ca ky ty rt Mm M0 M1) := fun _ _ _ _ => o_D_map hD rfl
  have hl : lv_has ls 2 [(0, .int x0), (1, .int x1)] := hl
  unfold m_MM_isName at h
  have C0 := C
  obtain ⟨hx, hb, -, -, -, hown, hts, hK, -, -⟩ := C0
  refine lv_iload_n hx hb d_MM_isName_0 rfl (lv_at hl 0 rfl) ?_
  refine lv_bipush (v := (97:Int32)) hx hb d_MM_isName_1 (by decide) ?_
  refine lv_bipush (v := (122:Int32)) hx hb d_MM_isName_3 (by decide) ?_
  obtain ⟨q1, hq1, h⟩ := o_bd_some h
  refine o_S (st1 := [.int q1]) (w1 := (m_cw ad ca ky ty rt Mm M0 M1)) hE.1 C (e_MM_in hE hKy l x0 (97:Int32) (122:Int32) Mm M0 M1 rt hq1) hP (hDD _ _ _ _) hS hl.1 k_9_41 k_8_201 k_1_12 k_8_202 hs_MM_in rfl rfl ⟨(Nat.le_of_ble_eq_true rfl), (Nat.le_of_ble_eq_true rfl)⟩ rfl (Nat.le_of_ble_eq_true rfl) ⟨Nat.zero_le _, Nat.zero_le _⟩ rfl d_MM_isName_5 (fun H locs hP hS => ?_)
  refine lv_if_ne (tgt := 55) hx hb d_MM_isName_8 (by decide) (fun c1 => ?_) (fun c1 => ?_)
  · replace h := o_ff c1 h
    refine lv_iconst (v := (1:Int32)) hx hb d_MM_isName_55 (by decide) ?_
    refine lv_goto (tgt := 60) hx hb d_MM_isName_56 (by decide) ?_
    cases h
    exact o_rz (v := (1:Int32)) C o_nar1 hP hS d_MM_isName_60
  · replace h := o_tt c1 h
    refine lv_iload_n hx hb d_MM_isName_11 rfl (lv_at hl 0 rfl) ?_
    refine lv_bipush (v := (65:Int32)) hx hb d_MM_isName_12 (by decide) ?_
    refine lv_bipush (v := (90:Int32)) hx hb d_MM_isName_14 (by decide) ?_
    obtain ⟨q2, hq2, h⟩ := o_bd_some h
    refine o_S (st1 := [.int q2]) (w1 := (m_cw ad ca ky ty rt Mm M0 M1)) hE.1 C (e_MM_in hE hKy l x0 (65:Int32) (90:Int32) Mm M0 M1 rt hq2) hP (hDD _ _ _ _) hS hl.1 k_9_41 k_8_201 k_1_12 k_8_202 hs_MM_in rfl rfl ⟨(Nat.le_of_ble_eq_true rfl), (Nat.le_of_ble_eq_true rfl)⟩ rfl (Nat.le_of_ble_eq_true rfl) ⟨Nat.zero_le _, Nat.zero_le _⟩ rfl d_MM_isName_16 (fun H locs hP hS => ?_)
    refine lv_if_ne (tgt := 55) hx hb d_MM_isName_19 (by decide) (fun c2 => ?_) (fun c2 => ?_)
    · replace h := o_ff c2 h
      refine lv_iconst (v := (1:Int32)) hx hb d_MM_isName_55 (by decide) ?_
      refine lv_goto (tgt := 60) hx hb d_MM_isName_56 (by decide) ?_
      cases h
      exact o_rz (v := (1:Int32)) C o_nar1 hP hS d_MM_isName_60
    · replace h := o_tt c2 h
      refine lv_iload_n hx hb d_MM_isName_22 rfl (lv_at hl 0 rfl) ?_
      refine lv_bipush (v := (95:Int32)) hx hb d_MM_isName_23 (by decide) ?_
      refine lv_icmp_eq (tgt := 55) hx hb d_MM_isName_25 (by decide) (fun c3 => ?_) (fun c3 => ?_)
      · replace h := o_tt c3 h
        refine lv_iconst (v := (1:Int32)) hx hb d_MM_isName_55 (by decide) ?_
        refine lv_goto (tgt := 60) hx hb d_MM_isName_56 (by decide) ?_
        cases h
        exact o_rz (v := (1:Int32)) C o_nar1 hP hS d_MM_isName_60
      · replace h := o_ff c3 h
        refine lv_iload_n hx hb d_MM_isName_28 rfl (lv_at hl 1 rfl) ?_
        refine lv_if_ne (tgt := 59) hx hb d_MM_isName_29 (by decide) (fun c4 => ?_) (fun c4 => ?_)
        · replace h := o_ff c4 h
          refine lv_iconst (v := (0:Int32)) hx hb d_MM_isName_59 (by decide) ?_
          cases h
          exact o_rz (v := (0:Int32)) C o_nar0 hP hS d_MM_isName_60
        · replace h := o_tt c4 h
          refine lv_iload_n hx hb d_MM_isName_32 rfl (lv_at hl 0 rfl) ?_
          refine lv_bipush (v := (48:Int32)) hx hb d_MM_isName_33 (by decide) ?_
          refine lv_bipush (v := (57:Int32)) hx hb d_MM_isName_35 (by decide) ?_
          obtain ⟨q3, hq3, h⟩ := o_bd_some h
          refine o_S (st1 := [.int q3]) (w1 := (m_cw ad ca ky ty rt Mm M0 M1)) hE.1 C (e_MM_in hE hKy l x0 (48:Int32) (57:Int32) Mm M0 M1 rt hq3) hP (hDD _ _ _ _) hS hl.1 k_9_41 k_8_201 k_1_12 k_8_202 hs_MM_in rfl rfl ⟨(Nat.le_of_ble_eq_true rfl), (Nat.le_of_ble_eq_true rfl)⟩ rfl (Nat.le_of_ble_eq_true rfl) ⟨Nat.zero_le _, Nat.zero_le _⟩ rfl d_MM_isName_37 (fun H locs hP hS => ?_)
          refine lv_if_ne (tgt := 55) hx hb d_MM_isName_40 (by decide) (fun c5 => ?_) (fun c5 => ?_)
          · replace h := o_ff c5 h
            refine lv_iconst (v := (1:Int32)) hx hb d_MM_isName_55 (by decide) ?_
            refine lv_goto (tgt := 60) hx hb d_MM_isName_56 (by decide) ?_
            cases h
            exact o_rz (v := (1:Int32)) C o_nar1 hP hS d_MM_isName_60
          · replace h := o_tt c5 h
            refine lv_iload_n hx hb d_MM_isName_43 rfl (lv_at hl 0 rfl) ?_
            refine lv_bipush (v := (45:Int32)) hx hb d_MM_isName_44 (by decide) ?_
            refine lv_icmp_eq (tgt := 55) hx hb d_MM_isName_46 (by decide) (fun c6 => ?_) (fun c6 => ?_)
            · replace h := o_tt c6 h
              refine lv_iconst (v := (1:Int32)) hx hb d_MM_isName_55 (by decide) ?_
              refine lv_goto (tgt := 60) hx hb d_MM_isName_56 (by decide) ?_
              cases h
              exact o_rz (v := (1:Int32)) C o_nar1 hP hS d_MM_isName_60
            · replace h := o_ff c6 h
              refine lv_iload_n hx hb d_MM_isName_49 rfl (lv_at hl 0 rfl) ?_
              refine lv_bipush (v := (46:Int32)) hx hb d_MM_isName_50 (by decide) ?_
              refine lv_icmp_ne (tgt := 59) hx hb d_MM_isName_52 (by decide) (fun c7 => ?_) (fun c7 => ?_)
              · replace h := o_ff c7 h
                refine lv_iconst (v := (0:Int32)) hx hb d_MM_isName_59 (by decide) ?_
                cases h
                exact o_rz (v := (0:Int32)) C o_nar0 hP hS d_MM_isName_60
              · replace h := o_tt c7 h
                refine lv_iconst (v := (1:Int32)) hx hb d_MM_isName_55 (by decide) ?_
                refine lv_goto (tgt := 60) hx hb d_MM_isName_56 (by decide) ?_
                cases h
                exact o_rz (v := (1:Int32)) C o_nar1 hP hS d_MM_isName_60
set_option maxHeartbeats 4000000 in
set_option maxRecDepth 100000 in
theorem f_MM_anchor_j82 {E : (Nat → Prop) → State → Heap → Prop} {p : Program} {l : Launch} {e : Env} {s : State} {m : MethodId} {args : Array Value} {below : List Frame} {meth : Method} {c : Code} {D : va_G} {ad kd sd vd xd : Nat → Nat} {ca : Nat → ClassId} {A : Nat → Prop} {ky ty : Nat → Option Nat} {Q : State → Prop} (hE : o_EK E kd sd vd xd) (hKy : m_KY ky ty sd) (C : o_Cx E p s m args meth c D m_cls (m_tys ca) "SchemaJudgeModel" b_MM_anchor none 5 cc_MM_anchor A) (hDD : ∀ (rt : Nat) (Mm : SMM) (M0 : SMT) (M1 : SMT), va_D A (m_cw ad ca ky ty rt Mm M0 M1)) (n : Nat) (u34_x1 : Int32) (u34_x2 : Int32) (u34_M0 : SMT) (u34_Mm : SMM) (u34_M1 : SMT) (u34_rt : Nat) (x4 : Int32) (y0 : Int32) (y1 : Int32) {q : Nat × Int32 × Int32} (h : m_MM_anchor_j82 n u34_x1 u34_x2 x4 y0 y1 u34_M0 u34_Mm = some q) (h0 : q.1 = 0 → o_At p l e rm_MM_anchor s m args below meth c Q m_cls D A 5 34 [] (m_cw ad ca ky ty u34_rt u34_Mm u34_M0 u34_M1) [(0, .ref (ad 0)), (1, .int u34_x1), (2, .int u34_x2), (3, .int q.2.1), (4, .int q.2.2)]) (h1 : q.1 ≠ 0 → (o_At p l e rm_MM_anchor s m args below meth c Q m_cls D A 5 92 [] (m_cw ad ca ky ty u34_rt u34_Mm u34_M0 u34_M1) [(0, .ref (ad 0)), (1, .int u34_x1), (2, .int u34_x2), (3, .int q.2.1)])) : o_At p l e rm_MM_anchor s m args below meth c Q m_cls D A 5 82 [.int y1, .int y0] (m_cw ad ca ky ty u34_rt u34_Mm u34_M0 u34_M1) [(0, .ref (ad 0)), (1, .int u34_x1), (2, .int u34_x2), (4, .int x4)] := by
  unfold m_MM_anchor_j82 at h
  intro H locs ls hP hS hl
  have C0 := C
  obtain ⟨hx, hb, -, -, -, hown, hts, hK, -, -⟩ := C0
  obtain ⟨q1, hq1, h⟩ := o_bd_some h
  refine o_S (st1 := [.int q1]) (w1 := (m_cw ad ca ky ty u34_rt u34_Mm u34_M0 u34_M1)) hE.1 C (e_MM_isName hE hKy l y0 y1 u34_Mm u34_M0 u34_M1 u34_rt hq1) hP (hDD _ _ _ _) hS hl.1 k_9_163 k_9_164 k_1_12 k_9_165 hs_MM_isName rfl rfl ⟨(Nat.le_of_ble_eq_true rfl), (Nat.le_of_ble_eq_true rfl)⟩ rfl (Nat.le_of_ble_eq_true rfl) ⟨Nat.zero_le _, Nat.zero_le _⟩ rfl d_MM_anchor_82 (fun H locs hP hS => ?_)
  refine lv_istore_n (lv' := [(3, .int q1), (0, .ref (ad 0)), (1, .int u34_x1), (2, .int u34_x2), (4, .int x4)]) hx hb d_MM_anchor_85 rfl hl (by decide) rfl (fun ls hl => ?_)
  obtain ⟨x4_86, ex4_86⟩ : ∃ y : Int32, y = x4 + (1:Int32) := ⟨_, rfl⟩
  replace h := o_nm_at ex4_86 h
  refine lv_iinc (v := x4_86) (lv' := [(4, .int x4_86), (3, .int q1), (0, .ref (ad 0)), (1, .int u34_x1), (2, .int u34_x2)]) hx hb d_MM_anchor_86 hl (k := 4) rfl (by rw [ex4_86]; rfl) (by decide) rfl (fun ls hl => ?_)
  refine lv_goto (tgt := 34) hx hb d_MM_anchor_89 (by decide) ?_
  cases h
  exact h0 rfl _ _ _ hP hS (lv_sub hl [2, 3, 4, 1, 0] rfl)
set_option maxHeartbeats 4000000 in
set_option maxRecDepth 100000 in
theorem f_MM_anchor_b34 {E : (Nat → Prop) → State → Heap → Prop} {p : Program} {l : Launch} {e : Env} {s : State} {m : MethodId} {args : Array Value} {below : List Frame} {meth : Method} {c : Code} {D : va_G} {ad kd sd vd xd : Nat → Nat} {ca : Nat → ClassId} {A : Nat → Prop} {ky ty : Nat → Option Nat} {Q : State → Prop} (hE : o_EK E kd sd vd xd) (hKy : m_KY ky ty sd) (C : o_Cx E p s m args meth c D m_cls (m_tys ca) "SchemaJudgeModel" b_MM_anchor none 5 cc_MM_anchor A) (hDD : ∀ (rt : Nat) (Mm : SMM) (M0 : SMT) (M1 : SMT), va_D A (m_cw ad ca ky ty rt Mm M0 M1)) (n : Nat) (u34_x1 : Int32) (u34_x2 : Int32) (u34_M0 : SMT) (u34_Mm : SMM) (u34_M1 : SMT) (u34_rt : Nat) (z : Int32 × Int32) (q : Nat × Int32 × Int32) (h : m_MM_anchor_b34 n u34_x1 u34_x2 u34_M0 u34_Mm z = some q) (h0 : q.1 = 0 → o_At p l e rm_MM_anchor s m args below meth c Q m_cls D A 5 34 [] (m_cw ad ca ky ty u34_rt u34_Mm u34_M0 u34_M1) [(0, .ref (ad 0)), (1, .int u34_x1), (2, .int u34_x2), (3, .int q.2.1), (4, .int q.2.2)]) (h1 : q.1 ≠ 0 → (o_At p l e rm_MM_anchor s m args below meth c Q m_cls D A 5 92 [] (m_cw ad ca ky ty u34_rt u34_Mm u34_M0 u34_M1) [(0, .ref (ad 0)), (1, .int u34_x1), (2, .int u34_x2), (3, .int q.2.1)])) : o_At p l e rm_MM_anchor s m args below meth c Q m_cls D A 5 34 [] (m_cw ad ca ky ty u34_rt u34_Mm u34_M0 u34_M1) [(0, .ref (ad 0)), (1, .int u34_x1), (2, .int u34_x2), (3, .int z.1), (4, .int z.2)] := by
  unfold m_MM_anchor_b34 at h
  intro H locs ls hP hS hl
  have C0 := C
  obtain ⟨hx, hb, -, -, -, hown, hts, hK, -, -⟩ := C0
  refine lv_iload_n hx hb d_MM_anchor_34 rfl (lv_at hl 3 rfl) ?_
  refine lv_if_eq (tgt := 92) hx hb d_MM_anchor_35 (by decide) (fun c3 => ?_) (fun c3 => ?_)
  · replace h := o_tt c3 h
    cases h
    exact h1 (Nat.succ_ne_zero 0) _ _ _ hP hS (lv_sub hl [0, 1, 2, 3] rfl)
  · replace h := o_ff c3 h
    refine lv_iload hx hb d_MM_anchor_38 (lv_at hl 4 rfl) ?_
    refine lv_aload_n hx hb d_MM_anchor_40 rfl (lv_at hl 0 rfl) ?_
    refine o_get (v := .ref (ad 33)) C in_MM hP 0 mw_0 rfl 4 (by decide) k_7_234 rfl rfl d_MM_anchor_41 ?_
    refine o_get (v := .ref (ad 37)) C in_MT hP 33 mw_33 rfl 3 (by decide) k_7_107 rfl rfl d_MM_anchor_44 ?_
    refine lv_iload_n hx hb d_MM_anchor_47 rfl (lv_at hl 1 rfl) ?_
    obtain ⟨g4, h⟩ := o_gd_some h
    refine o_iald (f := (MT_many u34_M0)) C hP 37 35 mw_37 rfl g4 d_MM_anchor_48 ?_
    refine lv_icmp_ge (tgt := 92) hx hb d_MM_anchor_49 (by decide) (fun c5 => ?_) (fun c5 => ?_)
    · replace h := o_tt c5 h
      cases h
      exact h1 (Nat.succ_ne_zero 0) _ _ _ hP hS (lv_sub hl [0, 1, 2, 3] rfl)
    · replace h := o_ff c5 h
      refine lv_aload_n hx hb d_MM_anchor_52 rfl (lv_at hl 0 rfl) ?_
      refine o_get (v := .ref (ad 33)) C in_MM hP 0 mw_0 rfl 4 (by decide) k_7_234 rfl rfl d_MM_anchor_53 ?_
      refine o_get (v := .ref (ad 44)) C in_MT hP 33 mw_33 rfl 10 (by decide) k_7_121 rfl rfl d_MM_anchor_56 ?_
      refine lv_aload_n hx hb d_MM_anchor_59 rfl (lv_at hl 0 rfl) ?_
      refine o_get (v := .ref (ad 33)) C in_MM hP 0 mw_0 rfl 4 (by decide) k_7_234 rfl rfl d_MM_anchor_60 ?_
      refine o_get (v := .ref (ad 43)) C in_MT hP 33 mw_33 rfl 9 (by decide) k_7_119 rfl rfl d_MM_anchor_63 ?_
      refine lv_iload_n hx hb d_MM_anchor_66 rfl (lv_at hl 1 rfl) ?_
      obtain ⟨g6, h⟩ := o_gd_some h
      refine o_iald (f := (MT_from u34_M0)) C hP 43 41 mw_43 rfl g6 d_MM_anchor_67 ?_
      refine lv_iload hx hb d_MM_anchor_68 (lv_at hl 4 rfl) ?_
      refine lv_iadd hx hb d_MM_anchor_70 ?_
      obtain ⟨g7, h⟩ := o_gd_some h
      refine o_iald (f := (MT_characters u34_M0)) C hP 44 42 mw_44 rfl g7 d_MM_anchor_71 ?_
      refine lv_iload hx hb d_MM_anchor_72 (lv_at hl 4 rfl) ?_
      refine lv_if_ne (tgt := 81) hx hb d_MM_anchor_74 (by decide) (fun c8 => ?_) (fun c8 => ?_)
      · replace h := o_ff c8 h
        refine lv_iconst (v := (0:Int32)) hx hb d_MM_anchor_81 (by decide) ?_
        exact f_MM_anchor_j82 hE hKy C hDD n u34_x1 u34_x2 u34_M0 u34_Mm u34_M1 u34_rt z.2 ((MT_characters u34_M0) (((MT_from u34_M0) u34_x1.toNatClampNeg) + z.2).toNatClampNeg) (0:Int32) h h0 h1 _ _ _ hP hS (lv_sub hl [0, 1, 2, 4] rfl)
      · replace h := o_tt c8 h
        refine lv_iconst (v := (1:Int32)) hx hb d_MM_anchor_77 (by decide) ?_
        refine lv_goto (tgt := 82) hx hb d_MM_anchor_78 (by decide) ?_
        exact f_MM_anchor_j82 hE hKy C hDD n u34_x1 u34_x2 u34_M0 u34_Mm u34_M1 u34_rt z.2 ((MT_characters u34_M0) (((MT_from u34_M0) u34_x1.toNatClampNeg) + z.2).toNatClampNeg) (1:Int32) h h0 h1 _ _ _ hP hS (lv_sub hl [0, 1, 2, 4] rfl)
set_option maxHeartbeats 4000000 in
set_option maxRecDepth 100000 in
theorem f_MM_anchor_b106 {E : (Nat → Prop) → State → Heap → Prop} {p : Program} {l : Launch} {e : Env} {s : State} {m : MethodId} {args : Array Value} {below : List Frame} {meth : Method} {c : Code} {D : va_G} {ad kd sd vd xd : Nat → Nat} {ca : Nat → ClassId} {A : Nat → Prop} {ky ty : Nat → Option Nat} {Q : State → Prop} (hE : o_EK E kd sd vd xd) (hKy : m_KY ky ty sd) (C : o_Cx E p s m args meth c D m_cls (m_tys ca) "SchemaJudgeModel" b_MM_anchor none 5 cc_MM_anchor A) (hDD : ∀ (rt : Nat) (Mm : SMM) (M0 : SMT) (M1 : SMT), va_D A (m_cw ad ca ky ty rt Mm M0 M1)) (n : Nat) (u106_x1 : Int32) (u106_x2 : Int32) (u106_M0 : SMT) (u106_Mm : SMM) (u106_M1 : SMT) (u106_rt : Nat) (z : Int32) (q : Nat × Int32) (h : m_MM_anchor_b106 n u106_x1 u106_x2 u106_M0 u106_Mm z = some q) (h0 : q.1 = 0 → o_At p l e rm_MM_anchor s m args below meth c Q m_cls D A 5 106 [] (m_cw ad ca ky ty u106_rt u106_Mm u106_M0 u106_M1) [(0, .ref (ad 0)), (1, .int u106_x1), (2, .int u106_x2), (4, .int q.2)]) (h1 : q.1 ≠ 0 → (if q.1 = 1 then o_At p l e rm_MM_anchor s m args below meth c Q m_cls D A 5 137 [] (m_cw ad ca ky ty u106_rt u106_Mm u106_M0 u106_M1) [(0, .ref (ad 0)), (1, .int u106_x1)] else o_At p l e rm_MM_anchor s m args below meth c Q m_cls D A 5 150 [] (m_cw ad ca ky ty u106_rt u106_Mm u106_M0 u106_M1) [(0, .ref (ad 0)), (1, .int u106_x1), (2, .int u106_x2)])) : o_At p l e rm_MM_anchor s m args below meth c Q m_cls D A 5 106 [] (m_cw ad ca ky ty u106_rt u106_Mm u106_M0 u106_M1) [(0, .ref (ad 0)), (1, .int u106_x1), (2, .int u106_x2), (4, .int z)] := by
  unfold m_MM_anchor_b106 at h
  intro H locs ls hP hS hl
  have C0 := C
  obtain ⟨hx, hb, -, -, -, hown, hts, hK, -, -⟩ := C0
  refine lv_iload hx hb d_MM_anchor_106 (lv_at hl 3 rfl) ?_
  refine lv_aload_n hx hb d_MM_anchor_108 rfl (lv_at hl 0 rfl) ?_
  refine o_get (v := .int (MM_anchors u106_Mm)) C in_MM hP 0 mw_0 rfl 39 (by decide) k_8_29 rfl rfl d_MM_anchor_109 ?_
  refine lv_icmp_ge (tgt := 150) hx hb d_MM_anchor_112 (by decide) (fun c10 => ?_) (fun c10 => ?_)
  · replace h := o_tt c10 h
    cases h
    exact h1 (Nat.succ_ne_zero 1) _ _ _ hP hS (lv_sub hl [0, 1, 2] rfl)
  · replace h := o_ff c10 h
    refine lv_aload_n hx hb d_MM_anchor_115 rfl (lv_at hl 0 rfl) ?_
    refine o_get (v := .ref (ad 33)) C in_MM hP 0 mw_0 rfl 4 (by decide) k_7_234 rfl rfl d_MM_anchor_116 ?_
    refine lv_iload_n hx hb d_MM_anchor_119 rfl (lv_at hl 1 rfl) ?_
    refine lv_aload_n hx hb d_MM_anchor_120 rfl (lv_at hl 0 rfl) ?_
    refine o_get (v := .ref (ad 33)) C in_MM hP 0 mw_0 rfl 4 (by decide) k_7_234 rfl rfl d_MM_anchor_121 ?_
    refine lv_aload_n hx hb d_MM_anchor_124 rfl (lv_at hl 0 rfl) ?_
    refine o_get (v := .ref (ad 23)) C in_MM hP 0 mw_0 rfl 42 (by decide) k_8_32 rfl rfl d_MM_anchor_125 ?_
    refine lv_iload hx hb d_MM_anchor_128 (lv_at hl 3 rfl) ?_
    obtain ⟨g11, h⟩ := o_gd_some h
    refine o_iald (f := (MM_anchorValue u106_Mm)) C hP 23 22 mw_23 rfl g11 d_MM_anchor_130 ?_
    obtain ⟨q3, hq3, h⟩ := o_bd_some h
    refine o_V (st1 := [.int q3]) (w1 := (m_cw ad ca ky ty u106_rt u106_Mm u106_M0 u106_M1)) hE.1 C (e_MT_same_aa hE hKy l n u106_x1 ((MM_anchorValue u106_Mm) z.toNatClampNeg) u106_M0 u106_Mm u106_M1 u106_rt hq3) hP (hDD _ _ _ _) hS hl.1 rfl mw_33 k_9_166 k_9_26 k_9_27 k_1_13 k_9_28 hv_MT_same rfl rfl ⟨(Nat.le_of_ble_eq_true rfl), (Nat.le_of_ble_eq_true rfl)⟩ rfl (Nat.le_of_ble_eq_true rfl) ⟨Nat.zero_le _, Nat.zero_le _⟩ rfl d_MM_anchor_131 (fun H locs hP hS => ?_)
    refine lv_if_eq (tgt := 144) hx hb d_MM_anchor_134 (by decide) (fun c12 => ?_) (fun c12 => ?_)
    · replace h := o_tt c12 h
      obtain ⟨x4_144, ex4_144⟩ : ∃ y : Int32, y = z + (1:Int32) := ⟨_, rfl⟩
      replace h := o_nm_at ex4_144 h
      refine lv_iinc (v := x4_144) (lv' := [(4, .int x4_144), (0, .ref (ad 0)), (1, .int u106_x1), (2, .int u106_x2)]) hx hb d_MM_anchor_144 hl (k := 3) rfl (by rw [ex4_144]; rfl) (by decide) rfl (fun ls hl => ?_)
      refine lv_goto (tgt := 106) hx hb d_MM_anchor_147 (by decide) ?_
      cases h
      exact h0 rfl _ _ _ hP hS (lv_sub hl [1, 2, 3, 0] rfl)
    · replace h := o_ff c12 h
      cases h
      exact h1 (Nat.succ_ne_zero 0) _ _ _ hP hS (lv_sub hl [0, 1] rfl)
set_option maxHeartbeats 4000000 in
set_option maxRecDepth 100000 in
theorem f_MM_anchor_j92 {E : (Nat → Prop) → State → Heap → Prop} {p : Program} {l : Launch} {e : Env} {s : State} {m : MethodId} {args : Array Value} {below : List Frame} {meth : Method} {c : Code} {D : va_G} {ad kd sd vd xd : Nat → Nat} {ca : Nat → ClassId} {A : Nat → Prop} {ky ty : Nat → Option Nat} (hE : o_EK E kd sd vd xd) (hKy : m_KY ky ty sd) (C : o_Cx E p s m args meth c D m_cls (m_tys ca) "SchemaJudgeModel" b_MM_anchor none 5 cc_MM_anchor A) (hDD : ∀ (rt : Nat) (Mm : SMM) (M0 : SMT) (M1 : SMT), va_D A (m_cw ad ca ky ty rt Mm M0 M1)) (n : Nat) (x1 : Int32) (x2 : Int32) (x3 : Int32) (M0 : SMT) (Mm : SMM) (M1 : SMT) (rt : Nat) {r : SMM} (h : m_MM_anchor_j92 n x1 x2 x3 M0 Mm = some r) : o_At p l e rm_MM_anchor s m args below meth c (MQ below (o_Qx D m_cls none (m_cw ad ca ky ty rt r M0 M1) A) args s 0 0 A) m_cls D A 5 92 [] (m_cw ad ca ky ty rt Mm M0 M1) [(0, .ref (ad 0)), (1, .int x1), (2, .int x2), (3, .int x3)] := by
  unfold m_MM_anchor_j92 at h
  intro H locs ls hP hS hl
  have C0 := C
  obtain ⟨hx, hb, -, -, -, hown, hts, hK, -, -⟩ := C0
  refine lv_iload_n hx hb d_MM_anchor_92 rfl (lv_at hl 3 rfl) ?_
  refine lv_if_ne (tgt := 103) hx hb d_MM_anchor_93 (by decide) (fun c9 => ?_) (fun c9 => ?_)
  · replace h := o_ff c9 h
    refine lv_iconst (v := (0:Int32)) hx hb d_MM_anchor_103 (by decide) ?_
    refine lv_istore (lv' := [(4, .int (0:Int32)), (0, .ref (ad 0)), (1, .int x1), (2, .int x2), (3, .int x3)]) hx hb d_MM_anchor_104 hl (by decide) rfl (fun ls hl => ?_)
    obtain ⟨q4, hq4, h⟩ := o_bd_some h
    refine o_sim2 (AH := fun zz => o_At p l e rm_MM_anchor s m args below meth c _ m_cls D A 5 106 [] (m_cw ad ca ky ty rt Mm M0 M1) [(0, .ref (ad 0)), (1, .int x1), (2, .int x2), (4, .int zz)]) (AX := fun qq => if qq.1 = 1 then o_At p l e rm_MM_anchor s m args below meth c _ m_cls D A 5 137 [] (m_cw ad ca ky ty rt Mm M0 M1) [(0, .ref (ad 0)), (1, .int x1)] else o_At p l e rm_MM_anchor s m args below meth c _ m_cls D A 5 150 [] (m_cw ad ca ky ty rt Mm M0 M1) [(0, .ref (ad 0)), (1, .int x1), (2, .int x2)]) (fun zz qq h h0 h1 => f_MM_anchor_b106 hE hKy C hDD n x1 x2 M0 Mm M1 rt zz qq h h0 h1) n _ q4 hq4 ?_ _ _ _ hP hS (lv_sub hl [1, 2, 3, 0] rfl)
    by_cases c15 : q4.1 = 1
    · replace h := o_tt c15 h
      refine o_ip c15 ?_
      intro H locs ls hP hS hl
      refine lv_aload_n hx hb d_MM_anchor_137 rfl (lv_at hl 0 rfl) ?_
      refine lv_iconst (v := (3:Int32)) hx hb d_MM_anchor_138 (by decide) ?_
      refine lv_iload_n hx hb d_MM_anchor_139 rfl (lv_at hl 1 rfl) ?_
      obtain ⟨q5, hq5, h⟩ := o_bd_some h
      refine o_V (st1 := []) (w1 := (m_cw ad ca ky ty rt q5 M0 M1)) hE.1 C (e_MM_fault hE hKy l (3:Int32) x1 Mm M0 M1 rt hq5) hP (hDD _ _ _ _) hS hl.1 rfl mw_0 k_9_42 k_9_44 k_s_83 k_1_12 k_9_45 hv_MM_fault rfl rfl ⟨(Nat.le_of_ble_eq_true rfl), (Nat.le_of_ble_eq_true rfl)⟩ rfl (Nat.le_of_ble_eq_true rfl) ⟨Nat.zero_le _, Nat.zero_le _⟩ rfl d_MM_anchor_140 (fun H locs hP hS => ?_)
      cases h
      exact o_rv C hP hS d_MM_anchor_143
    replace h := o_ff c15 h
    refine o_in_ c15 ?_
    intro H locs ls hP hS hl
    refine lv_aload_n hx hb d_MM_anchor_150 rfl (lv_at hl 0 rfl) ?_
    refine o_get (v := .ref (ad 23)) C in_MM hP 0 mw_0 rfl 42 (by decide) k_8_32 rfl rfl d_MM_anchor_151 ?_
    refine lv_aload_n hx hb d_MM_anchor_154 rfl (lv_at hl 0 rfl) ?_
    refine o_get (v := .int (MM_anchors Mm)) C in_MM hP 0 mw_0 rfl 39 (by decide) k_8_29 rfl rfl d_MM_anchor_155 ?_
    refine lv_iload_n hx hb d_MM_anchor_158 rfl (lv_at hl 1 rfl) ?_
    obtain ⟨g13, h⟩ := o_gd_some h
    refine o_iast (f := (MM_anchorValue Mm)) (w1 := (m_cw ad ca ky ty rt (MM_mk (MM_err Mm) (MM_fed Mm) (MM_wrong Mm) (MM_octets Mm) (MM_nodeKind Mm) (MM_nodeA Mm) (MM_nodeB Mm) (MM_nodeC Mm) (MM_nodeNext Mm) (MM_low Mm) (MM_high Mm) (MM_setFrom Mm) (MM_setTo Mm) (MM_setNot Mm) (MM_op Mm) (MM_opA Mm) (MM_opB Mm) (MM_mark Mm) (MM_now Mm) (MM_then Mm) (MM_todo Mm) (MM_nodes Mm) (MM_sets Mm) (MM_ranges Mm) (MM_steps Mm) (MM_pat Mm) (MM_patEnd Mm) (MM_round Mm) (MM_many1 Mm) (MM_broken Mm) (MM_checked Mm) (MM_faultKind Mm) (MM_faultValue Mm) (MM_latestFault Mm) (MM_anchors Mm) (MM_key Mm) (MM_target Mm) (upd (MM_anchorValue Mm) (MM_anchors Mm).toNatClampNeg x1) (MM_anchorSchema Mm) (MM_path Mm) (MM_route Mm) (MM_isSchema Mm) (MM_seen1 Mm) (MM_pathSize Mm) (MM_octetRow Mm) (MM_partRow Mm) (MM_pairValue Mm) (MM_pairKey Mm) (MM_pairs Mm) (MM_judged Mm) (MM_deepest Mm) (MM_depth Mm) (MM_over Mm) (MM_seen Mm)) M0 M1)) C hP (hDD _ _ _ _) hS 23 22 mw_23 rfl g13 rfl d_MM_anchor_159 (fun H locs hP hS => ?_)
    refine lv_aload_n hx hb d_MM_anchor_160 rfl (lv_at hl 0 rfl) ?_
    refine o_get (v := .ref (ad 24)) C in_MM hP 0 mw_0 rfl 43 (by decide) k_8_33 rfl rfl d_MM_anchor_161 ?_
    refine lv_aload_n hx hb d_MM_anchor_164 rfl (lv_at hl 0 rfl) ?_
    refine lv_dup hx hb d_MM_anchor_165 rfl ?_
    refine o_get (v := .int (MM_anchors Mm)) C in_MM hP 0 mw_0 rfl 39 (by decide) k_8_29 rfl rfl d_MM_anchor_166 ?_
    refine lv_dup_x1 hx hb d_MM_anchor_169 rfl rfl ?_
    refine lv_iconst (v := (1:Int32)) hx hb d_MM_anchor_170 (by decide) ?_
    refine lv_iadd hx hb d_MM_anchor_171 ?_
    refine o_put (v := .int ((MM_anchors Mm) + (1:Int32))) (ty := .int) (w1 := (m_cw ad ca ky ty rt (MM_mk (MM_err Mm) (MM_fed Mm) (MM_wrong Mm) (MM_octets Mm) (MM_nodeKind Mm) (MM_nodeA Mm) (MM_nodeB Mm) (MM_nodeC Mm) (MM_nodeNext Mm) (MM_low Mm) (MM_high Mm) (MM_setFrom Mm) (MM_setTo Mm) (MM_setNot Mm) (MM_op Mm) (MM_opA Mm) (MM_opB Mm) (MM_mark Mm) (MM_now Mm) (MM_then Mm) (MM_todo Mm) (MM_nodes Mm) (MM_sets Mm) (MM_ranges Mm) (MM_steps Mm) (MM_pat Mm) (MM_patEnd Mm) (MM_round Mm) (MM_many1 Mm) (MM_broken Mm) (MM_checked Mm) (MM_faultKind Mm) (MM_faultValue Mm) (MM_latestFault Mm) ((MM_anchors Mm) + (1:Int32)) (MM_key Mm) (MM_target Mm) (upd (MM_anchorValue Mm) (MM_anchors Mm).toNatClampNeg x1) (MM_anchorSchema Mm) (MM_path Mm) (MM_route Mm) (MM_isSchema Mm) (MM_seen1 Mm) (MM_pathSize Mm) (MM_octetRow Mm) (MM_partRow Mm) (MM_pairValue Mm) (MM_pairKey Mm) (MM_pairs Mm) (MM_judged Mm) (MM_deepest Mm) (MM_depth Mm) (MM_over Mm) (MM_seen Mm)) M0 M1)) C in_MM t_MM t_MM_ok n_MM hP (hDD _ _ _ _) hS 0 mw_0 rfl 39 (by decide) k_8_29 rfl rfl (by decide +kernel) rfl rfl (Nat.le_of_ble_eq_true rfl) rfl d_MM_anchor_172 (fun H locs hP hS => ?_)
    refine lv_iload_n hx hb d_MM_anchor_175 rfl (lv_at hl 2 rfl) ?_
    obtain ⟨g14, h⟩ := o_gd_some h
    refine o_iast (f := (MM_anchorSchema Mm)) (w1 := (m_cw ad ca ky ty rt (MM_mk (MM_err Mm) (MM_fed Mm) (MM_wrong Mm) (MM_octets Mm) (MM_nodeKind Mm) (MM_nodeA Mm) (MM_nodeB Mm) (MM_nodeC Mm) (MM_nodeNext Mm) (MM_low Mm) (MM_high Mm) (MM_setFrom Mm) (MM_setTo Mm) (MM_setNot Mm) (MM_op Mm) (MM_opA Mm) (MM_opB Mm) (MM_mark Mm) (MM_now Mm) (MM_then Mm) (MM_todo Mm) (MM_nodes Mm) (MM_sets Mm) (MM_ranges Mm) (MM_steps Mm) (MM_pat Mm) (MM_patEnd Mm) (MM_round Mm) (MM_many1 Mm) (MM_broken Mm) (MM_checked Mm) (MM_faultKind Mm) (MM_faultValue Mm) (MM_latestFault Mm) ((MM_anchors Mm) + (1:Int32)) (MM_key Mm) (MM_target Mm) (upd (MM_anchorValue Mm) (MM_anchors Mm).toNatClampNeg x1) (upd (MM_anchorSchema Mm) (MM_anchors Mm).toNatClampNeg x2) (MM_path Mm) (MM_route Mm) (MM_isSchema Mm) (MM_seen1 Mm) (MM_pathSize Mm) (MM_octetRow Mm) (MM_partRow Mm) (MM_pairValue Mm) (MM_pairKey Mm) (MM_pairs Mm) (MM_judged Mm) (MM_deepest Mm) (MM_depth Mm) (MM_over Mm) (MM_seen Mm)) M0 M1)) C hP (hDD _ _ _ _) hS 24 23 mw_24 rfl g14 rfl d_MM_anchor_176 (fun H locs hP hS => ?_)
    cases h
    exact o_rv C hP hS d_MM_anchor_177
  · replace h := o_tt c9 h
    refine lv_aload_n hx hb d_MM_anchor_96 rfl (lv_at hl 0 rfl) ?_
    refine lv_iconst (v := (1:Int32)) hx hb d_MM_anchor_97 (by decide) ?_
    refine lv_iload_n hx hb d_MM_anchor_98 rfl (lv_at hl 1 rfl) ?_
    obtain ⟨q6, hq6, h⟩ := o_bd_some h
    refine o_V (st1 := []) (w1 := (m_cw ad ca ky ty rt q6 M0 M1)) hE.1 C (e_MM_fault hE hKy l (1:Int32) x1 Mm M0 M1 rt hq6) hP (hDD _ _ _ _) hS hl.1 rfl mw_0 k_9_42 k_9_44 k_s_83 k_1_12 k_9_45 hv_MM_fault rfl rfl ⟨(Nat.le_of_ble_eq_true rfl), (Nat.le_of_ble_eq_true rfl)⟩ rfl (Nat.le_of_ble_eq_true rfl) ⟨Nat.zero_le _, Nat.zero_le _⟩ rfl d_MM_anchor_99 (fun H locs hP hS => ?_)
    cases h
    exact o_rv C hP hS d_MM_anchor_102
set_option maxHeartbeats 4000000 in
set_option maxRecDepth 100000 in
theorem e_MM_anchor {E : (Nat → Prop) → State → Heap → Prop} {D : va_G} {ad kd sd vd xd : Nat → Nat} {ca : Nat → ClassId} {ky ty : Nat → Option Nat} (hE : o_EK E kd sd vd xd) (hKy : m_KY ky ty sd) (l : Launch) (n : Nat) (x1 : Int32) (x2 : Int32) (M0 : SMT) (Mm : SMM) (M1 : SMT) (rt : Nat) {r : SMM} (h : m_MM_anchor n x1 x2 M0 Mm = some r) : o_Cn E l D m_cls (m_tys ca) y_MM_anchor cc_MM_anchor rm_MM_anchor [.ref (ad 0), .int x1, .int x2] (m_cw ad ca ky ty rt Mm M0 M1) (m_cw ad ca ky ty rt r M0 M1) none := by
  refine o_Cn_of (by decide) (Nat.le_of_ble_eq_true rfl) ?_
  intro p e s m below meth c A ls C hD hP hS hl
  have hDD : ∀ (rt : Nat) (Mm : SMM) (M0 : SMT) (M1 : SMT), va_D A (m_cw ad ca ky ty rt Mm M0 M1) := fun _ _ _ _ => o_D_map hD rfl
  have hl : lv_has ls 5 [(0, .ref (ad 0)), (1, .int x1), (2, .int x2)] := hl
  unfold m_MM_anchor at h
  have C0 := C
  obtain ⟨hx, hb, -, -, -, hown, hts, hK, -, -⟩ := C0
  refine lv_aload_n hx hb d_MM_anchor_0 rfl (lv_at hl 0 rfl) ?_
  refine o_get (v := .ref (ad 33)) C in_MM hP 0 mw_0 rfl 4 (by decide) k_7_234 rfl rfl d_MM_anchor_1 ?_
  refine o_get (v := .ref (ad 35)) C in_MT hP 33 mw_33 rfl 1 (by decide) k_7_103 rfl rfl d_MM_anchor_4 ?_
  refine lv_iload_n hx hb d_MM_anchor_7 rfl (lv_at hl 1 rfl) ?_
  obtain ⟨g1, h⟩ := o_gd_some h
  refine o_iald (f := (MT_kind M0)) C hP 35 33 mw_35 rfl g1 d_MM_anchor_8 ?_
  refine lv_iconst (v := (4:Int32)) hx hb d_MM_anchor_9 (by decide) ?_
  refine lv_icmp_ne (tgt := 29) hx hb d_MM_anchor_10 (by decide) (fun c2 => ?_) (fun c2 => ?_)
  · replace h := o_ff c2 h
    refine lv_iconst (v := (0:Int32)) hx hb d_MM_anchor_29 (by decide) ?_
    refine lv_istore_n (lv' := [(3, .int (0:Int32)), (0, .ref (ad 0)), (1, .int x1), (2, .int x2)]) hx hb d_MM_anchor_30 rfl hl (by decide) rfl (fun ls hl => ?_)
    refine lv_iconst (v := (0:Int32)) hx hb d_MM_anchor_31 (by decide) ?_
    refine lv_istore (lv' := [(4, .int (0:Int32)), (3, .int (0:Int32)), (0, .ref (ad 0)), (1, .int x1), (2, .int x2)]) hx hb d_MM_anchor_32 hl (by decide) rfl (fun ls hl => ?_)
    obtain ⟨q2, hq2, h⟩ := o_bd_some h
    refine o_sim2 (AH := fun zz => o_At p l e rm_MM_anchor s m _ below meth c _ m_cls D A 5 34 [] (m_cw ad ca ky ty rt Mm M0 M1) [(0, .ref (ad 0)), (1, .int x1), (2, .int x2), (3, .int zz.1), (4, .int zz.2)]) (AX := fun qq => o_At p l e rm_MM_anchor s m _ below meth c _ m_cls D A 5 92 [] (m_cw ad ca ky ty rt Mm M0 M1) [(0, .ref (ad 0)), (1, .int x1), (2, .int x2), (3, .int qq.2.1)]) (fun zz qq h h0 h1 => f_MM_anchor_b34 hE hKy C hDD n x1 x2 M0 Mm M1 rt zz qq h h0 h1) n _ q2 hq2 ?_ _ _ _ hP hS (lv_sub hl [2, 3, 4, 1, 0] rfl)
    intro H locs ls hP hS hl
    exact f_MM_anchor_j92 hE hKy C hDD n x1 x2 q2.2.1 M0 Mm M1 rt h _ _ _ hP hS (lv_sub hl [0, 1, 2, 3] rfl)
  · replace h := o_tt c2 h
    refine lv_aload_n hx hb d_MM_anchor_13 rfl (lv_at hl 0 rfl) ?_
    refine o_get (v := .ref (ad 33)) C in_MM hP 0 mw_0 rfl 4 (by decide) k_7_234 rfl rfl d_MM_anchor_14 ?_
    refine o_get (v := .ref (ad 37)) C in_MT hP 33 mw_33 rfl 3 (by decide) k_7_107 rfl rfl d_MM_anchor_17 ?_
    refine lv_iload_n hx hb d_MM_anchor_20 rfl (lv_at hl 1 rfl) ?_
    obtain ⟨g16, h⟩ := o_gd_some h
    refine o_iald (f := (MT_many M0)) C hP 37 35 mw_37 rfl g16 d_MM_anchor_21 ?_
    refine lv_if_le (tgt := 29) hx hb d_MM_anchor_22 (by decide) (fun c17 => ?_) (fun c17 => ?_)
    · replace h := o_tt c17 h
      refine lv_iconst (v := (0:Int32)) hx hb d_MM_anchor_29 (by decide) ?_
      refine lv_istore_n (lv' := [(3, .int (0:Int32)), (0, .ref (ad 0)), (1, .int x1), (2, .int x2)]) hx hb d_MM_anchor_30 rfl hl (by decide) rfl (fun ls hl => ?_)
      refine lv_iconst (v := (0:Int32)) hx hb d_MM_anchor_31 (by decide) ?_
      refine lv_istore (lv' := [(4, .int (0:Int32)), (3, .int (0:Int32)), (0, .ref (ad 0)), (1, .int x1), (2, .int x2)]) hx hb d_MM_anchor_32 hl (by decide) rfl (fun ls hl => ?_)
      obtain ⟨q7, hq7, h⟩ := o_bd_some h
      refine o_sim2 (AH := fun zz => o_At p l e rm_MM_anchor s m _ below meth c _ m_cls D A 5 34 [] (m_cw ad ca ky ty rt Mm M0 M1) [(0, .ref (ad 0)), (1, .int x1), (2, .int x2), (3, .int zz.1), (4, .int zz.2)]) (AX := fun qq => o_At p l e rm_MM_anchor s m _ below meth c _ m_cls D A 5 92 [] (m_cw ad ca ky ty rt Mm M0 M1) [(0, .ref (ad 0)), (1, .int x1), (2, .int x2), (3, .int qq.2.1)]) (fun zz qq h h0 h1 => f_MM_anchor_b34 hE hKy C hDD n x1 x2 M0 Mm M1 rt zz qq h h0 h1) n _ q7 hq7 ?_ _ _ _ hP hS (lv_sub hl [2, 3, 4, 1, 0] rfl)
      intro H locs ls hP hS hl
      exact f_MM_anchor_j92 hE hKy C hDD n x1 x2 q7.2.1 M0 Mm M1 rt h _ _ _ hP hS (lv_sub hl [0, 1, 2, 3] rfl)
    · replace h := o_ff c17 h
      refine lv_iconst (v := (1:Int32)) hx hb d_MM_anchor_25 (by decide) ?_
      refine lv_goto (tgt := 30) hx hb d_MM_anchor_26 (by decide) ?_
      refine lv_istore_n (lv' := [(3, .int (1:Int32)), (0, .ref (ad 0)), (1, .int x1), (2, .int x2)]) hx hb d_MM_anchor_30 rfl hl (by decide) rfl (fun ls hl => ?_)
      refine lv_iconst (v := (0:Int32)) hx hb d_MM_anchor_31 (by decide) ?_
      refine lv_istore (lv' := [(4, .int (0:Int32)), (3, .int (1:Int32)), (0, .ref (ad 0)), (1, .int x1), (2, .int x2)]) hx hb d_MM_anchor_32 hl (by decide) rfl (fun ls hl => ?_)
      obtain ⟨q8, hq8, h⟩ := o_bd_some h
      refine o_sim2 (AH := fun zz => o_At p l e rm_MM_anchor s m _ below meth c _ m_cls D A 5 34 [] (m_cw ad ca ky ty rt Mm M0 M1) [(0, .ref (ad 0)), (1, .int x1), (2, .int x2), (3, .int zz.1), (4, .int zz.2)]) (AX := fun qq => o_At p l e rm_MM_anchor s m _ below meth c _ m_cls D A 5 92 [] (m_cw ad ca ky ty rt Mm M0 M1) [(0, .ref (ad 0)), (1, .int x1), (2, .int x2), (3, .int qq.2.1)]) (fun zz qq h h0 h1 => f_MM_anchor_b34 hE hKy C hDD n x1 x2 M0 Mm M1 rt zz qq h h0 h1) n _ q8 hq8 ?_ _ _ _ hP hS (lv_sub hl [2, 3, 4, 1, 0] rfl)
      intro H locs ls hP hS hl
      exact f_MM_anchor_j92 hE hKy C hDD n x1 x2 q8.2.1 M0 Mm M1 rt h _ _ _ hP hS (lv_sub hl [0, 1, 2, 3] rfl)
set_option maxHeartbeats 4000000 in
set_option maxRecDepth 100000 in
theorem f_MM_typeOf_b2 {E : (Nat → Prop) → State → Heap → Prop} {p : Program} {l : Launch} {e : Env} {s : State} {m : MethodId} {args : Array Value} {below : List Frame} {meth : Method} {c : Code} {D : va_G} {ad kd sd vd xd : Nat → Nat} {ca : Nat → ClassId} {A : Nat → Prop} {ky ty : Nat → Option Nat} {Q : State → Prop} (hE : o_EK E kd sd vd xd) (hKy : m_KY ky ty sd) (C : o_Cx E p s m args meth c D m_cls (m_tys ca) "SchemaJudgeModel" b_MM_typeOf (some .int) 3 cc_MM_typeOf A) (hDD : ∀ (rt : Nat) (Mm : SMM) (M0 : SMT) (M1 : SMT), va_D A (m_cw ad ca ky ty rt Mm M0 M1)) (n : Nat) (u2_x1 : Int32) (u2_M0 : SMT) (u2_Mm : SMM) (u2_M1 : SMT) (u2_rt : Nat) (z : Int32) (q : Nat × Int32) (h : m_MM_typeOf_b2 n u2_x1 u2_M0 u2_Mm z = some q) (h0 : q.1 = 0 → o_At p l e rm_MM_typeOf s m args below meth c Q m_cls D A 3 2 [] (m_cw ad ca ky ty u2_rt u2_Mm u2_M0 u2_M1) [(0, .ref (ad 0)), (1, .int u2_x1), (2, .int q.2)]) (h1 : q.1 ≠ 0 → (if q.1 = 1 then o_At p l e rm_MM_typeOf s m args below meth c Q m_cls D A 3 41 [] (m_cw ad ca ky ty u2_rt u2_Mm u2_M0 u2_M1) [(2, .int q.2)] else o_At p l e rm_MM_typeOf s m args below meth c Q m_cls D A 3 49 [] (m_cw ad ca ky ty u2_rt u2_Mm u2_M0 u2_M1) [])) : o_At p l e rm_MM_typeOf s m args below meth c Q m_cls D A 3 2 [] (m_cw ad ca ky ty u2_rt u2_Mm u2_M0 u2_M1) [(0, .ref (ad 0)), (1, .int u2_x1), (2, .int z)] := by
  unfold m_MM_typeOf_b2 at h
  intro H locs ls hP hS hl
  have C0 := C
  obtain ⟨hx, hb, -, -, -, hown, hts, hK, -, -⟩ := C0
  refine lv_iload_n hx hb d_MM_typeOf_2 rfl (lv_at hl 2 rfl) ?_
  refine lv_aload_n hx hb d_MM_typeOf_3 rfl (lv_at hl 0 rfl) ?_
  refine o_get (v := .ref (ad 20)) C in_MM hP 0 mw_0 rfl 34 (by decide) k_8_24 rfl rfl d_MM_typeOf_4 ?_
  refine va_alen (v := (7:Int32)) hx hb hK hP 20 19 mw_20 rfl rfl d_MM_typeOf_7 ?_
  refine lv_icmp_ge (tgt := 49) hx hb d_MM_typeOf_8 (by decide) (fun c1 => ?_) (fun c1 => ?_)
  · replace h := o_tt c1 h
    cases h
    exact h1 (Nat.succ_ne_zero 1) _ _ _ hP hS (lv_sub hl [] rfl)
  · replace h := o_ff c1 h
    refine lv_aload_n hx hb d_MM_typeOf_11 rfl (lv_at hl 0 rfl) ?_
    refine o_get (v := .ref (ad 33)) C in_MM hP 0 mw_0 rfl 4 (by decide) k_7_234 rfl rfl d_MM_typeOf_12 ?_
    refine o_get (v := .ref (ad 35)) C in_MT hP 33 mw_33 rfl 1 (by decide) k_7_103 rfl rfl d_MM_typeOf_15 ?_
    refine lv_iload_n hx hb d_MM_typeOf_18 rfl (lv_at hl 1 rfl) ?_
    obtain ⟨g2, h⟩ := o_gd_some h
    refine o_iald (f := (MT_kind u2_M0)) C hP 35 33 mw_35 rfl g2 d_MM_typeOf_19 ?_
    refine lv_iconst (v := (4:Int32)) hx hb d_MM_typeOf_20 (by decide) ?_
    refine lv_icmp_ne (tgt := 43) hx hb d_MM_typeOf_21 (by decide) (fun c3 => ?_) (fun c3 => ?_)
    · replace h := o_ff c3 h
      obtain ⟨x2_43, ex2_43⟩ : ∃ y : Int32, y = z + (1:Int32) := ⟨_, rfl⟩
      replace h := o_nm_at ex2_43 h
      refine lv_iinc (v := x2_43) (lv' := [(2, .int x2_43), (0, .ref (ad 0)), (1, .int u2_x1)]) hx hb d_MM_typeOf_43 hl (k := 2) rfl (by rw [ex2_43]; rfl) (by decide) rfl (fun ls hl => ?_)
      refine lv_goto (tgt := 2) hx hb d_MM_typeOf_46 (by decide) ?_
      cases h
      exact h0 rfl _ _ _ hP hS (lv_sub hl [1, 2, 0] rfl)
    · replace h := o_tt c3 h
      refine lv_aload_n hx hb d_MM_typeOf_24 rfl (lv_at hl 0 rfl) ?_
      refine o_get (v := .ref (ad 33)) C in_MM hP 0 mw_0 rfl 4 (by decide) k_7_234 rfl rfl d_MM_typeOf_25 ?_
      refine lv_iload_n hx hb d_MM_typeOf_28 rfl (lv_at hl 1 rfl) ?_
      refine lv_aload_n hx hb d_MM_typeOf_29 rfl (lv_at hl 0 rfl) ?_
      refine o_get (v := .ref (ad 20)) C in_MM hP 0 mw_0 rfl 34 (by decide) k_8_24 rfl rfl d_MM_typeOf_30 ?_
      refine lv_iload_n hx hb d_MM_typeOf_33 rfl (lv_at hl 2 rfl) ?_
      obtain ⟨g4, h⟩ := o_gd_some h
      refine o_aldS C hP 20 19 mw_20 rfl g4 (hKy.2 _ g4) d_MM_typeOf_34 ?_
      obtain ⟨q1, hq1, h⟩ := o_bd_some h
      refine o_V (st1 := [.int q1]) (w1 := (m_cw ad ca ky ty u2_rt u2_Mm u2_M0 u2_M1)) hE.1 C (e_MT_is_a hE hKy l n u2_x1 (mk_types z.toNatClampNeg) (mk_types_sb g4) u2_M0 u2_Mm u2_M1 u2_rt hq1) hP (hDD _ _ _ _) hS hl.1 rfl mw_33 k_9_46 k_9_47 k_9_48 k_1_13 k_9_49 hv_MT_is rfl rfl ⟨(Nat.le_of_ble_eq_true rfl), (Nat.le_of_ble_eq_true rfl)⟩ rfl (Nat.le_of_ble_eq_true rfl) ⟨Nat.zero_le _, Nat.zero_le _⟩ rfl d_MM_typeOf_35 (fun H locs hP hS => ?_)
      refine lv_if_eq (tgt := 43) hx hb d_MM_typeOf_38 (by decide) (fun c5 => ?_) (fun c5 => ?_)
      · replace h := o_tt c5 h
        obtain ⟨x2_43, ex2_43⟩ : ∃ y : Int32, y = z + (1:Int32) := ⟨_, rfl⟩
        replace h := o_nm_at ex2_43 h
        refine lv_iinc (v := x2_43) (lv' := [(2, .int x2_43), (0, .ref (ad 0)), (1, .int u2_x1)]) hx hb d_MM_typeOf_43 hl (k := 2) rfl (by rw [ex2_43]; rfl) (by decide) rfl (fun ls hl => ?_)
        refine lv_goto (tgt := 2) hx hb d_MM_typeOf_46 (by decide) ?_
        cases h
        exact h0 rfl _ _ _ hP hS (lv_sub hl [1, 2, 0] rfl)
      · replace h := o_ff c5 h
        cases h
        exact h1 (Nat.succ_ne_zero 0) _ _ _ hP hS (lv_sub hl [2] rfl)
set_option maxHeartbeats 4000000 in
set_option maxRecDepth 100000 in
theorem e_MM_typeOf {E : (Nat → Prop) → State → Heap → Prop} {D : va_G} {ad kd sd vd xd : Nat → Nat} {ca : Nat → ClassId} {ky ty : Nat → Option Nat} (hE : o_EK E kd sd vd xd) (hKy : m_KY ky ty sd) (l : Launch) (n : Nat) (x1 : Int32) (M0 : SMT) (Mm : SMM) (M1 : SMT) (rt : Nat) {r : Int32} (h : m_MM_typeOf n x1 M0 Mm = some r) : o_Cn E l D m_cls (m_tys ca) y_MM_typeOf cc_MM_typeOf rm_MM_typeOf [.ref (ad 0), .int x1] (m_cw ad ca ky ty rt Mm M0 M1) (m_cw ad ca ky ty rt Mm M0 M1) (some (.int r)) := by
  refine o_Cn_of (by decide) (Nat.le_of_ble_eq_true rfl) ?_
  intro p e s m below meth c A ls C hD hP hS hl
  have hDD : ∀ (rt : Nat) (Mm : SMM) (M0 : SMT) (M1 : SMT), va_D A (m_cw ad ca ky ty rt Mm M0 M1) := fun _ _ _ _ => o_D_map hD rfl
  have hl : lv_has ls 3 [(0, .ref (ad 0)), (1, .int x1)] := hl
  unfold m_MM_typeOf at h
  have C0 := C
  obtain ⟨hx, hb, -, -, -, hown, hts, hK, -, -⟩ := C0
  refine lv_iconst (v := (0:Int32)) hx hb d_MM_typeOf_0 (by decide) ?_
  refine lv_istore_n (lv' := [(2, .int (0:Int32)), (0, .ref (ad 0)), (1, .int x1)]) hx hb d_MM_typeOf_1 rfl hl (by decide) rfl (fun ls hl => ?_)
  obtain ⟨q2, hq2, h⟩ := o_bd_some h
  refine o_sim2 (AH := fun zz => o_At p l e rm_MM_typeOf s m _ below meth c _ m_cls D A 3 2 [] (m_cw ad ca ky ty rt Mm M0 M1) [(0, .ref (ad 0)), (1, .int x1), (2, .int zz)]) (AX := fun qq => if qq.1 = 1 then o_At p l e rm_MM_typeOf s m _ below meth c _ m_cls D A 3 41 [] (m_cw ad ca ky ty rt Mm M0 M1) [(2, .int qq.2)] else o_At p l e rm_MM_typeOf s m _ below meth c _ m_cls D A 3 49 [] (m_cw ad ca ky ty rt Mm M0 M1) []) (fun zz qq h h0 h1 => f_MM_typeOf_b2 hE hKy C hDD n x1 M0 Mm M1 rt zz qq h h0 h1) n _ q2 hq2 ?_ _ _ _ hP hS (lv_sub hl [1, 2, 0] rfl)
  by_cases c6 : q2.1 = 1
  · replace h := o_tt c6 h
    refine o_ip c6 ?_
    intro H locs ls hP hS hl
    refine lv_iload_n hx hb d_MM_typeOf_41 rfl (lv_at hl 0 rfl) ?_
    cases h
    exact o_ri C hP hS d_MM_typeOf_42
  replace h := o_ff c6 h
  refine o_in_ c6 ?_
  intro H locs ls hP hS hl
  refine lv_iconst (v := (-1:Int32)) hx hb d_MM_typeOf_49 (by decide) ?_
  cases h
  exact o_ri (v := (-1:Int32)) C hP hS d_MM_typeOf_50
set_option maxHeartbeats 4000000 in
set_option maxRecDepth 100000 in
theorem f_MM_type_b86 {E : (Nat → Prop) → State → Heap → Prop} {p : Program} {l : Launch} {e : Env} {s : State} {m : MethodId} {args : Array Value} {below : List Frame} {meth : Method} {c : Code} {D : va_G} {ad kd sd vd xd : Nat → Nat} {ca : Nat → ClassId} {A : Nat → Prop} {ky ty : Nat → Option Nat} {Q : State → Prop} (hE : o_EK E kd sd vd xd) (hKy : m_KY ky ty sd) (C : o_Cx E p s m args meth c D m_cls (m_tys ca) "SchemaJudgeModel" b_MM_type none 4 cc_MM_type A) (hDD : ∀ (rt : Nat) (Mm : SMM) (M0 : SMT) (M1 : SMT), va_D A (m_cw ad ca ky ty rt Mm M0 M1)) (n : Nat) (u86_x1 : Int32) (u86_x2 : Int32) (u86_M0 : SMT) (u86_Mm : SMM) (u86_M1 : SMT) (u86_rt : Nat) (z : Int32) (q : Nat × Int32) (h : m_MM_type_b86 n u86_x1 u86_x2 u86_M0 u86_Mm z = some q) (h0 : q.1 = 0 → o_At p l e rm_MM_type s m args below meth c Q m_cls D A 4 86 [] (m_cw ad ca ky ty u86_rt u86_Mm u86_M0 u86_M1) [(0, .ref (ad 0)), (1, .int u86_x1), (2, .int u86_x2), (3, .int q.2)]) (h1 : q.1 ≠ 0 → (if q.1 = 1 then o_At p l e rm_MM_type s m args below meth c Q m_cls D A 4 104 [] (m_cw ad ca ky ty u86_rt u86_Mm u86_M0 u86_M1) [(0, .ref (ad 0)), (2, .int u86_x2)] else o_At p l e rm_MM_type s m args below meth c Q m_cls D A 4 124 [] (m_cw ad ca ky ty u86_rt u86_Mm u86_M0 u86_M1) [(0, .ref (ad 0)), (1, .int u86_x1), (2, .int u86_x2)])) : o_At p l e rm_MM_type s m args below meth c Q m_cls D A 4 86 [] (m_cw ad ca ky ty u86_rt u86_Mm u86_M0 u86_M1) [(0, .ref (ad 0)), (1, .int u86_x1), (2, .int u86_x2), (3, .int z)] := by
  unfold m_MM_type_b86 at h
  intro H locs ls hP hS hl
  have C0 := C
  obtain ⟨hx, hb, -, -, -, hown, hts, hK, -, -⟩ := C0
  refine lv_iload_n hx hb d_MM_type_86 rfl (lv_at hl 3 rfl) ?_
  refine lv_iload_n hx hb d_MM_type_87 rfl (lv_at hl 2 rfl) ?_
  refine lv_icmp_eq (tgt := 124) hx hb d_MM_type_88 (by decide) (fun c9 => ?_) (fun c9 => ?_)
  · replace h := o_tt c9 h
    cases h
    exact h1 (Nat.succ_ne_zero 1) _ _ _ hP hS (lv_sub hl [0, 1, 2] rfl)
  · replace h := o_ff c9 h
    refine lv_aload_n hx hb d_MM_type_91 rfl (lv_at hl 0 rfl) ?_
    refine lv_iload_n hx hb d_MM_type_92 rfl (lv_at hl 3 rfl) ?_
    obtain ⟨q2, hq2, h⟩ := o_bd_some h
    refine o_V (st1 := [.int q2]) (w1 := (m_cw ad ca ky ty u86_rt u86_Mm u86_M0 u86_M1)) hE.1 C (e_MM_typeOf hE hKy l n z u86_M0 u86_Mm u86_M1 u86_rt hq2) hP (hDD _ _ _ _) hS hl.1 rfl mw_0 k_9_171 k_9_173 k_s_109 k_1_12 k_9_174 hv_MM_typeOf rfl rfl ⟨(Nat.le_of_ble_eq_true rfl), (Nat.le_of_ble_eq_true rfl)⟩ rfl (Nat.le_of_ble_eq_true rfl) ⟨Nat.zero_le _, Nat.zero_le _⟩ rfl d_MM_type_93 (fun H locs hP hS => ?_)
    refine lv_aload_n hx hb d_MM_type_96 rfl (lv_at hl 0 rfl) ?_
    refine lv_iload_n hx hb d_MM_type_97 rfl (lv_at hl 2 rfl) ?_
    obtain ⟨q3, hq3, h⟩ := o_bd_some h
    refine o_V (st1 := [.int q3, .int q2]) (w1 := (m_cw ad ca ky ty u86_rt u86_Mm u86_M0 u86_M1)) hE.1 C (e_MM_typeOf hE hKy l n u86_x2 u86_M0 u86_Mm u86_M1 u86_rt hq3) hP (hDD _ _ _ _) hS hl.1 rfl mw_0 k_9_171 k_9_173 k_s_109 k_1_12 k_9_174 hv_MM_typeOf rfl rfl ⟨(Nat.le_of_ble_eq_true rfl), (Nat.le_of_ble_eq_true rfl)⟩ rfl (Nat.le_of_ble_eq_true rfl) ⟨Nat.zero_le _, Nat.zero_le _⟩ rfl d_MM_type_98 (fun H locs hP hS => ?_)
    refine lv_icmp_ne (tgt := 111) hx hb d_MM_type_101 (by decide) (fun c10 => ?_) (fun c10 => ?_)
    · replace h := o_ff c10 h
      refine lv_aload_n hx hb d_MM_type_111 rfl (lv_at hl 0 rfl) ?_
      refine o_get (v := .ref (ad 33)) C in_MM hP 0 mw_0 rfl 4 (by decide) k_7_234 rfl rfl d_MM_type_112 ?_
      refine o_get (v := .ref (ad 41)) C in_MT hP 33 mw_33 rfl 7 (by decide) k_7_115 rfl rfl d_MM_type_115 ?_
      refine lv_iload_n hx hb d_MM_type_118 rfl (lv_at hl 3 rfl) ?_
      obtain ⟨g11, h⟩ := o_gd_some h
      refine o_iald (f := (MT_next u86_M0)) C hP 41 39 mw_41 rfl g11 d_MM_type_119 ?_
      refine lv_topi (fun x3_120 ex3_120 => ?_)
      replace h := o_nm_at ex3_120 h
      refine lv_istore_n (lv' := [(3, .int x3_120), (0, .ref (ad 0)), (1, .int u86_x1), (2, .int u86_x2)]) hx hb d_MM_type_120 rfl hl (by decide) rfl (fun ls hl => ?_)
      refine lv_goto (tgt := 86) hx hb d_MM_type_121 (by decide) ?_
      cases h
      exact h0 rfl _ _ _ hP hS (lv_sub hl [1, 2, 3, 0] rfl)
    · replace h := o_tt c10 h
      cases h
      exact h1 (Nat.succ_ne_zero 0) _ _ _ hP hS (lv_sub hl [0, 2] rfl)
set_option maxHeartbeats 4000000 in
set_option maxRecDepth 100000 in
theorem f_MM_type_b57 {E : (Nat → Prop) → State → Heap → Prop} {p : Program} {l : Launch} {e : Env} {s : State} {m : MethodId} {args : Array Value} {below : List Frame} {meth : Method} {c : Code} {D : va_G} {ad kd sd vd xd : Nat → Nat} {ca : Nat → ClassId} {A : Nat → Prop} {ky ty : Nat → Option Nat} {Q : State → Prop} (hE : o_EK E kd sd vd xd) (hKy : m_KY ky ty sd) (C : o_Cx E p s m args meth c D m_cls (m_tys ca) "SchemaJudgeModel" b_MM_type none 4 cc_MM_type A) (hDD : ∀ (rt : Nat) (Mm : SMM) (M0 : SMT) (M1 : SMT), va_D A (m_cw ad ca ky ty rt Mm M0 M1)) (n : Nat) (u57_x1 : Int32) (u57_M0 : SMT) (u57_Mm : SMM) (u57_M1 : SMT) (u57_rt : Nat) (z : Int32) (q : Nat × Int32) (h : m_MM_type_b57 n u57_x1 u57_M0 u57_Mm z = some q) (h0 : q.1 = 0 → o_At p l e rm_MM_type s m args below meth c Q m_cls D A 4 57 [] (m_cw ad ca ky ty u57_rt u57_Mm u57_M0 u57_M1) [(0, .ref (ad 0)), (1, .int u57_x1), (2, .int q.2)]) (h1 : q.1 ≠ 0 → (if q.1 = 1 then o_At p l e rm_MM_type s m args below meth c Q m_cls D A 4 69 [] (m_cw ad ca ky ty u57_rt u57_Mm u57_M0 u57_M1) [(0, .ref (ad 0)), (2, .int q.2)] else if q.1 = 2 then o_At p l e rm_MM_type s m args below meth c Q m_cls D A 4 104 [] (m_cw ad ca ky ty u57_rt u57_Mm u57_M0 u57_M1) [(0, .ref (ad 0)), (2, .int q.2)] else o_At p l e rm_MM_type s m args below meth c Q m_cls D A 4 137 [] (m_cw ad ca ky ty u57_rt u57_Mm u57_M0 u57_M1) [])) : o_At p l e rm_MM_type s m args below meth c Q m_cls D A 4 57 [] (m_cw ad ca ky ty u57_rt u57_Mm u57_M0 u57_M1) [(0, .ref (ad 0)), (1, .int u57_x1), (2, .int z)] := by
  unfold m_MM_type_b57 at h
  intro H locs ls hP hS hl
  have C0 := C
  obtain ⟨hx, hb, -, -, -, hown, hts, hK, -, -⟩ := C0
  refine lv_iload_n hx hb d_MM_type_57 rfl (lv_at hl 2 rfl) ?_
  refine lv_if_lt (tgt := 137) hx hb d_MM_type_58 (by decide) (fun c6 => ?_) (fun c6 => ?_)
  · replace h := o_tt c6 h
    cases h
    exact h1 (Nat.succ_ne_zero 2) _ _ _ hP hS (lv_sub hl [] rfl)
  · replace h := o_ff c6 h
    refine lv_aload_n hx hb d_MM_type_61 rfl (lv_at hl 0 rfl) ?_
    refine lv_iload_n hx hb d_MM_type_62 rfl (lv_at hl 2 rfl) ?_
    obtain ⟨q1, hq1, h⟩ := o_bd_some h
    refine o_V (st1 := [.int q1]) (w1 := (m_cw ad ca ky ty u57_rt u57_Mm u57_M0 u57_M1)) hE.1 C (e_MM_typeOf hE hKy l n z u57_M0 u57_Mm u57_M1 u57_rt hq1) hP (hDD _ _ _ _) hS hl.1 rfl mw_0 k_9_171 k_9_173 k_s_109 k_1_12 k_9_174 hv_MM_typeOf rfl rfl ⟨(Nat.le_of_ble_eq_true rfl), (Nat.le_of_ble_eq_true rfl)⟩ rfl (Nat.le_of_ble_eq_true rfl) ⟨Nat.zero_le _, Nat.zero_le _⟩ rfl d_MM_type_63 (fun H locs hP hS => ?_)
    refine lv_if_ge (tgt := 76) hx hb d_MM_type_66 (by decide) (fun c7 => ?_) (fun c7 => ?_)
    · replace h := o_tt c7 h
      refine lv_aload_n hx hb d_MM_type_76 rfl (lv_at hl 0 rfl) ?_
      refine o_get (v := .ref (ad 33)) C in_MM hP 0 mw_0 rfl 4 (by decide) k_7_234 rfl rfl d_MM_type_77 ?_
      refine o_get (v := .ref (ad 40)) C in_MT hP 33 mw_33 rfl 6 (by decide) k_7_113 rfl rfl d_MM_type_80 ?_
      refine lv_iload_n hx hb d_MM_type_83 rfl (lv_at hl 1 rfl) ?_
      obtain ⟨g8, h⟩ := o_gd_some h
      refine o_iald (f := (MT_first u57_M0)) C hP 40 38 mw_40 rfl g8 d_MM_type_84 ?_
      refine lv_topi (fun x3_85 ex3_85 => ?_)
      replace h := o_nm_at ex3_85 h
      refine lv_istore_n (lv' := [(3, .int x3_85), (0, .ref (ad 0)), (1, .int u57_x1), (2, .int z)]) hx hb d_MM_type_85 rfl hl (by decide) rfl (fun ls hl => ?_)
      obtain ⟨q4, hq4, h⟩ := o_bd_some h
      refine o_sim2 (AH := fun zz => o_At p l e rm_MM_type s m args below meth c _ m_cls D A 4 86 [] (m_cw ad ca ky ty u57_rt u57_Mm u57_M0 u57_M1) [(0, .ref (ad 0)), (1, .int u57_x1), (2, .int z), (3, .int zz)]) (AX := fun qq => if qq.1 = 1 then o_At p l e rm_MM_type s m args below meth c _ m_cls D A 4 104 [] (m_cw ad ca ky ty u57_rt u57_Mm u57_M0 u57_M1) [(0, .ref (ad 0)), (2, .int z)] else o_At p l e rm_MM_type s m args below meth c _ m_cls D A 4 124 [] (m_cw ad ca ky ty u57_rt u57_Mm u57_M0 u57_M1) [(0, .ref (ad 0)), (1, .int u57_x1), (2, .int z)]) (fun zz qq h h0 h1 => f_MM_type_b86 hE hKy C hDD n u57_x1 z u57_M0 u57_Mm u57_M1 u57_rt zz qq h h0 h1) n _ q4 hq4 ?_ _ _ _ hP hS (lv_sub hl [1, 2, 3, 0] rfl)
      by_cases c13 : q4.1 = 1
      · replace h := o_tt c13 h
        refine o_ip c13 ?_
        intro H locs ls hP hS hl
        cases h
        exact h1 (Nat.succ_ne_zero 1) _ _ _ hP hS (lv_sub hl [0, 1] rfl)
      replace h := o_ff c13 h
      refine o_in_ c13 ?_
      intro H locs ls hP hS hl
      refine lv_aload_n hx hb d_MM_type_124 rfl (lv_at hl 0 rfl) ?_
      refine o_get (v := .ref (ad 33)) C in_MM hP 0 mw_0 rfl 4 (by decide) k_7_234 rfl rfl d_MM_type_125 ?_
      refine o_get (v := .ref (ad 41)) C in_MT hP 33 mw_33 rfl 7 (by decide) k_7_115 rfl rfl d_MM_type_128 ?_
      refine lv_iload_n hx hb d_MM_type_131 rfl (lv_at hl 2 rfl) ?_
      obtain ⟨g12, h⟩ := o_gd_some h
      refine o_iald (f := (MT_next u57_M0)) C hP 41 39 mw_41 rfl g12 d_MM_type_132 ?_
      refine lv_topi (fun x2_133 ex2_133 => ?_)
      replace h := o_nm_at ex2_133 h
      refine lv_istore_n (lv' := [(2, .int x2_133), (0, .ref (ad 0)), (1, .int u57_x1)]) hx hb d_MM_type_133 rfl hl (by decide) rfl (fun ls hl => ?_)
      refine lv_goto (tgt := 57) hx hb d_MM_type_134 (by decide) ?_
      cases h
      exact h0 rfl _ _ _ hP hS (lv_sub hl [1, 2, 0] rfl)
    · replace h := o_ff c7 h
      cases h
      exact h1 (Nat.succ_ne_zero 0) _ _ _ hP hS (lv_sub hl [0, 2] rfl)
set_option maxHeartbeats 4000000 in
set_option maxRecDepth 100000 in
theorem e_MM_type {E : (Nat → Prop) → State → Heap → Prop} {D : va_G} {ad kd sd vd xd : Nat → Nat} {ca : Nat → ClassId} {ky ty : Nat → Option Nat} (hE : o_EK E kd sd vd xd) (hKy : m_KY ky ty sd) (l : Launch) (n : Nat) (x1 : Int32) (M0 : SMT) (Mm : SMM) (M1 : SMT) (rt : Nat) {r : SMM} (h : m_MM_type n x1 M0 Mm = some r) : o_Cn E l D m_cls (m_tys ca) y_MM_type cc_MM_type rm_MM_type [.ref (ad 0), .int x1] (m_cw ad ca ky ty rt Mm M0 M1) (m_cw ad ca ky ty rt r M0 M1) none := by
  refine o_Cn_of (by decide) (Nat.le_of_ble_eq_true rfl) ?_
  intro p e s m below meth c A ls C hD hP hS hl
  have hDD : ∀ (rt : Nat) (Mm : SMM) (M0 : SMT) (M1 : SMT), va_D A (m_cw ad ca ky ty rt Mm M0 M1) := fun _ _ _ _ => o_D_map hD rfl
  have hl : lv_has ls 4 [(0, .ref (ad 0)), (1, .int x1)] := hl
  unfold m_MM_type at h
  have C0 := C
  obtain ⟨hx, hb, -, -, -, hown, hts, hK, -, -⟩ := C0
  refine lv_aload_n hx hb d_MM_type_0 rfl (lv_at hl 0 rfl) ?_
  refine o_get (v := .ref (ad 33)) C in_MM hP 0 mw_0 rfl 4 (by decide) k_7_234 rfl rfl d_MM_type_1 ?_
  refine o_get (v := .ref (ad 35)) C in_MT hP 33 mw_33 rfl 1 (by decide) k_7_103 rfl rfl d_MM_type_4 ?_
  refine lv_iload_n hx hb d_MM_type_7 rfl (lv_at hl 1 rfl) ?_
  obtain ⟨g1, h⟩ := o_gd_some h
  refine o_iald (f := (MT_kind M0)) C hP 35 33 mw_35 rfl g1 d_MM_type_8 ?_
  refine lv_iconst (v := (5:Int32)) hx hb d_MM_type_9 (by decide) ?_
  refine lv_icmp_eq (tgt := 28) hx hb d_MM_type_10 (by decide) (fun c2 => ?_) (fun c2 => ?_)
  · replace h := o_tt c2 h
    refine lv_aload_n hx hb d_MM_type_28 rfl (lv_at hl 0 rfl) ?_
    refine o_get (v := .ref (ad 33)) C in_MM hP 0 mw_0 rfl 4 (by decide) k_7_234 rfl rfl d_MM_type_29 ?_
    refine o_get (v := .ref (ad 37)) C in_MT hP 33 mw_33 rfl 3 (by decide) k_7_107 rfl rfl d_MM_type_32 ?_
    refine lv_iload_n hx hb d_MM_type_35 rfl (lv_at hl 1 rfl) ?_
    obtain ⟨g3, h⟩ := o_gd_some h
    refine o_iald (f := (MT_many M0)) C hP 37 35 mw_37 rfl g3 d_MM_type_36 ?_
    refine lv_if_ne (tgt := 47) hx hb d_MM_type_37 (by decide) (fun c4 => ?_) (fun c4 => ?_)
    · replace h := o_ff c4 h
      refine lv_aload_n hx hb d_MM_type_47 rfl (lv_at hl 0 rfl) ?_
      refine o_get (v := .ref (ad 33)) C in_MM hP 0 mw_0 rfl 4 (by decide) k_7_234 rfl rfl d_MM_type_48 ?_
      refine o_get (v := .ref (ad 40)) C in_MT hP 33 mw_33 rfl 6 (by decide) k_7_113 rfl rfl d_MM_type_51 ?_
      refine lv_iload_n hx hb d_MM_type_54 rfl (lv_at hl 1 rfl) ?_
      obtain ⟨g5, h⟩ := o_gd_some h
      refine o_iald (f := (MT_first M0)) C hP 40 38 mw_40 rfl g5 d_MM_type_55 ?_
      refine lv_topi (fun x2_56 ex2_56 => ?_)
      replace h := o_nm_at ex2_56 h
      refine lv_istore_n (lv' := [(2, .int x2_56), (0, .ref (ad 0)), (1, .int x1)]) hx hb d_MM_type_56 rfl hl (by decide) rfl (fun ls hl => ?_)
      obtain ⟨q5, hq5, h⟩ := o_bd_some h
      refine o_sim2 (AH := fun zz => o_At p l e rm_MM_type s m _ below meth c _ m_cls D A 4 57 [] (m_cw ad ca ky ty rt Mm M0 M1) [(0, .ref (ad 0)), (1, .int x1), (2, .int zz)]) (AX := fun qq => if qq.1 = 1 then o_At p l e rm_MM_type s m _ below meth c _ m_cls D A 4 69 [] (m_cw ad ca ky ty rt Mm M0 M1) [(0, .ref (ad 0)), (2, .int qq.2)] else if qq.1 = 2 then o_At p l e rm_MM_type s m _ below meth c _ m_cls D A 4 104 [] (m_cw ad ca ky ty rt Mm M0 M1) [(0, .ref (ad 0)), (2, .int qq.2)] else o_At p l e rm_MM_type s m _ below meth c _ m_cls D A 4 137 [] (m_cw ad ca ky ty rt Mm M0 M1) []) (fun zz qq h h0 h1 => f_MM_type_b57 hE hKy C hDD n x1 M0 Mm M1 rt zz qq h h0 h1) n _ q5 hq5 ?_ _ _ _ hP hS (lv_sub hl [1, 2, 0] rfl)
      by_cases c14 : q5.1 = 1
      · replace h := o_tt c14 h
        refine o_ip c14 ?_
        intro H locs ls hP hS hl
        refine lv_aload_n hx hb d_MM_type_69 rfl (lv_at hl 0 rfl) ?_
        refine lv_iconst (v := (1:Int32)) hx hb d_MM_type_70 (by decide) ?_
        refine lv_iload_n hx hb d_MM_type_71 rfl (lv_at hl 1 rfl) ?_
        obtain ⟨q6, hq6, h⟩ := o_bd_some h
        refine o_V (st1 := []) (w1 := (m_cw ad ca ky ty rt q6 M0 M1)) hE.1 C (e_MM_fault hE hKy l (1:Int32) q5.2 Mm M0 M1 rt hq6) hP (hDD _ _ _ _) hS hl.1 rfl mw_0 k_9_42 k_9_44 k_s_83 k_1_12 k_9_45 hv_MM_fault rfl rfl ⟨(Nat.le_of_ble_eq_true rfl), (Nat.le_of_ble_eq_true rfl)⟩ rfl (Nat.le_of_ble_eq_true rfl) ⟨Nat.zero_le _, Nat.zero_le _⟩ rfl d_MM_type_72 (fun H locs hP hS => ?_)
        cases h
        exact o_rv C hP hS d_MM_type_75
      replace h := o_ff c14 h
      refine o_in_ c14 ?_
      by_cases c15 : q5.1 = 2
      · replace h := o_tt c15 h
        refine o_ip c15 ?_
        intro H locs ls hP hS hl
        refine lv_aload_n hx hb d_MM_type_104 rfl (lv_at hl 0 rfl) ?_
        refine lv_iconst (v := (1:Int32)) hx hb d_MM_type_105 (by decide) ?_
        refine lv_iload_n hx hb d_MM_type_106 rfl (lv_at hl 1 rfl) ?_
        obtain ⟨q7, hq7, h⟩ := o_bd_some h
        refine o_V (st1 := []) (w1 := (m_cw ad ca ky ty rt q7 M0 M1)) hE.1 C (e_MM_fault hE hKy l (1:Int32) q5.2 Mm M0 M1 rt hq7) hP (hDD _ _ _ _) hS hl.1 rfl mw_0 k_9_42 k_9_44 k_s_83 k_1_12 k_9_45 hv_MM_fault rfl rfl ⟨(Nat.le_of_ble_eq_true rfl), (Nat.le_of_ble_eq_true rfl)⟩ rfl (Nat.le_of_ble_eq_true rfl) ⟨Nat.zero_le _, Nat.zero_le _⟩ rfl d_MM_type_107 (fun H locs hP hS => ?_)
        cases h
        exact o_rv C hP hS d_MM_type_110
      replace h := o_ff c15 h
      refine o_in_ c15 ?_
      intro H locs ls hP hS hl
      cases h
      exact o_rv C hP hS d_MM_type_137
    · replace h := o_tt c4 h
      refine lv_aload_n hx hb d_MM_type_40 rfl (lv_at hl 0 rfl) ?_
      refine lv_iconst (v := (1:Int32)) hx hb d_MM_type_41 (by decide) ?_
      refine lv_iload_n hx hb d_MM_type_42 rfl (lv_at hl 1 rfl) ?_
      obtain ⟨q8, hq8, h⟩ := o_bd_some h
      refine o_V (st1 := []) (w1 := (m_cw ad ca ky ty rt q8 M0 M1)) hE.1 C (e_MM_fault hE hKy l (1:Int32) x1 Mm M0 M1 rt hq8) hP (hDD _ _ _ _) hS hl.1 rfl mw_0 k_9_42 k_9_44 k_s_83 k_1_12 k_9_45 hv_MM_fault rfl rfl ⟨(Nat.le_of_ble_eq_true rfl), (Nat.le_of_ble_eq_true rfl)⟩ rfl (Nat.le_of_ble_eq_true rfl) ⟨Nat.zero_le _, Nat.zero_le _⟩ rfl d_MM_type_43 (fun H locs hP hS => ?_)
      cases h
      exact o_rv C hP hS d_MM_type_46
  · replace h := o_ff c2 h
    refine lv_aload_n hx hb d_MM_type_13 rfl (lv_at hl 0 rfl) ?_
    refine lv_iload_n hx hb d_MM_type_14 rfl (lv_at hl 1 rfl) ?_
    obtain ⟨q9, hq9, h⟩ := o_bd_some h
    refine o_V (st1 := [.int q9]) (w1 := (m_cw ad ca ky ty rt Mm M0 M1)) hE.1 C (e_MM_typeOf hE hKy l n x1 M0 Mm M1 rt hq9) hP (hDD _ _ _ _) hS hl.1 rfl mw_0 k_9_171 k_9_173 k_s_109 k_1_12 k_9_174 hv_MM_typeOf rfl rfl ⟨(Nat.le_of_ble_eq_true rfl), (Nat.le_of_ble_eq_true rfl)⟩ rfl (Nat.le_of_ble_eq_true rfl) ⟨Nat.zero_le _, Nat.zero_le _⟩ rfl d_MM_type_15 (fun H locs hP hS => ?_)
    refine lv_if_ge (tgt := 27) hx hb d_MM_type_18 (by decide) (fun c16 => ?_) (fun c16 => ?_)
    · replace h := o_tt c16 h
      cases h
      exact o_rv C hP hS d_MM_type_27
    · replace h := o_ff c16 h
      refine lv_aload_n hx hb d_MM_type_21 rfl (lv_at hl 0 rfl) ?_
      refine lv_iconst (v := (1:Int32)) hx hb d_MM_type_22 (by decide) ?_
      refine lv_iload_n hx hb d_MM_type_23 rfl (lv_at hl 1 rfl) ?_
      obtain ⟨q10, hq10, h⟩ := o_bd_some h
      refine o_V (st1 := []) (w1 := (m_cw ad ca ky ty rt q10 M0 M1)) hE.1 C (e_MM_fault hE hKy l (1:Int32) x1 Mm M0 M1 rt hq10) hP (hDD _ _ _ _) hS hl.1 rfl mw_0 k_9_42 k_9_44 k_s_83 k_1_12 k_9_45 hv_MM_fault rfl rfl ⟨(Nat.le_of_ble_eq_true rfl), (Nat.le_of_ble_eq_true rfl)⟩ rfl (Nat.le_of_ble_eq_true rfl) ⟨Nat.zero_le _, Nat.zero_le _⟩ rfl d_MM_type_24 (fun H locs hP hS => ?_)
      cases h
      exact o_rv C hP hS d_MM_type_27
