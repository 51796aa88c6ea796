set_option maxHeartbeats 4000000 in
set_option maxRecDepth 100000 in
theorem e_MM_thrown {E : (Nat → Prop) → State → Heap → Prop} {D : va_G} {ad kd sd vd xd : Nat → Nat} {ca : Nat → ClassId} (hE : o_EK E kd sd vd xd) (l : Launch)  (Mm : SMM) (M0 : SMT) (M1 : SMT) (rt : Value) {r : Int32} (h : m_MM_thrown Mm = some r) : o_Cn E l D m_cls (m_tys ca) y_MM_thrown cc_MM_thrown rm_MM_thrown [.ref (ad 0)] (m_cw ad ca rt Mm M0 M1) (m_cw ad ca rt Mm M0 M1) (some (.int r)) := by
  refine o_Cn_of (by decide) (Nat.le_of_ble_eq_true rfl) ?_
  intro p e s m below meth c A ls C hD hP hS hl
  have hDD : ∀ (rt : Value) (Mm : SMM) (M0 : SMT) (M1 : SMT), va_D A (m_cw ad ca rt Mm M0 M1) := fun _ _ _ _ => o_D_map hD rfl
  have hl : lv_has ls 1 [(0, .ref (ad 0))] := hl
  unfold m_MM_thrown at h
  have C0 := C
  obtain ⟨hx, hb, -, -, -, hown, hts, hK, -, -⟩ := C0
  refine lv_aload_n hx hb d_MM_thrown_0 rfl (lv_at hl 0 rfl) ?_
  refine o_get (v := .int (MM_err Mm)) C in_MM hP 0 mw_0 rfl 0 (by decide) k_7_230 rfl rfl d_MM_thrown_1 ?_
  cases h
  exact o_ri (v := (MM_err Mm)) C hP hS d_MM_thrown_4
set_option maxHeartbeats 4000000 in
set_option maxRecDepth 100000 in
theorem f_MM_fails_j16 {E : (Nat → Prop) → State → Heap → Prop} {p : Program} {l : Launch} {e : Env} {s : State} {m : MethodId} {args : Array Value} {below : List Frame} {meth : Method} {c : Code} {D : va_G} {ad kd sd vd xd : Nat → Nat} {ca : Nat → ClassId} {A : Nat → Prop} (hE : o_EK E kd sd vd xd) (C : o_Cx E p s m args meth c D m_cls (m_tys ca) "SchemaJudgeModel" b_MM_fails (some .boolean) 3 cc_MM_fails A) (hDD : ∀ (rt : Value) (Mm : SMM) (M0 : SMT) (M1 : SMT), va_D A (m_cw ad ca rt Mm M0 M1))  (Mm : SMM) (M0 : SMT) (M1 : SMT) (rt : Value) {r : Int32 × SMM} (h : m_MM_fails_j16 Mm = some r) : o_At p l e rm_MM_fails s m args below meth c (MQ below (o_Qx D m_cls (some (.int r.1)) (m_cw ad ca rt r.2 M0 M1) A) args s 0 0 A) m_cls D A 3 16 [] (m_cw ad ca rt Mm M0 M1) [(0, .ref (ad 0))] := by
  unfold m_MM_fails_j16 at h
  intro H locs ls hP hS hl
  have C0 := C
  obtain ⟨hx, hb, -, -, -, hown, hts, hK, -, -⟩ := C0
  refine lv_aload_n hx hb d_MM_fails_16 rfl (lv_at hl 0 rfl) ?_
  refine o_get (v := .int (MM_err Mm)) C in_MM hP 0 mw_0 rfl 0 (by decide) k_7_230 rfl rfl d_MM_fails_17 ?_
  refine lv_if_eq (tgt := 27) hx hb d_MM_fails_20 (by decide) (fun c2 => ?_) (fun c2 => ?_)
  · replace h := o_tt c2 h
    refine lv_iconst (v := (0:Int32)) hx hb d_MM_fails_27 (by decide) ?_
    cases h
    exact o_rz (v := (0:Int32)) C o_nar0 hP hS d_MM_fails_28
  · replace h := o_ff c2 h
    refine lv_iconst (v := (1:Int32)) hx hb d_MM_fails_23 (by decide) ?_
    refine lv_goto (tgt := 28) hx hb d_MM_fails_24 (by decide) ?_
    cases h
    exact o_rz (v := (1:Int32)) C o_nar1 hP hS d_MM_fails_28
set_option maxHeartbeats 4000000 in
set_option maxRecDepth 100000 in
theorem e_MM_fails {E : (Nat → Prop) → State → Heap → Prop} {D : va_G} {ad kd sd vd xd : Nat → Nat} {ca : Nat → ClassId} (hE : o_EK E kd sd vd xd) (l : Launch) (x1 : Int32) (x2 : Int32) (Mm : SMM) (M0 : SMT) (M1 : SMT) (rt : Value) {r : Int32 × SMM} (h : m_MM_fails x1 x2 Mm = some r) : o_Cn E l D m_cls (m_tys ca) y_MM_fails cc_MM_fails rm_MM_fails [.ref (ad 0), .int x1, .int x2] (m_cw ad ca rt Mm M0 M1) (m_cw ad ca rt r.2 M0 M1) (some (.int r.1)) := by
  refine o_Cn_of (by decide) (Nat.le_of_ble_eq_true rfl) ?_
  intro p e s m below meth c A ls C hD hP hS hl
  have hDD : ∀ (rt : Value) (Mm : SMM) (M0 : SMT) (M1 : SMT), va_D A (m_cw ad ca rt Mm M0 M1) := fun _ _ _ _ => o_D_map hD rfl
  have hl : lv_has ls 3 [(0, .ref (ad 0)), (1, .int x1), (2, .int x2)] := hl
  unfold m_MM_fails at h
  have C0 := C
  obtain ⟨hx, hb, -, -, -, hown, hts, hK, -, -⟩ := C0
  refine lv_iload_n hx hb d_MM_fails_0 rfl (lv_at hl 1 rfl) ?_
  refine lv_if_eq (tgt := 16) hx hb d_MM_fails_1 (by decide) (fun c1 => ?_) (fun c1 => ?_)
  · replace h := o_tt c1 h
    exact f_MM_fails_j16 hE C hDD Mm M0 M1 rt h _ _ _ hP hS (lv_sub hl [0] rfl)
  · replace h := o_ff c1 h
    refine lv_aload_n hx hb d_MM_fails_4 rfl (lv_at hl 0 rfl) ?_
    refine o_get (v := .int (MM_err Mm)) C in_MM hP 0 mw_0 rfl 0 (by decide) k_7_230 rfl rfl d_MM_fails_5 ?_
    refine lv_if_ne (tgt := 16) hx hb d_MM_fails_8 (by decide) (fun c3 => ?_) (fun c3 => ?_)
    · replace h := o_ff c3 h
      exact f_MM_fails_j16 hE C hDD Mm M0 M1 rt h _ _ _ hP hS (lv_sub hl [0] rfl)
    · replace h := o_tt c3 h
      refine lv_aload_n hx hb d_MM_fails_11 rfl (lv_at hl 0 rfl) ?_
      refine lv_iload_n hx hb d_MM_fails_12 rfl (lv_at hl 2 rfl) ?_
      refine o_put (v := .int x2) (ty := .int) (w1 := (m_cw ad ca rt (MM_mk x2 (MM_fed Mm) (MM_wrong Mm) (MM_octets Mm) (MM_nodeKind Mm) (MM_nodeA Mm) (MM_nodeB Mm) (MM_nodeC Mm) (MM_nodeNext Mm) (MM_low Mm) (MM_high Mm) (MM_setFrom Mm) (MM_setTo Mm) (MM_setNot Mm) (MM_op Mm) (MM_opA Mm) (MM_opB Mm) (MM_mark Mm) (MM_now Mm) (MM_then Mm) (MM_todo Mm) (MM_nodes Mm) (MM_sets Mm) (MM_ranges Mm) (MM_steps Mm) (MM_pat Mm) (MM_patEnd Mm) (MM_round Mm) (MM_many1 Mm) (MM_broken Mm) (MM_keys Mm) (MM_types Mm) (MM_checked Mm) (MM_faultKind Mm) (MM_faultValue Mm) (MM_latestFault Mm) (MM_anchors Mm) (MM_key Mm) (MM_target Mm) (MM_anchorValue Mm) (MM_anchorSchema Mm) (MM_path Mm) (MM_route Mm) (MM_isSchema Mm) (MM_seen1 Mm) (MM_pathSize Mm) (MM_octetRow Mm) (MM_partRow Mm) (MM_pairValue Mm) (MM_pairKey Mm) (MM_pairs Mm) (MM_judged Mm) (MM_deepest Mm) (MM_depth Mm) (MM_over Mm) (MM_seen Mm)) M0 M1)) C in_MM t_MM t_MM_ok n_MM hP (hDD _ _ _ _) hS 0 mw_0 rfl 0 (by decide) k_7_230 rfl rfl (by decide +kernel) rfl rfl (Nat.le_of_ble_eq_true rfl) rfl d_MM_fails_13 (fun H locs hP hS => ?_)
      exact f_MM_fails_j16 hE C hDD (MM_mk x2 (MM_fed Mm) (MM_wrong Mm) (MM_octets Mm) (MM_nodeKind Mm) (MM_nodeA Mm) (MM_nodeB Mm) (MM_nodeC Mm) (MM_nodeNext Mm) (MM_low Mm) (MM_high Mm) (MM_setFrom Mm) (MM_setTo Mm) (MM_setNot Mm) (MM_op Mm) (MM_opA Mm) (MM_opB Mm) (MM_mark Mm) (MM_now Mm) (MM_then Mm) (MM_todo Mm) (MM_nodes Mm) (MM_sets Mm) (MM_ranges Mm) (MM_steps Mm) (MM_pat Mm) (MM_patEnd Mm) (MM_round Mm) (MM_many1 Mm) (MM_broken Mm) (MM_keys Mm) (MM_types Mm) (MM_checked Mm) (MM_faultKind Mm) (MM_faultValue Mm) (MM_latestFault Mm) (MM_anchors Mm) (MM_key Mm) (MM_target Mm) (MM_anchorValue Mm) (MM_anchorSchema Mm) (MM_path Mm) (MM_route Mm) (MM_isSchema Mm) (MM_seen1 Mm) (MM_pathSize Mm) (MM_octetRow Mm) (MM_partRow Mm) (MM_pairValue Mm) (MM_pairKey Mm) (MM_pairs Mm) (MM_judged Mm) (MM_deepest Mm) (MM_depth Mm) (MM_over Mm) (MM_seen Mm)) M0 M1 rt h _ _ _ hP hS (lv_sub hl [0] rfl)
set_option maxHeartbeats 4000000 in
set_option maxRecDepth 100000 in
theorem e_MM_in {E : (Nat → Prop) → State → Heap → Prop} {D : va_G} {ad kd sd vd xd : Nat → Nat} {ca : Nat → ClassId} (hE : o_EK E kd sd vd xd) (l : Launch) (x0 : Int32) (x1 : Int32) (x2 : Int32) (Mm : SMM) (M0 : SMT) (M1 : SMT) (rt : Value) {r : Int32} (h : m_MM_in x0 x1 x2 = some r) : o_Cn E l D m_cls (m_tys ca) y_MM_in cc_MM_in rm_MM_in [.int x0, .int x1, .int x2] (m_cw ad ca rt Mm M0 M1) (m_cw ad ca rt Mm M0 M1) (some (.int r)) := by
  refine o_Cn_of (by decide) (Nat.le_of_ble_eq_true rfl) ?_
  intro p e s m below meth c A ls C hD hP hS hl
  have hDD : ∀ (rt : Value) (Mm : SMM) (M0 : SMT) (M1 : SMT), va_D A (m_cw ad ca rt Mm M0 M1) := fun _ _ _ _ => o_D_map hD rfl
  have hl : lv_has ls 3 [(0, .int x0), (1, .int x1), (2, .int x2)] := hl
  unfold m_MM_in at h
  have C0 := C
  obtain ⟨hx, hb, -, -, -, hown, hts, hK, -, -⟩ := C0
  refine lv_iload_n hx hb d_MM_in_0 rfl (lv_at hl 0 rfl) ?_
  refine lv_iload_n hx hb d_MM_in_1 rfl (lv_at hl 1 rfl) ?_
  refine lv_icmp_lt (tgt := 14) hx hb d_MM_in_2 (by decide) (fun c1 => ?_) (fun c1 => ?_)
  · replace h := o_tt c1 h
    refine lv_iconst (v := (0:Int32)) hx hb d_MM_in_14 (by decide) ?_
    cases h
    exact o_rz (v := (0:Int32)) C o_nar0 hP hS d_MM_in_15
  · replace h := o_ff c1 h
    refine lv_iload_n hx hb d_MM_in_5 rfl (lv_at hl 0 rfl) ?_
    refine lv_iload_n hx hb d_MM_in_6 rfl (lv_at hl 2 rfl) ?_
    refine lv_icmp_gt (tgt := 14) hx hb d_MM_in_7 (by decide) (fun c2 => ?_) (fun c2 => ?_)
    · replace h := o_tt c2 h
      refine lv_iconst (v := (0:Int32)) hx hb d_MM_in_14 (by decide) ?_
      cases h
      exact o_rz (v := (0:Int32)) C o_nar0 hP hS d_MM_in_15
    · replace h := o_ff c2 h
      refine lv_iconst (v := (1:Int32)) hx hb d_MM_in_10 (by decide) ?_
      refine lv_goto (tgt := 15) hx hb d_MM_in_11 (by decide) ?_
      cases h
      exact o_rz (v := (1:Int32)) C o_nar1 hP hS d_MM_in_15
set_option maxHeartbeats 4000000 in
set_option maxRecDepth 100000 in
theorem f_MM_feed_j89 {E : (Nat → Prop) → State → Heap → Prop} {p : Program} {l : Launch} {e : Env} {s : State} {m : MethodId} {args : Array Value} {below : List Frame} {meth : Method} {c : Code} {D : va_G} {ad kd sd vd xd : Nat → Nat} {ca : Nat → ClassId} {A : Nat → Prop} {Q : State → Prop} (hE : o_EK E kd sd vd xd) (C : o_Cx E p s m args meth c D m_cls (m_tys ca) "SchemaJudgeModel" b_MM_feed (some .int) 8 cc_MM_feed A) (hDD : ∀ (rt : Value) (Mm : SMM) (M0 : SMT) (M1 : SMT), va_D A (m_cw ad ca rt Mm M0 M1)) (n : Nat) (u36_x1 : Int32) (u36_x2 : Int32) (u36_x3 : Int32) (u36_x4 : Int32) (u36_x5 : Int32) (u36_M0 : SMT) (u36_M1 : SMT) (u36_rt : Value) (x6 : Int32) (y0 : Int32) (Mm : SMM) {q : Nat × Int32 × SMM} (h : m_MM_feed_j89 n u36_x1 u36_x2 u36_x3 u36_x4 u36_x5 x6 y0 Mm = some q) (h0 : q.1 = 0 → o_At p l e rm_MM_feed s m args below meth c Q m_cls D A 8 36 [] (m_cw ad ca u36_rt q.2.2 u36_M0 u36_M1) [(0, .ref (ad 0)), (1, .int u36_x1), (2, .int u36_x2), (3, .int u36_x3), (4, .int u36_x4), (5, .int u36_x5), (6, .int q.2.1)]) (h1 : q.1 ≠ 0 → (o_At p l e rm_MM_feed s m args below meth c Q m_cls D A 8 130 [] (m_cw ad ca u36_rt q.2.2 u36_M0 u36_M1) [(0, .ref (ad 0))])) : o_At p l e rm_MM_feed s m args below meth c Q m_cls D A 8 89 [.int y0] (m_cw ad ca u36_rt Mm u36_M0 u36_M1) [(0, .ref (ad 0)), (1, .int u36_x1), (2, .int u36_x2), (3, .int u36_x3), (4, .int u36_x4), (5, .int u36_x5), (6, .int x6)] := by
  unfold m_MM_feed_j89 at h
  intro H locs ls hP hS hl
  have C0 := C
  obtain ⟨hx, hb, -, -, -, hown, hts, hK, -, -⟩ := C0
  refine lv_istore (lv' := [(7, .int y0), (0, .ref (ad 0)), (1, .int u36_x1), (2, .int u36_x2), (3, .int u36_x3), (4, .int u36_x4), (5, .int u36_x5), (6, .int x6)]) hx hb d_MM_feed_89 hl (by decide) rfl (fun ls hl => ?_)
  refine lv_aload_n hx hb d_MM_feed_91 rfl (lv_at hl 1 rfl) ?_
  refine o_get (v := .ref (ad 1)) C in_MM hP 0 mw_0 rfl 3 (by decide) k_7_233 rfl rfl d_MM_feed_92 ?_
  refine lv_aload_n hx hb d_MM_feed_95 rfl (lv_at hl 1 rfl) ?_
  refine lv_dup hx hb d_MM_feed_96 rfl ?_
  refine o_get (v := .int (MM_fed Mm)) C in_MM hP 0 mw_0 rfl 1 (by decide) k_7_231 rfl rfl d_MM_feed_97 ?_
  refine lv_dup_x1 hx hb d_MM_feed_100 rfl rfl ?_
  refine lv_iconst (v := (1:Int32)) hx hb d_MM_feed_101 (by decide) ?_
  refine lv_iadd hx hb d_MM_feed_102 ?_
  refine o_put (v := .int ((MM_fed Mm) + (1:Int32))) (ty := .int) (w1 := (m_cw ad ca u36_rt (MM_mk (MM_err Mm) ((MM_fed Mm) + (1:Int32)) (MM_wrong Mm) (MM_octets Mm) (MM_nodeKind Mm) (MM_nodeA Mm) (MM_nodeB Mm) (MM_nodeC Mm) (MM_nodeNext Mm) (MM_low Mm) (MM_high Mm) (MM_setFrom Mm) (MM_setTo Mm) (MM_setNot Mm) (MM_op Mm) (MM_opA Mm) (MM_opB Mm) (MM_mark Mm) (MM_now Mm) (MM_then Mm) (MM_todo Mm) (MM_nodes Mm) (MM_sets Mm) (MM_ranges Mm) (MM_steps Mm) (MM_pat Mm) (MM_patEnd Mm) (MM_round Mm) (MM_many1 Mm) (MM_broken Mm) (MM_keys Mm) (MM_types Mm) (MM_checked Mm) (MM_faultKind Mm) (MM_faultValue Mm) (MM_latestFault Mm) (MM_anchors Mm) (MM_key Mm) (MM_target Mm) (MM_anchorValue Mm) (MM_anchorSchema Mm) (MM_path Mm) (MM_route Mm) (MM_isSchema Mm) (MM_seen1 Mm) (MM_pathSize Mm) (MM_octetRow Mm) (MM_partRow Mm) (MM_pairValue Mm) (MM_pairKey Mm) (MM_pairs Mm) (MM_judged Mm) (MM_deepest Mm) (MM_depth Mm) (MM_over Mm) (MM_seen Mm)) u36_M0 u36_M1)) C in_MM t_MM t_MM_ok n_MM hP (hDD _ _ _ _) hS 0 mw_0 rfl 1 (by decide) k_7_231 rfl rfl (by decide +kernel) rfl rfl (Nat.le_of_ble_eq_true rfl) rfl d_MM_feed_103 (fun H locs hP hS => ?_)
  refine lv_iload hx hb d_MM_feed_106 (lv_at hl 0 rfl) ?_
  refine lv_bipush (v := (24:Int32)) hx hb d_MM_feed_108 (by decide) ?_
  refine lv_bipush (v := (8:Int32)) hx hb d_MM_feed_110 (by decide) ?_
  refine lv_iload hx hb d_MM_feed_112 (lv_at hl 7 rfl) ?_
  refine lv_iconst (v := (3:Int32)) hx hb d_MM_feed_114 (by decide) ?_
  refine lv_iand hx hb d_MM_feed_115 ?_
  refine lv_imul hx hb d_MM_feed_116 ?_
  refine lv_isub hx hb d_MM_feed_117 ?_
  refine lv_iushr hx hb d_MM_feed_118 rfl ?_
  refine lv_sipush (v := (255:Int32)) hx hb d_MM_feed_119 (by decide) ?_
  refine lv_iand hx hb d_MM_feed_122 ?_
  obtain ⟨g8, h⟩ := o_gd_some h
  refine o_iast (f := (MM_octets Mm)) (w1 := (m_cw ad ca u36_rt (MM_mk (MM_err Mm) ((MM_fed Mm) + (1:Int32)) (MM_wrong Mm) (upd (MM_octets Mm) (MM_fed Mm).toNatClampNeg ((y0.toUInt32 >>> (((24:Int32) - ((8:Int32) * (x6 &&& (3:Int32)))).toUInt32 &&& Int32.toUInt32 31)).toInt32 &&& (255:Int32))) (MM_nodeKind Mm) (MM_nodeA Mm) (MM_nodeB Mm) (MM_nodeC Mm) (MM_nodeNext Mm) (MM_low Mm) (MM_high Mm) (MM_setFrom Mm) (MM_setTo Mm) (MM_setNot Mm) (MM_op Mm) (MM_opA Mm) (MM_opB Mm) (MM_mark Mm) (MM_now Mm) (MM_then Mm) (MM_todo Mm) (MM_nodes Mm) (MM_sets Mm) (MM_ranges Mm) (MM_steps Mm) (MM_pat Mm) (MM_patEnd Mm) (MM_round Mm) (MM_many1 Mm) (MM_broken Mm) (MM_keys Mm) (MM_types Mm) (MM_checked Mm) (MM_faultKind Mm) (MM_faultValue Mm) (MM_latestFault Mm) (MM_anchors Mm) (MM_key Mm) (MM_target Mm) (MM_anchorValue Mm) (MM_anchorSchema Mm) (MM_path Mm) (MM_route Mm) (MM_isSchema Mm) (MM_seen1 Mm) (MM_pathSize Mm) (MM_octetRow Mm) (MM_partRow Mm) (MM_pairValue Mm) (MM_pairKey Mm) (MM_pairs Mm) (MM_judged Mm) (MM_deepest Mm) (MM_depth Mm) (MM_over Mm) (MM_seen Mm)) u36_M0 u36_M1)) C hP (hDD _ _ _ _) hS 1 0 mw_1 rfl g8 rfl d_MM_feed_123 (fun H locs hP hS => ?_)
  obtain ⟨x6_124, ex6_124⟩ : ∃ y : Int32, y = x6 + (1:Int32) := ⟨_, rfl⟩
  replace h := o_nm_at ex6_124 h
  refine lv_iinc (v := x6_124) (lv' := [(6, .int x6_124), (7, .int y0), (0, .ref (ad 0)), (1, .int u36_x1), (2, .int u36_x2), (3, .int u36_x3), (4, .int u36_x4), (5, .int u36_x5)]) hx hb d_MM_feed_124 hl (k := 7) rfl (by rw [ex6_124]; rfl) (by decide) rfl (fun ls hl => ?_)
  refine lv_goto (tgt := 36) hx hb d_MM_feed_127 (by decide) ?_
  cases h
  exact h0 rfl _ _ _ hP hS (lv_sub hl [2, 3, 4, 5, 6, 7, 0] rfl)
set_option maxHeartbeats 4000000 in
set_option maxRecDepth 100000 in
theorem f_MM_feed_b36 {E : (Nat → Prop) → State → Heap → Prop} {p : Program} {l : Launch} {e : Env} {s : State} {m : MethodId} {args : Array Value} {below : List Frame} {meth : Method} {c : Code} {D : va_G} {ad kd sd vd xd : Nat → Nat} {ca : Nat → ClassId} {A : Nat → Prop} {Q : State → Prop} (hE : o_EK E kd sd vd xd) (C : o_Cx E p s m args meth c D m_cls (m_tys ca) "SchemaJudgeModel" b_MM_feed (some .int) 8 cc_MM_feed A) (hDD : ∀ (rt : Value) (Mm : SMM) (M0 : SMT) (M1 : SMT), va_D A (m_cw ad ca rt Mm M0 M1)) (n : Nat) (u36_x1 : Int32) (u36_x2 : Int32) (u36_x3 : Int32) (u36_x4 : Int32) (u36_x5 : Int32) (u36_M0 : SMT) (u36_M1 : SMT) (u36_rt : Value) (z : Int32 × SMM) (q : Nat × Int32 × SMM) (h : m_MM_feed_b36 n u36_x1 u36_x2 u36_x3 u36_x4 u36_x5 z = some q) (h0 : q.1 = 0 → o_At p l e rm_MM_feed s m args below meth c Q m_cls D A 8 36 [] (m_cw ad ca u36_rt q.2.2 u36_M0 u36_M1) [(0, .ref (ad 0)), (1, .int u36_x1), (2, .int u36_x2), (3, .int u36_x3), (4, .int u36_x4), (5, .int u36_x5), (6, .int q.2.1)]) (h1 : q.1 ≠ 0 → (o_At p l e rm_MM_feed s m args below meth c Q m_cls D A 8 130 [] (m_cw ad ca u36_rt q.2.2 u36_M0 u36_M1) [(0, .ref (ad 0))])) : o_At p l e rm_MM_feed s m args below meth c Q m_cls D A 8 36 [] (m_cw ad ca u36_rt z.2 u36_M0 u36_M1) [(0, .ref (ad 0)), (1, .int u36_x1), (2, .int u36_x2), (3, .int u36_x3), (4, .int u36_x4), (5, .int u36_x5), (6, .int z.1)] := by
  unfold m_MM_feed_b36 at h
  intro H locs ls hP hS hl
  have C0 := C
  obtain ⟨hx, hb, -, -, -, hown, hts, hK, -, -⟩ := C0
  refine lv_iload hx hb d_MM_feed_36 (lv_at hl 6 rfl) ?_
  refine lv_bipush (v := (20:Int32)) hx hb d_MM_feed_38 (by decide) ?_
  refine lv_icmp_ge (tgt := 130) hx hb d_MM_feed_40 (by decide) (fun c3 => ?_) (fun c3 => ?_)
  · replace h := o_tt c3 h
    cases h
    exact h1 (Nat.succ_ne_zero 0) _ _ _ hP hS (lv_sub hl [0] rfl)
  · replace h := o_ff c3 h
    refine lv_iload hx hb d_MM_feed_43 (lv_at hl 6 rfl) ?_
    refine lv_iconst (v := (4:Int32)) hx hb d_MM_feed_45 (by decide) ?_
    refine lv_icmp_ge (tgt := 53) hx hb d_MM_feed_46 (by decide) (fun c4 => ?_) (fun c4 => ?_)
    · replace h := o_tt c4 h
      refine lv_iload hx hb d_MM_feed_53 (lv_at hl 6 rfl) ?_
      refine lv_bipush (v := (8:Int32)) hx hb d_MM_feed_55 (by decide) ?_
      refine lv_icmp_ge (tgt := 64) hx hb d_MM_feed_57 (by decide) (fun c5 => ?_) (fun c5 => ?_)
      · replace h := o_tt c5 h
        refine lv_iload hx hb d_MM_feed_64 (lv_at hl 6 rfl) ?_
        refine lv_bipush (v := (12:Int32)) hx hb d_MM_feed_66 (by decide) ?_
        refine lv_icmp_ge (tgt := 75) hx hb d_MM_feed_68 (by decide) (fun c6 => ?_) (fun c6 => ?_)
        · replace h := o_tt c6 h
          refine lv_iload hx hb d_MM_feed_75 (lv_at hl 6 rfl) ?_
          refine lv_bipush (v := (16:Int32)) hx hb d_MM_feed_77 (by decide) ?_
          refine lv_icmp_ge (tgt := 87) hx hb d_MM_feed_79 (by decide) (fun c7 => ?_) (fun c7 => ?_)
          · replace h := o_tt c7 h
            refine lv_iload hx hb d_MM_feed_87 (lv_at hl 5 rfl) ?_
            exact f_MM_feed_j89 hE C hDD n u36_x1 u36_x2 u36_x3 u36_x4 u36_x5 u36_M0 u36_M1 u36_rt z.1 u36_x5 z.2 h h0 h1 _ _ _ hP hS (lv_sub hl [0, 1, 2, 3, 4, 5, 6] rfl)
          · replace h := o_ff c7 h
            refine lv_iload hx hb d_MM_feed_82 (lv_at hl 4 rfl) ?_
            refine lv_goto (tgt := 89) hx hb d_MM_feed_84 (by decide) ?_
            exact f_MM_feed_j89 hE C hDD n u36_x1 u36_x2 u36_x3 u36_x4 u36_x5 u36_M0 u36_M1 u36_rt z.1 u36_x4 z.2 h h0 h1 _ _ _ hP hS (lv_sub hl [0, 1, 2, 3, 4, 5, 6] rfl)
        · replace h := o_ff c6 h
          refine lv_iload_n hx hb d_MM_feed_71 rfl (lv_at hl 3 rfl) ?_
          refine lv_goto (tgt := 89) hx hb d_MM_feed_72 (by decide) ?_
          exact f_MM_feed_j89 hE C hDD n u36_x1 u36_x2 u36_x3 u36_x4 u36_x5 u36_M0 u36_M1 u36_rt z.1 u36_x3 z.2 h h0 h1 _ _ _ hP hS (lv_sub hl [0, 1, 2, 3, 4, 5, 6] rfl)
      · replace h := o_ff c5 h
        refine lv_iload_n hx hb d_MM_feed_60 rfl (lv_at hl 2 rfl) ?_
        refine lv_goto (tgt := 89) hx hb d_MM_feed_61 (by decide) ?_
        exact f_MM_feed_j89 hE C hDD n u36_x1 u36_x2 u36_x3 u36_x4 u36_x5 u36_M0 u36_M1 u36_rt z.1 u36_x2 z.2 h h0 h1 _ _ _ hP hS (lv_sub hl [0, 1, 2, 3, 4, 5, 6] rfl)
    · replace h := o_ff c4 h
      refine lv_iload_n hx hb d_MM_feed_49 rfl (lv_at hl 1 rfl) ?_
      refine lv_goto (tgt := 89) hx hb d_MM_feed_50 (by decide) ?_
      exact f_MM_feed_j89 hE C hDD n u36_x1 u36_x2 u36_x3 u36_x4 u36_x5 u36_M0 u36_M1 u36_rt z.1 u36_x1 z.2 h h0 h1 _ _ _ hP hS (lv_sub hl [0, 1, 2, 3, 4, 5, 6] rfl)
set_option maxHeartbeats 4000000 in
set_option maxRecDepth 100000 in
theorem f_MM_feed_j24 {E : (Nat → Prop) → State → Heap → Prop} {p : Program} {l : Launch} {e : Env} {s : State} {m : MethodId} {args : Array Value} {below : List Frame} {meth : Method} {c : Code} {D : va_G} {ad kd sd vd xd : Nat → Nat} {ca : Nat → ClassId} {A : Nat → Prop} (hE : o_EK E kd sd vd xd) (C : o_Cx E p s m args meth c D m_cls (m_tys ca) "SchemaJudgeModel" b_MM_feed (some .int) 8 cc_MM_feed A) (hDD : ∀ (rt : Value) (Mm : SMM) (M0 : SMT) (M1 : SMT), va_D A (m_cw ad ca rt Mm M0 M1)) (n : Nat) (x1 : Int32) (x2 : Int32) (x3 : Int32) (x4 : Int32) (x5 : Int32) (y1 : Int32) (Mm : SMM) (M0 : SMT) (M1 : SMT) (rt : Value) {r : Int32 × SMM} (h : m_MM_feed_j24 n x1 x2 x3 x4 x5 y1 Mm = some r) : o_At p l e rm_MM_feed s m args below meth c (MQ below (o_Qx D m_cls (some (.int r.1)) (m_cw ad ca rt r.2 M0 M1) A) args s 0 0 A) m_cls D A 8 24 [.int y1, .ref (ad 0)] (m_cw ad ca rt Mm M0 M1) [(0, .ref (ad 0)), (1, .int x1), (2, .int x2), (3, .int x3), (4, .int x4), (5, .int x5)] := by
  unfold m_MM_feed_j24 at h
  intro H locs ls hP hS hl
  have C0 := C
  obtain ⟨hx, hb, -, -, -, hown, hts, hK, -, -⟩ := C0
  refine lv_iconst (v := (1:Int32)) hx hb d_MM_feed_24 (by decide) ?_
  obtain ⟨q1, hq1, h⟩ := o_bd_some h
  refine o_V (st1 := [.int q1.1]) (w1 := (m_cw ad ca rt q1.2 M0 M1)) hE.1 C (e_MM_fails hE l y1 (1:Int32) Mm M0 M1 rt hq1) hP (hDD _ _ _ _) hS hl.1 rfl mw_0 k_8_176 k_8_178 k_s_81 k_1_12 k_8_179 hv_MM_fails rfl rfl ⟨(Nat.le_of_ble_eq_true rfl), (Nat.le_of_ble_eq_true rfl)⟩ rfl (Nat.le_of_ble_eq_true rfl) ⟨Nat.zero_le _, Nat.zero_le _⟩ rfl d_MM_feed_25 (fun H locs hP hS => ?_)
  refine lv_if_eq (tgt := 33) hx hb d_MM_feed_28 (by decide) (fun c2 => ?_) (fun c2 => ?_)
  · replace h := o_tt c2 h
    refine lv_iconst (v := (0:Int32)) hx hb d_MM_feed_33 (by decide) ?_
    refine lv_istore (lv' := [(6, .int (0:Int32)), (0, .ref (ad 0)), (1, .int x1), (2, .int x2), (3, .int x3), (4, .int x4), (5, .int x5)]) hx hb d_MM_feed_34 hl (by decide) rfl (fun ls hl => ?_)
    obtain ⟨q2, hq2, h⟩ := o_bd_some h
    refine o_sim2 (AH := fun zz => o_At p l e rm_MM_feed s m args below meth c _ m_cls D A 8 36 [] (m_cw ad ca rt zz.2 M0 M1) [(0, .ref (ad 0)), (1, .int x1), (2, .int x2), (3, .int x3), (4, .int x4), (5, .int x5), (6, .int zz.1)]) (AX := fun qq => o_At p l e rm_MM_feed s m args below meth c _ m_cls D A 8 130 [] (m_cw ad ca rt qq.2.2 M0 M1) [(0, .ref (ad 0))]) (fun zz qq h h0 h1 => f_MM_feed_b36 hE C hDD n x1 x2 x3 x4 x5 M0 M1 rt zz qq h h0 h1) n _ q2 hq2 ?_ _ _ _ hP hS (lv_sub hl [1, 2, 3, 4, 5, 6, 0] rfl)
    intro H locs ls hP hS hl
    refine lv_aload_n hx hb d_MM_feed_130 rfl (lv_at hl 0 rfl) ?_
    refine o_get (v := .int (MM_fed q2.2.2)) C in_MM hP 0 mw_0 rfl 1 (by decide) k_7_231 rfl rfl d_MM_feed_131 ?_
    cases h
    exact o_ri (v := (MM_fed q2.2.2)) C hP hS d_MM_feed_134
  · replace h := o_ff c2 h
    refine lv_iconst (v := (0:Int32)) hx hb d_MM_feed_31 (by decide) ?_
    cases h
    exact o_ri (v := (0:Int32)) C hP hS d_MM_feed_32
set_option maxHeartbeats 4000000 in
set_option maxRecDepth 100000 in
theorem e_MM_feed {E : (Nat → Prop) → State → Heap → Prop} {D : va_G} {ad kd sd vd xd : Nat → Nat} {ca : Nat → ClassId} (hE : o_EK E kd sd vd xd) (l : Launch) (n : Nat) (x1 : Int32) (x2 : Int32) (x3 : Int32) (x4 : Int32) (x5 : Int32) (Mm : SMM) (M0 : SMT) (M1 : SMT) (rt : Value) {r : Int32 × SMM} (h : m_MM_feed n x1 x2 x3 x4 x5 Mm = some r) : o_Cn E l D m_cls (m_tys ca) y_MM_feed cc_MM_feed rm_MM_feed [.ref (ad 0), .int x1, .int x2, .int x3, .int x4, .int x5] (m_cw ad ca rt Mm M0 M1) (m_cw ad ca rt r.2 M0 M1) (some (.int r.1)) := by
  refine o_Cn_of (by decide) (Nat.le_of_ble_eq_true rfl) ?_
  intro p e s m below meth c A ls C hD hP hS hl
  have hDD : ∀ (rt : Value) (Mm : SMM) (M0 : SMT) (M1 : SMT), va_D A (m_cw ad ca rt Mm M0 M1) := fun _ _ _ _ => o_D_map hD rfl
  have hl : lv_has ls 8 [(0, .ref (ad 0)), (1, .int x1), (2, .int x2), (3, .int x3), (4, .int x4), (5, .int x5)] := hl
  unfold m_MM_feed at h
  have C0 := C
  obtain ⟨hx, hb, -, -, -, hown, hts, hK, -, -⟩ := C0
  refine lv_aload_n hx hb d_MM_feed_0 rfl (lv_at hl 0 rfl) ?_
  refine lv_iconst (v := (0:Int32)) hx hb d_MM_feed_1 (by decide) ?_
  refine o_put (v := .int (0:Int32)) (ty := .int) (w1 := (m_cw ad ca rt (MM_mk (0:Int32) (MM_fed Mm) (MM_wrong Mm) (MM_octets Mm) (MM_nodeKind Mm) (MM_nodeA Mm) (MM_nodeB Mm) (MM_nodeC Mm) (MM_nodeNext Mm) (MM_low Mm) (MM_high Mm) (MM_setFrom Mm) (MM_setTo Mm) (MM_setNot Mm) (MM_op Mm) (MM_opA Mm) (MM_opB Mm) (MM_mark Mm) (MM_now Mm) (MM_then Mm) (MM_todo Mm) (MM_nodes Mm) (MM_sets Mm) (MM_ranges Mm) (MM_steps Mm) (MM_pat Mm) (MM_patEnd Mm) (MM_round Mm) (MM_many1 Mm) (MM_broken Mm) (MM_keys Mm) (MM_types Mm) (MM_checked Mm) (MM_faultKind Mm) (MM_faultValue Mm) (MM_latestFault Mm) (MM_anchors Mm) (MM_key Mm) (MM_target Mm) (MM_anchorValue Mm) (MM_anchorSchema Mm) (MM_path Mm) (MM_route Mm) (MM_isSchema Mm) (MM_seen1 Mm) (MM_pathSize Mm) (MM_octetRow Mm) (MM_partRow Mm) (MM_pairValue Mm) (MM_pairKey Mm) (MM_pairs Mm) (MM_judged Mm) (MM_deepest Mm) (MM_depth Mm) (MM_over Mm) (MM_seen Mm)) M0 M1)) C in_MM t_MM t_MM_ok n_MM hP (hDD _ _ _ _) hS 0 mw_0 rfl 0 (by decide) k_7_230 rfl rfl (by decide +kernel) rfl rfl (Nat.le_of_ble_eq_true rfl) rfl d_MM_feed_2 (fun H locs hP hS => ?_)
  refine lv_aload_n hx hb d_MM_feed_5 rfl (lv_at hl 0 rfl) ?_
  refine lv_aload_n hx hb d_MM_feed_6 rfl (lv_at hl 0 rfl) ?_
  refine o_get (v := .int (MM_fed Mm)) C in_MM hP 0 mw_0 rfl 1 (by decide) k_7_231 rfl rfl d_MM_feed_7 ?_
  refine lv_bipush (v := (20:Int32)) hx hb d_MM_feed_10 (by decide) ?_
  refine lv_iadd hx hb d_MM_feed_12 ?_
  refine lv_sipush (v := (8200:Int32)) hx hb d_MM_feed_13 (by decide) ?_
  refine lv_icmp_le (tgt := 23) hx hb d_MM_feed_16 (by decide) (fun c1 => ?_) (fun c1 => ?_)
  · replace h := o_tt c1 h
    refine lv_iconst (v := (0:Int32)) hx hb d_MM_feed_23 (by decide) ?_
    exact f_MM_feed_j24 hE C hDD n x1 x2 x3 x4 x5 (0:Int32) (MM_mk (0:Int32) (MM_fed Mm) (MM_wrong Mm) (MM_octets Mm) (MM_nodeKind Mm) (MM_nodeA Mm) (MM_nodeB Mm) (MM_nodeC Mm) (MM_nodeNext Mm) (MM_low Mm) (MM_high Mm) (MM_setFrom Mm) (MM_setTo Mm) (MM_setNot Mm) (MM_op Mm) (MM_opA Mm) (MM_opB Mm) (MM_mark Mm) (MM_now Mm) (MM_then Mm) (MM_todo Mm) (MM_nodes Mm) (MM_sets Mm) (MM_ranges Mm) (MM_steps Mm) (MM_pat Mm) (MM_patEnd Mm) (MM_round Mm) (MM_many1 Mm) (MM_broken Mm) (MM_keys Mm) (MM_types Mm) (MM_checked Mm) (MM_faultKind Mm) (MM_faultValue Mm) (MM_latestFault Mm) (MM_anchors Mm) (MM_key Mm) (MM_target Mm) (MM_anchorValue Mm) (MM_anchorSchema Mm) (MM_path Mm) (MM_route Mm) (MM_isSchema Mm) (MM_seen1 Mm) (MM_pathSize Mm) (MM_octetRow Mm) (MM_partRow Mm) (MM_pairValue Mm) (MM_pairKey Mm) (MM_pairs Mm) (MM_judged Mm) (MM_deepest Mm) (MM_depth Mm) (MM_over Mm) (MM_seen Mm)) M0 M1 rt h _ _ _ hP hS (lv_sub hl [0, 1, 2, 3, 4, 5] rfl)
  · replace h := o_ff c1 h
    refine lv_iconst (v := (1:Int32)) hx hb d_MM_feed_19 (by decide) ?_
    refine lv_goto (tgt := 24) hx hb d_MM_feed_20 (by decide) ?_
    exact f_MM_feed_j24 hE C hDD n x1 x2 x3 x4 x5 (1:Int32) (MM_mk (0:Int32) (MM_fed Mm) (MM_wrong Mm) (MM_octets Mm) (MM_nodeKind Mm) (MM_nodeA Mm) (MM_nodeB Mm) (MM_nodeC Mm) (MM_nodeNext Mm) (MM_low Mm) (MM_high Mm) (MM_setFrom Mm) (MM_setTo Mm) (MM_setNot Mm) (MM_op Mm) (MM_opA Mm) (MM_opB Mm) (MM_mark Mm) (MM_now Mm) (MM_then Mm) (MM_todo Mm) (MM_nodes Mm) (MM_sets Mm) (MM_ranges Mm) (MM_steps Mm) (MM_pat Mm) (MM_patEnd Mm) (MM_round Mm) (MM_many1 Mm) (MM_broken Mm) (MM_keys Mm) (MM_types Mm) (MM_checked Mm) (MM_faultKind Mm) (MM_faultValue Mm) (MM_latestFault Mm) (MM_anchors Mm) (MM_key Mm) (MM_target Mm) (MM_anchorValue Mm) (MM_anchorSchema Mm) (MM_path Mm) (MM_route Mm) (MM_isSchema Mm) (MM_seen1 Mm) (MM_pathSize Mm) (MM_octetRow Mm) (MM_partRow Mm) (MM_pairValue Mm) (MM_pairKey Mm) (MM_pairs Mm) (MM_judged Mm) (MM_deepest Mm) (MM_depth Mm) (MM_over Mm) (MM_seen Mm)) M0 M1 rt h _ _ _ hP hS (lv_sub hl [0, 1, 2, 3, 4, 5] rfl)
set_option maxHeartbeats 4000000 in
set_option maxRecDepth 100000 in
theorem e_MT_c_0 {E : (Nat → Prop) → State → Heap → Prop} {D : va_G} {ad kd sd vd xd : Nat → Nat} {ca : Nat → ClassId} (hE : o_EK E kd sd vd xd) (l : Launch) (x1 : Int32) (a0 : SMT) (Mm : SMM) (M1 : SMT) (rt : Value) {r : Int32} (h : m_MT_c x1 a0 = some r) : o_Cn E l D m_cls (m_tys ca) y_MT_c cc_MT_c rm_MT_c [.ref (ad 33), .int x1] (m_cw ad ca rt Mm a0 M1) (m_cw ad ca rt Mm a0 M1) (some (.int r)) := by
  refine o_Cn_of (by decide) (Nat.le_of_ble_eq_true rfl) ?_
  intro p e s m below meth c A ls C hD hP hS hl
  have hDD : ∀ (rt : Value) (Mm : SMM) (M0 : SMT) (M1 : SMT), va_D A (m_cw ad ca rt Mm M0 M1) := fun _ _ _ _ => o_D_map hD rfl
  have hl : lv_has ls 2 [(0, .ref (ad 33)), (1, .int x1)] := hl
  unfold m_MT_c at h
  have C0 := C
  obtain ⟨hx, hb, -, -, -, hown, hts, hK, -, -⟩ := C0
  refine lv_iload_n hx hb d_MT_c_0 rfl (lv_at hl 1 rfl) ?_
  refine lv_aload_n hx hb d_MT_c_1 rfl (lv_at hl 0 rfl) ?_
  refine o_get (v := .int (MT_letters a0)) C in_MT hP 33 mw_33 rfl 14 (by decide) k_7_128 rfl rfl d_MT_c_2 ?_
  refine lv_icmp_ge (tgt := 17) hx hb d_MT_c_5 (by decide) (fun c1 => ?_) (fun c1 => ?_)
  · replace h := o_tt c1 h
    refine lv_iconst (v := (-1:Int32)) hx hb d_MT_c_17 (by decide) ?_
    cases h
    exact o_ri (v := (-1:Int32)) C hP hS d_MT_c_18
  · replace h := o_ff c1 h
    refine lv_aload_n hx hb d_MT_c_8 rfl (lv_at hl 0 rfl) ?_
    refine o_get (v := .ref (ad 34)) C in_MT hP 33 mw_33 rfl 0 (by decide) k_7_100 rfl rfl d_MT_c_9 ?_
    refine lv_iload_n hx hb d_MT_c_12 rfl (lv_at hl 1 rfl) ?_
    obtain ⟨g2, h⟩ := o_gd_some h
    refine o_iald (f := (MT_text a0)) C hP 34 32 mw_34 rfl g2 d_MT_c_13 ?_
    refine lv_goto (tgt := 18) hx hb d_MT_c_14 (by decide) ?_
    cases h
    exact o_ri (v := ((MT_text a0) x1.toNatClampNeg)) C hP hS d_MT_c_18
set_option maxHeartbeats 4000000 in
set_option maxRecDepth 100000 in
theorem e_MT_c_1 {E : (Nat → Prop) → State → Heap → Prop} {D : va_G} {ad kd sd vd xd : Nat → Nat} {ca : Nat → ClassId} (hE : o_EK E kd sd vd xd) (l : Launch) (x1 : Int32) (a0 : SMT) (Mm : SMM) (M0 : SMT) (rt : Value) {r : Int32} (h : m_MT_c x1 a0 = some r) : o_Cn E l D m_cls (m_tys ca) y_MT_c cc_MT_c rm_MT_c [.ref (ad 48), .int x1] (m_cw ad ca rt Mm M0 a0) (m_cw ad ca rt Mm M0 a0) (some (.int r)) := by
  refine o_Cn_of (by decide) (Nat.le_of_ble_eq_true rfl) ?_
  intro p e s m below meth c A ls C hD hP hS hl
  have hDD : ∀ (rt : Value) (Mm : SMM) (M0 : SMT) (M1 : SMT), va_D A (m_cw ad ca rt Mm M0 M1) := fun _ _ _ _ => o_D_map hD rfl
  have hl : lv_has ls 2 [(0, .ref (ad 48)), (1, .int x1)] := hl
  unfold m_MT_c at h
  have C0 := C
  obtain ⟨hx, hb, -, -, -, hown, hts, hK, -, -⟩ := C0
  refine lv_iload_n hx hb d_MT_c_0 rfl (lv_at hl 1 rfl) ?_
  refine lv_aload_n hx hb d_MT_c_1 rfl (lv_at hl 0 rfl) ?_
  refine o_get (v := .int (MT_letters a0)) C in_MT hP 48 mw_48 rfl 14 (by decide) k_7_128 rfl rfl d_MT_c_2 ?_
  refine lv_icmp_ge (tgt := 17) hx hb d_MT_c_5 (by decide) (fun c1 => ?_) (fun c1 => ?_)
  · replace h := o_tt c1 h
    refine lv_iconst (v := (-1:Int32)) hx hb d_MT_c_17 (by decide) ?_
    cases h
    exact o_ri (v := (-1:Int32)) C hP hS d_MT_c_18
  · replace h := o_ff c1 h
    refine lv_aload_n hx hb d_MT_c_8 rfl (lv_at hl 0 rfl) ?_
    refine o_get (v := .ref (ad 49)) C in_MT hP 48 mw_48 rfl 0 (by decide) k_7_100 rfl rfl d_MT_c_9 ?_
    refine lv_iload_n hx hb d_MT_c_12 rfl (lv_at hl 1 rfl) ?_
    obtain ⟨g2, h⟩ := o_gd_some h
    refine o_iald (f := (MT_text a0)) C hP 49 46 mw_49 rfl g2 d_MT_c_13 ?_
    refine lv_goto (tgt := 18) hx hb d_MT_c_14 (by decide) ?_
    cases h
    exact o_ri (v := ((MT_text a0) x1.toNatClampNeg)) C hP hS d_MT_c_18
set_option maxHeartbeats 4000000 in
set_option maxRecDepth 100000 in
theorem f_MT_blanks_j52_0 {E : (Nat → Prop) → State → Heap → Prop} {p : Program} {l : Launch} {e : Env} {s : State} {m : MethodId} {args : Array Value} {below : List Frame} {meth : Method} {c : Code} {D : va_G} {ad kd sd vd xd : Nat → Nat} {ca : Nat → ClassId} {A : Nat → Prop} {Q : State → Prop} (hE : o_EK E kd sd vd xd) (C : o_Cx E p s m args meth c D m_cls (m_tys ca) "SchemaJudgeModel$Text" b_MT_blanks none 1 cc_MT_blanks A) (hDD : ∀ (rt : Value) (Mm : SMM) (M0 : SMT) (M1 : SMT), va_D A (m_cw ad ca rt Mm M0 M1)) (n : Nat) (u0_Mm : SMM) (u0_M1 : SMT) (u0_rt : Value)  (a0 : SMT) {q : Nat × SMT} (h : m_MT_blanks_j52 n a0 = some q) (h0 : q.1 = 0 → o_At p l e rm_MT_blanks s m args below meth c Q m_cls D A 1 0 [] (m_cw ad ca u0_rt u0_Mm q.2 u0_M1) [(0, .ref (ad 33))]) (h1 : q.1 ≠ 0 → (o_At p l e rm_MT_blanks s m args below meth c Q m_cls D A 1 65 [] (m_cw ad ca u0_rt u0_Mm q.2 u0_M1) [])) : o_At p l e rm_MT_blanks s m args below meth c Q m_cls D A 1 52 [] (m_cw ad ca u0_rt u0_Mm a0 u0_M1) [(0, .ref (ad 33))] := by
  unfold m_MT_blanks_j52 at h
  intro H locs ls hP hS hl
  have C0 := C
  obtain ⟨hx, hb, -, -, -, hown, hts, hK, -, -⟩ := C0
  refine lv_aload_n hx hb d_MT_blanks_52 rfl (lv_at hl 0 rfl) ?_
  refine lv_dup hx hb d_MT_blanks_53 rfl ?_
  refine o_get (v := .int (MT_at a0)) C in_MT hP 33 mw_33 rfl 15 (by decide) k_7_129 rfl rfl d_MT_blanks_54 ?_
  refine lv_iconst (v := (1:Int32)) hx hb d_MT_blanks_57 (by decide) ?_
  refine lv_iadd hx hb d_MT_blanks_58 ?_
  refine o_put (v := .int ((MT_at a0) + (1:Int32))) (ty := .int) (w1 := (m_cw ad ca u0_rt u0_Mm (MT_mk (MT_text a0) (MT_kind a0) (MT_place a0) (MT_many a0) (MT_parent a0) (MT_power a0) (MT_first a0) (MT_next a0) (MT_name a0) (MT_from a0) (MT_characters a0) (MT_digits a0) (MT_minus a0) (MT_values a0) (MT_letters a0) ((MT_at a0) + (1:Int32)) (MT_wrong a0) (MT_used a0) (MT_written a0) (MT_left a0)) u0_M1)) C in_MT t_MT t_MT_ok n_MT hP (hDD _ _ _ _) hS 33 mw_33 rfl 15 (by decide) k_7_129 rfl rfl (by decide +kernel) rfl rfl (Nat.le_of_ble_eq_true rfl) rfl d_MT_blanks_59 (fun H locs hP hS => ?_)
  refine lv_goto (tgt := 0) hx hb d_MT_blanks_62 (by decide) ?_
  cases h
  exact h0 rfl _ _ _ hP hS (lv_sub hl [0] rfl)
set_option maxHeartbeats 4000000 in
set_option maxRecDepth 100000 in
theorem f_MT_blanks_b0_0 {E : (Nat → Prop) → State → Heap → Prop} {p : Program} {l : Launch} {e : Env} {s : State} {m : MethodId} {args : Array Value} {below : List Frame} {meth : Method} {c : Code} {D : va_G} {ad kd sd vd xd : Nat → Nat} {ca : Nat → ClassId} {A : Nat → Prop} {Q : State → Prop} (hE : o_EK E kd sd vd xd) (C : o_Cx E p s m args meth c D m_cls (m_tys ca) "SchemaJudgeModel$Text" b_MT_blanks none 1 cc_MT_blanks A) (hDD : ∀ (rt : Value) (Mm : SMM) (M0 : SMT) (M1 : SMT), va_D A (m_cw ad ca rt Mm M0 M1)) (n : Nat) (u0_Mm : SMM) (u0_M1 : SMT) (u0_rt : Value) (z : SMT) (q : Nat × SMT) (h : m_MT_blanks_b0 n z = some q) (h0 : q.1 = 0 → o_At p l e rm_MT_blanks s m args below meth c Q m_cls D A 1 0 [] (m_cw ad ca u0_rt u0_Mm q.2 u0_M1) [(0, .ref (ad 33))]) (h1 : q.1 ≠ 0 → (o_At p l e rm_MT_blanks s m args below meth c Q m_cls D A 1 65 [] (m_cw ad ca u0_rt u0_Mm q.2 u0_M1) [])) : o_At p l e rm_MT_blanks s m args below meth c Q m_cls D A 1 0 [] (m_cw ad ca u0_rt u0_Mm z u0_M1) [(0, .ref (ad 33))] := by
  unfold m_MT_blanks_b0 at h
  intro H locs ls hP hS hl
  have C0 := C
  obtain ⟨hx, hb, -, -, -, hown, hts, hK, -, -⟩ := C0
  refine lv_aload_n hx hb d_MT_blanks_0 rfl (lv_at hl 0 rfl) ?_
  refine lv_aload_n hx hb d_MT_blanks_1 rfl (lv_at hl 0 rfl) ?_
  refine o_get (v := .int (MT_at z)) C in_MT hP 33 mw_33 rfl 15 (by decide) k_7_129 rfl rfl d_MT_blanks_2 ?_
  obtain ⟨q1, hq1, h⟩ := o_bd_some h
  refine o_V (st1 := [.int q1]) (w1 := (m_cw ad ca u0_rt u0_Mm z u0_M1)) hE.1 C (e_MT_c_0 hE l (MT_at z) z u0_Mm u0_M1 u0_rt hq1) hP (hDD _ _ _ _) hS hl.1 rfl mw_33 k_8_192 k_8_193 k_8_194 k_1_13 k_8_195 hv_MT_c rfl rfl ⟨(Nat.le_of_ble_eq_true rfl), (Nat.le_of_ble_eq_true rfl)⟩ rfl (Nat.le_of_ble_eq_true rfl) ⟨Nat.zero_le _, Nat.zero_le _⟩ rfl d_MT_blanks_5 (fun H locs hP hS => ?_)
  refine lv_bipush (v := (32:Int32)) hx hb d_MT_blanks_8 (by decide) ?_
  refine lv_icmp_eq (tgt := 52) hx hb d_MT_blanks_10 (by decide) (fun c1 => ?_) (fun c1 => ?_)
  · replace h := o_tt c1 h
    exact f_MT_blanks_j52_0 hE C hDD n u0_Mm u0_M1 u0_rt z h h0 h1 _ _ _ hP hS (lv_sub hl [0] rfl)
  · replace h := o_ff c1 h
    refine lv_aload_n hx hb d_MT_blanks_13 rfl (lv_at hl 0 rfl) ?_
    refine lv_aload_n hx hb d_MT_blanks_14 rfl (lv_at hl 0 rfl) ?_
    refine o_get (v := .int (MT_at z)) C in_MT hP 33 mw_33 rfl 15 (by decide) k_7_129 rfl rfl d_MT_blanks_15 ?_
    obtain ⟨q2, hq2, h⟩ := o_bd_some h
    refine o_V (st1 := [.int q2]) (w1 := (m_cw ad ca u0_rt u0_Mm z u0_M1)) hE.1 C (e_MT_c_0 hE l (MT_at z) z u0_Mm u0_M1 u0_rt hq2) hP (hDD _ _ _ _) hS hl.1 rfl mw_33 k_8_192 k_8_193 k_8_194 k_1_13 k_8_195 hv_MT_c rfl rfl ⟨(Nat.le_of_ble_eq_true rfl), (Nat.le_of_ble_eq_true rfl)⟩ rfl (Nat.le_of_ble_eq_true rfl) ⟨Nat.zero_le _, Nat.zero_le _⟩ rfl d_MT_blanks_18 (fun H locs hP hS => ?_)
    refine lv_bipush (v := (9:Int32)) hx hb d_MT_blanks_21 (by decide) ?_
    refine lv_icmp_eq (tgt := 52) hx hb d_MT_blanks_23 (by decide) (fun c2 => ?_) (fun c2 => ?_)
    · replace h := o_tt c2 h
      exact f_MT_blanks_j52_0 hE C hDD n u0_Mm u0_M1 u0_rt z h h0 h1 _ _ _ hP hS (lv_sub hl [0] rfl)
    · replace h := o_ff c2 h
      refine lv_aload_n hx hb d_MT_blanks_26 rfl (lv_at hl 0 rfl) ?_
      refine lv_aload_n hx hb d_MT_blanks_27 rfl (lv_at hl 0 rfl) ?_
      refine o_get (v := .int (MT_at z)) C in_MT hP 33 mw_33 rfl 15 (by decide) k_7_129 rfl rfl d_MT_blanks_28 ?_
      obtain ⟨q3, hq3, h⟩ := o_bd_some h
      refine o_V (st1 := [.int q3]) (w1 := (m_cw ad ca u0_rt u0_Mm z u0_M1)) hE.1 C (e_MT_c_0 hE l (MT_at z) z u0_Mm u0_M1 u0_rt hq3) hP (hDD _ _ _ _) hS hl.1 rfl mw_33 k_8_192 k_8_193 k_8_194 k_1_13 k_8_195 hv_MT_c rfl rfl ⟨(Nat.le_of_ble_eq_true rfl), (Nat.le_of_ble_eq_true rfl)⟩ rfl (Nat.le_of_ble_eq_true rfl) ⟨Nat.zero_le _, Nat.zero_le _⟩ rfl d_MT_blanks_31 (fun H locs hP hS => ?_)
      refine lv_bipush (v := (10:Int32)) hx hb d_MT_blanks_34 (by decide) ?_
      refine lv_icmp_eq (tgt := 52) hx hb d_MT_blanks_36 (by decide) (fun c3 => ?_) (fun c3 => ?_)
      · replace h := o_tt c3 h
        exact f_MT_blanks_j52_0 hE C hDD n u0_Mm u0_M1 u0_rt z h h0 h1 _ _ _ hP hS (lv_sub hl [0] rfl)
      · replace h := o_ff c3 h
        refine lv_aload_n hx hb d_MT_blanks_39 rfl (lv_at hl 0 rfl) ?_
        refine lv_aload_n hx hb d_MT_blanks_40 rfl (lv_at hl 0 rfl) ?_
        refine o_get (v := .int (MT_at z)) C in_MT hP 33 mw_33 rfl 15 (by decide) k_7_129 rfl rfl d_MT_blanks_41 ?_
        obtain ⟨q4, hq4, h⟩ := o_bd_some h
        refine o_V (st1 := [.int q4]) (w1 := (m_cw ad ca u0_rt u0_Mm z u0_M1)) hE.1 C (e_MT_c_0 hE l (MT_at z) z u0_Mm u0_M1 u0_rt hq4) hP (hDD _ _ _ _) hS hl.1 rfl mw_33 k_8_192 k_8_193 k_8_194 k_1_13 k_8_195 hv_MT_c rfl rfl ⟨(Nat.le_of_ble_eq_true rfl), (Nat.le_of_ble_eq_true rfl)⟩ rfl (Nat.le_of_ble_eq_true rfl) ⟨Nat.zero_le _, Nat.zero_le _⟩ rfl d_MT_blanks_44 (fun H locs hP hS => ?_)
        refine lv_bipush (v := (13:Int32)) hx hb d_MT_blanks_47 (by decide) ?_
        refine lv_icmp_ne (tgt := 65) hx hb d_MT_blanks_49 (by decide) (fun c4 => ?_) (fun c4 => ?_)
        · replace h := o_ff c4 h
          cases h
          exact h1 (Nat.succ_ne_zero 0) _ _ _ hP hS (lv_sub hl [] rfl)
        · replace h := o_tt c4 h
          exact f_MT_blanks_j52_0 hE C hDD n u0_Mm u0_M1 u0_rt z h h0 h1 _ _ _ hP hS (lv_sub hl [0] rfl)
set_option maxHeartbeats 4000000 in
set_option maxRecDepth 100000 in
theorem e_MT_blanks_0 {E : (Nat → Prop) → State → Heap → Prop} {D : va_G} {ad kd sd vd xd : Nat → Nat} {ca : Nat → ClassId} (hE : o_EK E kd sd vd xd) (l : Launch) (n : Nat)  (a0 : SMT) (Mm : SMM) (M1 : SMT) (rt : Value) {r : SMT} (h : m_MT_blanks n a0 = some r) : o_Cn E l D m_cls (m_tys ca) y_MT_blanks cc_MT_blanks rm_MT_blanks [.ref (ad 33)] (m_cw ad ca rt Mm a0 M1) (m_cw ad ca rt Mm r M1) none := by
  refine o_Cn_of (by decide) (Nat.le_of_ble_eq_true rfl) ?_
  intro p e s m below meth c A ls C hD hP hS hl
  have hDD : ∀ (rt : Value) (Mm : SMM) (M0 : SMT) (M1 : SMT), va_D A (m_cw ad ca rt Mm M0 M1) := fun _ _ _ _ => o_D_map hD rfl
  have hl : lv_has ls 1 [(0, .ref (ad 33))] := hl
  unfold m_MT_blanks at h
  have C0 := C
  obtain ⟨hx, hb, -, -, -, hown, hts, hK, -, -⟩ := C0
  obtain ⟨q5, hq5, h⟩ := o_bd_some h
  refine o_sim2 (AH := fun zz => o_At p l e rm_MT_blanks s m _ below meth c _ m_cls D A 1 0 [] (m_cw ad ca rt Mm zz M1) [(0, .ref (ad 33))]) (AX := fun qq => o_At p l e rm_MT_blanks s m _ below meth c _ m_cls D A 1 65 [] (m_cw ad ca rt Mm qq.2 M1) []) (fun zz qq h h0 h1 => f_MT_blanks_b0_0 hE C hDD n Mm M1 rt zz qq h h0 h1) n _ q5 hq5 ?_ _ _ _ hP hS (lv_sub hl [0] rfl)
  intro H locs ls hP hS hl
  cases h
  exact o_rv C hP hS d_MT_blanks_65
set_option maxHeartbeats 4000000 in
set_option maxRecDepth 100000 in
theorem f_MT_blanks_j52_1 {E : (Nat → Prop) → State → Heap → Prop} {p : Program} {l : Launch} {e : Env} {s : State} {m : MethodId} {args : Array Value} {below : List Frame} {meth : Method} {c : Code} {D : va_G} {ad kd sd vd xd : Nat → Nat} {ca : Nat → ClassId} {A : Nat → Prop} {Q : State → Prop} (hE : o_EK E kd sd vd xd) (C : o_Cx E p s m args meth c D m_cls (m_tys ca) "SchemaJudgeModel$Text" b_MT_blanks none 1 cc_MT_blanks A) (hDD : ∀ (rt : Value) (Mm : SMM) (M0 : SMT) (M1 : SMT), va_D A (m_cw ad ca rt Mm M0 M1)) (n : Nat) (u0_Mm : SMM) (u0_M0 : SMT) (u0_rt : Value)  (a0 : SMT) {q : Nat × SMT} (h : m_MT_blanks_j52 n a0 = some q) (h0 : q.1 = 0 → o_At p l e rm_MT_blanks s m args below meth c Q m_cls D A 1 0 [] (m_cw ad ca u0_rt u0_Mm u0_M0 q.2) [(0, .ref (ad 48))]) (h1 : q.1 ≠ 0 → (o_At p l e rm_MT_blanks s m args below meth c Q m_cls D A 1 65 [] (m_cw ad ca u0_rt u0_Mm u0_M0 q.2) [])) : o_At p l e rm_MT_blanks s m args below meth c Q m_cls D A 1 52 [] (m_cw ad ca u0_rt u0_Mm u0_M0 a0) [(0, .ref (ad 48))] := by
  unfold m_MT_blanks_j52 at h
  intro H locs ls hP hS hl
  have C0 := C
  obtain ⟨hx, hb, -, -, -, hown, hts, hK, -, -⟩ := C0
  refine lv_aload_n hx hb d_MT_blanks_52 rfl (lv_at hl 0 rfl) ?_
  refine lv_dup hx hb d_MT_blanks_53 rfl ?_
  refine o_get (v := .int (MT_at a0)) C in_MT hP 48 mw_48 rfl 15 (by decide) k_7_129 rfl rfl d_MT_blanks_54 ?_
  refine lv_iconst (v := (1:Int32)) hx hb d_MT_blanks_57 (by decide) ?_
  refine lv_iadd hx hb d_MT_blanks_58 ?_
  refine o_put (v := .int ((MT_at a0) + (1:Int32))) (ty := .int) (w1 := (m_cw ad ca u0_rt u0_Mm u0_M0 (MT_mk (MT_text a0) (MT_kind a0) (MT_place a0) (MT_many a0) (MT_parent a0) (MT_power a0) (MT_first a0) (MT_next a0) (MT_name a0) (MT_from a0) (MT_characters a0) (MT_digits a0) (MT_minus a0) (MT_values a0) (MT_letters a0) ((MT_at a0) + (1:Int32)) (MT_wrong a0) (MT_used a0) (MT_written a0) (MT_left a0)))) C in_MT t_MT t_MT_ok n_MT hP (hDD _ _ _ _) hS 48 mw_48 rfl 15 (by decide) k_7_129 rfl rfl (by decide +kernel) rfl rfl (Nat.le_of_ble_eq_true rfl) rfl d_MT_blanks_59 (fun H locs hP hS => ?_)
  refine lv_goto (tgt := 0) hx hb d_MT_blanks_62 (by decide) ?_
  cases h
  exact h0 rfl _ _ _ hP hS (lv_sub hl [0] rfl)
set_option maxHeartbeats 4000000 in
set_option maxRecDepth 100000 in
theorem f_MT_blanks_b0_1 {E : (Nat → Prop) → State → Heap → Prop} {p : Program} {l : Launch} {e : Env} {s : State} {m : MethodId} {args : Array Value} {below : List Frame} {meth : Method} {c : Code} {D : va_G} {ad kd sd vd xd : Nat → Nat} {ca : Nat → ClassId} {A : Nat → Prop} {Q : State → Prop} (hE : o_EK E kd sd vd xd) (C : o_Cx E p s m args meth c D m_cls (m_tys ca) "SchemaJudgeModel$Text" b_MT_blanks none 1 cc_MT_blanks A) (hDD : ∀ (rt : Value) (Mm : SMM) (M0 : SMT) (M1 : SMT), va_D A (m_cw ad ca rt Mm M0 M1)) (n : Nat) (u0_Mm : SMM) (u0_M0 : SMT) (u0_rt : Value) (z : SMT) (q : Nat × SMT) (h : m_MT_blanks_b0 n z = some q) (h0 : q.1 = 0 → o_At p l e rm_MT_blanks s m args below meth c Q m_cls D A 1 0 [] (m_cw ad ca u0_rt u0_Mm u0_M0 q.2) [(0, .ref (ad 48))]) (h1 : q.1 ≠ 0 → (o_At p l e rm_MT_blanks s m args below meth c Q m_cls D A 1 65 [] (m_cw ad ca u0_rt u0_Mm u0_M0 q.2) [])) : o_At p l e rm_MT_blanks s m args below meth c Q m_cls D A 1 0 [] (m_cw ad ca u0_rt u0_Mm u0_M0 z) [(0, .ref (ad 48))] := by
  unfold m_MT_blanks_b0 at h
  intro H locs ls hP hS hl
  have C0 := C
  obtain ⟨hx, hb, -, -, -, hown, hts, hK, -, -⟩ := C0
  refine lv_aload_n hx hb d_MT_blanks_0 rfl (lv_at hl 0 rfl) ?_
  refine lv_aload_n hx hb d_MT_blanks_1 rfl (lv_at hl 0 rfl) ?_
  refine o_get (v := .int (MT_at z)) C in_MT hP 48 mw_48 rfl 15 (by decide) k_7_129 rfl rfl d_MT_blanks_2 ?_
  obtain ⟨q1, hq1, h⟩ := o_bd_some h
  refine o_V (st1 := [.int q1]) (w1 := (m_cw ad ca u0_rt u0_Mm u0_M0 z)) hE.1 C (e_MT_c_1 hE l (MT_at z) z u0_Mm u0_M0 u0_rt hq1) hP (hDD _ _ _ _) hS hl.1 rfl mw_48 k_8_192 k_8_193 k_8_194 k_1_13 k_8_195 hv_MT_c rfl rfl ⟨(Nat.le_of_ble_eq_true rfl), (Nat.le_of_ble_eq_true rfl)⟩ rfl (Nat.le_of_ble_eq_true rfl) ⟨Nat.zero_le _, Nat.zero_le _⟩ rfl d_MT_blanks_5 (fun H locs hP hS => ?_)
  refine lv_bipush (v := (32:Int32)) hx hb d_MT_blanks_8 (by decide) ?_
  refine lv_icmp_eq (tgt := 52) hx hb d_MT_blanks_10 (by decide) (fun c1 => ?_) (fun c1 => ?_)
  · replace h := o_tt c1 h
    exact f_MT_blanks_j52_1 hE C hDD n u0_Mm u0_M0 u0_rt z h h0 h1 _ _ _ hP hS (lv_sub hl [0] rfl)
  · replace h := o_ff c1 h
    refine lv_aload_n hx hb d_MT_blanks_13 rfl (lv_at hl 0 rfl) ?_
    refine lv_aload_n hx hb d_MT_blanks_14 rfl (lv_at hl 0 rfl) ?_
    refine o_get (v := .int (MT_at z)) C in_MT hP 48 mw_48 rfl 15 (by decide) k_7_129 rfl rfl d_MT_blanks_15 ?_
    obtain ⟨q2, hq2, h⟩ := o_bd_some h
    refine o_V (st1 := [.int q2]) (w1 := (m_cw ad ca u0_rt u0_Mm u0_M0 z)) hE.1 C (e_MT_c_1 hE l (MT_at z) z u0_Mm u0_M0 u0_rt hq2) hP (hDD _ _ _ _) hS hl.1 rfl mw_48 k_8_192 k_8_193 k_8_194 k_1_13 k_8_195 hv_MT_c rfl rfl ⟨(Nat.le_of_ble_eq_true rfl), (Nat.le_of_ble_eq_true rfl)⟩ rfl (Nat.le_of_ble_eq_true rfl) ⟨Nat.zero_le _, Nat.zero_le _⟩ rfl d_MT_blanks_18 (fun H locs hP hS => ?_)
    refine lv_bipush (v := (9:Int32)) hx hb d_MT_blanks_21 (by decide) ?_
    refine lv_icmp_eq (tgt := 52) hx hb d_MT_blanks_23 (by decide) (fun c2 => ?_) (fun c2 => ?_)
    · replace h := o_tt c2 h
      exact f_MT_blanks_j52_1 hE C hDD n u0_Mm u0_M0 u0_rt z h h0 h1 _ _ _ hP hS (lv_sub hl [0] rfl)
    · replace h := o_ff c2 h
      refine lv_aload_n hx hb d_MT_blanks_26 rfl (lv_at hl 0 rfl) ?_
      refine lv_aload_n hx hb d_MT_blanks_27 rfl (lv_at hl 0 rfl) ?_
      refine o_get (v := .int (MT_at z)) C in_MT hP 48 mw_48 rfl 15 (by decide) k_7_129 rfl rfl d_MT_blanks_28 ?_
      obtain ⟨q3, hq3, h⟩ := o_bd_some h
      refine o_V (st1 := [.int q3]) (w1 := (m_cw ad ca u0_rt u0_Mm u0_M0 z)) hE.1 C (e_MT_c_1 hE l (MT_at z) z u0_Mm u0_M0 u0_rt hq3) hP (hDD _ _ _ _) hS hl.1 rfl mw_48 k_8_192 k_8_193 k_8_194 k_1_13 k_8_195 hv_MT_c rfl rfl ⟨(Nat.le_of_ble_eq_true rfl), (Nat.le_of_ble_eq_true rfl)⟩ rfl (Nat.le_of_ble_eq_true rfl) ⟨Nat.zero_le _, Nat.zero_le _⟩ rfl d_MT_blanks_31 (fun H locs hP hS => ?_)
      refine lv_bipush (v := (10:Int32)) hx hb d_MT_blanks_34 (by decide) ?_
      refine lv_icmp_eq (tgt := 52) hx hb d_MT_blanks_36 (by decide) (fun c3 => ?_) (fun c3 => ?_)
      · replace h := o_tt c3 h
        exact f_MT_blanks_j52_1 hE C hDD n u0_Mm u0_M0 u0_rt z h h0 h1 _ _ _ hP hS (lv_sub hl [0] rfl)
      · replace h := o_ff c3 h
        refine lv_aload_n hx hb d_MT_blanks_39 rfl (lv_at hl 0 rfl) ?_
        refine lv_aload_n hx hb d_MT_blanks_40 rfl (lv_at hl 0 rfl) ?_
        refine o_get (v := .int (MT_at z)) C in_MT hP 48 mw_48 rfl 15 (by decide) k_7_129 rfl rfl d_MT_blanks_41 ?_
        obtain ⟨q4, hq4, h⟩ := o_bd_some h
        refine o_V (st1 := [.int q4]) (w1 := (m_cw ad ca u0_rt u0_Mm u0_M0 z)) hE.1 C (e_MT_c_1 hE l (MT_at z) z u0_Mm u0_M0 u0_rt hq4) hP (hDD _ _ _ _) hS hl.1 rfl mw_48 k_8_192 k_8_193 k_8_194 k_1_13 k_8_195 hv_MT_c rfl rfl ⟨(Nat.le_of_ble_eq_true rfl), (Nat.le_of_ble_eq_true rfl)⟩ rfl (Nat.le_of_ble_eq_true rfl) ⟨Nat.zero_le _, Nat.zero_le _⟩ rfl d_MT_blanks_44 (fun H locs hP hS => ?_)
        refine lv_bipush (v := (13:Int32)) hx hb d_MT_blanks_47 (by decide) ?_
        refine lv_icmp_ne (tgt := 65) hx hb d_MT_blanks_49 (by decide) (fun c4 => ?_) (fun c4 => ?_)
        · replace h := o_ff c4 h
          cases h
          exact h1 (Nat.succ_ne_zero 0) _ _ _ hP hS (lv_sub hl [] rfl)
        · replace h := o_tt c4 h
          exact f_MT_blanks_j52_1 hE C hDD n u0_Mm u0_M0 u0_rt z h h0 h1 _ _ _ hP hS (lv_sub hl [0] rfl)
set_option maxHeartbeats 4000000 in
set_option maxRecDepth 100000 in
theorem e_MT_blanks_1 {E : (Nat → Prop) → State → Heap → Prop} {D : va_G} {ad kd sd vd xd : Nat → Nat} {ca : Nat → ClassId} (hE : o_EK E kd sd vd xd) (l : Launch) (n : Nat)  (a0 : SMT) (Mm : SMM) (M0 : SMT) (rt : Value) {r : SMT} (h : m_MT_blanks n a0 = some r) : o_Cn E l D m_cls (m_tys ca) y_MT_blanks cc_MT_blanks rm_MT_blanks [.ref (ad 48)] (m_cw ad ca rt Mm M0 a0) (m_cw ad ca rt Mm M0 r) none := by
  refine o_Cn_of (by decide) (Nat.le_of_ble_eq_true rfl) ?_
  intro p e s m below meth c A ls C hD hP hS hl
  have hDD : ∀ (rt : Value) (Mm : SMM) (M0 : SMT) (M1 : SMT), va_D A (m_cw ad ca rt Mm M0 M1) := fun _ _ _ _ => o_D_map hD rfl
  have hl : lv_has ls 1 [(0, .ref (ad 48))] := hl
  unfold m_MT_blanks at h
  have C0 := C
  obtain ⟨hx, hb, -, -, -, hown, hts, hK, -, -⟩ := C0
  obtain ⟨q5, hq5, h⟩ := o_bd_some h
  refine o_sim2 (AH := fun zz => o_At p l e rm_MT_blanks s m _ below meth c _ m_cls D A 1 0 [] (m_cw ad ca rt Mm M0 zz) [(0, .ref (ad 48))]) (AX := fun qq => o_At p l e rm_MT_blanks s m _ below meth c _ m_cls D A 1 65 [] (m_cw ad ca rt Mm M0 qq.2) []) (fun zz qq h h0 h1 => f_MT_blanks_b0_1 hE C hDD n Mm M0 rt zz qq h h0 h1) n _ q5 hq5 ?_ _ _ _ hP hS (lv_sub hl [0] rfl)
  intro H locs ls hP hS hl
  cases h
  exact o_rv C hP hS d_MT_blanks_65
set_option maxHeartbeats 4000000 in
set_option maxRecDepth 100000 in
theorem e_MT_bad_0 {E : (Nat → Prop) → State → Heap → Prop} {D : va_G} {ad kd sd vd xd : Nat → Nat} {ca : Nat → ClassId} (hE : o_EK E kd sd vd xd) (l : Launch) (x1 : Int32) (a0 : SMT) (Mm : SMM) (M1 : SMT) (rt : Value) {r : Int32 × SMT} (h : m_MT_bad x1 a0 = some r) : o_Cn E l D m_cls (m_tys ca) y_MT_bad cc_MT_bad rm_MT_bad [.ref (ad 33), .int x1] (m_cw ad ca rt Mm a0 M1) (m_cw ad ca rt Mm r.2 M1) (some (.int r.1)) := by
  refine o_Cn_of (by decide) (Nat.le_of_ble_eq_true rfl) ?_
  intro p e s m below meth c A ls C hD hP hS hl
  have hDD : ∀ (rt : Value) (Mm : SMM) (M0 : SMT) (M1 : SMT), va_D A (m_cw ad ca rt Mm M0 M1) := fun _ _ _ _ => o_D_map hD rfl
  have hl : lv_has ls 2 [(0, .ref (ad 33)), (1, .int x1)] := hl
  unfold m_MT_bad at h
  have C0 := C
  obtain ⟨hx, hb, -, -, -, hown, hts, hK, -, -⟩ := C0
  refine lv_aload_n hx hb d_MT_bad_0 rfl (lv_at hl 0 rfl) ?_
  refine o_get (v := .int (MT_wrong a0)) C in_MT hP 33 mw_33 rfl 16 (by decide) k_7_130 rfl rfl d_MT_bad_1 ?_
  refine lv_if_ge (tgt := 12) hx hb d_MT_bad_4 (by decide) (fun c1 => ?_) (fun c1 => ?_)
  · replace h := o_tt c1 h
    refine lv_iconst (v := (0:Int32)) hx hb d_MT_bad_12 (by decide) ?_
    cases h
    exact o_rz (v := (0:Int32)) C o_nar0 hP hS d_MT_bad_13
  · replace h := o_ff c1 h
    refine lv_aload_n hx hb d_MT_bad_7 rfl (lv_at hl 0 rfl) ?_
    refine lv_iload_n hx hb d_MT_bad_8 rfl (lv_at hl 1 rfl) ?_
    refine o_put (v := .int x1) (ty := .int) (w1 := (m_cw ad ca rt Mm (MT_mk (MT_text a0) (MT_kind a0) (MT_place a0) (MT_many a0) (MT_parent a0) (MT_power a0) (MT_first a0) (MT_next a0) (MT_name a0) (MT_from a0) (MT_characters a0) (MT_digits a0) (MT_minus a0) (MT_values a0) (MT_letters a0) (MT_at a0) x1 (MT_used a0) (MT_written a0) (MT_left a0)) M1)) C in_MT t_MT t_MT_ok n_MT hP (hDD _ _ _ _) hS 33 mw_33 rfl 16 (by decide) k_7_130 rfl rfl (by decide +kernel) rfl rfl (Nat.le_of_ble_eq_true rfl) rfl d_MT_bad_9 (fun H locs hP hS => ?_)
    refine lv_iconst (v := (0:Int32)) hx hb d_MT_bad_12 (by decide) ?_
    cases h
    exact o_rz (v := (0:Int32)) C o_nar0 hP hS d_MT_bad_13
set_option maxHeartbeats 4000000 in
set_option maxRecDepth 100000 in
theorem e_MT_bad_1 {E : (Nat → Prop) → State → Heap → Prop} {D : va_G} {ad kd sd vd xd : Nat → Nat} {ca : Nat → ClassId} (hE : o_EK E kd sd vd xd) (l : Launch) (x1 : Int32) (a0 : SMT) (Mm : SMM) (M0 : SMT) (rt : Value) {r : Int32 × SMT} (h : m_MT_bad x1 a0 = some r) : o_Cn E l D m_cls (m_tys ca) y_MT_bad cc_MT_bad rm_MT_bad [.ref (ad 48), .int x1] (m_cw ad ca rt Mm M0 a0) (m_cw ad ca rt Mm M0 r.2) (some (.int r.1)) := by
  refine o_Cn_of (by decide) (Nat.le_of_ble_eq_true rfl) ?_
  intro p e s m below meth c A ls C hD hP hS hl
  have hDD : ∀ (rt : Value) (Mm : SMM) (M0 : SMT) (M1 : SMT), va_D A (m_cw ad ca rt Mm M0 M1) := fun _ _ _ _ => o_D_map hD rfl
  have hl : lv_has ls 2 [(0, .ref (ad 48)), (1, .int x1)] := hl
  unfold m_MT_bad at h
  have C0 := C
  obtain ⟨hx, hb, -, -, -, hown, hts, hK, -, -⟩ := C0
  refine lv_aload_n hx hb d_MT_bad_0 rfl (lv_at hl 0 rfl) ?_
  refine o_get (v := .int (MT_wrong a0)) C in_MT hP 48 mw_48 rfl 16 (by decide) k_7_130 rfl rfl d_MT_bad_1 ?_
  refine lv_if_ge (tgt := 12) hx hb d_MT_bad_4 (by decide) (fun c1 => ?_) (fun c1 => ?_)
  · replace h := o_tt c1 h
    refine lv_iconst (v := (0:Int32)) hx hb d_MT_bad_12 (by decide) ?_
    cases h
    exact o_rz (v := (0:Int32)) C o_nar0 hP hS d_MT_bad_13
  · replace h := o_ff c1 h
    refine lv_aload_n hx hb d_MT_bad_7 rfl (lv_at hl 0 rfl) ?_
    refine lv_iload_n hx hb d_MT_bad_8 rfl (lv_at hl 1 rfl) ?_
    refine o_put (v := .int x1) (ty := .int) (w1 := (m_cw ad ca rt Mm M0 (MT_mk (MT_text a0) (MT_kind a0) (MT_place a0) (MT_many a0) (MT_parent a0) (MT_power a0) (MT_first a0) (MT_next a0) (MT_name a0) (MT_from a0) (MT_characters a0) (MT_digits a0) (MT_minus a0) (MT_values a0) (MT_letters a0) (MT_at a0) x1 (MT_used a0) (MT_written a0) (MT_left a0)))) C in_MT t_MT t_MT_ok n_MT hP (hDD _ _ _ _) hS 48 mw_48 rfl 16 (by decide) k_7_130 rfl rfl (by decide +kernel) rfl rfl (Nat.le_of_ble_eq_true rfl) rfl d_MT_bad_9 (fun H locs hP hS => ?_)
    refine lv_iconst (v := (0:Int32)) hx hb d_MT_bad_12 (by decide) ?_
    cases h
    exact o_rz (v := (0:Int32)) C o_nar0 hP hS d_MT_bad_13
set_option maxHeartbeats 4000000 in
set_option maxRecDepth 100000 in
theorem f_MT_value_j83_0 {E : (Nat → Prop) → State → Heap → Prop} {p : Program} {l : Launch} {e : Env} {s : State} {m : MethodId} {args : Array Value} {below : List Frame} {meth : Method} {c : Code} {D : va_G} {ad kd sd vd xd : Nat → Nat} {ca : Nat → ClassId} {A : Nat → Prop} (hE : o_EK E kd sd vd xd) (C : o_Cx E p s m args meth c D m_cls (m_tys ca) "SchemaJudgeModel$Text" b_MT_value (some .boolean) 5 cc_MT_value A) (hDD : ∀ (rt : Value) (Mm : SMM) (M0 : SMT) (M1 : SMT), va_D A (m_cw ad ca rt Mm M0 M1)) (x1 : Int32) (x2 : Int32) (x3 : Int32) (x4 : Int32) (a0 : SMT) (Mm : SMM) (M1 : SMT) (rt : Value) {r : Int32 × SMT} (h : m_MT_value_j83 x1 x2 x3 x4 a0 = some r) : o_At p l e rm_MT_value s m args below meth c (MQ below (o_Qx D m_cls (some (.int r.1)) (m_cw ad ca rt Mm r.2 M1) A) args s 0 0 A) m_cls D A 5 83 [] (m_cw ad ca rt Mm a0 M1) [(0, .ref (ad 33)), (1, .int x1), (2, .int x2), (3, .int x3), (4, .int x4)] := by
  unfold m_MT_value_j83 at h
  intro H locs ls hP hS hl
  have C0 := C
  obtain ⟨hx, hb, -, -, -, hown, hts, hK, -, -⟩ := C0
  refine lv_aload_n hx hb d_MT_value_83 rfl (lv_at hl 0 rfl) ?_
  refine o_get (v := .int (MT_values a0)) C in_MT hP 33 mw_33 rfl 13 (by decide) k_7_126 rfl rfl d_MT_value_84 ?_
  refine lv_sipush (v := (1000:Int32)) hx hb d_MT_value_87 (by decide) ?_
  refine lv_icmp_ne (tgt := 102) hx hb d_MT_value_90 (by decide) (fun c3 => ?_) (fun c3 => ?_)
  · replace h := o_ff c3 h
    refine lv_iload_n hx hb d_MT_value_102 rfl (lv_at hl 3 rfl) ?_
    refine lv_bipush (v := (110:Int32)) hx hb d_MT_value_103 (by decide) ?_
    refine lv_icmp_ne (tgt := 117) hx hb d_MT_value_105 (by decide) (fun c4 => ?_) (fun c4 => ?_)
    · replace h := o_ff c4 h
      refine lv_iload_n hx hb d_MT_value_117 rfl (lv_at hl 3 rfl) ?_
      refine lv_bipush (v := (116:Int32)) hx hb d_MT_value_118 (by decide) ?_
      refine lv_icmp_ne (tgt := 132) hx hb d_MT_value_120 (by decide) (fun c5 => ?_) (fun c5 => ?_)
      · replace h := o_ff c5 h
        refine lv_iload_n hx hb d_MT_value_132 rfl (lv_at hl 3 rfl) ?_
        refine lv_bipush (v := (102:Int32)) hx hb d_MT_value_133 (by decide) ?_
        refine lv_icmp_ne (tgt := 147) hx hb d_MT_value_135 (by decide) (fun c6 => ?_) (fun c6 => ?_)
        · replace h := o_ff c6 h
          refine lv_iload_n hx hb d_MT_value_147 rfl (lv_at hl 3 rfl) ?_
          refine lv_bipush (v := (34:Int32)) hx hb d_MT_value_148 (by decide) ?_
          refine lv_icmp_ne (tgt := 159) hx hb d_MT_value_150 (by decide) (fun c7 => ?_) (fun c7 => ?_)
          · replace h := o_ff c7 h
            refine lv_iload hx hb d_MT_value_159 (lv_at hl 4 rfl) ?_
            refine lv_if_eq (tgt := 170) hx hb d_MT_value_161 (by decide) (fun c8 => ?_) (fun c8 => ?_)
            · replace h := o_tt c8 h
              refine lv_iload_n hx hb d_MT_value_170 rfl (lv_at hl 2 rfl) ?_
              refine lv_bipush (v := (40:Int32)) hx hb d_MT_value_171 (by decide) ?_
              refine lv_icmp_ne (tgt := 185) hx hb d_MT_value_173 (by decide) (fun c9 => ?_) (fun c9 => ?_)
              · replace h := o_ff c9 h
                refine lv_iload_n hx hb d_MT_value_185 rfl (lv_at hl 3 rfl) ?_
                refine lv_bipush (v := (91:Int32)) hx hb d_MT_value_186 (by decide) ?_
                refine lv_icmp_ne (tgt := 200) hx hb d_MT_value_188 (by decide) (fun c10 => ?_) (fun c10 => ?_)
                · replace h := o_ff c10 h
                  refine lv_aload_n hx hb d_MT_value_200 rfl (lv_at hl 0 rfl) ?_
                  refine lv_iload_n hx hb d_MT_value_201 rfl (lv_at hl 1 rfl) ?_
                  refine lv_iload_n hx hb d_MT_value_202 rfl (lv_at hl 2 rfl) ?_
                  cases h
                · replace h := o_tt c10 h
                  refine lv_aload_n hx hb d_MT_value_191 rfl (lv_at hl 0 rfl) ?_
                  refine lv_iload_n hx hb d_MT_value_192 rfl (lv_at hl 1 rfl) ?_
                  refine lv_iload_n hx hb d_MT_value_193 rfl (lv_at hl 2 rfl) ?_
                  cases h
              · replace h := o_tt c9 h
                refine lv_aload_n hx hb d_MT_value_176 rfl (lv_at hl 0 rfl) ?_
                refine lv_aload_n hx hb d_MT_value_177 rfl (lv_at hl 0 rfl) ?_
                refine o_get (v := .int (MT_at a0)) C in_MT hP 33 mw_33 rfl 15 (by decide) k_7_129 rfl rfl d_MT_value_178 ?_
                obtain ⟨q3, hq3, h⟩ := o_bd_some h
                refine o_V (st1 := [.int q3.1]) (w1 := (m_cw ad ca rt Mm q3.2 M1)) hE.1 C (e_MT_bad_0 hE l (MT_at a0) a0 Mm M1 rt hq3) hP (hDD _ _ _ _) hS hl.1 rfl mw_33 k_8_203 k_8_204 k_8_205 k_1_13 k_8_206 hv_MT_bad rfl rfl ⟨(Nat.le_of_ble_eq_true rfl), (Nat.le_of_ble_eq_true rfl)⟩ rfl (Nat.le_of_ble_eq_true rfl) ⟨Nat.zero_le _, Nat.zero_le _⟩ rfl d_MT_value_181 (fun H locs hP hS => ?_)
                obtain ⟨g11, h⟩ := o_gd_some h
                cases h
                exact o_rz C (o_zb_nar g11) hP hS d_MT_value_184
            · replace h := o_ff c8 h
              refine lv_aload_n hx hb d_MT_value_164 rfl (lv_at hl 0 rfl) ?_
              refine lv_iload_n hx hb d_MT_value_165 rfl (lv_at hl 1 rfl) ?_
              cases h
          · replace h := o_tt c7 h
            refine lv_aload_n hx hb d_MT_value_153 rfl (lv_at hl 0 rfl) ?_
            refine lv_iload_n hx hb d_MT_value_154 rfl (lv_at hl 1 rfl) ?_
            cases h
        · replace h := o_tt c6 h
          refine lv_aload_n hx hb d_MT_value_138 rfl (lv_at hl 0 rfl) ?_
          refine va_ldcS (q := sd 3) hx hb hown (hE.2.2.2.2.2.1 _ _ _ C.2.2.2.2.2.2.2.2.2 ("SchemaJudgeModel$Text", 115, "false", 3) (List.mem_of_getElem? (i := 86) rfl)) d_MT_value_139 ?_
          refine lv_iload_n hx hb d_MT_value_141 rfl (lv_at hl 1 rfl) ?_
          refine lv_iconst (v := (1:Int32)) hx hb d_MT_value_142 (by decide) ?_
          cases h
      · replace h := o_tt c5 h
        refine lv_aload_n hx hb d_MT_value_123 rfl (lv_at hl 0 rfl) ?_
        refine va_ldcS (q := sd 4) hx hb hown (hE.2.2.2.2.2.1 _ _ _ C.2.2.2.2.2.2.2.2.2 ("SchemaJudgeModel$Text", 113, "true", 4) (List.mem_of_getElem? (i := 85) rfl)) d_MT_value_124 ?_
        refine lv_iload_n hx hb d_MT_value_126 rfl (lv_at hl 1 rfl) ?_
        refine lv_iconst (v := (2:Int32)) hx hb d_MT_value_127 (by decide) ?_
        cases h
    · replace h := o_tt c4 h
      refine lv_aload_n hx hb d_MT_value_108 rfl (lv_at hl 0 rfl) ?_
      refine va_ldcS (q := sd 2) hx hb hown (hE.2.2.2.2.2.1 _ _ _ C.2.2.2.2.2.2.2.2.2 ("SchemaJudgeModel$Text", 107, "null", 2) (List.mem_of_getElem? (i := 84) rfl)) d_MT_value_109 ?_
      refine lv_iload_n hx hb d_MT_value_111 rfl (lv_at hl 1 rfl) ?_
      refine lv_iconst (v := (0:Int32)) hx hb d_MT_value_112 (by decide) ?_
      cases h
  · replace h := o_tt c3 h
    refine lv_aload_n hx hb d_MT_value_93 rfl (lv_at hl 0 rfl) ?_
    refine lv_aload_n hx hb d_MT_value_94 rfl (lv_at hl 0 rfl) ?_
    refine o_get (v := .int (MT_at a0)) C in_MT hP 33 mw_33 rfl 15 (by decide) k_7_129 rfl rfl d_MT_value_95 ?_
    obtain ⟨q4, hq4, h⟩ := o_bd_some h
    refine o_V (st1 := [.int q4.1]) (w1 := (m_cw ad ca rt Mm q4.2 M1)) hE.1 C (e_MT_bad_0 hE l (MT_at a0) a0 Mm M1 rt hq4) hP (hDD _ _ _ _) hS hl.1 rfl mw_33 k_8_203 k_8_204 k_8_205 k_1_13 k_8_206 hv_MT_bad rfl rfl ⟨(Nat.le_of_ble_eq_true rfl), (Nat.le_of_ble_eq_true rfl)⟩ rfl (Nat.le_of_ble_eq_true rfl) ⟨Nat.zero_le _, Nat.zero_le _⟩ rfl d_MT_value_98 (fun H locs hP hS => ?_)
    obtain ⟨g12, h⟩ := o_gd_some h
    cases h
    exact o_rz C (o_zb_nar g12) hP hS d_MT_value_101
set_option maxHeartbeats 4000000 in
set_option maxRecDepth 100000 in
theorem f_MT_value_j31_0 {E : (Nat → Prop) → State → Heap → Prop} {p : Program} {l : Launch} {e : Env} {s : State} {m : MethodId} {args : Array Value} {below : List Frame} {meth : Method} {c : Code} {D : va_G} {ad kd sd vd xd : Nat → Nat} {ca : Nat → ClassId} {A : Nat → Prop} (hE : o_EK E kd sd vd xd) (C : o_Cx E p s m args meth c D m_cls (m_tys ca) "SchemaJudgeModel$Text" b_MT_value (some .boolean) 5 cc_MT_value A) (hDD : ∀ (rt : Value) (Mm : SMM) (M0 : SMT) (M1 : SMT), va_D A (m_cw ad ca rt Mm M0 M1)) (x1 : Int32) (x2 : Int32) (x3 : Int32) (y0 : Int32) (a0 : SMT) (Mm : SMM) (M1 : SMT) (rt : Value) {r : Int32 × SMT} (h : m_MT_value_j31 x1 x2 x3 y0 a0 = some r) : o_At p l e rm_MT_value s m args below meth c (MQ below (o_Qx D m_cls (some (.int r.1)) (m_cw ad ca rt Mm r.2 M1) A) args s 0 0 A) m_cls D A 5 31 [.int y0] (m_cw ad ca rt Mm a0 M1) [(0, .ref (ad 33)), (1, .int x1), (2, .int x2), (3, .int x3)] := by
  unfold m_MT_value_j31 at h
  intro H locs ls hP hS hl
  have C0 := C
  obtain ⟨hx, hb, -, -, -, hown, hts, hK, -, -⟩ := C0
  refine lv_istore (lv' := [(4, .int y0), (0, .ref (ad 33)), (1, .int x1), (2, .int x2), (3, .int x3)]) hx hb d_MT_value_31 hl (by decide) rfl (fun ls hl => ?_)
  refine lv_iload_n hx hb d_MT_value_33 rfl (lv_at hl 4 rfl) ?_
  refine lv_bipush (v := (110:Int32)) hx hb d_MT_value_34 (by decide) ?_
  refine lv_icmp_eq (tgt := 83) hx hb d_MT_value_36 (by decide) (fun c2 => ?_) (fun c2 => ?_)
  · replace h := o_tt c2 h
    exact f_MT_value_j83_0 hE C hDD x1 x2 x3 y0 a0 Mm M1 rt h _ _ _ hP hS (lv_sub hl [1, 2, 3, 4, 0] rfl)
  · replace h := o_ff c2 h
    refine lv_iload_n hx hb d_MT_value_39 rfl (lv_at hl 4 rfl) ?_
    refine lv_bipush (v := (116:Int32)) hx hb d_MT_value_40 (by decide) ?_
    refine lv_icmp_eq (tgt := 83) hx hb d_MT_value_42 (by decide) (fun c13 => ?_) (fun c13 => ?_)
    · replace h := o_tt c13 h
      exact f_MT_value_j83_0 hE C hDD x1 x2 x3 y0 a0 Mm M1 rt h _ _ _ hP hS (lv_sub hl [1, 2, 3, 4, 0] rfl)
    · replace h := o_ff c13 h
      refine lv_iload_n hx hb d_MT_value_45 rfl (lv_at hl 4 rfl) ?_
      refine lv_bipush (v := (102:Int32)) hx hb d_MT_value_46 (by decide) ?_
      refine lv_icmp_eq (tgt := 83) hx hb d_MT_value_48 (by decide) (fun c14 => ?_) (fun c14 => ?_)
      · replace h := o_tt c14 h
        exact f_MT_value_j83_0 hE C hDD x1 x2 x3 y0 a0 Mm M1 rt h _ _ _ hP hS (lv_sub hl [1, 2, 3, 4, 0] rfl)
      · replace h := o_ff c14 h
        refine lv_iload_n hx hb d_MT_value_51 rfl (lv_at hl 4 rfl) ?_
        refine lv_bipush (v := (34:Int32)) hx hb d_MT_value_52 (by decide) ?_
        refine lv_icmp_eq (tgt := 83) hx hb d_MT_value_54 (by decide) (fun c15 => ?_) (fun c15 => ?_)
        · replace h := o_tt c15 h
          exact f_MT_value_j83_0 hE C hDD x1 x2 x3 y0 a0 Mm M1 rt h _ _ _ hP hS (lv_sub hl [1, 2, 3, 4, 0] rfl)
        · replace h := o_ff c15 h
          refine lv_iload_n hx hb d_MT_value_57 rfl (lv_at hl 4 rfl) ?_
          refine lv_bipush (v := (91:Int32)) hx hb d_MT_value_58 (by decide) ?_
          refine lv_icmp_eq (tgt := 83) hx hb d_MT_value_60 (by decide) (fun c16 => ?_) (fun c16 => ?_)
          · replace h := o_tt c16 h
            exact f_MT_value_j83_0 hE C hDD x1 x2 x3 y0 a0 Mm M1 rt h _ _ _ hP hS (lv_sub hl [1, 2, 3, 4, 0] rfl)
          · replace h := o_ff c16 h
            refine lv_iload_n hx hb d_MT_value_63 rfl (lv_at hl 4 rfl) ?_
            refine lv_bipush (v := (123:Int32)) hx hb d_MT_value_64 (by decide) ?_
            refine lv_icmp_eq (tgt := 83) hx hb d_MT_value_66 (by decide) (fun c17 => ?_) (fun c17 => ?_)
            · replace h := o_tt c17 h
              exact f_MT_value_j83_0 hE C hDD x1 x2 x3 y0 a0 Mm M1 rt h _ _ _ hP hS (lv_sub hl [1, 2, 3, 4, 0] rfl)
            · replace h := o_ff c17 h
              refine lv_iload hx hb d_MT_value_69 (lv_at hl 0 rfl) ?_
              refine lv_if_ne (tgt := 83) hx hb d_MT_value_71 (by decide) (fun c18 => ?_) (fun c18 => ?_)
              · replace h := o_ff c18 h
                exact f_MT_value_j83_0 hE C hDD x1 x2 x3 y0 a0 Mm M1 rt h _ _ _ hP hS (lv_sub hl [1, 2, 3, 4, 0] rfl)
              · replace h := o_tt c18 h
                refine lv_aload_n hx hb d_MT_value_74 rfl (lv_at hl 1 rfl) ?_
                refine lv_aload_n hx hb d_MT_value_75 rfl (lv_at hl 1 rfl) ?_
                refine o_get (v := .int (MT_at a0)) C in_MT hP 33 mw_33 rfl 15 (by decide) k_7_129 rfl rfl d_MT_value_76 ?_
                obtain ⟨q5, hq5, h⟩ := o_bd_some h
                refine o_V (st1 := [.int q5.1]) (w1 := (m_cw ad ca rt Mm q5.2 M1)) hE.1 C (e_MT_bad_0 hE l (MT_at a0) a0 Mm M1 rt hq5) hP (hDD _ _ _ _) hS hl.1 rfl mw_33 k_8_203 k_8_204 k_8_205 k_1_13 k_8_206 hv_MT_bad rfl rfl ⟨(Nat.le_of_ble_eq_true rfl), (Nat.le_of_ble_eq_true rfl)⟩ rfl (Nat.le_of_ble_eq_true rfl) ⟨Nat.zero_le _, Nat.zero_le _⟩ rfl d_MT_value_79 (fun H locs hP hS => ?_)
                obtain ⟨g19, h⟩ := o_gd_some h
                cases h
                exact o_rz C (o_zb_nar g19) hP hS d_MT_value_82
set_option maxHeartbeats 4000000 in
set_option maxRecDepth 100000 in
theorem e_MT_value_0 {E : (Nat → Prop) → State → Heap → Prop} {D : va_G} {ad kd sd vd xd : Nat → Nat} {ca : Nat → ClassId} (hE : o_EK E kd sd vd xd) (l : Launch) (x1 : Int32) (x2 : Int32) (a0 : SMT) (Mm : SMM) (M1 : SMT) (rt : Value) {r : Int32 × SMT} (h : m_MT_value x1 x2 a0 = some r) : o_Cn E l D m_cls (m_tys ca) y_MT_value cc_MT_value rm_MT_value [.ref (ad 33), .int x1, .int x2] (m_cw ad ca rt Mm a0 M1) (m_cw ad ca rt Mm r.2 M1) (some (.int r.1)) := by
  refine o_Cn_of (by decide) (Nat.le_of_ble_eq_true rfl) ?_
  intro p e s m below meth c A ls C hD hP hS hl
  have hDD : ∀ (rt : Value) (Mm : SMM) (M0 : SMT) (M1 : SMT), va_D A (m_cw ad ca rt Mm M0 M1) := fun _ _ _ _ => o_D_map hD rfl
  have hl : lv_has ls 5 [(0, .ref (ad 33)), (1, .int x1), (2, .int x2)] := hl
  unfold m_MT_value at h
  have C0 := C
  obtain ⟨hx, hb, -, -, -, hown, hts, hK, -, -⟩ := C0
  refine lv_aload_n hx hb d_MT_value_0 rfl (lv_at hl 0 rfl) ?_
  refine lv_aload_n hx hb d_MT_value_1 rfl (lv_at hl 0 rfl) ?_
  refine o_get (v := .int (MT_at a0)) C in_MT hP 33 mw_33 rfl 15 (by decide) k_7_129 rfl rfl d_MT_value_2 ?_
  obtain ⟨q1, hq1, h⟩ := o_bd_some h
  refine o_V (st1 := [.int q1]) (w1 := (m_cw ad ca rt Mm a0 M1)) hE.1 C (e_MT_c_0 hE l (MT_at a0) a0 Mm M1 rt hq1) hP (hDD _ _ _ _) hS hl.1 rfl mw_33 k_8_192 k_8_193 k_8_194 k_1_13 k_8_195 hv_MT_c rfl rfl ⟨(Nat.le_of_ble_eq_true rfl), (Nat.le_of_ble_eq_true rfl)⟩ rfl (Nat.le_of_ble_eq_true rfl) ⟨Nat.zero_le _, Nat.zero_le _⟩ rfl d_MT_value_5 (fun H locs hP hS => ?_)
  refine lv_istore_n (lv' := [(3, .int q1), (0, .ref (ad 33)), (1, .int x1), (2, .int x2)]) hx hb d_MT_value_8 rfl hl (by decide) rfl (fun ls hl => ?_)
  refine lv_iload_n hx hb d_MT_value_9 rfl (lv_at hl 0 rfl) ?_
  refine lv_bipush (v := (48:Int32)) hx hb d_MT_value_10 (by decide) ?_
  refine lv_bipush (v := (57:Int32)) hx hb d_MT_value_12 (by decide) ?_
  obtain ⟨q2, hq2, h⟩ := o_bd_some h
  refine o_SN (st1 := [.int q2]) (w1 := (m_cw ad ca rt Mm a0 M1)) hE.1 C (e_MM_in hE l q1 (48:Int32) (57:Int32) Mm a0 M1 rt hq2) hP (hDD _ _ _ _) hS hl.1 (hE.2.1 _ _ _ C.2.2.2.2.2.2.2.2.2 _ nw_21) k_8_201 k_1_12 k_8_202 hs_MM_in rfl rfl ⟨(Nat.le_of_ble_eq_true rfl), (Nat.le_of_ble_eq_true rfl)⟩ rfl (Nat.le_of_ble_eq_true rfl) ⟨Nat.zero_le _, Nat.zero_le _⟩ rfl d_MT_value_14 (fun H locs hP hS => ?_)
  refine lv_if_ne (tgt := 26) hx hb d_MT_value_17 (by decide) (fun c1 => ?_) (fun c1 => ?_)
  · replace h := o_ff c1 h
    refine lv_iconst (v := (1:Int32)) hx hb d_MT_value_26 (by decide) ?_
    refine lv_goto (tgt := 31) hx hb d_MT_value_27 (by decide) ?_
    exact f_MT_value_j31_0 hE C hDD x1 x2 q1 (1:Int32) a0 Mm M1 rt h _ _ _ hP hS (lv_sub hl [1, 2, 3, 0] rfl)
  · replace h := o_tt c1 h
    refine lv_iload_n hx hb d_MT_value_20 rfl (lv_at hl 0 rfl) ?_
    refine lv_bipush (v := (45:Int32)) hx hb d_MT_value_21 (by decide) ?_
    refine lv_icmp_ne (tgt := 30) hx hb d_MT_value_23 (by decide) (fun c20 => ?_) (fun c20 => ?_)
    · replace h := o_ff c20 h
      refine lv_iconst (v := (0:Int32)) hx hb d_MT_value_30 (by decide) ?_
      exact f_MT_value_j31_0 hE C hDD x1 x2 q1 (0:Int32) a0 Mm M1 rt h _ _ _ hP hS (lv_sub hl [1, 2, 3, 0] rfl)
    · replace h := o_tt c20 h
      refine lv_iconst (v := (1:Int32)) hx hb d_MT_value_26 (by decide) ?_
      refine lv_goto (tgt := 31) hx hb d_MT_value_27 (by decide) ?_
      exact f_MT_value_j31_0 hE C hDD x1 x2 q1 (1:Int32) a0 Mm M1 rt h _ _ _ hP hS (lv_sub hl [1, 2, 3, 0] rfl)
set_option maxHeartbeats 4000000 in
set_option maxRecDepth 100000 in
theorem f_MT_value_j83_1 {E : (Nat → Prop) → State → Heap → Prop} {p : Program} {l : Launch} {e : Env} {s : State} {m : MethodId} {args : Array Value} {below : List Frame} {meth : Method} {c : Code} {D : va_G} {ad kd sd vd xd : Nat → Nat} {ca : Nat → ClassId} {A : Nat → Prop} (hE : o_EK E kd sd vd xd) (C : o_Cx E p s m args meth c D m_cls (m_tys ca) "SchemaJudgeModel$Text" b_MT_value (some .boolean) 5 cc_MT_value A) (hDD : ∀ (rt : Value) (Mm : SMM) (M0 : SMT) (M1 : SMT), va_D A (m_cw ad ca rt Mm M0 M1)) (x1 : Int32) (x2 : Int32) (x3 : Int32) (x4 : Int32) (a0 : SMT) (Mm : SMM) (M0 : SMT) (rt : Value) {r : Int32 × SMT} (h : m_MT_value_j83 x1 x2 x3 x4 a0 = some r) : o_At p l e rm_MT_value s m args below meth c (MQ below (o_Qx D m_cls (some (.int r.1)) (m_cw ad ca rt Mm M0 r.2) A) args s 0 0 A) m_cls D A 5 83 [] (m_cw ad ca rt Mm M0 a0) [(0, .ref (ad 48)), (1, .int x1), (2, .int x2), (3, .int x3), (4, .int x4)] := by
  unfold m_MT_value_j83 at h
  intro H locs ls hP hS hl
  have C0 := C
  obtain ⟨hx, hb, -, -, -, hown, hts, hK, -, -⟩ := C0
  refine lv_aload_n hx hb d_MT_value_83 rfl (lv_at hl 0 rfl) ?_
  refine o_get (v := .int (MT_values a0)) C in_MT hP 48 mw_48 rfl 13 (by decide) k_7_126 rfl rfl d_MT_value_84 ?_
  refine lv_sipush (v := (1000:Int32)) hx hb d_MT_value_87 (by decide) ?_
  refine lv_icmp_ne (tgt := 102) hx hb d_MT_value_90 (by decide) (fun c3 => ?_) (fun c3 => ?_)
  · replace h := o_ff c3 h
    refine lv_iload_n hx hb d_MT_value_102 rfl (lv_at hl 3 rfl) ?_
    refine lv_bipush (v := (110:Int32)) hx hb d_MT_value_103 (by decide) ?_
    refine lv_icmp_ne (tgt := 117) hx hb d_MT_value_105 (by decide) (fun c4 => ?_) (fun c4 => ?_)
    · replace h := o_ff c4 h
      refine lv_iload_n hx hb d_MT_value_117 rfl (lv_at hl 3 rfl) ?_
      refine lv_bipush (v := (116:Int32)) hx hb d_MT_value_118 (by decide) ?_
      refine lv_icmp_ne (tgt := 132) hx hb d_MT_value_120 (by decide) (fun c5 => ?_) (fun c5 => ?_)
      · replace h := o_ff c5 h
        refine lv_iload_n hx hb d_MT_value_132 rfl (lv_at hl 3 rfl) ?_
        refine lv_bipush (v := (102:Int32)) hx hb d_MT_value_133 (by decide) ?_
        refine lv_icmp_ne (tgt := 147) hx hb d_MT_value_135 (by decide) (fun c6 => ?_) (fun c6 => ?_)
        · replace h := o_ff c6 h
          refine lv_iload_n hx hb d_MT_value_147 rfl (lv_at hl 3 rfl) ?_
          refine lv_bipush (v := (34:Int32)) hx hb d_MT_value_148 (by decide) ?_
          refine lv_icmp_ne (tgt := 159) hx hb d_MT_value_150 (by decide) (fun c7 => ?_) (fun c7 => ?_)
          · replace h := o_ff c7 h
            refine lv_iload hx hb d_MT_value_159 (lv_at hl 4 rfl) ?_
            refine lv_if_eq (tgt := 170) hx hb d_MT_value_161 (by decide) (fun c8 => ?_) (fun c8 => ?_)
            · replace h := o_tt c8 h
              refine lv_iload_n hx hb d_MT_value_170 rfl (lv_at hl 2 rfl) ?_
              refine lv_bipush (v := (40:Int32)) hx hb d_MT_value_171 (by decide) ?_
              refine lv_icmp_ne (tgt := 185) hx hb d_MT_value_173 (by decide) (fun c9 => ?_) (fun c9 => ?_)
              · replace h := o_ff c9 h
                refine lv_iload_n hx hb d_MT_value_185 rfl (lv_at hl 3 rfl) ?_
                refine lv_bipush (v := (91:Int32)) hx hb d_MT_value_186 (by decide) ?_
                refine lv_icmp_ne (tgt := 200) hx hb d_MT_value_188 (by decide) (fun c10 => ?_) (fun c10 => ?_)
                · replace h := o_ff c10 h
                  refine lv_aload_n hx hb d_MT_value_200 rfl (lv_at hl 0 rfl) ?_
                  refine lv_iload_n hx hb d_MT_value_201 rfl (lv_at hl 1 rfl) ?_
                  refine lv_iload_n hx hb d_MT_value_202 rfl (lv_at hl 2 rfl) ?_
                  cases h
                · replace h := o_tt c10 h
                  refine lv_aload_n hx hb d_MT_value_191 rfl (lv_at hl 0 rfl) ?_
                  refine lv_iload_n hx hb d_MT_value_192 rfl (lv_at hl 1 rfl) ?_
                  refine lv_iload_n hx hb d_MT_value_193 rfl (lv_at hl 2 rfl) ?_
                  cases h
              · replace h := o_tt c9 h
                refine lv_aload_n hx hb d_MT_value_176 rfl (lv_at hl 0 rfl) ?_
                refine lv_aload_n hx hb d_MT_value_177 rfl (lv_at hl 0 rfl) ?_
                refine o_get (v := .int (MT_at a0)) C in_MT hP 48 mw_48 rfl 15 (by decide) k_7_129 rfl rfl d_MT_value_178 ?_
                obtain ⟨q3, hq3, h⟩ := o_bd_some h
                refine o_V (st1 := [.int q3.1]) (w1 := (m_cw ad ca rt Mm M0 q3.2)) hE.1 C (e_MT_bad_1 hE l (MT_at a0) a0 Mm M0 rt hq3) hP (hDD _ _ _ _) hS hl.1 rfl mw_48 k_8_203 k_8_204 k_8_205 k_1_13 k_8_206 hv_MT_bad rfl rfl ⟨(Nat.le_of_ble_eq_true rfl), (Nat.le_of_ble_eq_true rfl)⟩ rfl (Nat.le_of_ble_eq_true rfl) ⟨Nat.zero_le _, Nat.zero_le _⟩ rfl d_MT_value_181 (fun H locs hP hS => ?_)
                obtain ⟨g11, h⟩ := o_gd_some h
                cases h
                exact o_rz C (o_zb_nar g11) hP hS d_MT_value_184
            · replace h := o_ff c8 h
              refine lv_aload_n hx hb d_MT_value_164 rfl (lv_at hl 0 rfl) ?_
              refine lv_iload_n hx hb d_MT_value_165 rfl (lv_at hl 1 rfl) ?_
              cases h
          · replace h := o_tt c7 h
            refine lv_aload_n hx hb d_MT_value_153 rfl (lv_at hl 0 rfl) ?_
            refine lv_iload_n hx hb d_MT_value_154 rfl (lv_at hl 1 rfl) ?_
            cases h
        · replace h := o_tt c6 h
          refine lv_aload_n hx hb d_MT_value_138 rfl (lv_at hl 0 rfl) ?_
          refine va_ldcS (q := sd 3) hx hb hown (hE.2.2.2.2.2.1 _ _ _ C.2.2.2.2.2.2.2.2.2 ("SchemaJudgeModel$Text", 115, "false", 3) (List.mem_of_getElem? (i := 86) rfl)) d_MT_value_139 ?_
          refine lv_iload_n hx hb d_MT_value_141 rfl (lv_at hl 1 rfl) ?_
          refine lv_iconst (v := (1:Int32)) hx hb d_MT_value_142 (by decide) ?_
          cases h
      · replace h := o_tt c5 h
        refine lv_aload_n hx hb d_MT_value_123 rfl (lv_at hl 0 rfl) ?_
        refine va_ldcS (q := sd 4) hx hb hown (hE.2.2.2.2.2.1 _ _ _ C.2.2.2.2.2.2.2.2.2 ("SchemaJudgeModel$Text", 113, "true", 4) (List.mem_of_getElem? (i := 85) rfl)) d_MT_value_124 ?_
        refine lv_iload_n hx hb d_MT_value_126 rfl (lv_at hl 1 rfl) ?_
        refine lv_iconst (v := (2:Int32)) hx hb d_MT_value_127 (by decide) ?_
        cases h
    · replace h := o_tt c4 h
      refine lv_aload_n hx hb d_MT_value_108 rfl (lv_at hl 0 rfl) ?_
      refine va_ldcS (q := sd 2) hx hb hown (hE.2.2.2.2.2.1 _ _ _ C.2.2.2.2.2.2.2.2.2 ("SchemaJudgeModel$Text", 107, "null", 2) (List.mem_of_getElem? (i := 84) rfl)) d_MT_value_109 ?_
      refine lv_iload_n hx hb d_MT_value_111 rfl (lv_at hl 1 rfl) ?_
      refine lv_iconst (v := (0:Int32)) hx hb d_MT_value_112 (by decide) ?_
      cases h
  · replace h := o_tt c3 h
    refine lv_aload_n hx hb d_MT_value_93 rfl (lv_at hl 0 rfl) ?_
    refine lv_aload_n hx hb d_MT_value_94 rfl (lv_at hl 0 rfl) ?_
    refine o_get (v := .int (MT_at a0)) C in_MT hP 48 mw_48 rfl 15 (by decide) k_7_129 rfl rfl d_MT_value_95 ?_
    obtain ⟨q4, hq4, h⟩ := o_bd_some h
    refine o_V (st1 := [.int q4.1]) (w1 := (m_cw ad ca rt Mm M0 q4.2)) hE.1 C (e_MT_bad_1 hE l (MT_at a0) a0 Mm M0 rt hq4) hP (hDD _ _ _ _) hS hl.1 rfl mw_48 k_8_203 k_8_204 k_8_205 k_1_13 k_8_206 hv_MT_bad rfl rfl ⟨(Nat.le_of_ble_eq_true rfl), (Nat.le_of_ble_eq_true rfl)⟩ rfl (Nat.le_of_ble_eq_true rfl) ⟨Nat.zero_le _, Nat.zero_le _⟩ rfl d_MT_value_98 (fun H locs hP hS => ?_)
    obtain ⟨g12, h⟩ := o_gd_some h
    cases h
    exact o_rz C (o_zb_nar g12) hP hS d_MT_value_101
set_option maxHeartbeats 4000000 in
set_option maxRecDepth 100000 in
theorem f_MT_value_j31_1 {E : (Nat → Prop) → State → Heap → Prop} {p : Program} {l : Launch} {e : Env} {s : State} {m : MethodId} {args : Array Value} {below : List Frame} {meth : Method} {c : Code} {D : va_G} {ad kd sd vd xd : Nat → Nat} {ca : Nat → ClassId} {A : Nat → Prop} (hE : o_EK E kd sd vd xd) (C : o_Cx E p s m args meth c D m_cls (m_tys ca) "SchemaJudgeModel$Text" b_MT_value (some .boolean) 5 cc_MT_value A) (hDD : ∀ (rt : Value) (Mm : SMM) (M0 : SMT) (M1 : SMT), va_D A (m_cw ad ca rt Mm M0 M1)) (x1 : Int32) (x2 : Int32) (x3 : Int32) (y0 : Int32) (a0 : SMT) (Mm : SMM) (M0 : SMT) (rt : Value) {r : Int32 × SMT} (h : m_MT_value_j31 x1 x2 x3 y0 a0 = some r) : o_At p l e rm_MT_value s m args below meth c (MQ below (o_Qx D m_cls (some (.int r.1)) (m_cw ad ca rt Mm M0 r.2) A) args s 0 0 A) m_cls D A 5 31 [.int y0] (m_cw ad ca rt Mm M0 a0) [(0, .ref (ad 48)), (1, .int x1), (2, .int x2), (3, .int x3)] := by
  unfold m_MT_value_j31 at h
  intro H locs ls hP hS hl
  have C0 := C
  obtain ⟨hx, hb, -, -, -, hown, hts, hK, -, -⟩ := C0
  refine lv_istore (lv' := [(4, .int y0), (0, .ref (ad 48)), (1, .int x1), (2, .int x2), (3, .int x3)]) hx hb d_MT_value_31 hl (by decide) rfl (fun ls hl => ?_)
  refine lv_iload_n hx hb d_MT_value_33 rfl (lv_at hl 4 rfl) ?_
  refine lv_bipush (v := (110:Int32)) hx hb d_MT_value_34 (by decide) ?_
  refine lv_icmp_eq (tgt := 83) hx hb d_MT_value_36 (by decide) (fun c2 => ?_) (fun c2 => ?_)
  · replace h := o_tt c2 h
    exact f_MT_value_j83_1 hE C hDD x1 x2 x3 y0 a0 Mm M0 rt h _ _ _ hP hS (lv_sub hl [1, 2, 3, 4, 0] rfl)
  · replace h := o_ff c2 h
    refine lv_iload_n hx hb d_MT_value_39 rfl (lv_at hl 4 rfl) ?_
    refine lv_bipush (v := (116:Int32)) hx hb d_MT_value_40 (by decide) ?_
    refine lv_icmp_eq (tgt := 83) hx hb d_MT_value_42 (by decide) (fun c13 => ?_) (fun c13 => ?_)
    · replace h := o_tt c13 h
      exact f_MT_value_j83_1 hE C hDD x1 x2 x3 y0 a0 Mm M0 rt h _ _ _ hP hS (lv_sub hl [1, 2, 3, 4, 0] rfl)
    · replace h := o_ff c13 h
      refine lv_iload_n hx hb d_MT_value_45 rfl (lv_at hl 4 rfl) ?_
      refine lv_bipush (v := (102:Int32)) hx hb d_MT_value_46 (by decide) ?_
      refine lv_icmp_eq (tgt := 83) hx hb d_MT_value_48 (by decide) (fun c14 => ?_) (fun c14 => ?_)
      · replace h := o_tt c14 h
        exact f_MT_value_j83_1 hE C hDD x1 x2 x3 y0 a0 Mm M0 rt h _ _ _ hP hS (lv_sub hl [1, 2, 3, 4, 0] rfl)
      · replace h := o_ff c14 h
        refine lv_iload_n hx hb d_MT_value_51 rfl (lv_at hl 4 rfl) ?_
        refine lv_bipush (v := (34:Int32)) hx hb d_MT_value_52 (by decide) ?_
        refine lv_icmp_eq (tgt := 83) hx hb d_MT_value_54 (by decide) (fun c15 => ?_) (fun c15 => ?_)
        · replace h := o_tt c15 h
          exact f_MT_value_j83_1 hE C hDD x1 x2 x3 y0 a0 Mm M0 rt h _ _ _ hP hS (lv_sub hl [1, 2, 3, 4, 0] rfl)
        · replace h := o_ff c15 h
          refine lv_iload_n hx hb d_MT_value_57 rfl (lv_at hl 4 rfl) ?_
          refine lv_bipush (v := (91:Int32)) hx hb d_MT_value_58 (by decide) ?_
          refine lv_icmp_eq (tgt := 83) hx hb d_MT_value_60 (by decide) (fun c16 => ?_) (fun c16 => ?_)
          · replace h := o_tt c16 h
            exact f_MT_value_j83_1 hE C hDD x1 x2 x3 y0 a0 Mm M0 rt h _ _ _ hP hS (lv_sub hl [1, 2, 3, 4, 0] rfl)
          · replace h := o_ff c16 h
            refine lv_iload_n hx hb d_MT_value_63 rfl (lv_at hl 4 rfl) ?_
            refine lv_bipush (v := (123:Int32)) hx hb d_MT_value_64 (by decide) ?_
            refine lv_icmp_eq (tgt := 83) hx hb d_MT_value_66 (by decide) (fun c17 => ?_) (fun c17 => ?_)
            · replace h := o_tt c17 h
              exact f_MT_value_j83_1 hE C hDD x1 x2 x3 y0 a0 Mm M0 rt h _ _ _ hP hS (lv_sub hl [1, 2, 3, 4, 0] rfl)
            · replace h := o_ff c17 h
              refine lv_iload hx hb d_MT_value_69 (lv_at hl 0 rfl) ?_
              refine lv_if_ne (tgt := 83) hx hb d_MT_value_71 (by decide) (fun c18 => ?_) (fun c18 => ?_)
              · replace h := o_ff c18 h
                exact f_MT_value_j83_1 hE C hDD x1 x2 x3 y0 a0 Mm M0 rt h _ _ _ hP hS (lv_sub hl [1, 2, 3, 4, 0] rfl)
              · replace h := o_tt c18 h
                refine lv_aload_n hx hb d_MT_value_74 rfl (lv_at hl 1 rfl) ?_
                refine lv_aload_n hx hb d_MT_value_75 rfl (lv_at hl 1 rfl) ?_
                refine o_get (v := .int (MT_at a0)) C in_MT hP 48 mw_48 rfl 15 (by decide) k_7_129 rfl rfl d_MT_value_76 ?_
                obtain ⟨q5, hq5, h⟩ := o_bd_some h
                refine o_V (st1 := [.int q5.1]) (w1 := (m_cw ad ca rt Mm M0 q5.2)) hE.1 C (e_MT_bad_1 hE l (MT_at a0) a0 Mm M0 rt hq5) hP (hDD _ _ _ _) hS hl.1 rfl mw_48 k_8_203 k_8_204 k_8_205 k_1_13 k_8_206 hv_MT_bad rfl rfl ⟨(Nat.le_of_ble_eq_true rfl), (Nat.le_of_ble_eq_true rfl)⟩ rfl (Nat.le_of_ble_eq_true rfl) ⟨Nat.zero_le _, Nat.zero_le _⟩ rfl d_MT_value_79 (fun H locs hP hS => ?_)
                obtain ⟨g19, h⟩ := o_gd_some h
                cases h
                exact o_rz C (o_zb_nar g19) hP hS d_MT_value_82
set_option maxHeartbeats 4000000 in
set_option maxRecDepth 100000 in
theorem e_MT_value_1 {E : (Nat → Prop) → State → Heap → Prop} {D : va_G} {ad kd sd vd xd : Nat → Nat} {ca : Nat → ClassId} (hE : o_EK E kd sd vd xd) (l : Launch) (x1 : Int32) (x2 : Int32) (a0 : SMT) (Mm : SMM) (M0 : SMT) (rt : Value) {r : Int32 × SMT} (h : m_MT_value x1 x2 a0 = some r) : o_Cn E l D m_cls (m_tys ca) y_MT_value cc_MT_value rm_MT_value [.ref (ad 48), .int x1, .int x2] (m_cw ad ca rt Mm M0 a0) (m_cw ad ca rt Mm M0 r.2) (some (.int r.1)) := by
  refine o_Cn_of (by decide) (Nat.le_of_ble_eq_true rfl) ?_
  intro p e s m below meth c A ls C hD hP hS hl
  have hDD : ∀ (rt : Value) (Mm : SMM) (M0 : SMT) (M1 : SMT), va_D A (m_cw ad ca rt Mm M0 M1) := fun _ _ _ _ => o_D_map hD rfl
  have hl : lv_has ls 5 [(0, .ref (ad 48)), (1, .int x1), (2, .int x2)] := hl
  unfold m_MT_value at h
  have C0 := C
  obtain ⟨hx, hb, -, -, -, hown, hts, hK, -, -⟩ := C0
  refine lv_aload_n hx hb d_MT_value_0 rfl (lv_at hl 0 rfl) ?_
  refine lv_aload_n hx hb d_MT_value_1 rfl (lv_at hl 0 rfl) ?_
  refine o_get (v := .int (MT_at a0)) C in_MT hP 48 mw_48 rfl 15 (by decide) k_7_129 rfl rfl d_MT_value_2 ?_
  obtain ⟨q1, hq1, h⟩ := o_bd_some h
  refine o_V (st1 := [.int q1]) (w1 := (m_cw ad ca rt Mm M0 a0)) hE.1 C (e_MT_c_1 hE l (MT_at a0) a0 Mm M0 rt hq1) hP (hDD _ _ _ _) hS hl.1 rfl mw_48 k_8_192 k_8_193 k_8_194 k_1_13 k_8_195 hv_MT_c rfl rfl ⟨(Nat.le_of_ble_eq_true rfl), (Nat.le_of_ble_eq_true rfl)⟩ rfl (Nat.le_of_ble_eq_true rfl) ⟨Nat.zero_le _, Nat.zero_le _⟩ rfl d_MT_value_5 (fun H locs hP hS => ?_)
  refine lv_istore_n (lv' := [(3, .int q1), (0, .ref (ad 48)), (1, .int x1), (2, .int x2)]) hx hb d_MT_value_8 rfl hl (by decide) rfl (fun ls hl => ?_)
  refine lv_iload_n hx hb d_MT_value_9 rfl (lv_at hl 0 rfl) ?_
  refine lv_bipush (v := (48:Int32)) hx hb d_MT_value_10 (by decide) ?_
  refine lv_bipush (v := (57:Int32)) hx hb d_MT_value_12 (by decide) ?_
  obtain ⟨q2, hq2, h⟩ := o_bd_some h
  refine o_SN (st1 := [.int q2]) (w1 := (m_cw ad ca rt Mm M0 a0)) hE.1 C (e_MM_in hE l q1 (48:Int32) (57:Int32) Mm M0 a0 rt hq2) hP (hDD _ _ _ _) hS hl.1 (hE.2.1 _ _ _ C.2.2.2.2.2.2.2.2.2 _ nw_21) k_8_201 k_1_12 k_8_202 hs_MM_in rfl rfl ⟨(Nat.le_of_ble_eq_true rfl), (Nat.le_of_ble_eq_true rfl)⟩ rfl (Nat.le_of_ble_eq_true rfl) ⟨Nat.zero_le _, Nat.zero_le _⟩ rfl d_MT_value_14 (fun H locs hP hS => ?_)
  refine lv_if_ne (tgt := 26) hx hb d_MT_value_17 (by decide) (fun c1 => ?_) (fun c1 => ?_)
  · replace h := o_ff c1 h
    refine lv_iconst (v := (1:Int32)) hx hb d_MT_value_26 (by decide) ?_
    refine lv_goto (tgt := 31) hx hb d_MT_value_27 (by decide) ?_
    exact f_MT_value_j31_1 hE C hDD x1 x2 q1 (1:Int32) a0 Mm M0 rt h _ _ _ hP hS (lv_sub hl [1, 2, 3, 0] rfl)
  · replace h := o_tt c1 h
    refine lv_iload_n hx hb d_MT_value_20 rfl (lv_at hl 0 rfl) ?_
    refine lv_bipush (v := (45:Int32)) hx hb d_MT_value_21 (by decide) ?_
    refine lv_icmp_ne (tgt := 30) hx hb d_MT_value_23 (by decide) (fun c20 => ?_) (fun c20 => ?_)
    · replace h := o_ff c20 h
      refine lv_iconst (v := (0:Int32)) hx hb d_MT_value_30 (by decide) ?_
      exact f_MT_value_j31_1 hE C hDD x1 x2 q1 (0:Int32) a0 Mm M0 rt h _ _ _ hP hS (lv_sub hl [1, 2, 3, 0] rfl)
    · replace h := o_tt c20 h
      refine lv_iconst (v := (1:Int32)) hx hb d_MT_value_26 (by decide) ?_
      refine lv_goto (tgt := 31) hx hb d_MT_value_27 (by decide) ?_
      exact f_MT_value_j31_1 hE C hDD x1 x2 q1 (1:Int32) a0 Mm M0 rt h _ _ _ hP hS (lv_sub hl [1, 2, 3, 0] rfl)
set_option maxHeartbeats 4000000 in
set_option maxRecDepth 100000 in
theorem f_MT_read_j67_0 {E : (Nat → Prop) → State → Heap → Prop} {p : Program} {l : Launch} {e : Env} {s : State} {m : MethodId} {args : Array Value} {below : List Frame} {meth : Method} {c : Code} {D : va_G} {ad kd sd vd xd : Nat → Nat} {ca : Nat → ClassId} {A : Nat → Prop} (hE : o_EK E kd sd vd xd) (C : o_Cx E p s m args meth c D m_cls (m_tys ca) "SchemaJudgeModel$Text" b_MT_read (some .int) 2 cc_MT_read A) (hDD : ∀ (rt : Value) (Mm : SMM) (M0 : SMT) (M1 : SMT), va_D A (m_cw ad ca rt Mm M0 M1)) (n : Nat)  (a0 : SMT) (Mm : SMM) (M1 : SMT) (rt : Value) {r : Int32 × SMT} (h : m_MT_read_j67 n a0 = some r) : o_At p l e rm_MT_read s m args below meth c (MQ below (o_Qx D m_cls (some (.int r.1)) (m_cw ad ca rt Mm r.2 M1) A) args s 0 0 A) m_cls D A 2 67 [] (m_cw ad ca rt Mm a0 M1) [(0, .ref (ad 33))] := by
  unfold m_MT_read_j67 at h
  intro H locs ls hP hS hl
  have C0 := C
  obtain ⟨hx, hb, -, -, -, hown, hts, hK, -, -⟩ := C0
  refine lv_aload_n hx hb d_MT_read_67 rfl (lv_at hl 0 rfl) ?_
  refine o_get (v := .int (MT_wrong a0)) C in_MT hP 33 mw_33 rfl 16 (by decide) k_7_130 rfl rfl d_MT_read_68 ?_
  refine lv_if_lt (tgt := 79) hx hb d_MT_read_71 (by decide) (fun c2 => ?_) (fun c2 => ?_)
  · replace h := o_tt c2 h
    refine lv_aload_n hx hb d_MT_read_79 rfl (lv_at hl 0 rfl) ?_
    refine o_get (v := .int (MT_wrong a0)) C in_MT hP 33 mw_33 rfl 16 (by decide) k_7_130 rfl rfl d_MT_read_80 ?_
    cases h
    exact o_ri (v := (MT_wrong a0)) C hP hS d_MT_read_83
  · replace h := o_ff c2 h
    refine lv_aload_n hx hb d_MT_read_74 rfl (lv_at hl 0 rfl) ?_
    refine lv_iconst (v := (0:Int32)) hx hb d_MT_read_75 (by decide) ?_
    refine o_put (v := .int (0:Int32)) (ty := .int) (w1 := (m_cw ad ca rt Mm (MT_mk (MT_text a0) (MT_kind a0) (MT_place a0) (MT_many a0) (MT_parent a0) (MT_power a0) (MT_first a0) (MT_next a0) (MT_name a0) (MT_from a0) (MT_characters a0) (MT_digits a0) (MT_minus a0) (0:Int32) (MT_letters a0) (MT_at a0) (MT_wrong a0) (MT_used a0) (MT_written a0) (MT_left a0)) M1)) C in_MT t_MT t_MT_ok n_MT hP (hDD _ _ _ _) hS 33 mw_33 rfl 13 (by decide) k_7_126 rfl rfl (by decide +kernel) rfl rfl (Nat.le_of_ble_eq_true rfl) rfl d_MT_read_76 (fun H locs hP hS => ?_)
    refine lv_aload_n hx hb d_MT_read_79 rfl (lv_at hl 0 rfl) ?_
    refine o_get (v := .int (MT_wrong a0)) C in_MT hP 33 mw_33 rfl 16 (by decide) k_7_130 rfl rfl d_MT_read_80 ?_
    cases h
    exact o_ri (v := (MT_wrong a0)) C hP hS d_MT_read_83
set_option maxHeartbeats 4000000 in
set_option maxRecDepth 100000 in
theorem e_MT_read_0 {E : (Nat → Prop) → State → Heap → Prop} {D : va_G} {ad kd sd vd xd : Nat → Nat} {ca : Nat → ClassId} (hE : o_EK E kd sd vd xd) (l : Launch) (n : Nat) (x1 : Int32) (a0 : SMT) (Mm : SMM) (M1 : SMT) (rt : Value) {r : Int32 × SMT} (h : m_MT_read n x1 a0 = some r) : o_Cn E l D m_cls (m_tys ca) y_MT_read cc_MT_read rm_MT_read [.ref (ad 33), .int x1] (m_cw ad ca rt Mm a0 M1) (m_cw ad ca rt Mm r.2 M1) (some (.int r.1)) := by
  refine o_Cn_of (by decide) (Nat.le_of_ble_eq_true rfl) ?_
  intro p e s m below meth c A ls C hD hP hS hl
  have hDD : ∀ (rt : Value) (Mm : SMM) (M0 : SMT) (M1 : SMT), va_D A (m_cw ad ca rt Mm M0 M1) := fun _ _ _ _ => o_D_map hD rfl
  have hl : lv_has ls 2 [(0, .ref (ad 33)), (1, .int x1)] := hl
  unfold m_MT_read at h
  have C0 := C
  obtain ⟨hx, hb, -, -, -, hown, hts, hK, -, -⟩ := C0
  refine lv_aload_n hx hb d_MT_read_0 rfl (lv_at hl 0 rfl) ?_
  refine lv_iload_n hx hb d_MT_read_1 rfl (lv_at hl 1 rfl) ?_
  refine o_put (v := .int x1) (ty := .int) (w1 := (m_cw ad ca rt Mm (MT_mk (MT_text a0) (MT_kind a0) (MT_place a0) (MT_many a0) (MT_parent a0) (MT_power a0) (MT_first a0) (MT_next a0) (MT_name a0) (MT_from a0) (MT_characters a0) (MT_digits a0) (MT_minus a0) (MT_values a0) x1 (MT_at a0) (MT_wrong a0) (MT_used a0) (MT_written a0) (MT_left a0)) M1)) C in_MT t_MT t_MT_ok n_MT hP (hDD _ _ _ _) hS 33 mw_33 rfl 14 (by decide) k_7_128 rfl rfl (by decide +kernel) rfl rfl (Nat.le_of_ble_eq_true rfl) rfl d_MT_read_2 (fun H locs hP hS => ?_)
  refine lv_aload_n hx hb d_MT_read_5 rfl (lv_at hl 0 rfl) ?_
  refine lv_iconst (v := (0:Int32)) hx hb d_MT_read_6 (by decide) ?_
  refine o_put (v := .int (0:Int32)) (ty := .int) (w1 := (m_cw ad ca rt Mm (MT_mk (MT_text a0) (MT_kind a0) (MT_place a0) (MT_many a0) (MT_parent a0) (MT_power a0) (MT_first a0) (MT_next a0) (MT_name a0) (MT_from a0) (MT_characters a0) (MT_digits a0) (MT_minus a0) (MT_values a0) x1 (0:Int32) (MT_wrong a0) (MT_used a0) (MT_written a0) (MT_left a0)) M1)) C in_MT t_MT t_MT_ok n_MT hP (hDD _ _ _ _) hS 33 mw_33 rfl 15 (by decide) k_7_129 rfl rfl (by decide +kernel) rfl rfl (Nat.le_of_ble_eq_true rfl) rfl d_MT_read_7 (fun H locs hP hS => ?_)
  refine lv_aload_n hx hb d_MT_read_10 rfl (lv_at hl 0 rfl) ?_
  refine lv_iconst (v := (-1:Int32)) hx hb d_MT_read_11 (by decide) ?_
  refine o_put (v := .int (-1:Int32)) (ty := .int) (w1 := (m_cw ad ca rt Mm (MT_mk (MT_text a0) (MT_kind a0) (MT_place a0) (MT_many a0) (MT_parent a0) (MT_power a0) (MT_first a0) (MT_next a0) (MT_name a0) (MT_from a0) (MT_characters a0) (MT_digits a0) (MT_minus a0) (MT_values a0) x1 (0:Int32) (-1:Int32) (MT_used a0) (MT_written a0) (MT_left a0)) M1)) C in_MT t_MT t_MT_ok n_MT hP (hDD _ _ _ _) hS 33 mw_33 rfl 16 (by decide) k_7_130 rfl rfl (by decide +kernel) rfl rfl (Nat.le_of_ble_eq_true rfl) rfl d_MT_read_12 (fun H locs hP hS => ?_)
  refine lv_aload_n hx hb d_MT_read_15 rfl (lv_at hl 0 rfl) ?_
  refine lv_iconst (v := (0:Int32)) hx hb d_MT_read_16 (by decide) ?_
  refine o_put (v := .int (0:Int32)) (ty := .int) (w1 := (m_cw ad ca rt Mm (MT_mk (MT_text a0) (MT_kind a0) (MT_place a0) (MT_many a0) (MT_parent a0) (MT_power a0) (MT_first a0) (MT_next a0) (MT_name a0) (MT_from a0) (MT_characters a0) (MT_digits a0) (MT_minus a0) (0:Int32) x1 (0:Int32) (-1:Int32) (MT_used a0) (MT_written a0) (MT_left a0)) M1)) C in_MT t_MT t_MT_ok n_MT hP (hDD _ _ _ _) hS 33 mw_33 rfl 13 (by decide) k_7_126 rfl rfl (by decide +kernel) rfl rfl (Nat.le_of_ble_eq_true rfl) rfl d_MT_read_17 (fun H locs hP hS => ?_)
  refine lv_aload_n hx hb d_MT_read_20 rfl (lv_at hl 0 rfl) ?_
  refine lv_iconst (v := (0:Int32)) hx hb d_MT_read_21 (by decide) ?_
  refine o_put (v := .int (0:Int32)) (ty := .int) (w1 := (m_cw ad ca rt Mm (MT_mk (MT_text a0) (MT_kind a0) (MT_place a0) (MT_many a0) (MT_parent a0) (MT_power a0) (MT_first a0) (MT_next a0) (MT_name a0) (MT_from a0) (MT_characters a0) (MT_digits a0) (MT_minus a0) (0:Int32) x1 (0:Int32) (-1:Int32) (0:Int32) (MT_written a0) (MT_left a0)) M1)) C in_MT t_MT t_MT_ok n_MT hP (hDD _ _ _ _) hS 33 mw_33 rfl 17 (by decide) k_7_131 rfl rfl (by decide +kernel) rfl rfl (Nat.le_of_ble_eq_true rfl) rfl d_MT_read_22 (fun H locs hP hS => ?_)
  refine lv_aload_n hx hb d_MT_read_25 rfl (lv_at hl 0 rfl) ?_
  refine lv_iconst (v := (0:Int32)) hx hb d_MT_read_26 (by decide) ?_
  refine o_put (v := .int (0:Int32)) (ty := .int) (w1 := (m_cw ad ca rt Mm (MT_mk (MT_text a0) (MT_kind a0) (MT_place a0) (MT_many a0) (MT_parent a0) (MT_power a0) (MT_first a0) (MT_next a0) (MT_name a0) (MT_from a0) (MT_characters a0) (MT_digits a0) (MT_minus a0) (0:Int32) x1 (0:Int32) (-1:Int32) (0:Int32) (0:Int32) (MT_left a0)) M1)) C in_MT t_MT t_MT_ok n_MT hP (hDD _ _ _ _) hS 33 mw_33 rfl 18 (by decide) k_7_132 rfl rfl (by decide +kernel) rfl rfl (Nat.le_of_ble_eq_true rfl) rfl d_MT_read_27 (fun H locs hP hS => ?_)
  refine lv_aload_n hx hb d_MT_read_30 rfl (lv_at hl 0 rfl) ?_
  obtain ⟨q1, hq1, h⟩ := o_bd_some h
  refine o_V (st1 := []) (w1 := (m_cw ad ca rt Mm q1 M1)) hE.1 C (e_MT_blanks_0 hE l n (MT_mk (MT_text a0) (MT_kind a0) (MT_place a0) (MT_many a0) (MT_parent a0) (MT_power a0) (MT_first a0) (MT_next a0) (MT_name a0) (MT_from a0) (MT_characters a0) (MT_digits a0) (MT_minus a0) (0:Int32) x1 (0:Int32) (-1:Int32) (0:Int32) (0:Int32) (MT_left a0)) Mm M1 rt hq1) hP (hDD _ _ _ _) hS hl.1 rfl mw_33 k_8_188 k_8_189 k_8_190 k_1_13 k_8_191 hv_MT_blanks rfl rfl ⟨(Nat.le_of_ble_eq_true rfl), (Nat.le_of_ble_eq_true rfl)⟩ rfl (Nat.le_of_ble_eq_true rfl) ⟨Nat.zero_le _, Nat.zero_le _⟩ rfl d_MT_read_31 (fun H locs hP hS => ?_)
  refine lv_aload_n hx hb d_MT_read_34 rfl (lv_at hl 0 rfl) ?_
  refine lv_iconst (v := (-1:Int32)) hx hb d_MT_read_35 (by decide) ?_
  refine lv_iconst (v := (0:Int32)) hx hb d_MT_read_36 (by decide) ?_
  obtain ⟨q2, hq2, h⟩ := o_bd_some h
  refine o_V (st1 := [.int q2.1]) (w1 := (m_cw ad ca rt Mm q2.2 M1)) hE.1 C (e_MT_value_0 hE l (-1:Int32) (0:Int32) q1 Mm M1 rt hq2) hP (hDD _ _ _ _) hS hl.1 rfl mw_33 k_8_196 k_8_197 k_8_198 k_1_13 k_8_199 hv_MT_value rfl rfl ⟨(Nat.le_of_ble_eq_true rfl), (Nat.le_of_ble_eq_true rfl)⟩ rfl (Nat.le_of_ble_eq_true rfl) ⟨Nat.zero_le _, Nat.zero_le _⟩ rfl d_MT_read_37 (fun H locs hP hS => ?_)
  refine lv_if_eq (tgt := 67) hx hb d_MT_read_40 (by decide) (fun c1 => ?_) (fun c1 => ?_)
  · replace h := o_tt c1 h
    exact f_MT_read_j67_0 hE C hDD n q2.2 Mm M1 rt h _ _ _ hP hS (lv_sub hl [0] rfl)
  · replace h := o_ff c1 h
    refine lv_aload_n hx hb d_MT_read_43 rfl (lv_at hl 0 rfl) ?_
    obtain ⟨q3, hq3, h⟩ := o_bd_some h
    refine o_V (st1 := []) (w1 := (m_cw ad ca rt Mm q3 M1)) hE.1 C (e_MT_blanks_0 hE l n q2.2 Mm M1 rt hq3) hP (hDD _ _ _ _) hS hl.1 rfl mw_33 k_8_188 k_8_189 k_8_190 k_1_13 k_8_191 hv_MT_blanks rfl rfl ⟨(Nat.le_of_ble_eq_true rfl), (Nat.le_of_ble_eq_true rfl)⟩ rfl (Nat.le_of_ble_eq_true rfl) ⟨Nat.zero_le _, Nat.zero_le _⟩ rfl d_MT_read_44 (fun H locs hP hS => ?_)
    refine lv_aload_n hx hb d_MT_read_47 rfl (lv_at hl 0 rfl) ?_
    refine o_get (v := .int (MT_at q3)) C in_MT hP 33 mw_33 rfl 15 (by decide) k_7_129 rfl rfl d_MT_read_48 ?_
    refine lv_aload_n hx hb d_MT_read_51 rfl (lv_at hl 0 rfl) ?_
    refine o_get (v := .int (MT_letters q3)) C in_MT hP 33 mw_33 rfl 14 (by decide) k_7_128 rfl rfl d_MT_read_52 ?_
    refine lv_icmp_ge (tgt := 67) hx hb d_MT_read_55 (by decide) (fun c3 => ?_) (fun c3 => ?_)
    · replace h := o_tt c3 h
      exact f_MT_read_j67_0 hE C hDD n q3 Mm M1 rt h _ _ _ hP hS (lv_sub hl [0] rfl)
    · replace h := o_ff c3 h
      refine lv_aload_n hx hb d_MT_read_58 rfl (lv_at hl 0 rfl) ?_
      refine lv_aload_n hx hb d_MT_read_59 rfl (lv_at hl 0 rfl) ?_
      refine o_get (v := .int (MT_at q3)) C in_MT hP 33 mw_33 rfl 15 (by decide) k_7_129 rfl rfl d_MT_read_60 ?_
      obtain ⟨q4, hq4, h⟩ := o_bd_some h
      refine o_V (st1 := [.int q4.1]) (w1 := (m_cw ad ca rt Mm q4.2 M1)) hE.1 C (e_MT_bad_0 hE l (MT_at q3) q3 Mm M1 rt hq4) hP (hDD _ _ _ _) hS hl.1 rfl mw_33 k_8_203 k_8_204 k_8_205 k_1_13 k_8_206 hv_MT_bad rfl rfl ⟨(Nat.le_of_ble_eq_true rfl), (Nat.le_of_ble_eq_true rfl)⟩ rfl (Nat.le_of_ble_eq_true rfl) ⟨Nat.zero_le _, Nat.zero_le _⟩ rfl d_MT_read_63 (fun H locs hP hS => ?_)
      refine lv_pop hx hb d_MT_read_66 rfl ?_
      exact f_MT_read_j67_0 hE C hDD n q4.2 Mm M1 rt h _ _ _ hP hS (lv_sub hl [0] rfl)
set_option maxHeartbeats 4000000 in
set_option maxRecDepth 100000 in
theorem f_MT_read_j67_1 {E : (Nat → Prop) → State → Heap → Prop} {p : Program} {l : Launch} {e : Env} {s : State} {m : MethodId} {args : Array Value} {below : List Frame} {meth : Method} {c : Code} {D : va_G} {ad kd sd vd xd : Nat → Nat} {ca : Nat → ClassId} {A : Nat → Prop} (hE : o_EK E kd sd vd xd) (C : o_Cx E p s m args meth c D m_cls (m_tys ca) "SchemaJudgeModel$Text" b_MT_read (some .int) 2 cc_MT_read A) (hDD : ∀ (rt : Value) (Mm : SMM) (M0 : SMT) (M1 : SMT), va_D A (m_cw ad ca rt Mm M0 M1)) (n : Nat)  (a0 : SMT) (Mm : SMM) (M0 : SMT) (rt : Value) {r : Int32 × SMT} (h : m_MT_read_j67 n a0 = some r) : o_At p l e rm_MT_read s m args below meth c (MQ below (o_Qx D m_cls (some (.int r.1)) (m_cw ad ca rt Mm M0 r.2) A) args s 0 0 A) m_cls D A 2 67 [] (m_cw ad ca rt Mm M0 a0) [(0, .ref (ad 48))] := by
  unfold m_MT_read_j67 at h
  intro H locs ls hP hS hl
  have C0 := C
  obtain ⟨hx, hb, -, -, -, hown, hts, hK, -, -⟩ := C0
  refine lv_aload_n hx hb d_MT_read_67 rfl (lv_at hl 0 rfl) ?_
  refine o_get (v := .int (MT_wrong a0)) C in_MT hP 48 mw_48 rfl 16 (by decide) k_7_130 rfl rfl d_MT_read_68 ?_
  refine lv_if_lt (tgt := 79) hx hb d_MT_read_71 (by decide) (fun c2 => ?_) (fun c2 => ?_)
  · replace h := o_tt c2 h
    refine lv_aload_n hx hb d_MT_read_79 rfl (lv_at hl 0 rfl) ?_
    refine o_get (v := .int (MT_wrong a0)) C in_MT hP 48 mw_48 rfl 16 (by decide) k_7_130 rfl rfl d_MT_read_80 ?_
    cases h
    exact o_ri (v := (MT_wrong a0)) C hP hS d_MT_read_83
  · replace h := o_ff c2 h
    refine lv_aload_n hx hb d_MT_read_74 rfl (lv_at hl 0 rfl) ?_
    refine lv_iconst (v := (0:Int32)) hx hb d_MT_read_75 (by decide) ?_
    refine o_put (v := .int (0:Int32)) (ty := .int) (w1 := (m_cw ad ca rt Mm M0 (MT_mk (MT_text a0) (MT_kind a0) (MT_place a0) (MT_many a0) (MT_parent a0) (MT_power a0) (MT_first a0) (MT_next a0) (MT_name a0) (MT_from a0) (MT_characters a0) (MT_digits a0) (MT_minus a0) (0:Int32) (MT_letters a0) (MT_at a0) (MT_wrong a0) (MT_used a0) (MT_written a0) (MT_left a0)))) C in_MT t_MT t_MT_ok n_MT hP (hDD _ _ _ _) hS 48 mw_48 rfl 13 (by decide) k_7_126 rfl rfl (by decide +kernel) rfl rfl (Nat.le_of_ble_eq_true rfl) rfl d_MT_read_76 (fun H locs hP hS => ?_)
    refine lv_aload_n hx hb d_MT_read_79 rfl (lv_at hl 0 rfl) ?_
    refine o_get (v := .int (MT_wrong a0)) C in_MT hP 48 mw_48 rfl 16 (by decide) k_7_130 rfl rfl d_MT_read_80 ?_
    cases h
    exact o_ri (v := (MT_wrong a0)) C hP hS d_MT_read_83
set_option maxHeartbeats 4000000 in
set_option maxRecDepth 100000 in
theorem e_MT_read_1 {E : (Nat → Prop) → State → Heap → Prop} {D : va_G} {ad kd sd vd xd : Nat → Nat} {ca : Nat → ClassId} (hE : o_EK E kd sd vd xd) (l : Launch) (n : Nat) (x1 : Int32) (a0 : SMT) (Mm : SMM) (M0 : SMT) (rt : Value) {r : Int32 × SMT} (h : m_MT_read n x1 a0 = some r) : o_Cn E l D m_cls (m_tys ca) y_MT_read cc_MT_read rm_MT_read [.ref (ad 48), .int x1] (m_cw ad ca rt Mm M0 a0) (m_cw ad ca rt Mm M0 r.2) (some (.int r.1)) := by
  refine o_Cn_of (by decide) (Nat.le_of_ble_eq_true rfl) ?_
  intro p e s m below meth c A ls C hD hP hS hl
  have hDD : ∀ (rt : Value) (Mm : SMM) (M0 : SMT) (M1 : SMT), va_D A (m_cw ad ca rt Mm M0 M1) := fun _ _ _ _ => o_D_map hD rfl
  have hl : lv_has ls 2 [(0, .ref (ad 48)), (1, .int x1)] := hl
  unfold m_MT_read at h
  have C0 := C
  obtain ⟨hx, hb, -, -, -, hown, hts, hK, -, -⟩ := C0
  refine lv_aload_n hx hb d_MT_read_0 rfl (lv_at hl 0 rfl) ?_
  refine lv_iload_n hx hb d_MT_read_1 rfl (lv_at hl 1 rfl) ?_
  refine o_put (v := .int x1) (ty := .int) (w1 := (m_cw ad ca rt Mm M0 (MT_mk (MT_text a0) (MT_kind a0) (MT_place a0) (MT_many a0) (MT_parent a0) (MT_power a0) (MT_first a0) (MT_next a0) (MT_name a0) (MT_from a0) (MT_characters a0) (MT_digits a0) (MT_minus a0) (MT_values a0) x1 (MT_at a0) (MT_wrong a0) (MT_used a0) (MT_written a0) (MT_left a0)))) C in_MT t_MT t_MT_ok n_MT hP (hDD _ _ _ _) hS 48 mw_48 rfl 14 (by decide) k_7_128 rfl rfl (by decide +kernel) rfl rfl (Nat.le_of_ble_eq_true rfl) rfl d_MT_read_2 (fun H locs hP hS => ?_)
  refine lv_aload_n hx hb d_MT_read_5 rfl (lv_at hl 0 rfl) ?_
  refine lv_iconst (v := (0:Int32)) hx hb d_MT_read_6 (by decide) ?_
  refine o_put (v := .int (0:Int32)) (ty := .int) (w1 := (m_cw ad ca rt Mm M0 (MT_mk (MT_text a0) (MT_kind a0) (MT_place a0) (MT_many a0) (MT_parent a0) (MT_power a0) (MT_first a0) (MT_next a0) (MT_name a0) (MT_from a0) (MT_characters a0) (MT_digits a0) (MT_minus a0) (MT_values a0) x1 (0:Int32) (MT_wrong a0) (MT_used a0) (MT_written a0) (MT_left a0)))) C in_MT t_MT t_MT_ok n_MT hP (hDD _ _ _ _) hS 48 mw_48 rfl 15 (by decide) k_7_129 rfl rfl (by decide +kernel) rfl rfl (Nat.le_of_ble_eq_true rfl) rfl d_MT_read_7 (fun H locs hP hS => ?_)
  refine lv_aload_n hx hb d_MT_read_10 rfl (lv_at hl 0 rfl) ?_
  refine lv_iconst (v := (-1:Int32)) hx hb d_MT_read_11 (by decide) ?_
  refine o_put (v := .int (-1:Int32)) (ty := .int) (w1 := (m_cw ad ca rt Mm M0 (MT_mk (MT_text a0) (MT_kind a0) (MT_place a0) (MT_many a0) (MT_parent a0) (MT_power a0) (MT_first a0) (MT_next a0) (MT_name a0) (MT_from a0) (MT_characters a0) (MT_digits a0) (MT_minus a0) (MT_values a0) x1 (0:Int32) (-1:Int32) (MT_used a0) (MT_written a0) (MT_left a0)))) C in_MT t_MT t_MT_ok n_MT hP (hDD _ _ _ _) hS 48 mw_48 rfl 16 (by decide) k_7_130 rfl rfl (by decide +kernel) rfl rfl (Nat.le_of_ble_eq_true rfl) rfl d_MT_read_12 (fun H locs hP hS => ?_)
  refine lv_aload_n hx hb d_MT_read_15 rfl (lv_at hl 0 rfl) ?_
  refine lv_iconst (v := (0:Int32)) hx hb d_MT_read_16 (by decide) ?_
  refine o_put (v := .int (0:Int32)) (ty := .int) (w1 := (m_cw ad ca rt Mm M0 (MT_mk (MT_text a0) (MT_kind a0) (MT_place a0) (MT_many a0) (MT_parent a0) (MT_power a0) (MT_first a0) (MT_next a0) (MT_name a0) (MT_from a0) (MT_characters a0) (MT_digits a0) (MT_minus a0) (0:Int32) x1 (0:Int32) (-1:Int32) (MT_used a0) (MT_written a0) (MT_left a0)))) C in_MT t_MT t_MT_ok n_MT hP (hDD _ _ _ _) hS 48 mw_48 rfl 13 (by decide) k_7_126 rfl rfl (by decide +kernel) rfl rfl (Nat.le_of_ble_eq_true rfl) rfl d_MT_read_17 (fun H locs hP hS => ?_)
  refine lv_aload_n hx hb d_MT_read_20 rfl (lv_at hl 0 rfl) ?_
  refine lv_iconst (v := (0:Int32)) hx hb d_MT_read_21 (by decide) ?_
  refine o_put (v := .int (0:Int32)) (ty := .int) (w1 := (m_cw ad ca rt Mm M0 (MT_mk (MT_text a0) (MT_kind a0) (MT_place a0) (MT_many a0) (MT_parent a0) (MT_power a0) (MT_first a0) (MT_next a0) (MT_name a0) (MT_from a0) (MT_characters a0) (MT_digits a0) (MT_minus a0) (0:Int32) x1 (0:Int32) (-1:Int32) (0:Int32) (MT_written a0) (MT_left a0)))) C in_MT t_MT t_MT_ok n_MT hP (hDD _ _ _ _) hS 48 mw_48 rfl 17 (by decide) k_7_131 rfl rfl (by decide +kernel) rfl rfl (Nat.le_of_ble_eq_true rfl) rfl d_MT_read_22 (fun H locs hP hS => ?_)
  refine lv_aload_n hx hb d_MT_read_25 rfl (lv_at hl 0 rfl) ?_
  refine lv_iconst (v := (0:Int32)) hx hb d_MT_read_26 (by decide) ?_
  refine o_put (v := .int (0:Int32)) (ty := .int) (w1 := (m_cw ad ca rt Mm M0 (MT_mk (MT_text a0) (MT_kind a0) (MT_place a0) (MT_many a0) (MT_parent a0) (MT_power a0) (MT_first a0) (MT_next a0) (MT_name a0) (MT_from a0) (MT_characters a0) (MT_digits a0) (MT_minus a0) (0:Int32) x1 (0:Int32) (-1:Int32) (0:Int32) (0:Int32) (MT_left a0)))) C in_MT t_MT t_MT_ok n_MT hP (hDD _ _ _ _) hS 48 mw_48 rfl 18 (by decide) k_7_132 rfl rfl (by decide +kernel) rfl rfl (Nat.le_of_ble_eq_true rfl) rfl d_MT_read_27 (fun H locs hP hS => ?_)
  refine lv_aload_n hx hb d_MT_read_30 rfl (lv_at hl 0 rfl) ?_
  obtain ⟨q1, hq1, h⟩ := o_bd_some h
  refine o_V (st1 := []) (w1 := (m_cw ad ca rt Mm M0 q1)) hE.1 C (e_MT_blanks_1 hE l n (MT_mk (MT_text a0) (MT_kind a0) (MT_place a0) (MT_many a0) (MT_parent a0) (MT_power a0) (MT_first a0) (MT_next a0) (MT_name a0) (MT_from a0) (MT_characters a0) (MT_digits a0) (MT_minus a0) (0:Int32) x1 (0:Int32) (-1:Int32) (0:Int32) (0:Int32) (MT_left a0)) Mm M0 rt hq1) hP (hDD _ _ _ _) hS hl.1 rfl mw_48 k_8_188 k_8_189 k_8_190 k_1_13 k_8_191 hv_MT_blanks rfl rfl ⟨(Nat.le_of_ble_eq_true rfl), (Nat.le_of_ble_eq_true rfl)⟩ rfl (Nat.le_of_ble_eq_true rfl) ⟨Nat.zero_le _, Nat.zero_le _⟩ rfl d_MT_read_31 (fun H locs hP hS => ?_)
  refine lv_aload_n hx hb d_MT_read_34 rfl (lv_at hl 0 rfl) ?_
  refine lv_iconst (v := (-1:Int32)) hx hb d_MT_read_35 (by decide) ?_
  refine lv_iconst (v := (0:Int32)) hx hb d_MT_read_36 (by decide) ?_
  obtain ⟨q2, hq2, h⟩ := o_bd_some h
  refine o_V (st1 := [.int q2.1]) (w1 := (m_cw ad ca rt Mm M0 q2.2)) hE.1 C (e_MT_value_1 hE l (-1:Int32) (0:Int32) q1 Mm M0 rt hq2) hP (hDD _ _ _ _) hS hl.1 rfl mw_48 k_8_196 k_8_197 k_8_198 k_1_13 k_8_199 hv_MT_value rfl rfl ⟨(Nat.le_of_ble_eq_true rfl), (Nat.le_of_ble_eq_true rfl)⟩ rfl (Nat.le_of_ble_eq_true rfl) ⟨Nat.zero_le _, Nat.zero_le _⟩ rfl d_MT_read_37 (fun H locs hP hS => ?_)
  refine lv_if_eq (tgt := 67) hx hb d_MT_read_40 (by decide) (fun c1 => ?_) (fun c1 => ?_)
  · replace h := o_tt c1 h
    exact f_MT_read_j67_1 hE C hDD n q2.2 Mm M0 rt h _ _ _ hP hS (lv_sub hl [0] rfl)
  · replace h := o_ff c1 h
    refine lv_aload_n hx hb d_MT_read_43 rfl (lv_at hl 0 rfl) ?_
    obtain ⟨q3, hq3, h⟩ := o_bd_some h
    refine o_V (st1 := []) (w1 := (m_cw ad ca rt Mm M0 q3)) hE.1 C (e_MT_blanks_1 hE l n q2.2 Mm M0 rt hq3) hP (hDD _ _ _ _) hS hl.1 rfl mw_48 k_8_188 k_8_189 k_8_190 k_1_13 k_8_191 hv_MT_blanks rfl rfl ⟨(Nat.le_of_ble_eq_true rfl), (Nat.le_of_ble_eq_true rfl)⟩ rfl (Nat.le_of_ble_eq_true rfl) ⟨Nat.zero_le _, Nat.zero_le _⟩ rfl d_MT_read_44 (fun H locs hP hS => ?_)
    refine lv_aload_n hx hb d_MT_read_47 rfl (lv_at hl 0 rfl) ?_
    refine o_get (v := .int (MT_at q3)) C in_MT hP 48 mw_48 rfl 15 (by decide) k_7_129 rfl rfl d_MT_read_48 ?_
    refine lv_aload_n hx hb d_MT_read_51 rfl (lv_at hl 0 rfl) ?_
    refine o_get (v := .int (MT_letters q3)) C in_MT hP 48 mw_48 rfl 14 (by decide) k_7_128 rfl rfl d_MT_read_52 ?_
    refine lv_icmp_ge (tgt := 67) hx hb d_MT_read_55 (by decide) (fun c3 => ?_) (fun c3 => ?_)
    · replace h := o_tt c3 h
      exact f_MT_read_j67_1 hE C hDD n q3 Mm M0 rt h _ _ _ hP hS (lv_sub hl [0] rfl)
    · replace h := o_ff c3 h
      refine lv_aload_n hx hb d_MT_read_58 rfl (lv_at hl 0 rfl) ?_
      refine lv_aload_n hx hb d_MT_read_59 rfl (lv_at hl 0 rfl) ?_
      refine o_get (v := .int (MT_at q3)) C in_MT hP 48 mw_48 rfl 15 (by decide) k_7_129 rfl rfl d_MT_read_60 ?_
      obtain ⟨q4, hq4, h⟩ := o_bd_some h
      refine o_V (st1 := [.int q4.1]) (w1 := (m_cw ad ca rt Mm M0 q4.2)) hE.1 C (e_MT_bad_1 hE l (MT_at q3) q3 Mm M0 rt hq4) hP (hDD _ _ _ _) hS hl.1 rfl mw_48 k_8_203 k_8_204 k_8_205 k_1_13 k_8_206 hv_MT_bad rfl rfl ⟨(Nat.le_of_ble_eq_true rfl), (Nat.le_of_ble_eq_true rfl)⟩ rfl (Nat.le_of_ble_eq_true rfl) ⟨Nat.zero_le _, Nat.zero_le _⟩ rfl d_MT_read_63 (fun H locs hP hS => ?_)
      refine lv_pop hx hb d_MT_read_66 rfl ?_
      exact f_MT_read_j67_1 hE C hDD n q4.2 Mm M0 rt h _ _ _ hP hS (lv_sub hl [0] rfl)
set_option maxHeartbeats 4000000 in
set_option maxRecDepth 100000 in
theorem f_MM_end_b63 {E : (Nat → Prop) → State → Heap → Prop} {p : Program} {l : Launch} {e : Env} {s : State} {m : MethodId} {args : Array Value} {below : List Frame} {meth : Method} {c : Code} {D : va_G} {ad kd sd vd xd : Nat → Nat} {ca : Nat → ClassId} {A : Nat → Prop} {Q : State → Prop} (hE : o_EK E kd sd vd xd) (C : o_Cx E p s m args meth c D m_cls (m_tys ca) "SchemaJudgeModel" b_MM_end (some .int) 5 cc_MM_end A) (hDD : ∀ (rt : Value) (Mm : SMM) (M0 : SMT) (M1 : SMT), va_D A (m_cw ad ca rt Mm M0 M1)) (n : Nat) (u63_x1 : Int32) (u63_x2 : Int32) (u63_Mm : SMM) (u63_rt : Value) (z : Int32 × SMT × SMT) (q : Nat × Int32 × SMT × SMT) (h : m_MM_end_b63 n u63_x1 u63_x2 u63_Mm z = some q) (h0 : q.1 = 0 → o_At p l e rm_MM_end s m args below meth c Q m_cls D A 5 63 [] (m_cw ad ca u63_rt u63_Mm q.2.2.1 q.2.2.2) [(0, .ref (ad 0)), (1, .int u63_x1), (2, .int u63_x2), (3, .ref (ad 48)), (4, .int q.2.1)]) (h1 : q.1 ≠ 0 → (o_At p l e rm_MM_end s m args below meth c Q m_cls D A 5 89 [] (m_cw ad ca u63_rt u63_Mm q.2.2.1 q.2.2.2) [(0, .ref (ad 0)), (1, .int u63_x1), (2, .int u63_x2), (3, .ref (ad 48))])) : o_At p l e rm_MM_end s m args below meth c Q m_cls D A 5 63 [] (m_cw ad ca u63_rt u63_Mm z.2.1 z.2.2) [(0, .ref (ad 0)), (1, .int u63_x1), (2, .int u63_x2), (3, .ref (ad 48)), (4, .int z.1)] := by
  unfold m_MM_end_b63 at h
  intro H locs ls hP hS hl
  have C0 := C
  obtain ⟨hx, hb, -, -, -, hown, hts, hK, -, -⟩ := C0
  refine lv_iload hx hb d_MM_end_63 (lv_at hl 4 rfl) ?_
  refine lv_iload_n hx hb d_MM_end_65 rfl (lv_at hl 2 rfl) ?_
  refine lv_icmp_ge (tgt := 89) hx hb d_MM_end_66 (by decide) (fun c4 => ?_) (fun c4 => ?_)
  · replace h := o_tt c4 h
    cases h
    exact h1 (Nat.succ_ne_zero 0) _ _ _ hP hS (lv_sub hl [0, 1, 2, 3] rfl)
  · replace h := o_ff c4 h
    refine lv_aload_n hx hb d_MM_end_69 rfl (lv_at hl 3 rfl) ?_
    refine o_get (v := .ref (ad 49)) C in_MT hP 48 mw_48 rfl 0 (by decide) k_7_101 rfl rfl d_MM_end_70 ?_
    refine lv_iload hx hb d_MM_end_73 (lv_at hl 4 rfl) ?_
    refine lv_aload_n hx hb d_MM_end_75 rfl (lv_at hl 0 rfl) ?_
    refine o_get (v := .ref (ad 1)) C in_MM hP 0 mw_0 rfl 3 (by decide) k_7_233 rfl rfl d_MM_end_76 ?_
    refine lv_iload hx hb d_MM_end_79 (lv_at hl 4 rfl) ?_
    obtain ⟨g5, h⟩ := o_gd_some h
    refine o_iald (f := (MM_octets u63_Mm)) C hP 1 0 mw_1 rfl g5 d_MM_end_81 ?_
    obtain ⟨g6, h⟩ := o_gd_some h
    refine o_iast (f := (MT_text z.2.2)) (w1 := (m_cw ad ca u63_rt u63_Mm z.2.1 (MT_mk (upd (MT_text z.2.2) z.1.toNatClampNeg ((MM_octets u63_Mm) z.1.toNatClampNeg)) (MT_kind z.2.2) (MT_place z.2.2) (MT_many z.2.2) (MT_parent z.2.2) (MT_power z.2.2) (MT_first z.2.2) (MT_next z.2.2) (MT_name z.2.2) (MT_from z.2.2) (MT_characters z.2.2) (MT_digits z.2.2) (MT_minus z.2.2) (MT_values z.2.2) (MT_letters z.2.2) (MT_at z.2.2) (MT_wrong z.2.2) (MT_used z.2.2) (MT_written z.2.2) (MT_left z.2.2)))) C hP (hDD _ _ _ _) hS 49 46 mw_49 rfl g6 rfl d_MM_end_82 (fun H locs hP hS => ?_)
    obtain ⟨x4_83, ex4_83⟩ : ∃ y : Int32, y = z.1 + (1:Int32) := ⟨_, rfl⟩
    replace h := o_nm_at ex4_83 h
    refine lv_iinc (v := x4_83) (lv' := [(4, .int x4_83), (0, .ref (ad 0)), (1, .int u63_x1), (2, .int u63_x2), (3, .ref (ad 48))]) hx hb d_MM_end_83 hl (k := 4) rfl (by rw [ex4_83]; rfl) (by decide) rfl (fun ls hl => ?_)
    refine lv_goto (tgt := 63) hx hb d_MM_end_86 (by decide) ?_
    cases h
    exact h0 rfl _ _ _ hP hS (lv_sub hl [1, 2, 3, 4, 0] rfl)
set_option maxHeartbeats 4000000 in
set_option maxRecDepth 100000 in
theorem f_MM_end_j125 {E : (Nat → Prop) → State → Heap → Prop} {p : Program} {l : Launch} {e : Env} {s : State} {m : MethodId} {args : Array Value} {below : List Frame} {meth : Method} {c : Code} {D : va_G} {ad kd sd vd xd : Nat → Nat} {ca : Nat → ClassId} {A : Nat → Prop} (hE : o_EK E kd sd vd xd) (C : o_Cx E p s m args meth c D m_cls (m_tys ca) "SchemaJudgeModel" b_MM_end (some .int) 5 cc_MM_end A) (hDD : ∀ (rt : Value) (Mm : SMM) (M0 : SMT) (M1 : SMT), va_D A (m_cw ad ca rt Mm M0 M1)) (n : Nat) (y1 : Int32) (M0 : SMT) (M1 : SMT) (Mm : SMM) (rt : Value) {r : Int32 × SMT × SMT × SMM} (h : m_MM_end_j125 n y1 M0 M1 Mm = some r) : o_At p l e rm_MM_end s m args below meth c (MQ below (o_Qx D m_cls (some (.int r.1)) (m_cw ad ca rt r.2.2.2 r.2.1 r.2.2.1) A) args s 0 0 A) m_cls D A 5 125 [.int y1, .ref (ad 0)] (m_cw ad ca rt Mm M0 M1) [(3, .ref (ad 48))] := by
  unfold m_MM_end_j125 at h
  intro H locs ls hP hS hl
  have C0 := C
  obtain ⟨hx, hb, -, -, -, hown, hts, hK, -, -⟩ := C0
  refine lv_iconst (v := (2:Int32)) hx hb d_MM_end_125 (by decide) ?_
  obtain ⟨q4, hq4, h⟩ := o_bd_some h
  refine o_V (st1 := [.int q4.1]) (w1 := (m_cw ad ca rt q4.2 M0 M1)) hE.1 C (e_MM_fails hE l y1 (2:Int32) Mm M0 M1 rt hq4) hP (hDD _ _ _ _) hS hl.1 rfl mw_0 k_8_176 k_8_178 k_s_81 k_1_12 k_8_179 hv_MM_fails rfl rfl ⟨(Nat.le_of_ble_eq_true rfl), (Nat.le_of_ble_eq_true rfl)⟩ rfl (Nat.le_of_ble_eq_true rfl) ⟨Nat.zero_le _, Nat.zero_le _⟩ rfl d_MM_end_126 (fun H locs hP hS => ?_)
  refine lv_if_eq (tgt := 136) hx hb d_MM_end_129 (by decide) (fun c9 => ?_) (fun c9 => ?_)
  · replace h := o_tt c9 h
    refine lv_aload_n hx hb d_MM_end_136 rfl (lv_at hl 0 rfl) ?_
    refine o_get (v := .int (MT_values M1)) C in_MT hP 48 mw_48 rfl 13 (by decide) k_7_127 rfl rfl d_MM_end_137 ?_
    cases h
    exact o_ri (v := (MT_values M1)) C hP hS d_MM_end_140
  · replace h := o_ff c9 h
    refine lv_iconst (v := (0:Int32)) hx hb d_MM_end_132 (by decide) ?_
    refine lv_goto (tgt := 140) hx hb d_MM_end_133 (by decide) ?_
    cases h
    exact o_ri (v := (0:Int32)) C hP hS d_MM_end_140
set_option maxHeartbeats 4000000 in
set_option maxRecDepth 100000 in
theorem f_MM_end_j103 {E : (Nat → Prop) → State → Heap → Prop} {p : Program} {l : Launch} {e : Env} {s : State} {m : MethodId} {args : Array Value} {below : List Frame} {meth : Method} {c : Code} {D : va_G} {ad kd sd vd xd : Nat → Nat} {ca : Nat → ClassId} {A : Nat → Prop} (hE : o_EK E kd sd vd xd) (C : o_Cx E p s m args meth c D m_cls (m_tys ca) "SchemaJudgeModel" b_MM_end (some .int) 5 cc_MM_end A) (hDD : ∀ (rt : Value) (Mm : SMM) (M0 : SMT) (M1 : SMT), va_D A (m_cw ad ca rt Mm M0 M1)) (n : Nat) (x2 : Int32) (M0 : SMT) (M1 : SMT) (Mm : SMM) (rt : Value) {r : Int32 × SMT × SMT × SMM} (h : m_MM_end_j103 n x2 M0 M1 Mm = some r) : o_At p l e rm_MM_end s m args below meth c (MQ below (o_Qx D m_cls (some (.int r.1)) (m_cw ad ca rt r.2.2.2 r.2.1 r.2.2.1) A) args s 0 0 A) m_cls D A 5 103 [] (m_cw ad ca rt Mm M0 M1) [(0, .ref (ad 0)), (2, .int x2), (3, .ref (ad 48))] := by
  unfold m_MM_end_j103 at h
  intro H locs ls hP hS hl
  have C0 := C
  obtain ⟨hx, hb, -, -, -, hown, hts, hK, -, -⟩ := C0
  refine lv_aload_n hx hb d_MM_end_103 rfl (lv_at hl 0 rfl) ?_
  refine lv_aload_n hx hb d_MM_end_104 rfl (lv_at hl 2 rfl) ?_
  refine lv_iload_n hx hb d_MM_end_105 rfl (lv_at hl 1 rfl) ?_
  obtain ⟨q3, hq3, h⟩ := o_bd_some h
  refine o_V (st1 := [.int q3.1, .ref (ad 0)]) (w1 := (m_cw ad ca rt Mm M0 q3.2)) hE.1 C (e_MT_read_1 hE l n x2 M1 Mm M0 rt hq3) hP (hDD _ _ _ _) hS hl.1 rfl mw_48 k_8_184 k_8_185 k_8_186 k_1_13 k_8_187 hv_MT_read rfl rfl ⟨(Nat.le_of_ble_eq_true rfl), (Nat.le_of_ble_eq_true rfl)⟩ rfl (Nat.le_of_ble_eq_true rfl) ⟨Nat.zero_le _, Nat.zero_le _⟩ rfl d_MM_end_106 (fun H locs hP hS => ?_)
  refine o_put (v := .int q3.1) (ty := .int) (w1 := (m_cw ad ca rt (MM_mk (MM_err Mm) (MM_fed Mm) q3.1 (MM_octets Mm) (MM_nodeKind Mm) (MM_nodeA Mm) (MM_nodeB Mm) (MM_nodeC Mm) (MM_nodeNext Mm) (MM_low Mm) (MM_high Mm) (MM_setFrom Mm) (MM_setTo Mm) (MM_setNot Mm) (MM_op Mm) (MM_opA Mm) (MM_opB Mm) (MM_mark Mm) (MM_now Mm) (MM_then Mm) (MM_todo Mm) (MM_nodes Mm) (MM_sets Mm) (MM_ranges Mm) (MM_steps Mm) (MM_pat Mm) (MM_patEnd Mm) (MM_round Mm) (MM_many1 Mm) (MM_broken Mm) (MM_keys Mm) (MM_types Mm) (MM_checked Mm) (MM_faultKind Mm) (MM_faultValue Mm) (MM_latestFault Mm) (MM_anchors Mm) (MM_key Mm) (MM_target Mm) (MM_anchorValue Mm) (MM_anchorSchema Mm) (MM_path Mm) (MM_route Mm) (MM_isSchema Mm) (MM_seen1 Mm) (MM_pathSize Mm) (MM_octetRow Mm) (MM_partRow Mm) (MM_pairValue Mm) (MM_pairKey Mm) (MM_pairs Mm) (MM_judged Mm) (MM_deepest Mm) (MM_depth Mm) (MM_over Mm) (MM_seen Mm)) M0 q3.2)) C in_MM t_MM t_MM_ok n_MM hP (hDD _ _ _ _) hS 0 mw_0 rfl 2 (by decide) k_7_232 rfl rfl (by decide +kernel) rfl rfl (Nat.le_of_ble_eq_true rfl) rfl d_MM_end_109 (fun H locs hP hS => ?_)
  refine lv_aload_n hx hb d_MM_end_112 rfl (lv_at hl 0 rfl) ?_
  refine lv_aload_n hx hb d_MM_end_113 rfl (lv_at hl 0 rfl) ?_
  refine o_get (v := .int q3.1) C in_MM hP 0 mw_0 rfl 2 (by decide) k_7_232 rfl rfl d_MM_end_114 ?_
  refine lv_if_lt (tgt := 124) hx hb d_MM_end_117 (by decide) (fun c8 => ?_) (fun c8 => ?_)
  · replace h := o_tt c8 h
    refine lv_iconst (v := (0:Int32)) hx hb d_MM_end_124 (by decide) ?_
    exact f_MM_end_j125 hE C hDD n (0:Int32) M0 q3.2 (MM_mk (MM_err Mm) (MM_fed Mm) q3.1 (MM_octets Mm) (MM_nodeKind Mm) (MM_nodeA Mm) (MM_nodeB Mm) (MM_nodeC Mm) (MM_nodeNext Mm) (MM_low Mm) (MM_high Mm) (MM_setFrom Mm) (MM_setTo Mm) (MM_setNot Mm) (MM_op Mm) (MM_opA Mm) (MM_opB Mm) (MM_mark Mm) (MM_now Mm) (MM_then Mm) (MM_todo Mm) (MM_nodes Mm) (MM_sets Mm) (MM_ranges Mm) (MM_steps Mm) (MM_pat Mm) (MM_patEnd Mm) (MM_round Mm) (MM_many1 Mm) (MM_broken Mm) (MM_keys Mm) (MM_types Mm) (MM_checked Mm) (MM_faultKind Mm) (MM_faultValue Mm) (MM_latestFault Mm) (MM_anchors Mm) (MM_key Mm) (MM_target Mm) (MM_anchorValue Mm) (MM_anchorSchema Mm) (MM_path Mm) (MM_route Mm) (MM_isSchema Mm) (MM_seen1 Mm) (MM_pathSize Mm) (MM_octetRow Mm) (MM_partRow Mm) (MM_pairValue Mm) (MM_pairKey Mm) (MM_pairs Mm) (MM_judged Mm) (MM_deepest Mm) (MM_depth Mm) (MM_over Mm) (MM_seen Mm)) rt h _ _ _ hP hS (lv_sub hl [2] rfl)
  · replace h := o_ff c8 h
    refine lv_iconst (v := (1:Int32)) hx hb d_MM_end_120 (by decide) ?_
    refine lv_goto (tgt := 125) hx hb d_MM_end_121 (by decide) ?_
    exact f_MM_end_j125 hE C hDD n (1:Int32) M0 q3.2 (MM_mk (MM_err Mm) (MM_fed Mm) q3.1 (MM_octets Mm) (MM_nodeKind Mm) (MM_nodeA Mm) (MM_nodeB Mm) (MM_nodeC Mm) (MM_nodeNext Mm) (MM_low Mm) (MM_high Mm) (MM_setFrom Mm) (MM_setTo Mm) (MM_setNot Mm) (MM_op Mm) (MM_opA Mm) (MM_opB Mm) (MM_mark Mm) (MM_now Mm) (MM_then Mm) (MM_todo Mm) (MM_nodes Mm) (MM_sets Mm) (MM_ranges Mm) (MM_steps Mm) (MM_pat Mm) (MM_patEnd Mm) (MM_round Mm) (MM_many1 Mm) (MM_broken Mm) (MM_keys Mm) (MM_types Mm) (MM_checked Mm) (MM_faultKind Mm) (MM_faultValue Mm) (MM_latestFault Mm) (MM_anchors Mm) (MM_key Mm) (MM_target Mm) (MM_anchorValue Mm) (MM_anchorSchema Mm) (MM_path Mm) (MM_route Mm) (MM_isSchema Mm) (MM_seen1 Mm) (MM_pathSize Mm) (MM_octetRow Mm) (MM_partRow Mm) (MM_pairValue Mm) (MM_pairKey Mm) (MM_pairs Mm) (MM_judged Mm) (MM_deepest Mm) (MM_depth Mm) (MM_over Mm) (MM_seen Mm)) rt h _ _ _ hP hS (lv_sub hl [2] rfl)
set_option maxHeartbeats 4000000 in
set_option maxRecDepth 100000 in
theorem f_MM_end_b63v5 {E : (Nat → Prop) → State → Heap → Prop} {p : Program} {l : Launch} {e : Env} {s : State} {m : MethodId} {args : Array Value} {below : List Frame} {meth : Method} {c : Code} {D : va_G} {ad kd sd vd xd : Nat → Nat} {ca : Nat → ClassId} {A : Nat → Prop} {Q : State → Prop} (hE : o_EK E kd sd vd xd) (C : o_Cx E p s m args meth c D m_cls (m_tys ca) "SchemaJudgeModel" b_MM_end (some .int) 5 cc_MM_end A) (hDD : ∀ (rt : Value) (Mm : SMM) (M0 : SMT) (M1 : SMT), va_D A (m_cw ad ca rt Mm M0 M1)) (n : Nat) (u63_x1 : Int32) (u63_x2 : Int32) (u63_Mm : SMM) (u63_rt : Value) (z : Int32 × SMT × SMT) (q : Nat × Int32 × SMT × SMT) (h : m_MM_end_b63v5 n u63_x1 u63_x2 u63_Mm z = some q) (h0 : q.1 = 0 → o_At p l e rm_MM_end s m args below meth c Q m_cls D A 5 63 [] (m_cw ad ca u63_rt u63_Mm q.2.2.1 q.2.2.2) [(0, .ref (ad 0)), (1, .int u63_x1), (2, .int u63_x2), (3, .ref (ad 33)), (4, .int q.2.1)]) (h1 : q.1 ≠ 0 → (o_At p l e rm_MM_end s m args below meth c Q m_cls D A 5 89 [] (m_cw ad ca u63_rt u63_Mm q.2.2.1 q.2.2.2) [(0, .ref (ad 0)), (1, .int u63_x1), (2, .int u63_x2), (3, .ref (ad 33))])) : o_At p l e rm_MM_end s m args below meth c Q m_cls D A 5 63 [] (m_cw ad ca u63_rt u63_Mm z.2.1 z.2.2) [(0, .ref (ad 0)), (1, .int u63_x1), (2, .int u63_x2), (3, .ref (ad 33)), (4, .int z.1)] := by
  unfold m_MM_end_b63v5 at h
  intro H locs ls hP hS hl
  have C0 := C
  obtain ⟨hx, hb, -, -, -, hown, hts, hK, -, -⟩ := C0
  refine lv_iload hx hb d_MM_end_63 (lv_at hl 4 rfl) ?_
  refine lv_iload_n hx hb d_MM_end_65 rfl (lv_at hl 2 rfl) ?_
  refine lv_icmp_ge (tgt := 89) hx hb d_MM_end_66 (by decide) (fun c10 => ?_) (fun c10 => ?_)
  · replace h := o_tt c10 h
    cases h
    exact h1 (Nat.succ_ne_zero 0) _ _ _ hP hS (lv_sub hl [0, 1, 2, 3] rfl)
  · replace h := o_ff c10 h
    refine lv_aload_n hx hb d_MM_end_69 rfl (lv_at hl 3 rfl) ?_
    refine o_get (v := .ref (ad 34)) C in_MT hP 33 mw_33 rfl 0 (by decide) k_7_101 rfl rfl d_MM_end_70 ?_
    refine lv_iload hx hb d_MM_end_73 (lv_at hl 4 rfl) ?_
    refine lv_aload_n hx hb d_MM_end_75 rfl (lv_at hl 0 rfl) ?_
    refine o_get (v := .ref (ad 1)) C in_MM hP 0 mw_0 rfl 3 (by decide) k_7_233 rfl rfl d_MM_end_76 ?_
    refine lv_iload hx hb d_MM_end_79 (lv_at hl 4 rfl) ?_
    obtain ⟨g11, h⟩ := o_gd_some h
    refine o_iald (f := (MM_octets u63_Mm)) C hP 1 0 mw_1 rfl g11 d_MM_end_81 ?_
    obtain ⟨g12, h⟩ := o_gd_some h
    refine o_iast (f := (MT_text z.2.1)) (w1 := (m_cw ad ca u63_rt u63_Mm (MT_mk (upd (MT_text z.2.1) z.1.toNatClampNeg ((MM_octets u63_Mm) z.1.toNatClampNeg)) (MT_kind z.2.1) (MT_place z.2.1) (MT_many z.2.1) (MT_parent z.2.1) (MT_power z.2.1) (MT_first z.2.1) (MT_next z.2.1) (MT_name z.2.1) (MT_from z.2.1) (MT_characters z.2.1) (MT_digits z.2.1) (MT_minus z.2.1) (MT_values z.2.1) (MT_letters z.2.1) (MT_at z.2.1) (MT_wrong z.2.1) (MT_used z.2.1) (MT_written z.2.1) (MT_left z.2.1)) z.2.2)) C hP (hDD _ _ _ _) hS 34 32 mw_34 rfl g12 rfl d_MM_end_82 (fun H locs hP hS => ?_)
    obtain ⟨x4_83, ex4_83⟩ : ∃ y : Int32, y = z.1 + (1:Int32) := ⟨_, rfl⟩
    replace h := o_nm_at ex4_83 h
    refine lv_iinc (v := x4_83) (lv' := [(4, .int x4_83), (0, .ref (ad 0)), (1, .int u63_x1), (2, .int u63_x2), (3, .ref (ad 33))]) hx hb d_MM_end_83 hl (k := 4) rfl (by rw [ex4_83]; rfl) (by decide) rfl (fun ls hl => ?_)
    refine lv_goto (tgt := 63) hx hb d_MM_end_86 (by decide) ?_
    cases h
    exact h0 rfl _ _ _ hP hS (lv_sub hl [1, 2, 3, 4, 0] rfl)
set_option maxHeartbeats 4000000 in
set_option maxRecDepth 100000 in
theorem f_MM_end_j125v9 {E : (Nat → Prop) → State → Heap → Prop} {p : Program} {l : Launch} {e : Env} {s : State} {m : MethodId} {args : Array Value} {below : List Frame} {meth : Method} {c : Code} {D : va_G} {ad kd sd vd xd : Nat → Nat} {ca : Nat → ClassId} {A : Nat → Prop} (hE : o_EK E kd sd vd xd) (C : o_Cx E p s m args meth c D m_cls (m_tys ca) "SchemaJudgeModel" b_MM_end (some .int) 5 cc_MM_end A) (hDD : ∀ (rt : Value) (Mm : SMM) (M0 : SMT) (M1 : SMT), va_D A (m_cw ad ca rt Mm M0 M1)) (n : Nat) (y1 : Int32) (M0 : SMT) (M1 : SMT) (Mm : SMM) (rt : Value) {r : Int32 × SMT × SMT × SMM} (h : m_MM_end_j125v9 n y1 M0 M1 Mm = some r) : o_At p l e rm_MM_end s m args below meth c (MQ below (o_Qx D m_cls (some (.int r.1)) (m_cw ad ca rt r.2.2.2 r.2.1 r.2.2.1) A) args s 0 0 A) m_cls D A 5 125 [.int y1, .ref (ad 0)] (m_cw ad ca rt Mm M0 M1) [(3, .ref (ad 33))] := by
  unfold m_MM_end_j125v9 at h
  intro H locs ls hP hS hl
  have C0 := C
  obtain ⟨hx, hb, -, -, -, hown, hts, hK, -, -⟩ := C0
  refine lv_iconst (v := (2:Int32)) hx hb d_MM_end_125 (by decide) ?_
  obtain ⟨q7, hq7, h⟩ := o_bd_some h
  refine o_V (st1 := [.int q7.1]) (w1 := (m_cw ad ca rt q7.2 M0 M1)) hE.1 C (e_MM_fails hE l y1 (2:Int32) Mm M0 M1 rt hq7) hP (hDD _ _ _ _) hS hl.1 rfl mw_0 k_8_176 k_8_178 k_s_81 k_1_12 k_8_179 hv_MM_fails rfl rfl ⟨(Nat.le_of_ble_eq_true rfl), (Nat.le_of_ble_eq_true rfl)⟩ rfl (Nat.le_of_ble_eq_true rfl) ⟨Nat.zero_le _, Nat.zero_le _⟩ rfl d_MM_end_126 (fun H locs hP hS => ?_)
  refine lv_if_eq (tgt := 136) hx hb d_MM_end_129 (by decide) (fun c15 => ?_) (fun c15 => ?_)
  · replace h := o_tt c15 h
    refine lv_aload_n hx hb d_MM_end_136 rfl (lv_at hl 0 rfl) ?_
    refine o_get (v := .int (MT_values M0)) C in_MT hP 33 mw_33 rfl 13 (by decide) k_7_127 rfl rfl d_MM_end_137 ?_
    cases h
    exact o_ri (v := (MT_values M0)) C hP hS d_MM_end_140
  · replace h := o_ff c15 h
    refine lv_iconst (v := (0:Int32)) hx hb d_MM_end_132 (by decide) ?_
    refine lv_goto (tgt := 140) hx hb d_MM_end_133 (by decide) ?_
    cases h
    exact o_ri (v := (0:Int32)) C hP hS d_MM_end_140
set_option maxHeartbeats 4000000 in
set_option maxRecDepth 100000 in
theorem f_MM_end_j103v7 {E : (Nat → Prop) → State → Heap → Prop} {p : Program} {l : Launch} {e : Env} {s : State} {m : MethodId} {args : Array Value} {below : List Frame} {meth : Method} {c : Code} {D : va_G} {ad kd sd vd xd : Nat → Nat} {ca : Nat → ClassId} {A : Nat → Prop} (hE : o_EK E kd sd vd xd) (C : o_Cx E p s m args meth c D m_cls (m_tys ca) "SchemaJudgeModel" b_MM_end (some .int) 5 cc_MM_end A) (hDD : ∀ (rt : Value) (Mm : SMM) (M0 : SMT) (M1 : SMT), va_D A (m_cw ad ca rt Mm M0 M1)) (n : Nat) (x2 : Int32) (M0 : SMT) (M1 : SMT) (Mm : SMM) (rt : Value) {r : Int32 × SMT × SMT × SMM} (h : m_MM_end_j103v7 n x2 M0 M1 Mm = some r) : o_At p l e rm_MM_end s m args below meth c (MQ below (o_Qx D m_cls (some (.int r.1)) (m_cw ad ca rt r.2.2.2 r.2.1 r.2.2.1) A) args s 0 0 A) m_cls D A 5 103 [] (m_cw ad ca rt Mm M0 M1) [(0, .ref (ad 0)), (2, .int x2), (3, .ref (ad 33))] := by
  unfold m_MM_end_j103v7 at h
  intro H locs ls hP hS hl
  have C0 := C
  obtain ⟨hx, hb, -, -, -, hown, hts, hK, -, -⟩ := C0
  refine lv_aload_n hx hb d_MM_end_103 rfl (lv_at hl 0 rfl) ?_
  refine lv_aload_n hx hb d_MM_end_104 rfl (lv_at hl 2 rfl) ?_
  refine lv_iload_n hx hb d_MM_end_105 rfl (lv_at hl 1 rfl) ?_
  obtain ⟨q6, hq6, h⟩ := o_bd_some h
  refine o_V (st1 := [.int q6.1, .ref (ad 0)]) (w1 := (m_cw ad ca rt Mm q6.2 M1)) hE.1 C (e_MT_read_0 hE l n x2 M0 Mm M1 rt hq6) hP (hDD _ _ _ _) hS hl.1 rfl mw_33 k_8_184 k_8_185 k_8_186 k_1_13 k_8_187 hv_MT_read rfl rfl ⟨(Nat.le_of_ble_eq_true rfl), (Nat.le_of_ble_eq_true rfl)⟩ rfl (Nat.le_of_ble_eq_true rfl) ⟨Nat.zero_le _, Nat.zero_le _⟩ rfl d_MM_end_106 (fun H locs hP hS => ?_)
  refine o_put (v := .int q6.1) (ty := .int) (w1 := (m_cw ad ca rt (MM_mk (MM_err Mm) (MM_fed Mm) q6.1 (MM_octets Mm) (MM_nodeKind Mm) (MM_nodeA Mm) (MM_nodeB Mm) (MM_nodeC Mm) (MM_nodeNext Mm) (MM_low Mm) (MM_high Mm) (MM_setFrom Mm) (MM_setTo Mm) (MM_setNot Mm) (MM_op Mm) (MM_opA Mm) (MM_opB Mm) (MM_mark Mm) (MM_now Mm) (MM_then Mm) (MM_todo Mm) (MM_nodes Mm) (MM_sets Mm) (MM_ranges Mm) (MM_steps Mm) (MM_pat Mm) (MM_patEnd Mm) (MM_round Mm) (MM_many1 Mm) (MM_broken Mm) (MM_keys Mm) (MM_types Mm) (MM_checked Mm) (MM_faultKind Mm) (MM_faultValue Mm) (MM_latestFault Mm) (MM_anchors Mm) (MM_key Mm) (MM_target Mm) (MM_anchorValue Mm) (MM_anchorSchema Mm) (MM_path Mm) (MM_route Mm) (MM_isSchema Mm) (MM_seen1 Mm) (MM_pathSize Mm) (MM_octetRow Mm) (MM_partRow Mm) (MM_pairValue Mm) (MM_pairKey Mm) (MM_pairs Mm) (MM_judged Mm) (MM_deepest Mm) (MM_depth Mm) (MM_over Mm) (MM_seen Mm)) q6.2 M1)) C in_MM t_MM t_MM_ok n_MM hP (hDD _ _ _ _) hS 0 mw_0 rfl 2 (by decide) k_7_232 rfl rfl (by decide +kernel) rfl rfl (Nat.le_of_ble_eq_true rfl) rfl d_MM_end_109 (fun H locs hP hS => ?_)
  refine lv_aload_n hx hb d_MM_end_112 rfl (lv_at hl 0 rfl) ?_
  refine lv_aload_n hx hb d_MM_end_113 rfl (lv_at hl 0 rfl) ?_
  refine o_get (v := .int q6.1) C in_MM hP 0 mw_0 rfl 2 (by decide) k_7_232 rfl rfl d_MM_end_114 ?_
  refine lv_if_lt (tgt := 124) hx hb d_MM_end_117 (by decide) (fun c14 => ?_) (fun c14 => ?_)
  · replace h := o_tt c14 h
    refine lv_iconst (v := (0:Int32)) hx hb d_MM_end_124 (by decide) ?_
    exact f_MM_end_j125v9 hE C hDD n (0:Int32) q6.2 M1 (MM_mk (MM_err Mm) (MM_fed Mm) q6.1 (MM_octets Mm) (MM_nodeKind Mm) (MM_nodeA Mm) (MM_nodeB Mm) (MM_nodeC Mm) (MM_nodeNext Mm) (MM_low Mm) (MM_high Mm) (MM_setFrom Mm) (MM_setTo Mm) (MM_setNot Mm) (MM_op Mm) (MM_opA Mm) (MM_opB Mm) (MM_mark Mm) (MM_now Mm) (MM_then Mm) (MM_todo Mm) (MM_nodes Mm) (MM_sets Mm) (MM_ranges Mm) (MM_steps Mm) (MM_pat Mm) (MM_patEnd Mm) (MM_round Mm) (MM_many1 Mm) (MM_broken Mm) (MM_keys Mm) (MM_types Mm) (MM_checked Mm) (MM_faultKind Mm) (MM_faultValue Mm) (MM_latestFault Mm) (MM_anchors Mm) (MM_key Mm) (MM_target Mm) (MM_anchorValue Mm) (MM_anchorSchema Mm) (MM_path Mm) (MM_route Mm) (MM_isSchema Mm) (MM_seen1 Mm) (MM_pathSize Mm) (MM_octetRow Mm) (MM_partRow Mm) (MM_pairValue Mm) (MM_pairKey Mm) (MM_pairs Mm) (MM_judged Mm) (MM_deepest Mm) (MM_depth Mm) (MM_over Mm) (MM_seen Mm)) rt h _ _ _ hP hS (lv_sub hl [2] rfl)
  · replace h := o_ff c14 h
    refine lv_iconst (v := (1:Int32)) hx hb d_MM_end_120 (by decide) ?_
    refine lv_goto (tgt := 125) hx hb d_MM_end_121 (by decide) ?_
    exact f_MM_end_j125v9 hE C hDD n (1:Int32) q6.2 M1 (MM_mk (MM_err Mm) (MM_fed Mm) q6.1 (MM_octets Mm) (MM_nodeKind Mm) (MM_nodeA Mm) (MM_nodeB Mm) (MM_nodeC Mm) (MM_nodeNext Mm) (MM_low Mm) (MM_high Mm) (MM_setFrom Mm) (MM_setTo Mm) (MM_setNot Mm) (MM_op Mm) (MM_opA Mm) (MM_opB Mm) (MM_mark Mm) (MM_now Mm) (MM_then Mm) (MM_todo Mm) (MM_nodes Mm) (MM_sets Mm) (MM_ranges Mm) (MM_steps Mm) (MM_pat Mm) (MM_patEnd Mm) (MM_round Mm) (MM_many1 Mm) (MM_broken Mm) (MM_keys Mm) (MM_types Mm) (MM_checked Mm) (MM_faultKind Mm) (MM_faultValue Mm) (MM_latestFault Mm) (MM_anchors Mm) (MM_key Mm) (MM_target Mm) (MM_anchorValue Mm) (MM_anchorSchema Mm) (MM_path Mm) (MM_route Mm) (MM_isSchema Mm) (MM_seen1 Mm) (MM_pathSize Mm) (MM_octetRow Mm) (MM_partRow Mm) (MM_pairValue Mm) (MM_pairKey Mm) (MM_pairs Mm) (MM_judged Mm) (MM_deepest Mm) (MM_depth Mm) (MM_over Mm) (MM_seen Mm)) rt h _ _ _ hP hS (lv_sub hl [2] rfl)
set_option maxHeartbeats 4000000 in
set_option maxRecDepth 100000 in
theorem f_MM_end_j30 {E : (Nat → Prop) → State → Heap → Prop} {p : Program} {l : Launch} {e : Env} {s : State} {m : MethodId} {args : Array Value} {below : List Frame} {meth : Method} {c : Code} {D : va_G} {ad kd sd vd xd : Nat → Nat} {ca : Nat → ClassId} {A : Nat → Prop} (hE : o_EK E kd sd vd xd) (C : o_Cx E p s m args meth c D m_cls (m_tys ca) "SchemaJudgeModel" b_MM_end (some .int) 5 cc_MM_end A) (hDD : ∀ (rt : Value) (Mm : SMM) (M0 : SMT) (M1 : SMT), va_D A (m_cw ad ca rt Mm M0 M1)) (n : Nat) (x1 : Int32) (x2 : Int32) (y1 : Int32) (M0 : SMT) (M1 : SMT) (Mm : SMM) (rt : Value) {r : Int32 × SMT × SMT × SMM} (h : m_MM_end_j30 n x1 x2 y1 M0 M1 Mm = some r) : o_At p l e rm_MM_end s m args below meth c (MQ below (o_Qx D m_cls (some (.int r.1)) (m_cw ad ca rt r.2.2.2 r.2.1 r.2.2.1) A) args s 0 0 A) m_cls D A 5 30 [.int y1, .ref (ad 0)] (m_cw ad ca rt Mm M0 M1) [(0, .ref (ad 0)), (1, .int x1), (2, .int x2)] := by
  unfold m_MM_end_j30 at h
  intro H locs ls hP hS hl
  have C0 := C
  obtain ⟨hx, hb, -, -, -, hown, hts, hK, -, -⟩ := C0
  refine lv_iconst (v := (1:Int32)) hx hb d_MM_end_30 (by decide) ?_
  obtain ⟨q1, hq1, h⟩ := o_bd_some h
  refine o_V (st1 := [.int q1.1]) (w1 := (m_cw ad ca rt q1.2 M0 M1)) hE.1 C (e_MM_fails hE l y1 (1:Int32) Mm M0 M1 rt hq1) hP (hDD _ _ _ _) hS hl.1 rfl mw_0 k_8_176 k_8_178 k_s_81 k_1_12 k_8_179 hv_MM_fails rfl rfl ⟨(Nat.le_of_ble_eq_true rfl), (Nat.le_of_ble_eq_true rfl)⟩ rfl (Nat.le_of_ble_eq_true rfl) ⟨Nat.zero_le _, Nat.zero_le _⟩ rfl d_MM_end_31 (fun H locs hP hS => ?_)
  refine lv_if_eq (tgt := 39) hx hb d_MM_end_34 (by decide) (fun c2 => ?_) (fun c2 => ?_)
  · replace h := o_tt c2 h
    refine lv_aload_n hx hb d_MM_end_39 rfl (lv_at hl 0 rfl) ?_
    refine lv_iconst (v := (0:Int32)) hx hb d_MM_end_40 (by decide) ?_
    refine o_put (v := .int (0:Int32)) (ty := .int) (w1 := (m_cw ad ca rt (MM_mk (MM_err q1.2) (0:Int32) (MM_wrong q1.2) (MM_octets q1.2) (MM_nodeKind q1.2) (MM_nodeA q1.2) (MM_nodeB q1.2) (MM_nodeC q1.2) (MM_nodeNext q1.2) (MM_low q1.2) (MM_high q1.2) (MM_setFrom q1.2) (MM_setTo q1.2) (MM_setNot q1.2) (MM_op q1.2) (MM_opA q1.2) (MM_opB q1.2) (MM_mark q1.2) (MM_now q1.2) (MM_then q1.2) (MM_todo q1.2) (MM_nodes q1.2) (MM_sets q1.2) (MM_ranges q1.2) (MM_steps q1.2) (MM_pat q1.2) (MM_patEnd q1.2) (MM_round q1.2) (MM_many1 q1.2) (MM_broken q1.2) (MM_keys q1.2) (MM_types q1.2) (MM_checked q1.2) (MM_faultKind q1.2) (MM_faultValue q1.2) (MM_latestFault q1.2) (MM_anchors q1.2) (MM_key q1.2) (MM_target q1.2) (MM_anchorValue q1.2) (MM_anchorSchema q1.2) (MM_path q1.2) (MM_route q1.2) (MM_isSchema q1.2) (MM_seen1 q1.2) (MM_pathSize q1.2) (MM_octetRow q1.2) (MM_partRow q1.2) (MM_pairValue q1.2) (MM_pairKey q1.2) (MM_pairs q1.2) (MM_judged q1.2) (MM_deepest q1.2) (MM_depth q1.2) (MM_over q1.2) (MM_seen q1.2)) M0 M1)) C in_MM t_MM t_MM_ok n_MM hP (hDD _ _ _ _) hS 0 mw_0 rfl 1 (by decide) k_7_231 rfl rfl (by decide +kernel) rfl rfl (Nat.le_of_ble_eq_true rfl) rfl d_MM_end_41 (fun H locs hP hS => ?_)
    refine lv_iload_n hx hb d_MM_end_44 rfl (lv_at hl 1 rfl) ?_
    refine lv_if_eq (tgt := 55) hx hb d_MM_end_45 (by decide) (fun c3 => ?_) (fun c3 => ?_)
    · replace h := o_tt c3 h
      refine lv_aload_n hx hb d_MM_end_55 rfl (lv_at hl 0 rfl) ?_
      refine o_get (v := .ref (ad 48)) C in_MM hP 0 mw_0 rfl 5 (by decide) k_7_235 rfl rfl d_MM_end_56 ?_
      refine lv_astore_n (lv' := [(3, .ref (ad 48)), (0, .ref (ad 0)), (1, .int x1), (2, .int x2)]) hx hb d_MM_end_59 rfl hl (by decide) rfl (fun ls hl => ?_)
      refine lv_iconst (v := (0:Int32)) hx hb d_MM_end_60 (by decide) ?_
      refine lv_istore (lv' := [(4, .int (0:Int32)), (3, .ref (ad 48)), (0, .ref (ad 0)), (1, .int x1), (2, .int x2)]) hx hb d_MM_end_61 hl (by decide) rfl (fun ls hl => ?_)
      obtain ⟨q2, hq2, h⟩ := o_bd_some h
      refine o_sim2 (AH := fun zz => o_At p l e rm_MM_end s m args below meth c _ m_cls D A 5 63 [] (m_cw ad ca rt (MM_mk (MM_err q1.2) (0:Int32) (MM_wrong q1.2) (MM_octets q1.2) (MM_nodeKind q1.2) (MM_nodeA q1.2) (MM_nodeB q1.2) (MM_nodeC q1.2) (MM_nodeNext q1.2) (MM_low q1.2) (MM_high q1.2) (MM_setFrom q1.2) (MM_setTo q1.2) (MM_setNot q1.2) (MM_op q1.2) (MM_opA q1.2) (MM_opB q1.2) (MM_mark q1.2) (MM_now q1.2) (MM_then q1.2) (MM_todo q1.2) (MM_nodes q1.2) (MM_sets q1.2) (MM_ranges q1.2) (MM_steps q1.2) (MM_pat q1.2) (MM_patEnd q1.2) (MM_round q1.2) (MM_many1 q1.2) (MM_broken q1.2) (MM_keys q1.2) (MM_types q1.2) (MM_checked q1.2) (MM_faultKind q1.2) (MM_faultValue q1.2) (MM_latestFault q1.2) (MM_anchors q1.2) (MM_key q1.2) (MM_target q1.2) (MM_anchorValue q1.2) (MM_anchorSchema q1.2) (MM_path q1.2) (MM_route q1.2) (MM_isSchema q1.2) (MM_seen1 q1.2) (MM_pathSize q1.2) (MM_octetRow q1.2) (MM_partRow q1.2) (MM_pairValue q1.2) (MM_pairKey q1.2) (MM_pairs q1.2) (MM_judged q1.2) (MM_deepest q1.2) (MM_depth q1.2) (MM_over q1.2) (MM_seen q1.2)) zz.2.1 zz.2.2) [(0, .ref (ad 0)), (1, .int x1), (2, .int x2), (3, .ref (ad 48)), (4, .int zz.1)]) (AX := fun qq => o_At p l e rm_MM_end s m args below meth c _ m_cls D A 5 89 [] (m_cw ad ca rt (MM_mk (MM_err q1.2) (0:Int32) (MM_wrong q1.2) (MM_octets q1.2) (MM_nodeKind q1.2) (MM_nodeA q1.2) (MM_nodeB q1.2) (MM_nodeC q1.2) (MM_nodeNext q1.2) (MM_low q1.2) (MM_high q1.2) (MM_setFrom q1.2) (MM_setTo q1.2) (MM_setNot q1.2) (MM_op q1.2) (MM_opA q1.2) (MM_opB q1.2) (MM_mark q1.2) (MM_now q1.2) (MM_then q1.2) (MM_todo q1.2) (MM_nodes q1.2) (MM_sets q1.2) (MM_ranges q1.2) (MM_steps q1.2) (MM_pat q1.2) (MM_patEnd q1.2) (MM_round q1.2) (MM_many1 q1.2) (MM_broken q1.2) (MM_keys q1.2) (MM_types q1.2) (MM_checked q1.2) (MM_faultKind q1.2) (MM_faultValue q1.2) (MM_latestFault q1.2) (MM_anchors q1.2) (MM_key q1.2) (MM_target q1.2) (MM_anchorValue q1.2) (MM_anchorSchema q1.2) (MM_path q1.2) (MM_route q1.2) (MM_isSchema q1.2) (MM_seen1 q1.2) (MM_pathSize q1.2) (MM_octetRow q1.2) (MM_partRow q1.2) (MM_pairValue q1.2) (MM_pairKey q1.2) (MM_pairs q1.2) (MM_judged q1.2) (MM_deepest q1.2) (MM_depth q1.2) (MM_over q1.2) (MM_seen q1.2)) qq.2.2.1 qq.2.2.2) [(0, .ref (ad 0)), (1, .int x1), (2, .int x2), (3, .ref (ad 48))]) (fun zz qq h h0 h1 => f_MM_end_b63 hE C hDD n x1 x2 (MM_mk (MM_err q1.2) (0:Int32) (MM_wrong q1.2) (MM_octets q1.2) (MM_nodeKind q1.2) (MM_nodeA q1.2) (MM_nodeB q1.2) (MM_nodeC q1.2) (MM_nodeNext q1.2) (MM_low q1.2) (MM_high q1.2) (MM_setFrom q1.2) (MM_setTo q1.2) (MM_setNot q1.2) (MM_op q1.2) (MM_opA q1.2) (MM_opB q1.2) (MM_mark q1.2) (MM_now q1.2) (MM_then q1.2) (MM_todo q1.2) (MM_nodes q1.2) (MM_sets q1.2) (MM_ranges q1.2) (MM_steps q1.2) (MM_pat q1.2) (MM_patEnd q1.2) (MM_round q1.2) (MM_many1 q1.2) (MM_broken q1.2) (MM_keys q1.2) (MM_types q1.2) (MM_checked q1.2) (MM_faultKind q1.2) (MM_faultValue q1.2) (MM_latestFault q1.2) (MM_anchors q1.2) (MM_key q1.2) (MM_target q1.2) (MM_anchorValue q1.2) (MM_anchorSchema q1.2) (MM_path q1.2) (MM_route q1.2) (MM_isSchema q1.2) (MM_seen1 q1.2) (MM_pathSize q1.2) (MM_octetRow q1.2) (MM_partRow q1.2) (MM_pairValue q1.2) (MM_pairKey q1.2) (MM_pairs q1.2) (MM_judged q1.2) (MM_deepest q1.2) (MM_depth q1.2) (MM_over q1.2) (MM_seen q1.2)) rt zz qq h h0 h1) n _ q2 hq2 ?_ _ _ _ hP hS (lv_sub hl [2, 3, 4, 1, 0] rfl)
      intro H locs ls hP hS hl
      refine lv_iload_n hx hb d_MM_end_89 rfl (lv_at hl 1 rfl) ?_
      refine lv_if_eq (tgt := 103) hx hb d_MM_end_90 (by decide) (fun c7 => ?_) (fun c7 => ?_)
      · replace h := o_tt c7 h
        exact f_MM_end_j103 hE C hDD n x2 q2.2.2.1 q2.2.2.2 (MM_mk (MM_err q1.2) (0:Int32) (MM_wrong q1.2) (MM_octets q1.2) (MM_nodeKind q1.2) (MM_nodeA q1.2) (MM_nodeB q1.2) (MM_nodeC q1.2) (MM_nodeNext q1.2) (MM_low q1.2) (MM_high q1.2) (MM_setFrom q1.2) (MM_setTo q1.2) (MM_setNot q1.2) (MM_op q1.2) (MM_opA q1.2) (MM_opB q1.2) (MM_mark q1.2) (MM_now q1.2) (MM_then q1.2) (MM_todo q1.2) (MM_nodes q1.2) (MM_sets q1.2) (MM_ranges q1.2) (MM_steps q1.2) (MM_pat q1.2) (MM_patEnd q1.2) (MM_round q1.2) (MM_many1 q1.2) (MM_broken q1.2) (MM_keys q1.2) (MM_types q1.2) (MM_checked q1.2) (MM_faultKind q1.2) (MM_faultValue q1.2) (MM_latestFault q1.2) (MM_anchors q1.2) (MM_key q1.2) (MM_target q1.2) (MM_anchorValue q1.2) (MM_anchorSchema q1.2) (MM_path q1.2) (MM_route q1.2) (MM_isSchema q1.2) (MM_seen1 q1.2) (MM_pathSize q1.2) (MM_octetRow q1.2) (MM_partRow q1.2) (MM_pairValue q1.2) (MM_pairKey q1.2) (MM_pairs q1.2) (MM_judged q1.2) (MM_deepest q1.2) (MM_depth q1.2) (MM_over q1.2) (MM_seen q1.2)) rt h _ _ _ hP hS (lv_sub hl [0, 2, 3] rfl)
      · replace h := o_ff c7 h
        refine lv_aload_n hx hb d_MM_end_93 rfl (lv_at hl 0 rfl) ?_
        refine lv_iconst (v := (0:Int32)) hx hb d_MM_end_94 (by decide) ?_
        refine o_put (v := .int (0:Int32)) (ty := .boolean) (w1 := (m_cw ad ca rt (MM_mk (MM_err q1.2) (0:Int32) (MM_wrong q1.2) (MM_octets q1.2) (MM_nodeKind q1.2) (MM_nodeA q1.2) (MM_nodeB q1.2) (MM_nodeC q1.2) (MM_nodeNext q1.2) (MM_low q1.2) (MM_high q1.2) (MM_setFrom q1.2) (MM_setTo q1.2) (MM_setNot q1.2) (MM_op q1.2) (MM_opA q1.2) (MM_opB q1.2) (MM_mark q1.2) (MM_now q1.2) (MM_then q1.2) (MM_todo q1.2) (MM_nodes q1.2) (MM_sets q1.2) (MM_ranges q1.2) (MM_steps q1.2) (MM_pat q1.2) (MM_patEnd q1.2) (MM_round q1.2) (MM_many1 q1.2) (MM_broken q1.2) (MM_keys q1.2) (MM_types q1.2) (0:Int32) (MM_faultKind q1.2) (MM_faultValue q1.2) (MM_latestFault q1.2) (MM_anchors q1.2) (MM_key q1.2) (MM_target q1.2) (MM_anchorValue q1.2) (MM_anchorSchema q1.2) (MM_path q1.2) (MM_route q1.2) (MM_isSchema q1.2) (MM_seen1 q1.2) (MM_pathSize q1.2) (MM_octetRow q1.2) (MM_partRow q1.2) (MM_pairValue q1.2) (MM_pairKey q1.2) (MM_pairs q1.2) (MM_judged q1.2) (MM_deepest q1.2) (MM_depth q1.2) (MM_over q1.2) (MM_seen q1.2)) q2.2.2.1 q2.2.2.2)) C in_MM t_MM t_MM_ok n_MM hP (hDD _ _ _ _) hS 0 mw_0 rfl 35 (by decide) k_8_25 rfl rfl (by decide +kernel) rfl rfl (Nat.le_of_ble_eq_true rfl) rfl d_MM_end_95 (fun H locs hP hS => ?_)
        refine lv_aload_n hx hb d_MM_end_98 rfl (lv_at hl 0 rfl) ?_
        refine lv_iconst (v := (-1:Int32)) hx hb d_MM_end_99 (by decide) ?_
        refine o_put (v := .int (-1:Int32)) (ty := .int) (w1 := (m_cw ad ca rt (MM_mk (MM_err q1.2) (0:Int32) (MM_wrong q1.2) (MM_octets q1.2) (MM_nodeKind q1.2) (MM_nodeA q1.2) (MM_nodeB q1.2) (MM_nodeC q1.2) (MM_nodeNext q1.2) (MM_low q1.2) (MM_high q1.2) (MM_setFrom q1.2) (MM_setTo q1.2) (MM_setNot q1.2) (MM_op q1.2) (MM_opA q1.2) (MM_opB q1.2) (MM_mark q1.2) (MM_now q1.2) (MM_then q1.2) (MM_todo q1.2) (MM_nodes q1.2) (MM_sets q1.2) (MM_ranges q1.2) (MM_steps q1.2) (MM_pat q1.2) (MM_patEnd q1.2) (MM_round q1.2) (MM_many1 q1.2) (MM_broken q1.2) (MM_keys q1.2) (MM_types q1.2) (0:Int32) (MM_faultKind q1.2) (MM_faultValue q1.2) (-1:Int32) (MM_anchors q1.2) (MM_key q1.2) (MM_target q1.2) (MM_anchorValue q1.2) (MM_anchorSchema q1.2) (MM_path q1.2) (MM_route q1.2) (MM_isSchema q1.2) (MM_seen1 q1.2) (MM_pathSize q1.2) (MM_octetRow q1.2) (MM_partRow q1.2) (MM_pairValue q1.2) (MM_pairKey q1.2) (MM_pairs q1.2) (MM_judged q1.2) (MM_deepest q1.2) (MM_depth q1.2) (MM_over q1.2) (MM_seen q1.2)) q2.2.2.1 q2.2.2.2)) C in_MM t_MM t_MM_ok n_MM hP (hDD _ _ _ _) hS 0 mw_0 rfl 38 (by decide) k_8_28 rfl rfl (by decide +kernel) rfl rfl (Nat.le_of_ble_eq_true rfl) rfl d_MM_end_100 (fun H locs hP hS => ?_)
        exact f_MM_end_j103 hE C hDD n x2 q2.2.2.1 q2.2.2.2 (MM_mk (MM_err q1.2) (0:Int32) (MM_wrong q1.2) (MM_octets q1.2) (MM_nodeKind q1.2) (MM_nodeA q1.2) (MM_nodeB q1.2) (MM_nodeC q1.2) (MM_nodeNext q1.2) (MM_low q1.2) (MM_high q1.2) (MM_setFrom q1.2) (MM_setTo q1.2) (MM_setNot q1.2) (MM_op q1.2) (MM_opA q1.2) (MM_opB q1.2) (MM_mark q1.2) (MM_now q1.2) (MM_then q1.2) (MM_todo q1.2) (MM_nodes q1.2) (MM_sets q1.2) (MM_ranges q1.2) (MM_steps q1.2) (MM_pat q1.2) (MM_patEnd q1.2) (MM_round q1.2) (MM_many1 q1.2) (MM_broken q1.2) (MM_keys q1.2) (MM_types q1.2) (0:Int32) (MM_faultKind q1.2) (MM_faultValue q1.2) (-1:Int32) (MM_anchors q1.2) (MM_key q1.2) (MM_target q1.2) (MM_anchorValue q1.2) (MM_anchorSchema q1.2) (MM_path q1.2) (MM_route q1.2) (MM_isSchema q1.2) (MM_seen1 q1.2) (MM_pathSize q1.2) (MM_octetRow q1.2) (MM_partRow q1.2) (MM_pairValue q1.2) (MM_pairKey q1.2) (MM_pairs q1.2) (MM_judged q1.2) (MM_deepest q1.2) (MM_depth q1.2) (MM_over q1.2) (MM_seen q1.2)) rt h _ _ _ hP hS (lv_sub hl [0, 2, 3] rfl)
    · replace h := o_ff c3 h
      refine lv_aload_n hx hb d_MM_end_48 rfl (lv_at hl 0 rfl) ?_
      refine o_get (v := .ref (ad 33)) C in_MM hP 0 mw_0 rfl 4 (by decide) k_7_234 rfl rfl d_MM_end_49 ?_
      refine lv_goto (tgt := 59) hx hb d_MM_end_52 (by decide) ?_
      refine lv_astore_n (lv' := [(3, .ref (ad 33)), (0, .ref (ad 0)), (1, .int x1), (2, .int x2)]) hx hb d_MM_end_59 rfl hl (by decide) rfl (fun ls hl => ?_)
      refine lv_iconst (v := (0:Int32)) hx hb d_MM_end_60 (by decide) ?_
      refine lv_istore (lv' := [(4, .int (0:Int32)), (3, .ref (ad 33)), (0, .ref (ad 0)), (1, .int x1), (2, .int x2)]) hx hb d_MM_end_61 hl (by decide) rfl (fun ls hl => ?_)
      obtain ⟨q5, hq5, h⟩ := o_bd_some h
      refine o_sim2 (AH := fun zz => o_At p l e rm_MM_end s m args below meth c _ m_cls D A 5 63 [] (m_cw ad ca rt (MM_mk (MM_err q1.2) (0:Int32) (MM_wrong q1.2) (MM_octets q1.2) (MM_nodeKind q1.2) (MM_nodeA q1.2) (MM_nodeB q1.2) (MM_nodeC q1.2) (MM_nodeNext q1.2) (MM_low q1.2) (MM_high q1.2) (MM_setFrom q1.2) (MM_setTo q1.2) (MM_setNot q1.2) (MM_op q1.2) (MM_opA q1.2) (MM_opB q1.2) (MM_mark q1.2) (MM_now q1.2) (MM_then q1.2) (MM_todo q1.2) (MM_nodes q1.2) (MM_sets q1.2) (MM_ranges q1.2) (MM_steps q1.2) (MM_pat q1.2) (MM_patEnd q1.2) (MM_round q1.2) (MM_many1 q1.2) (MM_broken q1.2) (MM_keys q1.2) (MM_types q1.2) (MM_checked q1.2) (MM_faultKind q1.2) (MM_faultValue q1.2) (MM_latestFault q1.2) (MM_anchors q1.2) (MM_key q1.2) (MM_target q1.2) (MM_anchorValue q1.2) (MM_anchorSchema q1.2) (MM_path q1.2) (MM_route q1.2) (MM_isSchema q1.2) (MM_seen1 q1.2) (MM_pathSize q1.2) (MM_octetRow q1.2) (MM_partRow q1.2) (MM_pairValue q1.2) (MM_pairKey q1.2) (MM_pairs q1.2) (MM_judged q1.2) (MM_deepest q1.2) (MM_depth q1.2) (MM_over q1.2) (MM_seen q1.2)) zz.2.1 zz.2.2) [(0, .ref (ad 0)), (1, .int x1), (2, .int x2), (3, .ref (ad 33)), (4, .int zz.1)]) (AX := fun qq => o_At p l e rm_MM_end s m args below meth c _ m_cls D A 5 89 [] (m_cw ad ca rt (MM_mk (MM_err q1.2) (0:Int32) (MM_wrong q1.2) (MM_octets q1.2) (MM_nodeKind q1.2) (MM_nodeA q1.2) (MM_nodeB q1.2) (MM_nodeC q1.2) (MM_nodeNext q1.2) (MM_low q1.2) (MM_high q1.2) (MM_setFrom q1.2) (MM_setTo q1.2) (MM_setNot q1.2) (MM_op q1.2) (MM_opA q1.2) (MM_opB q1.2) (MM_mark q1.2) (MM_now q1.2) (MM_then q1.2) (MM_todo q1.2) (MM_nodes q1.2) (MM_sets q1.2) (MM_ranges q1.2) (MM_steps q1.2) (MM_pat q1.2) (MM_patEnd q1.2) (MM_round q1.2) (MM_many1 q1.2) (MM_broken q1.2) (MM_keys q1.2) (MM_types q1.2) (MM_checked q1.2) (MM_faultKind q1.2) (MM_faultValue q1.2) (MM_latestFault q1.2) (MM_anchors q1.2) (MM_key q1.2) (MM_target q1.2) (MM_anchorValue q1.2) (MM_anchorSchema q1.2) (MM_path q1.2) (MM_route q1.2) (MM_isSchema q1.2) (MM_seen1 q1.2) (MM_pathSize q1.2) (MM_octetRow q1.2) (MM_partRow q1.2) (MM_pairValue q1.2) (MM_pairKey q1.2) (MM_pairs q1.2) (MM_judged q1.2) (MM_deepest q1.2) (MM_depth q1.2) (MM_over q1.2) (MM_seen q1.2)) qq.2.2.1 qq.2.2.2) [(0, .ref (ad 0)), (1, .int x1), (2, .int x2), (3, .ref (ad 33))]) (fun zz qq h h0 h1 => f_MM_end_b63v5 hE C hDD n x1 x2 (MM_mk (MM_err q1.2) (0:Int32) (MM_wrong q1.2) (MM_octets q1.2) (MM_nodeKind q1.2) (MM_nodeA q1.2) (MM_nodeB q1.2) (MM_nodeC q1.2) (MM_nodeNext q1.2) (MM_low q1.2) (MM_high q1.2) (MM_setFrom q1.2) (MM_setTo q1.2) (MM_setNot q1.2) (MM_op q1.2) (MM_opA q1.2) (MM_opB q1.2) (MM_mark q1.2) (MM_now q1.2) (MM_then q1.2) (MM_todo q1.2) (MM_nodes q1.2) (MM_sets q1.2) (MM_ranges q1.2) (MM_steps q1.2) (MM_pat q1.2) (MM_patEnd q1.2) (MM_round q1.2) (MM_many1 q1.2) (MM_broken q1.2) (MM_keys q1.2) (MM_types q1.2) (MM_checked q1.2) (MM_faultKind q1.2) (MM_faultValue q1.2) (MM_latestFault q1.2) (MM_anchors q1.2) (MM_key q1.2) (MM_target q1.2) (MM_anchorValue q1.2) (MM_anchorSchema q1.2) (MM_path q1.2) (MM_route q1.2) (MM_isSchema q1.2) (MM_seen1 q1.2) (MM_pathSize q1.2) (MM_octetRow q1.2) (MM_partRow q1.2) (MM_pairValue q1.2) (MM_pairKey q1.2) (MM_pairs q1.2) (MM_judged q1.2) (MM_deepest q1.2) (MM_depth q1.2) (MM_over q1.2) (MM_seen q1.2)) rt zz qq h h0 h1) n _ q5 hq5 ?_ _ _ _ hP hS (lv_sub hl [2, 3, 4, 1, 0] rfl)
      intro H locs ls hP hS hl
      refine lv_iload_n hx hb d_MM_end_89 rfl (lv_at hl 1 rfl) ?_
      refine lv_if_eq (tgt := 103) hx hb d_MM_end_90 (by decide) (fun c13 => ?_) (fun c13 => ?_)
      · replace h := o_tt c13 h
        exact f_MM_end_j103v7 hE C hDD n x2 q5.2.2.1 q5.2.2.2 (MM_mk (MM_err q1.2) (0:Int32) (MM_wrong q1.2) (MM_octets q1.2) (MM_nodeKind q1.2) (MM_nodeA q1.2) (MM_nodeB q1.2) (MM_nodeC q1.2) (MM_nodeNext q1.2) (MM_low q1.2) (MM_high q1.2) (MM_setFrom q1.2) (MM_setTo q1.2) (MM_setNot q1.2) (MM_op q1.2) (MM_opA q1.2) (MM_opB q1.2) (MM_mark q1.2) (MM_now q1.2) (MM_then q1.2) (MM_todo q1.2) (MM_nodes q1.2) (MM_sets q1.2) (MM_ranges q1.2) (MM_steps q1.2) (MM_pat q1.2) (MM_patEnd q1.2) (MM_round q1.2) (MM_many1 q1.2) (MM_broken q1.2) (MM_keys q1.2) (MM_types q1.2) (MM_checked q1.2) (MM_faultKind q1.2) (MM_faultValue q1.2) (MM_latestFault q1.2) (MM_anchors q1.2) (MM_key q1.2) (MM_target q1.2) (MM_anchorValue q1.2) (MM_anchorSchema q1.2) (MM_path q1.2) (MM_route q1.2) (MM_isSchema q1.2) (MM_seen1 q1.2) (MM_pathSize q1.2) (MM_octetRow q1.2) (MM_partRow q1.2) (MM_pairValue q1.2) (MM_pairKey q1.2) (MM_pairs q1.2) (MM_judged q1.2) (MM_deepest q1.2) (MM_depth q1.2) (MM_over q1.2) (MM_seen q1.2)) rt h _ _ _ hP hS (lv_sub hl [0, 2, 3] rfl)
      · replace h := o_ff c13 h
        refine lv_aload_n hx hb d_MM_end_93 rfl (lv_at hl 0 rfl) ?_
        refine lv_iconst (v := (0:Int32)) hx hb d_MM_end_94 (by decide) ?_
        refine o_put (v := .int (0:Int32)) (ty := .boolean) (w1 := (m_cw ad ca rt (MM_mk (MM_err q1.2) (0:Int32) (MM_wrong q1.2) (MM_octets q1.2) (MM_nodeKind q1.2) (MM_nodeA q1.2) (MM_nodeB q1.2) (MM_nodeC q1.2) (MM_nodeNext q1.2) (MM_low q1.2) (MM_high q1.2) (MM_setFrom q1.2) (MM_setTo q1.2) (MM_setNot q1.2) (MM_op q1.2) (MM_opA q1.2) (MM_opB q1.2) (MM_mark q1.2) (MM_now q1.2) (MM_then q1.2) (MM_todo q1.2) (MM_nodes q1.2) (MM_sets q1.2) (MM_ranges q1.2) (MM_steps q1.2) (MM_pat q1.2) (MM_patEnd q1.2) (MM_round q1.2) (MM_many1 q1.2) (MM_broken q1.2) (MM_keys q1.2) (MM_types q1.2) (0:Int32) (MM_faultKind q1.2) (MM_faultValue q1.2) (MM_latestFault q1.2) (MM_anchors q1.2) (MM_key q1.2) (MM_target q1.2) (MM_anchorValue q1.2) (MM_anchorSchema q1.2) (MM_path q1.2) (MM_route q1.2) (MM_isSchema q1.2) (MM_seen1 q1.2) (MM_pathSize q1.2) (MM_octetRow q1.2) (MM_partRow q1.2) (MM_pairValue q1.2) (MM_pairKey q1.2) (MM_pairs q1.2) (MM_judged q1.2) (MM_deepest q1.2) (MM_depth q1.2) (MM_over q1.2) (MM_seen q1.2)) q5.2.2.1 q5.2.2.2)) C in_MM t_MM t_MM_ok n_MM hP (hDD _ _ _ _) hS 0 mw_0 rfl 35 (by decide) k_8_25 rfl rfl (by decide +kernel) rfl rfl (Nat.le_of_ble_eq_true rfl) rfl d_MM_end_95 (fun H locs hP hS => ?_)
        refine lv_aload_n hx hb d_MM_end_98 rfl (lv_at hl 0 rfl) ?_
        refine lv_iconst (v := (-1:Int32)) hx hb d_MM_end_99 (by decide) ?_
        refine o_put (v := .int (-1:Int32)) (ty := .int) (w1 := (m_cw ad ca rt (MM_mk (MM_err q1.2) (0:Int32) (MM_wrong q1.2) (MM_octets q1.2) (MM_nodeKind q1.2) (MM_nodeA q1.2) (MM_nodeB q1.2) (MM_nodeC q1.2) (MM_nodeNext q1.2) (MM_low q1.2) (MM_high q1.2) (MM_setFrom q1.2) (MM_setTo q1.2) (MM_setNot q1.2) (MM_op q1.2) (MM_opA q1.2) (MM_opB q1.2) (MM_mark q1.2) (MM_now q1.2) (MM_then q1.2) (MM_todo q1.2) (MM_nodes q1.2) (MM_sets q1.2) (MM_ranges q1.2) (MM_steps q1.2) (MM_pat q1.2) (MM_patEnd q1.2) (MM_round q1.2) (MM_many1 q1.2) (MM_broken q1.2) (MM_keys q1.2) (MM_types q1.2) (0:Int32) (MM_faultKind q1.2) (MM_faultValue q1.2) (-1:Int32) (MM_anchors q1.2) (MM_key q1.2) (MM_target q1.2) (MM_anchorValue q1.2) (MM_anchorSchema q1.2) (MM_path q1.2) (MM_route q1.2) (MM_isSchema q1.2) (MM_seen1 q1.2) (MM_pathSize q1.2) (MM_octetRow q1.2) (MM_partRow q1.2) (MM_pairValue q1.2) (MM_pairKey q1.2) (MM_pairs q1.2) (MM_judged q1.2) (MM_deepest q1.2) (MM_depth q1.2) (MM_over q1.2) (MM_seen q1.2)) q5.2.2.1 q5.2.2.2)) C in_MM t_MM t_MM_ok n_MM hP (hDD _ _ _ _) hS 0 mw_0 rfl 38 (by decide) k_8_28 rfl rfl (by decide +kernel) rfl rfl (Nat.le_of_ble_eq_true rfl) rfl d_MM_end_100 (fun H locs hP hS => ?_)
        exact f_MM_end_j103v7 hE C hDD n x2 q5.2.2.1 q5.2.2.2 (MM_mk (MM_err q1.2) (0:Int32) (MM_wrong q1.2) (MM_octets q1.2) (MM_nodeKind q1.2) (MM_nodeA q1.2) (MM_nodeB q1.2) (MM_nodeC q1.2) (MM_nodeNext q1.2) (MM_low q1.2) (MM_high q1.2) (MM_setFrom q1.2) (MM_setTo q1.2) (MM_setNot q1.2) (MM_op q1.2) (MM_opA q1.2) (MM_opB q1.2) (MM_mark q1.2) (MM_now q1.2) (MM_then q1.2) (MM_todo q1.2) (MM_nodes q1.2) (MM_sets q1.2) (MM_ranges q1.2) (MM_steps q1.2) (MM_pat q1.2) (MM_patEnd q1.2) (MM_round q1.2) (MM_many1 q1.2) (MM_broken q1.2) (MM_keys q1.2) (MM_types q1.2) (0:Int32) (MM_faultKind q1.2) (MM_faultValue q1.2) (-1:Int32) (MM_anchors q1.2) (MM_key q1.2) (MM_target q1.2) (MM_anchorValue q1.2) (MM_anchorSchema q1.2) (MM_path q1.2) (MM_route q1.2) (MM_isSchema q1.2) (MM_seen1 q1.2) (MM_pathSize q1.2) (MM_octetRow q1.2) (MM_partRow q1.2) (MM_pairValue q1.2) (MM_pairKey q1.2) (MM_pairs q1.2) (MM_judged q1.2) (MM_deepest q1.2) (MM_depth q1.2) (MM_over q1.2) (MM_seen q1.2)) rt h _ _ _ hP hS (lv_sub hl [0, 2, 3] rfl)
  · replace h := o_ff c2 h
    refine lv_iconst (v := (0:Int32)) hx hb d_MM_end_37 (by decide) ?_
    cases h
    exact o_ri (v := (0:Int32)) C hP hS d_MM_end_38
set_option maxHeartbeats 4000000 in
set_option maxRecDepth 100000 in
theorem e_MM_end {E : (Nat → Prop) → State → Heap → Prop} {D : va_G} {ad kd sd vd xd : Nat → Nat} {ca : Nat → ClassId} (hE : o_EK E kd sd vd xd) (l : Launch) (n : Nat) (x1 : Int32) (x2 : Int32) (M0 : SMT) (M1 : SMT) (Mm : SMM) (rt : Value) {r : Int32 × SMT × SMT × SMM} (h : m_MM_end n x1 x2 M0 M1 Mm = some r) : o_Cn E l D m_cls (m_tys ca) y_MM_end cc_MM_end rm_MM_end [.ref (ad 0), .int x1, .int x2] (m_cw ad ca rt Mm M0 M1) (m_cw ad ca rt r.2.2.2 r.2.1 r.2.2.1) (some (.int r.1)) := by
  refine o_Cn_of (by decide) (Nat.le_of_ble_eq_true rfl) ?_
  intro p e s m below meth c A ls C hD hP hS hl
  have hDD : ∀ (rt : Value) (Mm : SMM) (M0 : SMT) (M1 : SMT), va_D A (m_cw ad ca rt Mm M0 M1) := fun _ _ _ _ => o_D_map hD rfl
  have hl : lv_has ls 5 [(0, .ref (ad 0)), (1, .int x1), (2, .int x2)] := hl
  unfold m_MM_end at h
  have C0 := C
  obtain ⟨hx, hb, -, -, -, hown, hts, hK, -, -⟩ := C0
  refine lv_aload_n hx hb d_MM_end_0 rfl (lv_at hl 0 rfl) ?_
  refine lv_iconst (v := (0:Int32)) hx hb d_MM_end_1 (by decide) ?_
  refine o_put (v := .int (0:Int32)) (ty := .int) (w1 := (m_cw ad ca rt (MM_mk (0:Int32) (MM_fed Mm) (MM_wrong Mm) (MM_octets Mm) (MM_nodeKind Mm) (MM_nodeA Mm) (MM_nodeB Mm) (MM_nodeC Mm) (MM_nodeNext Mm) (MM_low Mm) (MM_high Mm) (MM_setFrom Mm) (MM_setTo Mm) (MM_setNot Mm) (MM_op Mm) (MM_opA Mm) (MM_opB Mm) (MM_mark Mm) (MM_now Mm) (MM_then Mm) (MM_todo Mm) (MM_nodes Mm) (MM_sets Mm) (MM_ranges Mm) (MM_steps Mm) (MM_pat Mm) (MM_patEnd Mm) (MM_round Mm) (MM_many1 Mm) (MM_broken Mm) (MM_keys Mm) (MM_types Mm) (MM_checked Mm) (MM_faultKind Mm) (MM_faultValue Mm) (MM_latestFault Mm) (MM_anchors Mm) (MM_key Mm) (MM_target Mm) (MM_anchorValue Mm) (MM_anchorSchema Mm) (MM_path Mm) (MM_route Mm) (MM_isSchema Mm) (MM_seen1 Mm) (MM_pathSize Mm) (MM_octetRow Mm) (MM_partRow Mm) (MM_pairValue Mm) (MM_pairKey Mm) (MM_pairs Mm) (MM_judged Mm) (MM_deepest Mm) (MM_depth Mm) (MM_over Mm) (MM_seen Mm)) M0 M1)) C in_MM t_MM t_MM_ok n_MM hP (hDD _ _ _ _) hS 0 mw_0 rfl 0 (by decide) k_7_230 rfl rfl (by decide +kernel) rfl rfl (Nat.le_of_ble_eq_true rfl) rfl d_MM_end_2 (fun H locs hP hS => ?_)
  refine lv_aload_n hx hb d_MM_end_5 rfl (lv_at hl 0 rfl) ?_
  refine lv_iload_n hx hb d_MM_end_6 rfl (lv_at hl 2 rfl) ?_
  refine lv_if_lt (tgt := 25) hx hb d_MM_end_7 (by decide) (fun c1 => ?_) (fun c1 => ?_)
  · replace h := o_tt c1 h
    refine lv_iconst (v := (1:Int32)) hx hb d_MM_end_25 (by decide) ?_
    refine lv_goto (tgt := 30) hx hb d_MM_end_26 (by decide) ?_
    exact f_MM_end_j30 hE C hDD n x1 x2 (1:Int32) M0 M1 (MM_mk (0:Int32) (MM_fed Mm) (MM_wrong Mm) (MM_octets Mm) (MM_nodeKind Mm) (MM_nodeA Mm) (MM_nodeB Mm) (MM_nodeC Mm) (MM_nodeNext Mm) (MM_low Mm) (MM_high Mm) (MM_setFrom Mm) (MM_setTo Mm) (MM_setNot Mm) (MM_op Mm) (MM_opA Mm) (MM_opB Mm) (MM_mark Mm) (MM_now Mm) (MM_then Mm) (MM_todo Mm) (MM_nodes Mm) (MM_sets Mm) (MM_ranges Mm) (MM_steps Mm) (MM_pat Mm) (MM_patEnd Mm) (MM_round Mm) (MM_many1 Mm) (MM_broken Mm) (MM_keys Mm) (MM_types Mm) (MM_checked Mm) (MM_faultKind Mm) (MM_faultValue Mm) (MM_latestFault Mm) (MM_anchors Mm) (MM_key Mm) (MM_target Mm) (MM_anchorValue Mm) (MM_anchorSchema Mm) (MM_path Mm) (MM_route Mm) (MM_isSchema Mm) (MM_seen1 Mm) (MM_pathSize Mm) (MM_octetRow Mm) (MM_partRow Mm) (MM_pairValue Mm) (MM_pairKey Mm) (MM_pairs Mm) (MM_judged Mm) (MM_deepest Mm) (MM_depth Mm) (MM_over Mm) (MM_seen Mm)) rt h _ _ _ hP hS (lv_sub hl [0, 1, 2] rfl)
  · replace h := o_ff c1 h
    refine lv_iload_n hx hb d_MM_end_10 rfl (lv_at hl 2 rfl) ?_
    refine lv_sipush (v := (8192:Int32)) hx hb d_MM_end_11 (by decide) ?_
    refine lv_icmp_gt (tgt := 25) hx hb d_MM_end_14 (by decide) (fun c16 => ?_) (fun c16 => ?_)
    · replace h := o_tt c16 h
      refine lv_iconst (v := (1:Int32)) hx hb d_MM_end_25 (by decide) ?_
      refine lv_goto (tgt := 30) hx hb d_MM_end_26 (by decide) ?_
      exact f_MM_end_j30 hE C hDD n x1 x2 (1:Int32) M0 M1 (MM_mk (0:Int32) (MM_fed Mm) (MM_wrong Mm) (MM_octets Mm) (MM_nodeKind Mm) (MM_nodeA Mm) (MM_nodeB Mm) (MM_nodeC Mm) (MM_nodeNext Mm) (MM_low Mm) (MM_high Mm) (MM_setFrom Mm) (MM_setTo Mm) (MM_setNot Mm) (MM_op Mm) (MM_opA Mm) (MM_opB Mm) (MM_mark Mm) (MM_now Mm) (MM_then Mm) (MM_todo Mm) (MM_nodes Mm) (MM_sets Mm) (MM_ranges Mm) (MM_steps Mm) (MM_pat Mm) (MM_patEnd Mm) (MM_round Mm) (MM_many1 Mm) (MM_broken Mm) (MM_keys Mm) (MM_types Mm) (MM_checked Mm) (MM_faultKind Mm) (MM_faultValue Mm) (MM_latestFault Mm) (MM_anchors Mm) (MM_key Mm) (MM_target Mm) (MM_anchorValue Mm) (MM_anchorSchema Mm) (MM_path Mm) (MM_route Mm) (MM_isSchema Mm) (MM_seen1 Mm) (MM_pathSize Mm) (MM_octetRow Mm) (MM_partRow Mm) (MM_pairValue Mm) (MM_pairKey Mm) (MM_pairs Mm) (MM_judged Mm) (MM_deepest Mm) (MM_depth Mm) (MM_over Mm) (MM_seen Mm)) rt h _ _ _ hP hS (lv_sub hl [0, 1, 2] rfl)
    · replace h := o_ff c16 h
      refine lv_iload_n hx hb d_MM_end_17 rfl (lv_at hl 2 rfl) ?_
      refine lv_aload_n hx hb d_MM_end_18 rfl (lv_at hl 0 rfl) ?_
      refine o_get (v := .int (MM_fed Mm)) C in_MM hP 0 mw_0 rfl 1 (by decide) k_7_231 rfl rfl d_MM_end_19 ?_
      refine lv_icmp_le (tgt := 29) hx hb d_MM_end_22 (by decide) (fun c17 => ?_) (fun c17 => ?_)
      · replace h := o_tt c17 h
        refine lv_iconst (v := (0:Int32)) hx hb d_MM_end_29 (by decide) ?_
        exact f_MM_end_j30 hE C hDD n x1 x2 (0:Int32) M0 M1 (MM_mk (0:Int32) (MM_fed Mm) (MM_wrong Mm) (MM_octets Mm) (MM_nodeKind Mm) (MM_nodeA Mm) (MM_nodeB Mm) (MM_nodeC Mm) (MM_nodeNext Mm) (MM_low Mm) (MM_high Mm) (MM_setFrom Mm) (MM_setTo Mm) (MM_setNot Mm) (MM_op Mm) (MM_opA Mm) (MM_opB Mm) (MM_mark Mm) (MM_now Mm) (MM_then Mm) (MM_todo Mm) (MM_nodes Mm) (MM_sets Mm) (MM_ranges Mm) (MM_steps Mm) (MM_pat Mm) (MM_patEnd Mm) (MM_round Mm) (MM_many1 Mm) (MM_broken Mm) (MM_keys Mm) (MM_types Mm) (MM_checked Mm) (MM_faultKind Mm) (MM_faultValue Mm) (MM_latestFault Mm) (MM_anchors Mm) (MM_key Mm) (MM_target Mm) (MM_anchorValue Mm) (MM_anchorSchema Mm) (MM_path Mm) (MM_route Mm) (MM_isSchema Mm) (MM_seen1 Mm) (MM_pathSize Mm) (MM_octetRow Mm) (MM_partRow Mm) (MM_pairValue Mm) (MM_pairKey Mm) (MM_pairs Mm) (MM_judged Mm) (MM_deepest Mm) (MM_depth Mm) (MM_over Mm) (MM_seen Mm)) rt h _ _ _ hP hS (lv_sub hl [0, 1, 2] rfl)
      · replace h := o_ff c17 h
        refine lv_iconst (v := (1:Int32)) hx hb d_MM_end_25 (by decide) ?_
        refine lv_goto (tgt := 30) hx hb d_MM_end_26 (by decide) ?_
        exact f_MM_end_j30 hE C hDD n x1 x2 (1:Int32) M0 M1 (MM_mk (0:Int32) (MM_fed Mm) (MM_wrong Mm) (MM_octets Mm) (MM_nodeKind Mm) (MM_nodeA Mm) (MM_nodeB Mm) (MM_nodeC Mm) (MM_nodeNext Mm) (MM_low Mm) (MM_high Mm) (MM_setFrom Mm) (MM_setTo Mm) (MM_setNot Mm) (MM_op Mm) (MM_opA Mm) (MM_opB Mm) (MM_mark Mm) (MM_now Mm) (MM_then Mm) (MM_todo Mm) (MM_nodes Mm) (MM_sets Mm) (MM_ranges Mm) (MM_steps Mm) (MM_pat Mm) (MM_patEnd Mm) (MM_round Mm) (MM_many1 Mm) (MM_broken Mm) (MM_keys Mm) (MM_types Mm) (MM_checked Mm) (MM_faultKind Mm) (MM_faultValue Mm) (MM_latestFault Mm) (MM_anchors Mm) (MM_key Mm) (MM_target Mm) (MM_anchorValue Mm) (MM_anchorSchema Mm) (MM_path Mm) (MM_route Mm) (MM_isSchema Mm) (MM_seen1 Mm) (MM_pathSize Mm) (MM_octetRow Mm) (MM_partRow Mm) (MM_pairValue Mm) (MM_pairKey Mm) (MM_pairs Mm) (MM_judged Mm) (MM_deepest Mm) (MM_depth Mm) (MM_over Mm) (MM_seen Mm)) rt h _ _ _ hP hS (lv_sub hl [0, 1, 2] rfl)
set_option maxHeartbeats 4000000 in
set_option maxRecDepth 100000 in
theorem e_MM_wrong {E : (Nat → Prop) → State → Heap → Prop} {D : va_G} {ad kd sd vd xd : Nat → Nat} {ca : Nat → ClassId} (hE : o_EK E kd sd vd xd) (l : Launch)  (Mm : SMM) (M0 : SMT) (M1 : SMT) (rt : Value) {r : Int32 × SMM} (h : m_MM_wrong Mm = some r) : o_Cn E l D m_cls (m_tys ca) y_MM_wrong cc_MM_wrong rm_MM_wrong [.ref (ad 0)] (m_cw ad ca rt Mm M0 M1) (m_cw ad ca rt r.2 M0 M1) (some (.int r.1)) := by
  refine o_Cn_of (by decide) (Nat.le_of_ble_eq_true rfl) ?_
  intro p e s m below meth c A ls C hD hP hS hl
  have hDD : ∀ (rt : Value) (Mm : SMM) (M0 : SMT) (M1 : SMT), va_D A (m_cw ad ca rt Mm M0 M1) := fun _ _ _ _ => o_D_map hD rfl
  have hl : lv_has ls 1 [(0, .ref (ad 0))] := hl
  unfold m_MM_wrong at h
  have C0 := C
  obtain ⟨hx, hb, -, -, -, hown, hts, hK, -, -⟩ := C0
  refine lv_aload_n hx hb d_MM_wrong_0 rfl (lv_at hl 0 rfl) ?_
  refine lv_iconst (v := (0:Int32)) hx hb d_MM_wrong_1 (by decide) ?_
  refine o_put (v := .int (0:Int32)) (ty := .int) (w1 := (m_cw ad ca rt (MM_mk (0:Int32) (MM_fed Mm) (MM_wrong Mm) (MM_octets Mm) (MM_nodeKind Mm) (MM_nodeA Mm) (MM_nodeB Mm) (MM_nodeC Mm) (MM_nodeNext Mm) (MM_low Mm) (MM_high Mm) (MM_setFrom Mm) (MM_setTo Mm) (MM_setNot Mm) (MM_op Mm) (MM_opA Mm) (MM_opB Mm) (MM_mark Mm) (MM_now Mm) (MM_then Mm) (MM_todo Mm) (MM_nodes Mm) (MM_sets Mm) (MM_ranges Mm) (MM_steps Mm) (MM_pat Mm) (MM_patEnd Mm) (MM_round Mm) (MM_many1 Mm) (MM_broken Mm) (MM_keys Mm) (MM_types Mm) (MM_checked Mm) (MM_faultKind Mm) (MM_faultValue Mm) (MM_latestFault Mm) (MM_anchors Mm) (MM_key Mm) (MM_target Mm) (MM_anchorValue Mm) (MM_anchorSchema Mm) (MM_path Mm) (MM_route Mm) (MM_isSchema Mm) (MM_seen1 Mm) (MM_pathSize Mm) (MM_octetRow Mm) (MM_partRow Mm) (MM_pairValue Mm) (MM_pairKey Mm) (MM_pairs Mm) (MM_judged Mm) (MM_deepest Mm) (MM_depth Mm) (MM_over Mm) (MM_seen Mm)) M0 M1)) C in_MM t_MM t_MM_ok n_MM hP (hDD _ _ _ _) hS 0 mw_0 rfl 0 (by decide) k_7_230 rfl rfl (by decide +kernel) rfl rfl (Nat.le_of_ble_eq_true rfl) rfl d_MM_wrong_2 (fun H locs hP hS => ?_)
  refine lv_aload_n hx hb d_MM_wrong_5 rfl (lv_at hl 0 rfl) ?_
  refine o_get (v := .int (MM_wrong Mm)) C in_MM hP 0 mw_0 rfl 2 (by decide) k_7_232 rfl rfl d_MM_wrong_6 ?_
  cases h
  exact o_ri (v := (MM_wrong Mm)) C hP hS d_MM_wrong_9
set_option maxHeartbeats 4000000 in
set_option maxRecDepth 100000 in
theorem f_MM_check_b42 {E : (Nat → Prop) → State → Heap → Prop} {p : Program} {l : Launch} {e : Env} {s : State} {m : MethodId} {args : Array Value} {below : List Frame} {meth : Method} {c : Code} {D : va_G} {ad kd sd vd xd : Nat → Nat} {ca : Nat → ClassId} {A : Nat → Prop} {Q : State → Prop} (hE : o_EK E kd sd vd xd) (C : o_Cx E p s m args meth c D m_cls (m_tys ca) "SchemaJudgeModel" b_MM_check (some .int) 2 cc_MM_check A) (hDD : ∀ (rt : Value) (Mm : SMM) (M0 : SMT) (M1 : SMT), va_D A (m_cw ad ca rt Mm M0 M1)) (n : Nat) (u42_M0 : SMT) (u42_M1 : SMT) (u42_rt : Value) (z : Int32 × SMM) (q : Nat × Int32 × SMM) (h : m_MM_check_b42 n u42_M0 z = some q) (h0 : q.1 = 0 → o_At p l e rm_MM_check s m args below meth c Q m_cls D A 2 42 [] (m_cw ad ca u42_rt q.2.2 u42_M0 u42_M1) [(0, .ref (ad 0)), (1, .int q.2.1)]) (h1 : q.1 ≠ 0 → (o_At p l e rm_MM_check s m args below meth c Q m_cls D A 2 76 [] (m_cw ad ca u42_rt q.2.2 u42_M0 u42_M1) [(0, .ref (ad 0))])) : o_At p l e rm_MM_check s m args below meth c Q m_cls D A 2 42 [] (m_cw ad ca u42_rt z.2 u42_M0 u42_M1) [(0, .ref (ad 0)), (1, .int z.1)] := by
  unfold m_MM_check_b42 at h
  intro H locs ls hP hS hl
  have C0 := C
  obtain ⟨hx, hb, -, -, -, hown, hts, hK, -, -⟩ := C0
  refine lv_iload_n hx hb d_MM_check_42 rfl (lv_at hl 1 rfl) ?_
  refine lv_sipush (v := (1000:Int32)) hx hb d_MM_check_43 (by decide) ?_
  refine lv_icmp_ge (tgt := 76) hx hb d_MM_check_46 (by decide) (fun c3 => ?_) (fun c3 => ?_)
  · replace h := o_tt c3 h
    cases h
    exact h1 (Nat.succ_ne_zero 0) _ _ _ hP hS (lv_sub hl [0] rfl)
  · replace h := o_ff c3 h
    refine lv_aload_n hx hb d_MM_check_49 rfl (lv_at hl 0 rfl) ?_
    refine o_get (v := .ref (ad 27)) C in_MM hP 0 mw_0 rfl 46 (by decide) k_8_36 rfl rfl d_MM_check_50 ?_
    refine lv_iload_n hx hb d_MM_check_53 rfl (lv_at hl 1 rfl) ?_
    refine lv_iconst (v := (0:Int32)) hx hb d_MM_check_54 (by decide) ?_
    obtain ⟨g4, h⟩ := o_gd_some h
    refine o_zast (f := (MM_isSchema z.2)) (w1 := (m_cw ad ca u42_rt (MM_mk (MM_err z.2) (MM_fed z.2) (MM_wrong z.2) (MM_octets z.2) (MM_nodeKind z.2) (MM_nodeA z.2) (MM_nodeB z.2) (MM_nodeC z.2) (MM_nodeNext z.2) (MM_low z.2) (MM_high z.2) (MM_setFrom z.2) (MM_setTo z.2) (MM_setNot z.2) (MM_op z.2) (MM_opA z.2) (MM_opB z.2) (MM_mark z.2) (MM_now z.2) (MM_then z.2) (MM_todo z.2) (MM_nodes z.2) (MM_sets z.2) (MM_ranges z.2) (MM_steps z.2) (MM_pat z.2) (MM_patEnd z.2) (MM_round z.2) (MM_many1 z.2) (MM_broken z.2) (MM_keys z.2) (MM_types z.2) (MM_checked z.2) (MM_faultKind z.2) (MM_faultValue z.2) (MM_latestFault z.2) (MM_anchors z.2) (MM_key z.2) (MM_target z.2) (MM_anchorValue z.2) (MM_anchorSchema z.2) (MM_path z.2) (MM_route z.2) (upd (MM_isSchema z.2) z.1.toNatClampNeg (vp_nar .boolean (0:Int32))) (MM_seen1 z.2) (MM_pathSize z.2) (MM_octetRow z.2) (MM_partRow z.2) (MM_pairValue z.2) (MM_pairKey z.2) (MM_pairs z.2) (MM_judged z.2) (MM_deepest z.2) (MM_depth z.2) (MM_over z.2) (MM_seen z.2)) u42_M0 u42_M1)) C hP (hDD _ _ _ _) hS 27 26 mw_27 rfl g4 rfl d_MM_check_55 (fun H locs hP hS => ?_)
    refine lv_aload_n hx hb d_MM_check_56 rfl (lv_at hl 0 rfl) ?_
    refine o_get (v := .ref (ad 21)) C in_MM hP 0 mw_0 rfl 40 (by decide) k_8_30 rfl rfl d_MM_check_57 ?_
    refine lv_iload_n hx hb d_MM_check_60 rfl (lv_at hl 1 rfl) ?_
    refine lv_iconst (v := (-1:Int32)) hx hb d_MM_check_61 (by decide) ?_
    obtain ⟨g5, h⟩ := o_gd_some h
    refine o_iast (f := (MM_key z.2)) (w1 := (m_cw ad ca u42_rt (MM_mk (MM_err z.2) (MM_fed z.2) (MM_wrong z.2) (MM_octets z.2) (MM_nodeKind z.2) (MM_nodeA z.2) (MM_nodeB z.2) (MM_nodeC z.2) (MM_nodeNext z.2) (MM_low z.2) (MM_high z.2) (MM_setFrom z.2) (MM_setTo z.2) (MM_setNot z.2) (MM_op z.2) (MM_opA z.2) (MM_opB z.2) (MM_mark z.2) (MM_now z.2) (MM_then z.2) (MM_todo z.2) (MM_nodes z.2) (MM_sets z.2) (MM_ranges z.2) (MM_steps z.2) (MM_pat z.2) (MM_patEnd z.2) (MM_round z.2) (MM_many1 z.2) (MM_broken z.2) (MM_keys z.2) (MM_types z.2) (MM_checked z.2) (MM_faultKind z.2) (MM_faultValue z.2) (MM_latestFault z.2) (MM_anchors z.2) (upd (MM_key z.2) z.1.toNatClampNeg (-1:Int32)) (MM_target z.2) (MM_anchorValue z.2) (MM_anchorSchema z.2) (MM_path z.2) (MM_route z.2) (upd (MM_isSchema z.2) z.1.toNatClampNeg (vp_nar .boolean (0:Int32))) (MM_seen1 z.2) (MM_pathSize z.2) (MM_octetRow z.2) (MM_partRow z.2) (MM_pairValue z.2) (MM_pairKey z.2) (MM_pairs z.2) (MM_judged z.2) (MM_deepest z.2) (MM_depth z.2) (MM_over z.2) (MM_seen z.2)) u42_M0 u42_M1)) C hP (hDD _ _ _ _) hS 21 20 mw_21 rfl g5 rfl d_MM_check_62 (fun H locs hP hS => ?_)
    refine lv_aload_n hx hb d_MM_check_63 rfl (lv_at hl 0 rfl) ?_
    refine o_get (v := .ref (ad 22)) C in_MM hP 0 mw_0 rfl 41 (by decide) k_8_31 rfl rfl d_MM_check_64 ?_
    refine lv_iload_n hx hb d_MM_check_67 rfl (lv_at hl 1 rfl) ?_
    refine lv_iconst (v := (-1:Int32)) hx hb d_MM_check_68 (by decide) ?_
    obtain ⟨g6, h⟩ := o_gd_some h
    refine o_iast (f := (MM_target z.2)) (w1 := (m_cw ad ca u42_rt (MM_mk (MM_err z.2) (MM_fed z.2) (MM_wrong z.2) (MM_octets z.2) (MM_nodeKind z.2) (MM_nodeA z.2) (MM_nodeB z.2) (MM_nodeC z.2) (MM_nodeNext z.2) (MM_low z.2) (MM_high z.2) (MM_setFrom z.2) (MM_setTo z.2) (MM_setNot z.2) (MM_op z.2) (MM_opA z.2) (MM_opB z.2) (MM_mark z.2) (MM_now z.2) (MM_then z.2) (MM_todo z.2) (MM_nodes z.2) (MM_sets z.2) (MM_ranges z.2) (MM_steps z.2) (MM_pat z.2) (MM_patEnd z.2) (MM_round z.2) (MM_many1 z.2) (MM_broken z.2) (MM_keys z.2) (MM_types z.2) (MM_checked z.2) (MM_faultKind z.2) (MM_faultValue z.2) (MM_latestFault z.2) (MM_anchors z.2) (upd (MM_key z.2) z.1.toNatClampNeg (-1:Int32)) (upd (MM_target z.2) z.1.toNatClampNeg (-1:Int32)) (MM_anchorValue z.2) (MM_anchorSchema z.2) (MM_path z.2) (MM_route z.2) (upd (MM_isSchema z.2) z.1.toNatClampNeg (vp_nar .boolean (0:Int32))) (MM_seen1 z.2) (MM_pathSize z.2) (MM_octetRow z.2) (MM_partRow z.2) (MM_pairValue z.2) (MM_pairKey z.2) (MM_pairs z.2) (MM_judged z.2) (MM_deepest z.2) (MM_depth z.2) (MM_over z.2) (MM_seen z.2)) u42_M0 u42_M1)) C hP (hDD _ _ _ _) hS 22 21 mw_22 rfl g6 rfl d_MM_check_69 (fun H locs hP hS => ?_)
    obtain ⟨x1_70, ex1_70⟩ : ∃ y : Int32, y = z.1 + (1:Int32) := ⟨_, rfl⟩
    replace h := o_nm_at ex1_70 h
    refine lv_iinc (v := x1_70) (lv' := [(1, .int x1_70), (0, .ref (ad 0))]) hx hb d_MM_check_70 hl (k := 1) rfl (by rw [ex1_70]; rfl) (by decide) rfl (fun ls hl => ?_)
    refine lv_goto (tgt := 42) hx hb d_MM_check_73 (by decide) ?_
    cases h
    exact h0 rfl _ _ _ hP hS (lv_sub hl [1, 0] rfl)
set_option maxHeartbeats 4000000 in
set_option maxRecDepth 100000 in
theorem f_MM_check_j21 {E : (Nat → Prop) → State → Heap → Prop} {p : Program} {l : Launch} {e : Env} {s : State} {m : MethodId} {args : Array Value} {below : List Frame} {meth : Method} {c : Code} {D : va_G} {ad kd sd vd xd : Nat → Nat} {ca : Nat → ClassId} {A : Nat → Prop} (hE : o_EK E kd sd vd xd) (C : o_Cx E p s m args meth c D m_cls (m_tys ca) "SchemaJudgeModel" b_MM_check (some .int) 2 cc_MM_check A) (hDD : ∀ (rt : Value) (Mm : SMM) (M0 : SMT) (M1 : SMT), va_D A (m_cw ad ca rt Mm M0 M1)) (n : Nat) (y1 : Int32) (M0 : SMT) (Mm : SMM) (M1 : SMT) (rt : Value) {r : Int32 × SMM} (h : m_MM_check_j21 n y1 M0 Mm = some r) : o_At p l e rm_MM_check s m args below meth c (MQ below (o_Qx D m_cls (some (.int r.1)) (m_cw ad ca rt r.2 M0 M1) A) args s 0 0 A) m_cls D A 2 21 [.int y1, .ref (ad 0)] (m_cw ad ca rt Mm M0 M1) [(0, .ref (ad 0))] := by
  unfold m_MM_check_j21 at h
  intro H locs ls hP hS hl
  have C0 := C
  obtain ⟨hx, hb, -, -, -, hown, hts, hK, -, -⟩ := C0
  refine lv_iconst (v := (1:Int32)) hx hb d_MM_check_21 (by decide) ?_
  obtain ⟨q1, hq1, h⟩ := o_bd_some h
  refine o_V (st1 := [.int q1.1]) (w1 := (m_cw ad ca rt q1.2 M0 M1)) hE.1 C (e_MM_fails hE l y1 (1:Int32) Mm M0 M1 rt hq1) hP (hDD _ _ _ _) hS hl.1 rfl mw_0 k_8_176 k_8_178 k_s_81 k_1_12 k_8_179 hv_MM_fails rfl rfl ⟨(Nat.le_of_ble_eq_true rfl), (Nat.le_of_ble_eq_true rfl)⟩ rfl (Nat.le_of_ble_eq_true rfl) ⟨Nat.zero_le _, Nat.zero_le _⟩ rfl d_MM_check_22 (fun H locs hP hS => ?_)
  refine lv_if_eq (tgt := 30) hx hb d_MM_check_25 (by decide) (fun c2 => ?_) (fun c2 => ?_)
  · replace h := o_tt c2 h
    refine lv_aload_n hx hb d_MM_check_30 rfl (lv_at hl 0 rfl) ?_
    refine lv_iconst (v := (0:Int32)) hx hb d_MM_check_31 (by decide) ?_
    refine o_put (v := .int (0:Int32)) (ty := .int) (w1 := (m_cw ad ca rt (MM_mk (MM_err q1.2) (MM_fed q1.2) (MM_wrong q1.2) (MM_octets q1.2) (MM_nodeKind q1.2) (MM_nodeA q1.2) (MM_nodeB q1.2) (MM_nodeC q1.2) (MM_nodeNext q1.2) (MM_low q1.2) (MM_high q1.2) (MM_setFrom q1.2) (MM_setTo q1.2) (MM_setNot q1.2) (MM_op q1.2) (MM_opA q1.2) (MM_opB q1.2) (MM_mark q1.2) (MM_now q1.2) (MM_then q1.2) (MM_todo q1.2) (MM_nodes q1.2) (MM_sets q1.2) (MM_ranges q1.2) (MM_steps q1.2) (MM_pat q1.2) (MM_patEnd q1.2) (MM_round q1.2) (MM_many1 q1.2) (MM_broken q1.2) (MM_keys q1.2) (MM_types q1.2) (MM_checked q1.2) (0:Int32) (MM_faultValue q1.2) (MM_latestFault q1.2) (MM_anchors q1.2) (MM_key q1.2) (MM_target q1.2) (MM_anchorValue q1.2) (MM_anchorSchema q1.2) (MM_path q1.2) (MM_route q1.2) (MM_isSchema q1.2) (MM_seen1 q1.2) (MM_pathSize q1.2) (MM_octetRow q1.2) (MM_partRow q1.2) (MM_pairValue q1.2) (MM_pairKey q1.2) (MM_pairs q1.2) (MM_judged q1.2) (MM_deepest q1.2) (MM_depth q1.2) (MM_over q1.2) (MM_seen q1.2)) M0 M1)) C in_MM t_MM t_MM_ok n_MM hP (hDD _ _ _ _) hS 0 mw_0 rfl 36 (by decide) k_8_26 rfl rfl (by decide +kernel) rfl rfl (Nat.le_of_ble_eq_true rfl) rfl d_MM_check_32 (fun H locs hP hS => ?_)
    refine lv_aload_n hx hb d_MM_check_35 rfl (lv_at hl 0 rfl) ?_
    refine lv_iconst (v := (0:Int32)) hx hb d_MM_check_36 (by decide) ?_
    refine o_put (v := .int (0:Int32)) (ty := .int) (w1 := (m_cw ad ca rt (MM_mk (MM_err q1.2) (MM_fed q1.2) (MM_wrong q1.2) (MM_octets q1.2) (MM_nodeKind q1.2) (MM_nodeA q1.2) (MM_nodeB q1.2) (MM_nodeC q1.2) (MM_nodeNext q1.2) (MM_low q1.2) (MM_high q1.2) (MM_setFrom q1.2) (MM_setTo q1.2) (MM_setNot q1.2) (MM_op q1.2) (MM_opA q1.2) (MM_opB q1.2) (MM_mark q1.2) (MM_now q1.2) (MM_then q1.2) (MM_todo q1.2) (MM_nodes q1.2) (MM_sets q1.2) (MM_ranges q1.2) (MM_steps q1.2) (MM_pat q1.2) (MM_patEnd q1.2) (MM_round q1.2) (MM_many1 q1.2) (MM_broken q1.2) (MM_keys q1.2) (MM_types q1.2) (MM_checked q1.2) (0:Int32) (MM_faultValue q1.2) (MM_latestFault q1.2) (0:Int32) (MM_key q1.2) (MM_target q1.2) (MM_anchorValue q1.2) (MM_anchorSchema q1.2) (MM_path q1.2) (MM_route q1.2) (MM_isSchema q1.2) (MM_seen1 q1.2) (MM_pathSize q1.2) (MM_octetRow q1.2) (MM_partRow q1.2) (MM_pairValue q1.2) (MM_pairKey q1.2) (MM_pairs q1.2) (MM_judged q1.2) (MM_deepest q1.2) (MM_depth q1.2) (MM_over q1.2) (MM_seen q1.2)) M0 M1)) C in_MM t_MM t_MM_ok n_MM hP (hDD _ _ _ _) hS 0 mw_0 rfl 39 (by decide) k_8_29 rfl rfl (by decide +kernel) rfl rfl (Nat.le_of_ble_eq_true rfl) rfl d_MM_check_37 (fun H locs hP hS => ?_)
    refine lv_iconst (v := (0:Int32)) hx hb d_MM_check_40 (by decide) ?_
    refine lv_istore_n (lv' := [(1, .int (0:Int32)), (0, .ref (ad 0))]) hx hb d_MM_check_41 rfl hl (by decide) rfl (fun ls hl => ?_)
    obtain ⟨q2, hq2, h⟩ := o_bd_some h
    refine o_sim2 (AH := fun zz => o_At p l e rm_MM_check s m args below meth c _ m_cls D A 2 42 [] (m_cw ad ca rt zz.2 M0 M1) [(0, .ref (ad 0)), (1, .int zz.1)]) (AX := fun qq => o_At p l e rm_MM_check s m args below meth c _ m_cls D A 2 76 [] (m_cw ad ca rt qq.2.2 M0 M1) [(0, .ref (ad 0))]) (fun zz qq h h0 h1 => f_MM_check_b42 hE C hDD n M0 M1 rt zz qq h h0 h1) n _ q2 hq2 ?_ _ _ _ hP hS (lv_sub hl [1, 0] rfl)
    intro H locs ls hP hS hl
    refine lv_aload_n hx hb d_MM_check_76 rfl (lv_at hl 0 rfl) ?_
    refine lv_iconst (v := (0:Int32)) hx hb d_MM_check_77 (by decide) ?_
    cases h
  · replace h := o_ff c2 h
    refine lv_iconst (v := (0:Int32)) hx hb d_MM_check_28 (by decide) ?_
    cases h
    exact o_ri (v := (0:Int32)) C hP hS d_MM_check_29
set_option maxHeartbeats 4000000 in
set_option maxRecDepth 100000 in
theorem e_MM_check {E : (Nat → Prop) → State → Heap → Prop} {D : va_G} {ad kd sd vd xd : Nat → Nat} {ca : Nat → ClassId} (hE : o_EK E kd sd vd xd) (l : Launch) (n : Nat)  (M0 : SMT) (Mm : SMM) (M1 : SMT) (rt : Value) {r : Int32 × SMM} (h : m_MM_check n M0 Mm = some r) : o_Cn E l D m_cls (m_tys ca) y_MM_check cc_MM_check rm_MM_check [.ref (ad 0)] (m_cw ad ca rt Mm M0 M1) (m_cw ad ca rt r.2 M0 M1) (some (.int r.1)) := by
  refine o_Cn_of (by decide) (Nat.le_of_ble_eq_true rfl) ?_
  intro p e s m below meth c A ls C hD hP hS hl
  have hDD : ∀ (rt : Value) (Mm : SMM) (M0 : SMT) (M1 : SMT), va_D A (m_cw ad ca rt Mm M0 M1) := fun _ _ _ _ => o_D_map hD rfl
  have hl : lv_has ls 2 [(0, .ref (ad 0))] := hl
  unfold m_MM_check at h
  have C0 := C
  obtain ⟨hx, hb, -, -, -, hown, hts, hK, -, -⟩ := C0
  refine lv_aload_n hx hb d_MM_check_0 rfl (lv_at hl 0 rfl) ?_
  refine lv_iconst (v := (0:Int32)) hx hb d_MM_check_1 (by decide) ?_
  refine o_put (v := .int (0:Int32)) (ty := .int) (w1 := (m_cw ad ca rt (MM_mk (0:Int32) (MM_fed Mm) (MM_wrong Mm) (MM_octets Mm) (MM_nodeKind Mm) (MM_nodeA Mm) (MM_nodeB Mm) (MM_nodeC Mm) (MM_nodeNext Mm) (MM_low Mm) (MM_high Mm) (MM_setFrom Mm) (MM_setTo Mm) (MM_setNot Mm) (MM_op Mm) (MM_opA Mm) (MM_opB Mm) (MM_mark Mm) (MM_now Mm) (MM_then Mm) (MM_todo Mm) (MM_nodes Mm) (MM_sets Mm) (MM_ranges Mm) (MM_steps Mm) (MM_pat Mm) (MM_patEnd Mm) (MM_round Mm) (MM_many1 Mm) (MM_broken Mm) (MM_keys Mm) (MM_types Mm) (MM_checked Mm) (MM_faultKind Mm) (MM_faultValue Mm) (MM_latestFault Mm) (MM_anchors Mm) (MM_key Mm) (MM_target Mm) (MM_anchorValue Mm) (MM_anchorSchema Mm) (MM_path Mm) (MM_route Mm) (MM_isSchema Mm) (MM_seen1 Mm) (MM_pathSize Mm) (MM_octetRow Mm) (MM_partRow Mm) (MM_pairValue Mm) (MM_pairKey Mm) (MM_pairs Mm) (MM_judged Mm) (MM_deepest Mm) (MM_depth Mm) (MM_over Mm) (MM_seen Mm)) M0 M1)) C in_MM t_MM t_MM_ok n_MM hP (hDD _ _ _ _) hS 0 mw_0 rfl 0 (by decide) k_7_230 rfl rfl (by decide +kernel) rfl rfl (Nat.le_of_ble_eq_true rfl) rfl d_MM_check_2 (fun H locs hP hS => ?_)
  refine lv_aload_n hx hb d_MM_check_5 rfl (lv_at hl 0 rfl) ?_
  refine lv_aload_n hx hb d_MM_check_6 rfl (lv_at hl 0 rfl) ?_
  refine o_get (v := .ref (ad 33)) C in_MM hP 0 mw_0 rfl 4 (by decide) k_7_234 rfl rfl d_MM_check_7 ?_
  refine o_get (v := .int (MT_values M0)) C in_MT hP 33 mw_33 rfl 13 (by decide) k_7_127 rfl rfl d_MM_check_10 ?_
  refine lv_if_ne (tgt := 20) hx hb d_MM_check_13 (by decide) (fun c1 => ?_) (fun c1 => ?_)
  · replace h := o_ff c1 h
    refine lv_iconst (v := (0:Int32)) hx hb d_MM_check_20 (by decide) ?_
    exact f_MM_check_j21 hE C hDD n (0:Int32) M0 (MM_mk (0:Int32) (MM_fed Mm) (MM_wrong Mm) (MM_octets Mm) (MM_nodeKind Mm) (MM_nodeA Mm) (MM_nodeB Mm) (MM_nodeC Mm) (MM_nodeNext Mm) (MM_low Mm) (MM_high Mm) (MM_setFrom Mm) (MM_setTo Mm) (MM_setNot Mm) (MM_op Mm) (MM_opA Mm) (MM_opB Mm) (MM_mark Mm) (MM_now Mm) (MM_then Mm) (MM_todo Mm) (MM_nodes Mm) (MM_sets Mm) (MM_ranges Mm) (MM_steps Mm) (MM_pat Mm) (MM_patEnd Mm) (MM_round Mm) (MM_many1 Mm) (MM_broken Mm) (MM_keys Mm) (MM_types Mm) (MM_checked Mm) (MM_faultKind Mm) (MM_faultValue Mm) (MM_latestFault Mm) (MM_anchors Mm) (MM_key Mm) (MM_target Mm) (MM_anchorValue Mm) (MM_anchorSchema Mm) (MM_path Mm) (MM_route Mm) (MM_isSchema Mm) (MM_seen1 Mm) (MM_pathSize Mm) (MM_octetRow Mm) (MM_partRow Mm) (MM_pairValue Mm) (MM_pairKey Mm) (MM_pairs Mm) (MM_judged Mm) (MM_deepest Mm) (MM_depth Mm) (MM_over Mm) (MM_seen Mm)) M1 rt h _ _ _ hP hS (lv_sub hl [0] rfl)
  · replace h := o_tt c1 h
    refine lv_iconst (v := (1:Int32)) hx hb d_MM_check_16 (by decide) ?_
    refine lv_goto (tgt := 21) hx hb d_MM_check_17 (by decide) ?_
    exact f_MM_check_j21 hE C hDD n (1:Int32) M0 (MM_mk (0:Int32) (MM_fed Mm) (MM_wrong Mm) (MM_octets Mm) (MM_nodeKind Mm) (MM_nodeA Mm) (MM_nodeB Mm) (MM_nodeC Mm) (MM_nodeNext Mm) (MM_low Mm) (MM_high Mm) (MM_setFrom Mm) (MM_setTo Mm) (MM_setNot Mm) (MM_op Mm) (MM_opA Mm) (MM_opB Mm) (MM_mark Mm) (MM_now Mm) (MM_then Mm) (MM_todo Mm) (MM_nodes Mm) (MM_sets Mm) (MM_ranges Mm) (MM_steps Mm) (MM_pat Mm) (MM_patEnd Mm) (MM_round Mm) (MM_many1 Mm) (MM_broken Mm) (MM_keys Mm) (MM_types Mm) (MM_checked Mm) (MM_faultKind Mm) (MM_faultValue Mm) (MM_latestFault Mm) (MM_anchors Mm) (MM_key Mm) (MM_target Mm) (MM_anchorValue Mm) (MM_anchorSchema Mm) (MM_path Mm) (MM_route Mm) (MM_isSchema Mm) (MM_seen1 Mm) (MM_pathSize Mm) (MM_octetRow Mm) (MM_partRow Mm) (MM_pairValue Mm) (MM_pairKey Mm) (MM_pairs Mm) (MM_judged Mm) (MM_deepest Mm) (MM_depth Mm) (MM_over Mm) (MM_seen Mm)) M1 rt h _ _ _ hP hS (lv_sub hl [0] rfl)
set_option maxHeartbeats 4000000 in
set_option maxRecDepth 100000 in
theorem e_MM_fault_1 {E : (Nat → Prop) → State → Heap → Prop} {D : va_G} {ad kd sd vd xd : Nat → Nat} {ca : Nat → ClassId} (hE : o_EK E kd sd vd xd) (l : Launch)  (Mm : SMM) (M0 : SMT) (M1 : SMT) (rt : Value) {r : Int32 × SMM} (h : m_MM_fault_1 Mm = some r) : o_Cn E l D m_cls (m_tys ca) y_MM_fault_1 cc_MM_fault_1 rm_MM_fault_1 [.ref (ad 0)] (m_cw ad ca rt Mm M0 M1) (m_cw ad ca rt r.2 M0 M1) (some (.int r.1)) := by
  refine o_Cn_of (by decide) (Nat.le_of_ble_eq_true rfl) ?_
  intro p e s m below meth c A ls C hD hP hS hl
  have hDD : ∀ (rt : Value) (Mm : SMM) (M0 : SMT) (M1 : SMT), va_D A (m_cw ad ca rt Mm M0 M1) := fun _ _ _ _ => o_D_map hD rfl
  have hl : lv_has ls 1 [(0, .ref (ad 0))] := hl
  unfold m_MM_fault_1 at h
  have C0 := C
  obtain ⟨hx, hb, -, -, -, hown, hts, hK, -, -⟩ := C0
  refine lv_aload_n hx hb d_MM_fault_1_0 rfl (lv_at hl 0 rfl) ?_
  refine lv_iconst (v := (0:Int32)) hx hb d_MM_fault_1_1 (by decide) ?_
  refine o_put (v := .int (0:Int32)) (ty := .int) (w1 := (m_cw ad ca rt (MM_mk (0:Int32) (MM_fed Mm) (MM_wrong Mm) (MM_octets Mm) (MM_nodeKind Mm) (MM_nodeA Mm) (MM_nodeB Mm) (MM_nodeC Mm) (MM_nodeNext Mm) (MM_low Mm) (MM_high Mm) (MM_setFrom Mm) (MM_setTo Mm) (MM_setNot Mm) (MM_op Mm) (MM_opA Mm) (MM_opB Mm) (MM_mark Mm) (MM_now Mm) (MM_then Mm) (MM_todo Mm) (MM_nodes Mm) (MM_sets Mm) (MM_ranges Mm) (MM_steps Mm) (MM_pat Mm) (MM_patEnd Mm) (MM_round Mm) (MM_many1 Mm) (MM_broken Mm) (MM_keys Mm) (MM_types Mm) (MM_checked Mm) (MM_faultKind Mm) (MM_faultValue Mm) (MM_latestFault Mm) (MM_anchors Mm) (MM_key Mm) (MM_target Mm) (MM_anchorValue Mm) (MM_anchorSchema Mm) (MM_path Mm) (MM_route Mm) (MM_isSchema Mm) (MM_seen1 Mm) (MM_pathSize Mm) (MM_octetRow Mm) (MM_partRow Mm) (MM_pairValue Mm) (MM_pairKey Mm) (MM_pairs Mm) (MM_judged Mm) (MM_deepest Mm) (MM_depth Mm) (MM_over Mm) (MM_seen Mm)) M0 M1)) C in_MM t_MM t_MM_ok n_MM hP (hDD _ _ _ _) hS 0 mw_0 rfl 0 (by decide) k_7_230 rfl rfl (by decide +kernel) rfl rfl (Nat.le_of_ble_eq_true rfl) rfl d_MM_fault_1_2 (fun H locs hP hS => ?_)
  refine lv_aload_n hx hb d_MM_fault_1_5 rfl (lv_at hl 0 rfl) ?_
  refine o_get (v := .int (MM_latestFault Mm)) C in_MM hP 0 mw_0 rfl 38 (by decide) k_8_28 rfl rfl d_MM_fault_1_6 ?_
  cases h
  exact o_ri (v := (MM_latestFault Mm)) C hP hS d_MM_fault_1_9
set_option maxHeartbeats 4000000 in
set_option maxRecDepth 100000 in
theorem f_MM_validate_j38 {E : (Nat → Prop) → State → Heap → Prop} {p : Program} {l : Launch} {e : Env} {s : State} {m : MethodId} {args : Array Value} {below : List Frame} {meth : Method} {c : Code} {D : va_G} {ad kd sd vd xd : Nat → Nat} {ca : Nat → ClassId} {A : Nat → Prop} (hE : o_EK E kd sd vd xd) (C : o_Cx E p s m args meth c D m_cls (m_tys ca) "SchemaJudgeModel" b_MM_validate (some .boolean) 2 cc_MM_validate A) (hDD : ∀ (rt : Value) (Mm : SMM) (M0 : SMT) (M1 : SMT), va_D A (m_cw ad ca rt Mm M0 M1)) (y1 : Int32) (M0 : SMT) (M1 : SMT) (Mm : SMM) (rt : Value) {r : Int32 × SMM} (h : m_MM_validate_j38 y1 M0 M1 Mm = some r) : o_At p l e rm_MM_validate s m args below meth c (MQ below (o_Qx D m_cls (some (.int r.1)) (m_cw ad ca rt r.2 M0 M1) A) args s 0 0 A) m_cls D A 2 38 [.int y1, .ref (ad 0)] (m_cw ad ca rt Mm M0 M1) [(0, .ref (ad 0))] := by
  unfold m_MM_validate_j38 at h
  intro H locs ls hP hS hl
  have C0 := C
  obtain ⟨hx, hb, -, -, -, hown, hts, hK, -, -⟩ := C0
  refine lv_iconst (v := (1:Int32)) hx hb d_MM_validate_38 (by decide) ?_
  obtain ⟨q1, hq1, h⟩ := o_bd_some h
  refine o_V (st1 := [.int q1.1]) (w1 := (m_cw ad ca rt q1.2 M0 M1)) hE.1 C (e_MM_fails hE l y1 (1:Int32) Mm M0 M1 rt hq1) hP (hDD _ _ _ _) hS hl.1 rfl mw_0 k_8_176 k_8_178 k_s_81 k_1_12 k_8_179 hv_MM_fails rfl rfl ⟨(Nat.le_of_ble_eq_true rfl), (Nat.le_of_ble_eq_true rfl)⟩ rfl (Nat.le_of_ble_eq_true rfl) ⟨Nat.zero_le _, Nat.zero_le _⟩ rfl d_MM_validate_39 (fun H locs hP hS => ?_)
  refine lv_if_eq (tgt := 47) hx hb d_MM_validate_42 (by decide) (fun c2 => ?_) (fun c2 => ?_)
  · replace h := o_tt c2 h
    refine lv_aload_n hx hb d_MM_validate_47 rfl (lv_at hl 0 rfl) ?_
    refine lv_iconst (v := (0:Int32)) hx hb d_MM_validate_48 (by decide) ?_
    refine o_put (v := .int (0:Int32)) (ty := .int) (w1 := (m_cw ad ca rt (MM_mk (MM_err q1.2) (MM_fed q1.2) (MM_wrong q1.2) (MM_octets q1.2) (MM_nodeKind q1.2) (MM_nodeA q1.2) (MM_nodeB q1.2) (MM_nodeC q1.2) (MM_nodeNext q1.2) (MM_low q1.2) (MM_high q1.2) (MM_setFrom q1.2) (MM_setTo q1.2) (MM_setNot q1.2) (MM_op q1.2) (MM_opA q1.2) (MM_opB q1.2) (MM_mark q1.2) (MM_now q1.2) (MM_then q1.2) (MM_todo q1.2) (MM_nodes q1.2) (MM_sets q1.2) (MM_ranges q1.2) (MM_steps q1.2) (MM_pat q1.2) (MM_patEnd q1.2) (MM_round q1.2) (MM_many1 q1.2) (MM_broken q1.2) (MM_keys q1.2) (MM_types q1.2) (MM_checked q1.2) (MM_faultKind q1.2) (MM_faultValue q1.2) (MM_latestFault q1.2) (MM_anchors q1.2) (MM_key q1.2) (MM_target q1.2) (MM_anchorValue q1.2) (MM_anchorSchema q1.2) (MM_path q1.2) (MM_route q1.2) (MM_isSchema q1.2) (MM_seen1 q1.2) (MM_pathSize q1.2) (MM_octetRow q1.2) (MM_partRow q1.2) (MM_pairValue q1.2) (MM_pairKey q1.2) (0:Int32) (MM_judged q1.2) (MM_deepest q1.2) (MM_depth q1.2) (MM_over q1.2) (MM_seen q1.2)) M0 M1)) C in_MM t_MM t_MM_ok n_MM hP (hDD _ _ _ _) hS 0 mw_0 rfl 53 (by decide) k_8_43 rfl rfl (by decide +kernel) rfl rfl (Nat.le_of_ble_eq_true rfl) rfl d_MM_validate_49 (fun H locs hP hS => ?_)
    refine lv_aload_n hx hb d_MM_validate_52 rfl (lv_at hl 0 rfl) ?_
    refine lv_iconst (v := (0:Int32)) hx hb d_MM_validate_53 (by decide) ?_
    refine o_put (v := .int (0:Int32)) (ty := .int) (w1 := (m_cw ad ca rt (MM_mk (MM_err q1.2) (MM_fed q1.2) (MM_wrong q1.2) (MM_octets q1.2) (MM_nodeKind q1.2) (MM_nodeA q1.2) (MM_nodeB q1.2) (MM_nodeC q1.2) (MM_nodeNext q1.2) (MM_low q1.2) (MM_high q1.2) (MM_setFrom q1.2) (MM_setTo q1.2) (MM_setNot q1.2) (MM_op q1.2) (MM_opA q1.2) (MM_opB q1.2) (MM_mark q1.2) (MM_now q1.2) (MM_then q1.2) (MM_todo q1.2) (MM_nodes q1.2) (MM_sets q1.2) (MM_ranges q1.2) (MM_steps q1.2) (MM_pat q1.2) (MM_patEnd q1.2) (MM_round q1.2) (MM_many1 q1.2) (MM_broken q1.2) (MM_keys q1.2) (MM_types q1.2) (MM_checked q1.2) (MM_faultKind q1.2) (MM_faultValue q1.2) (MM_latestFault q1.2) (MM_anchors q1.2) (MM_key q1.2) (MM_target q1.2) (MM_anchorValue q1.2) (MM_anchorSchema q1.2) (MM_path q1.2) (MM_route q1.2) (MM_isSchema q1.2) (MM_seen1 q1.2) (MM_pathSize q1.2) (MM_octetRow q1.2) (MM_partRow q1.2) (MM_pairValue q1.2) (MM_pairKey q1.2) (0:Int32) (0:Int32) (MM_deepest q1.2) (MM_depth q1.2) (MM_over q1.2) (MM_seen q1.2)) M0 M1)) C in_MM t_MM t_MM_ok n_MM hP (hDD _ _ _ _) hS 0 mw_0 rfl 54 (by decide) k_8_44 rfl rfl (by decide +kernel) rfl rfl (Nat.le_of_ble_eq_true rfl) rfl d_MM_validate_54 (fun H locs hP hS => ?_)
    refine lv_aload_n hx hb d_MM_validate_57 rfl (lv_at hl 0 rfl) ?_
    refine lv_iconst (v := (0:Int32)) hx hb d_MM_validate_58 (by decide) ?_
    refine o_put (v := .int (0:Int32)) (ty := .int) (w1 := (m_cw ad ca rt (MM_mk (MM_err q1.2) (MM_fed q1.2) (MM_wrong q1.2) (MM_octets q1.2) (MM_nodeKind q1.2) (MM_nodeA q1.2) (MM_nodeB q1.2) (MM_nodeC q1.2) (MM_nodeNext q1.2) (MM_low q1.2) (MM_high q1.2) (MM_setFrom q1.2) (MM_setTo q1.2) (MM_setNot q1.2) (MM_op q1.2) (MM_opA q1.2) (MM_opB q1.2) (MM_mark q1.2) (MM_now q1.2) (MM_then q1.2) (MM_todo q1.2) (MM_nodes q1.2) (MM_sets q1.2) (MM_ranges q1.2) (MM_steps q1.2) (MM_pat q1.2) (MM_patEnd q1.2) (MM_round q1.2) (MM_many1 q1.2) (MM_broken q1.2) (MM_keys q1.2) (MM_types q1.2) (MM_checked q1.2) (MM_faultKind q1.2) (MM_faultValue q1.2) (MM_latestFault q1.2) (MM_anchors q1.2) (MM_key q1.2) (MM_target q1.2) (MM_anchorValue q1.2) (MM_anchorSchema q1.2) (MM_path q1.2) (MM_route q1.2) (MM_isSchema q1.2) (MM_seen1 q1.2) (MM_pathSize q1.2) (MM_octetRow q1.2) (MM_partRow q1.2) (MM_pairValue q1.2) (MM_pairKey q1.2) (0:Int32) (0:Int32) (0:Int32) (MM_depth q1.2) (MM_over q1.2) (MM_seen q1.2)) M0 M1)) C in_MM t_MM t_MM_ok n_MM hP (hDD _ _ _ _) hS 0 mw_0 rfl 55 (by decide) k_8_45 rfl rfl (by decide +kernel) rfl rfl (Nat.le_of_ble_eq_true rfl) rfl d_MM_validate_59 (fun H locs hP hS => ?_)
    refine lv_aload_n hx hb d_MM_validate_62 rfl (lv_at hl 0 rfl) ?_
    refine lv_iconst (v := (0:Int32)) hx hb d_MM_validate_63 (by decide) ?_
    refine o_put (v := .int (0:Int32)) (ty := .int) (w1 := (m_cw ad ca rt (MM_mk (MM_err q1.2) (MM_fed q1.2) (MM_wrong q1.2) (MM_octets q1.2) (MM_nodeKind q1.2) (MM_nodeA q1.2) (MM_nodeB q1.2) (MM_nodeC q1.2) (MM_nodeNext q1.2) (MM_low q1.2) (MM_high q1.2) (MM_setFrom q1.2) (MM_setTo q1.2) (MM_setNot q1.2) (MM_op q1.2) (MM_opA q1.2) (MM_opB q1.2) (MM_mark q1.2) (MM_now q1.2) (MM_then q1.2) (MM_todo q1.2) (MM_nodes q1.2) (MM_sets q1.2) (MM_ranges q1.2) (MM_steps q1.2) (MM_pat q1.2) (MM_patEnd q1.2) (MM_round q1.2) (MM_many1 q1.2) (MM_broken q1.2) (MM_keys q1.2) (MM_types q1.2) (MM_checked q1.2) (MM_faultKind q1.2) (MM_faultValue q1.2) (MM_latestFault q1.2) (MM_anchors q1.2) (MM_key q1.2) (MM_target q1.2) (MM_anchorValue q1.2) (MM_anchorSchema q1.2) (MM_path q1.2) (MM_route q1.2) (MM_isSchema q1.2) (MM_seen1 q1.2) (MM_pathSize q1.2) (MM_octetRow q1.2) (MM_partRow q1.2) (MM_pairValue q1.2) (MM_pairKey q1.2) (0:Int32) (0:Int32) (0:Int32) (0:Int32) (MM_over q1.2) (MM_seen q1.2)) M0 M1)) C in_MM t_MM t_MM_ok n_MM hP (hDD _ _ _ _) hS 0 mw_0 rfl 56 (by decide) k_8_46 rfl rfl (by decide +kernel) rfl rfl (Nat.le_of_ble_eq_true rfl) rfl d_MM_validate_64 (fun H locs hP hS => ?_)
    refine lv_aload_n hx hb d_MM_validate_67 rfl (lv_at hl 0 rfl) ?_
    refine lv_iconst (v := (0:Int32)) hx hb d_MM_validate_68 (by decide) ?_
    refine o_put (v := .int (0:Int32)) (ty := .boolean) (w1 := (m_cw ad ca rt (MM_mk (MM_err q1.2) (MM_fed q1.2) (MM_wrong q1.2) (MM_octets q1.2) (MM_nodeKind q1.2) (MM_nodeA q1.2) (MM_nodeB q1.2) (MM_nodeC q1.2) (MM_nodeNext q1.2) (MM_low q1.2) (MM_high q1.2) (MM_setFrom q1.2) (MM_setTo q1.2) (MM_setNot q1.2) (MM_op q1.2) (MM_opA q1.2) (MM_opB q1.2) (MM_mark q1.2) (MM_now q1.2) (MM_then q1.2) (MM_todo q1.2) (MM_nodes q1.2) (MM_sets q1.2) (MM_ranges q1.2) (MM_steps q1.2) (MM_pat q1.2) (MM_patEnd q1.2) (MM_round q1.2) (MM_many1 q1.2) (MM_broken q1.2) (MM_keys q1.2) (MM_types q1.2) (MM_checked q1.2) (MM_faultKind q1.2) (MM_faultValue q1.2) (MM_latestFault q1.2) (MM_anchors q1.2) (MM_key q1.2) (MM_target q1.2) (MM_anchorValue q1.2) (MM_anchorSchema q1.2) (MM_path q1.2) (MM_route q1.2) (MM_isSchema q1.2) (MM_seen1 q1.2) (MM_pathSize q1.2) (MM_octetRow q1.2) (MM_partRow q1.2) (MM_pairValue q1.2) (MM_pairKey q1.2) (0:Int32) (0:Int32) (0:Int32) (0:Int32) (0:Int32) (MM_seen q1.2)) M0 M1)) C in_MM t_MM t_MM_ok n_MM hP (hDD _ _ _ _) hS 0 mw_0 rfl 57 (by decide) k_8_47 rfl rfl (by decide +kernel) rfl rfl (Nat.le_of_ble_eq_true rfl) rfl d_MM_validate_69 (fun H locs hP hS => ?_)
    refine lv_aload_n hx hb d_MM_validate_72 rfl (lv_at hl 0 rfl) ?_
    refine lv_iconst (v := (0:Int32)) hx hb d_MM_validate_73 (by decide) ?_
    refine lv_iconst (v := (0:Int32)) hx hb d_MM_validate_74 (by decide) ?_
    cases h
  · replace h := o_ff c2 h
    refine lv_iconst (v := (0:Int32)) hx hb d_MM_validate_45 (by decide) ?_
    cases h
    exact o_rz (v := (0:Int32)) C o_nar0 hP hS d_MM_validate_46
set_option maxHeartbeats 4000000 in
set_option maxRecDepth 100000 in
theorem e_MM_validate {E : (Nat → Prop) → State → Heap → Prop} {D : va_G} {ad kd sd vd xd : Nat → Nat} {ca : Nat → ClassId} (hE : o_EK E kd sd vd xd) (l : Launch)  (M0 : SMT) (M1 : SMT) (Mm : SMM) (rt : Value) {r : Int32 × SMM} (h : m_MM_validate M0 M1 Mm = some r) : o_Cn E l D m_cls (m_tys ca) y_MM_validate cc_MM_validate rm_MM_validate [.ref (ad 0)] (m_cw ad ca rt Mm M0 M1) (m_cw ad ca rt r.2 M0 M1) (some (.int r.1)) := by
  refine o_Cn_of (by decide) (Nat.le_of_ble_eq_true rfl) ?_
  intro p e s m below meth c A ls C hD hP hS hl
  have hDD : ∀ (rt : Value) (Mm : SMM) (M0 : SMT) (M1 : SMT), va_D A (m_cw ad ca rt Mm M0 M1) := fun _ _ _ _ => o_D_map hD rfl
  have hl : lv_has ls 2 [(0, .ref (ad 0))] := hl
  unfold m_MM_validate at h
  have C0 := C
  obtain ⟨hx, hb, -, -, -, hown, hts, hK, -, -⟩ := C0
  refine lv_aload_n hx hb d_MM_validate_0 rfl (lv_at hl 0 rfl) ?_
  refine lv_iconst (v := (0:Int32)) hx hb d_MM_validate_1 (by decide) ?_
  refine o_put (v := .int (0:Int32)) (ty := .int) (w1 := (m_cw ad ca rt (MM_mk (0:Int32) (MM_fed Mm) (MM_wrong Mm) (MM_octets Mm) (MM_nodeKind Mm) (MM_nodeA Mm) (MM_nodeB Mm) (MM_nodeC Mm) (MM_nodeNext Mm) (MM_low Mm) (MM_high Mm) (MM_setFrom Mm) (MM_setTo Mm) (MM_setNot Mm) (MM_op Mm) (MM_opA Mm) (MM_opB Mm) (MM_mark Mm) (MM_now Mm) (MM_then Mm) (MM_todo Mm) (MM_nodes Mm) (MM_sets Mm) (MM_ranges Mm) (MM_steps Mm) (MM_pat Mm) (MM_patEnd Mm) (MM_round Mm) (MM_many1 Mm) (MM_broken Mm) (MM_keys Mm) (MM_types Mm) (MM_checked Mm) (MM_faultKind Mm) (MM_faultValue Mm) (MM_latestFault Mm) (MM_anchors Mm) (MM_key Mm) (MM_target Mm) (MM_anchorValue Mm) (MM_anchorSchema Mm) (MM_path Mm) (MM_route Mm) (MM_isSchema Mm) (MM_seen1 Mm) (MM_pathSize Mm) (MM_octetRow Mm) (MM_partRow Mm) (MM_pairValue Mm) (MM_pairKey Mm) (MM_pairs Mm) (MM_judged Mm) (MM_deepest Mm) (MM_depth Mm) (MM_over Mm) (MM_seen Mm)) M0 M1)) C in_MM t_MM t_MM_ok n_MM hP (hDD _ _ _ _) hS 0 mw_0 rfl 0 (by decide) k_7_230 rfl rfl (by decide +kernel) rfl rfl (Nat.le_of_ble_eq_true rfl) rfl d_MM_validate_2 (fun H locs hP hS => ?_)
  refine lv_aload_n hx hb d_MM_validate_5 rfl (lv_at hl 0 rfl) ?_
  refine lv_aload_n hx hb d_MM_validate_6 rfl (lv_at hl 0 rfl) ?_
  refine o_get (v := .ref (ad 48)) C in_MM hP 0 mw_0 rfl 5 (by decide) k_7_235 rfl rfl d_MM_validate_7 ?_
  refine o_get (v := .int (MT_values M1)) C in_MT hP 48 mw_48 rfl 13 (by decide) k_7_127 rfl rfl d_MM_validate_10 ?_
  refine lv_if_eq (tgt := 33) hx hb d_MM_validate_13 (by decide) (fun c1 => ?_) (fun c1 => ?_)
  · replace h := o_tt c1 h
    refine lv_iconst (v := (1:Int32)) hx hb d_MM_validate_33 (by decide) ?_
    refine lv_goto (tgt := 38) hx hb d_MM_validate_34 (by decide) ?_
    exact f_MM_validate_j38 hE C hDD (1:Int32) M0 M1 (MM_mk (0:Int32) (MM_fed Mm) (MM_wrong Mm) (MM_octets Mm) (MM_nodeKind Mm) (MM_nodeA Mm) (MM_nodeB Mm) (MM_nodeC Mm) (MM_nodeNext Mm) (MM_low Mm) (MM_high Mm) (MM_setFrom Mm) (MM_setTo Mm) (MM_setNot Mm) (MM_op Mm) (MM_opA Mm) (MM_opB Mm) (MM_mark Mm) (MM_now Mm) (MM_then Mm) (MM_todo Mm) (MM_nodes Mm) (MM_sets Mm) (MM_ranges Mm) (MM_steps Mm) (MM_pat Mm) (MM_patEnd Mm) (MM_round Mm) (MM_many1 Mm) (MM_broken Mm) (MM_keys Mm) (MM_types Mm) (MM_checked Mm) (MM_faultKind Mm) (MM_faultValue Mm) (MM_latestFault Mm) (MM_anchors Mm) (MM_key Mm) (MM_target Mm) (MM_anchorValue Mm) (MM_anchorSchema Mm) (MM_path Mm) (MM_route Mm) (MM_isSchema Mm) (MM_seen1 Mm) (MM_pathSize Mm) (MM_octetRow Mm) (MM_partRow Mm) (MM_pairValue Mm) (MM_pairKey Mm) (MM_pairs Mm) (MM_judged Mm) (MM_deepest Mm) (MM_depth Mm) (MM_over Mm) (MM_seen Mm)) rt h _ _ _ hP hS (lv_sub hl [0] rfl)
  · replace h := o_ff c1 h
    refine lv_aload_n hx hb d_MM_validate_16 rfl (lv_at hl 0 rfl) ?_
    refine o_get (v := .ref (ad 33)) C in_MM hP 0 mw_0 rfl 4 (by decide) k_7_234 rfl rfl d_MM_validate_17 ?_
    refine o_get (v := .int (MT_values M0)) C in_MT hP 33 mw_33 rfl 13 (by decide) k_7_127 rfl rfl d_MM_validate_20 ?_
    refine lv_if_eq (tgt := 33) hx hb d_MM_validate_23 (by decide) (fun c3 => ?_) (fun c3 => ?_)
    · replace h := o_tt c3 h
      refine lv_iconst (v := (1:Int32)) hx hb d_MM_validate_33 (by decide) ?_
      refine lv_goto (tgt := 38) hx hb d_MM_validate_34 (by decide) ?_
      exact f_MM_validate_j38 hE C hDD (1:Int32) M0 M1 (MM_mk (0:Int32) (MM_fed Mm) (MM_wrong Mm) (MM_octets Mm) (MM_nodeKind Mm) (MM_nodeA Mm) (MM_nodeB Mm) (MM_nodeC Mm) (MM_nodeNext Mm) (MM_low Mm) (MM_high Mm) (MM_setFrom Mm) (MM_setTo Mm) (MM_setNot Mm) (MM_op Mm) (MM_opA Mm) (MM_opB Mm) (MM_mark Mm) (MM_now Mm) (MM_then Mm) (MM_todo Mm) (MM_nodes Mm) (MM_sets Mm) (MM_ranges Mm) (MM_steps Mm) (MM_pat Mm) (MM_patEnd Mm) (MM_round Mm) (MM_many1 Mm) (MM_broken Mm) (MM_keys Mm) (MM_types Mm) (MM_checked Mm) (MM_faultKind Mm) (MM_faultValue Mm) (MM_latestFault Mm) (MM_anchors Mm) (MM_key Mm) (MM_target Mm) (MM_anchorValue Mm) (MM_anchorSchema Mm) (MM_path Mm) (MM_route Mm) (MM_isSchema Mm) (MM_seen1 Mm) (MM_pathSize Mm) (MM_octetRow Mm) (MM_partRow Mm) (MM_pairValue Mm) (MM_pairKey Mm) (MM_pairs Mm) (MM_judged Mm) (MM_deepest Mm) (MM_depth Mm) (MM_over Mm) (MM_seen Mm)) rt h _ _ _ hP hS (lv_sub hl [0] rfl)
    · replace h := o_ff c3 h
      refine lv_aload_n hx hb d_MM_validate_26 rfl (lv_at hl 0 rfl) ?_
      refine o_get (v := .int (MM_checked Mm)) C in_MM hP 0 mw_0 rfl 35 (by decide) k_8_25 rfl rfl d_MM_validate_27 ?_
      refine lv_if_ne (tgt := 37) hx hb d_MM_validate_30 (by decide) (fun c4 => ?_) (fun c4 => ?_)
      · replace h := o_ff c4 h
        refine lv_iconst (v := (0:Int32)) hx hb d_MM_validate_37 (by decide) ?_
        exact f_MM_validate_j38 hE C hDD (0:Int32) M0 M1 (MM_mk (0:Int32) (MM_fed Mm) (MM_wrong Mm) (MM_octets Mm) (MM_nodeKind Mm) (MM_nodeA Mm) (MM_nodeB Mm) (MM_nodeC Mm) (MM_nodeNext Mm) (MM_low Mm) (MM_high Mm) (MM_setFrom Mm) (MM_setTo Mm) (MM_setNot Mm) (MM_op Mm) (MM_opA Mm) (MM_opB Mm) (MM_mark Mm) (MM_now Mm) (MM_then Mm) (MM_todo Mm) (MM_nodes Mm) (MM_sets Mm) (MM_ranges Mm) (MM_steps Mm) (MM_pat Mm) (MM_patEnd Mm) (MM_round Mm) (MM_many1 Mm) (MM_broken Mm) (MM_keys Mm) (MM_types Mm) (MM_checked Mm) (MM_faultKind Mm) (MM_faultValue Mm) (MM_latestFault Mm) (MM_anchors Mm) (MM_key Mm) (MM_target Mm) (MM_anchorValue Mm) (MM_anchorSchema Mm) (MM_path Mm) (MM_route Mm) (MM_isSchema Mm) (MM_seen1 Mm) (MM_pathSize Mm) (MM_octetRow Mm) (MM_partRow Mm) (MM_pairValue Mm) (MM_pairKey Mm) (MM_pairs Mm) (MM_judged Mm) (MM_deepest Mm) (MM_depth Mm) (MM_over Mm) (MM_seen Mm)) rt h _ _ _ hP hS (lv_sub hl [0] rfl)
      · replace h := o_tt c4 h
        refine lv_iconst (v := (1:Int32)) hx hb d_MM_validate_33 (by decide) ?_
        refine lv_goto (tgt := 38) hx hb d_MM_validate_34 (by decide) ?_
        exact f_MM_validate_j38 hE C hDD (1:Int32) M0 M1 (MM_mk (0:Int32) (MM_fed Mm) (MM_wrong Mm) (MM_octets Mm) (MM_nodeKind Mm) (MM_nodeA Mm) (MM_nodeB Mm) (MM_nodeC Mm) (MM_nodeNext Mm) (MM_low Mm) (MM_high Mm) (MM_setFrom Mm) (MM_setTo Mm) (MM_setNot Mm) (MM_op Mm) (MM_opA Mm) (MM_opB Mm) (MM_mark Mm) (MM_now Mm) (MM_then Mm) (MM_todo Mm) (MM_nodes Mm) (MM_sets Mm) (MM_ranges Mm) (MM_steps Mm) (MM_pat Mm) (MM_patEnd Mm) (MM_round Mm) (MM_many1 Mm) (MM_broken Mm) (MM_keys Mm) (MM_types Mm) (MM_checked Mm) (MM_faultKind Mm) (MM_faultValue Mm) (MM_latestFault Mm) (MM_anchors Mm) (MM_key Mm) (MM_target Mm) (MM_anchorValue Mm) (MM_anchorSchema Mm) (MM_path Mm) (MM_route Mm) (MM_isSchema Mm) (MM_seen1 Mm) (MM_pathSize Mm) (MM_octetRow Mm) (MM_partRow Mm) (MM_pairValue Mm) (MM_pairKey Mm) (MM_pairs Mm) (MM_judged Mm) (MM_deepest Mm) (MM_depth Mm) (MM_over Mm) (MM_seen Mm)) rt h _ _ _ hP hS (lv_sub hl [0] rfl)
set_option maxHeartbeats 4000000 in
set_option maxRecDepth 100000 in
theorem e_MM_pairs {E : (Nat → Prop) → State → Heap → Prop} {D : va_G} {ad kd sd vd xd : Nat → Nat} {ca : Nat → ClassId} (hE : o_EK E kd sd vd xd) (l : Launch)  (Mm : SMM) (M0 : SMT) (M1 : SMT) (rt : Value) {r : Int32 × SMM} (h : m_MM_pairs Mm = some r) : o_Cn E l D m_cls (m_tys ca) y_MM_pairs cc_MM_pairs rm_MM_pairs [.ref (ad 0)] (m_cw ad ca rt Mm M0 M1) (m_cw ad ca rt r.2 M0 M1) (some (.int r.1)) := by
  refine o_Cn_of (by decide) (Nat.le_of_ble_eq_true rfl) ?_
  intro p e s m below meth c A ls C hD hP hS hl
  have hDD : ∀ (rt : Value) (Mm : SMM) (M0 : SMT) (M1 : SMT), va_D A (m_cw ad ca rt Mm M0 M1) := fun _ _ _ _ => o_D_map hD rfl
  have hl : lv_has ls 1 [(0, .ref (ad 0))] := hl
  unfold m_MM_pairs at h
  have C0 := C
  obtain ⟨hx, hb, -, -, -, hown, hts, hK, -, -⟩ := C0
  refine lv_aload_n hx hb d_MM_pairs_0 rfl (lv_at hl 0 rfl) ?_
  refine lv_iconst (v := (0:Int32)) hx hb d_MM_pairs_1 (by decide) ?_
  refine o_put (v := .int (0:Int32)) (ty := .int) (w1 := (m_cw ad ca rt (MM_mk (0:Int32) (MM_fed Mm) (MM_wrong Mm) (MM_octets Mm) (MM_nodeKind Mm) (MM_nodeA Mm) (MM_nodeB Mm) (MM_nodeC Mm) (MM_nodeNext Mm) (MM_low Mm) (MM_high Mm) (MM_setFrom Mm) (MM_setTo Mm) (MM_setNot Mm) (MM_op Mm) (MM_opA Mm) (MM_opB Mm) (MM_mark Mm) (MM_now Mm) (MM_then Mm) (MM_todo Mm) (MM_nodes Mm) (MM_sets Mm) (MM_ranges Mm) (MM_steps Mm) (MM_pat Mm) (MM_patEnd Mm) (MM_round Mm) (MM_many1 Mm) (MM_broken Mm) (MM_keys Mm) (MM_types Mm) (MM_checked Mm) (MM_faultKind Mm) (MM_faultValue Mm) (MM_latestFault Mm) (MM_anchors Mm) (MM_key Mm) (MM_target Mm) (MM_anchorValue Mm) (MM_anchorSchema Mm) (MM_path Mm) (MM_route Mm) (MM_isSchema Mm) (MM_seen1 Mm) (MM_pathSize Mm) (MM_octetRow Mm) (MM_partRow Mm) (MM_pairValue Mm) (MM_pairKey Mm) (MM_pairs Mm) (MM_judged Mm) (MM_deepest Mm) (MM_depth Mm) (MM_over Mm) (MM_seen Mm)) M0 M1)) C in_MM t_MM t_MM_ok n_MM hP (hDD _ _ _ _) hS 0 mw_0 rfl 0 (by decide) k_7_230 rfl rfl (by decide +kernel) rfl rfl (Nat.le_of_ble_eq_true rfl) rfl d_MM_pairs_2 (fun H locs hP hS => ?_)
  refine lv_aload_n hx hb d_MM_pairs_5 rfl (lv_at hl 0 rfl) ?_
  refine o_get (v := .int (MM_pairs Mm)) C in_MM hP 0 mw_0 rfl 53 (by decide) k_8_43 rfl rfl d_MM_pairs_6 ?_
  cases h
  exact o_ri (v := (MM_pairs Mm)) C hP hS d_MM_pairs_9
set_option maxHeartbeats 4000000 in
set_option maxRecDepth 100000 in
theorem f_MM_pair_1_j25 {E : (Nat → Prop) → State → Heap → Prop} {p : Program} {l : Launch} {e : Env} {s : State} {m : MethodId} {args : Array Value} {below : List Frame} {meth : Method} {c : Code} {D : va_G} {ad kd sd vd xd : Nat → Nat} {ca : Nat → ClassId} {A : Nat → Prop} (hE : o_EK E kd sd vd xd) (C : o_Cx E p s m args meth c D m_cls (m_tys ca) "SchemaJudgeModel" b_MM_pair_1 (some .int) 3 cc_MM_pair_1 A) (hDD : ∀ (rt : Value) (Mm : SMM) (M0 : SMT) (M1 : SMT), va_D A (m_cw ad ca rt Mm M0 M1)) (x1 : Int32) (x2 : Int32) (y1 : Int32) (Mm : SMM) (M0 : SMT) (M1 : SMT) (rt : Value) {r : Int32 × SMM} (h : m_MM_pair_1_j25 x1 x2 y1 Mm = some r) : o_At p l e rm_MM_pair_1 s m args below meth c (MQ below (o_Qx D m_cls (some (.int r.1)) (m_cw ad ca rt r.2 M0 M1) A) args s 0 0 A) m_cls D A 3 25 [.int y1, .ref (ad 0)] (m_cw ad ca rt Mm M0 M1) [(0, .ref (ad 0)), (1, .int x1), (2, .int x2)] := by
  unfold m_MM_pair_1_j25 at h
  intro H locs ls hP hS hl
  have C0 := C
  obtain ⟨hx, hb, -, -, -, hown, hts, hK, -, -⟩ := C0
  refine lv_iconst (v := (1:Int32)) hx hb d_MM_pair_1_25 (by decide) ?_
  obtain ⟨q2, hq2, h⟩ := o_bd_some h
  refine o_V (st1 := [.int q2.1]) (w1 := (m_cw ad ca rt q2.2 M0 M1)) hE.1 C (e_MM_fails hE l y1 (1:Int32) Mm M0 M1 rt hq2) hP (hDD _ _ _ _) hS hl.1 rfl mw_0 k_8_176 k_8_178 k_s_81 k_1_12 k_8_179 hv_MM_fails rfl rfl ⟨(Nat.le_of_ble_eq_true rfl), (Nat.le_of_ble_eq_true rfl)⟩ rfl (Nat.le_of_ble_eq_true rfl) ⟨Nat.zero_le _, Nat.zero_le _⟩ rfl d_MM_pair_1_26 (fun H locs hP hS => ?_)
  refine lv_if_eq (tgt := 34) hx hb d_MM_pair_1_29 (by decide) (fun c2 => ?_) (fun c2 => ?_)
  · replace h := o_tt c2 h
    refine lv_iload_n hx hb d_MM_pair_1_34 rfl (lv_at hl 2 rfl) ?_
    refine lv_if_eq (tgt := 47) hx hb d_MM_pair_1_35 (by decide) (fun c3 => ?_) (fun c3 => ?_)
    · replace h := o_tt c3 h
      refine lv_aload_n hx hb d_MM_pair_1_47 rfl (lv_at hl 0 rfl) ?_
      refine o_get (v := .ref (ad 31)) C in_MM hP 0 mw_0 rfl 51 (by decide) k_8_41 rfl rfl d_MM_pair_1_48 ?_
      refine lv_iload_n hx hb d_MM_pair_1_51 rfl (lv_at hl 1 rfl) ?_
      obtain ⟨g4, h⟩ := o_gd_some h
      refine o_iald (f := (MM_pairValue q2.2)) C hP 31 30 mw_31 rfl g4 d_MM_pair_1_52 ?_
      cases h
      exact o_ri (v := ((MM_pairValue q2.2) x1.toNatClampNeg)) C hP hS d_MM_pair_1_53
    · replace h := o_ff c3 h
      refine lv_aload_n hx hb d_MM_pair_1_38 rfl (lv_at hl 0 rfl) ?_
      refine o_get (v := .ref (ad 32)) C in_MM hP 0 mw_0 rfl 52 (by decide) k_8_42 rfl rfl d_MM_pair_1_39 ?_
      refine lv_iload_n hx hb d_MM_pair_1_42 rfl (lv_at hl 1 rfl) ?_
      obtain ⟨g5, h⟩ := o_gd_some h
      refine o_iald (f := (MM_pairKey q2.2)) C hP 32 31 mw_32 rfl g5 d_MM_pair_1_43 ?_
      refine lv_goto (tgt := 53) hx hb d_MM_pair_1_44 (by decide) ?_
      cases h
      exact o_ri (v := ((MM_pairKey q2.2) x1.toNatClampNeg)) C hP hS d_MM_pair_1_53
  · replace h := o_ff c2 h
    refine lv_iconst (v := (0:Int32)) hx hb d_MM_pair_1_32 (by decide) ?_
    cases h
    exact o_ri (v := (0:Int32)) C hP hS d_MM_pair_1_33
set_option maxHeartbeats 4000000 in
set_option maxRecDepth 100000 in
theorem e_MM_pair_1 {E : (Nat → Prop) → State → Heap → Prop} {D : va_G} {ad kd sd vd xd : Nat → Nat} {ca : Nat → ClassId} (hE : o_EK E kd sd vd xd) (l : Launch) (x1 : Int32) (x2 : Int32) (Mm : SMM) (M0 : SMT) (M1 : SMT) (rt : Value) {r : Int32 × SMM} (h : m_MM_pair_1 x1 x2 Mm = some r) : o_Cn E l D m_cls (m_tys ca) y_MM_pair_1 cc_MM_pair_1 rm_MM_pair_1 [.ref (ad 0), .int x1, .int x2] (m_cw ad ca rt Mm M0 M1) (m_cw ad ca rt r.2 M0 M1) (some (.int r.1)) := by
  refine o_Cn_of (by decide) (Nat.le_of_ble_eq_true rfl) ?_
  intro p e s m below meth c A ls C hD hP hS hl
  have hDD : ∀ (rt : Value) (Mm : SMM) (M0 : SMT) (M1 : SMT), va_D A (m_cw ad ca rt Mm M0 M1) := fun _ _ _ _ => o_D_map hD rfl
  have hl : lv_has ls 3 [(0, .ref (ad 0)), (1, .int x1), (2, .int x2)] := hl
  unfold m_MM_pair_1 at h
  have C0 := C
  obtain ⟨hx, hb, -, -, -, hown, hts, hK, -, -⟩ := C0
  refine lv_aload_n hx hb d_MM_pair_1_0 rfl (lv_at hl 0 rfl) ?_
  refine lv_iconst (v := (0:Int32)) hx hb d_MM_pair_1_1 (by decide) ?_
  refine o_put (v := .int (0:Int32)) (ty := .int) (w1 := (m_cw ad ca rt (MM_mk (0:Int32) (MM_fed Mm) (MM_wrong Mm) (MM_octets Mm) (MM_nodeKind Mm) (MM_nodeA Mm) (MM_nodeB Mm) (MM_nodeC Mm) (MM_nodeNext Mm) (MM_low Mm) (MM_high Mm) (MM_setFrom Mm) (MM_setTo Mm) (MM_setNot Mm) (MM_op Mm) (MM_opA Mm) (MM_opB Mm) (MM_mark Mm) (MM_now Mm) (MM_then Mm) (MM_todo Mm) (MM_nodes Mm) (MM_sets Mm) (MM_ranges Mm) (MM_steps Mm) (MM_pat Mm) (MM_patEnd Mm) (MM_round Mm) (MM_many1 Mm) (MM_broken Mm) (MM_keys Mm) (MM_types Mm) (MM_checked Mm) (MM_faultKind Mm) (MM_faultValue Mm) (MM_latestFault Mm) (MM_anchors Mm) (MM_key Mm) (MM_target Mm) (MM_anchorValue Mm) (MM_anchorSchema Mm) (MM_path Mm) (MM_route Mm) (MM_isSchema Mm) (MM_seen1 Mm) (MM_pathSize Mm) (MM_octetRow Mm) (MM_partRow Mm) (MM_pairValue Mm) (MM_pairKey Mm) (MM_pairs Mm) (MM_judged Mm) (MM_deepest Mm) (MM_depth Mm) (MM_over Mm) (MM_seen Mm)) M0 M1)) C in_MM t_MM t_MM_ok n_MM hP (hDD _ _ _ _) hS 0 mw_0 rfl 0 (by decide) k_7_230 rfl rfl (by decide +kernel) rfl rfl (Nat.le_of_ble_eq_true rfl) rfl d_MM_pair_1_2 (fun H locs hP hS => ?_)
  refine lv_aload_n hx hb d_MM_pair_1_5 rfl (lv_at hl 0 rfl) ?_
  refine lv_iload_n hx hb d_MM_pair_1_6 rfl (lv_at hl 1 rfl) ?_
  refine lv_iconst (v := (0:Int32)) hx hb d_MM_pair_1_7 (by decide) ?_
  refine lv_aload_n hx hb d_MM_pair_1_8 rfl (lv_at hl 0 rfl) ?_
  refine o_get (v := .int (MM_pairs Mm)) C in_MM hP 0 mw_0 rfl 53 (by decide) k_8_43 rfl rfl d_MM_pair_1_9 ?_
  refine lv_iconst (v := (1:Int32)) hx hb d_MM_pair_1_12 (by decide) ?_
  refine lv_isub hx hb d_MM_pair_1_13 ?_
  obtain ⟨q1, hq1, h⟩ := o_bd_some h
  refine o_S (st1 := [.int q1, .ref (ad 0)]) (w1 := (m_cw ad ca rt (MM_mk (0:Int32) (MM_fed Mm) (MM_wrong Mm) (MM_octets Mm) (MM_nodeKind Mm) (MM_nodeA Mm) (MM_nodeB Mm) (MM_nodeC Mm) (MM_nodeNext Mm) (MM_low Mm) (MM_high Mm) (MM_setFrom Mm) (MM_setTo Mm) (MM_setNot Mm) (MM_op Mm) (MM_opA Mm) (MM_opB Mm) (MM_mark Mm) (MM_now Mm) (MM_then Mm) (MM_todo Mm) (MM_nodes Mm) (MM_sets Mm) (MM_ranges Mm) (MM_steps Mm) (MM_pat Mm) (MM_patEnd Mm) (MM_round Mm) (MM_many1 Mm) (MM_broken Mm) (MM_keys Mm) (MM_types Mm) (MM_checked Mm) (MM_faultKind Mm) (MM_faultValue Mm) (MM_latestFault Mm) (MM_anchors Mm) (MM_key Mm) (MM_target Mm) (MM_anchorValue Mm) (MM_anchorSchema Mm) (MM_path Mm) (MM_route Mm) (MM_isSchema Mm) (MM_seen1 Mm) (MM_pathSize Mm) (MM_octetRow Mm) (MM_partRow Mm) (MM_pairValue Mm) (MM_pairKey Mm) (MM_pairs Mm) (MM_judged Mm) (MM_deepest Mm) (MM_depth Mm) (MM_over Mm) (MM_seen Mm)) M0 M1)) hE.1 C (e_MM_in hE l x1 (0:Int32) ((MM_pairs Mm) - (1:Int32)) (MM_mk (0:Int32) (MM_fed Mm) (MM_wrong Mm) (MM_octets Mm) (MM_nodeKind Mm) (MM_nodeA Mm) (MM_nodeB Mm) (MM_nodeC Mm) (MM_nodeNext Mm) (MM_low Mm) (MM_high Mm) (MM_setFrom Mm) (MM_setTo Mm) (MM_setNot Mm) (MM_op Mm) (MM_opA Mm) (MM_opB Mm) (MM_mark Mm) (MM_now Mm) (MM_then Mm) (MM_todo Mm) (MM_nodes Mm) (MM_sets Mm) (MM_ranges Mm) (MM_steps Mm) (MM_pat Mm) (MM_patEnd Mm) (MM_round Mm) (MM_many1 Mm) (MM_broken Mm) (MM_keys Mm) (MM_types Mm) (MM_checked Mm) (MM_faultKind Mm) (MM_faultValue Mm) (MM_latestFault Mm) (MM_anchors Mm) (MM_key Mm) (MM_target Mm) (MM_anchorValue Mm) (MM_anchorSchema Mm) (MM_path Mm) (MM_route Mm) (MM_isSchema Mm) (MM_seen1 Mm) (MM_pathSize Mm) (MM_octetRow Mm) (MM_partRow Mm) (MM_pairValue Mm) (MM_pairKey Mm) (MM_pairs Mm) (MM_judged Mm) (MM_deepest Mm) (MM_depth Mm) (MM_over Mm) (MM_seen Mm)) M0 M1 rt hq1) hP (hDD _ _ _ _) hS hl.1 k_9_41 k_8_201 k_1_12 k_8_202 hs_MM_in rfl rfl ⟨(Nat.le_of_ble_eq_true rfl), (Nat.le_of_ble_eq_true rfl)⟩ rfl (Nat.le_of_ble_eq_true rfl) ⟨Nat.zero_le _, Nat.zero_le _⟩ rfl d_MM_pair_1_14 (fun H locs hP hS => ?_)
  refine lv_if_ne (tgt := 24) hx hb d_MM_pair_1_17 (by decide) (fun c1 => ?_) (fun c1 => ?_)
  · replace h := o_ff c1 h
    refine lv_iconst (v := (0:Int32)) hx hb d_MM_pair_1_24 (by decide) ?_
    exact f_MM_pair_1_j25 hE C hDD x1 x2 (0:Int32) (MM_mk (0:Int32) (MM_fed Mm) (MM_wrong Mm) (MM_octets Mm) (MM_nodeKind Mm) (MM_nodeA Mm) (MM_nodeB Mm) (MM_nodeC Mm) (MM_nodeNext Mm) (MM_low Mm) (MM_high Mm) (MM_setFrom Mm) (MM_setTo Mm) (MM_setNot Mm) (MM_op Mm) (MM_opA Mm) (MM_opB Mm) (MM_mark Mm) (MM_now Mm) (MM_then Mm) (MM_todo Mm) (MM_nodes Mm) (MM_sets Mm) (MM_ranges Mm) (MM_steps Mm) (MM_pat Mm) (MM_patEnd Mm) (MM_round Mm) (MM_many1 Mm) (MM_broken Mm) (MM_keys Mm) (MM_types Mm) (MM_checked Mm) (MM_faultKind Mm) (MM_faultValue Mm) (MM_latestFault Mm) (MM_anchors Mm) (MM_key Mm) (MM_target Mm) (MM_anchorValue Mm) (MM_anchorSchema Mm) (MM_path Mm) (MM_route Mm) (MM_isSchema Mm) (MM_seen1 Mm) (MM_pathSize Mm) (MM_octetRow Mm) (MM_partRow Mm) (MM_pairValue Mm) (MM_pairKey Mm) (MM_pairs Mm) (MM_judged Mm) (MM_deepest Mm) (MM_depth Mm) (MM_over Mm) (MM_seen Mm)) M0 M1 rt h _ _ _ hP hS (lv_sub hl [0, 1, 2] rfl)
  · replace h := o_tt c1 h
    refine lv_iconst (v := (1:Int32)) hx hb d_MM_pair_1_20 (by decide) ?_
    refine lv_goto (tgt := 25) hx hb d_MM_pair_1_21 (by decide) ?_
    exact f_MM_pair_1_j25 hE C hDD x1 x2 (1:Int32) (MM_mk (0:Int32) (MM_fed Mm) (MM_wrong Mm) (MM_octets Mm) (MM_nodeKind Mm) (MM_nodeA Mm) (MM_nodeB Mm) (MM_nodeC Mm) (MM_nodeNext Mm) (MM_low Mm) (MM_high Mm) (MM_setFrom Mm) (MM_setTo Mm) (MM_setNot Mm) (MM_op Mm) (MM_opA Mm) (MM_opB Mm) (MM_mark Mm) (MM_now Mm) (MM_then Mm) (MM_todo Mm) (MM_nodes Mm) (MM_sets Mm) (MM_ranges Mm) (MM_steps Mm) (MM_pat Mm) (MM_patEnd Mm) (MM_round Mm) (MM_many1 Mm) (MM_broken Mm) (MM_keys Mm) (MM_types Mm) (MM_checked Mm) (MM_faultKind Mm) (MM_faultValue Mm) (MM_latestFault Mm) (MM_anchors Mm) (MM_key Mm) (MM_target Mm) (MM_anchorValue Mm) (MM_anchorSchema Mm) (MM_path Mm) (MM_route Mm) (MM_isSchema Mm) (MM_seen1 Mm) (MM_pathSize Mm) (MM_octetRow Mm) (MM_partRow Mm) (MM_pairValue Mm) (MM_pairKey Mm) (MM_pairs Mm) (MM_judged Mm) (MM_deepest Mm) (MM_depth Mm) (MM_over Mm) (MM_seen Mm)) M0 M1 rt h _ _ _ hP hS (lv_sub hl [0, 1, 2] rfl)
set_option maxHeartbeats 4000000 in
set_option maxRecDepth 100000 in
theorem f_MM_value_j65 {E : (Nat → Prop) → State → Heap → Prop} {p : Program} {l : Launch} {e : Env} {s : State} {m : MethodId} {args : Array Value} {below : List Frame} {meth : Method} {c : Code} {D : va_G} {ad kd sd vd xd : Nat → Nat} {ca : Nat → ClassId} {A : Nat → Prop} (hE : o_EK E kd sd vd xd) (C : o_Cx E p s m args meth c D m_cls (m_tys ca) "SchemaJudgeModel" b_MM_value (some .int) 5 cc_MM_value A) (hDD : ∀ (rt : Value) (Mm : SMM) (M0 : SMT) (M1 : SMT), va_D A (m_cw ad ca rt Mm M0 M1)) (x2 : Int32) (x3 : Int32) (y1 : Int32) (M0 : SMT) (M1 : SMT) (Mm : SMM) (rt : Value) {r : Int32 × SMM} (h : m_MM_value_j65 x2 x3 y1 M0 M1 Mm = some r) : o_At p l e rm_MM_value s m args below meth c (MQ below (o_Qx D m_cls (some (.int r.1)) (m_cw ad ca rt r.2 M0 M1) A) args s 0 0 A) m_cls D A 5 65 [.int y1, .ref (ad 0)] (m_cw ad ca rt Mm M0 M1) [(2, .int x2), (3, .int x3), (4, .ref (ad 48))] := by
  unfold m_MM_value_j65 at h
  intro H locs ls hP hS hl
  have C0 := C
  obtain ⟨hx, hb, -, -, -, hown, hts, hK, -, -⟩ := C0
  refine lv_iconst (v := (2:Int32)) hx hb d_MM_value_65 (by decide) ?_
  obtain ⟨q4, hq4, h⟩ := o_bd_some h
  refine o_V (st1 := [.int q4.1]) (w1 := (m_cw ad ca rt q4.2 M0 M1)) hE.1 C (e_MM_fails hE l y1 (2:Int32) Mm M0 M1 rt hq4) hP (hDD _ _ _ _) hS hl.1 rfl mw_0 k_8_176 k_8_178 k_s_81 k_1_12 k_8_179 hv_MM_fails rfl rfl ⟨(Nat.le_of_ble_eq_true rfl), (Nat.le_of_ble_eq_true rfl)⟩ rfl (Nat.le_of_ble_eq_true rfl) ⟨Nat.zero_le _, Nat.zero_le _⟩ rfl d_MM_value_66 (fun H locs hP hS => ?_)
  refine lv_if_eq (tgt := 74) hx hb d_MM_value_69 (by decide) (fun c5 => ?_) (fun c5 => ?_)
  · replace h := o_tt c5 h
    refine lv_iload_n hx hb d_MM_value_74 rfl (lv_at hl 1 rfl) ?_
    refine lv_if_ne (tgt := 88) hx hb d_MM_value_75 (by decide) (fun c6 => ?_) (fun c6 => ?_)
    · replace h := o_ff c6 h
      refine lv_iload_n hx hb d_MM_value_88 rfl (lv_at hl 1 rfl) ?_
      refine lv_iconst (v := (1:Int32)) hx hb d_MM_value_89 (by decide) ?_
      refine lv_icmp_ne (tgt := 103) hx hb d_MM_value_90 (by decide) (fun c7 => ?_) (fun c7 => ?_)
      · replace h := o_ff c7 h
        refine lv_iload_n hx hb d_MM_value_103 rfl (lv_at hl 1 rfl) ?_
        refine lv_iconst (v := (2:Int32)) hx hb d_MM_value_104 (by decide) ?_
        refine lv_icmp_ne (tgt := 118) hx hb d_MM_value_105 (by decide) (fun c8 => ?_) (fun c8 => ?_)
        · replace h := o_ff c8 h
          refine lv_iload_n hx hb d_MM_value_118 rfl (lv_at hl 1 rfl) ?_
          refine lv_iconst (v := (3:Int32)) hx hb d_MM_value_119 (by decide) ?_
          refine lv_icmp_ne (tgt := 133) hx hb d_MM_value_120 (by decide) (fun c9 => ?_) (fun c9 => ?_)
          · replace h := o_ff c9 h
            refine lv_aload hx hb d_MM_value_133 (lv_at hl 2 rfl) ?_
            refine o_get (v := .ref (ad 54)) C in_MT hP 48 mw_48 rfl 5 (by decide) k_7_111 rfl rfl d_MM_value_135 ?_
            refine lv_iload_n hx hb d_MM_value_138 rfl (lv_at hl 0 rfl) ?_
            obtain ⟨g10, h⟩ := o_gd_some h
            refine o_iald (f := (MT_power M1)) C hP 54 51 mw_54 rfl g10 d_MM_value_139 ?_
            cases h
            exact o_ri (v := ((MT_power M1) x2.toNatClampNeg)) C hP hS d_MM_value_140
          · replace h := o_tt c9 h
            refine lv_aload hx hb d_MM_value_123 (lv_at hl 2 rfl) ?_
            refine o_get (v := .ref (ad 53)) C in_MT hP 48 mw_48 rfl 4 (by decide) k_7_109 rfl rfl d_MM_value_125 ?_
            refine lv_iload_n hx hb d_MM_value_128 rfl (lv_at hl 0 rfl) ?_
            obtain ⟨g11, h⟩ := o_gd_some h
            refine o_iald (f := (MT_parent M1)) C hP 53 50 mw_53 rfl g11 d_MM_value_129 ?_
            refine lv_goto (tgt := 140) hx hb d_MM_value_130 (by decide) ?_
            cases h
            exact o_ri (v := ((MT_parent M1) x2.toNatClampNeg)) C hP hS d_MM_value_140
        · replace h := o_tt c8 h
          refine lv_aload hx hb d_MM_value_108 (lv_at hl 2 rfl) ?_
          refine o_get (v := .ref (ad 52)) C in_MT hP 48 mw_48 rfl 3 (by decide) k_7_107 rfl rfl d_MM_value_110 ?_
          refine lv_iload_n hx hb d_MM_value_113 rfl (lv_at hl 0 rfl) ?_
          obtain ⟨g12, h⟩ := o_gd_some h
          refine o_iald (f := (MT_many M1)) C hP 52 49 mw_52 rfl g12 d_MM_value_114 ?_
          refine lv_goto (tgt := 140) hx hb d_MM_value_115 (by decide) ?_
          cases h
          exact o_ri (v := ((MT_many M1) x2.toNatClampNeg)) C hP hS d_MM_value_140
      · replace h := o_tt c7 h
        refine lv_aload hx hb d_MM_value_93 (lv_at hl 2 rfl) ?_
        refine o_get (v := .ref (ad 51)) C in_MT hP 48 mw_48 rfl 2 (by decide) k_7_105 rfl rfl d_MM_value_95 ?_
        refine lv_iload_n hx hb d_MM_value_98 rfl (lv_at hl 0 rfl) ?_
        obtain ⟨g13, h⟩ := o_gd_some h
        refine o_iald (f := (MT_place M1)) C hP 51 48 mw_51 rfl g13 d_MM_value_99 ?_
        refine lv_goto (tgt := 140) hx hb d_MM_value_100 (by decide) ?_
        cases h
        exact o_ri (v := ((MT_place M1) x2.toNatClampNeg)) C hP hS d_MM_value_140
    · replace h := o_tt c6 h
      refine lv_aload hx hb d_MM_value_78 (lv_at hl 2 rfl) ?_
      refine o_get (v := .ref (ad 50)) C in_MT hP 48 mw_48 rfl 1 (by decide) k_7_103 rfl rfl d_MM_value_80 ?_
      refine lv_iload_n hx hb d_MM_value_83 rfl (lv_at hl 0 rfl) ?_
      obtain ⟨g14, h⟩ := o_gd_some h
      refine o_iald (f := (MT_kind M1)) C hP 50 47 mw_50 rfl g14 d_MM_value_84 ?_
      refine lv_goto (tgt := 140) hx hb d_MM_value_85 (by decide) ?_
      cases h
      exact o_ri (v := ((MT_kind M1) x2.toNatClampNeg)) C hP hS d_MM_value_140
  · replace h := o_ff c5 h
    refine lv_iconst (v := (0:Int32)) hx hb d_MM_value_72 (by decide) ?_
    cases h
    exact o_ri (v := (0:Int32)) C hP hS d_MM_value_73
set_option maxHeartbeats 4000000 in
set_option maxRecDepth 100000 in
theorem f_MM_value_j37 {E : (Nat → Prop) → State → Heap → Prop} {p : Program} {l : Launch} {e : Env} {s : State} {m : MethodId} {args : Array Value} {below : List Frame} {meth : Method} {c : Code} {D : va_G} {ad kd sd vd xd : Nat → Nat} {ca : Nat → ClassId} {A : Nat → Prop} (hE : o_EK E kd sd vd xd) (C : o_Cx E p s m args meth c D m_cls (m_tys ca) "SchemaJudgeModel" b_MM_value (some .int) 5 cc_MM_value A) (hDD : ∀ (rt : Value) (Mm : SMM) (M0 : SMT) (M1 : SMT), va_D A (m_cw ad ca rt Mm M0 M1)) (x2 : Int32) (x3 : Int32) (y1 : Int32) (M0 : SMT) (M1 : SMT) (Mm : SMM) (rt : Value) {r : Int32 × SMM} (h : m_MM_value_j37 x2 x3 y1 M0 M1 Mm = some r) : o_At p l e rm_MM_value s m args below meth c (MQ below (o_Qx D m_cls (some (.int r.1)) (m_cw ad ca rt r.2 M0 M1) A) args s 0 0 A) m_cls D A 5 37 [.int y1, .ref (ad 0)] (m_cw ad ca rt Mm M0 M1) [(0, .ref (ad 0)), (2, .int x2), (3, .int x3), (4, .ref (ad 48))] := by
  unfold m_MM_value_j37 at h
  intro H locs ls hP hS hl
  have C0 := C
  obtain ⟨hx, hb, -, -, -, hown, hts, hK, -, -⟩ := C0
  refine lv_iconst (v := (1:Int32)) hx hb d_MM_value_37 (by decide) ?_
  obtain ⟨q2, hq2, h⟩ := o_bd_some h
  refine o_V (st1 := [.int q2.1]) (w1 := (m_cw ad ca rt q2.2 M0 M1)) hE.1 C (e_MM_fails hE l y1 (1:Int32) Mm M0 M1 rt hq2) hP (hDD _ _ _ _) hS hl.1 rfl mw_0 k_8_176 k_8_178 k_s_81 k_1_12 k_8_179 hv_MM_fails rfl rfl ⟨(Nat.le_of_ble_eq_true rfl), (Nat.le_of_ble_eq_true rfl)⟩ rfl (Nat.le_of_ble_eq_true rfl) ⟨Nat.zero_le _, Nat.zero_le _⟩ rfl d_MM_value_38 (fun H locs hP hS => ?_)
  refine lv_if_ne (tgt := 72) hx hb d_MM_value_41 (by decide) (fun c3 => ?_) (fun c3 => ?_)
  · replace h := o_ff c3 h
    refine lv_iconst (v := (0:Int32)) hx hb d_MM_value_72 (by decide) ?_
    cases h
    exact o_ri (v := (0:Int32)) C hP hS d_MM_value_73
  · replace h := o_tt c3 h
    refine lv_aload_n hx hb d_MM_value_44 rfl (lv_at hl 0 rfl) ?_
    refine lv_iload_n hx hb d_MM_value_45 rfl (lv_at hl 1 rfl) ?_
    refine lv_iconst (v := (0:Int32)) hx hb d_MM_value_46 (by decide) ?_
    refine lv_aload hx hb d_MM_value_47 (lv_at hl 3 rfl) ?_
    refine o_get (v := .int (MT_values M1)) C in_MT hP 48 mw_48 rfl 13 (by decide) k_7_127 rfl rfl d_MM_value_49 ?_
    refine lv_iconst (v := (1:Int32)) hx hb d_MM_value_52 (by decide) ?_
    refine lv_isub hx hb d_MM_value_53 ?_
    obtain ⟨q3, hq3, h⟩ := o_bd_some h
    refine o_S (st1 := [.int q3, .ref (ad 0)]) (w1 := (m_cw ad ca rt q2.2 M0 M1)) hE.1 C (e_MM_in hE l x2 (0:Int32) ((MT_values M1) - (1:Int32)) q2.2 M0 M1 rt hq3) hP (hDD _ _ _ _) hS hl.1 k_9_41 k_8_201 k_1_12 k_8_202 hs_MM_in rfl rfl ⟨(Nat.le_of_ble_eq_true rfl), (Nat.le_of_ble_eq_true rfl)⟩ rfl (Nat.le_of_ble_eq_true rfl) ⟨Nat.zero_le _, Nat.zero_le _⟩ rfl d_MM_value_54 (fun H locs hP hS => ?_)
    refine lv_if_ne (tgt := 64) hx hb d_MM_value_57 (by decide) (fun c4 => ?_) (fun c4 => ?_)
    · replace h := o_ff c4 h
      refine lv_iconst (v := (0:Int32)) hx hb d_MM_value_64 (by decide) ?_
      exact f_MM_value_j65 hE C hDD x2 x3 (0:Int32) M0 M1 q2.2 rt h _ _ _ hP hS (lv_sub hl [1, 2, 3] rfl)
    · replace h := o_tt c4 h
      refine lv_iconst (v := (1:Int32)) hx hb d_MM_value_60 (by decide) ?_
      refine lv_goto (tgt := 65) hx hb d_MM_value_61 (by decide) ?_
      exact f_MM_value_j65 hE C hDD x2 x3 (1:Int32) M0 M1 q2.2 rt h _ _ _ hP hS (lv_sub hl [1, 2, 3] rfl)
set_option maxHeartbeats 4000000 in
set_option maxRecDepth 100000 in
theorem f_MM_value_j20 {E : (Nat → Prop) → State → Heap → Prop} {p : Program} {l : Launch} {e : Env} {s : State} {m : MethodId} {args : Array Value} {below : List Frame} {meth : Method} {c : Code} {D : va_G} {ad kd sd vd xd : Nat → Nat} {ca : Nat → ClassId} {A : Nat → Prop} (hE : o_EK E kd sd vd xd) (C : o_Cx E p s m args meth c D m_cls (m_tys ca) "SchemaJudgeModel" b_MM_value (some .int) 5 cc_MM_value A) (hDD : ∀ (rt : Value) (Mm : SMM) (M0 : SMT) (M1 : SMT), va_D A (m_cw ad ca rt Mm M0 M1)) (x2 : Int32) (x3 : Int32) (M0 : SMT) (M1 : SMT) (Mm : SMM) (rt : Value) {r : Int32 × SMM} (h : m_MM_value_j20 x2 x3 M0 M1 Mm = some r) : o_At p l e rm_MM_value s m args below meth c (MQ below (o_Qx D m_cls (some (.int r.1)) (m_cw ad ca rt r.2 M0 M1) A) args s 0 0 A) m_cls D A 5 20 [.ref (ad 48)] (m_cw ad ca rt Mm M0 M1) [(0, .ref (ad 0)), (2, .int x2), (3, .int x3)] := by
  unfold m_MM_value_j20 at h
  intro H locs ls hP hS hl
  have C0 := C
  obtain ⟨hx, hb, -, -, -, hown, hts, hK, -, -⟩ := C0
  refine lv_astore (lv' := [(4, .ref (ad 48)), (0, .ref (ad 0)), (2, .int x2), (3, .int x3)]) hx hb d_MM_value_20 hl (by decide) rfl (fun ls hl => ?_)
  refine lv_aload_n hx hb d_MM_value_22 rfl (lv_at hl 1 rfl) ?_
  refine lv_iload_n hx hb d_MM_value_23 rfl (lv_at hl 3 rfl) ?_
  refine lv_iconst (v := (0:Int32)) hx hb d_MM_value_24 (by decide) ?_
  refine lv_iconst (v := (4:Int32)) hx hb d_MM_value_25 (by decide) ?_
  obtain ⟨q1, hq1, h⟩ := o_bd_some h
  refine o_S (st1 := [.int q1, .ref (ad 0)]) (w1 := (m_cw ad ca rt Mm M0 M1)) hE.1 C (e_MM_in hE l x3 (0:Int32) (4:Int32) Mm M0 M1 rt hq1) hP (hDD _ _ _ _) hS hl.1 k_9_41 k_8_201 k_1_12 k_8_202 hs_MM_in rfl rfl ⟨(Nat.le_of_ble_eq_true rfl), (Nat.le_of_ble_eq_true rfl)⟩ rfl (Nat.le_of_ble_eq_true rfl) ⟨Nat.zero_le _, Nat.zero_le _⟩ rfl d_MM_value_26 (fun H locs hP hS => ?_)
  refine lv_if_ne (tgt := 36) hx hb d_MM_value_29 (by decide) (fun c2 => ?_) (fun c2 => ?_)
  · replace h := o_ff c2 h
    refine lv_iconst (v := (0:Int32)) hx hb d_MM_value_36 (by decide) ?_
    exact f_MM_value_j37 hE C hDD x2 x3 (0:Int32) M0 M1 Mm rt h _ _ _ hP hS (lv_sub hl [1, 2, 3, 0] rfl)
  · replace h := o_tt c2 h
    refine lv_iconst (v := (1:Int32)) hx hb d_MM_value_32 (by decide) ?_
    refine lv_goto (tgt := 37) hx hb d_MM_value_33 (by decide) ?_
    exact f_MM_value_j37 hE C hDD x2 x3 (1:Int32) M0 M1 Mm rt h _ _ _ hP hS (lv_sub hl [1, 2, 3, 0] rfl)
set_option maxHeartbeats 4000000 in
set_option maxRecDepth 100000 in
theorem f_MM_value_j65v10 {E : (Nat → Prop) → State → Heap → Prop} {p : Program} {l : Launch} {e : Env} {s : State} {m : MethodId} {args : Array Value} {below : List Frame} {meth : Method} {c : Code} {D : va_G} {ad kd sd vd xd : Nat → Nat} {ca : Nat → ClassId} {A : Nat → Prop} (hE : o_EK E kd sd vd xd) (C : o_Cx E p s m args meth c D m_cls (m_tys ca) "SchemaJudgeModel" b_MM_value (some .int) 5 cc_MM_value A) (hDD : ∀ (rt : Value) (Mm : SMM) (M0 : SMT) (M1 : SMT), va_D A (m_cw ad ca rt Mm M0 M1)) (x2 : Int32) (x3 : Int32) (y1 : Int32) (M0 : SMT) (M1 : SMT) (Mm : SMM) (rt : Value) {r : Int32 × SMM} (h : m_MM_value_j65v10 x2 x3 y1 M0 M1 Mm = some r) : o_At p l e rm_MM_value s m args below meth c (MQ below (o_Qx D m_cls (some (.int r.1)) (m_cw ad ca rt r.2 M0 M1) A) args s 0 0 A) m_cls D A 5 65 [.int y1, .ref (ad 0)] (m_cw ad ca rt Mm M0 M1) [(2, .int x2), (3, .int x3), (4, .ref (ad 33))] := by
  unfold m_MM_value_j65v10 at h
  intro H locs ls hP hS hl
  have C0 := C
  obtain ⟨hx, hb, -, -, -, hown, hts, hK, -, -⟩ := C0
  refine lv_iconst (v := (2:Int32)) hx hb d_MM_value_65 (by decide) ?_
  obtain ⟨q8, hq8, h⟩ := o_bd_some h
  refine o_V (st1 := [.int q8.1]) (w1 := (m_cw ad ca rt q8.2 M0 M1)) hE.1 C (e_MM_fails hE l y1 (2:Int32) Mm M0 M1 rt hq8) hP (hDD _ _ _ _) hS hl.1 rfl mw_0 k_8_176 k_8_178 k_s_81 k_1_12 k_8_179 hv_MM_fails rfl rfl ⟨(Nat.le_of_ble_eq_true rfl), (Nat.le_of_ble_eq_true rfl)⟩ rfl (Nat.le_of_ble_eq_true rfl) ⟨Nat.zero_le _, Nat.zero_le _⟩ rfl d_MM_value_66 (fun H locs hP hS => ?_)
  refine lv_if_eq (tgt := 74) hx hb d_MM_value_69 (by decide) (fun c18 => ?_) (fun c18 => ?_)
  · replace h := o_tt c18 h
    refine lv_iload_n hx hb d_MM_value_74 rfl (lv_at hl 1 rfl) ?_
    refine lv_if_ne (tgt := 88) hx hb d_MM_value_75 (by decide) (fun c19 => ?_) (fun c19 => ?_)
    · replace h := o_ff c19 h
      refine lv_iload_n hx hb d_MM_value_88 rfl (lv_at hl 1 rfl) ?_
      refine lv_iconst (v := (1:Int32)) hx hb d_MM_value_89 (by decide) ?_
      refine lv_icmp_ne (tgt := 103) hx hb d_MM_value_90 (by decide) (fun c20 => ?_) (fun c20 => ?_)
      · replace h := o_ff c20 h
        refine lv_iload_n hx hb d_MM_value_103 rfl (lv_at hl 1 rfl) ?_
        refine lv_iconst (v := (2:Int32)) hx hb d_MM_value_104 (by decide) ?_
        refine lv_icmp_ne (tgt := 118) hx hb d_MM_value_105 (by decide) (fun c21 => ?_) (fun c21 => ?_)
        · replace h := o_ff c21 h
          refine lv_iload_n hx hb d_MM_value_118 rfl (lv_at hl 1 rfl) ?_
          refine lv_iconst (v := (3:Int32)) hx hb d_MM_value_119 (by decide) ?_
          refine lv_icmp_ne (tgt := 133) hx hb d_MM_value_120 (by decide) (fun c22 => ?_) (fun c22 => ?_)
          · replace h := o_ff c22 h
            refine lv_aload hx hb d_MM_value_133 (lv_at hl 2 rfl) ?_
            refine o_get (v := .ref (ad 39)) C in_MT hP 33 mw_33 rfl 5 (by decide) k_7_111 rfl rfl d_MM_value_135 ?_
            refine lv_iload_n hx hb d_MM_value_138 rfl (lv_at hl 0 rfl) ?_
            obtain ⟨g23, h⟩ := o_gd_some h
            refine o_iald (f := (MT_power M0)) C hP 39 37 mw_39 rfl g23 d_MM_value_139 ?_
            cases h
            exact o_ri (v := ((MT_power M0) x2.toNatClampNeg)) C hP hS d_MM_value_140
          · replace h := o_tt c22 h
            refine lv_aload hx hb d_MM_value_123 (lv_at hl 2 rfl) ?_
            refine o_get (v := .ref (ad 38)) C in_MT hP 33 mw_33 rfl 4 (by decide) k_7_109 rfl rfl d_MM_value_125 ?_
            refine lv_iload_n hx hb d_MM_value_128 rfl (lv_at hl 0 rfl) ?_
            obtain ⟨g24, h⟩ := o_gd_some h
            refine o_iald (f := (MT_parent M0)) C hP 38 36 mw_38 rfl g24 d_MM_value_129 ?_
            refine lv_goto (tgt := 140) hx hb d_MM_value_130 (by decide) ?_
            cases h
            exact o_ri (v := ((MT_parent M0) x2.toNatClampNeg)) C hP hS d_MM_value_140
        · replace h := o_tt c21 h
          refine lv_aload hx hb d_MM_value_108 (lv_at hl 2 rfl) ?_
          refine o_get (v := .ref (ad 37)) C in_MT hP 33 mw_33 rfl 3 (by decide) k_7_107 rfl rfl d_MM_value_110 ?_
          refine lv_iload_n hx hb d_MM_value_113 rfl (lv_at hl 0 rfl) ?_
          obtain ⟨g25, h⟩ := o_gd_some h
          refine o_iald (f := (MT_many M0)) C hP 37 35 mw_37 rfl g25 d_MM_value_114 ?_
          refine lv_goto (tgt := 140) hx hb d_MM_value_115 (by decide) ?_
          cases h
          exact o_ri (v := ((MT_many M0) x2.toNatClampNeg)) C hP hS d_MM_value_140
      · replace h := o_tt c20 h
        refine lv_aload hx hb d_MM_value_93 (lv_at hl 2 rfl) ?_
        refine o_get (v := .ref (ad 36)) C in_MT hP 33 mw_33 rfl 2 (by decide) k_7_105 rfl rfl d_MM_value_95 ?_
        refine lv_iload_n hx hb d_MM_value_98 rfl (lv_at hl 0 rfl) ?_
        obtain ⟨g26, h⟩ := o_gd_some h
        refine o_iald (f := (MT_place M0)) C hP 36 34 mw_36 rfl g26 d_MM_value_99 ?_
        refine lv_goto (tgt := 140) hx hb d_MM_value_100 (by decide) ?_
        cases h
        exact o_ri (v := ((MT_place M0) x2.toNatClampNeg)) C hP hS d_MM_value_140
    · replace h := o_tt c19 h
      refine lv_aload hx hb d_MM_value_78 (lv_at hl 2 rfl) ?_
      refine o_get (v := .ref (ad 35)) C in_MT hP 33 mw_33 rfl 1 (by decide) k_7_103 rfl rfl d_MM_value_80 ?_
      refine lv_iload_n hx hb d_MM_value_83 rfl (lv_at hl 0 rfl) ?_
      obtain ⟨g27, h⟩ := o_gd_some h
      refine o_iald (f := (MT_kind M0)) C hP 35 33 mw_35 rfl g27 d_MM_value_84 ?_
      refine lv_goto (tgt := 140) hx hb d_MM_value_85 (by decide) ?_
      cases h
      exact o_ri (v := ((MT_kind M0) x2.toNatClampNeg)) C hP hS d_MM_value_140
  · replace h := o_ff c18 h
    refine lv_iconst (v := (0:Int32)) hx hb d_MM_value_72 (by decide) ?_
    cases h
    exact o_ri (v := (0:Int32)) C hP hS d_MM_value_73
set_option maxHeartbeats 4000000 in
set_option maxRecDepth 100000 in
theorem f_MM_value_j37v7 {E : (Nat → Prop) → State → Heap → Prop} {p : Program} {l : Launch} {e : Env} {s : State} {m : MethodId} {args : Array Value} {below : List Frame} {meth : Method} {c : Code} {D : va_G} {ad kd sd vd xd : Nat → Nat} {ca : Nat → ClassId} {A : Nat → Prop} (hE : o_EK E kd sd vd xd) (C : o_Cx E p s m args meth c D m_cls (m_tys ca) "SchemaJudgeModel" b_MM_value (some .int) 5 cc_MM_value A) (hDD : ∀ (rt : Value) (Mm : SMM) (M0 : SMT) (M1 : SMT), va_D A (m_cw ad ca rt Mm M0 M1)) (x2 : Int32) (x3 : Int32) (y1 : Int32) (M0 : SMT) (M1 : SMT) (Mm : SMM) (rt : Value) {r : Int32 × SMM} (h : m_MM_value_j37v7 x2 x3 y1 M0 M1 Mm = some r) : o_At p l e rm_MM_value s m args below meth c (MQ below (o_Qx D m_cls (some (.int r.1)) (m_cw ad ca rt r.2 M0 M1) A) args s 0 0 A) m_cls D A 5 37 [.int y1, .ref (ad 0)] (m_cw ad ca rt Mm M0 M1) [(0, .ref (ad 0)), (2, .int x2), (3, .int x3), (4, .ref (ad 33))] := by
  unfold m_MM_value_j37v7 at h
  intro H locs ls hP hS hl
  have C0 := C
  obtain ⟨hx, hb, -, -, -, hown, hts, hK, -, -⟩ := C0
  refine lv_iconst (v := (1:Int32)) hx hb d_MM_value_37 (by decide) ?_
  obtain ⟨q6, hq6, h⟩ := o_bd_some h
  refine o_V (st1 := [.int q6.1]) (w1 := (m_cw ad ca rt q6.2 M0 M1)) hE.1 C (e_MM_fails hE l y1 (1:Int32) Mm M0 M1 rt hq6) hP (hDD _ _ _ _) hS hl.1 rfl mw_0 k_8_176 k_8_178 k_s_81 k_1_12 k_8_179 hv_MM_fails rfl rfl ⟨(Nat.le_of_ble_eq_true rfl), (Nat.le_of_ble_eq_true rfl)⟩ rfl (Nat.le_of_ble_eq_true rfl) ⟨Nat.zero_le _, Nat.zero_le _⟩ rfl d_MM_value_38 (fun H locs hP hS => ?_)
  refine lv_if_ne (tgt := 72) hx hb d_MM_value_41 (by decide) (fun c16 => ?_) (fun c16 => ?_)
  · replace h := o_ff c16 h
    refine lv_iconst (v := (0:Int32)) hx hb d_MM_value_72 (by decide) ?_
    cases h
    exact o_ri (v := (0:Int32)) C hP hS d_MM_value_73
  · replace h := o_tt c16 h
    refine lv_aload_n hx hb d_MM_value_44 rfl (lv_at hl 0 rfl) ?_
    refine lv_iload_n hx hb d_MM_value_45 rfl (lv_at hl 1 rfl) ?_
    refine lv_iconst (v := (0:Int32)) hx hb d_MM_value_46 (by decide) ?_
    refine lv_aload hx hb d_MM_value_47 (lv_at hl 3 rfl) ?_
    refine o_get (v := .int (MT_values M0)) C in_MT hP 33 mw_33 rfl 13 (by decide) k_7_127 rfl rfl d_MM_value_49 ?_
    refine lv_iconst (v := (1:Int32)) hx hb d_MM_value_52 (by decide) ?_
    refine lv_isub hx hb d_MM_value_53 ?_
    obtain ⟨q7, hq7, h⟩ := o_bd_some h
    refine o_S (st1 := [.int q7, .ref (ad 0)]) (w1 := (m_cw ad ca rt q6.2 M0 M1)) hE.1 C (e_MM_in hE l x2 (0:Int32) ((MT_values M0) - (1:Int32)) q6.2 M0 M1 rt hq7) hP (hDD _ _ _ _) hS hl.1 k_9_41 k_8_201 k_1_12 k_8_202 hs_MM_in rfl rfl ⟨(Nat.le_of_ble_eq_true rfl), (Nat.le_of_ble_eq_true rfl)⟩ rfl (Nat.le_of_ble_eq_true rfl) ⟨Nat.zero_le _, Nat.zero_le _⟩ rfl d_MM_value_54 (fun H locs hP hS => ?_)
    refine lv_if_ne (tgt := 64) hx hb d_MM_value_57 (by decide) (fun c17 => ?_) (fun c17 => ?_)
    · replace h := o_ff c17 h
      refine lv_iconst (v := (0:Int32)) hx hb d_MM_value_64 (by decide) ?_
      exact f_MM_value_j65v10 hE C hDD x2 x3 (0:Int32) M0 M1 q6.2 rt h _ _ _ hP hS (lv_sub hl [1, 2, 3] rfl)
    · replace h := o_tt c17 h
      refine lv_iconst (v := (1:Int32)) hx hb d_MM_value_60 (by decide) ?_
      refine lv_goto (tgt := 65) hx hb d_MM_value_61 (by decide) ?_
      exact f_MM_value_j65v10 hE C hDD x2 x3 (1:Int32) M0 M1 q6.2 rt h _ _ _ hP hS (lv_sub hl [1, 2, 3] rfl)
set_option maxHeartbeats 4000000 in
set_option maxRecDepth 100000 in
theorem f_MM_value_j20v5 {E : (Nat → Prop) → State → Heap → Prop} {p : Program} {l : Launch} {e : Env} {s : State} {m : MethodId} {args : Array Value} {below : List Frame} {meth : Method} {c : Code} {D : va_G} {ad kd sd vd xd : Nat → Nat} {ca : Nat → ClassId} {A : Nat → Prop} (hE : o_EK E kd sd vd xd) (C : o_Cx E p s m args meth c D m_cls (m_tys ca) "SchemaJudgeModel" b_MM_value (some .int) 5 cc_MM_value A) (hDD : ∀ (rt : Value) (Mm : SMM) (M0 : SMT) (M1 : SMT), va_D A (m_cw ad ca rt Mm M0 M1)) (x2 : Int32) (x3 : Int32) (M0 : SMT) (M1 : SMT) (Mm : SMM) (rt : Value) {r : Int32 × SMM} (h : m_MM_value_j20v5 x2 x3 M0 M1 Mm = some r) : o_At p l e rm_MM_value s m args below meth c (MQ below (o_Qx D m_cls (some (.int r.1)) (m_cw ad ca rt r.2 M0 M1) A) args s 0 0 A) m_cls D A 5 20 [.ref (ad 33)] (m_cw ad ca rt Mm M0 M1) [(0, .ref (ad 0)), (2, .int x2), (3, .int x3)] := by
  unfold m_MM_value_j20v5 at h
  intro H locs ls hP hS hl
  have C0 := C
  obtain ⟨hx, hb, -, -, -, hown, hts, hK, -, -⟩ := C0
  refine lv_astore (lv' := [(4, .ref (ad 33)), (0, .ref (ad 0)), (2, .int x2), (3, .int x3)]) hx hb d_MM_value_20 hl (by decide) rfl (fun ls hl => ?_)
  refine lv_aload_n hx hb d_MM_value_22 rfl (lv_at hl 1 rfl) ?_
  refine lv_iload_n hx hb d_MM_value_23 rfl (lv_at hl 3 rfl) ?_
  refine lv_iconst (v := (0:Int32)) hx hb d_MM_value_24 (by decide) ?_
  refine lv_iconst (v := (4:Int32)) hx hb d_MM_value_25 (by decide) ?_
  obtain ⟨q5, hq5, h⟩ := o_bd_some h
  refine o_S (st1 := [.int q5, .ref (ad 0)]) (w1 := (m_cw ad ca rt Mm M0 M1)) hE.1 C (e_MM_in hE l x3 (0:Int32) (4:Int32) Mm M0 M1 rt hq5) hP (hDD _ _ _ _) hS hl.1 k_9_41 k_8_201 k_1_12 k_8_202 hs_MM_in rfl rfl ⟨(Nat.le_of_ble_eq_true rfl), (Nat.le_of_ble_eq_true rfl)⟩ rfl (Nat.le_of_ble_eq_true rfl) ⟨Nat.zero_le _, Nat.zero_le _⟩ rfl d_MM_value_26 (fun H locs hP hS => ?_)
  refine lv_if_ne (tgt := 36) hx hb d_MM_value_29 (by decide) (fun c15 => ?_) (fun c15 => ?_)
  · replace h := o_ff c15 h
    refine lv_iconst (v := (0:Int32)) hx hb d_MM_value_36 (by decide) ?_
    exact f_MM_value_j37v7 hE C hDD x2 x3 (0:Int32) M0 M1 Mm rt h _ _ _ hP hS (lv_sub hl [1, 2, 3, 0] rfl)
  · replace h := o_tt c15 h
    refine lv_iconst (v := (1:Int32)) hx hb d_MM_value_32 (by decide) ?_
    refine lv_goto (tgt := 37) hx hb d_MM_value_33 (by decide) ?_
    exact f_MM_value_j37v7 hE C hDD x2 x3 (1:Int32) M0 M1 Mm rt h _ _ _ hP hS (lv_sub hl [1, 2, 3, 0] rfl)
set_option maxHeartbeats 4000000 in
set_option maxRecDepth 100000 in
theorem e_MM_value {E : (Nat → Prop) → State → Heap → Prop} {D : va_G} {ad kd sd vd xd : Nat → Nat} {ca : Nat → ClassId} (hE : o_EK E kd sd vd xd) (l : Launch) (x1 : Int32) (x2 : Int32) (x3 : Int32) (M0 : SMT) (M1 : SMT) (Mm : SMM) (rt : Value) {r : Int32 × SMM} (h : m_MM_value x1 x2 x3 M0 M1 Mm = some r) : o_Cn E l D m_cls (m_tys ca) y_MM_value cc_MM_value rm_MM_value [.ref (ad 0), .int x1, .int x2, .int x3] (m_cw ad ca rt Mm M0 M1) (m_cw ad ca rt r.2 M0 M1) (some (.int r.1)) := by
  refine o_Cn_of (by decide) (Nat.le_of_ble_eq_true rfl) ?_
  intro p e s m below meth c A ls C hD hP hS hl
  have hDD : ∀ (rt : Value) (Mm : SMM) (M0 : SMT) (M1 : SMT), va_D A (m_cw ad ca rt Mm M0 M1) := fun _ _ _ _ => o_D_map hD rfl
  have hl : lv_has ls 5 [(0, .ref (ad 0)), (1, .int x1), (2, .int x2), (3, .int x3)] := hl
  unfold m_MM_value at h
  have C0 := C
  obtain ⟨hx, hb, -, -, -, hown, hts, hK, -, -⟩ := C0
  refine lv_aload_n hx hb d_MM_value_0 rfl (lv_at hl 0 rfl) ?_
  refine lv_iconst (v := (0:Int32)) hx hb d_MM_value_1 (by decide) ?_
  refine o_put (v := .int (0:Int32)) (ty := .int) (w1 := (m_cw ad ca rt (MM_mk (0:Int32) (MM_fed Mm) (MM_wrong Mm) (MM_octets Mm) (MM_nodeKind Mm) (MM_nodeA Mm) (MM_nodeB Mm) (MM_nodeC Mm) (MM_nodeNext Mm) (MM_low Mm) (MM_high Mm) (MM_setFrom Mm) (MM_setTo Mm) (MM_setNot Mm) (MM_op Mm) (MM_opA Mm) (MM_opB Mm) (MM_mark Mm) (MM_now Mm) (MM_then Mm) (MM_todo Mm) (MM_nodes Mm) (MM_sets Mm) (MM_ranges Mm) (MM_steps Mm) (MM_pat Mm) (MM_patEnd Mm) (MM_round Mm) (MM_many1 Mm) (MM_broken Mm) (MM_keys Mm) (MM_types Mm) (MM_checked Mm) (MM_faultKind Mm) (MM_faultValue Mm) (MM_latestFault Mm) (MM_anchors Mm) (MM_key Mm) (MM_target Mm) (MM_anchorValue Mm) (MM_anchorSchema Mm) (MM_path Mm) (MM_route Mm) (MM_isSchema Mm) (MM_seen1 Mm) (MM_pathSize Mm) (MM_octetRow Mm) (MM_partRow Mm) (MM_pairValue Mm) (MM_pairKey Mm) (MM_pairs Mm) (MM_judged Mm) (MM_deepest Mm) (MM_depth Mm) (MM_over Mm) (MM_seen Mm)) M0 M1)) C in_MM t_MM t_MM_ok n_MM hP (hDD _ _ _ _) hS 0 mw_0 rfl 0 (by decide) k_7_230 rfl rfl (by decide +kernel) rfl rfl (Nat.le_of_ble_eq_true rfl) rfl d_MM_value_2 (fun H locs hP hS => ?_)
  refine lv_iload_n hx hb d_MM_value_5 rfl (lv_at hl 1 rfl) ?_
  refine lv_if_eq (tgt := 16) hx hb d_MM_value_6 (by decide) (fun c1 => ?_) (fun c1 => ?_)
  · replace h := o_tt c1 h
    refine lv_aload_n hx hb d_MM_value_16 rfl (lv_at hl 0 rfl) ?_
    refine o_get (v := .ref (ad 48)) C in_MM hP 0 mw_0 rfl 5 (by decide) k_7_235 rfl rfl d_MM_value_17 ?_
    exact f_MM_value_j20 hE C hDD x2 x3 M0 M1 (MM_mk (0:Int32) (MM_fed Mm) (MM_wrong Mm) (MM_octets Mm) (MM_nodeKind Mm) (MM_nodeA Mm) (MM_nodeB Mm) (MM_nodeC Mm) (MM_nodeNext Mm) (MM_low Mm) (MM_high Mm) (MM_setFrom Mm) (MM_setTo Mm) (MM_setNot Mm) (MM_op Mm) (MM_opA Mm) (MM_opB Mm) (MM_mark Mm) (MM_now Mm) (MM_then Mm) (MM_todo Mm) (MM_nodes Mm) (MM_sets Mm) (MM_ranges Mm) (MM_steps Mm) (MM_pat Mm) (MM_patEnd Mm) (MM_round Mm) (MM_many1 Mm) (MM_broken Mm) (MM_keys Mm) (MM_types Mm) (MM_checked Mm) (MM_faultKind Mm) (MM_faultValue Mm) (MM_latestFault Mm) (MM_anchors Mm) (MM_key Mm) (MM_target Mm) (MM_anchorValue Mm) (MM_anchorSchema Mm) (MM_path Mm) (MM_route Mm) (MM_isSchema Mm) (MM_seen1 Mm) (MM_pathSize Mm) (MM_octetRow Mm) (MM_partRow Mm) (MM_pairValue Mm) (MM_pairKey Mm) (MM_pairs Mm) (MM_judged Mm) (MM_deepest Mm) (MM_depth Mm) (MM_over Mm) (MM_seen Mm)) rt h _ _ _ hP hS (lv_sub hl [0, 2, 3] rfl)
  · replace h := o_ff c1 h
    refine lv_aload_n hx hb d_MM_value_9 rfl (lv_at hl 0 rfl) ?_
    refine o_get (v := .ref (ad 33)) C in_MM hP 0 mw_0 rfl 4 (by decide) k_7_234 rfl rfl d_MM_value_10 ?_
    refine lv_goto (tgt := 20) hx hb d_MM_value_13 (by decide) ?_
    exact f_MM_value_j20v5 hE C hDD x2 x3 M0 M1 (MM_mk (0:Int32) (MM_fed Mm) (MM_wrong Mm) (MM_octets Mm) (MM_nodeKind Mm) (MM_nodeA Mm) (MM_nodeB Mm) (MM_nodeC Mm) (MM_nodeNext Mm) (MM_low Mm) (MM_high Mm) (MM_setFrom Mm) (MM_setTo Mm) (MM_setNot Mm) (MM_op Mm) (MM_opA Mm) (MM_opB Mm) (MM_mark Mm) (MM_now Mm) (MM_then Mm) (MM_todo Mm) (MM_nodes Mm) (MM_sets Mm) (MM_ranges Mm) (MM_steps Mm) (MM_pat Mm) (MM_patEnd Mm) (MM_round Mm) (MM_many1 Mm) (MM_broken Mm) (MM_keys Mm) (MM_types Mm) (MM_checked Mm) (MM_faultKind Mm) (MM_faultValue Mm) (MM_latestFault Mm) (MM_anchors Mm) (MM_key Mm) (MM_target Mm) (MM_anchorValue Mm) (MM_anchorSchema Mm) (MM_path Mm) (MM_route Mm) (MM_isSchema Mm) (MM_seen1 Mm) (MM_pathSize Mm) (MM_octetRow Mm) (MM_partRow Mm) (MM_pairValue Mm) (MM_pairKey Mm) (MM_pairs Mm) (MM_judged Mm) (MM_deepest Mm) (MM_depth Mm) (MM_over Mm) (MM_seen Mm)) rt h _ _ _ hP hS (lv_sub hl [0, 2, 3] rfl)
set_option maxHeartbeats 4000000 in
set_option maxRecDepth 100000 in
theorem f_MM_alike_j45 {E : (Nat → Prop) → State → Heap → Prop} {p : Program} {l : Launch} {e : Env} {s : State} {m : MethodId} {args : Array Value} {below : List Frame} {meth : Method} {c : Code} {D : va_G} {ad kd sd vd xd : Nat → Nat} {ca : Nat → ClassId} {A : Nat → Prop} (hE : o_EK E kd sd vd xd) (C : o_Cx E p s m args meth c D m_cls (m_tys ca) "SchemaJudgeModel" b_MM_alike (some .boolean) 3 cc_MM_alike A) (hDD : ∀ (rt : Value) (Mm : SMM) (M0 : SMT) (M1 : SMT), va_D A (m_cw ad ca rt Mm M0 M1)) (x1 : Int32) (x2 : Int32) (y1 : Int32) (M1 : SMT) (Mm : SMM) (M0 : SMT) (rt : Value) {r : Int32 × SMM} (h : m_MM_alike_j45 x1 x2 y1 M1 Mm = some r) : o_At p l e rm_MM_alike s m args below meth c (MQ below (o_Qx D m_cls (some (.int r.1)) (m_cw ad ca rt r.2 M0 M1) A) args s 0 0 A) m_cls D A 3 45 [.int y1, .ref (ad 0)] (m_cw ad ca rt Mm M0 M1) [(0, .ref (ad 0)), (1, .int x1), (2, .int x2)] := by
  unfold m_MM_alike_j45 at h
  intro H locs ls hP hS hl
  have C0 := C
  obtain ⟨hx, hb, -, -, -, hown, hts, hK, -, -⟩ := C0
  refine lv_iconst (v := (1:Int32)) hx hb d_MM_alike_45 (by decide) ?_
  obtain ⟨q2, hq2, h⟩ := o_bd_some h
  refine o_V (st1 := [.int q2.1]) (w1 := (m_cw ad ca rt q2.2 M0 M1)) hE.1 C (e_MM_fails hE l y1 (1:Int32) Mm M0 M1 rt hq2) hP (hDD _ _ _ _) hS hl.1 rfl mw_0 k_8_176 k_8_178 k_s_81 k_1_12 k_8_179 hv_MM_fails rfl rfl ⟨(Nat.le_of_ble_eq_true rfl), (Nat.le_of_ble_eq_true rfl)⟩ rfl (Nat.le_of_ble_eq_true rfl) ⟨Nat.zero_le _, Nat.zero_le _⟩ rfl d_MM_alike_46 (fun H locs hP hS => ?_)
  refine lv_if_eq (tgt := 54) hx hb d_MM_alike_49 (by decide) (fun c2 => ?_) (fun c2 => ?_)
  · replace h := o_tt c2 h
    refine lv_aload_n hx hb d_MM_alike_54 rfl (lv_at hl 0 rfl) ?_
    refine o_get (v := .ref (ad 48)) C in_MM hP 0 mw_0 rfl 5 (by decide) k_7_235 rfl rfl d_MM_alike_55 ?_
    refine lv_iload_n hx hb d_MM_alike_58 rfl (lv_at hl 1 rfl) ?_
    refine lv_aload_n hx hb d_MM_alike_59 rfl (lv_at hl 0 rfl) ?_
    refine o_get (v := .ref (ad 48)) C in_MM hP 0 mw_0 rfl 5 (by decide) k_7_235 rfl rfl d_MM_alike_60 ?_
    refine lv_iload_n hx hb d_MM_alike_63 rfl (lv_at hl 2 rfl) ?_
    cases h
  · replace h := o_ff c2 h
    refine lv_iconst (v := (0:Int32)) hx hb d_MM_alike_52 (by decide) ?_
    cases h
    exact o_rz (v := (0:Int32)) C o_nar0 hP hS d_MM_alike_53
set_option maxHeartbeats 4000000 in
set_option maxRecDepth 100000 in
theorem e_MM_alike {E : (Nat → Prop) → State → Heap → Prop} {D : va_G} {ad kd sd vd xd : Nat → Nat} {ca : Nat → ClassId} (hE : o_EK E kd sd vd xd) (l : Launch) (x1 : Int32) (x2 : Int32) (M1 : SMT) (Mm : SMM) (M0 : SMT) (rt : Value) {r : Int32 × SMM} (h : m_MM_alike x1 x2 M1 Mm = some r) : o_Cn E l D m_cls (m_tys ca) y_MM_alike cc_MM_alike rm_MM_alike [.ref (ad 0), .int x1, .int x2] (m_cw ad ca rt Mm M0 M1) (m_cw ad ca rt r.2 M0 M1) (some (.int r.1)) := by
  refine o_Cn_of (by decide) (Nat.le_of_ble_eq_true rfl) ?_
  intro p e s m below meth c A ls C hD hP hS hl
  have hDD : ∀ (rt : Value) (Mm : SMM) (M0 : SMT) (M1 : SMT), va_D A (m_cw ad ca rt Mm M0 M1) := fun _ _ _ _ => o_D_map hD rfl
  have hl : lv_has ls 3 [(0, .ref (ad 0)), (1, .int x1), (2, .int x2)] := hl
  unfold m_MM_alike at h
  have C0 := C
  obtain ⟨hx, hb, -, -, -, hown, hts, hK, -, -⟩ := C0
  refine lv_aload_n hx hb d_MM_alike_0 rfl (lv_at hl 0 rfl) ?_
  refine lv_iconst (v := (0:Int32)) hx hb d_MM_alike_1 (by decide) ?_
  refine o_put (v := .int (0:Int32)) (ty := .int) (w1 := (m_cw ad ca rt (MM_mk (0:Int32) (MM_fed Mm) (MM_wrong Mm) (MM_octets Mm) (MM_nodeKind Mm) (MM_nodeA Mm) (MM_nodeB Mm) (MM_nodeC Mm) (MM_nodeNext Mm) (MM_low Mm) (MM_high Mm) (MM_setFrom Mm) (MM_setTo Mm) (MM_setNot Mm) (MM_op Mm) (MM_opA Mm) (MM_opB Mm) (MM_mark Mm) (MM_now Mm) (MM_then Mm) (MM_todo Mm) (MM_nodes Mm) (MM_sets Mm) (MM_ranges Mm) (MM_steps Mm) (MM_pat Mm) (MM_patEnd Mm) (MM_round Mm) (MM_many1 Mm) (MM_broken Mm) (MM_keys Mm) (MM_types Mm) (MM_checked Mm) (MM_faultKind Mm) (MM_faultValue Mm) (MM_latestFault Mm) (MM_anchors Mm) (MM_key Mm) (MM_target Mm) (MM_anchorValue Mm) (MM_anchorSchema Mm) (MM_path Mm) (MM_route Mm) (MM_isSchema Mm) (MM_seen1 Mm) (MM_pathSize Mm) (MM_octetRow Mm) (MM_partRow Mm) (MM_pairValue Mm) (MM_pairKey Mm) (MM_pairs Mm) (MM_judged Mm) (MM_deepest Mm) (MM_depth Mm) (MM_over Mm) (MM_seen Mm)) M0 M1)) C in_MM t_MM t_MM_ok n_MM hP (hDD _ _ _ _) hS 0 mw_0 rfl 0 (by decide) k_7_230 rfl rfl (by decide +kernel) rfl rfl (Nat.le_of_ble_eq_true rfl) rfl d_MM_alike_2 (fun H locs hP hS => ?_)
  refine lv_aload_n hx hb d_MM_alike_5 rfl (lv_at hl 0 rfl) ?_
  refine lv_iload_n hx hb d_MM_alike_6 rfl (lv_at hl 1 rfl) ?_
  refine lv_iconst (v := (0:Int32)) hx hb d_MM_alike_7 (by decide) ?_
  refine lv_aload_n hx hb d_MM_alike_8 rfl (lv_at hl 0 rfl) ?_
  refine o_get (v := .ref (ad 48)) C in_MM hP 0 mw_0 rfl 5 (by decide) k_7_235 rfl rfl d_MM_alike_9 ?_
  refine o_get (v := .int (MT_values M1)) C in_MT hP 48 mw_48 rfl 13 (by decide) k_7_127 rfl rfl d_MM_alike_12 ?_
  refine lv_iconst (v := (1:Int32)) hx hb d_MM_alike_15 (by decide) ?_
  refine lv_isub hx hb d_MM_alike_16 ?_
  obtain ⟨q1, hq1, h⟩ := o_bd_some h
  refine o_S (st1 := [.int q1, .ref (ad 0)]) (w1 := (m_cw ad ca rt (MM_mk (0:Int32) (MM_fed Mm) (MM_wrong Mm) (MM_octets Mm) (MM_nodeKind Mm) (MM_nodeA Mm) (MM_nodeB Mm) (MM_nodeC Mm) (MM_nodeNext Mm) (MM_low Mm) (MM_high Mm) (MM_setFrom Mm) (MM_setTo Mm) (MM_setNot Mm) (MM_op Mm) (MM_opA Mm) (MM_opB Mm) (MM_mark Mm) (MM_now Mm) (MM_then Mm) (MM_todo Mm) (MM_nodes Mm) (MM_sets Mm) (MM_ranges Mm) (MM_steps Mm) (MM_pat Mm) (MM_patEnd Mm) (MM_round Mm) (MM_many1 Mm) (MM_broken Mm) (MM_keys Mm) (MM_types Mm) (MM_checked Mm) (MM_faultKind Mm) (MM_faultValue Mm) (MM_latestFault Mm) (MM_anchors Mm) (MM_key Mm) (MM_target Mm) (MM_anchorValue Mm) (MM_anchorSchema Mm) (MM_path Mm) (MM_route Mm) (MM_isSchema Mm) (MM_seen1 Mm) (MM_pathSize Mm) (MM_octetRow Mm) (MM_partRow Mm) (MM_pairValue Mm) (MM_pairKey Mm) (MM_pairs Mm) (MM_judged Mm) (MM_deepest Mm) (MM_depth Mm) (MM_over Mm) (MM_seen Mm)) M0 M1)) hE.1 C (e_MM_in hE l x1 (0:Int32) ((MT_values M1) - (1:Int32)) (MM_mk (0:Int32) (MM_fed Mm) (MM_wrong Mm) (MM_octets Mm) (MM_nodeKind Mm) (MM_nodeA Mm) (MM_nodeB Mm) (MM_nodeC Mm) (MM_nodeNext Mm) (MM_low Mm) (MM_high Mm) (MM_setFrom Mm) (MM_setTo Mm) (MM_setNot Mm) (MM_op Mm) (MM_opA Mm) (MM_opB Mm) (MM_mark Mm) (MM_now Mm) (MM_then Mm) (MM_todo Mm) (MM_nodes Mm) (MM_sets Mm) (MM_ranges Mm) (MM_steps Mm) (MM_pat Mm) (MM_patEnd Mm) (MM_round Mm) (MM_many1 Mm) (MM_broken Mm) (MM_keys Mm) (MM_types Mm) (MM_checked Mm) (MM_faultKind Mm) (MM_faultValue Mm) (MM_latestFault Mm) (MM_anchors Mm) (MM_key Mm) (MM_target Mm) (MM_anchorValue Mm) (MM_anchorSchema Mm) (MM_path Mm) (MM_route Mm) (MM_isSchema Mm) (MM_seen1 Mm) (MM_pathSize Mm) (MM_octetRow Mm) (MM_partRow Mm) (MM_pairValue Mm) (MM_pairKey Mm) (MM_pairs Mm) (MM_judged Mm) (MM_deepest Mm) (MM_depth Mm) (MM_over Mm) (MM_seen Mm)) M0 M1 rt hq1) hP (hDD _ _ _ _) hS hl.1 k_9_41 k_8_201 k_1_12 k_8_202 hs_MM_in rfl rfl ⟨(Nat.le_of_ble_eq_true rfl), (Nat.le_of_ble_eq_true rfl)⟩ rfl (Nat.le_of_ble_eq_true rfl) ⟨Nat.zero_le _, Nat.zero_le _⟩ rfl d_MM_alike_17 (fun H locs hP hS => ?_)
  refine lv_if_eq (tgt := 40) hx hb d_MM_alike_20 (by decide) (fun c1 => ?_) (fun c1 => ?_)
  · replace h := o_tt c1 h
    refine lv_iconst (v := (1:Int32)) hx hb d_MM_alike_40 (by decide) ?_
    refine lv_goto (tgt := 45) hx hb d_MM_alike_41 (by decide) ?_
    exact f_MM_alike_j45 hE C hDD x1 x2 (1:Int32) M1 (MM_mk (0:Int32) (MM_fed Mm) (MM_wrong Mm) (MM_octets Mm) (MM_nodeKind Mm) (MM_nodeA Mm) (MM_nodeB Mm) (MM_nodeC Mm) (MM_nodeNext Mm) (MM_low Mm) (MM_high Mm) (MM_setFrom Mm) (MM_setTo Mm) (MM_setNot Mm) (MM_op Mm) (MM_opA Mm) (MM_opB Mm) (MM_mark Mm) (MM_now Mm) (MM_then Mm) (MM_todo Mm) (MM_nodes Mm) (MM_sets Mm) (MM_ranges Mm) (MM_steps Mm) (MM_pat Mm) (MM_patEnd Mm) (MM_round Mm) (MM_many1 Mm) (MM_broken Mm) (MM_keys Mm) (MM_types Mm) (MM_checked Mm) (MM_faultKind Mm) (MM_faultValue Mm) (MM_latestFault Mm) (MM_anchors Mm) (MM_key Mm) (MM_target Mm) (MM_anchorValue Mm) (MM_anchorSchema Mm) (MM_path Mm) (MM_route Mm) (MM_isSchema Mm) (MM_seen1 Mm) (MM_pathSize Mm) (MM_octetRow Mm) (MM_partRow Mm) (MM_pairValue Mm) (MM_pairKey Mm) (MM_pairs Mm) (MM_judged Mm) (MM_deepest Mm) (MM_depth Mm) (MM_over Mm) (MM_seen Mm)) M0 rt h _ _ _ hP hS (lv_sub hl [0, 1, 2] rfl)
  · replace h := o_ff c1 h
    refine lv_iload_n hx hb d_MM_alike_23 rfl (lv_at hl 2 rfl) ?_
    refine lv_iconst (v := (0:Int32)) hx hb d_MM_alike_24 (by decide) ?_
    refine lv_aload_n hx hb d_MM_alike_25 rfl (lv_at hl 0 rfl) ?_
    refine o_get (v := .ref (ad 48)) C in_MM hP 0 mw_0 rfl 5 (by decide) k_7_235 rfl rfl d_MM_alike_26 ?_
    refine o_get (v := .int (MT_values M1)) C in_MT hP 48 mw_48 rfl 13 (by decide) k_7_127 rfl rfl d_MM_alike_29 ?_
    refine lv_iconst (v := (1:Int32)) hx hb d_MM_alike_32 (by decide) ?_
    refine lv_isub hx hb d_MM_alike_33 ?_
    obtain ⟨q3, hq3, h⟩ := o_bd_some h
    refine o_S (st1 := [.int q3, .ref (ad 0)]) (w1 := (m_cw ad ca rt (MM_mk (0:Int32) (MM_fed Mm) (MM_wrong Mm) (MM_octets Mm) (MM_nodeKind Mm) (MM_nodeA Mm) (MM_nodeB Mm) (MM_nodeC Mm) (MM_nodeNext Mm) (MM_low Mm) (MM_high Mm) (MM_setFrom Mm) (MM_setTo Mm) (MM_setNot Mm) (MM_op Mm) (MM_opA Mm) (MM_opB Mm) (MM_mark Mm) (MM_now Mm) (MM_then Mm) (MM_todo Mm) (MM_nodes Mm) (MM_sets Mm) (MM_ranges Mm) (MM_steps Mm) (MM_pat Mm) (MM_patEnd Mm) (MM_round Mm) (MM_many1 Mm) (MM_broken Mm) (MM_keys Mm) (MM_types Mm) (MM_checked Mm) (MM_faultKind Mm) (MM_faultValue Mm) (MM_latestFault Mm) (MM_anchors Mm) (MM_key Mm) (MM_target Mm) (MM_anchorValue Mm) (MM_anchorSchema Mm) (MM_path Mm) (MM_route Mm) (MM_isSchema Mm) (MM_seen1 Mm) (MM_pathSize Mm) (MM_octetRow Mm) (MM_partRow Mm) (MM_pairValue Mm) (MM_pairKey Mm) (MM_pairs Mm) (MM_judged Mm) (MM_deepest Mm) (MM_depth Mm) (MM_over Mm) (MM_seen Mm)) M0 M1)) hE.1 C (e_MM_in hE l x2 (0:Int32) ((MT_values M1) - (1:Int32)) (MM_mk (0:Int32) (MM_fed Mm) (MM_wrong Mm) (MM_octets Mm) (MM_nodeKind Mm) (MM_nodeA Mm) (MM_nodeB Mm) (MM_nodeC Mm) (MM_nodeNext Mm) (MM_low Mm) (MM_high Mm) (MM_setFrom Mm) (MM_setTo Mm) (MM_setNot Mm) (MM_op Mm) (MM_opA Mm) (MM_opB Mm) (MM_mark Mm) (MM_now Mm) (MM_then Mm) (MM_todo Mm) (MM_nodes Mm) (MM_sets Mm) (MM_ranges Mm) (MM_steps Mm) (MM_pat Mm) (MM_patEnd Mm) (MM_round Mm) (MM_many1 Mm) (MM_broken Mm) (MM_keys Mm) (MM_types Mm) (MM_checked Mm) (MM_faultKind Mm) (MM_faultValue Mm) (MM_latestFault Mm) (MM_anchors Mm) (MM_key Mm) (MM_target Mm) (MM_anchorValue Mm) (MM_anchorSchema Mm) (MM_path Mm) (MM_route Mm) (MM_isSchema Mm) (MM_seen1 Mm) (MM_pathSize Mm) (MM_octetRow Mm) (MM_partRow Mm) (MM_pairValue Mm) (MM_pairKey Mm) (MM_pairs Mm) (MM_judged Mm) (MM_deepest Mm) (MM_depth Mm) (MM_over Mm) (MM_seen Mm)) M0 M1 rt hq3) hP (hDD _ _ _ _) hS hl.1 k_9_41 k_8_201 k_1_12 k_8_202 hs_MM_in rfl rfl ⟨(Nat.le_of_ble_eq_true rfl), (Nat.le_of_ble_eq_true rfl)⟩ rfl (Nat.le_of_ble_eq_true rfl) ⟨Nat.zero_le _, Nat.zero_le _⟩ rfl d_MM_alike_34 (fun H locs hP hS => ?_)
    refine lv_if_ne (tgt := 44) hx hb d_MM_alike_37 (by decide) (fun c3 => ?_) (fun c3 => ?_)
    · replace h := o_ff c3 h
      refine lv_iconst (v := (0:Int32)) hx hb d_MM_alike_44 (by decide) ?_
      exact f_MM_alike_j45 hE C hDD x1 x2 (0:Int32) M1 (MM_mk (0:Int32) (MM_fed Mm) (MM_wrong Mm) (MM_octets Mm) (MM_nodeKind Mm) (MM_nodeA Mm) (MM_nodeB Mm) (MM_nodeC Mm) (MM_nodeNext Mm) (MM_low Mm) (MM_high Mm) (MM_setFrom Mm) (MM_setTo Mm) (MM_setNot Mm) (MM_op Mm) (MM_opA Mm) (MM_opB Mm) (MM_mark Mm) (MM_now Mm) (MM_then Mm) (MM_todo Mm) (MM_nodes Mm) (MM_sets Mm) (MM_ranges Mm) (MM_steps Mm) (MM_pat Mm) (MM_patEnd Mm) (MM_round Mm) (MM_many1 Mm) (MM_broken Mm) (MM_keys Mm) (MM_types Mm) (MM_checked Mm) (MM_faultKind Mm) (MM_faultValue Mm) (MM_latestFault Mm) (MM_anchors Mm) (MM_key Mm) (MM_target Mm) (MM_anchorValue Mm) (MM_anchorSchema Mm) (MM_path Mm) (MM_route Mm) (MM_isSchema Mm) (MM_seen1 Mm) (MM_pathSize Mm) (MM_octetRow Mm) (MM_partRow Mm) (MM_pairValue Mm) (MM_pairKey Mm) (MM_pairs Mm) (MM_judged Mm) (MM_deepest Mm) (MM_depth Mm) (MM_over Mm) (MM_seen Mm)) M0 rt h _ _ _ hP hS (lv_sub hl [0, 1, 2] rfl)
    · replace h := o_tt c3 h
      refine lv_iconst (v := (1:Int32)) hx hb d_MM_alike_40 (by decide) ?_
      refine lv_goto (tgt := 45) hx hb d_MM_alike_41 (by decide) ?_
      exact f_MM_alike_j45 hE C hDD x1 x2 (1:Int32) M1 (MM_mk (0:Int32) (MM_fed Mm) (MM_wrong Mm) (MM_octets Mm) (MM_nodeKind Mm) (MM_nodeA Mm) (MM_nodeB Mm) (MM_nodeC Mm) (MM_nodeNext Mm) (MM_low Mm) (MM_high Mm) (MM_setFrom Mm) (MM_setTo Mm) (MM_setNot Mm) (MM_op Mm) (MM_opA Mm) (MM_opB Mm) (MM_mark Mm) (MM_now Mm) (MM_then Mm) (MM_todo Mm) (MM_nodes Mm) (MM_sets Mm) (MM_ranges Mm) (MM_steps Mm) (MM_pat Mm) (MM_patEnd Mm) (MM_round Mm) (MM_many1 Mm) (MM_broken Mm) (MM_keys Mm) (MM_types Mm) (MM_checked Mm) (MM_faultKind Mm) (MM_faultValue Mm) (MM_latestFault Mm) (MM_anchors Mm) (MM_key Mm) (MM_target Mm) (MM_anchorValue Mm) (MM_anchorSchema Mm) (MM_path Mm) (MM_route Mm) (MM_isSchema Mm) (MM_seen1 Mm) (MM_pathSize Mm) (MM_octetRow Mm) (MM_partRow Mm) (MM_pairValue Mm) (MM_pairKey Mm) (MM_pairs Mm) (MM_judged Mm) (MM_deepest Mm) (MM_depth Mm) (MM_over Mm) (MM_seen Mm)) M0 rt h _ _ _ hP hS (lv_sub hl [0, 1, 2] rfl)
set_option maxHeartbeats 4000000 in
set_option maxRecDepth 100000 in
theorem f_MM_matches_1_j96 {E : (Nat → Prop) → State → Heap → Prop} {p : Program} {l : Launch} {e : Env} {s : State} {m : MethodId} {args : Array Value} {below : List Frame} {meth : Method} {c : Code} {D : va_G} {ad kd sd vd xd : Nat → Nat} {ca : Nat → ClassId} {A : Nat → Prop} (hE : o_EK E kd sd vd xd) (C : o_Cx E p s m args meth c D m_cls (m_tys ca) "SchemaJudgeModel" b_MM_matches_1 (some .boolean) 3 cc_MM_matches_1 A) (hDD : ∀ (rt : Value) (Mm : SMM) (M0 : SMT) (M1 : SMT), va_D A (m_cw ad ca rt Mm M0 M1)) (x1 : Int32) (y1 : Int32) (M1 : SMT) (Mm : SMM) (M0 : SMT) (rt : Value) {r : Int32 × SMM} (h : m_MM_matches_1_j96 x1 y1 M1 Mm = some r) : o_At p l e rm_MM_matches_1 s m args below meth c (MQ below (o_Qx D m_cls (some (.int r.1)) (m_cw ad ca rt r.2 M0 M1) A) args s 0 0 A) m_cls D A 3 96 [.int y1, .ref (ad 0)] (m_cw ad ca rt Mm M0 M1) [(0, .ref (ad 0)), (1, .int x1)] := by
  unfold m_MM_matches_1_j96 at h
  intro H locs ls hP hS hl
  have C0 := C
  obtain ⟨hx, hb, -, -, -, hown, hts, hK, -, -⟩ := C0
  refine lv_iconst (v := (2:Int32)) hx hb d_MM_matches_1_96 (by decide) ?_
  obtain ⟨q3, hq3, h⟩ := o_bd_some h
  refine o_V (st1 := [.int q3.1]) (w1 := (m_cw ad ca rt q3.2 M0 M1)) hE.1 C (e_MM_fails hE l y1 (2:Int32) Mm M0 M1 rt hq3) hP (hDD _ _ _ _) hS hl.1 rfl mw_0 k_8_176 k_8_178 k_s_81 k_1_12 k_8_179 hv_MM_fails rfl rfl ⟨(Nat.le_of_ble_eq_true rfl), (Nat.le_of_ble_eq_true rfl)⟩ rfl (Nat.le_of_ble_eq_true rfl) ⟨Nat.zero_le _, Nat.zero_le _⟩ rfl d_MM_matches_1_97 (fun H locs hP hS => ?_)
  refine lv_if_eq (tgt := 105) hx hb d_MM_matches_1_100 (by decide) (fun c5 => ?_) (fun c5 => ?_)
  · replace h := o_tt c5 h
    refine lv_aload_n hx hb d_MM_matches_1_105 rfl (lv_at hl 0 rfl) ?_
    refine lv_aload_n hx hb d_MM_matches_1_106 rfl (lv_at hl 0 rfl) ?_
    refine o_get (v := .ref (ad 48)) C in_MM hP 0 mw_0 rfl 5 (by decide) k_7_235 rfl rfl d_MM_matches_1_107 ?_
    refine lv_iload_n hx hb d_MM_matches_1_110 rfl (lv_at hl 1 rfl) ?_
    cases h
  · replace h := o_ff c5 h
    refine lv_iconst (v := (0:Int32)) hx hb d_MM_matches_1_103 (by decide) ?_
    cases h
    exact o_rz (v := (0:Int32)) C o_nar0 hP hS d_MM_matches_1_104
set_option maxHeartbeats 4000000 in
set_option maxRecDepth 100000 in
theorem f_MM_matches_1_j45 {E : (Nat → Prop) → State → Heap → Prop} {p : Program} {l : Launch} {e : Env} {s : State} {m : MethodId} {args : Array Value} {below : List Frame} {meth : Method} {c : Code} {D : va_G} {ad kd sd vd xd : Nat → Nat} {ca : Nat → ClassId} {A : Nat → Prop} (hE : o_EK E kd sd vd xd) (C : o_Cx E p s m args meth c D m_cls (m_tys ca) "SchemaJudgeModel" b_MM_matches_1 (some .boolean) 3 cc_MM_matches_1 A) (hDD : ∀ (rt : Value) (Mm : SMM) (M0 : SMT) (M1 : SMT), va_D A (m_cw ad ca rt Mm M0 M1)) (x1 : Int32) (x2 : Int32) (y1 : Int32) (M1 : SMT) (Mm : SMM) (M0 : SMT) (rt : Value) {r : Int32 × SMM} (h : m_MM_matches_1_j45 x1 x2 y1 M1 Mm = some r) : o_At p l e rm_MM_matches_1 s m args below meth c (MQ below (o_Qx D m_cls (some (.int r.1)) (m_cw ad ca rt r.2 M0 M1) A) args s 0 0 A) m_cls D A 3 45 [.int y1, .ref (ad 0)] (m_cw ad ca rt Mm M0 M1) [(0, .ref (ad 0)), (1, .int x1), (2, .int x2)] := by
  unfold m_MM_matches_1_j45 at h
  intro H locs ls hP hS hl
  have C0 := C
  obtain ⟨hx, hb, -, -, -, hown, hts, hK, -, -⟩ := C0
  refine lv_iconst (v := (1:Int32)) hx hb d_MM_matches_1_45 (by decide) ?_
  obtain ⟨q2, hq2, h⟩ := o_bd_some h
  refine o_V (st1 := [.int q2.1]) (w1 := (m_cw ad ca rt q2.2 M0 M1)) hE.1 C (e_MM_fails hE l y1 (1:Int32) Mm M0 M1 rt hq2) hP (hDD _ _ _ _) hS hl.1 rfl mw_0 k_8_176 k_8_178 k_s_81 k_1_12 k_8_179 hv_MM_fails rfl rfl ⟨(Nat.le_of_ble_eq_true rfl), (Nat.le_of_ble_eq_true rfl)⟩ rfl (Nat.le_of_ble_eq_true rfl) ⟨Nat.zero_le _, Nat.zero_le _⟩ rfl d_MM_matches_1_46 (fun H locs hP hS => ?_)
  refine lv_if_ne (tgt := 103) hx hb d_MM_matches_1_49 (by decide) (fun c2 => ?_) (fun c2 => ?_)
  · replace h := o_ff c2 h
    refine lv_iconst (v := (0:Int32)) hx hb d_MM_matches_1_103 (by decide) ?_
    cases h
    exact o_rz (v := (0:Int32)) C o_nar0 hP hS d_MM_matches_1_104
  · replace h := o_tt c2 h
    refine lv_aload_n hx hb d_MM_matches_1_52 rfl (lv_at hl 0 rfl) ?_
    refine lv_aload_n hx hb d_MM_matches_1_53 rfl (lv_at hl 0 rfl) ?_
    refine o_get (v := .ref (ad 48)) C in_MM hP 0 mw_0 rfl 5 (by decide) k_7_235 rfl rfl d_MM_matches_1_54 ?_
    refine o_get (v := .ref (ad 50)) C in_MT hP 48 mw_48 rfl 1 (by decide) k_7_103 rfl rfl d_MM_matches_1_57 ?_
    refine lv_iload_n hx hb d_MM_matches_1_60 rfl (lv_at hl 1 rfl) ?_
    obtain ⟨g3, h⟩ := o_gd_some h
    refine o_iald (f := (MT_kind M1)) C hP 50 47 mw_50 rfl g3 d_MM_matches_1_61 ?_
    refine lv_iconst (v := (4:Int32)) hx hb d_MM_matches_1_62 (by decide) ?_
    refine lv_icmp_ne (tgt := 91) hx hb d_MM_matches_1_63 (by decide) (fun c4 => ?_) (fun c4 => ?_)
    · replace h := o_ff c4 h
      refine lv_iconst (v := (1:Int32)) hx hb d_MM_matches_1_91 (by decide) ?_
      refine lv_goto (tgt := 96) hx hb d_MM_matches_1_92 (by decide) ?_
      exact f_MM_matches_1_j96 hE C hDD x1 (1:Int32) M1 q2.2 M0 rt h _ _ _ hP hS (lv_sub hl [0, 1] rfl)
    · replace h := o_tt c4 h
      refine lv_aload_n hx hb d_MM_matches_1_66 rfl (lv_at hl 0 rfl) ?_
      refine o_get (v := .ref (ad 48)) C in_MM hP 0 mw_0 rfl 5 (by decide) k_7_235 rfl rfl d_MM_matches_1_67 ?_
      refine o_get (v := .ref (ad 50)) C in_MT hP 48 mw_48 rfl 1 (by decide) k_7_103 rfl rfl d_MM_matches_1_70 ?_
      refine lv_iload_n hx hb d_MM_matches_1_73 rfl (lv_at hl 2 rfl) ?_
      obtain ⟨g6, h⟩ := o_gd_some h
      refine o_iald (f := (MT_kind M1)) C hP 50 47 mw_50 rfl g6 d_MM_matches_1_74 ?_
      refine lv_iconst (v := (4:Int32)) hx hb d_MM_matches_1_75 (by decide) ?_
      refine lv_icmp_ne (tgt := 91) hx hb d_MM_matches_1_76 (by decide) (fun c7 => ?_) (fun c7 => ?_)
      · replace h := o_ff c7 h
        refine lv_iconst (v := (1:Int32)) hx hb d_MM_matches_1_91 (by decide) ?_
        refine lv_goto (tgt := 96) hx hb d_MM_matches_1_92 (by decide) ?_
        exact f_MM_matches_1_j96 hE C hDD x1 (1:Int32) M1 q2.2 M0 rt h _ _ _ hP hS (lv_sub hl [0, 1] rfl)
      · replace h := o_tt c7 h
        refine lv_aload_n hx hb d_MM_matches_1_79 rfl (lv_at hl 0 rfl) ?_
        refine lv_aload_n hx hb d_MM_matches_1_80 rfl (lv_at hl 0 rfl) ?_
        refine o_get (v := .ref (ad 48)) C in_MM hP 0 mw_0 rfl 5 (by decide) k_7_235 rfl rfl d_MM_matches_1_81 ?_
        refine lv_iload_n hx hb d_MM_matches_1_84 rfl (lv_at hl 2 rfl) ?_
        cases h
set_option maxHeartbeats 4000000 in
set_option maxRecDepth 100000 in
theorem e_MM_matches_1 {E : (Nat → Prop) → State → Heap → Prop} {D : va_G} {ad kd sd vd xd : Nat → Nat} {ca : Nat → ClassId} (hE : o_EK E kd sd vd xd) (l : Launch) (x1 : Int32) (x2 : Int32) (M1 : SMT) (Mm : SMM) (M0 : SMT) (rt : Value) {r : Int32 × SMM} (h : m_MM_matches_1 x1 x2 M1 Mm = some r) : o_Cn E l D m_cls (m_tys ca) y_MM_matches_1 cc_MM_matches_1 rm_MM_matches_1 [.ref (ad 0), .int x1, .int x2] (m_cw ad ca rt Mm M0 M1) (m_cw ad ca rt r.2 M0 M1) (some (.int r.1)) := by
  refine o_Cn_of (by decide) (Nat.le_of_ble_eq_true rfl) ?_
  intro p e s m below meth c A ls C hD hP hS hl
  have hDD : ∀ (rt : Value) (Mm : SMM) (M0 : SMT) (M1 : SMT), va_D A (m_cw ad ca rt Mm M0 M1) := fun _ _ _ _ => o_D_map hD rfl
  have hl : lv_has ls 3 [(0, .ref (ad 0)), (1, .int x1), (2, .int x2)] := hl
  unfold m_MM_matches_1 at h
  have C0 := C
  obtain ⟨hx, hb, -, -, -, hown, hts, hK, -, -⟩ := C0
  refine lv_aload_n hx hb d_MM_matches_1_0 rfl (lv_at hl 0 rfl) ?_
  refine lv_iconst (v := (0:Int32)) hx hb d_MM_matches_1_1 (by decide) ?_
  refine o_put (v := .int (0:Int32)) (ty := .int) (w1 := (m_cw ad ca rt (MM_mk (0:Int32) (MM_fed Mm) (MM_wrong Mm) (MM_octets Mm) (MM_nodeKind Mm) (MM_nodeA Mm) (MM_nodeB Mm) (MM_nodeC Mm) (MM_nodeNext Mm) (MM_low Mm) (MM_high Mm) (MM_setFrom Mm) (MM_setTo Mm) (MM_setNot Mm) (MM_op Mm) (MM_opA Mm) (MM_opB Mm) (MM_mark Mm) (MM_now Mm) (MM_then Mm) (MM_todo Mm) (MM_nodes Mm) (MM_sets Mm) (MM_ranges Mm) (MM_steps Mm) (MM_pat Mm) (MM_patEnd Mm) (MM_round Mm) (MM_many1 Mm) (MM_broken Mm) (MM_keys Mm) (MM_types Mm) (MM_checked Mm) (MM_faultKind Mm) (MM_faultValue Mm) (MM_latestFault Mm) (MM_anchors Mm) (MM_key Mm) (MM_target Mm) (MM_anchorValue Mm) (MM_anchorSchema Mm) (MM_path Mm) (MM_route Mm) (MM_isSchema Mm) (MM_seen1 Mm) (MM_pathSize Mm) (MM_octetRow Mm) (MM_partRow Mm) (MM_pairValue Mm) (MM_pairKey Mm) (MM_pairs Mm) (MM_judged Mm) (MM_deepest Mm) (MM_depth Mm) (MM_over Mm) (MM_seen Mm)) M0 M1)) C in_MM t_MM t_MM_ok n_MM hP (hDD _ _ _ _) hS 0 mw_0 rfl 0 (by decide) k_7_230 rfl rfl (by decide +kernel) rfl rfl (Nat.le_of_ble_eq_true rfl) rfl d_MM_matches_1_2 (fun H locs hP hS => ?_)
  refine lv_aload_n hx hb d_MM_matches_1_5 rfl (lv_at hl 0 rfl) ?_
  refine lv_iload_n hx hb d_MM_matches_1_6 rfl (lv_at hl 1 rfl) ?_
  refine lv_iconst (v := (0:Int32)) hx hb d_MM_matches_1_7 (by decide) ?_
  refine lv_aload_n hx hb d_MM_matches_1_8 rfl (lv_at hl 0 rfl) ?_
  refine o_get (v := .ref (ad 48)) C in_MM hP 0 mw_0 rfl 5 (by decide) k_7_235 rfl rfl d_MM_matches_1_9 ?_
  refine o_get (v := .int (MT_values M1)) C in_MT hP 48 mw_48 rfl 13 (by decide) k_7_127 rfl rfl d_MM_matches_1_12 ?_
  refine lv_iconst (v := (1:Int32)) hx hb d_MM_matches_1_15 (by decide) ?_
  refine lv_isub hx hb d_MM_matches_1_16 ?_
  obtain ⟨q1, hq1, h⟩ := o_bd_some h
  refine o_S (st1 := [.int q1, .ref (ad 0)]) (w1 := (m_cw ad ca rt (MM_mk (0:Int32) (MM_fed Mm) (MM_wrong Mm) (MM_octets Mm) (MM_nodeKind Mm) (MM_nodeA Mm) (MM_nodeB Mm) (MM_nodeC Mm) (MM_nodeNext Mm) (MM_low Mm) (MM_high Mm) (MM_setFrom Mm) (MM_setTo Mm) (MM_setNot Mm) (MM_op Mm) (MM_opA Mm) (MM_opB Mm) (MM_mark Mm) (MM_now Mm) (MM_then Mm) (MM_todo Mm) (MM_nodes Mm) (MM_sets Mm) (MM_ranges Mm) (MM_steps Mm) (MM_pat Mm) (MM_patEnd Mm) (MM_round Mm) (MM_many1 Mm) (MM_broken Mm) (MM_keys Mm) (MM_types Mm) (MM_checked Mm) (MM_faultKind Mm) (MM_faultValue Mm) (MM_latestFault Mm) (MM_anchors Mm) (MM_key Mm) (MM_target Mm) (MM_anchorValue Mm) (MM_anchorSchema Mm) (MM_path Mm) (MM_route Mm) (MM_isSchema Mm) (MM_seen1 Mm) (MM_pathSize Mm) (MM_octetRow Mm) (MM_partRow Mm) (MM_pairValue Mm) (MM_pairKey Mm) (MM_pairs Mm) (MM_judged Mm) (MM_deepest Mm) (MM_depth Mm) (MM_over Mm) (MM_seen Mm)) M0 M1)) hE.1 C (e_MM_in hE l x1 (0:Int32) ((MT_values M1) - (1:Int32)) (MM_mk (0:Int32) (MM_fed Mm) (MM_wrong Mm) (MM_octets Mm) (MM_nodeKind Mm) (MM_nodeA Mm) (MM_nodeB Mm) (MM_nodeC Mm) (MM_nodeNext Mm) (MM_low Mm) (MM_high Mm) (MM_setFrom Mm) (MM_setTo Mm) (MM_setNot Mm) (MM_op Mm) (MM_opA Mm) (MM_opB Mm) (MM_mark Mm) (MM_now Mm) (MM_then Mm) (MM_todo Mm) (MM_nodes Mm) (MM_sets Mm) (MM_ranges Mm) (MM_steps Mm) (MM_pat Mm) (MM_patEnd Mm) (MM_round Mm) (MM_many1 Mm) (MM_broken Mm) (MM_keys Mm) (MM_types Mm) (MM_checked Mm) (MM_faultKind Mm) (MM_faultValue Mm) (MM_latestFault Mm) (MM_anchors Mm) (MM_key Mm) (MM_target Mm) (MM_anchorValue Mm) (MM_anchorSchema Mm) (MM_path Mm) (MM_route Mm) (MM_isSchema Mm) (MM_seen1 Mm) (MM_pathSize Mm) (MM_octetRow Mm) (MM_partRow Mm) (MM_pairValue Mm) (MM_pairKey Mm) (MM_pairs Mm) (MM_judged Mm) (MM_deepest Mm) (MM_depth Mm) (MM_over Mm) (MM_seen Mm)) M0 M1 rt hq1) hP (hDD _ _ _ _) hS hl.1 k_9_41 k_8_201 k_1_12 k_8_202 hs_MM_in rfl rfl ⟨(Nat.le_of_ble_eq_true rfl), (Nat.le_of_ble_eq_true rfl)⟩ rfl (Nat.le_of_ble_eq_true rfl) ⟨Nat.zero_le _, Nat.zero_le _⟩ rfl d_MM_matches_1_17 (fun H locs hP hS => ?_)
  refine lv_if_eq (tgt := 40) hx hb d_MM_matches_1_20 (by decide) (fun c1 => ?_) (fun c1 => ?_)
  · replace h := o_tt c1 h
    refine lv_iconst (v := (1:Int32)) hx hb d_MM_matches_1_40 (by decide) ?_
    refine lv_goto (tgt := 45) hx hb d_MM_matches_1_41 (by decide) ?_
    exact f_MM_matches_1_j45 hE C hDD x1 x2 (1:Int32) M1 (MM_mk (0:Int32) (MM_fed Mm) (MM_wrong Mm) (MM_octets Mm) (MM_nodeKind Mm) (MM_nodeA Mm) (MM_nodeB Mm) (MM_nodeC Mm) (MM_nodeNext Mm) (MM_low Mm) (MM_high Mm) (MM_setFrom Mm) (MM_setTo Mm) (MM_setNot Mm) (MM_op Mm) (MM_opA Mm) (MM_opB Mm) (MM_mark Mm) (MM_now Mm) (MM_then Mm) (MM_todo Mm) (MM_nodes Mm) (MM_sets Mm) (MM_ranges Mm) (MM_steps Mm) (MM_pat Mm) (MM_patEnd Mm) (MM_round Mm) (MM_many1 Mm) (MM_broken Mm) (MM_keys Mm) (MM_types Mm) (MM_checked Mm) (MM_faultKind Mm) (MM_faultValue Mm) (MM_latestFault Mm) (MM_anchors Mm) (MM_key Mm) (MM_target Mm) (MM_anchorValue Mm) (MM_anchorSchema Mm) (MM_path Mm) (MM_route Mm) (MM_isSchema Mm) (MM_seen1 Mm) (MM_pathSize Mm) (MM_octetRow Mm) (MM_partRow Mm) (MM_pairValue Mm) (MM_pairKey Mm) (MM_pairs Mm) (MM_judged Mm) (MM_deepest Mm) (MM_depth Mm) (MM_over Mm) (MM_seen Mm)) M0 rt h _ _ _ hP hS (lv_sub hl [0, 1, 2] rfl)
  · replace h := o_ff c1 h
    refine lv_iload_n hx hb d_MM_matches_1_23 rfl (lv_at hl 2 rfl) ?_
    refine lv_iconst (v := (0:Int32)) hx hb d_MM_matches_1_24 (by decide) ?_
    refine lv_aload_n hx hb d_MM_matches_1_25 rfl (lv_at hl 0 rfl) ?_
    refine o_get (v := .ref (ad 48)) C in_MM hP 0 mw_0 rfl 5 (by decide) k_7_235 rfl rfl d_MM_matches_1_26 ?_
    refine o_get (v := .int (MT_values M1)) C in_MT hP 48 mw_48 rfl 13 (by decide) k_7_127 rfl rfl d_MM_matches_1_29 ?_
    refine lv_iconst (v := (1:Int32)) hx hb d_MM_matches_1_32 (by decide) ?_
    refine lv_isub hx hb d_MM_matches_1_33 ?_
    obtain ⟨q4, hq4, h⟩ := o_bd_some h
    refine o_S (st1 := [.int q4, .ref (ad 0)]) (w1 := (m_cw ad ca rt (MM_mk (0:Int32) (MM_fed Mm) (MM_wrong Mm) (MM_octets Mm) (MM_nodeKind Mm) (MM_nodeA Mm) (MM_nodeB Mm) (MM_nodeC Mm) (MM_nodeNext Mm) (MM_low Mm) (MM_high Mm) (MM_setFrom Mm) (MM_setTo Mm) (MM_setNot Mm) (MM_op Mm) (MM_opA Mm) (MM_opB Mm) (MM_mark Mm) (MM_now Mm) (MM_then Mm) (MM_todo Mm) (MM_nodes Mm) (MM_sets Mm) (MM_ranges Mm) (MM_steps Mm) (MM_pat Mm) (MM_patEnd Mm) (MM_round Mm) (MM_many1 Mm) (MM_broken Mm) (MM_keys Mm) (MM_types Mm) (MM_checked Mm) (MM_faultKind Mm) (MM_faultValue Mm) (MM_latestFault Mm) (MM_anchors Mm) (MM_key Mm) (MM_target Mm) (MM_anchorValue Mm) (MM_anchorSchema Mm) (MM_path Mm) (MM_route Mm) (MM_isSchema Mm) (MM_seen1 Mm) (MM_pathSize Mm) (MM_octetRow Mm) (MM_partRow Mm) (MM_pairValue Mm) (MM_pairKey Mm) (MM_pairs Mm) (MM_judged Mm) (MM_deepest Mm) (MM_depth Mm) (MM_over Mm) (MM_seen Mm)) M0 M1)) hE.1 C (e_MM_in hE l x2 (0:Int32) ((MT_values M1) - (1:Int32)) (MM_mk (0:Int32) (MM_fed Mm) (MM_wrong Mm) (MM_octets Mm) (MM_nodeKind Mm) (MM_nodeA Mm) (MM_nodeB Mm) (MM_nodeC Mm) (MM_nodeNext Mm) (MM_low Mm) (MM_high Mm) (MM_setFrom Mm) (MM_setTo Mm) (MM_setNot Mm) (MM_op Mm) (MM_opA Mm) (MM_opB Mm) (MM_mark Mm) (MM_now Mm) (MM_then Mm) (MM_todo Mm) (MM_nodes Mm) (MM_sets Mm) (MM_ranges Mm) (MM_steps Mm) (MM_pat Mm) (MM_patEnd Mm) (MM_round Mm) (MM_many1 Mm) (MM_broken Mm) (MM_keys Mm) (MM_types Mm) (MM_checked Mm) (MM_faultKind Mm) (MM_faultValue Mm) (MM_latestFault Mm) (MM_anchors Mm) (MM_key Mm) (MM_target Mm) (MM_anchorValue Mm) (MM_anchorSchema Mm) (MM_path Mm) (MM_route Mm) (MM_isSchema Mm) (MM_seen1 Mm) (MM_pathSize Mm) (MM_octetRow Mm) (MM_partRow Mm) (MM_pairValue Mm) (MM_pairKey Mm) (MM_pairs Mm) (MM_judged Mm) (MM_deepest Mm) (MM_depth Mm) (MM_over Mm) (MM_seen Mm)) M0 M1 rt hq4) hP (hDD _ _ _ _) hS hl.1 k_9_41 k_8_201 k_1_12 k_8_202 hs_MM_in rfl rfl ⟨(Nat.le_of_ble_eq_true rfl), (Nat.le_of_ble_eq_true rfl)⟩ rfl (Nat.le_of_ble_eq_true rfl) ⟨Nat.zero_le _, Nat.zero_le _⟩ rfl d_MM_matches_1_34 (fun H locs hP hS => ?_)
    refine lv_if_ne (tgt := 44) hx hb d_MM_matches_1_37 (by decide) (fun c8 => ?_) (fun c8 => ?_)
    · replace h := o_ff c8 h
      refine lv_iconst (v := (0:Int32)) hx hb d_MM_matches_1_44 (by decide) ?_
      exact f_MM_matches_1_j45 hE C hDD x1 x2 (0:Int32) M1 (MM_mk (0:Int32) (MM_fed Mm) (MM_wrong Mm) (MM_octets Mm) (MM_nodeKind Mm) (MM_nodeA Mm) (MM_nodeB Mm) (MM_nodeC Mm) (MM_nodeNext Mm) (MM_low Mm) (MM_high Mm) (MM_setFrom Mm) (MM_setTo Mm) (MM_setNot Mm) (MM_op Mm) (MM_opA Mm) (MM_opB Mm) (MM_mark Mm) (MM_now Mm) (MM_then Mm) (MM_todo Mm) (MM_nodes Mm) (MM_sets Mm) (MM_ranges Mm) (MM_steps Mm) (MM_pat Mm) (MM_patEnd Mm) (MM_round Mm) (MM_many1 Mm) (MM_broken Mm) (MM_keys Mm) (MM_types Mm) (MM_checked Mm) (MM_faultKind Mm) (MM_faultValue Mm) (MM_latestFault Mm) (MM_anchors Mm) (MM_key Mm) (MM_target Mm) (MM_anchorValue Mm) (MM_anchorSchema Mm) (MM_path Mm) (MM_route Mm) (MM_isSchema Mm) (MM_seen1 Mm) (MM_pathSize Mm) (MM_octetRow Mm) (MM_partRow Mm) (MM_pairValue Mm) (MM_pairKey Mm) (MM_pairs Mm) (MM_judged Mm) (MM_deepest Mm) (MM_depth Mm) (MM_over Mm) (MM_seen Mm)) M0 rt h _ _ _ hP hS (lv_sub hl [0, 1, 2] rfl)
    · replace h := o_tt c8 h
      refine lv_iconst (v := (1:Int32)) hx hb d_MM_matches_1_40 (by decide) ?_
      refine lv_goto (tgt := 45) hx hb d_MM_matches_1_41 (by decide) ?_
      exact f_MM_matches_1_j45 hE C hDD x1 x2 (1:Int32) M1 (MM_mk (0:Int32) (MM_fed Mm) (MM_wrong Mm) (MM_octets Mm) (MM_nodeKind Mm) (MM_nodeA Mm) (MM_nodeB Mm) (MM_nodeC Mm) (MM_nodeNext Mm) (MM_low Mm) (MM_high Mm) (MM_setFrom Mm) (MM_setTo Mm) (MM_setNot Mm) (MM_op Mm) (MM_opA Mm) (MM_opB Mm) (MM_mark Mm) (MM_now Mm) (MM_then Mm) (MM_todo Mm) (MM_nodes Mm) (MM_sets Mm) (MM_ranges Mm) (MM_steps Mm) (MM_pat Mm) (MM_patEnd Mm) (MM_round Mm) (MM_many1 Mm) (MM_broken Mm) (MM_keys Mm) (MM_types Mm) (MM_checked Mm) (MM_faultKind Mm) (MM_faultValue Mm) (MM_latestFault Mm) (MM_anchors Mm) (MM_key Mm) (MM_target Mm) (MM_anchorValue Mm) (MM_anchorSchema Mm) (MM_path Mm) (MM_route Mm) (MM_isSchema Mm) (MM_seen1 Mm) (MM_pathSize Mm) (MM_octetRow Mm) (MM_partRow Mm) (MM_pairValue Mm) (MM_pairKey Mm) (MM_pairs Mm) (MM_judged Mm) (MM_deepest Mm) (MM_depth Mm) (MM_over Mm) (MM_seen Mm)) M0 rt h _ _ _ hP hS (lv_sub hl [0, 1, 2] rfl)
set_option maxHeartbeats 4000000 in
set_option maxRecDepth 100000 in
theorem f_MM_count_j20 {E : (Nat → Prop) → State → Heap → Prop} {p : Program} {l : Launch} {e : Env} {s : State} {m : MethodId} {args : Array Value} {below : List Frame} {meth : Method} {c : Code} {D : va_G} {ad kd sd vd xd : Nat → Nat} {ca : Nat → ClassId} {A : Nat → Prop} (hE : o_EK E kd sd vd xd) (C : o_Cx E p s m args meth c D m_cls (m_tys ca) "SchemaJudgeModel" b_MM_count (some .int) 2 cc_MM_count A) (hDD : ∀ (rt : Value) (Mm : SMM) (M0 : SMT) (M1 : SMT), va_D A (m_cw ad ca rt Mm M0 M1)) (x1 : Int32) (y1 : Int32) (M0 : SMT) (M1 : SMT) (Mm : SMM) (rt : Value) {r : Int32 × SMM} (h : m_MM_count_j20 x1 y1 M0 M1 Mm = some r) : o_At p l e rm_MM_count s m args below meth c (MQ below (o_Qx D m_cls (some (.int r.1)) (m_cw ad ca rt r.2 M0 M1) A) args s 0 0 A) m_cls D A 2 20 [.int y1, .ref (ad 0)] (m_cw ad ca rt Mm M0 M1) [(0, .ref (ad 0)), (1, .int x1)] := by
  unfold m_MM_count_j20 at h
  intro H locs ls hP hS hl
  have C0 := C
  obtain ⟨hx, hb, -, -, -, hown, hts, hK, -, -⟩ := C0
  refine lv_iconst (v := (1:Int32)) hx hb d_MM_count_20 (by decide) ?_
  obtain ⟨q2, hq2, h⟩ := o_bd_some h
  refine o_V (st1 := [.int q2.1]) (w1 := (m_cw ad ca rt q2.2 M0 M1)) hE.1 C (e_MM_fails hE l y1 (1:Int32) Mm M0 M1 rt hq2) hP (hDD _ _ _ _) hS hl.1 rfl mw_0 k_8_176 k_8_178 k_s_81 k_1_12 k_8_179 hv_MM_fails rfl rfl ⟨(Nat.le_of_ble_eq_true rfl), (Nat.le_of_ble_eq_true rfl)⟩ rfl (Nat.le_of_ble_eq_true rfl) ⟨Nat.zero_le _, Nat.zero_le _⟩ rfl d_MM_count_21 (fun H locs hP hS => ?_)
  refine lv_if_eq (tgt := 29) hx hb d_MM_count_24 (by decide) (fun c2 => ?_) (fun c2 => ?_)
  · replace h := o_tt c2 h
    refine lv_iload_n hx hb d_MM_count_29 rfl (lv_at hl 1 rfl) ?_
    refine lv_if_ne (tgt := 43) hx hb d_MM_count_30 (by decide) (fun c3 => ?_) (fun c3 => ?_)
    · replace h := o_ff c3 h
      refine lv_iload_n hx hb d_MM_count_43 rfl (lv_at hl 1 rfl) ?_
      refine lv_iconst (v := (1:Int32)) hx hb d_MM_count_44 (by decide) ?_
      refine lv_icmp_ne (tgt := 58) hx hb d_MM_count_45 (by decide) (fun c4 => ?_) (fun c4 => ?_)
      · replace h := o_ff c4 h
        refine lv_iload_n hx hb d_MM_count_58 rfl (lv_at hl 1 rfl) ?_
        refine lv_iconst (v := (2:Int32)) hx hb d_MM_count_59 (by decide) ?_
        refine lv_icmp_ne (tgt := 70) hx hb d_MM_count_60 (by decide) (fun c5 => ?_) (fun c5 => ?_)
        · replace h := o_ff c5 h
          refine lv_aload_n hx hb d_MM_count_70 rfl (lv_at hl 0 rfl) ?_
          refine o_get (v := .int (MM_deepest q2.2)) C in_MM hP 0 mw_0 rfl 55 (by decide) k_8_45 rfl rfl d_MM_count_71 ?_
          cases h
          exact o_ri (v := (MM_deepest q2.2)) C hP hS d_MM_count_74
        · replace h := o_tt c5 h
          refine lv_aload_n hx hb d_MM_count_63 rfl (lv_at hl 0 rfl) ?_
          refine o_get (v := .int (MM_judged q2.2)) C in_MM hP 0 mw_0 rfl 54 (by decide) k_8_44 rfl rfl d_MM_count_64 ?_
          refine lv_goto (tgt := 74) hx hb d_MM_count_67 (by decide) ?_
          cases h
          exact o_ri (v := (MM_judged q2.2)) C hP hS d_MM_count_74
      · replace h := o_tt c4 h
        refine lv_aload_n hx hb d_MM_count_48 rfl (lv_at hl 0 rfl) ?_
        refine o_get (v := .ref (ad 48)) C in_MM hP 0 mw_0 rfl 5 (by decide) k_7_235 rfl rfl d_MM_count_49 ?_
        refine o_get (v := .int (MT_values M1)) C in_MT hP 48 mw_48 rfl 13 (by decide) k_7_127 rfl rfl d_MM_count_52 ?_
        refine lv_goto (tgt := 74) hx hb d_MM_count_55 (by decide) ?_
        cases h
        exact o_ri (v := (MT_values M1)) C hP hS d_MM_count_74
    · replace h := o_tt c3 h
      refine lv_aload_n hx hb d_MM_count_33 rfl (lv_at hl 0 rfl) ?_
      refine o_get (v := .ref (ad 33)) C in_MM hP 0 mw_0 rfl 4 (by decide) k_7_234 rfl rfl d_MM_count_34 ?_
      refine o_get (v := .int (MT_values M0)) C in_MT hP 33 mw_33 rfl 13 (by decide) k_7_127 rfl rfl d_MM_count_37 ?_
      refine lv_goto (tgt := 74) hx hb d_MM_count_40 (by decide) ?_
      cases h
      exact o_ri (v := (MT_values M0)) C hP hS d_MM_count_74
  · replace h := o_ff c2 h
    refine lv_iconst (v := (0:Int32)) hx hb d_MM_count_27 (by decide) ?_
    cases h
    exact o_ri (v := (0:Int32)) C hP hS d_MM_count_28
set_option maxHeartbeats 4000000 in
set_option maxRecDepth 100000 in
theorem e_MM_count {E : (Nat → Prop) → State → Heap → Prop} {D : va_G} {ad kd sd vd xd : Nat → Nat} {ca : Nat → ClassId} (hE : o_EK E kd sd vd xd) (l : Launch) (x1 : Int32) (M0 : SMT) (M1 : SMT) (Mm : SMM) (rt : Value) {r : Int32 × SMM} (h : m_MM_count x1 M0 M1 Mm = some r) : o_Cn E l D m_cls (m_tys ca) y_MM_count cc_MM_count rm_MM_count [.ref (ad 0), .int x1] (m_cw ad ca rt Mm M0 M1) (m_cw ad ca rt r.2 M0 M1) (some (.int r.1)) := by
  refine o_Cn_of (by decide) (Nat.le_of_ble_eq_true rfl) ?_
  intro p e s m below meth c A ls C hD hP hS hl
  have hDD : ∀ (rt : Value) (Mm : SMM) (M0 : SMT) (M1 : SMT), va_D A (m_cw ad ca rt Mm M0 M1) := fun _ _ _ _ => o_D_map hD rfl
  have hl : lv_has ls 2 [(0, .ref (ad 0)), (1, .int x1)] := hl
  unfold m_MM_count at h
  have C0 := C
  obtain ⟨hx, hb, -, -, -, hown, hts, hK, -, -⟩ := C0
  refine lv_aload_n hx hb d_MM_count_0 rfl (lv_at hl 0 rfl) ?_
  refine lv_iconst (v := (0:Int32)) hx hb d_MM_count_1 (by decide) ?_
  refine o_put (v := .int (0:Int32)) (ty := .int) (w1 := (m_cw ad ca rt (MM_mk (0:Int32) (MM_fed Mm) (MM_wrong Mm) (MM_octets Mm) (MM_nodeKind Mm) (MM_nodeA Mm) (MM_nodeB Mm) (MM_nodeC Mm) (MM_nodeNext Mm) (MM_low Mm) (MM_high Mm) (MM_setFrom Mm) (MM_setTo Mm) (MM_setNot Mm) (MM_op Mm) (MM_opA Mm) (MM_opB Mm) (MM_mark Mm) (MM_now Mm) (MM_then Mm) (MM_todo Mm) (MM_nodes Mm) (MM_sets Mm) (MM_ranges Mm) (MM_steps Mm) (MM_pat Mm) (MM_patEnd Mm) (MM_round Mm) (MM_many1 Mm) (MM_broken Mm) (MM_keys Mm) (MM_types Mm) (MM_checked Mm) (MM_faultKind Mm) (MM_faultValue Mm) (MM_latestFault Mm) (MM_anchors Mm) (MM_key Mm) (MM_target Mm) (MM_anchorValue Mm) (MM_anchorSchema Mm) (MM_path Mm) (MM_route Mm) (MM_isSchema Mm) (MM_seen1 Mm) (MM_pathSize Mm) (MM_octetRow Mm) (MM_partRow Mm) (MM_pairValue Mm) (MM_pairKey Mm) (MM_pairs Mm) (MM_judged Mm) (MM_deepest Mm) (MM_depth Mm) (MM_over Mm) (MM_seen Mm)) M0 M1)) C in_MM t_MM t_MM_ok n_MM hP (hDD _ _ _ _) hS 0 mw_0 rfl 0 (by decide) k_7_230 rfl rfl (by decide +kernel) rfl rfl (Nat.le_of_ble_eq_true rfl) rfl d_MM_count_2 (fun H locs hP hS => ?_)
  refine lv_aload_n hx hb d_MM_count_5 rfl (lv_at hl 0 rfl) ?_
  refine lv_iload_n hx hb d_MM_count_6 rfl (lv_at hl 1 rfl) ?_
  refine lv_iconst (v := (0:Int32)) hx hb d_MM_count_7 (by decide) ?_
  refine lv_iconst (v := (3:Int32)) hx hb d_MM_count_8 (by decide) ?_
  obtain ⟨q1, hq1, h⟩ := o_bd_some h
  refine o_S (st1 := [.int q1, .ref (ad 0)]) (w1 := (m_cw ad ca rt (MM_mk (0:Int32) (MM_fed Mm) (MM_wrong Mm) (MM_octets Mm) (MM_nodeKind Mm) (MM_nodeA Mm) (MM_nodeB Mm) (MM_nodeC Mm) (MM_nodeNext Mm) (MM_low Mm) (MM_high Mm) (MM_setFrom Mm) (MM_setTo Mm) (MM_setNot Mm) (MM_op Mm) (MM_opA Mm) (MM_opB Mm) (MM_mark Mm) (MM_now Mm) (MM_then Mm) (MM_todo Mm) (MM_nodes Mm) (MM_sets Mm) (MM_ranges Mm) (MM_steps Mm) (MM_pat Mm) (MM_patEnd Mm) (MM_round Mm) (MM_many1 Mm) (MM_broken Mm) (MM_keys Mm) (MM_types Mm) (MM_checked Mm) (MM_faultKind Mm) (MM_faultValue Mm) (MM_latestFault Mm) (MM_anchors Mm) (MM_key Mm) (MM_target Mm) (MM_anchorValue Mm) (MM_anchorSchema Mm) (MM_path Mm) (MM_route Mm) (MM_isSchema Mm) (MM_seen1 Mm) (MM_pathSize Mm) (MM_octetRow Mm) (MM_partRow Mm) (MM_pairValue Mm) (MM_pairKey Mm) (MM_pairs Mm) (MM_judged Mm) (MM_deepest Mm) (MM_depth Mm) (MM_over Mm) (MM_seen Mm)) M0 M1)) hE.1 C (e_MM_in hE l x1 (0:Int32) (3:Int32) (MM_mk (0:Int32) (MM_fed Mm) (MM_wrong Mm) (MM_octets Mm) (MM_nodeKind Mm) (MM_nodeA Mm) (MM_nodeB Mm) (MM_nodeC Mm) (MM_nodeNext Mm) (MM_low Mm) (MM_high Mm) (MM_setFrom Mm) (MM_setTo Mm) (MM_setNot Mm) (MM_op Mm) (MM_opA Mm) (MM_opB Mm) (MM_mark Mm) (MM_now Mm) (MM_then Mm) (MM_todo Mm) (MM_nodes Mm) (MM_sets Mm) (MM_ranges Mm) (MM_steps Mm) (MM_pat Mm) (MM_patEnd Mm) (MM_round Mm) (MM_many1 Mm) (MM_broken Mm) (MM_keys Mm) (MM_types Mm) (MM_checked Mm) (MM_faultKind Mm) (MM_faultValue Mm) (MM_latestFault Mm) (MM_anchors Mm) (MM_key Mm) (MM_target Mm) (MM_anchorValue Mm) (MM_anchorSchema Mm) (MM_path Mm) (MM_route Mm) (MM_isSchema Mm) (MM_seen1 Mm) (MM_pathSize Mm) (MM_octetRow Mm) (MM_partRow Mm) (MM_pairValue Mm) (MM_pairKey Mm) (MM_pairs Mm) (MM_judged Mm) (MM_deepest Mm) (MM_depth Mm) (MM_over Mm) (MM_seen Mm)) M0 M1 rt hq1) hP (hDD _ _ _ _) hS hl.1 k_9_41 k_8_201 k_1_12 k_8_202 hs_MM_in rfl rfl ⟨(Nat.le_of_ble_eq_true rfl), (Nat.le_of_ble_eq_true rfl)⟩ rfl (Nat.le_of_ble_eq_true rfl) ⟨Nat.zero_le _, Nat.zero_le _⟩ rfl d_MM_count_9 (fun H locs hP hS => ?_)
  refine lv_if_ne (tgt := 19) hx hb d_MM_count_12 (by decide) (fun c1 => ?_) (fun c1 => ?_)
  · replace h := o_ff c1 h
    refine lv_iconst (v := (0:Int32)) hx hb d_MM_count_19 (by decide) ?_
    exact f_MM_count_j20 hE C hDD x1 (0:Int32) M0 M1 (MM_mk (0:Int32) (MM_fed Mm) (MM_wrong Mm) (MM_octets Mm) (MM_nodeKind Mm) (MM_nodeA Mm) (MM_nodeB Mm) (MM_nodeC Mm) (MM_nodeNext Mm) (MM_low Mm) (MM_high Mm) (MM_setFrom Mm) (MM_setTo Mm) (MM_setNot Mm) (MM_op Mm) (MM_opA Mm) (MM_opB Mm) (MM_mark Mm) (MM_now Mm) (MM_then Mm) (MM_todo Mm) (MM_nodes Mm) (MM_sets Mm) (MM_ranges Mm) (MM_steps Mm) (MM_pat Mm) (MM_patEnd Mm) (MM_round Mm) (MM_many1 Mm) (MM_broken Mm) (MM_keys Mm) (MM_types Mm) (MM_checked Mm) (MM_faultKind Mm) (MM_faultValue Mm) (MM_latestFault Mm) (MM_anchors Mm) (MM_key Mm) (MM_target Mm) (MM_anchorValue Mm) (MM_anchorSchema Mm) (MM_path Mm) (MM_route Mm) (MM_isSchema Mm) (MM_seen1 Mm) (MM_pathSize Mm) (MM_octetRow Mm) (MM_partRow Mm) (MM_pairValue Mm) (MM_pairKey Mm) (MM_pairs Mm) (MM_judged Mm) (MM_deepest Mm) (MM_depth Mm) (MM_over Mm) (MM_seen Mm)) rt h _ _ _ hP hS (lv_sub hl [0, 1] rfl)
  · replace h := o_tt c1 h
    refine lv_iconst (v := (1:Int32)) hx hb d_MM_count_15 (by decide) ?_
    refine lv_goto (tgt := 20) hx hb d_MM_count_16 (by decide) ?_
    exact f_MM_count_j20 hE C hDD x1 (1:Int32) M0 M1 (MM_mk (0:Int32) (MM_fed Mm) (MM_wrong Mm) (MM_octets Mm) (MM_nodeKind Mm) (MM_nodeA Mm) (MM_nodeB Mm) (MM_nodeC Mm) (MM_nodeNext Mm) (MM_low Mm) (MM_high Mm) (MM_setFrom Mm) (MM_setTo Mm) (MM_setNot Mm) (MM_op Mm) (MM_opA Mm) (MM_opB Mm) (MM_mark Mm) (MM_now Mm) (MM_then Mm) (MM_todo Mm) (MM_nodes Mm) (MM_sets Mm) (MM_ranges Mm) (MM_steps Mm) (MM_pat Mm) (MM_patEnd Mm) (MM_round Mm) (MM_many1 Mm) (MM_broken Mm) (MM_keys Mm) (MM_types Mm) (MM_checked Mm) (MM_faultKind Mm) (MM_faultValue Mm) (MM_latestFault Mm) (MM_anchors Mm) (MM_key Mm) (MM_target Mm) (MM_anchorValue Mm) (MM_anchorSchema Mm) (MM_path Mm) (MM_route Mm) (MM_isSchema Mm) (MM_seen1 Mm) (MM_pathSize Mm) (MM_octetRow Mm) (MM_partRow Mm) (MM_pairValue Mm) (MM_pairKey Mm) (MM_pairs Mm) (MM_judged Mm) (MM_deepest Mm) (MM_depth Mm) (MM_over Mm) (MM_seen Mm)) rt h _ _ _ hP hS (lv_sub hl [0, 1] rfl)
