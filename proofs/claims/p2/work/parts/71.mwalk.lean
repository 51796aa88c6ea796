set_option maxHeartbeats 4000000 in
set_option maxRecDepth 100000 in
theorem f_MM_one_j40_b {E : (Nat → Prop) → State → Heap → Prop} {p : Program} {l : Launch} {e : Env} {s : State} {m : MethodId} {args : Array Value} {below : List Frame} {meth : Method} {c : Code} {D : va_G} {ad kd sd vd xd : Nat → Nat} {ca : Nat → ClassId} {A : Nat → Prop} {ky ty : Nat → Option Nat} (hE : o_EK E kd sd vd xd) (hKy : m_KY ky ty sd) (C : o_Cx E p s m args meth c D m_cls (m_tys ca) "SchemaJudgeModel" b_MM_one (some .int) 6 cc_MM_one A) (hDD : ∀ (rt : Nat) (Mm : SMM) (M0 : SMT) (M1 : SMT), va_D A (m_cw ad ca ky ty rt Mm M0 M1)) (d : Nat) (rec : Int32 → SMT → SMM → Option (Int32 × SMM)) (hrec : ∀ (x1 : Int32) (tc : SMT) (Mm : SMM) (M0 : SMT) (r : Int32 × SMM), rec x1 tc Mm = some r → o_Cn E l D m_cls (m_tys ca) y_MM_ways cc_MM_ways (rm_MM_ways d) [.ref (ad 0), .int x1] (m_cw ad ca ky ty 48 Mm M0 tc) (m_cw ad ca ky ty 48 r.2 M0 tc) (some (.int r.1))) (n : Nat) (y1 : Int32) (tc : SMT) (Mm : SMM) (M0 : SMT) {r : Int32 × SMM} (h : m_MM_one_j40 n rec y1 tc Mm = some r) : o_At p l e (rm_MM_one d) s m args below meth c (MQ below (o_Qx D m_cls (some (.int r.1)) (m_cw ad ca ky ty 48 r.2 M0 tc) A) args s 0 0 A) m_cls D A 6 40 [.int y1, .ref (ad 0)] (m_cw ad ca ky ty 48 Mm M0 tc) [] := by
  unfold m_MM_one_j40 at h
  intro H locs ls hP hS hl
  have C0 := C
  obtain ⟨hx, hb, -, -, -, hown, hts, hK, -, -⟩ := C0
  refine lv_iconst (v := (0:Int32)) hx hb d_MM_one_40 (by decide) ?_
  obtain ⟨q2, hq2, h⟩ := o_bd_some h
  refine o_V (st1 := [.int q2.1]) (w1 := (m_cw ad ca ky ty 48 q2.2 M0 tc)) hE.1 C (e_MM_node hE hKy l y1 (0:Int32) Mm M0 tc 48 hq2) hP (hDD _ _ _ _) hS hl.1 rfl mw_0 k_9_62 k_9_64 k_s_87 k_1_12 k_9_65 hv_MM_node rfl rfl ⟨(by dsimp only [rm_MM_one, rm_MM_node]; omega), (by dsimp only [rm_MM_one, rm_MM_node]; omega)⟩ rfl (Nat.le_of_ble_eq_true rfl) ⟨Nat.zero_le _, Nat.zero_le _⟩ rfl d_MM_one_41 (fun H locs hP hS => ?_)
  cases h
  exact o_ri C hP hS d_MM_one_44
set_option maxHeartbeats 4000000 in
set_option maxRecDepth 100000 in
theorem f_MM_one_j18_b {E : (Nat → Prop) → State → Heap → Prop} {p : Program} {l : Launch} {e : Env} {s : State} {m : MethodId} {args : Array Value} {below : List Frame} {meth : Method} {c : Code} {D : va_G} {ad kd sd vd xd : Nat → Nat} {ca : Nat → ClassId} {A : Nat → Prop} {ky ty : Nat → Option Nat} (hE : o_EK E kd sd vd xd) (hKy : m_KY ky ty sd) (C : o_Cx E p s m args meth c D m_cls (m_tys ca) "SchemaJudgeModel" b_MM_one (some .int) 6 cc_MM_one A) (hDD : ∀ (rt : Nat) (Mm : SMM) (M0 : SMT) (M1 : SMT), va_D A (m_cw ad ca ky ty rt Mm M0 M1)) (d : Nat) (rec : Int32 → SMT → SMM → Option (Int32 × SMM)) (hrec : ∀ (x1 : Int32) (tc : SMT) (Mm : SMM) (M0 : SMT) (r : Int32 × SMM), rec x1 tc Mm = some r → o_Cn E l D m_cls (m_tys ca) y_MM_ways cc_MM_ways (rm_MM_ways d) [.ref (ad 0), .int x1] (m_cw ad ca ky ty 48 Mm M0 tc) (m_cw ad ca ky ty 48 r.2 M0 tc) (some (.int r.1))) (n : Nat) (x2 : Int32) (tc : SMT) (Mm : SMM) (M0 : SMT) {r : Int32 × SMM} (h : m_MM_one_j18 n rec x2 tc Mm = some r) : o_At p l e (rm_MM_one d) s m args below meth c (MQ below (o_Qx D m_cls (some (.int r.1)) (m_cw ad ca ky ty 48 r.2 M0 tc) A) args s 0 0 A) m_cls D A 6 18 [] (m_cw ad ca ky ty 48 Mm M0 tc) [(0, .ref (ad 0)), (2, .int x2)] := by
  unfold m_MM_one_j18 at h
  intro H locs ls hP hS hl
  have C0 := C
  obtain ⟨hx, hb, -, -, -, hown, hts, hK, -, -⟩ := C0
  refine lv_aload_n hx hb d_MM_one_18 rfl (lv_at hl 0 rfl) ?_
  refine lv_dup hx hb d_MM_one_19 rfl ?_
  refine o_get (v := .int (MM_pat Mm)) C in_MM hP 0 mw_0 rfl 27 (by decide) k_8_17 rfl rfl d_MM_one_20 ?_
  refine lv_iconst (v := (1:Int32)) hx hb d_MM_one_23 (by decide) ?_
  refine lv_iadd hx hb d_MM_one_24 ?_
  refine o_put (v := .int ((MM_pat Mm) + (1:Int32))) (ty := .int) (w1 := (m_cw ad ca ky ty 48 (MM_mk (MM_err Mm) (MM_fed Mm) (MM_wrong Mm) (MM_octets Mm) (MM_nodeKind Mm) (MM_nodeA Mm) (MM_nodeB Mm) (MM_nodeC Mm) (MM_nodeNext Mm) (MM_low Mm) (MM_high Mm) (MM_setFrom Mm) (MM_setTo Mm) (MM_setNot Mm) (MM_op Mm) (MM_opA Mm) (MM_opB Mm) (MM_mark Mm) (MM_now Mm) (MM_then Mm) (MM_todo Mm) (MM_nodes Mm) (MM_sets Mm) (MM_ranges Mm) (MM_steps Mm) ((MM_pat Mm) + (1:Int32)) (MM_patEnd Mm) (MM_round Mm) (MM_many1 Mm) (MM_broken Mm) (MM_checked Mm) (MM_faultKind Mm) (MM_faultValue Mm) (MM_latestFault Mm) (MM_anchors Mm) (MM_key Mm) (MM_target Mm) (MM_anchorValue Mm) (MM_anchorSchema Mm) (MM_path Mm) (MM_route Mm) (MM_isSchema Mm) (MM_seen1 Mm) (MM_pathSize Mm) (MM_octetRow Mm) (MM_partRow Mm) (MM_pairValue Mm) (MM_pairKey Mm) (MM_pairs Mm) (MM_judged Mm) (MM_deepest Mm) (MM_depth Mm) (MM_over Mm) (MM_seen Mm)) M0 tc)) C in_MM t_MM t_MM_ok n_MM hP (hDD _ _ _ _) hS 0 mw_0 rfl 27 (by decide) k_8_17 rfl rfl (by decide +kernel) rfl rfl (Nat.le_of_ble_eq_true rfl) rfl d_MM_one_25 (fun H locs hP hS => ?_)
  refine lv_aload_n hx hb d_MM_one_28 rfl (lv_at hl 0 rfl) ?_
  refine lv_iload_n hx hb d_MM_one_29 rfl (lv_at hl 1 rfl) ?_
  refine lv_bipush (v := (94:Int32)) hx hb d_MM_one_30 (by decide) ?_
  refine lv_icmp_ne (tgt := 39) hx hb d_MM_one_32 (by decide) (fun c2 => ?_) (fun c2 => ?_)
  · replace h := o_ff c2 h
    refine lv_iconst (v := (3:Int32)) hx hb d_MM_one_39 (by decide) ?_
    exact f_MM_one_j40_b hE hKy C hDD d rec hrec n (3:Int32) tc (MM_mk (MM_err Mm) (MM_fed Mm) (MM_wrong Mm) (MM_octets Mm) (MM_nodeKind Mm) (MM_nodeA Mm) (MM_nodeB Mm) (MM_nodeC Mm) (MM_nodeNext Mm) (MM_low Mm) (MM_high Mm) (MM_setFrom Mm) (MM_setTo Mm) (MM_setNot Mm) (MM_op Mm) (MM_opA Mm) (MM_opB Mm) (MM_mark Mm) (MM_now Mm) (MM_then Mm) (MM_todo Mm) (MM_nodes Mm) (MM_sets Mm) (MM_ranges Mm) (MM_steps Mm) ((MM_pat Mm) + (1:Int32)) (MM_patEnd Mm) (MM_round Mm) (MM_many1 Mm) (MM_broken Mm) (MM_checked Mm) (MM_faultKind Mm) (MM_faultValue Mm) (MM_latestFault Mm) (MM_anchors Mm) (MM_key Mm) (MM_target Mm) (MM_anchorValue Mm) (MM_anchorSchema Mm) (MM_path Mm) (MM_route Mm) (MM_isSchema Mm) (MM_seen1 Mm) (MM_pathSize Mm) (MM_octetRow Mm) (MM_partRow Mm) (MM_pairValue Mm) (MM_pairKey Mm) (MM_pairs Mm) (MM_judged Mm) (MM_deepest Mm) (MM_depth Mm) (MM_over Mm) (MM_seen Mm)) M0 h _ _ _ hP hS (lv_sub hl [] rfl)
  · replace h := o_tt c2 h
    refine lv_iconst (v := (2:Int32)) hx hb d_MM_one_35 (by decide) ?_
    refine lv_goto (tgt := 40) hx hb d_MM_one_36 (by decide) ?_
    exact f_MM_one_j40_b hE hKy C hDD d rec hrec n (2:Int32) tc (MM_mk (MM_err Mm) (MM_fed Mm) (MM_wrong Mm) (MM_octets Mm) (MM_nodeKind Mm) (MM_nodeA Mm) (MM_nodeB Mm) (MM_nodeC Mm) (MM_nodeNext Mm) (MM_low Mm) (MM_high Mm) (MM_setFrom Mm) (MM_setTo Mm) (MM_setNot Mm) (MM_op Mm) (MM_opA Mm) (MM_opB Mm) (MM_mark Mm) (MM_now Mm) (MM_then Mm) (MM_todo Mm) (MM_nodes Mm) (MM_sets Mm) (MM_ranges Mm) (MM_steps Mm) ((MM_pat Mm) + (1:Int32)) (MM_patEnd Mm) (MM_round Mm) (MM_many1 Mm) (MM_broken Mm) (MM_checked Mm) (MM_faultKind Mm) (MM_faultValue Mm) (MM_latestFault Mm) (MM_anchors Mm) (MM_key Mm) (MM_target Mm) (MM_anchorValue Mm) (MM_anchorSchema Mm) (MM_path Mm) (MM_route Mm) (MM_isSchema Mm) (MM_seen1 Mm) (MM_pathSize Mm) (MM_octetRow Mm) (MM_partRow Mm) (MM_pairValue Mm) (MM_pairKey Mm) (MM_pairs Mm) (MM_judged Mm) (MM_deepest Mm) (MM_depth Mm) (MM_over Mm) (MM_seen Mm)) M0 h _ _ _ hP hS (lv_sub hl [] rfl)
set_option maxHeartbeats 4000000 in
set_option maxRecDepth 100000 in
theorem f_MM_one_j313_b {E : (Nat → Prop) → State → Heap → Prop} {p : Program} {l : Launch} {e : Env} {s : State} {m : MethodId} {args : Array Value} {below : List Frame} {meth : Method} {c : Code} {D : va_G} {ad kd sd vd xd : Nat → Nat} {ca : Nat → ClassId} {A : Nat → Prop} {ky ty : Nat → Option Nat} (hE : o_EK E kd sd vd xd) (hKy : m_KY ky ty sd) (C : o_Cx E p s m args meth c D m_cls (m_tys ca) "SchemaJudgeModel" b_MM_one (some .int) 6 cc_MM_one A) (hDD : ∀ (rt : Nat) (Mm : SMM) (M0 : SMT) (M1 : SMT), va_D A (m_cw ad ca ky ty rt Mm M0 M1)) (d : Nat) (rec : Int32 → SMT → SMM → Option (Int32 × SMM)) (hrec : ∀ (x1 : Int32) (tc : SMT) (Mm : SMM) (M0 : SMT) (r : Int32 × SMM), rec x1 tc Mm = some r → o_Cn E l D m_cls (m_tys ca) y_MM_ways cc_MM_ways (rm_MM_ways d) [.ref (ad 0), .int x1] (m_cw ad ca ky ty 48 Mm M0 tc) (m_cw ad ca ky ty 48 r.2 M0 tc) (some (.int r.1))) (n : Nat)  (tc : SMT) (Mm : SMM) (M0 : SMT) {r : Int32 × SMM} (h : m_MM_one_j313 n rec tc Mm = some r) : o_At p l e (rm_MM_one d) s m args below meth c (MQ below (o_Qx D m_cls (some (.int r.1)) (m_cw ad ca ky ty 48 r.2 M0 tc) A) args s 0 0 A) m_cls D A 6 313 [] (m_cw ad ca ky ty 48 Mm M0 tc) [(0, .ref (ad 0))] := by
  unfold m_MM_one_j313 at h
  intro H locs ls hP hS hl
  have C0 := C
  obtain ⟨hx, hb, -, -, -, hown, hts, hK, -, -⟩ := C0
  refine lv_aload_n hx hb d_MM_one_313 rfl (lv_at hl 0 rfl) ?_
  obtain ⟨q3, hq3, h⟩ := o_bd_some h
  refine o_V (st1 := [.int q3.1]) (w1 := (m_cw ad ca ky ty 48 q3.2 M0 tc)) hE.1 C (e_MM_no hE hKy l Mm M0 tc 48 hq3) hP (hDD _ _ _ _) hS hl.1 rfl mw_0 k_9_78 k_9_80 k_s_91 k_1_12 k_9_81 hv_MM_no rfl rfl ⟨(by dsimp only [rm_MM_one, rm_MM_no]; omega), (by dsimp only [rm_MM_one, rm_MM_no]; omega)⟩ rfl (Nat.le_of_ble_eq_true rfl) ⟨Nat.zero_le _, Nat.zero_le _⟩ rfl d_MM_one_314 (fun H locs hP hS => ?_)
  cases h
  exact o_ri C hP hS d_MM_one_317
set_option maxHeartbeats 4000000 in
set_option maxRecDepth 100000 in
theorem f_MM_one_j348_b {E : (Nat → Prop) → State → Heap → Prop} {p : Program} {l : Launch} {e : Env} {s : State} {m : MethodId} {args : Array Value} {below : List Frame} {meth : Method} {c : Code} {D : va_G} {ad kd sd vd xd : Nat → Nat} {ca : Nat → ClassId} {A : Nat → Prop} {ky ty : Nat → Option Nat} (hE : o_EK E kd sd vd xd) (hKy : m_KY ky ty sd) (C : o_Cx E p s m args meth c D m_cls (m_tys ca) "SchemaJudgeModel" b_MM_one (some .int) 6 cc_MM_one A) (hDD : ∀ (rt : Nat) (Mm : SMM) (M0 : SMT) (M1 : SMT), va_D A (m_cw ad ca ky ty rt Mm M0 M1)) (d : Nat) (rec : Int32 → SMT → SMM → Option (Int32 × SMM)) (hrec : ∀ (x1 : Int32) (tc : SMT) (Mm : SMM) (M0 : SMT) (r : Int32 × SMM), rec x1 tc Mm = some r → o_Cn E l D m_cls (m_tys ca) y_MM_ways cc_MM_ways (rm_MM_ways d) [.ref (ad 0), .int x1] (m_cw ad ca ky ty 48 Mm M0 tc) (m_cw ad ca ky ty 48 r.2 M0 tc) (some (.int r.1))) (n : Nat) (x3 : Int32) (tc : SMT) (Mm : SMM) (M0 : SMT) {r : Int32 × SMM} (h : m_MM_one_j348 n rec x3 tc Mm = some r) : o_At p l e (rm_MM_one d) s m args below meth c (MQ below (o_Qx D m_cls (some (.int r.1)) (m_cw ad ca ky ty 48 r.2 M0 tc) A) args s 0 0 A) m_cls D A 6 348 [] (m_cw ad ca ky ty 48 Mm M0 tc) [(0, .ref (ad 0)), (3, .int x3)] := by
  unfold m_MM_one_j348 at h
  intro H locs ls hP hS hl
  have C0 := C
  obtain ⟨hx, hb, -, -, -, hown, hts, hK, -, -⟩ := C0
  refine lv_aload_n hx hb d_MM_one_348 rfl (lv_at hl 0 rfl) ?_
  refine o_get (v := .int (MM_broken Mm)) C in_MM hP 0 mw_0 rfl 32 (by decide) k_8_22 rfl rfl d_MM_one_349 ?_
  refine lv_if_eq (tgt := 359) hx hb d_MM_one_352 (by decide) (fun c15 => ?_) (fun c15 => ?_)
  · replace h := o_tt c15 h
    refine lv_aload_n hx hb d_MM_one_359 rfl (lv_at hl 0 rfl) ?_
    refine lv_iload_n hx hb d_MM_one_360 rfl (lv_at hl 1 rfl) ?_
    obtain ⟨q7, hq7, h⟩ := o_bd_some h
    refine o_V (st1 := [.int q7.1]) (w1 := (m_cw ad ca ky ty 48 q7.2 M0 tc)) hE.1 C (e_MM_often_b hE hKy l n x3 tc Mm M0 hq7) hP (hDD _ _ _ _) hS hl.1 rfl mw_0 k_9_121 k_9_123 k_s_101 k_1_12 k_9_124 hv_MM_often rfl rfl ⟨(by dsimp only [rm_MM_one, rm_MM_often]; omega), (by dsimp only [rm_MM_one, rm_MM_often]; omega)⟩ rfl (Nat.le_of_ble_eq_true rfl) ⟨Nat.zero_le _, Nat.zero_le _⟩ rfl d_MM_one_361 (fun H locs hP hS => ?_)
    cases h
    exact o_ri C hP hS d_MM_one_364
  · replace h := o_ff c15 h
    refine lv_iload_n hx hb d_MM_one_355 rfl (lv_at hl 1 rfl) ?_
    refine lv_goto (tgt := 364) hx hb d_MM_one_356 (by decide) ?_
    cases h
    exact o_ri C hP hS d_MM_one_364
set_option maxHeartbeats 4000000 in
set_option maxRecDepth 100000 in
theorem f_MM_one_j201_b {E : (Nat → Prop) → State → Heap → Prop} {p : Program} {l : Launch} {e : Env} {s : State} {m : MethodId} {args : Array Value} {below : List Frame} {meth : Method} {c : Code} {D : va_G} {ad kd sd vd xd : Nat → Nat} {ca : Nat → ClassId} {A : Nat → Prop} {ky ty : Nat → Option Nat} (hE : o_EK E kd sd vd xd) (hKy : m_KY ky ty sd) (C : o_Cx E p s m args meth c D m_cls (m_tys ca) "SchemaJudgeModel" b_MM_one (some .int) 6 cc_MM_one A) (hDD : ∀ (rt : Nat) (Mm : SMM) (M0 : SMT) (M1 : SMT), va_D A (m_cw ad ca ky ty rt Mm M0 M1)) (d : Nat) (rec : Int32 → SMT → SMM → Option (Int32 × SMM)) (hrec : ∀ (x1 : Int32) (tc : SMT) (Mm : SMM) (M0 : SMT) (r : Int32 × SMM), rec x1 tc Mm = some r → o_Cn E l D m_cls (m_tys ca) y_MM_ways cc_MM_ways (rm_MM_ways d) [.ref (ad 0), .int x1] (m_cw ad ca ky ty 48 Mm M0 tc) (m_cw ad ca ky ty 48 r.2 M0 tc) (some (.int r.1))) (n : Nat) (x4 : Int32) (tc : SMT) (Mm : SMM) (M0 : SMT) {r : Int32 × SMM} (h : m_MM_one_j201 n rec x4 tc Mm = some r) : o_At p l e (rm_MM_one d) s m args below meth c (MQ below (o_Qx D m_cls (some (.int r.1)) (m_cw ad ca ky ty 48 r.2 M0 tc) A) args s 0 0 A) m_cls D A 6 201 [] (m_cw ad ca ky ty 48 Mm M0 tc) [(0, .ref (ad 0)), (4, .int x4)] := by
  unfold m_MM_one_j201 at h
  intro H locs ls hP hS hl
  have C0 := C
  obtain ⟨hx, hb, -, -, -, hown, hts, hK, -, -⟩ := C0
  refine lv_aload_n hx hb d_MM_one_201 rfl (lv_at hl 0 rfl) ?_
  refine lv_iload hx hb d_MM_one_202 (lv_at hl 1 rfl) ?_
  refine lv_iconst (v := (0:Int32)) hx hb d_MM_one_204 (by decide) ?_
  obtain ⟨q15, hq15, h⟩ := o_bd_some h
  refine o_V (st1 := [.int q15.1]) (w1 := (m_cw ad ca ky ty 48 q15.2 M0 tc)) hE.1 C (e_MM_close hE hKy l x4 (0:Int32) Mm M0 tc 48 hq15) hP (hDD _ _ _ _) hS hl.1 rfl mw_0 k_9_117 k_9_119 k_s_100 k_1_12 k_9_120 hv_MM_close rfl rfl ⟨(by dsimp only [rm_MM_one, rm_MM_close]; omega), (by dsimp only [rm_MM_one, rm_MM_close]; omega)⟩ rfl (Nat.le_of_ble_eq_true rfl) ⟨Nat.zero_le _, Nat.zero_le _⟩ rfl d_MM_one_205 (fun H locs hP hS => ?_)
  refine lv_istore_n (lv' := [(3, .int q15.1), (0, .ref (ad 0)), (4, .int x4)]) hx hb d_MM_one_208 rfl hl (by decide) rfl (fun ls hl => ?_)
  refine lv_goto (tgt := 348) hx hb d_MM_one_209 (by decide) ?_
  exact f_MM_one_j348_b hE hKy C hDD d rec hrec n q15.1 tc q15.2 M0 h _ _ _ hP hS (lv_sub hl [1, 0] rfl)
set_option maxHeartbeats 4000000 in
set_option maxRecDepth 100000 in
theorem f_MM_one_j127_b {E : (Nat → Prop) → State → Heap → Prop} {p : Program} {l : Launch} {e : Env} {s : State} {m : MethodId} {args : Array Value} {below : List Frame} {meth : Method} {c : Code} {D : va_G} {ad kd sd vd xd : Nat → Nat} {ca : Nat → ClassId} {A : Nat → Prop} {ky ty : Nat → Option Nat} (hE : o_EK E kd sd vd xd) (hKy : m_KY ky ty sd) (C : o_Cx E p s m args meth c D m_cls (m_tys ca) "SchemaJudgeModel" b_MM_one (some .int) 6 cc_MM_one A) (hDD : ∀ (rt : Nat) (Mm : SMM) (M0 : SMT) (M1 : SMT), va_D A (m_cw ad ca ky ty rt Mm M0 M1)) (d : Nat) (rec : Int32 → SMT → SMM → Option (Int32 × SMM)) (hrec : ∀ (x1 : Int32) (tc : SMT) (Mm : SMM) (M0 : SMT) (r : Int32 × SMM), rec x1 tc Mm = some r → o_Cn E l D m_cls (m_tys ca) y_MM_ways cc_MM_ways (rm_MM_ways d) [.ref (ad 0), .int x1] (m_cw ad ca ky ty 48 Mm M0 tc) (m_cw ad ca ky ty 48 r.2 M0 tc) (some (.int r.1))) (n : Nat)  (tc : SMT) (Mm : SMM) (M0 : SMT) {r : Int32 × SMM} (h : m_MM_one_j127 n rec tc Mm = some r) : o_At p l e (rm_MM_one d) s m args below meth c (MQ below (o_Qx D m_cls (some (.int r.1)) (m_cw ad ca ky ty 48 r.2 M0 tc) A) args s 0 0 A) m_cls D A 6 127 [] (m_cw ad ca ky ty 48 Mm M0 tc) [(0, .ref (ad 0))] := by
  unfold m_MM_one_j127 at h
  intro H locs ls hP hS hl
  have C0 := C
  obtain ⟨hx, hb, -, -, -, hown, hts, hK, -, -⟩ := C0
  refine lv_aload_n hx hb d_MM_one_127 rfl (lv_at hl 0 rfl) ?_
  obtain ⟨q20, hq20, h⟩ := o_bd_some h
  refine o_V (st1 := [.int q20.1]) (w1 := (m_cw ad ca ky ty 48 q20.2 M0 tc)) hE.1 C (e_MM_no hE hKy l Mm M0 tc 48 hq20) hP (hDD _ _ _ _) hS hl.1 rfl mw_0 k_9_78 k_9_80 k_s_91 k_1_12 k_9_81 hv_MM_no rfl rfl ⟨(by dsimp only [rm_MM_one, rm_MM_no]; omega), (by dsimp only [rm_MM_one, rm_MM_no]; omega)⟩ rfl (Nat.le_of_ble_eq_true rfl) ⟨Nat.zero_le _, Nat.zero_le _⟩ rfl d_MM_one_128 (fun H locs hP hS => ?_)
  cases h
  exact o_ri C hP hS d_MM_one_131
set_option maxHeartbeats 4000000 in
set_option maxRecDepth 100000 in
theorem f_MM_one_j102_b {E : (Nat → Prop) → State → Heap → Prop} {p : Program} {l : Launch} {e : Env} {s : State} {m : MethodId} {args : Array Value} {below : List Frame} {meth : Method} {c : Code} {D : va_G} {ad kd sd vd xd : Nat → Nat} {ca : Nat → ClassId} {A : Nat → Prop} {ky ty : Nat → Option Nat} (hE : o_EK E kd sd vd xd) (hKy : m_KY ky ty sd) (C : o_Cx E p s m args meth c D m_cls (m_tys ca) "SchemaJudgeModel" b_MM_one (some .int) 6 cc_MM_one A) (hDD : ∀ (rt : Nat) (Mm : SMM) (M0 : SMT) (M1 : SMT), va_D A (m_cw ad ca ky ty rt Mm M0 M1)) (d : Nat) (rec : Int32 → SMT → SMM → Option (Int32 × SMM)) (hrec : ∀ (x1 : Int32) (tc : SMT) (Mm : SMM) (M0 : SMT) (r : Int32 × SMM), rec x1 tc Mm = some r → o_Cn E l D m_cls (m_tys ca) y_MM_ways cc_MM_ways (rm_MM_ways d) [.ref (ad 0), .int x1] (m_cw ad ca ky ty 48 Mm M0 tc) (m_cw ad ca ky ty 48 r.2 M0 tc) (some (.int r.1))) (n : Nat) (x1 : Int32) (tc : SMT) (Mm : SMM) (M0 : SMT) {r : Int32 × SMM} (h : m_MM_one_j102 n rec x1 tc Mm = some r) : o_At p l e (rm_MM_one d) s m args below meth c (MQ below (o_Qx D m_cls (some (.int r.1)) (m_cw ad ca ky ty 48 r.2 M0 tc) A) args s 0 0 A) m_cls D A 6 102 [] (m_cw ad ca ky ty 48 Mm M0 tc) [(0, .ref (ad 0)), (1, .int x1)] := by
  unfold m_MM_one_j102 at h
  intro H locs ls hP hS hl
  have C0 := C
  obtain ⟨hx, hb, -, -, -, hown, hts, hK, -, -⟩ := C0
  refine lv_aload_n hx hb d_MM_one_102 rfl (lv_at hl 0 rfl) ?_
  refine lv_iload_n hx hb d_MM_one_103 rfl (lv_at hl 1 rfl) ?_
  refine lv_iconst (v := (1:Int32)) hx hb d_MM_one_104 (by decide) ?_
  refine lv_iadd hx hb d_MM_one_105 ?_
  obtain ⟨q19, hq19, h⟩ := o_bd_some h
  refine o_V (st1 := [.int q19.1]) (w1 := (m_cw ad ca ky ty 48 q19.2 M0 tc)) hE.1 C (hrec (x1 + (1:Int32)) tc Mm M0 _ hq19) hP (hDD _ _ _ _) hS hl.1 rfl mw_0 k_9_58 k_9_60 k_s_86 k_1_12 k_9_61 hv_MM_ways rfl rfl ⟨(by dsimp only [rm_MM_one, rm_MM_ways]; omega), (by dsimp only [rm_MM_one, rm_MM_ways]; omega)⟩ rfl (Nat.le_of_ble_eq_true rfl) ⟨Nat.zero_le _, Nat.zero_le _⟩ rfl d_MM_one_106 (fun H locs hP hS => ?_)
  refine lv_istore_n (lv' := [(3, .int q19.1), (0, .ref (ad 0)), (1, .int x1)]) hx hb d_MM_one_109 rfl hl (by decide) rfl (fun ls hl => ?_)
  refine lv_aload_n hx hb d_MM_one_110 rfl (lv_at hl 1 rfl) ?_
  refine o_get (v := .int (MM_broken q19.2)) C in_MM hP 0 mw_0 rfl 32 (by decide) k_8_22 rfl rfl d_MM_one_111 ?_
  refine lv_if_ne (tgt := 127) hx hb d_MM_one_114 (by decide) (fun c19 => ?_) (fun c19 => ?_)
  · replace h := o_ff c19 h
    exact f_MM_one_j127_b hE hKy C hDD d rec hrec n tc q19.2 M0 h _ _ _ hP hS (lv_sub hl [1] rfl)
  · replace h := o_tt c19 h
    refine lv_aload_n hx hb d_MM_one_117 rfl (lv_at hl 1 rfl) ?_
    refine lv_iconst (v := (0:Int32)) hx hb d_MM_one_118 (by decide) ?_
    obtain ⟨q21, hq21, h⟩ := o_bd_some h
    refine o_V (st1 := [.int q21]) (w1 := (m_cw ad ca ky ty 48 q19.2 M0 tc)) hE.1 C (e_MM_p_b hE hKy l (0:Int32) tc q19.2 M0 hq21) hP (hDD _ _ _ _) hS hl.1 rfl mw_0 k_9_70 k_9_72 k_s_89 k_1_12 k_9_73 hv_MM_p rfl rfl ⟨(by dsimp only [rm_MM_one, rm_MM_p]; omega), (by dsimp only [rm_MM_one, rm_MM_p]; omega)⟩ rfl (Nat.le_of_ble_eq_true rfl) ⟨Nat.zero_le _, Nat.zero_le _⟩ rfl d_MM_one_119 (fun H locs hP hS => ?_)
    refine lv_bipush (v := (41:Int32)) hx hb d_MM_one_122 (by decide) ?_
    refine lv_icmp_eq (tgt := 132) hx hb d_MM_one_124 (by decide) (fun c20 => ?_) (fun c20 => ?_)
    · replace h := o_tt c20 h
      refine lv_aload_n hx hb d_MM_one_132 rfl (lv_at hl 1 rfl) ?_
      refine lv_dup hx hb d_MM_one_133 rfl ?_
      refine o_get (v := .int (MM_pat q19.2)) C in_MM hP 0 mw_0 rfl 27 (by decide) k_8_17 rfl rfl d_MM_one_134 ?_
      refine lv_iconst (v := (1:Int32)) hx hb d_MM_one_137 (by decide) ?_
      refine lv_iadd hx hb d_MM_one_138 ?_
      refine o_put (v := .int ((MM_pat q19.2) + (1:Int32))) (ty := .int) (w1 := (m_cw ad ca ky ty 48 (MM_mk (MM_err q19.2) (MM_fed q19.2) (MM_wrong q19.2) (MM_octets q19.2) (MM_nodeKind q19.2) (MM_nodeA q19.2) (MM_nodeB q19.2) (MM_nodeC q19.2) (MM_nodeNext q19.2) (MM_low q19.2) (MM_high q19.2) (MM_setFrom q19.2) (MM_setTo q19.2) (MM_setNot q19.2) (MM_op q19.2) (MM_opA q19.2) (MM_opB q19.2) (MM_mark q19.2) (MM_now q19.2) (MM_then q19.2) (MM_todo q19.2) (MM_nodes q19.2) (MM_sets q19.2) (MM_ranges q19.2) (MM_steps q19.2) ((MM_pat q19.2) + (1:Int32)) (MM_patEnd q19.2) (MM_round q19.2) (MM_many1 q19.2) (MM_broken q19.2) (MM_checked q19.2) (MM_faultKind q19.2) (MM_faultValue q19.2) (MM_latestFault q19.2) (MM_anchors q19.2) (MM_key q19.2) (MM_target q19.2) (MM_anchorValue q19.2) (MM_anchorSchema q19.2) (MM_path q19.2) (MM_route q19.2) (MM_isSchema q19.2) (MM_seen1 q19.2) (MM_pathSize q19.2) (MM_octetRow q19.2) (MM_partRow q19.2) (MM_pairValue q19.2) (MM_pairKey q19.2) (MM_pairs q19.2) (MM_judged q19.2) (MM_deepest q19.2) (MM_depth q19.2) (MM_over q19.2) (MM_seen q19.2)) M0 tc)) C in_MM t_MM t_MM_ok n_MM hP (hDD _ _ _ _) hS 0 mw_0 rfl 27 (by decide) k_8_17 rfl rfl (by decide +kernel) rfl rfl (Nat.le_of_ble_eq_true rfl) rfl d_MM_one_139 (fun H locs hP hS => ?_)
      refine lv_goto (tgt := 348) hx hb d_MM_one_142 (by decide) ?_
      exact f_MM_one_j348_b hE hKy C hDD d rec hrec n q19.1 tc (MM_mk (MM_err q19.2) (MM_fed q19.2) (MM_wrong q19.2) (MM_octets q19.2) (MM_nodeKind q19.2) (MM_nodeA q19.2) (MM_nodeB q19.2) (MM_nodeC q19.2) (MM_nodeNext q19.2) (MM_low q19.2) (MM_high q19.2) (MM_setFrom q19.2) (MM_setTo q19.2) (MM_setNot q19.2) (MM_op q19.2) (MM_opA q19.2) (MM_opB q19.2) (MM_mark q19.2) (MM_now q19.2) (MM_then q19.2) (MM_todo q19.2) (MM_nodes q19.2) (MM_sets q19.2) (MM_ranges q19.2) (MM_steps q19.2) ((MM_pat q19.2) + (1:Int32)) (MM_patEnd q19.2) (MM_round q19.2) (MM_many1 q19.2) (MM_broken q19.2) (MM_checked q19.2) (MM_faultKind q19.2) (MM_faultValue q19.2) (MM_latestFault q19.2) (MM_anchors q19.2) (MM_key q19.2) (MM_target q19.2) (MM_anchorValue q19.2) (MM_anchorSchema q19.2) (MM_path q19.2) (MM_route q19.2) (MM_isSchema q19.2) (MM_seen1 q19.2) (MM_pathSize q19.2) (MM_octetRow q19.2) (MM_partRow q19.2) (MM_pairValue q19.2) (MM_pairKey q19.2) (MM_pairs q19.2) (MM_judged q19.2) (MM_deepest q19.2) (MM_depth q19.2) (MM_over q19.2) (MM_seen q19.2)) M0 h _ _ _ hP hS (lv_sub hl [1, 0] rfl)
    · replace h := o_ff c20 h
      exact f_MM_one_j127_b hE hKy C hDD d rec hrec n tc q19.2 M0 h _ _ _ hP hS (lv_sub hl [1] rfl)
set_option maxHeartbeats 4000000 in
set_option maxRecDepth 100000 in
theorem e_MM_one_b {E : (Nat → Prop) → State → Heap → Prop} {D : va_G} {ad kd sd vd xd : Nat → Nat} {ca : Nat → ClassId} {ky ty : Nat → Option Nat} (hE : o_EK E kd sd vd xd) (hKy : m_KY ky ty sd) (l : Launch) (n : Nat) (d : Nat) (rec : Int32 → SMT → SMM → Option (Int32 × SMM)) (hrec : ∀ (x1 : Int32) (tc : SMT) (Mm : SMM) (M0 : SMT) (r : Int32 × SMM), rec x1 tc Mm = some r → o_Cn E l D m_cls (m_tys ca) y_MM_ways cc_MM_ways (rm_MM_ways d) [.ref (ad 0), .int x1] (m_cw ad ca ky ty 48 Mm M0 tc) (m_cw ad ca ky ty 48 r.2 M0 tc) (some (.int r.1))) (x1 : Int32) (tc : SMT) (Mm : SMM) (M0 : SMT) {r : Int32 × SMM} (h : m_MM_one n rec x1 tc Mm = some r) : o_Cn E l D m_cls (m_tys ca) y_MM_one cc_MM_one (rm_MM_one d) [.ref (ad 0), .int x1] (m_cw ad ca ky ty 48 Mm M0 tc) (m_cw ad ca ky ty 48 r.2 M0 tc) (some (.int r.1)) := by
  refine o_Cn_of (by decide) (Nat.le_of_ble_eq_true rfl) ?_
  intro p e s m below meth c A ls C hD hP hS hl
  have hDD : ∀ (rt : Nat) (Mm : SMM) (M0 : SMT) (M1 : SMT), va_D A (m_cw ad ca ky ty rt Mm M0 M1) := fun _ _ _ _ => o_D_map hD rfl
  have hl : lv_has ls 6 [(0, .ref (ad 0)), (1, .int x1)] := hl
  unfold m_MM_one at h
  have C0 := C
  obtain ⟨hx, hb, -, -, -, hown, hts, hK, -, -⟩ := C0
  refine lv_aload_n hx hb d_MM_one_0 rfl (lv_at hl 0 rfl) ?_
  refine lv_iconst (v := (0:Int32)) hx hb d_MM_one_1 (by decide) ?_
  obtain ⟨q1, hq1, h⟩ := o_bd_some h
  refine o_V (st1 := [.int q1]) (w1 := (m_cw ad ca ky ty 48 Mm M0 tc)) hE.1 C (e_MM_p_b hE hKy l (0:Int32) tc Mm M0 hq1) hP (hDD _ _ _ _) hS hl.1 rfl mw_0 k_9_70 k_9_72 k_s_89 k_1_12 k_9_73 hv_MM_p rfl rfl ⟨(by dsimp only [rm_MM_one, rm_MM_p]; omega), (by dsimp only [rm_MM_one, rm_MM_p]; omega)⟩ rfl (Nat.le_of_ble_eq_true rfl) ⟨Nat.zero_le _, Nat.zero_le _⟩ rfl d_MM_one_2 (fun H locs hP hS => ?_)
  refine lv_istore_n (lv' := [(2, .int q1), (0, .ref (ad 0)), (1, .int x1)]) hx hb d_MM_one_5 rfl hl (by decide) rfl (fun ls hl => ?_)
  refine lv_iload_n hx hb d_MM_one_6 rfl (lv_at hl 0 rfl) ?_
  refine lv_bipush (v := (94:Int32)) hx hb d_MM_one_7 (by decide) ?_
  refine lv_icmp_eq (tgt := 18) hx hb d_MM_one_9 (by decide) (fun c1 => ?_) (fun c1 => ?_)
  · replace h := o_tt c1 h
    exact f_MM_one_j18_b hE hKy C hDD d rec hrec n q1 tc Mm M0 h _ _ _ hP hS (lv_sub hl [1, 0] rfl)
  · replace h := o_ff c1 h
    refine lv_iload_n hx hb d_MM_one_12 rfl (lv_at hl 0 rfl) ?_
    refine lv_bipush (v := (36:Int32)) hx hb d_MM_one_13 (by decide) ?_
    refine lv_icmp_ne (tgt := 45) hx hb d_MM_one_15 (by decide) (fun c3 => ?_) (fun c3 => ?_)
    · replace h := o_ff c3 h
      refine lv_iload_n hx hb d_MM_one_45 rfl (lv_at hl 0 rfl) ?_
      refine lv_bipush (v := (40:Int32)) hx hb d_MM_one_46 (by decide) ?_
      refine lv_icmp_ne (tgt := 145) hx hb d_MM_one_48 (by decide) (fun c4 => ?_) (fun c4 => ?_)
      · replace h := o_ff c4 h
        refine lv_iload_n hx hb d_MM_one_145 rfl (lv_at hl 0 rfl) ?_
        refine lv_bipush (v := (91:Int32)) hx hb d_MM_one_146 (by decide) ?_
        refine lv_icmp_ne (tgt := 159) hx hb d_MM_one_148 (by decide) (fun c5 => ?_) (fun c5 => ?_)
        · replace h := o_ff c5 h
          refine lv_iload_n hx hb d_MM_one_159 rfl (lv_at hl 0 rfl) ?_
          refine lv_bipush (v := (92:Int32)) hx hb d_MM_one_160 (by decide) ?_
          refine lv_icmp_ne (tgt := 212) hx hb d_MM_one_162 (by decide) (fun c6 => ?_) (fun c6 => ?_)
          · replace h := o_ff c6 h
            refine lv_iload_n hx hb d_MM_one_212 rfl (lv_at hl 0 rfl) ?_
            refine lv_bipush (v := (46:Int32)) hx hb d_MM_one_213 (by decide) ?_
            refine lv_icmp_ne (tgt := 271) hx hb d_MM_one_215 (by decide) (fun c7 => ?_) (fun c7 => ?_)
            · replace h := o_ff c7 h
              refine lv_iload_n hx hb d_MM_one_271 rfl (lv_at hl 0 rfl) ?_
              refine lv_bipush (v := (42:Int32)) hx hb d_MM_one_272 (by decide) ?_
              refine lv_icmp_eq (tgt := 313) hx hb d_MM_one_274 (by decide) (fun c8 => ?_) (fun c8 => ?_)
              · replace h := o_tt c8 h
                exact f_MM_one_j313_b hE hKy C hDD d rec hrec n tc Mm M0 h _ _ _ hP hS (lv_sub hl [1] rfl)
              · replace h := o_ff c8 h
                refine lv_iload_n hx hb d_MM_one_277 rfl (lv_at hl 0 rfl) ?_
                refine lv_bipush (v := (43:Int32)) hx hb d_MM_one_278 (by decide) ?_
                refine lv_icmp_eq (tgt := 313) hx hb d_MM_one_280 (by decide) (fun c9 => ?_) (fun c9 => ?_)
                · replace h := o_tt c9 h
                  exact f_MM_one_j313_b hE hKy C hDD d rec hrec n tc Mm M0 h _ _ _ hP hS (lv_sub hl [1] rfl)
                · replace h := o_ff c9 h
                  refine lv_iload_n hx hb d_MM_one_283 rfl (lv_at hl 0 rfl) ?_
                  refine lv_bipush (v := (63:Int32)) hx hb d_MM_one_284 (by decide) ?_
                  refine lv_icmp_eq (tgt := 313) hx hb d_MM_one_286 (by decide) (fun c10 => ?_) (fun c10 => ?_)
                  · replace h := o_tt c10 h
                    exact f_MM_one_j313_b hE hKy C hDD d rec hrec n tc Mm M0 h _ _ _ hP hS (lv_sub hl [1] rfl)
                  · replace h := o_ff c10 h
                    refine lv_iload_n hx hb d_MM_one_289 rfl (lv_at hl 0 rfl) ?_
                    refine lv_bipush (v := (41:Int32)) hx hb d_MM_one_290 (by decide) ?_
                    refine lv_icmp_eq (tgt := 313) hx hb d_MM_one_292 (by decide) (fun c11 => ?_) (fun c11 => ?_)
                    · replace h := o_tt c11 h
                      exact f_MM_one_j313_b hE hKy C hDD d rec hrec n tc Mm M0 h _ _ _ hP hS (lv_sub hl [1] rfl)
                    · replace h := o_ff c11 h
                      refine lv_iload_n hx hb d_MM_one_295 rfl (lv_at hl 0 rfl) ?_
                      refine lv_bipush (v := (93:Int32)) hx hb d_MM_one_296 (by decide) ?_
                      refine lv_icmp_eq (tgt := 313) hx hb d_MM_one_298 (by decide) (fun c12 => ?_) (fun c12 => ?_)
                      · replace h := o_tt c12 h
                        exact f_MM_one_j313_b hE hKy C hDD d rec hrec n tc Mm M0 h _ _ _ hP hS (lv_sub hl [1] rfl)
                      · replace h := o_ff c12 h
                        refine lv_iload_n hx hb d_MM_one_301 rfl (lv_at hl 0 rfl) ?_
                        refine lv_bipush (v := (123:Int32)) hx hb d_MM_one_302 (by decide) ?_
                        refine lv_icmp_eq (tgt := 313) hx hb d_MM_one_304 (by decide) (fun c13 => ?_) (fun c13 => ?_)
                        · replace h := o_tt c13 h
                          exact f_MM_one_j313_b hE hKy C hDD d rec hrec n tc Mm M0 h _ _ _ hP hS (lv_sub hl [1] rfl)
                        · replace h := o_ff c13 h
                          refine lv_iload_n hx hb d_MM_one_307 rfl (lv_at hl 0 rfl) ?_
                          refine lv_bipush (v := (125:Int32)) hx hb d_MM_one_308 (by decide) ?_
                          refine lv_icmp_ne (tgt := 318) hx hb d_MM_one_310 (by decide) (fun c14 => ?_) (fun c14 => ?_)
                          · replace h := o_ff c14 h
                            refine lv_aload_n hx hb d_MM_one_318 rfl (lv_at hl 1 rfl) ?_
                            refine lv_dup hx hb d_MM_one_319 rfl ?_
                            refine o_get (v := .int (MM_pat Mm)) C in_MM hP 0 mw_0 rfl 27 (by decide) k_8_17 rfl rfl d_MM_one_320 ?_
                            refine lv_iconst (v := (1:Int32)) hx hb d_MM_one_323 (by decide) ?_
                            refine lv_iadd hx hb d_MM_one_324 ?_
                            refine o_put (v := .int ((MM_pat Mm) + (1:Int32))) (ty := .int) (w1 := (m_cw ad ca ky ty 48 (MM_mk (MM_err Mm) (MM_fed Mm) (MM_wrong Mm) (MM_octets Mm) (MM_nodeKind Mm) (MM_nodeA Mm) (MM_nodeB Mm) (MM_nodeC Mm) (MM_nodeNext Mm) (MM_low Mm) (MM_high Mm) (MM_setFrom Mm) (MM_setTo Mm) (MM_setNot Mm) (MM_op Mm) (MM_opA Mm) (MM_opB Mm) (MM_mark Mm) (MM_now Mm) (MM_then Mm) (MM_todo Mm) (MM_nodes Mm) (MM_sets Mm) (MM_ranges Mm) (MM_steps Mm) ((MM_pat Mm) + (1:Int32)) (MM_patEnd Mm) (MM_round Mm) (MM_many1 Mm) (MM_broken Mm) (MM_checked Mm) (MM_faultKind Mm) (MM_faultValue Mm) (MM_latestFault Mm) (MM_anchors Mm) (MM_key Mm) (MM_target Mm) (MM_anchorValue Mm) (MM_anchorSchema Mm) (MM_path Mm) (MM_route Mm) (MM_isSchema Mm) (MM_seen1 Mm) (MM_pathSize Mm) (MM_octetRow Mm) (MM_partRow Mm) (MM_pairValue Mm) (MM_pairKey Mm) (MM_pairs Mm) (MM_judged Mm) (MM_deepest Mm) (MM_depth Mm) (MM_over Mm) (MM_seen Mm)) M0 tc)) C in_MM t_MM t_MM_ok n_MM hP (hDD _ _ _ _) hS 0 mw_0 rfl 27 (by decide) k_8_17 rfl rfl (by decide +kernel) rfl rfl (Nat.le_of_ble_eq_true rfl) rfl d_MM_one_325 (fun H locs hP hS => ?_)
                            refine lv_aload_n hx hb d_MM_one_328 rfl (lv_at hl 1 rfl) ?_
                            obtain ⟨q4, hq4, h⟩ := o_bd_some h
                            refine o_V (st1 := [.int q4]) (w1 := (m_cw ad ca ky ty 48 (MM_mk (MM_err Mm) (MM_fed Mm) (MM_wrong Mm) (MM_octets Mm) (MM_nodeKind Mm) (MM_nodeA Mm) (MM_nodeB Mm) (MM_nodeC Mm) (MM_nodeNext Mm) (MM_low Mm) (MM_high Mm) (MM_setFrom Mm) (MM_setTo Mm) (MM_setNot Mm) (MM_op Mm) (MM_opA Mm) (MM_opB Mm) (MM_mark Mm) (MM_now Mm) (MM_then Mm) (MM_todo Mm) (MM_nodes Mm) (MM_sets Mm) (MM_ranges Mm) (MM_steps Mm) ((MM_pat Mm) + (1:Int32)) (MM_patEnd Mm) (MM_round Mm) (MM_many1 Mm) (MM_broken Mm) (MM_checked Mm) (MM_faultKind Mm) (MM_faultValue Mm) (MM_latestFault Mm) (MM_anchors Mm) (MM_key Mm) (MM_target Mm) (MM_anchorValue Mm) (MM_anchorSchema Mm) (MM_path Mm) (MM_route Mm) (MM_isSchema Mm) (MM_seen1 Mm) (MM_pathSize Mm) (MM_octetRow Mm) (MM_partRow Mm) (MM_pairValue Mm) (MM_pairKey Mm) (MM_pairs Mm) (MM_judged Mm) (MM_deepest Mm) (MM_depth Mm) (MM_over Mm) (MM_seen Mm)) M0 tc)) hE.1 C (e_MM_begin hE hKy l (MM_mk (MM_err Mm) (MM_fed Mm) (MM_wrong Mm) (MM_octets Mm) (MM_nodeKind Mm) (MM_nodeA Mm) (MM_nodeB Mm) (MM_nodeC Mm) (MM_nodeNext Mm) (MM_low Mm) (MM_high Mm) (MM_setFrom Mm) (MM_setTo Mm) (MM_setNot Mm) (MM_op Mm) (MM_opA Mm) (MM_opB Mm) (MM_mark Mm) (MM_now Mm) (MM_then Mm) (MM_todo Mm) (MM_nodes Mm) (MM_sets Mm) (MM_ranges Mm) (MM_steps Mm) ((MM_pat Mm) + (1:Int32)) (MM_patEnd Mm) (MM_round Mm) (MM_many1 Mm) (MM_broken Mm) (MM_checked Mm) (MM_faultKind Mm) (MM_faultValue Mm) (MM_latestFault Mm) (MM_anchors Mm) (MM_key Mm) (MM_target Mm) (MM_anchorValue Mm) (MM_anchorSchema Mm) (MM_path Mm) (MM_route Mm) (MM_isSchema Mm) (MM_seen1 Mm) (MM_pathSize Mm) (MM_octetRow Mm) (MM_partRow Mm) (MM_pairValue Mm) (MM_pairKey Mm) (MM_pairs Mm) (MM_judged Mm) (MM_deepest Mm) (MM_depth Mm) (MM_over Mm) (MM_seen Mm)) M0 tc 48 hq4) hP (hDD _ _ _ _) hS hl.1 rfl mw_0 k_9_86 k_9_88 k_s_93 k_1_12 k_9_89 hv_MM_begin rfl rfl ⟨(by dsimp only [rm_MM_one, rm_MM_begin]; omega), (by dsimp only [rm_MM_one, rm_MM_begin]; omega)⟩ rfl (Nat.le_of_ble_eq_true rfl) ⟨Nat.zero_le _, Nat.zero_le _⟩ rfl d_MM_one_329 (fun H locs hP hS => ?_)
                            refine lv_istore (lv' := [(4, .int q4), (2, .int q1), (0, .ref (ad 0)), (1, .int x1)]) hx hb d_MM_one_332 hl (by decide) rfl (fun ls hl => ?_)
                            refine lv_aload_n hx hb d_MM_one_334 rfl (lv_at hl 2 rfl) ?_
                            refine lv_iload_n hx hb d_MM_one_335 rfl (lv_at hl 1 rfl) ?_
                            refine lv_iload_n hx hb d_MM_one_336 rfl (lv_at hl 1 rfl) ?_
                            obtain ⟨q5, hq5, h⟩ := o_bd_some h
                            refine o_V (st1 := []) (w1 := (m_cw ad ca ky ty 48 q5 M0 tc)) hE.1 C (e_MM_range hE hKy l q1 q1 (MM_mk (MM_err Mm) (MM_fed Mm) (MM_wrong Mm) (MM_octets Mm) (MM_nodeKind Mm) (MM_nodeA Mm) (MM_nodeB Mm) (MM_nodeC Mm) (MM_nodeNext Mm) (MM_low Mm) (MM_high Mm) (MM_setFrom Mm) (MM_setTo Mm) (MM_setNot Mm) (MM_op Mm) (MM_opA Mm) (MM_opB Mm) (MM_mark Mm) (MM_now Mm) (MM_then Mm) (MM_todo Mm) (MM_nodes Mm) (MM_sets Mm) (MM_ranges Mm) (MM_steps Mm) ((MM_pat Mm) + (1:Int32)) (MM_patEnd Mm) (MM_round Mm) (MM_many1 Mm) (MM_broken Mm) (MM_checked Mm) (MM_faultKind Mm) (MM_faultValue Mm) (MM_latestFault Mm) (MM_anchors Mm) (MM_key Mm) (MM_target Mm) (MM_anchorValue Mm) (MM_anchorSchema Mm) (MM_path Mm) (MM_route Mm) (MM_isSchema Mm) (MM_seen1 Mm) (MM_pathSize Mm) (MM_octetRow Mm) (MM_partRow Mm) (MM_pairValue Mm) (MM_pairKey Mm) (MM_pairs Mm) (MM_judged Mm) (MM_deepest Mm) (MM_depth Mm) (MM_over Mm) (MM_seen Mm)) M0 tc 48 hq5) hP (hDD _ _ _ _) hS hl.1 rfl mw_0 k_9_102 k_9_104 k_s_97 k_1_12 k_9_105 hv_MM_range rfl rfl ⟨(by dsimp only [rm_MM_one, rm_MM_range]; omega), (by dsimp only [rm_MM_one, rm_MM_range]; omega)⟩ rfl (Nat.le_of_ble_eq_true rfl) ⟨Nat.zero_le _, Nat.zero_le _⟩ rfl d_MM_one_337 (fun H locs hP hS => ?_)
                            refine lv_aload_n hx hb d_MM_one_340 rfl (lv_at hl 2 rfl) ?_
                            refine lv_iload hx hb d_MM_one_341 (lv_at hl 0 rfl) ?_
                            refine lv_iconst (v := (0:Int32)) hx hb d_MM_one_343 (by decide) ?_
                            obtain ⟨q6, hq6, h⟩ := o_bd_some h
                            refine o_V (st1 := [.int q6.1]) (w1 := (m_cw ad ca ky ty 48 q6.2 M0 tc)) hE.1 C (e_MM_close hE hKy l q4 (0:Int32) q5 M0 tc 48 hq6) hP (hDD _ _ _ _) hS hl.1 rfl mw_0 k_9_117 k_9_119 k_s_100 k_1_12 k_9_120 hv_MM_close rfl rfl ⟨(by dsimp only [rm_MM_one, rm_MM_close]; omega), (by dsimp only [rm_MM_one, rm_MM_close]; omega)⟩ rfl (Nat.le_of_ble_eq_true rfl) ⟨Nat.zero_le _, Nat.zero_le _⟩ rfl d_MM_one_344 (fun H locs hP hS => ?_)
                            refine lv_istore_n (lv' := [(3, .int q6.1), (4, .int q4), (2, .int q1), (0, .ref (ad 0)), (1, .int x1)]) hx hb d_MM_one_347 rfl hl (by decide) rfl (fun ls hl => ?_)
                            exact f_MM_one_j348_b hE hKy C hDD d rec hrec n q6.1 tc q6.2 M0 h _ _ _ hP hS (lv_sub hl [3, 0] rfl)
                          · replace h := o_tt c14 h
                            exact f_MM_one_j313_b hE hKy C hDD d rec hrec n tc Mm M0 h _ _ _ hP hS (lv_sub hl [1] rfl)
            · replace h := o_tt c7 h
              refine lv_aload_n hx hb d_MM_one_218 rfl (lv_at hl 1 rfl) ?_
              refine lv_dup hx hb d_MM_one_219 rfl ?_
              refine o_get (v := .int (MM_pat Mm)) C in_MM hP 0 mw_0 rfl 27 (by decide) k_8_17 rfl rfl d_MM_one_220 ?_
              refine lv_iconst (v := (1:Int32)) hx hb d_MM_one_223 (by decide) ?_
              refine lv_iadd hx hb d_MM_one_224 ?_
              refine o_put (v := .int ((MM_pat Mm) + (1:Int32))) (ty := .int) (w1 := (m_cw ad ca ky ty 48 (MM_mk (MM_err Mm) (MM_fed Mm) (MM_wrong Mm) (MM_octets Mm) (MM_nodeKind Mm) (MM_nodeA Mm) (MM_nodeB Mm) (MM_nodeC Mm) (MM_nodeNext Mm) (MM_low Mm) (MM_high Mm) (MM_setFrom Mm) (MM_setTo Mm) (MM_setNot Mm) (MM_op Mm) (MM_opA Mm) (MM_opB Mm) (MM_mark Mm) (MM_now Mm) (MM_then Mm) (MM_todo Mm) (MM_nodes Mm) (MM_sets Mm) (MM_ranges Mm) (MM_steps Mm) ((MM_pat Mm) + (1:Int32)) (MM_patEnd Mm) (MM_round Mm) (MM_many1 Mm) (MM_broken Mm) (MM_checked Mm) (MM_faultKind Mm) (MM_faultValue Mm) (MM_latestFault Mm) (MM_anchors Mm) (MM_key Mm) (MM_target Mm) (MM_anchorValue Mm) (MM_anchorSchema Mm) (MM_path Mm) (MM_route Mm) (MM_isSchema Mm) (MM_seen1 Mm) (MM_pathSize Mm) (MM_octetRow Mm) (MM_partRow Mm) (MM_pairValue Mm) (MM_pairKey Mm) (MM_pairs Mm) (MM_judged Mm) (MM_deepest Mm) (MM_depth Mm) (MM_over Mm) (MM_seen Mm)) M0 tc)) C in_MM t_MM t_MM_ok n_MM hP (hDD _ _ _ _) hS 0 mw_0 rfl 27 (by decide) k_8_17 rfl rfl (by decide +kernel) rfl rfl (Nat.le_of_ble_eq_true rfl) rfl d_MM_one_225 (fun H locs hP hS => ?_)
              refine lv_aload_n hx hb d_MM_one_228 rfl (lv_at hl 1 rfl) ?_
              obtain ⟨q8, hq8, h⟩ := o_bd_some h
              refine o_V (st1 := [.int q8]) (w1 := (m_cw ad ca ky ty 48 (MM_mk (MM_err Mm) (MM_fed Mm) (MM_wrong Mm) (MM_octets Mm) (MM_nodeKind Mm) (MM_nodeA Mm) (MM_nodeB Mm) (MM_nodeC Mm) (MM_nodeNext Mm) (MM_low Mm) (MM_high Mm) (MM_setFrom Mm) (MM_setTo Mm) (MM_setNot Mm) (MM_op Mm) (MM_opA Mm) (MM_opB Mm) (MM_mark Mm) (MM_now Mm) (MM_then Mm) (MM_todo Mm) (MM_nodes Mm) (MM_sets Mm) (MM_ranges Mm) (MM_steps Mm) ((MM_pat Mm) + (1:Int32)) (MM_patEnd Mm) (MM_round Mm) (MM_many1 Mm) (MM_broken Mm) (MM_checked Mm) (MM_faultKind Mm) (MM_faultValue Mm) (MM_latestFault Mm) (MM_anchors Mm) (MM_key Mm) (MM_target Mm) (MM_anchorValue Mm) (MM_anchorSchema Mm) (MM_path Mm) (MM_route Mm) (MM_isSchema Mm) (MM_seen1 Mm) (MM_pathSize Mm) (MM_octetRow Mm) (MM_partRow Mm) (MM_pairValue Mm) (MM_pairKey Mm) (MM_pairs Mm) (MM_judged Mm) (MM_deepest Mm) (MM_depth Mm) (MM_over Mm) (MM_seen Mm)) M0 tc)) hE.1 C (e_MM_begin hE hKy l (MM_mk (MM_err Mm) (MM_fed Mm) (MM_wrong Mm) (MM_octets Mm) (MM_nodeKind Mm) (MM_nodeA Mm) (MM_nodeB Mm) (MM_nodeC Mm) (MM_nodeNext Mm) (MM_low Mm) (MM_high Mm) (MM_setFrom Mm) (MM_setTo Mm) (MM_setNot Mm) (MM_op Mm) (MM_opA Mm) (MM_opB Mm) (MM_mark Mm) (MM_now Mm) (MM_then Mm) (MM_todo Mm) (MM_nodes Mm) (MM_sets Mm) (MM_ranges Mm) (MM_steps Mm) ((MM_pat Mm) + (1:Int32)) (MM_patEnd Mm) (MM_round Mm) (MM_many1 Mm) (MM_broken Mm) (MM_checked Mm) (MM_faultKind Mm) (MM_faultValue Mm) (MM_latestFault Mm) (MM_anchors Mm) (MM_key Mm) (MM_target Mm) (MM_anchorValue Mm) (MM_anchorSchema Mm) (MM_path Mm) (MM_route Mm) (MM_isSchema Mm) (MM_seen1 Mm) (MM_pathSize Mm) (MM_octetRow Mm) (MM_partRow Mm) (MM_pairValue Mm) (MM_pairKey Mm) (MM_pairs Mm) (MM_judged Mm) (MM_deepest Mm) (MM_depth Mm) (MM_over Mm) (MM_seen Mm)) M0 tc 48 hq8) hP (hDD _ _ _ _) hS hl.1 rfl mw_0 k_9_86 k_9_88 k_s_93 k_1_12 k_9_89 hv_MM_begin rfl rfl ⟨(by dsimp only [rm_MM_one, rm_MM_begin]; omega), (by dsimp only [rm_MM_one, rm_MM_begin]; omega)⟩ rfl (Nat.le_of_ble_eq_true rfl) ⟨Nat.zero_le _, Nat.zero_le _⟩ rfl d_MM_one_229 (fun H locs hP hS => ?_)
              refine lv_istore (lv' := [(4, .int q8), (2, .int q1), (0, .ref (ad 0)), (1, .int x1)]) hx hb d_MM_one_232 hl (by decide) rfl (fun ls hl => ?_)
              refine lv_aload_n hx hb d_MM_one_234 rfl (lv_at hl 2 rfl) ?_
              refine lv_bipush (v := (10:Int32)) hx hb d_MM_one_235 (by decide) ?_
              refine lv_bipush (v := (10:Int32)) hx hb d_MM_one_237 (by decide) ?_
              obtain ⟨q9, hq9, h⟩ := o_bd_some h
              refine o_V (st1 := []) (w1 := (m_cw ad ca ky ty 48 q9 M0 tc)) hE.1 C (e_MM_range hE hKy l (10:Int32) (10:Int32) (MM_mk (MM_err Mm) (MM_fed Mm) (MM_wrong Mm) (MM_octets Mm) (MM_nodeKind Mm) (MM_nodeA Mm) (MM_nodeB Mm) (MM_nodeC Mm) (MM_nodeNext Mm) (MM_low Mm) (MM_high Mm) (MM_setFrom Mm) (MM_setTo Mm) (MM_setNot Mm) (MM_op Mm) (MM_opA Mm) (MM_opB Mm) (MM_mark Mm) (MM_now Mm) (MM_then Mm) (MM_todo Mm) (MM_nodes Mm) (MM_sets Mm) (MM_ranges Mm) (MM_steps Mm) ((MM_pat Mm) + (1:Int32)) (MM_patEnd Mm) (MM_round Mm) (MM_many1 Mm) (MM_broken Mm) (MM_checked Mm) (MM_faultKind Mm) (MM_faultValue Mm) (MM_latestFault Mm) (MM_anchors Mm) (MM_key Mm) (MM_target Mm) (MM_anchorValue Mm) (MM_anchorSchema Mm) (MM_path Mm) (MM_route Mm) (MM_isSchema Mm) (MM_seen1 Mm) (MM_pathSize Mm) (MM_octetRow Mm) (MM_partRow Mm) (MM_pairValue Mm) (MM_pairKey Mm) (MM_pairs Mm) (MM_judged Mm) (MM_deepest Mm) (MM_depth Mm) (MM_over Mm) (MM_seen Mm)) M0 tc 48 hq9) hP (hDD _ _ _ _) hS hl.1 rfl mw_0 k_9_102 k_9_104 k_s_97 k_1_12 k_9_105 hv_MM_range rfl rfl ⟨(by dsimp only [rm_MM_one, rm_MM_range]; omega), (by dsimp only [rm_MM_one, rm_MM_range]; omega)⟩ rfl (Nat.le_of_ble_eq_true rfl) ⟨Nat.zero_le _, Nat.zero_le _⟩ rfl d_MM_one_239 (fun H locs hP hS => ?_)
              refine lv_aload_n hx hb d_MM_one_242 rfl (lv_at hl 2 rfl) ?_
              refine lv_bipush (v := (13:Int32)) hx hb d_MM_one_243 (by decide) ?_
              refine lv_bipush (v := (13:Int32)) hx hb d_MM_one_245 (by decide) ?_
              obtain ⟨q10, hq10, h⟩ := o_bd_some h
              refine o_V (st1 := []) (w1 := (m_cw ad ca ky ty 48 q10 M0 tc)) hE.1 C (e_MM_range hE hKy l (13:Int32) (13:Int32) q9 M0 tc 48 hq10) hP (hDD _ _ _ _) hS hl.1 rfl mw_0 k_9_102 k_9_104 k_s_97 k_1_12 k_9_105 hv_MM_range rfl rfl ⟨(by dsimp only [rm_MM_one, rm_MM_range]; omega), (by dsimp only [rm_MM_one, rm_MM_range]; omega)⟩ rfl (Nat.le_of_ble_eq_true rfl) ⟨Nat.zero_le _, Nat.zero_le _⟩ rfl d_MM_one_247 (fun H locs hP hS => ?_)
              refine lv_aload_n hx hb d_MM_one_250 rfl (lv_at hl 2 rfl) ?_
              refine lv_sipush (v := (8232:Int32)) hx hb d_MM_one_251 (by decide) ?_
              refine lv_sipush (v := (8233:Int32)) hx hb d_MM_one_254 (by decide) ?_
              obtain ⟨q11, hq11, h⟩ := o_bd_some h
              refine o_V (st1 := []) (w1 := (m_cw ad ca ky ty 48 q11 M0 tc)) hE.1 C (e_MM_range hE hKy l (8232:Int32) (8233:Int32) q10 M0 tc 48 hq11) hP (hDD _ _ _ _) hS hl.1 rfl mw_0 k_9_102 k_9_104 k_s_97 k_1_12 k_9_105 hv_MM_range rfl rfl ⟨(by dsimp only [rm_MM_one, rm_MM_range]; omega), (by dsimp only [rm_MM_one, rm_MM_range]; omega)⟩ rfl (Nat.le_of_ble_eq_true rfl) ⟨Nat.zero_le _, Nat.zero_le _⟩ rfl d_MM_one_257 (fun H locs hP hS => ?_)
              refine lv_aload_n hx hb d_MM_one_260 rfl (lv_at hl 2 rfl) ?_
              refine lv_iload hx hb d_MM_one_261 (lv_at hl 0 rfl) ?_
              refine lv_iconst (v := (1:Int32)) hx hb d_MM_one_263 (by decide) ?_
              obtain ⟨q12, hq12, h⟩ := o_bd_some h
              refine o_V (st1 := [.int q12.1]) (w1 := (m_cw ad ca ky ty 48 q12.2 M0 tc)) hE.1 C (e_MM_close hE hKy l q8 (1:Int32) q11 M0 tc 48 hq12) hP (hDD _ _ _ _) hS hl.1 rfl mw_0 k_9_117 k_9_119 k_s_100 k_1_12 k_9_120 hv_MM_close rfl rfl ⟨(by dsimp only [rm_MM_one, rm_MM_close]; omega), (by dsimp only [rm_MM_one, rm_MM_close]; omega)⟩ rfl (Nat.le_of_ble_eq_true rfl) ⟨Nat.zero_le _, Nat.zero_le _⟩ rfl d_MM_one_264 (fun H locs hP hS => ?_)
              refine lv_istore_n (lv' := [(3, .int q12.1), (4, .int q8), (2, .int q1), (0, .ref (ad 0)), (1, .int x1)]) hx hb d_MM_one_267 rfl hl (by decide) rfl (fun ls hl => ?_)
              refine lv_goto (tgt := 348) hx hb d_MM_one_268 (by decide) ?_
              exact f_MM_one_j348_b hE hKy C hDD d rec hrec n q12.1 tc q12.2 M0 h _ _ _ hP hS (lv_sub hl [3, 0] rfl)
          · replace h := o_tt c6 h
            refine lv_aload_n hx hb d_MM_one_165 rfl (lv_at hl 1 rfl) ?_
            refine lv_dup hx hb d_MM_one_166 rfl ?_
            refine o_get (v := .int (MM_pat Mm)) C in_MM hP 0 mw_0 rfl 27 (by decide) k_8_17 rfl rfl d_MM_one_167 ?_
            refine lv_iconst (v := (1:Int32)) hx hb d_MM_one_170 (by decide) ?_
            refine lv_iadd hx hb d_MM_one_171 ?_
            refine o_put (v := .int ((MM_pat Mm) + (1:Int32))) (ty := .int) (w1 := (m_cw ad ca ky ty 48 (MM_mk (MM_err Mm) (MM_fed Mm) (MM_wrong Mm) (MM_octets Mm) (MM_nodeKind Mm) (MM_nodeA Mm) (MM_nodeB Mm) (MM_nodeC Mm) (MM_nodeNext Mm) (MM_low Mm) (MM_high Mm) (MM_setFrom Mm) (MM_setTo Mm) (MM_setNot Mm) (MM_op Mm) (MM_opA Mm) (MM_opB Mm) (MM_mark Mm) (MM_now Mm) (MM_then Mm) (MM_todo Mm) (MM_nodes Mm) (MM_sets Mm) (MM_ranges Mm) (MM_steps Mm) ((MM_pat Mm) + (1:Int32)) (MM_patEnd Mm) (MM_round Mm) (MM_many1 Mm) (MM_broken Mm) (MM_checked Mm) (MM_faultKind Mm) (MM_faultValue Mm) (MM_latestFault Mm) (MM_anchors Mm) (MM_key Mm) (MM_target Mm) (MM_anchorValue Mm) (MM_anchorSchema Mm) (MM_path Mm) (MM_route Mm) (MM_isSchema Mm) (MM_seen1 Mm) (MM_pathSize Mm) (MM_octetRow Mm) (MM_partRow Mm) (MM_pairValue Mm) (MM_pairKey Mm) (MM_pairs Mm) (MM_judged Mm) (MM_deepest Mm) (MM_depth Mm) (MM_over Mm) (MM_seen Mm)) M0 tc)) C in_MM t_MM t_MM_ok n_MM hP (hDD _ _ _ _) hS 0 mw_0 rfl 27 (by decide) k_8_17 rfl rfl (by decide +kernel) rfl rfl (Nat.le_of_ble_eq_true rfl) rfl d_MM_one_172 (fun H locs hP hS => ?_)
            refine lv_aload_n hx hb d_MM_one_175 rfl (lv_at hl 1 rfl) ?_
            obtain ⟨q13, hq13, h⟩ := o_bd_some h
            refine o_V (st1 := [.int q13]) (w1 := (m_cw ad ca ky ty 48 (MM_mk (MM_err Mm) (MM_fed Mm) (MM_wrong Mm) (MM_octets Mm) (MM_nodeKind Mm) (MM_nodeA Mm) (MM_nodeB Mm) (MM_nodeC Mm) (MM_nodeNext Mm) (MM_low Mm) (MM_high Mm) (MM_setFrom Mm) (MM_setTo Mm) (MM_setNot Mm) (MM_op Mm) (MM_opA Mm) (MM_opB Mm) (MM_mark Mm) (MM_now Mm) (MM_then Mm) (MM_todo Mm) (MM_nodes Mm) (MM_sets Mm) (MM_ranges Mm) (MM_steps Mm) ((MM_pat Mm) + (1:Int32)) (MM_patEnd Mm) (MM_round Mm) (MM_many1 Mm) (MM_broken Mm) (MM_checked Mm) (MM_faultKind Mm) (MM_faultValue Mm) (MM_latestFault Mm) (MM_anchors Mm) (MM_key Mm) (MM_target Mm) (MM_anchorValue Mm) (MM_anchorSchema Mm) (MM_path Mm) (MM_route Mm) (MM_isSchema Mm) (MM_seen1 Mm) (MM_pathSize Mm) (MM_octetRow Mm) (MM_partRow Mm) (MM_pairValue Mm) (MM_pairKey Mm) (MM_pairs Mm) (MM_judged Mm) (MM_deepest Mm) (MM_depth Mm) (MM_over Mm) (MM_seen Mm)) M0 tc)) hE.1 C (e_MM_begin hE hKy l (MM_mk (MM_err Mm) (MM_fed Mm) (MM_wrong Mm) (MM_octets Mm) (MM_nodeKind Mm) (MM_nodeA Mm) (MM_nodeB Mm) (MM_nodeC Mm) (MM_nodeNext Mm) (MM_low Mm) (MM_high Mm) (MM_setFrom Mm) (MM_setTo Mm) (MM_setNot Mm) (MM_op Mm) (MM_opA Mm) (MM_opB Mm) (MM_mark Mm) (MM_now Mm) (MM_then Mm) (MM_todo Mm) (MM_nodes Mm) (MM_sets Mm) (MM_ranges Mm) (MM_steps Mm) ((MM_pat Mm) + (1:Int32)) (MM_patEnd Mm) (MM_round Mm) (MM_many1 Mm) (MM_broken Mm) (MM_checked Mm) (MM_faultKind Mm) (MM_faultValue Mm) (MM_latestFault Mm) (MM_anchors Mm) (MM_key Mm) (MM_target Mm) (MM_anchorValue Mm) (MM_anchorSchema Mm) (MM_path Mm) (MM_route Mm) (MM_isSchema Mm) (MM_seen1 Mm) (MM_pathSize Mm) (MM_octetRow Mm) (MM_partRow Mm) (MM_pairValue Mm) (MM_pairKey Mm) (MM_pairs Mm) (MM_judged Mm) (MM_deepest Mm) (MM_depth Mm) (MM_over Mm) (MM_seen Mm)) M0 tc 48 hq13) hP (hDD _ _ _ _) hS hl.1 rfl mw_0 k_9_86 k_9_88 k_s_93 k_1_12 k_9_89 hv_MM_begin rfl rfl ⟨(by dsimp only [rm_MM_one, rm_MM_begin]; omega), (by dsimp only [rm_MM_one, rm_MM_begin]; omega)⟩ rfl (Nat.le_of_ble_eq_true rfl) ⟨Nat.zero_le _, Nat.zero_le _⟩ rfl d_MM_one_176 (fun H locs hP hS => ?_)
            refine lv_istore (lv' := [(4, .int q13), (2, .int q1), (0, .ref (ad 0)), (1, .int x1)]) hx hb d_MM_one_179 hl (by decide) rfl (fun ls hl => ?_)
            refine lv_aload_n hx hb d_MM_one_181 rfl (lv_at hl 2 rfl) ?_
            refine lv_iconst (v := (0:Int32)) hx hb d_MM_one_182 (by decide) ?_
            obtain ⟨q14, hq14, h⟩ := o_bd_some h
            refine o_V (st1 := [.int q14.1]) (w1 := (m_cw ad ca ky ty 48 q14.2 M0 tc)) hE.1 C (e_MM_escape_b hE hKy l n (0:Int32) tc (MM_mk (MM_err Mm) (MM_fed Mm) (MM_wrong Mm) (MM_octets Mm) (MM_nodeKind Mm) (MM_nodeA Mm) (MM_nodeB Mm) (MM_nodeC Mm) (MM_nodeNext Mm) (MM_low Mm) (MM_high Mm) (MM_setFrom Mm) (MM_setTo Mm) (MM_setNot Mm) (MM_op Mm) (MM_opA Mm) (MM_opB Mm) (MM_mark Mm) (MM_now Mm) (MM_then Mm) (MM_todo Mm) (MM_nodes Mm) (MM_sets Mm) (MM_ranges Mm) (MM_steps Mm) ((MM_pat Mm) + (1:Int32)) (MM_patEnd Mm) (MM_round Mm) (MM_many1 Mm) (MM_broken Mm) (MM_checked Mm) (MM_faultKind Mm) (MM_faultValue Mm) (MM_latestFault Mm) (MM_anchors Mm) (MM_key Mm) (MM_target Mm) (MM_anchorValue Mm) (MM_anchorSchema Mm) (MM_path Mm) (MM_route Mm) (MM_isSchema Mm) (MM_seen1 Mm) (MM_pathSize Mm) (MM_octetRow Mm) (MM_partRow Mm) (MM_pairValue Mm) (MM_pairKey Mm) (MM_pairs Mm) (MM_judged Mm) (MM_deepest Mm) (MM_depth Mm) (MM_over Mm) (MM_seen Mm)) M0 hq14) hP (hDD _ _ _ _) hS hl.1 rfl mw_0 k_9_94 k_9_96 k_s_95 k_1_12 k_9_97 hv_MM_escape rfl rfl ⟨(by dsimp only [rm_MM_one, rm_MM_escape]; omega), (by dsimp only [rm_MM_one, rm_MM_escape]; omega)⟩ rfl (Nat.le_of_ble_eq_true rfl) ⟨Nat.zero_le _, Nat.zero_le _⟩ rfl d_MM_one_183 (fun H locs hP hS => ?_)
            refine lv_istore (lv' := [(5, .int q14.1), (4, .int q13), (2, .int q1), (0, .ref (ad 0)), (1, .int x1)]) hx hb d_MM_one_186 hl (by decide) rfl (fun ls hl => ?_)
            refine lv_iload hx hb d_MM_one_188 (lv_at hl 0 rfl) ?_
            refine lv_if_lt (tgt := 201) hx hb d_MM_one_190 (by decide) (fun c16 => ?_) (fun c16 => ?_)
            · replace h := o_tt c16 h
              exact f_MM_one_j201_b hE hKy C hDD d rec hrec n q13 tc q14.2 M0 h _ _ _ hP hS (lv_sub hl [3, 1] rfl)
            · replace h := o_ff c16 h
              refine lv_aload_n hx hb d_MM_one_193 rfl (lv_at hl 3 rfl) ?_
              refine lv_iload hx hb d_MM_one_194 (lv_at hl 0 rfl) ?_
              refine lv_iload hx hb d_MM_one_196 (lv_at hl 0 rfl) ?_
              obtain ⟨q16, hq16, h⟩ := o_bd_some h
              refine o_V (st1 := []) (w1 := (m_cw ad ca ky ty 48 q16 M0 tc)) hE.1 C (e_MM_range hE hKy l q14.1 q14.1 q14.2 M0 tc 48 hq16) hP (hDD _ _ _ _) hS hl.1 rfl mw_0 k_9_102 k_9_104 k_s_97 k_1_12 k_9_105 hv_MM_range rfl rfl ⟨(by dsimp only [rm_MM_one, rm_MM_range]; omega), (by dsimp only [rm_MM_one, rm_MM_range]; omega)⟩ rfl (Nat.le_of_ble_eq_true rfl) ⟨Nat.zero_le _, Nat.zero_le _⟩ rfl d_MM_one_198 (fun H locs hP hS => ?_)
              exact f_MM_one_j201_b hE hKy C hDD d rec hrec n q13 tc q16 M0 h _ _ _ hP hS (lv_sub hl [3, 1] rfl)
        · replace h := o_tt c5 h
          refine lv_aload_n hx hb d_MM_one_151 rfl (lv_at hl 1 rfl) ?_
          obtain ⟨q17, hq17, h⟩ := o_bd_some h
          refine o_V (st1 := [.int q17.1]) (w1 := (m_cw ad ca ky ty 48 q17.2 M0 tc)) hE.1 C (e_MM_choice_b hE hKy l n tc Mm M0 hq17) hP (hDD _ _ _ _) hS hl.1 rfl mw_0 k_9_82 k_9_84 k_s_92 k_1_12 k_9_85 hv_MM_choice rfl rfl ⟨(by dsimp only [rm_MM_one, rm_MM_choice]; omega), (by dsimp only [rm_MM_one, rm_MM_choice]; omega)⟩ rfl (Nat.le_of_ble_eq_true rfl) ⟨Nat.zero_le _, Nat.zero_le _⟩ rfl d_MM_one_152 (fun H locs hP hS => ?_)
          refine lv_istore_n (lv' := [(3, .int q17.1), (2, .int q1), (0, .ref (ad 0)), (1, .int x1)]) hx hb d_MM_one_155 rfl hl (by decide) rfl (fun ls hl => ?_)
          refine lv_goto (tgt := 348) hx hb d_MM_one_156 (by decide) ?_
          exact f_MM_one_j348_b hE hKy C hDD d rec hrec n q17.1 tc q17.2 M0 h _ _ _ hP hS (lv_sub hl [2, 0] rfl)
      · replace h := o_tt c4 h
        refine lv_iload_n hx hb d_MM_one_51 rfl (lv_at hl 2 rfl) ?_
        refine lv_bipush (v := (30:Int32)) hx hb d_MM_one_52 (by decide) ?_
        refine lv_icmp_ne (tgt := 62) hx hb d_MM_one_54 (by decide) (fun c17 => ?_) (fun c17 => ?_)
        · replace h := o_ff c17 h
          refine lv_aload_n hx hb d_MM_one_62 rfl (lv_at hl 1 rfl) ?_
          refine lv_dup hx hb d_MM_one_63 rfl ?_
          refine o_get (v := .int (MM_pat Mm)) C in_MM hP 0 mw_0 rfl 27 (by decide) k_8_17 rfl rfl d_MM_one_64 ?_
          refine lv_iconst (v := (1:Int32)) hx hb d_MM_one_67 (by decide) ?_
          refine lv_iadd hx hb d_MM_one_68 ?_
          refine o_put (v := .int ((MM_pat Mm) + (1:Int32))) (ty := .int) (w1 := (m_cw ad ca ky ty 48 (MM_mk (MM_err Mm) (MM_fed Mm) (MM_wrong Mm) (MM_octets Mm) (MM_nodeKind Mm) (MM_nodeA Mm) (MM_nodeB Mm) (MM_nodeC Mm) (MM_nodeNext Mm) (MM_low Mm) (MM_high Mm) (MM_setFrom Mm) (MM_setTo Mm) (MM_setNot Mm) (MM_op Mm) (MM_opA Mm) (MM_opB Mm) (MM_mark Mm) (MM_now Mm) (MM_then Mm) (MM_todo Mm) (MM_nodes Mm) (MM_sets Mm) (MM_ranges Mm) (MM_steps Mm) ((MM_pat Mm) + (1:Int32)) (MM_patEnd Mm) (MM_round Mm) (MM_many1 Mm) (MM_broken Mm) (MM_checked Mm) (MM_faultKind Mm) (MM_faultValue Mm) (MM_latestFault Mm) (MM_anchors Mm) (MM_key Mm) (MM_target Mm) (MM_anchorValue Mm) (MM_anchorSchema Mm) (MM_path Mm) (MM_route Mm) (MM_isSchema Mm) (MM_seen1 Mm) (MM_pathSize Mm) (MM_octetRow Mm) (MM_partRow Mm) (MM_pairValue Mm) (MM_pairKey Mm) (MM_pairs Mm) (MM_judged Mm) (MM_deepest Mm) (MM_depth Mm) (MM_over Mm) (MM_seen Mm)) M0 tc)) C in_MM t_MM t_MM_ok n_MM hP (hDD _ _ _ _) hS 0 mw_0 rfl 27 (by decide) k_8_17 rfl rfl (by decide +kernel) rfl rfl (Nat.le_of_ble_eq_true rfl) rfl d_MM_one_69 (fun H locs hP hS => ?_)
          refine lv_aload_n hx hb d_MM_one_72 rfl (lv_at hl 1 rfl) ?_
          refine lv_iconst (v := (0:Int32)) hx hb d_MM_one_73 (by decide) ?_
          obtain ⟨q18, hq18, h⟩ := o_bd_some h
          refine o_V (st1 := [.int q18]) (w1 := (m_cw ad ca ky ty 48 (MM_mk (MM_err Mm) (MM_fed Mm) (MM_wrong Mm) (MM_octets Mm) (MM_nodeKind Mm) (MM_nodeA Mm) (MM_nodeB Mm) (MM_nodeC Mm) (MM_nodeNext Mm) (MM_low Mm) (MM_high Mm) (MM_setFrom Mm) (MM_setTo Mm) (MM_setNot Mm) (MM_op Mm) (MM_opA Mm) (MM_opB Mm) (MM_mark Mm) (MM_now Mm) (MM_then Mm) (MM_todo Mm) (MM_nodes Mm) (MM_sets Mm) (MM_ranges Mm) (MM_steps Mm) ((MM_pat Mm) + (1:Int32)) (MM_patEnd Mm) (MM_round Mm) (MM_many1 Mm) (MM_broken Mm) (MM_checked Mm) (MM_faultKind Mm) (MM_faultValue Mm) (MM_latestFault Mm) (MM_anchors Mm) (MM_key Mm) (MM_target Mm) (MM_anchorValue Mm) (MM_anchorSchema Mm) (MM_path Mm) (MM_route Mm) (MM_isSchema Mm) (MM_seen1 Mm) (MM_pathSize Mm) (MM_octetRow Mm) (MM_partRow Mm) (MM_pairValue Mm) (MM_pairKey Mm) (MM_pairs Mm) (MM_judged Mm) (MM_deepest Mm) (MM_depth Mm) (MM_over Mm) (MM_seen Mm)) M0 tc)) hE.1 C (e_MM_p_b hE hKy l (0:Int32) tc (MM_mk (MM_err Mm) (MM_fed Mm) (MM_wrong Mm) (MM_octets Mm) (MM_nodeKind Mm) (MM_nodeA Mm) (MM_nodeB Mm) (MM_nodeC Mm) (MM_nodeNext Mm) (MM_low Mm) (MM_high Mm) (MM_setFrom Mm) (MM_setTo Mm) (MM_setNot Mm) (MM_op Mm) (MM_opA Mm) (MM_opB Mm) (MM_mark Mm) (MM_now Mm) (MM_then Mm) (MM_todo Mm) (MM_nodes Mm) (MM_sets Mm) (MM_ranges Mm) (MM_steps Mm) ((MM_pat Mm) + (1:Int32)) (MM_patEnd Mm) (MM_round Mm) (MM_many1 Mm) (MM_broken Mm) (MM_checked Mm) (MM_faultKind Mm) (MM_faultValue Mm) (MM_latestFault Mm) (MM_anchors Mm) (MM_key Mm) (MM_target Mm) (MM_anchorValue Mm) (MM_anchorSchema Mm) (MM_path Mm) (MM_route Mm) (MM_isSchema Mm) (MM_seen1 Mm) (MM_pathSize Mm) (MM_octetRow Mm) (MM_partRow Mm) (MM_pairValue Mm) (MM_pairKey Mm) (MM_pairs Mm) (MM_judged Mm) (MM_deepest Mm) (MM_depth Mm) (MM_over Mm) (MM_seen Mm)) M0 hq18) hP (hDD _ _ _ _) hS hl.1 rfl mw_0 k_9_70 k_9_72 k_s_89 k_1_12 k_9_73 hv_MM_p rfl rfl ⟨(by dsimp only [rm_MM_one, rm_MM_p]; omega), (by dsimp only [rm_MM_one, rm_MM_p]; omega)⟩ rfl (Nat.le_of_ble_eq_true rfl) ⟨Nat.zero_le _, Nat.zero_le _⟩ rfl d_MM_one_74 (fun H locs hP hS => ?_)
          refine lv_bipush (v := (63:Int32)) hx hb d_MM_one_77 (by decide) ?_
          refine lv_icmp_ne (tgt := 102) hx hb d_MM_one_79 (by decide) (fun c18 => ?_) (fun c18 => ?_)
          · replace h := o_ff c18 h
            exact f_MM_one_j102_b hE hKy C hDD d rec hrec n x1 tc (MM_mk (MM_err Mm) (MM_fed Mm) (MM_wrong Mm) (MM_octets Mm) (MM_nodeKind Mm) (MM_nodeA Mm) (MM_nodeB Mm) (MM_nodeC Mm) (MM_nodeNext Mm) (MM_low Mm) (MM_high Mm) (MM_setFrom Mm) (MM_setTo Mm) (MM_setNot Mm) (MM_op Mm) (MM_opA Mm) (MM_opB Mm) (MM_mark Mm) (MM_now Mm) (MM_then Mm) (MM_todo Mm) (MM_nodes Mm) (MM_sets Mm) (MM_ranges Mm) (MM_steps Mm) ((MM_pat Mm) + (1:Int32)) (MM_patEnd Mm) (MM_round Mm) (MM_many1 Mm) (MM_broken Mm) (MM_checked Mm) (MM_faultKind Mm) (MM_faultValue Mm) (MM_latestFault Mm) (MM_anchors Mm) (MM_key Mm) (MM_target Mm) (MM_anchorValue Mm) (MM_anchorSchema Mm) (MM_path Mm) (MM_route Mm) (MM_isSchema Mm) (MM_seen1 Mm) (MM_pathSize Mm) (MM_octetRow Mm) (MM_partRow Mm) (MM_pairValue Mm) (MM_pairKey Mm) (MM_pairs Mm) (MM_judged Mm) (MM_deepest Mm) (MM_depth Mm) (MM_over Mm) (MM_seen Mm)) M0 h _ _ _ hP hS (lv_sub hl [1, 2] rfl)
          · replace h := o_tt c18 h
            refine lv_aload_n hx hb d_MM_one_82 rfl (lv_at hl 1 rfl) ?_
            refine lv_iconst (v := (1:Int32)) hx hb d_MM_one_83 (by decide) ?_
            obtain ⟨q22, hq22, h⟩ := o_bd_some h
            refine o_V (st1 := [.int q22]) (w1 := (m_cw ad ca ky ty 48 (MM_mk (MM_err Mm) (MM_fed Mm) (MM_wrong Mm) (MM_octets Mm) (MM_nodeKind Mm) (MM_nodeA Mm) (MM_nodeB Mm) (MM_nodeC Mm) (MM_nodeNext Mm) (MM_low Mm) (MM_high Mm) (MM_setFrom Mm) (MM_setTo Mm) (MM_setNot Mm) (MM_op Mm) (MM_opA Mm) (MM_opB Mm) (MM_mark Mm) (MM_now Mm) (MM_then Mm) (MM_todo Mm) (MM_nodes Mm) (MM_sets Mm) (MM_ranges Mm) (MM_steps Mm) ((MM_pat Mm) + (1:Int32)) (MM_patEnd Mm) (MM_round Mm) (MM_many1 Mm) (MM_broken Mm) (MM_checked Mm) (MM_faultKind Mm) (MM_faultValue Mm) (MM_latestFault Mm) (MM_anchors Mm) (MM_key Mm) (MM_target Mm) (MM_anchorValue Mm) (MM_anchorSchema Mm) (MM_path Mm) (MM_route Mm) (MM_isSchema Mm) (MM_seen1 Mm) (MM_pathSize Mm) (MM_octetRow Mm) (MM_partRow Mm) (MM_pairValue Mm) (MM_pairKey Mm) (MM_pairs Mm) (MM_judged Mm) (MM_deepest Mm) (MM_depth Mm) (MM_over Mm) (MM_seen Mm)) M0 tc)) hE.1 C (e_MM_p_b hE hKy l (1:Int32) tc (MM_mk (MM_err Mm) (MM_fed Mm) (MM_wrong Mm) (MM_octets Mm) (MM_nodeKind Mm) (MM_nodeA Mm) (MM_nodeB Mm) (MM_nodeC Mm) (MM_nodeNext Mm) (MM_low Mm) (MM_high Mm) (MM_setFrom Mm) (MM_setTo Mm) (MM_setNot Mm) (MM_op Mm) (MM_opA Mm) (MM_opB Mm) (MM_mark Mm) (MM_now Mm) (MM_then Mm) (MM_todo Mm) (MM_nodes Mm) (MM_sets Mm) (MM_ranges Mm) (MM_steps Mm) ((MM_pat Mm) + (1:Int32)) (MM_patEnd Mm) (MM_round Mm) (MM_many1 Mm) (MM_broken Mm) (MM_checked Mm) (MM_faultKind Mm) (MM_faultValue Mm) (MM_latestFault Mm) (MM_anchors Mm) (MM_key Mm) (MM_target Mm) (MM_anchorValue Mm) (MM_anchorSchema Mm) (MM_path Mm) (MM_route Mm) (MM_isSchema Mm) (MM_seen1 Mm) (MM_pathSize Mm) (MM_octetRow Mm) (MM_partRow Mm) (MM_pairValue Mm) (MM_pairKey Mm) (MM_pairs Mm) (MM_judged Mm) (MM_deepest Mm) (MM_depth Mm) (MM_over Mm) (MM_seen Mm)) M0 hq22) hP (hDD _ _ _ _) hS hl.1 rfl mw_0 k_9_70 k_9_72 k_s_89 k_1_12 k_9_73 hv_MM_p rfl rfl ⟨(by dsimp only [rm_MM_one, rm_MM_p]; omega), (by dsimp only [rm_MM_one, rm_MM_p]; omega)⟩ rfl (Nat.le_of_ble_eq_true rfl) ⟨Nat.zero_le _, Nat.zero_le _⟩ rfl d_MM_one_84 (fun H locs hP hS => ?_)
            refine lv_bipush (v := (58:Int32)) hx hb d_MM_one_87 (by decide) ?_
            refine lv_icmp_ne (tgt := 102) hx hb d_MM_one_89 (by decide) (fun c21 => ?_) (fun c21 => ?_)
            · replace h := o_ff c21 h
              exact f_MM_one_j102_b hE hKy C hDD d rec hrec n x1 tc (MM_mk (MM_err Mm) (MM_fed Mm) (MM_wrong Mm) (MM_octets Mm) (MM_nodeKind Mm) (MM_nodeA Mm) (MM_nodeB Mm) (MM_nodeC Mm) (MM_nodeNext Mm) (MM_low Mm) (MM_high Mm) (MM_setFrom Mm) (MM_setTo Mm) (MM_setNot Mm) (MM_op Mm) (MM_opA Mm) (MM_opB Mm) (MM_mark Mm) (MM_now Mm) (MM_then Mm) (MM_todo Mm) (MM_nodes Mm) (MM_sets Mm) (MM_ranges Mm) (MM_steps Mm) ((MM_pat Mm) + (1:Int32)) (MM_patEnd Mm) (MM_round Mm) (MM_many1 Mm) (MM_broken Mm) (MM_checked Mm) (MM_faultKind Mm) (MM_faultValue Mm) (MM_latestFault Mm) (MM_anchors Mm) (MM_key Mm) (MM_target Mm) (MM_anchorValue Mm) (MM_anchorSchema Mm) (MM_path Mm) (MM_route Mm) (MM_isSchema Mm) (MM_seen1 Mm) (MM_pathSize Mm) (MM_octetRow Mm) (MM_partRow Mm) (MM_pairValue Mm) (MM_pairKey Mm) (MM_pairs Mm) (MM_judged Mm) (MM_deepest Mm) (MM_depth Mm) (MM_over Mm) (MM_seen Mm)) M0 h _ _ _ hP hS (lv_sub hl [1, 2] rfl)
            · replace h := o_tt c21 h
              refine lv_aload_n hx hb d_MM_one_92 rfl (lv_at hl 1 rfl) ?_
              refine lv_dup hx hb d_MM_one_93 rfl ?_
              refine o_get (v := .int ((MM_pat Mm) + (1:Int32))) C in_MM hP 0 mw_0 rfl 27 (by decide) k_8_17 rfl rfl d_MM_one_94 ?_
              refine lv_iconst (v := (2:Int32)) hx hb d_MM_one_97 (by decide) ?_
              refine lv_iadd hx hb d_MM_one_98 ?_
              refine o_put (v := .int (((MM_pat Mm) + (1:Int32)) + (2:Int32))) (ty := .int) (w1 := (m_cw ad ca ky ty 48 (MM_mk (MM_err Mm) (MM_fed Mm) (MM_wrong Mm) (MM_octets Mm) (MM_nodeKind Mm) (MM_nodeA Mm) (MM_nodeB Mm) (MM_nodeC Mm) (MM_nodeNext Mm) (MM_low Mm) (MM_high Mm) (MM_setFrom Mm) (MM_setTo Mm) (MM_setNot Mm) (MM_op Mm) (MM_opA Mm) (MM_opB Mm) (MM_mark Mm) (MM_now Mm) (MM_then Mm) (MM_todo Mm) (MM_nodes Mm) (MM_sets Mm) (MM_ranges Mm) (MM_steps Mm) (((MM_pat Mm) + (1:Int32)) + (2:Int32)) (MM_patEnd Mm) (MM_round Mm) (MM_many1 Mm) (MM_broken Mm) (MM_checked Mm) (MM_faultKind Mm) (MM_faultValue Mm) (MM_latestFault Mm) (MM_anchors Mm) (MM_key Mm) (MM_target Mm) (MM_anchorValue Mm) (MM_anchorSchema Mm) (MM_path Mm) (MM_route Mm) (MM_isSchema Mm) (MM_seen1 Mm) (MM_pathSize Mm) (MM_octetRow Mm) (MM_partRow Mm) (MM_pairValue Mm) (MM_pairKey Mm) (MM_pairs Mm) (MM_judged Mm) (MM_deepest Mm) (MM_depth Mm) (MM_over Mm) (MM_seen Mm)) M0 tc)) C in_MM t_MM t_MM_ok n_MM hP (hDD _ _ _ _) hS 0 mw_0 rfl 27 (by decide) k_8_17 rfl rfl (by decide +kernel) rfl rfl (Nat.le_of_ble_eq_true rfl) rfl d_MM_one_99 (fun H locs hP hS => ?_)
              exact f_MM_one_j102_b hE hKy C hDD d rec hrec n x1 tc (MM_mk (MM_err Mm) (MM_fed Mm) (MM_wrong Mm) (MM_octets Mm) (MM_nodeKind Mm) (MM_nodeA Mm) (MM_nodeB Mm) (MM_nodeC Mm) (MM_nodeNext Mm) (MM_low Mm) (MM_high Mm) (MM_setFrom Mm) (MM_setTo Mm) (MM_setNot Mm) (MM_op Mm) (MM_opA Mm) (MM_opB Mm) (MM_mark Mm) (MM_now Mm) (MM_then Mm) (MM_todo Mm) (MM_nodes Mm) (MM_sets Mm) (MM_ranges Mm) (MM_steps Mm) (((MM_pat Mm) + (1:Int32)) + (2:Int32)) (MM_patEnd Mm) (MM_round Mm) (MM_many1 Mm) (MM_broken Mm) (MM_checked Mm) (MM_faultKind Mm) (MM_faultValue Mm) (MM_latestFault Mm) (MM_anchors Mm) (MM_key Mm) (MM_target Mm) (MM_anchorValue Mm) (MM_anchorSchema Mm) (MM_path Mm) (MM_route Mm) (MM_isSchema Mm) (MM_seen1 Mm) (MM_pathSize Mm) (MM_octetRow Mm) (MM_partRow Mm) (MM_pairValue Mm) (MM_pairKey Mm) (MM_pairs Mm) (MM_judged Mm) (MM_deepest Mm) (MM_depth Mm) (MM_over Mm) (MM_seen Mm)) M0 h _ _ _ hP hS (lv_sub hl [1, 2] rfl)
        · replace h := o_tt c17 h
          refine lv_aload_n hx hb d_MM_one_57 rfl (lv_at hl 1 rfl) ?_
          obtain ⟨q23, hq23, h⟩ := o_bd_some h
          refine o_V (st1 := [.int q23.1]) (w1 := (m_cw ad ca ky ty 48 q23.2 M0 tc)) hE.1 C (e_MM_no hE hKy l Mm M0 tc 48 hq23) hP (hDD _ _ _ _) hS hl.1 rfl mw_0 k_9_78 k_9_80 k_s_91 k_1_12 k_9_81 hv_MM_no rfl rfl ⟨(by dsimp only [rm_MM_one, rm_MM_no]; omega), (by dsimp only [rm_MM_one, rm_MM_no]; omega)⟩ rfl (Nat.le_of_ble_eq_true rfl) ⟨Nat.zero_le _, Nat.zero_le _⟩ rfl d_MM_one_58 (fun H locs hP hS => ?_)
          cases h
          exact o_ri C hP hS d_MM_one_61
    · replace h := o_tt c3 h
      exact f_MM_one_j18_b hE hKy C hDD d rec hrec n q1 tc Mm M0 h _ _ _ hP hS (lv_sub hl [1, 0] rfl)
set_option maxHeartbeats 4000000 in
set_option maxRecDepth 100000 in
theorem f_MM_row_b9_a {E : (Nat → Prop) → State → Heap → Prop} {p : Program} {l : Launch} {e : Env} {s : State} {m : MethodId} {args : Array Value} {below : List Frame} {meth : Method} {c : Code} {D : va_G} {ad kd sd vd xd : Nat → Nat} {ca : Nat → ClassId} {A : Nat → Prop} {ky ty : Nat → Option Nat} {Q : State → Prop} (hE : o_EK E kd sd vd xd) (hKy : m_KY ky ty sd) (C : o_Cx E p s m args meth c D m_cls (m_tys ca) "SchemaJudgeModel" b_MM_row (some .int) 5 cc_MM_row A) (hDD : ∀ (rt : Nat) (Mm : SMM) (M0 : SMT) (M1 : SMT), va_D A (m_cw ad ca ky ty rt Mm M0 M1)) (d : Nat) (rec : Int32 → SMT → SMM → Option (Int32 × SMM)) (hrec : ∀ (x1 : Int32) (tc : SMT) (Mm : SMM) (M1 : SMT) (r : Int32 × SMM), rec x1 tc Mm = some r → o_Cn E l D m_cls (m_tys ca) y_MM_ways cc_MM_ways (rm_MM_ways d) [.ref (ad 0), .int x1] (m_cw ad ca ky ty 33 Mm tc M1) (m_cw ad ca ky ty 33 r.2 tc M1) (some (.int r.1))) (n : Nat) (u9_x1 : Int32) (u9_x2 : Int32) (u9_tc : SMT) (u9_M1 : SMT) (z : Int32 × SMM) (q : Nat × Int32 × SMM) (h : m_MM_row_b9 n rec u9_x1 u9_x2 u9_tc z = some q) (h0 : q.1 = 0 → o_At p l e (rm_MM_row d) s m args below meth c Q m_cls D A 5 9 [] (m_cw ad ca ky ty 33 q.2.2 u9_tc u9_M1) [(0, .ref (ad 0)), (1, .int u9_x1), (2, .int u9_x2), (3, .int q.2.1)]) (h1 : q.1 ≠ 0 → (o_At p l e (rm_MM_row d) s m args below meth c Q m_cls D A 5 83 [] (m_cw ad ca ky ty 33 q.2.2 u9_tc u9_M1) [(2, .int u9_x2)])) : o_At p l e (rm_MM_row d) s m args below meth c Q m_cls D A 5 9 [] (m_cw ad ca ky ty 33 z.2 u9_tc u9_M1) [(0, .ref (ad 0)), (1, .int u9_x1), (2, .int u9_x2), (3, .int z.1)] := by
  unfold m_MM_row_b9 at h
  intro H locs ls hP hS hl
  have C0 := C
  obtain ⟨hx, hb, -, -, -, hown, hts, hK, -, -⟩ := C0
  refine lv_aload_n hx hb d_MM_row_9 rfl (lv_at hl 0 rfl) ?_
  refine o_get (v := .int (MM_broken z.2)) C in_MM hP 0 mw_0 rfl 32 (by decide) k_8_22 rfl rfl d_MM_row_10 ?_
  refine lv_if_ne (tgt := 83) hx hb d_MM_row_13 (by decide) (fun c1 => ?_) (fun c1 => ?_)
  · replace h := o_ff c1 h
    cases h
    exact h1 (Nat.succ_ne_zero 0) _ _ _ hP hS (lv_sub hl [2] rfl)
  · replace h := o_tt c1 h
    refine lv_aload_n hx hb d_MM_row_16 rfl (lv_at hl 0 rfl) ?_
    refine o_get (v := .int (MM_pat z.2)) C in_MM hP 0 mw_0 rfl 27 (by decide) k_8_17 rfl rfl d_MM_row_17 ?_
    refine lv_aload_n hx hb d_MM_row_20 rfl (lv_at hl 0 rfl) ?_
    refine o_get (v := .int (MM_patEnd z.2)) C in_MM hP 0 mw_0 rfl 28 (by decide) k_8_18 rfl rfl d_MM_row_21 ?_
    refine lv_icmp_ge (tgt := 83) hx hb d_MM_row_24 (by decide) (fun c2 => ?_) (fun c2 => ?_)
    · replace h := o_tt c2 h
      cases h
      exact h1 (Nat.succ_ne_zero 0) _ _ _ hP hS (lv_sub hl [2] rfl)
    · replace h := o_ff c2 h
      refine lv_aload_n hx hb d_MM_row_27 rfl (lv_at hl 0 rfl) ?_
      refine lv_iconst (v := (0:Int32)) hx hb d_MM_row_28 (by decide) ?_
      obtain ⟨q2, hq2, h⟩ := o_bd_some h
      refine o_V (st1 := [.int q2]) (w1 := (m_cw ad ca ky ty 33 z.2 u9_tc u9_M1)) hE.1 C (e_MM_p_a hE hKy l (0:Int32) u9_tc z.2 u9_M1 hq2) hP (hDD _ _ _ _) hS hl.1 rfl mw_0 k_9_70 k_9_72 k_s_89 k_1_12 k_9_73 hv_MM_p rfl rfl ⟨(by dsimp only [rm_MM_row, rm_MM_p]; omega), (by dsimp only [rm_MM_row, rm_MM_p]; omega)⟩ rfl (Nat.le_of_ble_eq_true rfl) ⟨Nat.zero_le _, Nat.zero_le _⟩ rfl d_MM_row_29 (fun H locs hP hS => ?_)
      refine lv_bipush (v := (124:Int32)) hx hb d_MM_row_32 (by decide) ?_
      refine lv_icmp_eq (tgt := 83) hx hb d_MM_row_34 (by decide) (fun c3 => ?_) (fun c3 => ?_)
      · replace h := o_tt c3 h
        cases h
        exact h1 (Nat.succ_ne_zero 0) _ _ _ hP hS (lv_sub hl [2] rfl)
      · replace h := o_ff c3 h
        refine lv_aload_n hx hb d_MM_row_37 rfl (lv_at hl 0 rfl) ?_
        refine lv_iconst (v := (0:Int32)) hx hb d_MM_row_38 (by decide) ?_
        obtain ⟨q3, hq3, h⟩ := o_bd_some h
        refine o_V (st1 := [.int q3]) (w1 := (m_cw ad ca ky ty 33 z.2 u9_tc u9_M1)) hE.1 C (e_MM_p_a hE hKy l (0:Int32) u9_tc z.2 u9_M1 hq3) hP (hDD _ _ _ _) hS hl.1 rfl mw_0 k_9_70 k_9_72 k_s_89 k_1_12 k_9_73 hv_MM_p rfl rfl ⟨(by dsimp only [rm_MM_row, rm_MM_p]; omega), (by dsimp only [rm_MM_row, rm_MM_p]; omega)⟩ rfl (Nat.le_of_ble_eq_true rfl) ⟨Nat.zero_le _, Nat.zero_le _⟩ rfl d_MM_row_39 (fun H locs hP hS => ?_)
        refine lv_bipush (v := (41:Int32)) hx hb d_MM_row_42 (by decide) ?_
        refine lv_icmp_eq (tgt := 83) hx hb d_MM_row_44 (by decide) (fun c4 => ?_) (fun c4 => ?_)
        · replace h := o_tt c4 h
          cases h
          exact h1 (Nat.succ_ne_zero 0) _ _ _ hP hS (lv_sub hl [2] rfl)
        · replace h := o_ff c4 h
          refine lv_aload_n hx hb d_MM_row_47 rfl (lv_at hl 0 rfl) ?_
          refine lv_iload_n hx hb d_MM_row_48 rfl (lv_at hl 1 rfl) ?_
          obtain ⟨q4, hq4, h⟩ := o_bd_some h
          refine o_V (st1 := [.int q4.1]) (w1 := (m_cw ad ca ky ty 33 q4.2 u9_tc u9_M1)) hE.1 C (e_MM_one_a hE hKy l n d rec hrec u9_x1 u9_tc z.2 u9_M1 hq4) hP (hDD _ _ _ _) hS hl.1 rfl mw_0 k_9_74 k_9_76 k_s_90 k_1_12 k_9_77 hv_MM_one rfl rfl ⟨(by dsimp only [rm_MM_row, rm_MM_one]; omega), (by dsimp only [rm_MM_row, rm_MM_one]; omega)⟩ rfl (Nat.le_of_ble_eq_true rfl) ⟨Nat.zero_le _, Nat.zero_le _⟩ rfl d_MM_row_49 (fun H locs hP hS => ?_)
          refine lv_istore (lv' := [(4, .int q4.1), (0, .ref (ad 0)), (1, .int u9_x1), (2, .int u9_x2), (3, .int z.1)]) hx hb d_MM_row_52 hl (by decide) rfl (fun ls hl => ?_)
          refine lv_iload_n hx hb d_MM_row_54 rfl (lv_at hl 4 rfl) ?_
          refine lv_if_ge (tgt := 69) hx hb d_MM_row_55 (by decide) (fun c5 => ?_) (fun c5 => ?_)
          · replace h := o_tt c5 h
            refine lv_aload_n hx hb d_MM_row_69 rfl (lv_at hl 1 rfl) ?_
            refine o_get (v := .ref (ad 6)) C in_MM hP 0 mw_0 rfl 10 (by decide) k_8_0 rfl rfl d_MM_row_70 ?_
            refine lv_iload_n hx hb d_MM_row_73 rfl (lv_at hl 4 rfl) ?_
            refine lv_iload hx hb d_MM_row_74 (lv_at hl 0 rfl) ?_
            obtain ⟨g6, h⟩ := o_gd_some h
            refine o_iast (f := (MM_nodeNext q4.2)) (w1 := (m_cw ad ca ky ty 33 (MM_mk (MM_err q4.2) (MM_fed q4.2) (MM_wrong q4.2) (MM_octets q4.2) (MM_nodeKind q4.2) (MM_nodeA q4.2) (MM_nodeB q4.2) (MM_nodeC q4.2) (upd (MM_nodeNext q4.2) z.1.toNatClampNeg q4.1) (MM_low q4.2) (MM_high q4.2) (MM_setFrom q4.2) (MM_setTo q4.2) (MM_setNot q4.2) (MM_op q4.2) (MM_opA q4.2) (MM_opB q4.2) (MM_mark q4.2) (MM_now q4.2) (MM_then q4.2) (MM_todo q4.2) (MM_nodes q4.2) (MM_sets q4.2) (MM_ranges q4.2) (MM_steps q4.2) (MM_pat q4.2) (MM_patEnd q4.2) (MM_round q4.2) (MM_many1 q4.2) (MM_broken q4.2) (MM_checked q4.2) (MM_faultKind q4.2) (MM_faultValue q4.2) (MM_latestFault q4.2) (MM_anchors q4.2) (MM_key q4.2) (MM_target q4.2) (MM_anchorValue q4.2) (MM_anchorSchema q4.2) (MM_path q4.2) (MM_route q4.2) (MM_isSchema q4.2) (MM_seen1 q4.2) (MM_pathSize q4.2) (MM_octetRow q4.2) (MM_partRow q4.2) (MM_pairValue q4.2) (MM_pairKey q4.2) (MM_pairs q4.2) (MM_judged q4.2) (MM_deepest q4.2) (MM_depth q4.2) (MM_over q4.2) (MM_seen q4.2)) u9_tc u9_M1)) C hP (hDD _ _ _ _) hS 6 5 mw_6 rfl g6 rfl d_MM_row_76 (fun H locs hP hS => ?_)
            refine lv_iload hx hb d_MM_row_77 (lv_at hl 0 rfl) ?_
            refine lv_istore_n (lv' := [(3, .int q4.1), (4, .int q4.1), (0, .ref (ad 0)), (1, .int u9_x1), (2, .int u9_x2)]) hx hb d_MM_row_79 rfl hl (by decide) rfl (fun ls hl => ?_)
            refine lv_goto (tgt := 9) hx hb d_MM_row_80 (by decide) ?_
            cases h
            exact h0 rfl _ _ _ hP hS (lv_sub hl [2, 3, 4, 0] rfl)
          · replace h := o_ff c5 h
            refine lv_aload_n hx hb d_MM_row_58 rfl (lv_at hl 1 rfl) ?_
            refine o_get (v := .ref (ad 3)) C in_MM hP 0 mw_0 rfl 7 (by decide) k_7_237 rfl rfl d_MM_row_59 ?_
            refine lv_iload_n hx hb d_MM_row_62 rfl (lv_at hl 3 rfl) ?_
            refine lv_iload hx hb d_MM_row_63 (lv_at hl 0 rfl) ?_
            obtain ⟨g7, h⟩ := o_gd_some h
            refine o_iast (f := (MM_nodeA q4.2)) (w1 := (m_cw ad ca ky ty 33 (MM_mk (MM_err q4.2) (MM_fed q4.2) (MM_wrong q4.2) (MM_octets q4.2) (MM_nodeKind q4.2) (upd (MM_nodeA q4.2) u9_x2.toNatClampNeg q4.1) (MM_nodeB q4.2) (MM_nodeC q4.2) (MM_nodeNext q4.2) (MM_low q4.2) (MM_high q4.2) (MM_setFrom q4.2) (MM_setTo q4.2) (MM_setNot q4.2) (MM_op q4.2) (MM_opA q4.2) (MM_opB q4.2) (MM_mark q4.2) (MM_now q4.2) (MM_then q4.2) (MM_todo q4.2) (MM_nodes q4.2) (MM_sets q4.2) (MM_ranges q4.2) (MM_steps q4.2) (MM_pat q4.2) (MM_patEnd q4.2) (MM_round q4.2) (MM_many1 q4.2) (MM_broken q4.2) (MM_checked q4.2) (MM_faultKind q4.2) (MM_faultValue q4.2) (MM_latestFault q4.2) (MM_anchors q4.2) (MM_key q4.2) (MM_target q4.2) (MM_anchorValue q4.2) (MM_anchorSchema q4.2) (MM_path q4.2) (MM_route q4.2) (MM_isSchema q4.2) (MM_seen1 q4.2) (MM_pathSize q4.2) (MM_octetRow q4.2) (MM_partRow q4.2) (MM_pairValue q4.2) (MM_pairKey q4.2) (MM_pairs q4.2) (MM_judged q4.2) (MM_deepest q4.2) (MM_depth q4.2) (MM_over q4.2) (MM_seen q4.2)) u9_tc u9_M1)) C hP (hDD _ _ _ _) hS 3 2 mw_3 rfl g7 rfl d_MM_row_65 (fun H locs hP hS => ?_)
            refine lv_goto (tgt := 77) hx hb d_MM_row_66 (by decide) ?_
            refine lv_iload hx hb d_MM_row_77 (lv_at hl 0 rfl) ?_
            refine lv_istore_n (lv' := [(3, .int q4.1), (4, .int q4.1), (0, .ref (ad 0)), (1, .int u9_x1), (2, .int u9_x2)]) hx hb d_MM_row_79 rfl hl (by decide) rfl (fun ls hl => ?_)
            refine lv_goto (tgt := 9) hx hb d_MM_row_80 (by decide) ?_
            cases h
            exact h0 rfl _ _ _ hP hS (lv_sub hl [2, 3, 4, 0] rfl)
set_option maxHeartbeats 4000000 in
set_option maxRecDepth 100000 in
theorem e_MM_row_a {E : (Nat → Prop) → State → Heap → Prop} {D : va_G} {ad kd sd vd xd : Nat → Nat} {ca : Nat → ClassId} {ky ty : Nat → Option Nat} (hE : o_EK E kd sd vd xd) (hKy : m_KY ky ty sd) (l : Launch) (n : Nat) (d : Nat) (rec : Int32 → SMT → SMM → Option (Int32 × SMM)) (hrec : ∀ (x1 : Int32) (tc : SMT) (Mm : SMM) (M1 : SMT) (r : Int32 × SMM), rec x1 tc Mm = some r → o_Cn E l D m_cls (m_tys ca) y_MM_ways cc_MM_ways (rm_MM_ways d) [.ref (ad 0), .int x1] (m_cw ad ca ky ty 33 Mm tc M1) (m_cw ad ca ky ty 33 r.2 tc M1) (some (.int r.1))) (x1 : Int32) (tc : SMT) (Mm : SMM) (M1 : SMT) {r : Int32 × SMM} (h : m_MM_row n rec x1 tc Mm = some r) : o_Cn E l D m_cls (m_tys ca) y_MM_row cc_MM_row (rm_MM_row d) [.ref (ad 0), .int x1] (m_cw ad ca ky ty 33 Mm tc M1) (m_cw ad ca ky ty 33 r.2 tc M1) (some (.int r.1)) := by
  refine o_Cn_of (by decide) (Nat.le_of_ble_eq_true rfl) ?_
  intro p e s m below meth c A ls C hD hP hS hl
  have hDD : ∀ (rt : Nat) (Mm : SMM) (M0 : SMT) (M1 : SMT), va_D A (m_cw ad ca ky ty rt Mm M0 M1) := fun _ _ _ _ => o_D_map hD rfl
  have hl : lv_has ls 5 [(0, .ref (ad 0)), (1, .int x1)] := hl
  unfold m_MM_row at h
  have C0 := C
  obtain ⟨hx, hb, -, -, -, hown, hts, hK, -, -⟩ := C0
  refine lv_aload_n hx hb d_MM_row_0 rfl (lv_at hl 0 rfl) ?_
  refine lv_iconst (v := (4:Int32)) hx hb d_MM_row_1 (by decide) ?_
  refine lv_iconst (v := (-1:Int32)) hx hb d_MM_row_2 (by decide) ?_
  obtain ⟨q1, hq1, h⟩ := o_bd_some h
  refine o_V (st1 := [.int q1.1]) (w1 := (m_cw ad ca ky ty 33 q1.2 tc M1)) hE.1 C (e_MM_node hE hKy l (4:Int32) (-1:Int32) Mm tc M1 33 hq1) hP (hDD _ _ _ _) hS hl.1 rfl mw_0 k_9_62 k_9_64 k_s_87 k_1_12 k_9_65 hv_MM_node rfl rfl ⟨(by dsimp only [rm_MM_row, rm_MM_node]; omega), (by dsimp only [rm_MM_row, rm_MM_node]; omega)⟩ rfl (Nat.le_of_ble_eq_true rfl) ⟨Nat.zero_le _, Nat.zero_le _⟩ rfl d_MM_row_3 (fun H locs hP hS => ?_)
  refine lv_istore_n (lv' := [(2, .int q1.1), (0, .ref (ad 0)), (1, .int x1)]) hx hb d_MM_row_6 rfl hl (by decide) rfl (fun ls hl => ?_)
  refine lv_iconst (v := (-1:Int32)) hx hb d_MM_row_7 (by decide) ?_
  refine lv_istore_n (lv' := [(3, .int (-1:Int32)), (2, .int q1.1), (0, .ref (ad 0)), (1, .int x1)]) hx hb d_MM_row_8 rfl hl (by decide) rfl (fun ls hl => ?_)
  obtain ⟨q5, hq5, h⟩ := o_bd_some h
  refine o_sim2 (AH := fun zz => o_At p l e (rm_MM_row d) s m _ below meth c _ m_cls D A 5 9 [] (m_cw ad ca ky ty 33 zz.2 tc M1) [(0, .ref (ad 0)), (1, .int x1), (2, .int q1.1), (3, .int zz.1)]) (AX := fun qq => o_At p l e (rm_MM_row d) s m _ below meth c _ m_cls D A 5 83 [] (m_cw ad ca ky ty 33 qq.2.2 tc M1) [(2, .int q1.1)]) (fun zz qq h h0 h1 => f_MM_row_b9_a hE hKy C hDD d rec hrec n x1 q1.1 tc M1 zz qq h h0 h1) n _ q5 hq5 ?_ _ _ _ hP hS (lv_sub hl [2, 3, 1, 0] rfl)
  intro H locs ls hP hS hl
  refine lv_iload_n hx hb d_MM_row_83 rfl (lv_at hl 0 rfl) ?_
  cases h
  exact o_ri C hP hS d_MM_row_84
set_option maxHeartbeats 4000000 in
set_option maxRecDepth 100000 in
theorem f_MM_row_b9_b {E : (Nat → Prop) → State → Heap → Prop} {p : Program} {l : Launch} {e : Env} {s : State} {m : MethodId} {args : Array Value} {below : List Frame} {meth : Method} {c : Code} {D : va_G} {ad kd sd vd xd : Nat → Nat} {ca : Nat → ClassId} {A : Nat → Prop} {ky ty : Nat → Option Nat} {Q : State → Prop} (hE : o_EK E kd sd vd xd) (hKy : m_KY ky ty sd) (C : o_Cx E p s m args meth c D m_cls (m_tys ca) "SchemaJudgeModel" b_MM_row (some .int) 5 cc_MM_row A) (hDD : ∀ (rt : Nat) (Mm : SMM) (M0 : SMT) (M1 : SMT), va_D A (m_cw ad ca ky ty rt Mm M0 M1)) (d : Nat) (rec : Int32 → SMT → SMM → Option (Int32 × SMM)) (hrec : ∀ (x1 : Int32) (tc : SMT) (Mm : SMM) (M0 : SMT) (r : Int32 × SMM), rec x1 tc Mm = some r → o_Cn E l D m_cls (m_tys ca) y_MM_ways cc_MM_ways (rm_MM_ways d) [.ref (ad 0), .int x1] (m_cw ad ca ky ty 48 Mm M0 tc) (m_cw ad ca ky ty 48 r.2 M0 tc) (some (.int r.1))) (n : Nat) (u9_x1 : Int32) (u9_x2 : Int32) (u9_tc : SMT) (u9_M0 : SMT) (z : Int32 × SMM) (q : Nat × Int32 × SMM) (h : m_MM_row_b9 n rec u9_x1 u9_x2 u9_tc z = some q) (h0 : q.1 = 0 → o_At p l e (rm_MM_row d) s m args below meth c Q m_cls D A 5 9 [] (m_cw ad ca ky ty 48 q.2.2 u9_M0 u9_tc) [(0, .ref (ad 0)), (1, .int u9_x1), (2, .int u9_x2), (3, .int q.2.1)]) (h1 : q.1 ≠ 0 → (o_At p l e (rm_MM_row d) s m args below meth c Q m_cls D A 5 83 [] (m_cw ad ca ky ty 48 q.2.2 u9_M0 u9_tc) [(2, .int u9_x2)])) : o_At p l e (rm_MM_row d) s m args below meth c Q m_cls D A 5 9 [] (m_cw ad ca ky ty 48 z.2 u9_M0 u9_tc) [(0, .ref (ad 0)), (1, .int u9_x1), (2, .int u9_x2), (3, .int z.1)] := by
  unfold m_MM_row_b9 at h
  intro H locs ls hP hS hl
  have C0 := C
  obtain ⟨hx, hb, -, -, -, hown, hts, hK, -, -⟩ := C0
  refine lv_aload_n hx hb d_MM_row_9 rfl (lv_at hl 0 rfl) ?_
  refine o_get (v := .int (MM_broken z.2)) C in_MM hP 0 mw_0 rfl 32 (by decide) k_8_22 rfl rfl d_MM_row_10 ?_
  refine lv_if_ne (tgt := 83) hx hb d_MM_row_13 (by decide) (fun c1 => ?_) (fun c1 => ?_)
  · replace h := o_ff c1 h
    cases h
    exact h1 (Nat.succ_ne_zero 0) _ _ _ hP hS (lv_sub hl [2] rfl)
  · replace h := o_tt c1 h
    refine lv_aload_n hx hb d_MM_row_16 rfl (lv_at hl 0 rfl) ?_
    refine o_get (v := .int (MM_pat z.2)) C in_MM hP 0 mw_0 rfl 27 (by decide) k_8_17 rfl rfl d_MM_row_17 ?_
    refine lv_aload_n hx hb d_MM_row_20 rfl (lv_at hl 0 rfl) ?_
    refine o_get (v := .int (MM_patEnd z.2)) C in_MM hP 0 mw_0 rfl 28 (by decide) k_8_18 rfl rfl d_MM_row_21 ?_
    refine lv_icmp_ge (tgt := 83) hx hb d_MM_row_24 (by decide) (fun c2 => ?_) (fun c2 => ?_)
    · replace h := o_tt c2 h
      cases h
      exact h1 (Nat.succ_ne_zero 0) _ _ _ hP hS (lv_sub hl [2] rfl)
    · replace h := o_ff c2 h
      refine lv_aload_n hx hb d_MM_row_27 rfl (lv_at hl 0 rfl) ?_
      refine lv_iconst (v := (0:Int32)) hx hb d_MM_row_28 (by decide) ?_
      obtain ⟨q2, hq2, h⟩ := o_bd_some h
      refine o_V (st1 := [.int q2]) (w1 := (m_cw ad ca ky ty 48 z.2 u9_M0 u9_tc)) hE.1 C (e_MM_p_b hE hKy l (0:Int32) u9_tc z.2 u9_M0 hq2) hP (hDD _ _ _ _) hS hl.1 rfl mw_0 k_9_70 k_9_72 k_s_89 k_1_12 k_9_73 hv_MM_p rfl rfl ⟨(by dsimp only [rm_MM_row, rm_MM_p]; omega), (by dsimp only [rm_MM_row, rm_MM_p]; omega)⟩ rfl (Nat.le_of_ble_eq_true rfl) ⟨Nat.zero_le _, Nat.zero_le _⟩ rfl d_MM_row_29 (fun H locs hP hS => ?_)
      refine lv_bipush (v := (124:Int32)) hx hb d_MM_row_32 (by decide) ?_
      refine lv_icmp_eq (tgt := 83) hx hb d_MM_row_34 (by decide) (fun c3 => ?_) (fun c3 => ?_)
      · replace h := o_tt c3 h
        cases h
        exact h1 (Nat.succ_ne_zero 0) _ _ _ hP hS (lv_sub hl [2] rfl)
      · replace h := o_ff c3 h
        refine lv_aload_n hx hb d_MM_row_37 rfl (lv_at hl 0 rfl) ?_
        refine lv_iconst (v := (0:Int32)) hx hb d_MM_row_38 (by decide) ?_
        obtain ⟨q3, hq3, h⟩ := o_bd_some h
        refine o_V (st1 := [.int q3]) (w1 := (m_cw ad ca ky ty 48 z.2 u9_M0 u9_tc)) hE.1 C (e_MM_p_b hE hKy l (0:Int32) u9_tc z.2 u9_M0 hq3) hP (hDD _ _ _ _) hS hl.1 rfl mw_0 k_9_70 k_9_72 k_s_89 k_1_12 k_9_73 hv_MM_p rfl rfl ⟨(by dsimp only [rm_MM_row, rm_MM_p]; omega), (by dsimp only [rm_MM_row, rm_MM_p]; omega)⟩ rfl (Nat.le_of_ble_eq_true rfl) ⟨Nat.zero_le _, Nat.zero_le _⟩ rfl d_MM_row_39 (fun H locs hP hS => ?_)
        refine lv_bipush (v := (41:Int32)) hx hb d_MM_row_42 (by decide) ?_
        refine lv_icmp_eq (tgt := 83) hx hb d_MM_row_44 (by decide) (fun c4 => ?_) (fun c4 => ?_)
        · replace h := o_tt c4 h
          cases h
          exact h1 (Nat.succ_ne_zero 0) _ _ _ hP hS (lv_sub hl [2] rfl)
        · replace h := o_ff c4 h
          refine lv_aload_n hx hb d_MM_row_47 rfl (lv_at hl 0 rfl) ?_
          refine lv_iload_n hx hb d_MM_row_48 rfl (lv_at hl 1 rfl) ?_
          obtain ⟨q4, hq4, h⟩ := o_bd_some h
          refine o_V (st1 := [.int q4.1]) (w1 := (m_cw ad ca ky ty 48 q4.2 u9_M0 u9_tc)) hE.1 C (e_MM_one_b hE hKy l n d rec hrec u9_x1 u9_tc z.2 u9_M0 hq4) hP (hDD _ _ _ _) hS hl.1 rfl mw_0 k_9_74 k_9_76 k_s_90 k_1_12 k_9_77 hv_MM_one rfl rfl ⟨(by dsimp only [rm_MM_row, rm_MM_one]; omega), (by dsimp only [rm_MM_row, rm_MM_one]; omega)⟩ rfl (Nat.le_of_ble_eq_true rfl) ⟨Nat.zero_le _, Nat.zero_le _⟩ rfl d_MM_row_49 (fun H locs hP hS => ?_)
          refine lv_istore (lv' := [(4, .int q4.1), (0, .ref (ad 0)), (1, .int u9_x1), (2, .int u9_x2), (3, .int z.1)]) hx hb d_MM_row_52 hl (by decide) rfl (fun ls hl => ?_)
          refine lv_iload_n hx hb d_MM_row_54 rfl (lv_at hl 4 rfl) ?_
          refine lv_if_ge (tgt := 69) hx hb d_MM_row_55 (by decide) (fun c5 => ?_) (fun c5 => ?_)
          · replace h := o_tt c5 h
            refine lv_aload_n hx hb d_MM_row_69 rfl (lv_at hl 1 rfl) ?_
            refine o_get (v := .ref (ad 6)) C in_MM hP 0 mw_0 rfl 10 (by decide) k_8_0 rfl rfl d_MM_row_70 ?_
            refine lv_iload_n hx hb d_MM_row_73 rfl (lv_at hl 4 rfl) ?_
            refine lv_iload hx hb d_MM_row_74 (lv_at hl 0 rfl) ?_
            obtain ⟨g6, h⟩ := o_gd_some h
            refine o_iast (f := (MM_nodeNext q4.2)) (w1 := (m_cw ad ca ky ty 48 (MM_mk (MM_err q4.2) (MM_fed q4.2) (MM_wrong q4.2) (MM_octets q4.2) (MM_nodeKind q4.2) (MM_nodeA q4.2) (MM_nodeB q4.2) (MM_nodeC q4.2) (upd (MM_nodeNext q4.2) z.1.toNatClampNeg q4.1) (MM_low q4.2) (MM_high q4.2) (MM_setFrom q4.2) (MM_setTo q4.2) (MM_setNot q4.2) (MM_op q4.2) (MM_opA q4.2) (MM_opB q4.2) (MM_mark q4.2) (MM_now q4.2) (MM_then q4.2) (MM_todo q4.2) (MM_nodes q4.2) (MM_sets q4.2) (MM_ranges q4.2) (MM_steps q4.2) (MM_pat q4.2) (MM_patEnd q4.2) (MM_round q4.2) (MM_many1 q4.2) (MM_broken q4.2) (MM_checked q4.2) (MM_faultKind q4.2) (MM_faultValue q4.2) (MM_latestFault q4.2) (MM_anchors q4.2) (MM_key q4.2) (MM_target q4.2) (MM_anchorValue q4.2) (MM_anchorSchema q4.2) (MM_path q4.2) (MM_route q4.2) (MM_isSchema q4.2) (MM_seen1 q4.2) (MM_pathSize q4.2) (MM_octetRow q4.2) (MM_partRow q4.2) (MM_pairValue q4.2) (MM_pairKey q4.2) (MM_pairs q4.2) (MM_judged q4.2) (MM_deepest q4.2) (MM_depth q4.2) (MM_over q4.2) (MM_seen q4.2)) u9_M0 u9_tc)) C hP (hDD _ _ _ _) hS 6 5 mw_6 rfl g6 rfl d_MM_row_76 (fun H locs hP hS => ?_)
            refine lv_iload hx hb d_MM_row_77 (lv_at hl 0 rfl) ?_
            refine lv_istore_n (lv' := [(3, .int q4.1), (4, .int q4.1), (0, .ref (ad 0)), (1, .int u9_x1), (2, .int u9_x2)]) hx hb d_MM_row_79 rfl hl (by decide) rfl (fun ls hl => ?_)
            refine lv_goto (tgt := 9) hx hb d_MM_row_80 (by decide) ?_
            cases h
            exact h0 rfl _ _ _ hP hS (lv_sub hl [2, 3, 4, 0] rfl)
          · replace h := o_ff c5 h
            refine lv_aload_n hx hb d_MM_row_58 rfl (lv_at hl 1 rfl) ?_
            refine o_get (v := .ref (ad 3)) C in_MM hP 0 mw_0 rfl 7 (by decide) k_7_237 rfl rfl d_MM_row_59 ?_
            refine lv_iload_n hx hb d_MM_row_62 rfl (lv_at hl 3 rfl) ?_
            refine lv_iload hx hb d_MM_row_63 (lv_at hl 0 rfl) ?_
            obtain ⟨g7, h⟩ := o_gd_some h
            refine o_iast (f := (MM_nodeA q4.2)) (w1 := (m_cw ad ca ky ty 48 (MM_mk (MM_err q4.2) (MM_fed q4.2) (MM_wrong q4.2) (MM_octets q4.2) (MM_nodeKind q4.2) (upd (MM_nodeA q4.2) u9_x2.toNatClampNeg q4.1) (MM_nodeB q4.2) (MM_nodeC q4.2) (MM_nodeNext q4.2) (MM_low q4.2) (MM_high q4.2) (MM_setFrom q4.2) (MM_setTo q4.2) (MM_setNot q4.2) (MM_op q4.2) (MM_opA q4.2) (MM_opB q4.2) (MM_mark q4.2) (MM_now q4.2) (MM_then q4.2) (MM_todo q4.2) (MM_nodes q4.2) (MM_sets q4.2) (MM_ranges q4.2) (MM_steps q4.2) (MM_pat q4.2) (MM_patEnd q4.2) (MM_round q4.2) (MM_many1 q4.2) (MM_broken q4.2) (MM_checked q4.2) (MM_faultKind q4.2) (MM_faultValue q4.2) (MM_latestFault q4.2) (MM_anchors q4.2) (MM_key q4.2) (MM_target q4.2) (MM_anchorValue q4.2) (MM_anchorSchema q4.2) (MM_path q4.2) (MM_route q4.2) (MM_isSchema q4.2) (MM_seen1 q4.2) (MM_pathSize q4.2) (MM_octetRow q4.2) (MM_partRow q4.2) (MM_pairValue q4.2) (MM_pairKey q4.2) (MM_pairs q4.2) (MM_judged q4.2) (MM_deepest q4.2) (MM_depth q4.2) (MM_over q4.2) (MM_seen q4.2)) u9_M0 u9_tc)) C hP (hDD _ _ _ _) hS 3 2 mw_3 rfl g7 rfl d_MM_row_65 (fun H locs hP hS => ?_)
            refine lv_goto (tgt := 77) hx hb d_MM_row_66 (by decide) ?_
            refine lv_iload hx hb d_MM_row_77 (lv_at hl 0 rfl) ?_
            refine lv_istore_n (lv' := [(3, .int q4.1), (4, .int q4.1), (0, .ref (ad 0)), (1, .int u9_x1), (2, .int u9_x2)]) hx hb d_MM_row_79 rfl hl (by decide) rfl (fun ls hl => ?_)
            refine lv_goto (tgt := 9) hx hb d_MM_row_80 (by decide) ?_
            cases h
            exact h0 rfl _ _ _ hP hS (lv_sub hl [2, 3, 4, 0] rfl)
set_option maxHeartbeats 4000000 in
set_option maxRecDepth 100000 in
theorem e_MM_row_b {E : (Nat → Prop) → State → Heap → Prop} {D : va_G} {ad kd sd vd xd : Nat → Nat} {ca : Nat → ClassId} {ky ty : Nat → Option Nat} (hE : o_EK E kd sd vd xd) (hKy : m_KY ky ty sd) (l : Launch) (n : Nat) (d : Nat) (rec : Int32 → SMT → SMM → Option (Int32 × SMM)) (hrec : ∀ (x1 : Int32) (tc : SMT) (Mm : SMM) (M0 : SMT) (r : Int32 × SMM), rec x1 tc Mm = some r → o_Cn E l D m_cls (m_tys ca) y_MM_ways cc_MM_ways (rm_MM_ways d) [.ref (ad 0), .int x1] (m_cw ad ca ky ty 48 Mm M0 tc) (m_cw ad ca ky ty 48 r.2 M0 tc) (some (.int r.1))) (x1 : Int32) (tc : SMT) (Mm : SMM) (M0 : SMT) {r : Int32 × SMM} (h : m_MM_row n rec x1 tc Mm = some r) : o_Cn E l D m_cls (m_tys ca) y_MM_row cc_MM_row (rm_MM_row d) [.ref (ad 0), .int x1] (m_cw ad ca ky ty 48 Mm M0 tc) (m_cw ad ca ky ty 48 r.2 M0 tc) (some (.int r.1)) := by
  refine o_Cn_of (by decide) (Nat.le_of_ble_eq_true rfl) ?_
  intro p e s m below meth c A ls C hD hP hS hl
  have hDD : ∀ (rt : Nat) (Mm : SMM) (M0 : SMT) (M1 : SMT), va_D A (m_cw ad ca ky ty rt Mm M0 M1) := fun _ _ _ _ => o_D_map hD rfl
  have hl : lv_has ls 5 [(0, .ref (ad 0)), (1, .int x1)] := hl
  unfold m_MM_row at h
  have C0 := C
  obtain ⟨hx, hb, -, -, -, hown, hts, hK, -, -⟩ := C0
  refine lv_aload_n hx hb d_MM_row_0 rfl (lv_at hl 0 rfl) ?_
  refine lv_iconst (v := (4:Int32)) hx hb d_MM_row_1 (by decide) ?_
  refine lv_iconst (v := (-1:Int32)) hx hb d_MM_row_2 (by decide) ?_
  obtain ⟨q1, hq1, h⟩ := o_bd_some h
  refine o_V (st1 := [.int q1.1]) (w1 := (m_cw ad ca ky ty 48 q1.2 M0 tc)) hE.1 C (e_MM_node hE hKy l (4:Int32) (-1:Int32) Mm M0 tc 48 hq1) hP (hDD _ _ _ _) hS hl.1 rfl mw_0 k_9_62 k_9_64 k_s_87 k_1_12 k_9_65 hv_MM_node rfl rfl ⟨(by dsimp only [rm_MM_row, rm_MM_node]; omega), (by dsimp only [rm_MM_row, rm_MM_node]; omega)⟩ rfl (Nat.le_of_ble_eq_true rfl) ⟨Nat.zero_le _, Nat.zero_le _⟩ rfl d_MM_row_3 (fun H locs hP hS => ?_)
  refine lv_istore_n (lv' := [(2, .int q1.1), (0, .ref (ad 0)), (1, .int x1)]) hx hb d_MM_row_6 rfl hl (by decide) rfl (fun ls hl => ?_)
  refine lv_iconst (v := (-1:Int32)) hx hb d_MM_row_7 (by decide) ?_
  refine lv_istore_n (lv' := [(3, .int (-1:Int32)), (2, .int q1.1), (0, .ref (ad 0)), (1, .int x1)]) hx hb d_MM_row_8 rfl hl (by decide) rfl (fun ls hl => ?_)
  obtain ⟨q5, hq5, h⟩ := o_bd_some h
  refine o_sim2 (AH := fun zz => o_At p l e (rm_MM_row d) s m _ below meth c _ m_cls D A 5 9 [] (m_cw ad ca ky ty 48 zz.2 M0 tc) [(0, .ref (ad 0)), (1, .int x1), (2, .int q1.1), (3, .int zz.1)]) (AX := fun qq => o_At p l e (rm_MM_row d) s m _ below meth c _ m_cls D A 5 83 [] (m_cw ad ca ky ty 48 qq.2.2 M0 tc) [(2, .int q1.1)]) (fun zz qq h h0 h1 => f_MM_row_b9_b hE hKy C hDD d rec hrec n x1 q1.1 tc M0 zz qq h h0 h1) n _ q5 hq5 ?_ _ _ _ hP hS (lv_sub hl [2, 3, 1, 0] rfl)
  intro H locs ls hP hS hl
  refine lv_iload_n hx hb d_MM_row_83 rfl (lv_at hl 0 rfl) ?_
  cases h
  exact o_ri C hP hS d_MM_row_84
set_option maxHeartbeats 4000000 in
set_option maxRecDepth 100000 in
theorem f_MM_ways_j48_a {E : (Nat → Prop) → State → Heap → Prop} {p : Program} {l : Launch} {e : Env} {s : State} {m : MethodId} {args : Array Value} {below : List Frame} {meth : Method} {c : Code} {D : va_G} {ad kd sd vd xd : Nat → Nat} {ca : Nat → ClassId} {A : Nat → Prop} {ky ty : Nat → Option Nat} {Q : State → Prop} (hE : o_EK E kd sd vd xd) (hKy : m_KY ky ty sd) (C : o_Cx E p s m args meth c D m_cls (m_tys ca) "SchemaJudgeModel" b_MM_ways (some .int) 5 cc_MM_ways A) (hDD : ∀ (rt : Nat) (Mm : SMM) (M0 : SMT) (M1 : SMT), va_D A (m_cw ad ca ky ty rt Mm M0 M1)) (d : Nat) (rec : Int32 → SMT → SMM → Option (Int32 × SMM)) (hrec : ∀ (x1 : Int32) (tc : SMT) (Mm : SMM) (M1 : SMT) (r : Int32 × SMM), rec x1 tc Mm = some r → o_Cn E l D m_cls (m_tys ca) y_MM_ways cc_MM_ways (rm_MM_ways d) [.ref (ad 0), .int x1] (m_cw ad ca ky ty 33 Mm tc M1) (m_cw ad ca ky ty 33 r.2 tc M1) (some (.int r.1))) (n : Nat) (u9_x1 : Int32) (u9_x2 : Int32) (u9_tc : SMT) (u9_M1 : SMT) (x4 : Int32) (Mm : SMM) {q : Nat × Int32 × SMM} (h : m_MM_ways_j48 n rec u9_x1 u9_x2 x4 u9_tc Mm = some q) (h0 : q.1 = 0 → o_At p l e (rm_MM_ways (d + 1)) s m args below meth c Q m_cls D A 5 9 [] (m_cw ad ca ky ty 33 q.2.2 u9_tc u9_M1) [(0, .ref (ad 0)), (1, .int u9_x1), (2, .int u9_x2), (3, .int q.2.1)]) (h1 : q.1 ≠ 0 → (if q.1 = 1 then o_At p l e (rm_MM_ways (d + 1)) s m args below meth c Q m_cls D A 5 23 [] (m_cw ad ca ky ty 33 q.2.2 u9_tc u9_M1) [(2, .int u9_x2)] else o_At p l e (rm_MM_ways (d + 1)) s m args below meth c Q m_cls D A 5 71 [] (m_cw ad ca ky ty 33 q.2.2 u9_tc u9_M1) [(2, .int u9_x2)])) : o_At p l e (rm_MM_ways (d + 1)) s m args below meth c Q m_cls D A 5 48 [] (m_cw ad ca ky ty 33 Mm u9_tc u9_M1) [(0, .ref (ad 0)), (1, .int u9_x1), (2, .int u9_x2), (4, .int x4)] := by
  unfold m_MM_ways_j48 at h
  intro H locs ls hP hS hl
  have C0 := C
  obtain ⟨hx, hb, -, -, -, hown, hts, hK, -, -⟩ := C0
  refine lv_iload hx hb d_MM_ways_48 (lv_at hl 3 rfl) ?_
  refine lv_istore_n (lv' := [(3, .int x4), (0, .ref (ad 0)), (1, .int u9_x1), (2, .int u9_x2), (4, .int x4)]) hx hb d_MM_ways_50 rfl hl (by decide) rfl (fun ls hl => ?_)
  refine lv_aload_n hx hb d_MM_ways_51 rfl (lv_at hl 1 rfl) ?_
  refine o_get (v := .ref (ad 4)) C in_MM hP 0 mw_0 rfl 8 (by decide) k_7_238 rfl rfl d_MM_ways_52 ?_
  refine lv_iload_n hx hb d_MM_ways_55 rfl (lv_at hl 3 rfl) ?_
  refine lv_dup2_11 hx hb d_MM_ways_56 rfl rfl ?_
  obtain ⟨g4, h⟩ := o_gd_some h
  refine o_iald (f := (MM_nodeB Mm)) C hP 4 3 mw_4 rfl g4 d_MM_ways_57 ?_
  refine lv_iconst (v := (1:Int32)) hx hb d_MM_ways_58 (by decide) ?_
  refine lv_iadd hx hb d_MM_ways_59 ?_
  obtain ⟨g5, h⟩ := o_gd_some h
  refine o_iast (f := (MM_nodeB Mm)) (w1 := (m_cw ad ca ky ty 33 (MM_mk (MM_err Mm) (MM_fed Mm) (MM_wrong Mm) (MM_octets Mm) (MM_nodeKind Mm) (MM_nodeA Mm) (upd (MM_nodeB Mm) u9_x2.toNatClampNeg (((MM_nodeB Mm) u9_x2.toNatClampNeg) + (1:Int32))) (MM_nodeC Mm) (MM_nodeNext Mm) (MM_low Mm) (MM_high Mm) (MM_setFrom Mm) (MM_setTo Mm) (MM_setNot Mm) (MM_op Mm) (MM_opA Mm) (MM_opB Mm) (MM_mark Mm) (MM_now Mm) (MM_then Mm) (MM_todo Mm) (MM_nodes Mm) (MM_sets Mm) (MM_ranges Mm) (MM_steps Mm) (MM_pat Mm) (MM_patEnd Mm) (MM_round Mm) (MM_many1 Mm) (MM_broken Mm) (MM_checked Mm) (MM_faultKind Mm) (MM_faultValue Mm) (MM_latestFault Mm) (MM_anchors Mm) (MM_key Mm) (MM_target Mm) (MM_anchorValue Mm) (MM_anchorSchema Mm) (MM_path Mm) (MM_route Mm) (MM_isSchema Mm) (MM_seen1 Mm) (MM_pathSize Mm) (MM_octetRow Mm) (MM_partRow Mm) (MM_pairValue Mm) (MM_pairKey Mm) (MM_pairs Mm) (MM_judged Mm) (MM_deepest Mm) (MM_depth Mm) (MM_over Mm) (MM_seen Mm)) u9_tc u9_M1)) C hP (hDD _ _ _ _) hS 4 3 mw_4 rfl g5 rfl d_MM_ways_60 (fun H locs hP hS => ?_)
  refine lv_aload_n hx hb d_MM_ways_61 rfl (lv_at hl 1 rfl) ?_
  refine lv_iconst (v := (0:Int32)) hx hb d_MM_ways_62 (by decide) ?_
  obtain ⟨q3, hq3, h⟩ := o_bd_some h
  refine o_V (st1 := [.int q3]) (w1 := (m_cw ad ca ky ty 33 (MM_mk (MM_err Mm) (MM_fed Mm) (MM_wrong Mm) (MM_octets Mm) (MM_nodeKind Mm) (MM_nodeA Mm) (upd (MM_nodeB Mm) u9_x2.toNatClampNeg (((MM_nodeB Mm) u9_x2.toNatClampNeg) + (1:Int32))) (MM_nodeC Mm) (MM_nodeNext Mm) (MM_low Mm) (MM_high Mm) (MM_setFrom Mm) (MM_setTo Mm) (MM_setNot Mm) (MM_op Mm) (MM_opA Mm) (MM_opB Mm) (MM_mark Mm) (MM_now Mm) (MM_then Mm) (MM_todo Mm) (MM_nodes Mm) (MM_sets Mm) (MM_ranges Mm) (MM_steps Mm) (MM_pat Mm) (MM_patEnd Mm) (MM_round Mm) (MM_many1 Mm) (MM_broken Mm) (MM_checked Mm) (MM_faultKind Mm) (MM_faultValue Mm) (MM_latestFault Mm) (MM_anchors Mm) (MM_key Mm) (MM_target Mm) (MM_anchorValue Mm) (MM_anchorSchema Mm) (MM_path Mm) (MM_route Mm) (MM_isSchema Mm) (MM_seen1 Mm) (MM_pathSize Mm) (MM_octetRow Mm) (MM_partRow Mm) (MM_pairValue Mm) (MM_pairKey Mm) (MM_pairs Mm) (MM_judged Mm) (MM_deepest Mm) (MM_depth Mm) (MM_over Mm) (MM_seen Mm)) u9_tc u9_M1)) hE.1 C (e_MM_p_a hE hKy l (0:Int32) u9_tc (MM_mk (MM_err Mm) (MM_fed Mm) (MM_wrong Mm) (MM_octets Mm) (MM_nodeKind Mm) (MM_nodeA Mm) (upd (MM_nodeB Mm) u9_x2.toNatClampNeg (((MM_nodeB Mm) u9_x2.toNatClampNeg) + (1:Int32))) (MM_nodeC Mm) (MM_nodeNext Mm) (MM_low Mm) (MM_high Mm) (MM_setFrom Mm) (MM_setTo Mm) (MM_setNot Mm) (MM_op Mm) (MM_opA Mm) (MM_opB Mm) (MM_mark Mm) (MM_now Mm) (MM_then Mm) (MM_todo Mm) (MM_nodes Mm) (MM_sets Mm) (MM_ranges Mm) (MM_steps Mm) (MM_pat Mm) (MM_patEnd Mm) (MM_round Mm) (MM_many1 Mm) (MM_broken Mm) (MM_checked Mm) (MM_faultKind Mm) (MM_faultValue Mm) (MM_latestFault Mm) (MM_anchors Mm) (MM_key Mm) (MM_target Mm) (MM_anchorValue Mm) (MM_anchorSchema Mm) (MM_path Mm) (MM_route Mm) (MM_isSchema Mm) (MM_seen1 Mm) (MM_pathSize Mm) (MM_octetRow Mm) (MM_partRow Mm) (MM_pairValue Mm) (MM_pairKey Mm) (MM_pairs Mm) (MM_judged Mm) (MM_deepest Mm) (MM_depth Mm) (MM_over Mm) (MM_seen Mm)) u9_M1 hq3) hP (hDD _ _ _ _) hS hl.1 rfl mw_0 k_9_70 k_9_72 k_s_89 k_1_12 k_9_73 hv_MM_p rfl rfl ⟨(by dsimp only [rm_MM_ways, rm_MM_p]; omega), (by dsimp only [rm_MM_ways, rm_MM_p]; omega)⟩ rfl (Nat.le_of_ble_eq_true rfl) ⟨Nat.zero_le _, Nat.zero_le _⟩ rfl d_MM_ways_63 (fun H locs hP hS => ?_)
  refine lv_bipush (v := (124:Int32)) hx hb d_MM_ways_66 (by decide) ?_
  refine lv_icmp_eq (tgt := 73) hx hb d_MM_ways_68 (by decide) (fun c6 => ?_) (fun c6 => ?_)
  · replace h := o_tt c6 h
    refine lv_aload_n hx hb d_MM_ways_73 rfl (lv_at hl 1 rfl) ?_
    refine lv_dup hx hb d_MM_ways_74 rfl ?_
    refine o_get (v := .int (MM_pat Mm)) C in_MM hP 0 mw_0 rfl 27 (by decide) k_8_17 rfl rfl d_MM_ways_75 ?_
    refine lv_iconst (v := (1:Int32)) hx hb d_MM_ways_78 (by decide) ?_
    refine lv_iadd hx hb d_MM_ways_79 ?_
    refine o_put (v := .int ((MM_pat Mm) + (1:Int32))) (ty := .int) (w1 := (m_cw ad ca ky ty 33 (MM_mk (MM_err Mm) (MM_fed Mm) (MM_wrong Mm) (MM_octets Mm) (MM_nodeKind Mm) (MM_nodeA Mm) (upd (MM_nodeB Mm) u9_x2.toNatClampNeg (((MM_nodeB Mm) u9_x2.toNatClampNeg) + (1:Int32))) (MM_nodeC Mm) (MM_nodeNext Mm) (MM_low Mm) (MM_high Mm) (MM_setFrom Mm) (MM_setTo Mm) (MM_setNot Mm) (MM_op Mm) (MM_opA Mm) (MM_opB Mm) (MM_mark Mm) (MM_now Mm) (MM_then Mm) (MM_todo Mm) (MM_nodes Mm) (MM_sets Mm) (MM_ranges Mm) (MM_steps Mm) ((MM_pat Mm) + (1:Int32)) (MM_patEnd Mm) (MM_round Mm) (MM_many1 Mm) (MM_broken Mm) (MM_checked Mm) (MM_faultKind Mm) (MM_faultValue Mm) (MM_latestFault Mm) (MM_anchors Mm) (MM_key Mm) (MM_target Mm) (MM_anchorValue Mm) (MM_anchorSchema Mm) (MM_path Mm) (MM_route Mm) (MM_isSchema Mm) (MM_seen1 Mm) (MM_pathSize Mm) (MM_octetRow Mm) (MM_partRow Mm) (MM_pairValue Mm) (MM_pairKey Mm) (MM_pairs Mm) (MM_judged Mm) (MM_deepest Mm) (MM_depth Mm) (MM_over Mm) (MM_seen Mm)) u9_tc u9_M1)) C in_MM t_MM t_MM_ok n_MM hP (hDD _ _ _ _) hS 0 mw_0 rfl 27 (by decide) k_8_17 rfl rfl (by decide +kernel) rfl rfl (Nat.le_of_ble_eq_true rfl) rfl d_MM_ways_80 (fun H locs hP hS => ?_)
    refine lv_goto (tgt := 9) hx hb d_MM_ways_83 (by decide) ?_
    cases h
    exact h0 rfl _ _ _ hP hS (lv_sub hl [1, 2, 3, 0] rfl)
  · replace h := o_ff c6 h
    cases h
    exact h1 (Nat.succ_ne_zero 1) _ _ _ hP hS (lv_sub hl [3] rfl)
set_option maxHeartbeats 4000000 in
set_option maxRecDepth 100000 in
theorem f_MM_ways_b9_a {E : (Nat → Prop) → State → Heap → Prop} {p : Program} {l : Launch} {e : Env} {s : State} {m : MethodId} {args : Array Value} {below : List Frame} {meth : Method} {c : Code} {D : va_G} {ad kd sd vd xd : Nat → Nat} {ca : Nat → ClassId} {A : Nat → Prop} {ky ty : Nat → Option Nat} {Q : State → Prop} (hE : o_EK E kd sd vd xd) (hKy : m_KY ky ty sd) (C : o_Cx E p s m args meth c D m_cls (m_tys ca) "SchemaJudgeModel" b_MM_ways (some .int) 5 cc_MM_ways A) (hDD : ∀ (rt : Nat) (Mm : SMM) (M0 : SMT) (M1 : SMT), va_D A (m_cw ad ca ky ty rt Mm M0 M1)) (d : Nat) (rec : Int32 → SMT → SMM → Option (Int32 × SMM)) (hrec : ∀ (x1 : Int32) (tc : SMT) (Mm : SMM) (M1 : SMT) (r : Int32 × SMM), rec x1 tc Mm = some r → o_Cn E l D m_cls (m_tys ca) y_MM_ways cc_MM_ways (rm_MM_ways d) [.ref (ad 0), .int x1] (m_cw ad ca ky ty 33 Mm tc M1) (m_cw ad ca ky ty 33 r.2 tc M1) (some (.int r.1))) (n : Nat) (u9_x1 : Int32) (u9_x2 : Int32) (u9_tc : SMT) (u9_M1 : SMT) (z : Int32 × SMM) (q : Nat × Int32 × SMM) (h : m_MM_ways_b9 n rec u9_x1 u9_x2 u9_tc z = some q) (h0 : q.1 = 0 → o_At p l e (rm_MM_ways (d + 1)) s m args below meth c Q m_cls D A 5 9 [] (m_cw ad ca ky ty 33 q.2.2 u9_tc u9_M1) [(0, .ref (ad 0)), (1, .int u9_x1), (2, .int u9_x2), (3, .int q.2.1)]) (h1 : q.1 ≠ 0 → (if q.1 = 1 then o_At p l e (rm_MM_ways (d + 1)) s m args below meth c Q m_cls D A 5 23 [] (m_cw ad ca ky ty 33 q.2.2 u9_tc u9_M1) [(2, .int u9_x2)] else o_At p l e (rm_MM_ways (d + 1)) s m args below meth c Q m_cls D A 5 71 [] (m_cw ad ca ky ty 33 q.2.2 u9_tc u9_M1) [(2, .int u9_x2)])) : o_At p l e (rm_MM_ways (d + 1)) s m args below meth c Q m_cls D A 5 9 [] (m_cw ad ca ky ty 33 z.2 u9_tc u9_M1) [(0, .ref (ad 0)), (1, .int u9_x1), (2, .int u9_x2), (3, .int z.1)] := by
  unfold m_MM_ways_b9 at h
  intro H locs ls hP hS hl
  have C0 := C
  obtain ⟨hx, hb, -, -, -, hown, hts, hK, -, -⟩ := C0
  refine lv_aload_n hx hb d_MM_ways_9 rfl (lv_at hl 0 rfl) ?_
  refine lv_iload_n hx hb d_MM_ways_10 rfl (lv_at hl 1 rfl) ?_
  obtain ⟨q2, hq2, h⟩ := o_bd_some h
  refine o_V (st1 := [.int q2.1]) (w1 := (m_cw ad ca ky ty 33 q2.2 u9_tc u9_M1)) hE.1 C (e_MM_row_a hE hKy l n d rec hrec u9_x1 u9_tc z.2 u9_M1 hq2) hP (hDD _ _ _ _) hS hl.1 rfl mw_0 k_9_66 k_9_68 k_s_88 k_1_12 k_9_69 hv_MM_row rfl rfl ⟨(by dsimp only [rm_MM_ways, rm_MM_row]; omega), (by dsimp only [rm_MM_ways, rm_MM_row]; omega)⟩ rfl (Nat.le_of_ble_eq_true rfl) ⟨Nat.zero_le _, Nat.zero_le _⟩ rfl d_MM_ways_11 (fun H locs hP hS => ?_)
  refine lv_istore (lv' := [(4, .int q2.1), (0, .ref (ad 0)), (1, .int u9_x1), (2, .int u9_x2), (3, .int z.1)]) hx hb d_MM_ways_14 hl (by decide) rfl (fun ls hl => ?_)
  refine lv_aload_n hx hb d_MM_ways_16 rfl (lv_at hl 1 rfl) ?_
  refine o_get (v := .int (MM_broken q2.2)) C in_MM hP 0 mw_0 rfl 32 (by decide) k_8_22 rfl rfl d_MM_ways_17 ?_
  refine lv_if_eq (tgt := 25) hx hb d_MM_ways_20 (by decide) (fun c1 => ?_) (fun c1 => ?_)
  · replace h := o_tt c1 h
    refine lv_iload_n hx hb d_MM_ways_25 rfl (lv_at hl 4 rfl) ?_
    refine lv_if_ge (tgt := 40) hx hb d_MM_ways_26 (by decide) (fun c2 => ?_) (fun c2 => ?_)
    · replace h := o_tt c2 h
      refine lv_aload_n hx hb d_MM_ways_40 rfl (lv_at hl 1 rfl) ?_
      refine o_get (v := .ref (ad 6)) C in_MM hP 0 mw_0 rfl 10 (by decide) k_8_0 rfl rfl d_MM_ways_41 ?_
      refine lv_iload_n hx hb d_MM_ways_44 rfl (lv_at hl 4 rfl) ?_
      refine lv_iload hx hb d_MM_ways_45 (lv_at hl 0 rfl) ?_
      obtain ⟨g3, h⟩ := o_gd_some h
      refine o_iast (f := (MM_nodeNext q2.2)) (w1 := (m_cw ad ca ky ty 33 (MM_mk (MM_err q2.2) (MM_fed q2.2) (MM_wrong q2.2) (MM_octets q2.2) (MM_nodeKind q2.2) (MM_nodeA q2.2) (MM_nodeB q2.2) (MM_nodeC q2.2) (upd (MM_nodeNext q2.2) z.1.toNatClampNeg q2.1) (MM_low q2.2) (MM_high q2.2) (MM_setFrom q2.2) (MM_setTo q2.2) (MM_setNot q2.2) (MM_op q2.2) (MM_opA q2.2) (MM_opB q2.2) (MM_mark q2.2) (MM_now q2.2) (MM_then q2.2) (MM_todo q2.2) (MM_nodes q2.2) (MM_sets q2.2) (MM_ranges q2.2) (MM_steps q2.2) (MM_pat q2.2) (MM_patEnd q2.2) (MM_round q2.2) (MM_many1 q2.2) (MM_broken q2.2) (MM_checked q2.2) (MM_faultKind q2.2) (MM_faultValue q2.2) (MM_latestFault q2.2) (MM_anchors q2.2) (MM_key q2.2) (MM_target q2.2) (MM_anchorValue q2.2) (MM_anchorSchema q2.2) (MM_path q2.2) (MM_route q2.2) (MM_isSchema q2.2) (MM_seen1 q2.2) (MM_pathSize q2.2) (MM_octetRow q2.2) (MM_partRow q2.2) (MM_pairValue q2.2) (MM_pairKey q2.2) (MM_pairs q2.2) (MM_judged q2.2) (MM_deepest q2.2) (MM_depth q2.2) (MM_over q2.2) (MM_seen q2.2)) u9_tc u9_M1)) C hP (hDD _ _ _ _) hS 6 5 mw_6 rfl g3 rfl d_MM_ways_47 (fun H locs hP hS => ?_)
      exact f_MM_ways_j48_a hE hKy C hDD d rec hrec n u9_x1 u9_x2 u9_tc u9_M1 q2.1 (MM_mk (MM_err q2.2) (MM_fed q2.2) (MM_wrong q2.2) (MM_octets q2.2) (MM_nodeKind q2.2) (MM_nodeA q2.2) (MM_nodeB q2.2) (MM_nodeC q2.2) (upd (MM_nodeNext q2.2) z.1.toNatClampNeg q2.1) (MM_low q2.2) (MM_high q2.2) (MM_setFrom q2.2) (MM_setTo q2.2) (MM_setNot q2.2) (MM_op q2.2) (MM_opA q2.2) (MM_opB q2.2) (MM_mark q2.2) (MM_now q2.2) (MM_then q2.2) (MM_todo q2.2) (MM_nodes q2.2) (MM_sets q2.2) (MM_ranges q2.2) (MM_steps q2.2) (MM_pat q2.2) (MM_patEnd q2.2) (MM_round q2.2) (MM_many1 q2.2) (MM_broken q2.2) (MM_checked q2.2) (MM_faultKind q2.2) (MM_faultValue q2.2) (MM_latestFault q2.2) (MM_anchors q2.2) (MM_key q2.2) (MM_target q2.2) (MM_anchorValue q2.2) (MM_anchorSchema q2.2) (MM_path q2.2) (MM_route q2.2) (MM_isSchema q2.2) (MM_seen1 q2.2) (MM_pathSize q2.2) (MM_octetRow q2.2) (MM_partRow q2.2) (MM_pairValue q2.2) (MM_pairKey q2.2) (MM_pairs q2.2) (MM_judged q2.2) (MM_deepest q2.2) (MM_depth q2.2) (MM_over q2.2) (MM_seen q2.2)) h h0 h1 _ _ _ hP hS (lv_sub hl [1, 2, 3, 0] rfl)
    · replace h := o_ff c2 h
      refine lv_aload_n hx hb d_MM_ways_29 rfl (lv_at hl 1 rfl) ?_
      refine o_get (v := .ref (ad 3)) C in_MM hP 0 mw_0 rfl 7 (by decide) k_7_237 rfl rfl d_MM_ways_30 ?_
      refine lv_iload_n hx hb d_MM_ways_33 rfl (lv_at hl 3 rfl) ?_
      refine lv_iload hx hb d_MM_ways_34 (lv_at hl 0 rfl) ?_
      obtain ⟨g7, h⟩ := o_gd_some h
      refine o_iast (f := (MM_nodeA q2.2)) (w1 := (m_cw ad ca ky ty 33 (MM_mk (MM_err q2.2) (MM_fed q2.2) (MM_wrong q2.2) (MM_octets q2.2) (MM_nodeKind q2.2) (upd (MM_nodeA q2.2) u9_x2.toNatClampNeg q2.1) (MM_nodeB q2.2) (MM_nodeC q2.2) (MM_nodeNext q2.2) (MM_low q2.2) (MM_high q2.2) (MM_setFrom q2.2) (MM_setTo q2.2) (MM_setNot q2.2) (MM_op q2.2) (MM_opA q2.2) (MM_opB q2.2) (MM_mark q2.2) (MM_now q2.2) (MM_then q2.2) (MM_todo q2.2) (MM_nodes q2.2) (MM_sets q2.2) (MM_ranges q2.2) (MM_steps q2.2) (MM_pat q2.2) (MM_patEnd q2.2) (MM_round q2.2) (MM_many1 q2.2) (MM_broken q2.2) (MM_checked q2.2) (MM_faultKind q2.2) (MM_faultValue q2.2) (MM_latestFault q2.2) (MM_anchors q2.2) (MM_key q2.2) (MM_target q2.2) (MM_anchorValue q2.2) (MM_anchorSchema q2.2) (MM_path q2.2) (MM_route q2.2) (MM_isSchema q2.2) (MM_seen1 q2.2) (MM_pathSize q2.2) (MM_octetRow q2.2) (MM_partRow q2.2) (MM_pairValue q2.2) (MM_pairKey q2.2) (MM_pairs q2.2) (MM_judged q2.2) (MM_deepest q2.2) (MM_depth q2.2) (MM_over q2.2) (MM_seen q2.2)) u9_tc u9_M1)) C hP (hDD _ _ _ _) hS 3 2 mw_3 rfl g7 rfl d_MM_ways_36 (fun H locs hP hS => ?_)
      refine lv_goto (tgt := 48) hx hb d_MM_ways_37 (by decide) ?_
      exact f_MM_ways_j48_a hE hKy C hDD d rec hrec n u9_x1 u9_x2 u9_tc u9_M1 q2.1 (MM_mk (MM_err q2.2) (MM_fed q2.2) (MM_wrong q2.2) (MM_octets q2.2) (MM_nodeKind q2.2) (upd (MM_nodeA q2.2) u9_x2.toNatClampNeg q2.1) (MM_nodeB q2.2) (MM_nodeC q2.2) (MM_nodeNext q2.2) (MM_low q2.2) (MM_high q2.2) (MM_setFrom q2.2) (MM_setTo q2.2) (MM_setNot q2.2) (MM_op q2.2) (MM_opA q2.2) (MM_opB q2.2) (MM_mark q2.2) (MM_now q2.2) (MM_then q2.2) (MM_todo q2.2) (MM_nodes q2.2) (MM_sets q2.2) (MM_ranges q2.2) (MM_steps q2.2) (MM_pat q2.2) (MM_patEnd q2.2) (MM_round q2.2) (MM_many1 q2.2) (MM_broken q2.2) (MM_checked q2.2) (MM_faultKind q2.2) (MM_faultValue q2.2) (MM_latestFault q2.2) (MM_anchors q2.2) (MM_key q2.2) (MM_target q2.2) (MM_anchorValue q2.2) (MM_anchorSchema q2.2) (MM_path q2.2) (MM_route q2.2) (MM_isSchema q2.2) (MM_seen1 q2.2) (MM_pathSize q2.2) (MM_octetRow q2.2) (MM_partRow q2.2) (MM_pairValue q2.2) (MM_pairKey q2.2) (MM_pairs q2.2) (MM_judged q2.2) (MM_deepest q2.2) (MM_depth q2.2) (MM_over q2.2) (MM_seen q2.2)) h h0 h1 _ _ _ hP hS (lv_sub hl [1, 2, 3, 0] rfl)
  · replace h := o_ff c1 h
    cases h
    exact h1 (Nat.succ_ne_zero 0) _ _ _ hP hS (lv_sub hl [3] rfl)
set_option maxHeartbeats 4000000 in
set_option maxRecDepth 100000 in
theorem e_MM_ways_a_F {E : (Nat → Prop) → State → Heap → Prop} {D : va_G} {ad kd sd vd xd : Nat → Nat} {ca : Nat → ClassId} {ky ty : Nat → Option Nat} (hE : o_EK E kd sd vd xd) (hKy : m_KY ky ty sd) (l : Launch) (n : Nat) (d : Nat) (rec : Int32 → SMT → SMM → Option (Int32 × SMM)) (hrec : ∀ (x1 : Int32) (tc : SMT) (Mm : SMM) (M1 : SMT) (r : Int32 × SMM), rec x1 tc Mm = some r → o_Cn E l D m_cls (m_tys ca) y_MM_ways cc_MM_ways (rm_MM_ways d) [.ref (ad 0), .int x1] (m_cw ad ca ky ty 33 Mm tc M1) (m_cw ad ca ky ty 33 r.2 tc M1) (some (.int r.1))) (x1 : Int32) (tc : SMT) (Mm : SMM) (M1 : SMT) {r : Int32 × SMM} (h : m_MM_ways_F n rec x1 tc Mm = some r) : o_Cn E l D m_cls (m_tys ca) y_MM_ways cc_MM_ways (rm_MM_ways (d + 1)) [.ref (ad 0), .int x1] (m_cw ad ca ky ty 33 Mm tc M1) (m_cw ad ca ky ty 33 r.2 tc M1) (some (.int r.1)) := by
  refine o_Cn_of (by decide) (Nat.le_of_ble_eq_true rfl) ?_
  intro p e s m below meth c A ls C hD hP hS hl
  have hDD : ∀ (rt : Nat) (Mm : SMM) (M0 : SMT) (M1 : SMT), va_D A (m_cw ad ca ky ty rt Mm M0 M1) := fun _ _ _ _ => o_D_map hD rfl
  have hl : lv_has ls 5 [(0, .ref (ad 0)), (1, .int x1)] := hl
  unfold m_MM_ways_F at h
  have C0 := C
  obtain ⟨hx, hb, -, -, -, hown, hts, hK, -, -⟩ := C0
  refine lv_aload_n hx hb d_MM_ways_0 rfl (lv_at hl 0 rfl) ?_
  refine lv_iconst (v := (5:Int32)) hx hb d_MM_ways_1 (by decide) ?_
  refine lv_iconst (v := (-1:Int32)) hx hb d_MM_ways_2 (by decide) ?_
  obtain ⟨q1, hq1, h⟩ := o_bd_some h
  refine o_V (st1 := [.int q1.1]) (w1 := (m_cw ad ca ky ty 33 q1.2 tc M1)) hE.1 C (e_MM_node hE hKy l (5:Int32) (-1:Int32) Mm tc M1 33 hq1) hP (hDD _ _ _ _) hS hl.1 rfl mw_0 k_9_62 k_9_64 k_s_87 k_1_12 k_9_65 hv_MM_node rfl rfl ⟨(by dsimp only [rm_MM_ways, rm_MM_node]; omega), (by dsimp only [rm_MM_ways, rm_MM_node]; omega)⟩ rfl (Nat.le_of_ble_eq_true rfl) ⟨Nat.zero_le _, Nat.zero_le _⟩ rfl d_MM_ways_3 (fun H locs hP hS => ?_)
  refine lv_istore_n (lv' := [(2, .int q1.1), (0, .ref (ad 0)), (1, .int x1)]) hx hb d_MM_ways_6 rfl hl (by decide) rfl (fun ls hl => ?_)
  refine lv_iconst (v := (-1:Int32)) hx hb d_MM_ways_7 (by decide) ?_
  refine lv_istore_n (lv' := [(3, .int (-1:Int32)), (2, .int q1.1), (0, .ref (ad 0)), (1, .int x1)]) hx hb d_MM_ways_8 rfl hl (by decide) rfl (fun ls hl => ?_)
  obtain ⟨q4, hq4, h⟩ := o_bd_some h
  refine o_sim2 (AH := fun zz => o_At p l e (rm_MM_ways (d + 1)) s m _ below meth c _ m_cls D A 5 9 [] (m_cw ad ca ky ty 33 zz.2 tc M1) [(0, .ref (ad 0)), (1, .int x1), (2, .int q1.1), (3, .int zz.1)]) (AX := fun qq => if qq.1 = 1 then o_At p l e (rm_MM_ways (d + 1)) s m _ below meth c _ m_cls D A 5 23 [] (m_cw ad ca ky ty 33 qq.2.2 tc M1) [(2, .int q1.1)] else o_At p l e (rm_MM_ways (d + 1)) s m _ below meth c _ m_cls D A 5 71 [] (m_cw ad ca ky ty 33 qq.2.2 tc M1) [(2, .int q1.1)]) (fun zz qq h h0 h1 => f_MM_ways_b9_a hE hKy C hDD d rec hrec n x1 q1.1 tc M1 zz qq h h0 h1) n _ q4 hq4 ?_ _ _ _ hP hS (lv_sub hl [2, 3, 1, 0] rfl)
  by_cases c8 : q4.1 = 1
  · replace h := o_tt c8 h
    refine o_ip c8 ?_
    intro H locs ls hP hS hl
    refine lv_iload_n hx hb d_MM_ways_23 rfl (lv_at hl 0 rfl) ?_
    cases h
    exact o_ri C hP hS d_MM_ways_24
  replace h := o_ff c8 h
  refine o_in_ c8 ?_
  intro H locs ls hP hS hl
  refine lv_iload_n hx hb d_MM_ways_71 rfl (lv_at hl 0 rfl) ?_
  cases h
  exact o_ri C hP hS d_MM_ways_72
set_option maxHeartbeats 4000000 in
set_option maxRecDepth 100000 in
theorem e_MM_ways_a {E : (Nat → Prop) → State → Heap → Prop} {D : va_G} {ad kd sd vd xd : Nat → Nat} {ca : Nat → ClassId} {ky ty : Nat → Option Nat} (hE : o_EK E kd sd vd xd) (hKy : m_KY ky ty sd) (l : Launch) (n : Nat) (d : Nat) (x1 : Int32) (tc : SMT) (Mm : SMM) (M1 : SMT) {r : Int32 × SMM} (h : m_MM_ways n d x1 tc Mm = some r) : o_Cn E l D m_cls (m_tys ca) y_MM_ways cc_MM_ways (rm_MM_ways d) [.ref (ad 0), .int x1] (m_cw ad ca ky ty 33 Mm tc M1) (m_cw ad ca ky ty 33 r.2 tc M1) (some (.int r.1)) := by
  induction d generalizing x1 tc Mm M1 r with
  | zero => cases h
  | succ d ih =>
    exact e_MM_ways_a_F hE hKy l n d (m_MM_ways n d) (fun x1 tc Mm M1 r h => ih x1 tc Mm M1 h) _ _ _ _ h
set_option maxHeartbeats 4000000 in
set_option maxRecDepth 100000 in
theorem f_MM_ways_j48_b {E : (Nat → Prop) → State → Heap → Prop} {p : Program} {l : Launch} {e : Env} {s : State} {m : MethodId} {args : Array Value} {below : List Frame} {meth : Method} {c : Code} {D : va_G} {ad kd sd vd xd : Nat → Nat} {ca : Nat → ClassId} {A : Nat → Prop} {ky ty : Nat → Option Nat} {Q : State → Prop} (hE : o_EK E kd sd vd xd) (hKy : m_KY ky ty sd) (C : o_Cx E p s m args meth c D m_cls (m_tys ca) "SchemaJudgeModel" b_MM_ways (some .int) 5 cc_MM_ways A) (hDD : ∀ (rt : Nat) (Mm : SMM) (M0 : SMT) (M1 : SMT), va_D A (m_cw ad ca ky ty rt Mm M0 M1)) (d : Nat) (rec : Int32 → SMT → SMM → Option (Int32 × SMM)) (hrec : ∀ (x1 : Int32) (tc : SMT) (Mm : SMM) (M0 : SMT) (r : Int32 × SMM), rec x1 tc Mm = some r → o_Cn E l D m_cls (m_tys ca) y_MM_ways cc_MM_ways (rm_MM_ways d) [.ref (ad 0), .int x1] (m_cw ad ca ky ty 48 Mm M0 tc) (m_cw ad ca ky ty 48 r.2 M0 tc) (some (.int r.1))) (n : Nat) (u9_x1 : Int32) (u9_x2 : Int32) (u9_tc : SMT) (u9_M0 : SMT) (x4 : Int32) (Mm : SMM) {q : Nat × Int32 × SMM} (h : m_MM_ways_j48 n rec u9_x1 u9_x2 x4 u9_tc Mm = some q) (h0 : q.1 = 0 → o_At p l e (rm_MM_ways (d + 1)) s m args below meth c Q m_cls D A 5 9 [] (m_cw ad ca ky ty 48 q.2.2 u9_M0 u9_tc) [(0, .ref (ad 0)), (1, .int u9_x1), (2, .int u9_x2), (3, .int q.2.1)]) (h1 : q.1 ≠ 0 → (if q.1 = 1 then o_At p l e (rm_MM_ways (d + 1)) s m args below meth c Q m_cls D A 5 23 [] (m_cw ad ca ky ty 48 q.2.2 u9_M0 u9_tc) [(2, .int u9_x2)] else o_At p l e (rm_MM_ways (d + 1)) s m args below meth c Q m_cls D A 5 71 [] (m_cw ad ca ky ty 48 q.2.2 u9_M0 u9_tc) [(2, .int u9_x2)])) : o_At p l e (rm_MM_ways (d + 1)) s m args below meth c Q m_cls D A 5 48 [] (m_cw ad ca ky ty 48 Mm u9_M0 u9_tc) [(0, .ref (ad 0)), (1, .int u9_x1), (2, .int u9_x2), (4, .int x4)] := by
  unfold m_MM_ways_j48 at h
  intro H locs ls hP hS hl
  have C0 := C
  obtain ⟨hx, hb, -, -, -, hown, hts, hK, -, -⟩ := C0
  refine lv_iload hx hb d_MM_ways_48 (lv_at hl 3 rfl) ?_
  refine lv_istore_n (lv' := [(3, .int x4), (0, .ref (ad 0)), (1, .int u9_x1), (2, .int u9_x2), (4, .int x4)]) hx hb d_MM_ways_50 rfl hl (by decide) rfl (fun ls hl => ?_)
  refine lv_aload_n hx hb d_MM_ways_51 rfl (lv_at hl 1 rfl) ?_
  refine o_get (v := .ref (ad 4)) C in_MM hP 0 mw_0 rfl 8 (by decide) k_7_238 rfl rfl d_MM_ways_52 ?_
  refine lv_iload_n hx hb d_MM_ways_55 rfl (lv_at hl 3 rfl) ?_
  refine lv_dup2_11 hx hb d_MM_ways_56 rfl rfl ?_
  obtain ⟨g4, h⟩ := o_gd_some h
  refine o_iald (f := (MM_nodeB Mm)) C hP 4 3 mw_4 rfl g4 d_MM_ways_57 ?_
  refine lv_iconst (v := (1:Int32)) hx hb d_MM_ways_58 (by decide) ?_
  refine lv_iadd hx hb d_MM_ways_59 ?_
  obtain ⟨g5, h⟩ := o_gd_some h
  refine o_iast (f := (MM_nodeB Mm)) (w1 := (m_cw ad ca ky ty 48 (MM_mk (MM_err Mm) (MM_fed Mm) (MM_wrong Mm) (MM_octets Mm) (MM_nodeKind Mm) (MM_nodeA Mm) (upd (MM_nodeB Mm) u9_x2.toNatClampNeg (((MM_nodeB Mm) u9_x2.toNatClampNeg) + (1:Int32))) (MM_nodeC Mm) (MM_nodeNext Mm) (MM_low Mm) (MM_high Mm) (MM_setFrom Mm) (MM_setTo Mm) (MM_setNot Mm) (MM_op Mm) (MM_opA Mm) (MM_opB Mm) (MM_mark Mm) (MM_now Mm) (MM_then Mm) (MM_todo Mm) (MM_nodes Mm) (MM_sets Mm) (MM_ranges Mm) (MM_steps Mm) (MM_pat Mm) (MM_patEnd Mm) (MM_round Mm) (MM_many1 Mm) (MM_broken Mm) (MM_checked Mm) (MM_faultKind Mm) (MM_faultValue Mm) (MM_latestFault Mm) (MM_anchors Mm) (MM_key Mm) (MM_target Mm) (MM_anchorValue Mm) (MM_anchorSchema Mm) (MM_path Mm) (MM_route Mm) (MM_isSchema Mm) (MM_seen1 Mm) (MM_pathSize Mm) (MM_octetRow Mm) (MM_partRow Mm) (MM_pairValue Mm) (MM_pairKey Mm) (MM_pairs Mm) (MM_judged Mm) (MM_deepest Mm) (MM_depth Mm) (MM_over Mm) (MM_seen Mm)) u9_M0 u9_tc)) C hP (hDD _ _ _ _) hS 4 3 mw_4 rfl g5 rfl d_MM_ways_60 (fun H locs hP hS => ?_)
  refine lv_aload_n hx hb d_MM_ways_61 rfl (lv_at hl 1 rfl) ?_
  refine lv_iconst (v := (0:Int32)) hx hb d_MM_ways_62 (by decide) ?_
  obtain ⟨q3, hq3, h⟩ := o_bd_some h
  refine o_V (st1 := [.int q3]) (w1 := (m_cw ad ca ky ty 48 (MM_mk (MM_err Mm) (MM_fed Mm) (MM_wrong Mm) (MM_octets Mm) (MM_nodeKind Mm) (MM_nodeA Mm) (upd (MM_nodeB Mm) u9_x2.toNatClampNeg (((MM_nodeB Mm) u9_x2.toNatClampNeg) + (1:Int32))) (MM_nodeC Mm) (MM_nodeNext Mm) (MM_low Mm) (MM_high Mm) (MM_setFrom Mm) (MM_setTo Mm) (MM_setNot Mm) (MM_op Mm) (MM_opA Mm) (MM_opB Mm) (MM_mark Mm) (MM_now Mm) (MM_then Mm) (MM_todo Mm) (MM_nodes Mm) (MM_sets Mm) (MM_ranges Mm) (MM_steps Mm) (MM_pat Mm) (MM_patEnd Mm) (MM_round Mm) (MM_many1 Mm) (MM_broken Mm) (MM_checked Mm) (MM_faultKind Mm) (MM_faultValue Mm) (MM_latestFault Mm) (MM_anchors Mm) (MM_key Mm) (MM_target Mm) (MM_anchorValue Mm) (MM_anchorSchema Mm) (MM_path Mm) (MM_route Mm) (MM_isSchema Mm) (MM_seen1 Mm) (MM_pathSize Mm) (MM_octetRow Mm) (MM_partRow Mm) (MM_pairValue Mm) (MM_pairKey Mm) (MM_pairs Mm) (MM_judged Mm) (MM_deepest Mm) (MM_depth Mm) (MM_over Mm) (MM_seen Mm)) u9_M0 u9_tc)) hE.1 C (e_MM_p_b hE hKy l (0:Int32) u9_tc (MM_mk (MM_err Mm) (MM_fed Mm) (MM_wrong Mm) (MM_octets Mm) (MM_nodeKind Mm) (MM_nodeA Mm) (upd (MM_nodeB Mm) u9_x2.toNatClampNeg (((MM_nodeB Mm) u9_x2.toNatClampNeg) + (1:Int32))) (MM_nodeC Mm) (MM_nodeNext Mm) (MM_low Mm) (MM_high Mm) (MM_setFrom Mm) (MM_setTo Mm) (MM_setNot Mm) (MM_op Mm) (MM_opA Mm) (MM_opB Mm) (MM_mark Mm) (MM_now Mm) (MM_then Mm) (MM_todo Mm) (MM_nodes Mm) (MM_sets Mm) (MM_ranges Mm) (MM_steps Mm) (MM_pat Mm) (MM_patEnd Mm) (MM_round Mm) (MM_many1 Mm) (MM_broken Mm) (MM_checked Mm) (MM_faultKind Mm) (MM_faultValue Mm) (MM_latestFault Mm) (MM_anchors Mm) (MM_key Mm) (MM_target Mm) (MM_anchorValue Mm) (MM_anchorSchema Mm) (MM_path Mm) (MM_route Mm) (MM_isSchema Mm) (MM_seen1 Mm) (MM_pathSize Mm) (MM_octetRow Mm) (MM_partRow Mm) (MM_pairValue Mm) (MM_pairKey Mm) (MM_pairs Mm) (MM_judged Mm) (MM_deepest Mm) (MM_depth Mm) (MM_over Mm) (MM_seen Mm)) u9_M0 hq3) hP (hDD _ _ _ _) hS hl.1 rfl mw_0 k_9_70 k_9_72 k_s_89 k_1_12 k_9_73 hv_MM_p rfl rfl ⟨(by dsimp only [rm_MM_ways, rm_MM_p]; omega), (by dsimp only [rm_MM_ways, rm_MM_p]; omega)⟩ rfl (Nat.le_of_ble_eq_true rfl) ⟨Nat.zero_le _, Nat.zero_le _⟩ rfl d_MM_ways_63 (fun H locs hP hS => ?_)
  refine lv_bipush (v := (124:Int32)) hx hb d_MM_ways_66 (by decide) ?_
  refine lv_icmp_eq (tgt := 73) hx hb d_MM_ways_68 (by decide) (fun c6 => ?_) (fun c6 => ?_)
  · replace h := o_tt c6 h
    refine lv_aload_n hx hb d_MM_ways_73 rfl (lv_at hl 1 rfl) ?_
    refine lv_dup hx hb d_MM_ways_74 rfl ?_
    refine o_get (v := .int (MM_pat Mm)) C in_MM hP 0 mw_0 rfl 27 (by decide) k_8_17 rfl rfl d_MM_ways_75 ?_
    refine lv_iconst (v := (1:Int32)) hx hb d_MM_ways_78 (by decide) ?_
    refine lv_iadd hx hb d_MM_ways_79 ?_
    refine o_put (v := .int ((MM_pat Mm) + (1:Int32))) (ty := .int) (w1 := (m_cw ad ca ky ty 48 (MM_mk (MM_err Mm) (MM_fed Mm) (MM_wrong Mm) (MM_octets Mm) (MM_nodeKind Mm) (MM_nodeA Mm) (upd (MM_nodeB Mm) u9_x2.toNatClampNeg (((MM_nodeB Mm) u9_x2.toNatClampNeg) + (1:Int32))) (MM_nodeC Mm) (MM_nodeNext Mm) (MM_low Mm) (MM_high Mm) (MM_setFrom Mm) (MM_setTo Mm) (MM_setNot Mm) (MM_op Mm) (MM_opA Mm) (MM_opB Mm) (MM_mark Mm) (MM_now Mm) (MM_then Mm) (MM_todo Mm) (MM_nodes Mm) (MM_sets Mm) (MM_ranges Mm) (MM_steps Mm) ((MM_pat Mm) + (1:Int32)) (MM_patEnd Mm) (MM_round Mm) (MM_many1 Mm) (MM_broken Mm) (MM_checked Mm) (MM_faultKind Mm) (MM_faultValue Mm) (MM_latestFault Mm) (MM_anchors Mm) (MM_key Mm) (MM_target Mm) (MM_anchorValue Mm) (MM_anchorSchema Mm) (MM_path Mm) (MM_route Mm) (MM_isSchema Mm) (MM_seen1 Mm) (MM_pathSize Mm) (MM_octetRow Mm) (MM_partRow Mm) (MM_pairValue Mm) (MM_pairKey Mm) (MM_pairs Mm) (MM_judged Mm) (MM_deepest Mm) (MM_depth Mm) (MM_over Mm) (MM_seen Mm)) u9_M0 u9_tc)) C in_MM t_MM t_MM_ok n_MM hP (hDD _ _ _ _) hS 0 mw_0 rfl 27 (by decide) k_8_17 rfl rfl (by decide +kernel) rfl rfl (Nat.le_of_ble_eq_true rfl) rfl d_MM_ways_80 (fun H locs hP hS => ?_)
    refine lv_goto (tgt := 9) hx hb d_MM_ways_83 (by decide) ?_
    cases h
    exact h0 rfl _ _ _ hP hS (lv_sub hl [1, 2, 3, 0] rfl)
  · replace h := o_ff c6 h
    cases h
    exact h1 (Nat.succ_ne_zero 1) _ _ _ hP hS (lv_sub hl [3] rfl)
set_option maxHeartbeats 4000000 in
set_option maxRecDepth 100000 in
theorem f_MM_ways_b9_b {E : (Nat → Prop) → State → Heap → Prop} {p : Program} {l : Launch} {e : Env} {s : State} {m : MethodId} {args : Array Value} {below : List Frame} {meth : Method} {c : Code} {D : va_G} {ad kd sd vd xd : Nat → Nat} {ca : Nat → ClassId} {A : Nat → Prop} {ky ty : Nat → Option Nat} {Q : State → Prop} (hE : o_EK E kd sd vd xd) (hKy : m_KY ky ty sd) (C : o_Cx E p s m args meth c D m_cls (m_tys ca) "SchemaJudgeModel" b_MM_ways (some .int) 5 cc_MM_ways A) (hDD : ∀ (rt : Nat) (Mm : SMM) (M0 : SMT) (M1 : SMT), va_D A (m_cw ad ca ky ty rt Mm M0 M1)) (d : Nat) (rec : Int32 → SMT → SMM → Option (Int32 × SMM)) (hrec : ∀ (x1 : Int32) (tc : SMT) (Mm : SMM) (M0 : SMT) (r : Int32 × SMM), rec x1 tc Mm = some r → o_Cn E l D m_cls (m_tys ca) y_MM_ways cc_MM_ways (rm_MM_ways d) [.ref (ad 0), .int x1] (m_cw ad ca ky ty 48 Mm M0 tc) (m_cw ad ca ky ty 48 r.2 M0 tc) (some (.int r.1))) (n : Nat) (u9_x1 : Int32) (u9_x2 : Int32) (u9_tc : SMT) (u9_M0 : SMT) (z : Int32 × SMM) (q : Nat × Int32 × SMM) (h : m_MM_ways_b9 n rec u9_x1 u9_x2 u9_tc z = some q) (h0 : q.1 = 0 → o_At p l e (rm_MM_ways (d + 1)) s m args below meth c Q m_cls D A 5 9 [] (m_cw ad ca ky ty 48 q.2.2 u9_M0 u9_tc) [(0, .ref (ad 0)), (1, .int u9_x1), (2, .int u9_x2), (3, .int q.2.1)]) (h1 : q.1 ≠ 0 → (if q.1 = 1 then o_At p l e (rm_MM_ways (d + 1)) s m args below meth c Q m_cls D A 5 23 [] (m_cw ad ca ky ty 48 q.2.2 u9_M0 u9_tc) [(2, .int u9_x2)] else o_At p l e (rm_MM_ways (d + 1)) s m args below meth c Q m_cls D A 5 71 [] (m_cw ad ca ky ty 48 q.2.2 u9_M0 u9_tc) [(2, .int u9_x2)])) : o_At p l e (rm_MM_ways (d + 1)) s m args below meth c Q m_cls D A 5 9 [] (m_cw ad ca ky ty 48 z.2 u9_M0 u9_tc) [(0, .ref (ad 0)), (1, .int u9_x1), (2, .int u9_x2), (3, .int z.1)] := by
  unfold m_MM_ways_b9 at h
  intro H locs ls hP hS hl
  have C0 := C
  obtain ⟨hx, hb, -, -, -, hown, hts, hK, -, -⟩ := C0
  refine lv_aload_n hx hb d_MM_ways_9 rfl (lv_at hl 0 rfl) ?_
  refine lv_iload_n hx hb d_MM_ways_10 rfl (lv_at hl 1 rfl) ?_
  obtain ⟨q2, hq2, h⟩ := o_bd_some h
  refine o_V (st1 := [.int q2.1]) (w1 := (m_cw ad ca ky ty 48 q2.2 u9_M0 u9_tc)) hE.1 C (e_MM_row_b hE hKy l n d rec hrec u9_x1 u9_tc z.2 u9_M0 hq2) hP (hDD _ _ _ _) hS hl.1 rfl mw_0 k_9_66 k_9_68 k_s_88 k_1_12 k_9_69 hv_MM_row rfl rfl ⟨(by dsimp only [rm_MM_ways, rm_MM_row]; omega), (by dsimp only [rm_MM_ways, rm_MM_row]; omega)⟩ rfl (Nat.le_of_ble_eq_true rfl) ⟨Nat.zero_le _, Nat.zero_le _⟩ rfl d_MM_ways_11 (fun H locs hP hS => ?_)
  refine lv_istore (lv' := [(4, .int q2.1), (0, .ref (ad 0)), (1, .int u9_x1), (2, .int u9_x2), (3, .int z.1)]) hx hb d_MM_ways_14 hl (by decide) rfl (fun ls hl => ?_)
  refine lv_aload_n hx hb d_MM_ways_16 rfl (lv_at hl 1 rfl) ?_
  refine o_get (v := .int (MM_broken q2.2)) C in_MM hP 0 mw_0 rfl 32 (by decide) k_8_22 rfl rfl d_MM_ways_17 ?_
  refine lv_if_eq (tgt := 25) hx hb d_MM_ways_20 (by decide) (fun c1 => ?_) (fun c1 => ?_)
  · replace h := o_tt c1 h
    refine lv_iload_n hx hb d_MM_ways_25 rfl (lv_at hl 4 rfl) ?_
    refine lv_if_ge (tgt := 40) hx hb d_MM_ways_26 (by decide) (fun c2 => ?_) (fun c2 => ?_)
    · replace h := o_tt c2 h
      refine lv_aload_n hx hb d_MM_ways_40 rfl (lv_at hl 1 rfl) ?_
      refine o_get (v := .ref (ad 6)) C in_MM hP 0 mw_0 rfl 10 (by decide) k_8_0 rfl rfl d_MM_ways_41 ?_
      refine lv_iload_n hx hb d_MM_ways_44 rfl (lv_at hl 4 rfl) ?_
      refine lv_iload hx hb d_MM_ways_45 (lv_at hl 0 rfl) ?_
      obtain ⟨g3, h⟩ := o_gd_some h
      refine o_iast (f := (MM_nodeNext q2.2)) (w1 := (m_cw ad ca ky ty 48 (MM_mk (MM_err q2.2) (MM_fed q2.2) (MM_wrong q2.2) (MM_octets q2.2) (MM_nodeKind q2.2) (MM_nodeA q2.2) (MM_nodeB q2.2) (MM_nodeC q2.2) (upd (MM_nodeNext q2.2) z.1.toNatClampNeg q2.1) (MM_low q2.2) (MM_high q2.2) (MM_setFrom q2.2) (MM_setTo q2.2) (MM_setNot q2.2) (MM_op q2.2) (MM_opA q2.2) (MM_opB q2.2) (MM_mark q2.2) (MM_now q2.2) (MM_then q2.2) (MM_todo q2.2) (MM_nodes q2.2) (MM_sets q2.2) (MM_ranges q2.2) (MM_steps q2.2) (MM_pat q2.2) (MM_patEnd q2.2) (MM_round q2.2) (MM_many1 q2.2) (MM_broken q2.2) (MM_checked q2.2) (MM_faultKind q2.2) (MM_faultValue q2.2) (MM_latestFault q2.2) (MM_anchors q2.2) (MM_key q2.2) (MM_target q2.2) (MM_anchorValue q2.2) (MM_anchorSchema q2.2) (MM_path q2.2) (MM_route q2.2) (MM_isSchema q2.2) (MM_seen1 q2.2) (MM_pathSize q2.2) (MM_octetRow q2.2) (MM_partRow q2.2) (MM_pairValue q2.2) (MM_pairKey q2.2) (MM_pairs q2.2) (MM_judged q2.2) (MM_deepest q2.2) (MM_depth q2.2) (MM_over q2.2) (MM_seen q2.2)) u9_M0 u9_tc)) C hP (hDD _ _ _ _) hS 6 5 mw_6 rfl g3 rfl d_MM_ways_47 (fun H locs hP hS => ?_)
      exact f_MM_ways_j48_b hE hKy C hDD d rec hrec n u9_x1 u9_x2 u9_tc u9_M0 q2.1 (MM_mk (MM_err q2.2) (MM_fed q2.2) (MM_wrong q2.2) (MM_octets q2.2) (MM_nodeKind q2.2) (MM_nodeA q2.2) (MM_nodeB q2.2) (MM_nodeC q2.2) (upd (MM_nodeNext q2.2) z.1.toNatClampNeg q2.1) (MM_low q2.2) (MM_high q2.2) (MM_setFrom q2.2) (MM_setTo q2.2) (MM_setNot q2.2) (MM_op q2.2) (MM_opA q2.2) (MM_opB q2.2) (MM_mark q2.2) (MM_now q2.2) (MM_then q2.2) (MM_todo q2.2) (MM_nodes q2.2) (MM_sets q2.2) (MM_ranges q2.2) (MM_steps q2.2) (MM_pat q2.2) (MM_patEnd q2.2) (MM_round q2.2) (MM_many1 q2.2) (MM_broken q2.2) (MM_checked q2.2) (MM_faultKind q2.2) (MM_faultValue q2.2) (MM_latestFault q2.2) (MM_anchors q2.2) (MM_key q2.2) (MM_target q2.2) (MM_anchorValue q2.2) (MM_anchorSchema q2.2) (MM_path q2.2) (MM_route q2.2) (MM_isSchema q2.2) (MM_seen1 q2.2) (MM_pathSize q2.2) (MM_octetRow q2.2) (MM_partRow q2.2) (MM_pairValue q2.2) (MM_pairKey q2.2) (MM_pairs q2.2) (MM_judged q2.2) (MM_deepest q2.2) (MM_depth q2.2) (MM_over q2.2) (MM_seen q2.2)) h h0 h1 _ _ _ hP hS (lv_sub hl [1, 2, 3, 0] rfl)
    · replace h := o_ff c2 h
      refine lv_aload_n hx hb d_MM_ways_29 rfl (lv_at hl 1 rfl) ?_
      refine o_get (v := .ref (ad 3)) C in_MM hP 0 mw_0 rfl 7 (by decide) k_7_237 rfl rfl d_MM_ways_30 ?_
      refine lv_iload_n hx hb d_MM_ways_33 rfl (lv_at hl 3 rfl) ?_
      refine lv_iload hx hb d_MM_ways_34 (lv_at hl 0 rfl) ?_
      obtain ⟨g7, h⟩ := o_gd_some h
      refine o_iast (f := (MM_nodeA q2.2)) (w1 := (m_cw ad ca ky ty 48 (MM_mk (MM_err q2.2) (MM_fed q2.2) (MM_wrong q2.2) (MM_octets q2.2) (MM_nodeKind q2.2) (upd (MM_nodeA q2.2) u9_x2.toNatClampNeg q2.1) (MM_nodeB q2.2) (MM_nodeC q2.2) (MM_nodeNext q2.2) (MM_low q2.2) (MM_high q2.2) (MM_setFrom q2.2) (MM_setTo q2.2) (MM_setNot q2.2) (MM_op q2.2) (MM_opA q2.2) (MM_opB q2.2) (MM_mark q2.2) (MM_now q2.2) (MM_then q2.2) (MM_todo q2.2) (MM_nodes q2.2) (MM_sets q2.2) (MM_ranges q2.2) (MM_steps q2.2) (MM_pat q2.2) (MM_patEnd q2.2) (MM_round q2.2) (MM_many1 q2.2) (MM_broken q2.2) (MM_checked q2.2) (MM_faultKind q2.2) (MM_faultValue q2.2) (MM_latestFault q2.2) (MM_anchors q2.2) (MM_key q2.2) (MM_target q2.2) (MM_anchorValue q2.2) (MM_anchorSchema q2.2) (MM_path q2.2) (MM_route q2.2) (MM_isSchema q2.2) (MM_seen1 q2.2) (MM_pathSize q2.2) (MM_octetRow q2.2) (MM_partRow q2.2) (MM_pairValue q2.2) (MM_pairKey q2.2) (MM_pairs q2.2) (MM_judged q2.2) (MM_deepest q2.2) (MM_depth q2.2) (MM_over q2.2) (MM_seen q2.2)) u9_M0 u9_tc)) C hP (hDD _ _ _ _) hS 3 2 mw_3 rfl g7 rfl d_MM_ways_36 (fun H locs hP hS => ?_)
      refine lv_goto (tgt := 48) hx hb d_MM_ways_37 (by decide) ?_
      exact f_MM_ways_j48_b hE hKy C hDD d rec hrec n u9_x1 u9_x2 u9_tc u9_M0 q2.1 (MM_mk (MM_err q2.2) (MM_fed q2.2) (MM_wrong q2.2) (MM_octets q2.2) (MM_nodeKind q2.2) (upd (MM_nodeA q2.2) u9_x2.toNatClampNeg q2.1) (MM_nodeB q2.2) (MM_nodeC q2.2) (MM_nodeNext q2.2) (MM_low q2.2) (MM_high q2.2) (MM_setFrom q2.2) (MM_setTo q2.2) (MM_setNot q2.2) (MM_op q2.2) (MM_opA q2.2) (MM_opB q2.2) (MM_mark q2.2) (MM_now q2.2) (MM_then q2.2) (MM_todo q2.2) (MM_nodes q2.2) (MM_sets q2.2) (MM_ranges q2.2) (MM_steps q2.2) (MM_pat q2.2) (MM_patEnd q2.2) (MM_round q2.2) (MM_many1 q2.2) (MM_broken q2.2) (MM_checked q2.2) (MM_faultKind q2.2) (MM_faultValue q2.2) (MM_latestFault q2.2) (MM_anchors q2.2) (MM_key q2.2) (MM_target q2.2) (MM_anchorValue q2.2) (MM_anchorSchema q2.2) (MM_path q2.2) (MM_route q2.2) (MM_isSchema q2.2) (MM_seen1 q2.2) (MM_pathSize q2.2) (MM_octetRow q2.2) (MM_partRow q2.2) (MM_pairValue q2.2) (MM_pairKey q2.2) (MM_pairs q2.2) (MM_judged q2.2) (MM_deepest q2.2) (MM_depth q2.2) (MM_over q2.2) (MM_seen q2.2)) h h0 h1 _ _ _ hP hS (lv_sub hl [1, 2, 3, 0] rfl)
  · replace h := o_ff c1 h
    cases h
    exact h1 (Nat.succ_ne_zero 0) _ _ _ hP hS (lv_sub hl [3] rfl)
set_option maxHeartbeats 4000000 in
set_option maxRecDepth 100000 in
theorem e_MM_ways_b_F {E : (Nat → Prop) → State → Heap → Prop} {D : va_G} {ad kd sd vd xd : Nat → Nat} {ca : Nat → ClassId} {ky ty : Nat → Option Nat} (hE : o_EK E kd sd vd xd) (hKy : m_KY ky ty sd) (l : Launch) (n : Nat) (d : Nat) (rec : Int32 → SMT → SMM → Option (Int32 × SMM)) (hrec : ∀ (x1 : Int32) (tc : SMT) (Mm : SMM) (M0 : SMT) (r : Int32 × SMM), rec x1 tc Mm = some r → o_Cn E l D m_cls (m_tys ca) y_MM_ways cc_MM_ways (rm_MM_ways d) [.ref (ad 0), .int x1] (m_cw ad ca ky ty 48 Mm M0 tc) (m_cw ad ca ky ty 48 r.2 M0 tc) (some (.int r.1))) (x1 : Int32) (tc : SMT) (Mm : SMM) (M0 : SMT) {r : Int32 × SMM} (h : m_MM_ways_F n rec x1 tc Mm = some r) : o_Cn E l D m_cls (m_tys ca) y_MM_ways cc_MM_ways (rm_MM_ways (d + 1)) [.ref (ad 0), .int x1] (m_cw ad ca ky ty 48 Mm M0 tc) (m_cw ad ca ky ty 48 r.2 M0 tc) (some (.int r.1)) := by
  refine o_Cn_of (by decide) (Nat.le_of_ble_eq_true rfl) ?_
  intro p e s m below meth c A ls C hD hP hS hl
  have hDD : ∀ (rt : Nat) (Mm : SMM) (M0 : SMT) (M1 : SMT), va_D A (m_cw ad ca ky ty rt Mm M0 M1) := fun _ _ _ _ => o_D_map hD rfl
  have hl : lv_has ls 5 [(0, .ref (ad 0)), (1, .int x1)] := hl
  unfold m_MM_ways_F at h
  have C0 := C
  obtain ⟨hx, hb, -, -, -, hown, hts, hK, -, -⟩ := C0
  refine lv_aload_n hx hb d_MM_ways_0 rfl (lv_at hl 0 rfl) ?_
  refine lv_iconst (v := (5:Int32)) hx hb d_MM_ways_1 (by decide) ?_
  refine lv_iconst (v := (-1:Int32)) hx hb d_MM_ways_2 (by decide) ?_
  obtain ⟨q1, hq1, h⟩ := o_bd_some h
  refine o_V (st1 := [.int q1.1]) (w1 := (m_cw ad ca ky ty 48 q1.2 M0 tc)) hE.1 C (e_MM_node hE hKy l (5:Int32) (-1:Int32) Mm M0 tc 48 hq1) hP (hDD _ _ _ _) hS hl.1 rfl mw_0 k_9_62 k_9_64 k_s_87 k_1_12 k_9_65 hv_MM_node rfl rfl ⟨(by dsimp only [rm_MM_ways, rm_MM_node]; omega), (by dsimp only [rm_MM_ways, rm_MM_node]; omega)⟩ rfl (Nat.le_of_ble_eq_true rfl) ⟨Nat.zero_le _, Nat.zero_le _⟩ rfl d_MM_ways_3 (fun H locs hP hS => ?_)
  refine lv_istore_n (lv' := [(2, .int q1.1), (0, .ref (ad 0)), (1, .int x1)]) hx hb d_MM_ways_6 rfl hl (by decide) rfl (fun ls hl => ?_)
  refine lv_iconst (v := (-1:Int32)) hx hb d_MM_ways_7 (by decide) ?_
  refine lv_istore_n (lv' := [(3, .int (-1:Int32)), (2, .int q1.1), (0, .ref (ad 0)), (1, .int x1)]) hx hb d_MM_ways_8 rfl hl (by decide) rfl (fun ls hl => ?_)
  obtain ⟨q4, hq4, h⟩ := o_bd_some h
  refine o_sim2 (AH := fun zz => o_At p l e (rm_MM_ways (d + 1)) s m _ below meth c _ m_cls D A 5 9 [] (m_cw ad ca ky ty 48 zz.2 M0 tc) [(0, .ref (ad 0)), (1, .int x1), (2, .int q1.1), (3, .int zz.1)]) (AX := fun qq => if qq.1 = 1 then o_At p l e (rm_MM_ways (d + 1)) s m _ below meth c _ m_cls D A 5 23 [] (m_cw ad ca ky ty 48 qq.2.2 M0 tc) [(2, .int q1.1)] else o_At p l e (rm_MM_ways (d + 1)) s m _ below meth c _ m_cls D A 5 71 [] (m_cw ad ca ky ty 48 qq.2.2 M0 tc) [(2, .int q1.1)]) (fun zz qq h h0 h1 => f_MM_ways_b9_b hE hKy C hDD d rec hrec n x1 q1.1 tc M0 zz qq h h0 h1) n _ q4 hq4 ?_ _ _ _ hP hS (lv_sub hl [2, 3, 1, 0] rfl)
  by_cases c8 : q4.1 = 1
  · replace h := o_tt c8 h
    refine o_ip c8 ?_
    intro H locs ls hP hS hl
    refine lv_iload_n hx hb d_MM_ways_23 rfl (lv_at hl 0 rfl) ?_
    cases h
    exact o_ri C hP hS d_MM_ways_24
  replace h := o_ff c8 h
  refine o_in_ c8 ?_
  intro H locs ls hP hS hl
  refine lv_iload_n hx hb d_MM_ways_71 rfl (lv_at hl 0 rfl) ?_
  cases h
  exact o_ri C hP hS d_MM_ways_72
set_option maxHeartbeats 4000000 in
set_option maxRecDepth 100000 in
theorem e_MM_ways_b {E : (Nat → Prop) → State → Heap → Prop} {D : va_G} {ad kd sd vd xd : Nat → Nat} {ca : Nat → ClassId} {ky ty : Nat → Option Nat} (hE : o_EK E kd sd vd xd) (hKy : m_KY ky ty sd) (l : Launch) (n : Nat) (d : Nat) (x1 : Int32) (tc : SMT) (Mm : SMM) (M0 : SMT) {r : Int32 × SMM} (h : m_MM_ways n d x1 tc Mm = some r) : o_Cn E l D m_cls (m_tys ca) y_MM_ways cc_MM_ways (rm_MM_ways d) [.ref (ad 0), .int x1] (m_cw ad ca ky ty 48 Mm M0 tc) (m_cw ad ca ky ty 48 r.2 M0 tc) (some (.int r.1)) := by
  induction d generalizing x1 tc Mm M0 r with
  | zero => cases h
  | succ d ih =>
    exact e_MM_ways_b_F hE hKy l n d (m_MM_ways n d) (fun x1 tc Mm M0 r h => ih x1 tc Mm M0 h) _ _ _ _ h
set_option maxHeartbeats 4000000 in
set_option maxRecDepth 100000 in
theorem f_MM_size_b60 {E : (Nat → Prop) → State → Heap → Prop} {p : Program} {l : Launch} {e : Env} {s : State} {m : MethodId} {args : Array Value} {below : List Frame} {meth : Method} {c : Code} {D : va_G} {ad kd sd vd xd : Nat → Nat} {ca : Nat → ClassId} {A : Nat → Prop} {ky ty : Nat → Option Nat} {Q : State → Prop} (hE : o_EK E kd sd vd xd) (hKy : m_KY ky ty sd) (C : o_Cx E p s m args meth c D m_cls (m_tys ca) "SchemaJudgeModel" b_MM_size (some .long) 5 cc_MM_size A) (hDD : ∀ (rt : Nat) (Mm : SMM) (M0 : SMT) (M1 : SMT), va_D A (m_cw ad ca ky ty rt Mm M0 M1)) (d : Nat) (rec : Int32 → SMM → Option (Int64)) (hrec : ∀ (x1 : Int32) (Mm : SMM) (M0 : SMT) (M1 : SMT) (rt : Nat) (r : Int64), rec x1 Mm = some r → o_Cn E l D m_cls (m_tys ca) y_MM_size cc_MM_size (rm_MM_size d) [.ref (ad 0), .int x1] (m_cw ad ca ky ty rt Mm M0 M1) (m_cw ad ca ky ty rt Mm M0 M1) (some (.long r))) (n : Nat) (u60_x1 : Int32) (u60_Mm : SMM) (u60_M0 : SMT) (u60_M1 : SMT) (u60_rt : Nat) (z : Int64 × Int32) (q : Nat × Int64 × Int32) (h : m_MM_size_b60 n rec u60_x1 u60_Mm z = some q) (h0 : q.1 = 0 → o_At p l e (rm_MM_size (d + 1)) s m args below meth c Q m_cls D A 5 60 [] (m_cw ad ca ky ty u60_rt u60_Mm u60_M0 u60_M1) [(0, .ref (ad 0)), (1, .int u60_x1), (2, .long q.2.1), (4, .int q.2.2)]) (h1 : q.1 ≠ 0 → (o_At p l e (rm_MM_size (d + 1)) s m args below meth c Q m_cls D A 5 92 [] (m_cw ad ca ky ty u60_rt u60_Mm u60_M0 u60_M1) [(0, .ref (ad 0)), (1, .int u60_x1), (2, .long q.2.1)])) : o_At p l e (rm_MM_size (d + 1)) s m args below meth c Q m_cls D A 5 60 [] (m_cw ad ca ky ty u60_rt u60_Mm u60_M0 u60_M1) [(0, .ref (ad 0)), (1, .int u60_x1), (2, .long z.1), (4, .int z.2)] := by
  unfold m_MM_size_b60 at h
  intro H locs ls hP hS hl
  have C0 := C
  obtain ⟨hx, hb, -, -, -, hown, hts, hK, -, -⟩ := C0
  refine lv_iload hx hb d_MM_size_60 (lv_at hl 3 rfl) ?_
  refine lv_if_lt (tgt := 92) hx hb d_MM_size_62 (by decide) (fun c8 => ?_) (fun c8 => ?_)
  · replace h := o_tt c8 h
    cases h
    exact h1 (Nat.succ_ne_zero 0) _ _ _ hP hS (lv_sub hl [0, 1, 2] rfl)
  · replace h := o_ff c8 h
    refine lv_lload_n hx hb d_MM_size_65 rfl (lv_at hl 2 rfl) ?_
    refine lv_aload_n hx hb d_MM_size_66 rfl (lv_at hl 0 rfl) ?_
    refine lv_iload hx hb d_MM_size_67 (lv_at hl 3 rfl) ?_
    obtain ⟨q1, hq1, h⟩ := o_bd_some h
    refine o_V (st1 := [.long q1, .long z.1]) (w1 := (m_cw ad ca ky ty u60_rt u60_Mm u60_M0 u60_M1)) hE.1 C (hrec z.2 u60_Mm u60_M0 u60_M1 u60_rt _ hq1) hP (hDD _ _ _ _) hS hl.1 rfl mw_0 k_9_129 k_9_131 k_s_103 k_1_12 k_9_132 hv_MM_size rfl rfl ⟨(by dsimp only [rm_MM_size, rm_MM_size]; omega), (by dsimp only [rm_MM_size, rm_MM_size]; omega)⟩ rfl (Nat.le_of_ble_eq_true rfl) ⟨Nat.zero_le _, Nat.zero_le _⟩ rfl d_MM_size_69 (fun H locs hP hS => ?_)
    refine lv_ladd hx hb d_MM_size_72 ?_
    refine lv_ldc2 (v := (1000000:Int64)) hx hb hown (hts _ k_9_133) d_MM_size_73 ?_
    refine va_mmin_long hx hb (C.2.2.2.2.1.trans hl.1.symm) hown (hts _ k_9_134) (hts _ k_9_135) (hts _ k_1_26) (hts _ k_9_136) (by dsimp only [rm_MM_size]; omega) (Nat.le_trans (Nat.le_of_ble_eq_true rfl : _ ≤ 40) (by dsimp only [rm_MM_size]; omega)) (Nat.zero_le _) (Nat.zero_le _) d_MM_size_76 ?_
    refine lv_topl (fun x2_79 ex2_79 => ?_)
    replace h := o_nm_at ex2_79 h
    refine lv_lstore_n (lv' := [(2, .long x2_79), (0, .ref (ad 0)), (1, .int u60_x1), (4, .int z.2)]) hx hb d_MM_size_79 rfl hl (by decide) rfl (fun ls hl => ?_)
    refine lv_aload_n hx hb d_MM_size_80 rfl (lv_at hl 1 rfl) ?_
    refine o_get (v := .ref (ad 6)) C in_MM hP 0 mw_0 rfl 10 (by decide) k_8_0 rfl rfl d_MM_size_81 ?_
    refine lv_iload hx hb d_MM_size_84 (lv_at hl 3 rfl) ?_
    obtain ⟨g9, h⟩ := o_gd_some h
    refine o_iald (f := (MM_nodeNext u60_Mm)) C hP 6 5 mw_6 rfl g9 d_MM_size_86 ?_
    refine lv_topi (fun x4_87 ex4_87 => ?_)
    replace h := o_nm_at ex4_87 h
    refine lv_istore (lv' := [(4, .int x4_87), (2, .long x2_79), (0, .ref (ad 0)), (1, .int u60_x1)]) hx hb d_MM_size_87 hl (by decide) rfl (fun ls hl => ?_)
    refine lv_goto (tgt := 60) hx hb d_MM_size_89 (by decide) ?_
    cases h
    exact h0 rfl _ _ _ hP hS (lv_sub hl [2, 3, 1, 0] rfl)
set_option maxHeartbeats 4000000 in
set_option maxRecDepth 100000 in
theorem f_MM_size_j171 {E : (Nat → Prop) → State → Heap → Prop} {p : Program} {l : Launch} {e : Env} {s : State} {m : MethodId} {args : Array Value} {below : List Frame} {meth : Method} {c : Code} {D : va_G} {ad kd sd vd xd : Nat → Nat} {ca : Nat → ClassId} {A : Nat → Prop} {ky ty : Nat → Option Nat} (hE : o_EK E kd sd vd xd) (hKy : m_KY ky ty sd) (C : o_Cx E p s m args meth c D m_cls (m_tys ca) "SchemaJudgeModel" b_MM_size (some .long) 5 cc_MM_size A) (hDD : ∀ (rt : Nat) (Mm : SMM) (M0 : SMT) (M1 : SMT), va_D A (m_cw ad ca ky ty rt Mm M0 M1)) (d : Nat) (rec : Int32 → SMM → Option (Int64)) (hrec : ∀ (x1 : Int32) (Mm : SMM) (M0 : SMT) (M1 : SMT) (rt : Nat) (r : Int64), rec x1 Mm = some r → o_Cn E l D m_cls (m_tys ca) y_MM_size cc_MM_size (rm_MM_size d) [.ref (ad 0), .int x1] (m_cw ad ca ky ty rt Mm M0 M1) (m_cw ad ca ky ty rt Mm M0 M1) (some (.long r))) (n : Nat) (y0 : Int64) (y1 : Int64) (Mm : SMM) (M0 : SMT) (M1 : SMT) (rt : Nat) {r : Int64} (h : m_MM_size_j171 n rec y0 y1 Mm = some r) : o_At p l e (rm_MM_size (d + 1)) s m args below meth c (MQ below (o_Qx D m_cls (some (.long r)) (m_cw ad ca ky ty rt Mm M0 M1) A) args s 0 0 A) m_cls D A 5 171 [.long y1, .long y0] (m_cw ad ca ky ty rt Mm M0 M1) [] := by
  unfold m_MM_size_j171 at h
  intro H locs ls hP hS hl
  have C0 := C
  obtain ⟨hx, hb, -, -, -, hown, hts, hK, -, -⟩ := C0
  refine lv_ladd hx hb d_MM_size_171 ?_
  refine lv_lconst (v := (1:Int64)) hx hb d_MM_size_172 (by decide) ?_
  refine lv_ladd hx hb d_MM_size_173 ?_
  refine lv_ldc2 (v := (1000000:Int64)) hx hb hown (hts _ k_9_133) d_MM_size_174 ?_
  refine va_mmin_long hx hb (C.2.2.2.2.1.trans hl.1.symm) hown (hts _ k_9_134) (hts _ k_9_135) (hts _ k_1_26) (hts _ k_9_136) (by dsimp only [rm_MM_size]; omega) (Nat.le_trans (Nat.le_of_ble_eq_true rfl : _ ≤ 40) (by dsimp only [rm_MM_size]; omega)) (Nat.zero_le _) (Nat.zero_le _) d_MM_size_177 ?_
  cases h
  exact o_rl C hP hS d_MM_size_180
set_option maxHeartbeats 4000000 in
set_option maxRecDepth 100000 in
theorem e_MM_size_F {E : (Nat → Prop) → State → Heap → Prop} {D : va_G} {ad kd sd vd xd : Nat → Nat} {ca : Nat → ClassId} {ky ty : Nat → Option Nat} (hE : o_EK E kd sd vd xd) (hKy : m_KY ky ty sd) (l : Launch) (n : Nat) (d : Nat) (rec : Int32 → SMM → Option (Int64)) (hrec : ∀ (x1 : Int32) (Mm : SMM) (M0 : SMT) (M1 : SMT) (rt : Nat) (r : Int64), rec x1 Mm = some r → o_Cn E l D m_cls (m_tys ca) y_MM_size cc_MM_size (rm_MM_size d) [.ref (ad 0), .int x1] (m_cw ad ca ky ty rt Mm M0 M1) (m_cw ad ca ky ty rt Mm M0 M1) (some (.long r))) (x1 : Int32) (Mm : SMM) (M0 : SMT) (M1 : SMT) (rt : Nat) {r : Int64} (h : m_MM_size_F n rec x1 Mm = some r) : o_Cn E l D m_cls (m_tys ca) y_MM_size cc_MM_size (rm_MM_size (d + 1)) [.ref (ad 0), .int x1] (m_cw ad ca ky ty rt Mm M0 M1) (m_cw ad ca ky ty rt Mm M0 M1) (some (.long r)) := by
  refine o_Cn_of (by decide) (Nat.le_of_ble_eq_true rfl) ?_
  intro p e s m below meth c A ls C hD hP hS hl
  have hDD : ∀ (rt : Nat) (Mm : SMM) (M0 : SMT) (M1 : SMT), va_D A (m_cw ad ca ky ty rt Mm M0 M1) := fun _ _ _ _ => o_D_map hD rfl
  have hl : lv_has ls 5 [(0, .ref (ad 0)), (1, .int x1)] := hl
  unfold m_MM_size_F at h
  have C0 := C
  obtain ⟨hx, hb, -, -, -, hown, hts, hK, -, -⟩ := C0
  refine lv_lconst (v := (0:Int64)) hx hb d_MM_size_0 (by decide) ?_
  refine lv_lstore_n (lv' := [(2, .long (0:Int64)), (0, .ref (ad 0)), (1, .int x1)]) hx hb d_MM_size_1 rfl hl (by decide) rfl (fun ls hl => ?_)
  refine lv_aload_n hx hb d_MM_size_2 rfl (lv_at hl 1 rfl) ?_
  refine o_get (v := .ref (ad 2)) C in_MM hP 0 mw_0 rfl 6 (by decide) k_7_236 rfl rfl d_MM_size_3 ?_
  refine lv_iload_n hx hb d_MM_size_6 rfl (lv_at hl 2 rfl) ?_
  obtain ⟨g1, h⟩ := o_gd_some h
  refine o_iald (f := (MM_nodeKind Mm)) C hP 2 1 mw_2 rfl g1 d_MM_size_7 ?_
  refine lv_topi (fun w8 ew8 => ?_)
  replace h := o_nm_at ew8 h
  by_cases c2 : w8 = (0:Int32)
  · replace h := o_tt c2 h
    refine lv_tableIn (off := 173) (tgt := 181) hx hb d_MM_size_8 (by rw [c2]; decide) (by rw [c2]; decide) (by rw [c2]; rfl) (by decide) ?_
    refine lv_lconst (v := (0:Int64)) hx hb d_MM_size_181 (by decide) ?_
    cases h
    exact o_rl C hP hS d_MM_size_182
  replace h := o_ff c2 h
  by_cases c3 : w8 = (1:Int32)
  · replace h := o_tt c3 h
    refine lv_tableIn (off := 175) (tgt := 183) hx hb d_MM_size_8 (by rw [c3]; decide) (by rw [c3]; decide) (by rw [c3]; rfl) (by decide) ?_
    refine lv_lconst (v := (1:Int64)) hx hb d_MM_size_183 (by decide) ?_
    cases h
    exact o_rl C hP hS d_MM_size_184
  replace h := o_ff c3 h
  by_cases c4 : w8 = (2:Int32)
  · replace h := o_tt c4 h
    refine lv_tableIn (off := 175) (tgt := 183) hx hb d_MM_size_8 (by rw [c4]; decide) (by rw [c4]; decide) (by rw [c4]; rfl) (by decide) ?_
    refine lv_lconst (v := (1:Int64)) hx hb d_MM_size_183 (by decide) ?_
    cases h
    exact o_rl C hP hS d_MM_size_184
  replace h := o_ff c4 h
  by_cases c5 : w8 = (3:Int32)
  · replace h := o_tt c5 h
    refine lv_tableIn (off := 175) (tgt := 183) hx hb d_MM_size_8 (by rw [c5]; decide) (by rw [c5]; decide) (by rw [c5]; rfl) (by decide) ?_
    refine lv_lconst (v := (1:Int64)) hx hb d_MM_size_183 (by decide) ?_
    cases h
    exact o_rl C hP hS d_MM_size_184
  replace h := o_ff c5 h
  by_cases c6 : w8 = (4:Int32)
  · replace h := o_tt c6 h
    refine lv_tableIn (off := 44) (tgt := 52) hx hb d_MM_size_8 (by rw [c6]; decide) (by rw [c6]; decide) (by rw [c6]; rfl) (by decide) ?_
    refine lv_aload_n hx hb d_MM_size_52 rfl (lv_at hl 1 rfl) ?_
    refine o_get (v := .ref (ad 3)) C in_MM hP 0 mw_0 rfl 7 (by decide) k_7_237 rfl rfl d_MM_size_53 ?_
    refine lv_iload_n hx hb d_MM_size_56 rfl (lv_at hl 2 rfl) ?_
    obtain ⟨g7, h⟩ := o_gd_some h
    refine o_iald (f := (MM_nodeA Mm)) C hP 3 2 mw_3 rfl g7 d_MM_size_57 ?_
    refine lv_topi (fun x4_58 ex4_58 => ?_)
    replace h := o_nm_at ex4_58 h
    refine lv_istore (lv' := [(4, .int x4_58), (2, .long (0:Int64)), (0, .ref (ad 0)), (1, .int x1)]) hx hb d_MM_size_58 hl (by decide) rfl (fun ls hl => ?_)
    obtain ⟨q2, hq2, h⟩ := o_bd_some h
    refine o_sim2 (AH := fun zz => o_At p l e (rm_MM_size (d + 1)) s m _ below meth c _ m_cls D A 5 60 [] (m_cw ad ca ky ty rt Mm M0 M1) [(0, .ref (ad 0)), (1, .int x1), (2, .long zz.1), (4, .int zz.2)]) (AX := fun qq => o_At p l e (rm_MM_size (d + 1)) s m _ below meth c _ m_cls D A 5 92 [] (m_cw ad ca ky ty rt Mm M0 M1) [(0, .ref (ad 0)), (1, .int x1), (2, .long qq.2.1)]) (fun zz qq h h0 h1 => f_MM_size_b60 hE hKy C hDD d rec hrec n x1 Mm M0 M1 rt zz qq h h0 h1) n _ q2 hq2 ?_ _ _ _ hP hS (lv_sub hl [2, 3, 1, 0] rfl)
    intro H locs ls hP hS hl
    refine lv_aload_n hx hb d_MM_size_92 rfl (lv_at hl 0 rfl) ?_
    refine o_get (v := .ref (ad 2)) C in_MM hP 0 mw_0 rfl 6 (by decide) k_7_236 rfl rfl d_MM_size_93 ?_
    refine lv_iload_n hx hb d_MM_size_96 rfl (lv_at hl 1 rfl) ?_
    obtain ⟨g10, h⟩ := o_gd_some h
    refine o_iald (f := (MM_nodeKind Mm)) C hP 2 1 mw_2 rfl g10 d_MM_size_97 ?_
    refine lv_iconst (v := (5:Int32)) hx hb d_MM_size_98 (by decide) ?_
    refine lv_icmp_ne (tgt := 116) hx hb d_MM_size_99 (by decide) (fun c11 => ?_) (fun c11 => ?_)
    · replace h := o_ff c11 h
      refine lv_lload_n hx hb d_MM_size_116 rfl (lv_at hl 2 rfl) ?_
      cases h
      exact o_rl C hP hS d_MM_size_117
    · replace h := o_tt c11 h
      refine lv_lload_n hx hb d_MM_size_102 rfl (lv_at hl 2 rfl) ?_
      refine lv_aload_n hx hb d_MM_size_103 rfl (lv_at hl 0 rfl) ?_
      refine o_get (v := .ref (ad 4)) C in_MM hP 0 mw_0 rfl 8 (by decide) k_7_238 rfl rfl d_MM_size_104 ?_
      refine lv_iload_n hx hb d_MM_size_107 rfl (lv_at hl 1 rfl) ?_
      obtain ⟨g12, h⟩ := o_gd_some h
      refine o_iald (f := (MM_nodeB Mm)) C hP 4 3 mw_4 rfl g12 d_MM_size_108 ?_
      refine lv_i2l hx hb d_MM_size_109 rfl ?_
      refine lv_ladd hx hb d_MM_size_110 ?_
      refine lv_lconst (v := (1:Int64)) hx hb d_MM_size_111 (by decide) ?_
      refine lv_lsub hx hb d_MM_size_112 ?_
      refine lv_goto (tgt := 117) hx hb d_MM_size_113 (by decide) ?_
      cases h
      exact o_rl C hP hS d_MM_size_117
  replace h := o_ff c6 h
  by_cases c13 : w8 = (5:Int32)
  · replace h := o_tt c13 h
    refine lv_tableIn (off := 44) (tgt := 52) hx hb d_MM_size_8 (by rw [c13]; decide) (by rw [c13]; decide) (by rw [c13]; rfl) (by decide) ?_
    refine lv_aload_n hx hb d_MM_size_52 rfl (lv_at hl 1 rfl) ?_
    refine o_get (v := .ref (ad 3)) C in_MM hP 0 mw_0 rfl 7 (by decide) k_7_237 rfl rfl d_MM_size_53 ?_
    refine lv_iload_n hx hb d_MM_size_56 rfl (lv_at hl 2 rfl) ?_
    obtain ⟨g14, h⟩ := o_gd_some h
    refine o_iald (f := (MM_nodeA Mm)) C hP 3 2 mw_3 rfl g14 d_MM_size_57 ?_
    refine lv_topi (fun x4_58 ex4_58 => ?_)
    replace h := o_nm_at ex4_58 h
    refine lv_istore (lv' := [(4, .int x4_58), (2, .long (0:Int64)), (0, .ref (ad 0)), (1, .int x1)]) hx hb d_MM_size_58 hl (by decide) rfl (fun ls hl => ?_)
    obtain ⟨q3, hq3, h⟩ := o_bd_some h
    refine o_sim2 (AH := fun zz => o_At p l e (rm_MM_size (d + 1)) s m _ below meth c _ m_cls D A 5 60 [] (m_cw ad ca ky ty rt Mm M0 M1) [(0, .ref (ad 0)), (1, .int x1), (2, .long zz.1), (4, .int zz.2)]) (AX := fun qq => o_At p l e (rm_MM_size (d + 1)) s m _ below meth c _ m_cls D A 5 92 [] (m_cw ad ca ky ty rt Mm M0 M1) [(0, .ref (ad 0)), (1, .int x1), (2, .long qq.2.1)]) (fun zz qq h h0 h1 => f_MM_size_b60 hE hKy C hDD d rec hrec n x1 Mm M0 M1 rt zz qq h h0 h1) n _ q3 hq3 ?_ _ _ _ hP hS (lv_sub hl [2, 3, 1, 0] rfl)
    intro H locs ls hP hS hl
    refine lv_aload_n hx hb d_MM_size_92 rfl (lv_at hl 0 rfl) ?_
    refine o_get (v := .ref (ad 2)) C in_MM hP 0 mw_0 rfl 6 (by decide) k_7_236 rfl rfl d_MM_size_93 ?_
    refine lv_iload_n hx hb d_MM_size_96 rfl (lv_at hl 1 rfl) ?_
    obtain ⟨g15, h⟩ := o_gd_some h
    refine o_iald (f := (MM_nodeKind Mm)) C hP 2 1 mw_2 rfl g15 d_MM_size_97 ?_
    refine lv_iconst (v := (5:Int32)) hx hb d_MM_size_98 (by decide) ?_
    refine lv_icmp_ne (tgt := 116) hx hb d_MM_size_99 (by decide) (fun c16 => ?_) (fun c16 => ?_)
    · replace h := o_ff c16 h
      refine lv_lload_n hx hb d_MM_size_116 rfl (lv_at hl 2 rfl) ?_
      cases h
      exact o_rl C hP hS d_MM_size_117
    · replace h := o_tt c16 h
      refine lv_lload_n hx hb d_MM_size_102 rfl (lv_at hl 2 rfl) ?_
      refine lv_aload_n hx hb d_MM_size_103 rfl (lv_at hl 0 rfl) ?_
      refine o_get (v := .ref (ad 4)) C in_MM hP 0 mw_0 rfl 8 (by decide) k_7_238 rfl rfl d_MM_size_104 ?_
      refine lv_iload_n hx hb d_MM_size_107 rfl (lv_at hl 1 rfl) ?_
      obtain ⟨g17, h⟩ := o_gd_some h
      refine o_iald (f := (MM_nodeB Mm)) C hP 4 3 mw_4 rfl g17 d_MM_size_108 ?_
      refine lv_i2l hx hb d_MM_size_109 rfl ?_
      refine lv_ladd hx hb d_MM_size_110 ?_
      refine lv_lconst (v := (1:Int64)) hx hb d_MM_size_111 (by decide) ?_
      refine lv_lsub hx hb d_MM_size_112 ?_
      refine lv_goto (tgt := 117) hx hb d_MM_size_113 (by decide) ?_
      cases h
      exact o_rl C hP hS d_MM_size_117
  replace h := o_ff c13 h
  by_cases c18 : w8 = (6:Int32)
  · replace h := o_tt c18 h
    refine lv_tableIn (off := 110) (tgt := 118) hx hb d_MM_size_8 (by rw [c18]; decide) (by rw [c18]; decide) (by rw [c18]; rfl) (by decide) ?_
    refine lv_lconst (v := (1:Int64)) hx hb d_MM_size_118 (by decide) ?_
    refine lv_aload_n hx hb d_MM_size_119 rfl (lv_at hl 1 rfl) ?_
    refine lv_aload_n hx hb d_MM_size_120 rfl (lv_at hl 1 rfl) ?_
    refine o_get (v := .ref (ad 3)) C in_MM hP 0 mw_0 rfl 7 (by decide) k_7_237 rfl rfl d_MM_size_121 ?_
    refine lv_iload_n hx hb d_MM_size_124 rfl (lv_at hl 2 rfl) ?_
    obtain ⟨g19, h⟩ := o_gd_some h
    refine o_iald (f := (MM_nodeA Mm)) C hP 3 2 mw_3 rfl g19 d_MM_size_125 ?_
    obtain ⟨q4, hq4, h⟩ := o_bd_some h
    refine o_V (st1 := [.long q4, .long (1:Int64)]) (w1 := (m_cw ad ca ky ty rt Mm M0 M1)) hE.1 C (hrec ((MM_nodeA Mm) x1.toNatClampNeg) Mm M0 M1 rt _ hq4) hP (hDD _ _ _ _) hS hl.1 rfl mw_0 k_9_129 k_9_131 k_s_103 k_1_12 k_9_132 hv_MM_size rfl rfl ⟨(by dsimp only [rm_MM_size, rm_MM_size]; omega), (by dsimp only [rm_MM_size, rm_MM_size]; omega)⟩ rfl (Nat.le_of_ble_eq_true rfl) ⟨Nat.zero_le _, Nat.zero_le _⟩ rfl d_MM_size_126 (fun H locs hP hS => ?_)
    refine va_mmax_long hx hb (C.2.2.2.2.1.trans hl.1.symm) hown (hts _ k_9_137) (hts _ k_9_138) (hts _ k_1_26) (hts _ k_9_139) (by dsimp only [rm_MM_size]; omega) (Nat.le_trans (Nat.le_of_ble_eq_true rfl : _ ≤ 40) (by dsimp only [rm_MM_size]; omega)) (Nat.zero_le _) (Nat.zero_le _) d_MM_size_129 ?_
    refine lv_topl (fun x2_132 ex2_132 => ?_)
    replace h := o_nm_at ex2_132 h
    refine lv_lstore_n (lv' := [(2, .long x2_132), (0, .ref (ad 0)), (1, .int x1)]) hx hb d_MM_size_132 rfl hl (by decide) rfl (fun ls hl => ?_)
    refine lv_aload_n hx hb d_MM_size_133 rfl (lv_at hl 1 rfl) ?_
    refine o_get (v := .ref (ad 4)) C in_MM hP 0 mw_0 rfl 8 (by decide) k_7_238 rfl rfl d_MM_size_134 ?_
    refine lv_iload_n hx hb d_MM_size_137 rfl (lv_at hl 2 rfl) ?_
    obtain ⟨g20, h⟩ := o_gd_some h
    refine o_iald (f := (MM_nodeB Mm)) C hP 4 3 mw_4 rfl g20 d_MM_size_138 ?_
    refine lv_i2l hx hb d_MM_size_139 rfl ?_
    refine lv_lload_n hx hb d_MM_size_140 rfl (lv_at hl 0 rfl) ?_
    refine lv_lmul hx hb d_MM_size_141 ?_
    refine lv_aload_n hx hb d_MM_size_142 rfl (lv_at hl 1 rfl) ?_
    refine o_get (v := .ref (ad 5)) C in_MM hP 0 mw_0 rfl 9 (by decide) k_7_239 rfl rfl d_MM_size_143 ?_
    refine lv_iload_n hx hb d_MM_size_146 rfl (lv_at hl 2 rfl) ?_
    obtain ⟨g21, h⟩ := o_gd_some h
    refine o_iald (f := (MM_nodeC Mm)) C hP 5 4 mw_5 rfl g21 d_MM_size_147 ?_
    refine lv_if_ge (tgt := 155) hx hb d_MM_size_148 (by decide) (fun c22 => ?_) (fun c22 => ?_)
    · replace h := o_tt c22 h
      refine lv_aload_n hx hb d_MM_size_155 rfl (lv_at hl 1 rfl) ?_
      refine o_get (v := .ref (ad 5)) C in_MM hP 0 mw_0 rfl 9 (by decide) k_7_239 rfl rfl d_MM_size_156 ?_
      refine lv_iload_n hx hb d_MM_size_159 rfl (lv_at hl 2 rfl) ?_
      obtain ⟨g23, h⟩ := o_gd_some h
      refine o_iald (f := (MM_nodeC Mm)) C hP 5 4 mw_5 rfl g23 d_MM_size_160 ?_
      refine lv_aload_n hx hb d_MM_size_161 rfl (lv_at hl 1 rfl) ?_
      refine o_get (v := .ref (ad 4)) C in_MM hP 0 mw_0 rfl 8 (by decide) k_7_238 rfl rfl d_MM_size_162 ?_
      refine lv_iload_n hx hb d_MM_size_165 rfl (lv_at hl 2 rfl) ?_
      obtain ⟨g24, h⟩ := o_gd_some h
      refine o_iald (f := (MM_nodeB Mm)) C hP 4 3 mw_4 rfl g24 d_MM_size_166 ?_
      refine lv_isub hx hb d_MM_size_167 ?_
      refine lv_i2l hx hb d_MM_size_168 rfl ?_
      refine lv_lload_n hx hb d_MM_size_169 rfl (lv_at hl 0 rfl) ?_
      refine lv_lmul hx hb d_MM_size_170 ?_
      exact f_MM_size_j171 hE hKy C hDD d rec hrec n (((MM_nodeB Mm) x1.toNatClampNeg).toInt64 * x2_132) ((((MM_nodeC Mm) x1.toNatClampNeg) - ((MM_nodeB Mm) x1.toNatClampNeg)).toInt64 * x2_132) Mm M0 M1 rt h _ _ _ hP hS (lv_sub hl [] rfl)
    · replace h := o_ff c22 h
      refine lv_lload_n hx hb d_MM_size_151 rfl (lv_at hl 0 rfl) ?_
      refine lv_goto (tgt := 171) hx hb d_MM_size_152 (by decide) ?_
      exact f_MM_size_j171 hE hKy C hDD d rec hrec n (((MM_nodeB Mm) x1.toNatClampNeg).toInt64 * x2_132) x2_132 Mm M0 M1 rt h _ _ _ hP hS (lv_sub hl [] rfl)
  replace h := o_ff c18 h
  refine lv_tableOut (tgt := 183) hx hb d_MM_size_8 (by have ec2 := o_ne_i (n := 0) (by decide) c2; have ec3 := o_ne_i (n := 1) (by decide) c3; have ec4 := o_ne_i (n := 2) (by decide) c4; have ec5 := o_ne_i (n := 3) (by decide) c5; have ec6 := o_ne_i (n := 4) (by decide) c6; have ec13 := o_ne_i (n := 5) (by decide) c13; have ec18 := o_ne_i (n := 6) (by decide) c18; omega) (by decide) ?_
  refine lv_lconst (v := (1:Int64)) hx hb d_MM_size_183 (by decide) ?_
  cases h
  exact o_rl C hP hS d_MM_size_184
set_option maxHeartbeats 4000000 in
set_option maxRecDepth 100000 in
theorem e_MM_size {E : (Nat → Prop) → State → Heap → Prop} {D : va_G} {ad kd sd vd xd : Nat → Nat} {ca : Nat → ClassId} {ky ty : Nat → Option Nat} (hE : o_EK E kd sd vd xd) (hKy : m_KY ky ty sd) (l : Launch) (n : Nat) (d : Nat) (x1 : Int32) (Mm : SMM) (M0 : SMT) (M1 : SMT) (rt : Nat) {r : Int64} (h : m_MM_size n d x1 Mm = some r) : o_Cn E l D m_cls (m_tys ca) y_MM_size cc_MM_size (rm_MM_size d) [.ref (ad 0), .int x1] (m_cw ad ca ky ty rt Mm M0 M1) (m_cw ad ca ky ty rt Mm M0 M1) (some (.long r)) := by
  induction d generalizing x1 Mm M0 M1 rt r with
  | zero => cases h
  | succ d ih =>
    exact e_MM_size_F hE hKy l n d (m_MM_size n d) (fun x1 Mm M0 M1 rt r h => ih x1 Mm M0 M1 rt h) _ _ _ _ _ h
set_option maxHeartbeats 4000000 in
set_option maxRecDepth 100000 in
theorem e_MM_step {E : (Nat → Prop) → State → Heap → Prop} {D : va_G} {ad kd sd vd xd : Nat → Nat} {ca : Nat → ClassId} {ky ty : Nat → Option Nat} (hE : o_EK E kd sd vd xd) (hKy : m_KY ky ty sd) (l : Launch) (x1 : Int32) (x2 : Int32) (x3 : Int32) (Mm : SMM) (M0 : SMT) (M1 : SMT) (rt : Nat) {r : Int32 × SMM} (h : m_MM_step x1 x2 x3 Mm = some r) : o_Cn E l D m_cls (m_tys ca) y_MM_step cc_MM_step rm_MM_step [.ref (ad 0), .int x1, .int x2, .int x3] (m_cw ad ca ky ty rt Mm M0 M1) (m_cw ad ca ky ty rt r.2 M0 M1) (some (.int r.1)) := by
  refine o_Cn_of (by decide) (Nat.le_of_ble_eq_true rfl) ?_
  intro p e s m below meth c A ls C hD hP hS hl
  have hDD : ∀ (rt : Nat) (Mm : SMM) (M0 : SMT) (M1 : SMT), va_D A (m_cw ad ca ky ty rt Mm M0 M1) := fun _ _ _ _ => o_D_map hD rfl
  have hl : lv_has ls 4 [(0, .ref (ad 0)), (1, .int x1), (2, .int x2), (3, .int x3)] := hl
  unfold m_MM_step at h
  have C0 := C
  obtain ⟨hx, hb, -, -, -, hown, hts, hK, -, -⟩ := C0
  refine lv_aload_n hx hb d_MM_step_0 rfl (lv_at hl 0 rfl) ?_
  refine o_get (v := .ref (ad 12)) C in_MM hP 0 mw_0 rfl 16 (by decide) k_8_6 rfl rfl d_MM_step_1 ?_
  refine lv_aload_n hx hb d_MM_step_4 rfl (lv_at hl 0 rfl) ?_
  refine o_get (v := .int (MM_steps Mm)) C in_MM hP 0 mw_0 rfl 26 (by decide) k_8_16 rfl rfl d_MM_step_5 ?_
  refine lv_iload_n hx hb d_MM_step_8 rfl (lv_at hl 1 rfl) ?_
  obtain ⟨g1, h⟩ := o_gd_some h
  refine o_iast (f := (MM_op Mm)) (w1 := (m_cw ad ca ky ty rt (MM_mk (MM_err Mm) (MM_fed Mm) (MM_wrong Mm) (MM_octets Mm) (MM_nodeKind Mm) (MM_nodeA Mm) (MM_nodeB Mm) (MM_nodeC Mm) (MM_nodeNext Mm) (MM_low Mm) (MM_high Mm) (MM_setFrom Mm) (MM_setTo Mm) (MM_setNot Mm) (upd (MM_op Mm) (MM_steps Mm).toNatClampNeg x1) (MM_opA Mm) (MM_opB Mm) (MM_mark Mm) (MM_now Mm) (MM_then Mm) (MM_todo Mm) (MM_nodes Mm) (MM_sets Mm) (MM_ranges Mm) (MM_steps Mm) (MM_pat Mm) (MM_patEnd Mm) (MM_round Mm) (MM_many1 Mm) (MM_broken Mm) (MM_checked Mm) (MM_faultKind Mm) (MM_faultValue Mm) (MM_latestFault Mm) (MM_anchors Mm) (MM_key Mm) (MM_target Mm) (MM_anchorValue Mm) (MM_anchorSchema Mm) (MM_path Mm) (MM_route Mm) (MM_isSchema Mm) (MM_seen1 Mm) (MM_pathSize Mm) (MM_octetRow Mm) (MM_partRow Mm) (MM_pairValue Mm) (MM_pairKey Mm) (MM_pairs Mm) (MM_judged Mm) (MM_deepest Mm) (MM_depth Mm) (MM_over Mm) (MM_seen Mm)) M0 M1)) C hP (hDD _ _ _ _) hS 12 11 mw_12 rfl g1 rfl d_MM_step_9 (fun H locs hP hS => ?_)
  refine lv_aload_n hx hb d_MM_step_10 rfl (lv_at hl 0 rfl) ?_
  refine o_get (v := .ref (ad 13)) C in_MM hP 0 mw_0 rfl 17 (by decide) k_8_7 rfl rfl d_MM_step_11 ?_
  refine lv_aload_n hx hb d_MM_step_14 rfl (lv_at hl 0 rfl) ?_
  refine o_get (v := .int (MM_steps Mm)) C in_MM hP 0 mw_0 rfl 26 (by decide) k_8_16 rfl rfl d_MM_step_15 ?_
  refine lv_iload_n hx hb d_MM_step_18 rfl (lv_at hl 2 rfl) ?_
  obtain ⟨g2, h⟩ := o_gd_some h
  refine o_iast (f := (MM_opA Mm)) (w1 := (m_cw ad ca ky ty rt (MM_mk (MM_err Mm) (MM_fed Mm) (MM_wrong Mm) (MM_octets Mm) (MM_nodeKind Mm) (MM_nodeA Mm) (MM_nodeB Mm) (MM_nodeC Mm) (MM_nodeNext Mm) (MM_low Mm) (MM_high Mm) (MM_setFrom Mm) (MM_setTo Mm) (MM_setNot Mm) (upd (MM_op Mm) (MM_steps Mm).toNatClampNeg x1) (upd (MM_opA Mm) (MM_steps Mm).toNatClampNeg x2) (MM_opB Mm) (MM_mark Mm) (MM_now Mm) (MM_then Mm) (MM_todo Mm) (MM_nodes Mm) (MM_sets Mm) (MM_ranges Mm) (MM_steps Mm) (MM_pat Mm) (MM_patEnd Mm) (MM_round Mm) (MM_many1 Mm) (MM_broken Mm) (MM_checked Mm) (MM_faultKind Mm) (MM_faultValue Mm) (MM_latestFault Mm) (MM_anchors Mm) (MM_key Mm) (MM_target Mm) (MM_anchorValue Mm) (MM_anchorSchema Mm) (MM_path Mm) (MM_route Mm) (MM_isSchema Mm) (MM_seen1 Mm) (MM_pathSize Mm) (MM_octetRow Mm) (MM_partRow Mm) (MM_pairValue Mm) (MM_pairKey Mm) (MM_pairs Mm) (MM_judged Mm) (MM_deepest Mm) (MM_depth Mm) (MM_over Mm) (MM_seen Mm)) M0 M1)) C hP (hDD _ _ _ _) hS 13 12 mw_13 rfl g2 rfl d_MM_step_19 (fun H locs hP hS => ?_)
  refine lv_aload_n hx hb d_MM_step_20 rfl (lv_at hl 0 rfl) ?_
  refine o_get (v := .ref (ad 14)) C in_MM hP 0 mw_0 rfl 18 (by decide) k_8_8 rfl rfl d_MM_step_21 ?_
  refine lv_aload_n hx hb d_MM_step_24 rfl (lv_at hl 0 rfl) ?_
  refine o_get (v := .int (MM_steps Mm)) C in_MM hP 0 mw_0 rfl 26 (by decide) k_8_16 rfl rfl d_MM_step_25 ?_
  refine lv_iload_n hx hb d_MM_step_28 rfl (lv_at hl 3 rfl) ?_
  obtain ⟨g3, h⟩ := o_gd_some h
  refine o_iast (f := (MM_opB Mm)) (w1 := (m_cw ad ca ky ty rt (MM_mk (MM_err Mm) (MM_fed Mm) (MM_wrong Mm) (MM_octets Mm) (MM_nodeKind Mm) (MM_nodeA Mm) (MM_nodeB Mm) (MM_nodeC Mm) (MM_nodeNext Mm) (MM_low Mm) (MM_high Mm) (MM_setFrom Mm) (MM_setTo Mm) (MM_setNot Mm) (upd (MM_op Mm) (MM_steps Mm).toNatClampNeg x1) (upd (MM_opA Mm) (MM_steps Mm).toNatClampNeg x2) (upd (MM_opB Mm) (MM_steps Mm).toNatClampNeg x3) (MM_mark Mm) (MM_now Mm) (MM_then Mm) (MM_todo Mm) (MM_nodes Mm) (MM_sets Mm) (MM_ranges Mm) (MM_steps Mm) (MM_pat Mm) (MM_patEnd Mm) (MM_round Mm) (MM_many1 Mm) (MM_broken Mm) (MM_checked Mm) (MM_faultKind Mm) (MM_faultValue Mm) (MM_latestFault Mm) (MM_anchors Mm) (MM_key Mm) (MM_target Mm) (MM_anchorValue Mm) (MM_anchorSchema Mm) (MM_path Mm) (MM_route Mm) (MM_isSchema Mm) (MM_seen1 Mm) (MM_pathSize Mm) (MM_octetRow Mm) (MM_partRow Mm) (MM_pairValue Mm) (MM_pairKey Mm) (MM_pairs Mm) (MM_judged Mm) (MM_deepest Mm) (MM_depth Mm) (MM_over Mm) (MM_seen Mm)) M0 M1)) C hP (hDD _ _ _ _) hS 14 13 mw_14 rfl g3 rfl d_MM_step_29 (fun H locs hP hS => ?_)
  refine lv_aload_n hx hb d_MM_step_30 rfl (lv_at hl 0 rfl) ?_
  refine lv_dup hx hb d_MM_step_31 rfl ?_
  refine o_get (v := .int (MM_steps Mm)) C in_MM hP 0 mw_0 rfl 26 (by decide) k_8_16 rfl rfl d_MM_step_32 ?_
  refine lv_dup_x1 hx hb d_MM_step_35 rfl rfl ?_
  refine lv_iconst (v := (1:Int32)) hx hb d_MM_step_36 (by decide) ?_
  refine lv_iadd hx hb d_MM_step_37 ?_
  refine o_put (v := .int ((MM_steps Mm) + (1:Int32))) (ty := .int) (w1 := (m_cw ad ca ky ty rt (MM_mk (MM_err Mm) (MM_fed Mm) (MM_wrong Mm) (MM_octets Mm) (MM_nodeKind Mm) (MM_nodeA Mm) (MM_nodeB Mm) (MM_nodeC Mm) (MM_nodeNext Mm) (MM_low Mm) (MM_high Mm) (MM_setFrom Mm) (MM_setTo Mm) (MM_setNot Mm) (upd (MM_op Mm) (MM_steps Mm).toNatClampNeg x1) (upd (MM_opA Mm) (MM_steps Mm).toNatClampNeg x2) (upd (MM_opB Mm) (MM_steps Mm).toNatClampNeg x3) (MM_mark Mm) (MM_now Mm) (MM_then Mm) (MM_todo Mm) (MM_nodes Mm) (MM_sets Mm) (MM_ranges Mm) ((MM_steps Mm) + (1:Int32)) (MM_pat Mm) (MM_patEnd Mm) (MM_round Mm) (MM_many1 Mm) (MM_broken Mm) (MM_checked Mm) (MM_faultKind Mm) (MM_faultValue Mm) (MM_latestFault Mm) (MM_anchors Mm) (MM_key Mm) (MM_target Mm) (MM_anchorValue Mm) (MM_anchorSchema Mm) (MM_path Mm) (MM_route Mm) (MM_isSchema Mm) (MM_seen1 Mm) (MM_pathSize Mm) (MM_octetRow Mm) (MM_partRow Mm) (MM_pairValue Mm) (MM_pairKey Mm) (MM_pairs Mm) (MM_judged Mm) (MM_deepest Mm) (MM_depth Mm) (MM_over Mm) (MM_seen Mm)) M0 M1)) C in_MM t_MM t_MM_ok n_MM hP (hDD _ _ _ _) hS 0 mw_0 rfl 26 (by decide) k_8_16 rfl rfl (by decide +kernel) rfl rfl (Nat.le_of_ble_eq_true rfl) rfl d_MM_step_38 (fun H locs hP hS => ?_)
  cases h
  exact o_ri (v := (MM_steps Mm)) C hP hS d_MM_step_41
set_option maxHeartbeats 4000000 in
set_option maxRecDepth 100000 in
theorem f_MM_compile_b89 {E : (Nat → Prop) → State → Heap → Prop} {p : Program} {l : Launch} {e : Env} {s : State} {m : MethodId} {args : Array Value} {below : List Frame} {meth : Method} {c : Code} {D : va_G} {ad kd sd vd xd : Nat → Nat} {ca : Nat → ClassId} {A : Nat → Prop} {ky ty : Nat → Option Nat} {Q : State → Prop} (hE : o_EK E kd sd vd xd) (hKy : m_KY ky ty sd) (C : o_Cx E p s m args meth c D m_cls (m_tys ca) "SchemaJudgeModel" b_MM_compile none 5 cc_MM_compile A) (hDD : ∀ (rt : Nat) (Mm : SMM) (M0 : SMT) (M1 : SMT), va_D A (m_cw ad ca ky ty rt Mm M0 M1)) (d : Nat) (rec : Int32 → SMM → Option (SMM)) (hrec : ∀ (x1 : Int32) (Mm : SMM) (M0 : SMT) (M1 : SMT) (rt : Nat) (r : SMM), rec x1 Mm = some r → o_Cn E l D m_cls (m_tys ca) y_MM_compile cc_MM_compile (rm_MM_compile d) [.ref (ad 0), .int x1] (m_cw ad ca ky ty rt Mm M0 M1) (m_cw ad ca ky ty rt r M0 M1) none) (n : Nat) (u89_M0 : SMT) (u89_M1 : SMT) (u89_rt : Nat) (z : Int32 × SMM) (q : Nat × Int32 × SMM) (h : m_MM_compile_b89 n rec z = some q) (h0 : q.1 = 0 → o_At p l e (rm_MM_compile (d + 1)) s m args below meth c Q m_cls D A 5 89 [] (m_cw ad ca ky ty u89_rt q.2.2 u89_M0 u89_M1) [(0, .ref (ad 0)), (2, .int q.2.1)]) (h1 : q.1 ≠ 0 → (o_At p l e (rm_MM_compile (d + 1)) s m args below meth c Q m_cls D A 5 108 [] (m_cw ad ca ky ty u89_rt q.2.2 u89_M0 u89_M1) [])) : o_At p l e (rm_MM_compile (d + 1)) s m args below meth c Q m_cls D A 5 89 [] (m_cw ad ca ky ty u89_rt z.2 u89_M0 u89_M1) [(0, .ref (ad 0)), (2, .int z.1)] := by
  unfold m_MM_compile_b89 at h
  intro H locs ls hP hS hl
  have C0 := C
  obtain ⟨hx, hb, -, -, -, hown, hts, hK, -, -⟩ := C0
  refine lv_iload_n hx hb d_MM_compile_89 rfl (lv_at hl 1 rfl) ?_
  refine lv_if_lt (tgt := 108) hx hb d_MM_compile_90 (by decide) (fun c8 => ?_) (fun c8 => ?_)
  · replace h := o_tt c8 h
    cases h
    exact h1 (Nat.succ_ne_zero 0) _ _ _ hP hS (lv_sub hl [] rfl)
  · replace h := o_ff c8 h
    refine lv_aload_n hx hb d_MM_compile_93 rfl (lv_at hl 0 rfl) ?_
    refine lv_iload_n hx hb d_MM_compile_94 rfl (lv_at hl 1 rfl) ?_
    obtain ⟨q4, hq4, h⟩ := o_bd_some h
    refine o_V (st1 := []) (w1 := (m_cw ad ca ky ty u89_rt q4 u89_M0 u89_M1)) hE.1 C (hrec z.1 z.2 u89_M0 u89_M1 u89_rt _ hq4) hP (hDD _ _ _ _) hS hl.1 rfl mw_0 k_9_141 k_9_143 k_s_104 k_1_12 k_9_144 hv_MM_compile rfl rfl ⟨(by dsimp only [rm_MM_compile, rm_MM_compile]; omega), (by dsimp only [rm_MM_compile, rm_MM_compile]; omega)⟩ rfl (Nat.le_of_ble_eq_true rfl) ⟨Nat.zero_le _, Nat.zero_le _⟩ rfl d_MM_compile_95 (fun H locs hP hS => ?_)
    refine lv_aload_n hx hb d_MM_compile_98 rfl (lv_at hl 0 rfl) ?_
    refine o_get (v := .ref (ad 6)) C in_MM hP 0 mw_0 rfl 10 (by decide) k_8_0 rfl rfl d_MM_compile_99 ?_
    refine lv_iload_n hx hb d_MM_compile_102 rfl (lv_at hl 1 rfl) ?_
    obtain ⟨g9, h⟩ := o_gd_some h
    refine o_iald (f := (MM_nodeNext q4)) C hP 6 5 mw_6 rfl g9 d_MM_compile_103 ?_
    refine lv_topi (fun x2_104 ex2_104 => ?_)
    replace h := o_nm_at ex2_104 h
    refine lv_istore_n (lv' := [(2, .int x2_104), (0, .ref (ad 0))]) hx hb d_MM_compile_104 rfl hl (by decide) rfl (fun ls hl => ?_)
    refine lv_goto (tgt := 89) hx hb d_MM_compile_105 (by decide) ?_
    cases h
    exact h0 rfl _ _ _ hP hS (lv_sub hl [1, 0] rfl)
set_option maxHeartbeats 4000000 in
set_option maxRecDepth 100000 in
theorem f_MM_compile_b120 {E : (Nat → Prop) → State → Heap → Prop} {p : Program} {l : Launch} {e : Env} {s : State} {m : MethodId} {args : Array Value} {below : List Frame} {meth : Method} {c : Code} {D : va_G} {ad kd sd vd xd : Nat → Nat} {ca : Nat → ClassId} {A : Nat → Prop} {ky ty : Nat → Option Nat} {Q : State → Prop} (hE : o_EK E kd sd vd xd) (hKy : m_KY ky ty sd) (C : o_Cx E p s m args meth c D m_cls (m_tys ca) "SchemaJudgeModel" b_MM_compile none 5 cc_MM_compile A) (hDD : ∀ (rt : Nat) (Mm : SMM) (M0 : SMT) (M1 : SMT), va_D A (m_cw ad ca ky ty rt Mm M0 M1)) (d : Nat) (rec : Int32 → SMM → Option (SMM)) (hrec : ∀ (x1 : Int32) (Mm : SMM) (M0 : SMT) (M1 : SMT) (rt : Nat) (r : SMM), rec x1 Mm = some r → o_Cn E l D m_cls (m_tys ca) y_MM_compile cc_MM_compile (rm_MM_compile d) [.ref (ad 0), .int x1] (m_cw ad ca ky ty rt Mm M0 M1) (m_cw ad ca ky ty rt r M0 M1) none) (n : Nat) (u120_M0 : SMT) (u120_M1 : SMT) (u120_rt : Nat) (z : Int32 × Int32 × SMM) (q : Nat × Int32 × Int32 × SMM) (h : m_MM_compile_b120 n rec z = some q) (h0 : q.1 = 0 → o_At p l e (rm_MM_compile (d + 1)) s m args below meth c Q m_cls D A 5 120 [] (m_cw ad ca ky ty u120_rt q.2.2.2 u120_M0 u120_M1) [(0, .ref (ad 0)), (2, .int q.2.1), (3, .int q.2.2.1)]) (h1 : q.1 ≠ 0 → (if q.1 = 1 then o_At p l e (rm_MM_compile (d + 1)) s m args below meth c Q m_cls D A 5 133 [] (m_cw ad ca ky ty u120_rt q.2.2.2 u120_M0 u120_M1) [(0, .ref (ad 0)), (2, .int q.2.1), (3, .int q.2.2.1)] else o_At p l e (rm_MM_compile (d + 1)) s m args below meth c Q m_cls D A 5 189 [] (m_cw ad ca ky ty u120_rt q.2.2.2 u120_M0 u120_M1) [(0, .ref (ad 0)), (2, .int q.2.1)])) : o_At p l e (rm_MM_compile (d + 1)) s m args below meth c Q m_cls D A 5 120 [] (m_cw ad ca ky ty u120_rt z.2.2 u120_M0 u120_M1) [(0, .ref (ad 0)), (2, .int z.1), (3, .int z.2.1)] := by
  unfold m_MM_compile_b120 at h
  intro H locs ls hP hS hl
  have C0 := C
  obtain ⟨hx, hb, -, -, -, hown, hts, hK, -, -⟩ := C0
  refine lv_iload_n hx hb d_MM_compile_120 rfl (lv_at hl 2 rfl) ?_
  refine lv_if_lt (tgt := 189) hx hb d_MM_compile_121 (by decide) (fun c12 => ?_) (fun c12 => ?_)
  · replace h := o_tt c12 h
    cases h
    exact h1 (Nat.succ_ne_zero 1) _ _ _ hP hS (lv_sub hl [0, 1] rfl)
  · replace h := o_ff c12 h
    refine lv_aload_n hx hb d_MM_compile_124 rfl (lv_at hl 0 rfl) ?_
    refine o_get (v := .ref (ad 6)) C in_MM hP 0 mw_0 rfl 10 (by decide) k_8_0 rfl rfl d_MM_compile_125 ?_
    refine lv_iload_n hx hb d_MM_compile_128 rfl (lv_at hl 2 rfl) ?_
    obtain ⟨g13, h⟩ := o_gd_some h
    refine o_iald (f := (MM_nodeNext z.2.2)) C hP 6 5 mw_6 rfl g13 d_MM_compile_129 ?_
    refine lv_if_ge (tgt := 141) hx hb d_MM_compile_130 (by decide) (fun c14 => ?_) (fun c14 => ?_)
    · replace h := o_tt c14 h
      refine lv_aload_n hx hb d_MM_compile_141 rfl (lv_at hl 0 rfl) ?_
      refine lv_iconst (v := (4:Int32)) hx hb d_MM_compile_142 (by decide) ?_
      refine lv_aload_n hx hb d_MM_compile_143 rfl (lv_at hl 0 rfl) ?_
      refine o_get (v := .int (MM_steps z.2.2)) C in_MM hP 0 mw_0 rfl 26 (by decide) k_8_16 rfl rfl d_MM_compile_144 ?_
      refine lv_iconst (v := (1:Int32)) hx hb d_MM_compile_147 (by decide) ?_
      refine lv_iadd hx hb d_MM_compile_148 ?_
      refine lv_iconst (v := (0:Int32)) hx hb d_MM_compile_149 (by decide) ?_
      obtain ⟨q6, hq6, h⟩ := o_bd_some h
      refine o_V (st1 := [.int q6.1]) (w1 := (m_cw ad ca ky ty u120_rt q6.2 u120_M0 u120_M1)) hE.1 C (e_MM_step hE hKy l (4:Int32) ((MM_steps z.2.2) + (1:Int32)) (0:Int32) z.2.2 u120_M0 u120_M1 u120_rt hq6) hP (hDD _ _ _ _) hS hl.1 rfl mw_0 k_9_145 k_9_147 k_s_105 k_1_12 k_9_148 hv_MM_step rfl rfl ⟨(by dsimp only [rm_MM_compile, rm_MM_step]; omega), (by dsimp only [rm_MM_compile, rm_MM_step]; omega)⟩ rfl (Nat.le_of_ble_eq_true rfl) ⟨Nat.zero_le _, Nat.zero_le _⟩ rfl d_MM_compile_150 (fun H locs hP hS => ?_)
      refine lv_istore (lv' := [(4, .int q6.1), (0, .ref (ad 0)), (2, .int z.1), (3, .int z.2.1)]) hx hb d_MM_compile_153 hl (by decide) rfl (fun ls hl => ?_)
      refine lv_aload_n hx hb d_MM_compile_155 rfl (lv_at hl 1 rfl) ?_
      refine lv_iload_n hx hb d_MM_compile_156 rfl (lv_at hl 3 rfl) ?_
      obtain ⟨q7, hq7, h⟩ := o_bd_some h
      refine o_V (st1 := []) (w1 := (m_cw ad ca ky ty u120_rt q7 u120_M0 u120_M1)) hE.1 C (hrec z.2.1 q6.2 u120_M0 u120_M1 u120_rt _ hq7) hP (hDD _ _ _ _) hS hl.1 rfl mw_0 k_9_141 k_9_143 k_s_104 k_1_12 k_9_144 hv_MM_compile rfl rfl ⟨(by dsimp only [rm_MM_compile, rm_MM_compile]; omega), (by dsimp only [rm_MM_compile, rm_MM_compile]; omega)⟩ rfl (Nat.le_of_ble_eq_true rfl) ⟨Nat.zero_le _, Nat.zero_le _⟩ rfl d_MM_compile_157 (fun H locs hP hS => ?_)
      refine lv_aload_n hx hb d_MM_compile_160 rfl (lv_at hl 1 rfl) ?_
      refine lv_iconst (v := (5:Int32)) hx hb d_MM_compile_161 (by decide) ?_
      refine lv_iload_n hx hb d_MM_compile_162 rfl (lv_at hl 2 rfl) ?_
      refine lv_iconst (v := (0:Int32)) hx hb d_MM_compile_163 (by decide) ?_
      obtain ⟨q8, hq8, h⟩ := o_bd_some h
      refine o_V (st1 := [.int q8.1]) (w1 := (m_cw ad ca ky ty u120_rt q8.2 u120_M0 u120_M1)) hE.1 C (e_MM_step hE hKy l (5:Int32) z.1 (0:Int32) q7 u120_M0 u120_M1 u120_rt hq8) hP (hDD _ _ _ _) hS hl.1 rfl mw_0 k_9_145 k_9_147 k_s_105 k_1_12 k_9_148 hv_MM_step rfl rfl ⟨(by dsimp only [rm_MM_compile, rm_MM_step]; omega), (by dsimp only [rm_MM_compile, rm_MM_step]; omega)⟩ rfl (Nat.le_of_ble_eq_true rfl) ⟨Nat.zero_le _, Nat.zero_le _⟩ rfl d_MM_compile_164 (fun H locs hP hS => ?_)
      refine lv_istore_n (lv' := [(2, .int q8.1), (4, .int q6.1), (0, .ref (ad 0)), (3, .int z.2.1)]) hx hb d_MM_compile_167 rfl hl (by decide) rfl (fun ls hl => ?_)
      refine lv_aload_n hx hb d_MM_compile_168 rfl (lv_at hl 2 rfl) ?_
      refine o_get (v := .ref (ad 14)) C in_MM hP 0 mw_0 rfl 18 (by decide) k_8_8 rfl rfl d_MM_compile_169 ?_
      refine lv_iload hx hb d_MM_compile_172 (lv_at hl 1 rfl) ?_
      refine lv_aload_n hx hb d_MM_compile_174 rfl (lv_at hl 2 rfl) ?_
      refine o_get (v := .int (MM_steps q8.2)) C in_MM hP 0 mw_0 rfl 26 (by decide) k_8_16 rfl rfl d_MM_compile_175 ?_
      obtain ⟨g15, h⟩ := o_gd_some h
      refine o_iast (f := (MM_opB q8.2)) (w1 := (m_cw ad ca ky ty u120_rt (MM_mk (MM_err q8.2) (MM_fed q8.2) (MM_wrong q8.2) (MM_octets q8.2) (MM_nodeKind q8.2) (MM_nodeA q8.2) (MM_nodeB q8.2) (MM_nodeC q8.2) (MM_nodeNext q8.2) (MM_low q8.2) (MM_high q8.2) (MM_setFrom q8.2) (MM_setTo q8.2) (MM_setNot q8.2) (MM_op q8.2) (MM_opA q8.2) (upd (MM_opB q8.2) q6.1.toNatClampNeg (MM_steps q8.2)) (MM_mark q8.2) (MM_now q8.2) (MM_then q8.2) (MM_todo q8.2) (MM_nodes q8.2) (MM_sets q8.2) (MM_ranges q8.2) (MM_steps q8.2) (MM_pat q8.2) (MM_patEnd q8.2) (MM_round q8.2) (MM_many1 q8.2) (MM_broken q8.2) (MM_checked q8.2) (MM_faultKind q8.2) (MM_faultValue q8.2) (MM_latestFault q8.2) (MM_anchors q8.2) (MM_key q8.2) (MM_target q8.2) (MM_anchorValue q8.2) (MM_anchorSchema q8.2) (MM_path q8.2) (MM_route q8.2) (MM_isSchema q8.2) (MM_seen1 q8.2) (MM_pathSize q8.2) (MM_octetRow q8.2) (MM_partRow q8.2) (MM_pairValue q8.2) (MM_pairKey q8.2) (MM_pairs q8.2) (MM_judged q8.2) (MM_deepest q8.2) (MM_depth q8.2) (MM_over q8.2) (MM_seen q8.2)) u120_M0 u120_M1)) C hP (hDD _ _ _ _) hS 14 13 mw_14 rfl g15 rfl d_MM_compile_178 (fun H locs hP hS => ?_)
      refine lv_aload_n hx hb d_MM_compile_179 rfl (lv_at hl 2 rfl) ?_
      refine o_get (v := .ref (ad 6)) C in_MM hP 0 mw_0 rfl 10 (by decide) k_8_0 rfl rfl d_MM_compile_180 ?_
      refine lv_iload_n hx hb d_MM_compile_183 rfl (lv_at hl 3 rfl) ?_
      obtain ⟨g16, h⟩ := o_gd_some h
      refine o_iald (f := (MM_nodeNext q8.2)) C hP 6 5 mw_6 rfl g16 d_MM_compile_184 ?_
      refine lv_topi (fun x3_185 ex3_185 => ?_)
      replace h := o_nm_at ex3_185 h
      refine lv_istore_n (lv' := [(3, .int x3_185), (2, .int q8.1), (4, .int q6.1), (0, .ref (ad 0))]) hx hb d_MM_compile_185 rfl hl (by decide) rfl (fun ls hl => ?_)
      refine lv_goto (tgt := 120) hx hb d_MM_compile_186 (by decide) ?_
      cases h
      exact h0 rfl _ _ _ hP hS (lv_sub hl [3, 1, 0] rfl)
    · replace h := o_ff c14 h
      cases h
      exact h1 (Nat.succ_ne_zero 0) _ _ _ hP hS (lv_sub hl [0, 1, 2] rfl)
set_option maxHeartbeats 4000000 in
set_option maxRecDepth 100000 in
theorem f_MM_compile_b189 {E : (Nat → Prop) → State → Heap → Prop} {p : Program} {l : Launch} {e : Env} {s : State} {m : MethodId} {args : Array Value} {below : List Frame} {meth : Method} {c : Code} {D : va_G} {ad kd sd vd xd : Nat → Nat} {ca : Nat → ClassId} {A : Nat → Prop} {ky ty : Nat → Option Nat} {Q : State → Prop} (hE : o_EK E kd sd vd xd) (hKy : m_KY ky ty sd) (C : o_Cx E p s m args meth c D m_cls (m_tys ca) "SchemaJudgeModel" b_MM_compile none 5 cc_MM_compile A) (hDD : ∀ (rt : Nat) (Mm : SMM) (M0 : SMT) (M1 : SMT), va_D A (m_cw ad ca ky ty rt Mm M0 M1)) (d : Nat) (rec : Int32 → SMM → Option (SMM)) (hrec : ∀ (x1 : Int32) (Mm : SMM) (M0 : SMT) (M1 : SMT) (rt : Nat) (r : SMM), rec x1 Mm = some r → o_Cn E l D m_cls (m_tys ca) y_MM_compile cc_MM_compile (rm_MM_compile d) [.ref (ad 0), .int x1] (m_cw ad ca ky ty rt Mm M0 M1) (m_cw ad ca ky ty rt r M0 M1) none) (n : Nat) (u189_M0 : SMT) (u189_M1 : SMT) (u189_rt : Nat) (z : Int32 × SMM) (q : Nat × Int32 × SMM) (h : m_MM_compile_b189 n rec z = some q) (h0 : q.1 = 0 → o_At p l e (rm_MM_compile (d + 1)) s m args below meth c Q m_cls D A 5 189 [] (m_cw ad ca ky ty u189_rt q.2.2 u189_M0 u189_M1) [(0, .ref (ad 0)), (2, .int q.2.1)]) (h1 : q.1 ≠ 0 → (o_At p l e (rm_MM_compile (d + 1)) s m args below meth c Q m_cls D A 5 377 [] (m_cw ad ca ky ty u189_rt q.2.2 u189_M0 u189_M1) [])) : o_At p l e (rm_MM_compile (d + 1)) s m args below meth c Q m_cls D A 5 189 [] (m_cw ad ca ky ty u189_rt z.2 u189_M0 u189_M1) [(0, .ref (ad 0)), (2, .int z.1)] := by
  unfold m_MM_compile_b189 at h
  intro H locs ls hP hS hl
  have C0 := C
  obtain ⟨hx, hb, -, -, -, hown, hts, hK, -, -⟩ := C0
  refine lv_iload_n hx hb d_MM_compile_189 rfl (lv_at hl 1 rfl) ?_
  refine lv_if_lt (tgt := 377) hx hb d_MM_compile_190 (by decide) (fun c17 => ?_) (fun c17 => ?_)
  · replace h := o_tt c17 h
    cases h
    exact h1 (Nat.succ_ne_zero 0) _ _ _ hP hS (lv_sub hl [] rfl)
  · replace h := o_ff c17 h
    refine lv_aload_n hx hb d_MM_compile_193 rfl (lv_at hl 0 rfl) ?_
    refine o_get (v := .ref (ad 13)) C in_MM hP 0 mw_0 rfl 17 (by decide) k_8_7 rfl rfl d_MM_compile_194 ?_
    refine lv_iload_n hx hb d_MM_compile_197 rfl (lv_at hl 1 rfl) ?_
    obtain ⟨g18, h⟩ := o_gd_some h
    refine o_iald (f := (MM_opA z.2)) C hP 13 12 mw_13 rfl g18 d_MM_compile_198 ?_
    refine lv_topi (fun x3_199 ex3_199 => ?_)
    replace h := o_nm_at ex3_199 h
    refine lv_istore_n (lv' := [(3, .int x3_199), (0, .ref (ad 0)), (2, .int z.1)]) hx hb d_MM_compile_199 rfl hl (by decide) rfl (fun ls hl => ?_)
    refine lv_aload_n hx hb d_MM_compile_200 rfl (lv_at hl 1 rfl) ?_
    refine o_get (v := .ref (ad 13)) C in_MM hP 0 mw_0 rfl 17 (by decide) k_8_7 rfl rfl d_MM_compile_201 ?_
    refine lv_iload_n hx hb d_MM_compile_204 rfl (lv_at hl 2 rfl) ?_
    refine lv_aload_n hx hb d_MM_compile_205 rfl (lv_at hl 1 rfl) ?_
    refine o_get (v := .int (MM_steps z.2)) C in_MM hP 0 mw_0 rfl 26 (by decide) k_8_16 rfl rfl d_MM_compile_206 ?_
    obtain ⟨g19, h⟩ := o_gd_some h
    refine o_iast (f := (MM_opA z.2)) (w1 := (m_cw ad ca ky ty u189_rt (MM_mk (MM_err z.2) (MM_fed z.2) (MM_wrong z.2) (MM_octets z.2) (MM_nodeKind z.2) (MM_nodeA z.2) (MM_nodeB z.2) (MM_nodeC z.2) (MM_nodeNext z.2) (MM_low z.2) (MM_high z.2) (MM_setFrom z.2) (MM_setTo z.2) (MM_setNot z.2) (MM_op z.2) (upd (MM_opA z.2) z.1.toNatClampNeg (MM_steps z.2)) (MM_opB z.2) (MM_mark z.2) (MM_now z.2) (MM_then z.2) (MM_todo z.2) (MM_nodes z.2) (MM_sets z.2) (MM_ranges z.2) (MM_steps z.2) (MM_pat z.2) (MM_patEnd z.2) (MM_round z.2) (MM_many1 z.2) (MM_broken z.2) (MM_checked z.2) (MM_faultKind z.2) (MM_faultValue z.2) (MM_latestFault z.2) (MM_anchors z.2) (MM_key z.2) (MM_target z.2) (MM_anchorValue z.2) (MM_anchorSchema z.2) (MM_path z.2) (MM_route z.2) (MM_isSchema z.2) (MM_seen1 z.2) (MM_pathSize z.2) (MM_octetRow z.2) (MM_partRow z.2) (MM_pairValue z.2) (MM_pairKey z.2) (MM_pairs z.2) (MM_judged z.2) (MM_deepest z.2) (MM_depth z.2) (MM_over z.2) (MM_seen z.2)) u189_M0 u189_M1)) C hP (hDD _ _ _ _) hS 13 12 mw_13 rfl g19 rfl d_MM_compile_209 (fun H locs hP hS => ?_)
    refine lv_iload_n hx hb d_MM_compile_210 rfl (lv_at hl 0 rfl) ?_
    refine lv_istore_n (lv' := [(2, .int x3_199), (3, .int x3_199), (0, .ref (ad 0))]) hx hb d_MM_compile_211 rfl hl (by decide) rfl (fun ls hl => ?_)
    refine lv_goto (tgt := 189) hx hb d_MM_compile_212 (by decide) ?_
    cases h
    exact h0 rfl _ _ _ hP hS (lv_sub hl [2, 0] rfl)
set_option maxHeartbeats 4000000 in
set_option maxRecDepth 100000 in
theorem f_MM_compile_b217 {E : (Nat → Prop) → State → Heap → Prop} {p : Program} {l : Launch} {e : Env} {s : State} {m : MethodId} {args : Array Value} {below : List Frame} {meth : Method} {c : Code} {D : va_G} {ad kd sd vd xd : Nat → Nat} {ca : Nat → ClassId} {A : Nat → Prop} {ky ty : Nat → Option Nat} {Q : State → Prop} (hE : o_EK E kd sd vd xd) (hKy : m_KY ky ty sd) (C : o_Cx E p s m args meth c D m_cls (m_tys ca) "SchemaJudgeModel" b_MM_compile none 5 cc_MM_compile A) (hDD : ∀ (rt : Nat) (Mm : SMM) (M0 : SMT) (M1 : SMT), va_D A (m_cw ad ca ky ty rt Mm M0 M1)) (d : Nat) (rec : Int32 → SMM → Option (SMM)) (hrec : ∀ (x1 : Int32) (Mm : SMM) (M0 : SMT) (M1 : SMT) (rt : Nat) (r : SMM), rec x1 Mm = some r → o_Cn E l D m_cls (m_tys ca) y_MM_compile cc_MM_compile (rm_MM_compile d) [.ref (ad 0), .int x1] (m_cw ad ca ky ty rt Mm M0 M1) (m_cw ad ca ky ty rt r M0 M1) none) (n : Nat) (u217_x1 : Int32) (u217_M0 : SMT) (u217_M1 : SMT) (u217_rt : Nat) (z : Int32 × SMM) (q : Nat × Int32 × SMM) (h : m_MM_compile_b217 n rec u217_x1 z = some q) (h0 : q.1 = 0 → o_At p l e (rm_MM_compile (d + 1)) s m args below meth c Q m_cls D A 5 217 [] (m_cw ad ca ky ty u217_rt q.2.2 u217_M0 u217_M1) [(0, .ref (ad 0)), (1, .int u217_x1), (2, .int q.2.1)]) (h1 : q.1 ≠ 0 → (o_At p l e (rm_MM_compile (d + 1)) s m args below meth c Q m_cls D A 5 243 [] (m_cw ad ca ky ty u217_rt q.2.2 u217_M0 u217_M1) [(0, .ref (ad 0)), (1, .int u217_x1)])) : o_At p l e (rm_MM_compile (d + 1)) s m args below meth c Q m_cls D A 5 217 [] (m_cw ad ca ky ty u217_rt z.2 u217_M0 u217_M1) [(0, .ref (ad 0)), (1, .int u217_x1), (2, .int z.1)] := by
  unfold m_MM_compile_b217 at h
  intro H locs ls hP hS hl
  have C0 := C
  obtain ⟨hx, hb, -, -, -, hown, hts, hK, -, -⟩ := C0
  refine lv_iload_n hx hb d_MM_compile_217 rfl (lv_at hl 2 rfl) ?_
  refine lv_aload_n hx hb d_MM_compile_218 rfl (lv_at hl 0 rfl) ?_
  refine o_get (v := .ref (ad 4)) C in_MM hP 0 mw_0 rfl 8 (by decide) k_7_238 rfl rfl d_MM_compile_219 ?_
  refine lv_iload_n hx hb d_MM_compile_222 rfl (lv_at hl 1 rfl) ?_
  obtain ⟨g22, h⟩ := o_gd_some h
  refine o_iald (f := (MM_nodeB z.2)) C hP 4 3 mw_4 rfl g22 d_MM_compile_223 ?_
  refine lv_icmp_ge (tgt := 243) hx hb d_MM_compile_224 (by decide) (fun c23 => ?_) (fun c23 => ?_)
  · replace h := o_tt c23 h
    cases h
    exact h1 (Nat.succ_ne_zero 0) _ _ _ hP hS (lv_sub hl [0, 1] rfl)
  · replace h := o_ff c23 h
    refine lv_aload_n hx hb d_MM_compile_227 rfl (lv_at hl 0 rfl) ?_
    refine lv_aload_n hx hb d_MM_compile_228 rfl (lv_at hl 0 rfl) ?_
    refine o_get (v := .ref (ad 3)) C in_MM hP 0 mw_0 rfl 7 (by decide) k_7_237 rfl rfl d_MM_compile_229 ?_
    refine lv_iload_n hx hb d_MM_compile_232 rfl (lv_at hl 1 rfl) ?_
    obtain ⟨g24, h⟩ := o_gd_some h
    refine o_iald (f := (MM_nodeA z.2)) C hP 3 2 mw_3 rfl g24 d_MM_compile_233 ?_
    obtain ⟨q13, hq13, h⟩ := o_bd_some h
    refine o_V (st1 := []) (w1 := (m_cw ad ca ky ty u217_rt q13 u217_M0 u217_M1)) hE.1 C (hrec ((MM_nodeA z.2) u217_x1.toNatClampNeg) z.2 u217_M0 u217_M1 u217_rt _ hq13) hP (hDD _ _ _ _) hS hl.1 rfl mw_0 k_9_141 k_9_143 k_s_104 k_1_12 k_9_144 hv_MM_compile rfl rfl ⟨(by dsimp only [rm_MM_compile, rm_MM_compile]; omega), (by dsimp only [rm_MM_compile, rm_MM_compile]; omega)⟩ rfl (Nat.le_of_ble_eq_true rfl) ⟨Nat.zero_le _, Nat.zero_le _⟩ rfl d_MM_compile_234 (fun H locs hP hS => ?_)
    obtain ⟨x2_237, ex2_237⟩ : ∃ y : Int32, y = z.1 + (1:Int32) := ⟨_, rfl⟩
    replace h := o_nm_at ex2_237 h
    refine lv_iinc (v := x2_237) (lv' := [(2, .int x2_237), (0, .ref (ad 0)), (1, .int u217_x1)]) hx hb d_MM_compile_237 hl (k := 2) rfl (by rw [ex2_237]; rfl) (by decide) rfl (fun ls hl => ?_)
    refine lv_goto (tgt := 217) hx hb d_MM_compile_240 (by decide) ?_
    cases h
    exact h0 rfl _ _ _ hP hS (lv_sub hl [1, 2, 0] rfl)
set_option maxHeartbeats 4000000 in
set_option maxRecDepth 100000 in
theorem f_MM_compile_b305 {E : (Nat → Prop) → State → Heap → Prop} {p : Program} {l : Launch} {e : Env} {s : State} {m : MethodId} {args : Array Value} {below : List Frame} {meth : Method} {c : Code} {D : va_G} {ad kd sd vd xd : Nat → Nat} {ca : Nat → ClassId} {A : Nat → Prop} {ky ty : Nat → Option Nat} {Q : State → Prop} (hE : o_EK E kd sd vd xd) (hKy : m_KY ky ty sd) (C : o_Cx E p s m args meth c D m_cls (m_tys ca) "SchemaJudgeModel" b_MM_compile none 5 cc_MM_compile A) (hDD : ∀ (rt : Nat) (Mm : SMM) (M0 : SMT) (M1 : SMT), va_D A (m_cw ad ca ky ty rt Mm M0 M1)) (d : Nat) (rec : Int32 → SMM → Option (SMM)) (hrec : ∀ (x1 : Int32) (Mm : SMM) (M0 : SMT) (M1 : SMT) (rt : Nat) (r : SMM), rec x1 Mm = some r → o_Cn E l D m_cls (m_tys ca) y_MM_compile cc_MM_compile (rm_MM_compile d) [.ref (ad 0), .int x1] (m_cw ad ca ky ty rt Mm M0 M1) (m_cw ad ca ky ty rt r M0 M1) none) (n : Nat) (u305_x1 : Int32) (u305_M0 : SMT) (u305_M1 : SMT) (u305_rt : Nat) (z : Int32 × Int32 × SMM) (q : Nat × Int32 × Int32 × SMM) (h : m_MM_compile_b305 n rec u305_x1 z = some q) (h0 : q.1 = 0 → o_At p l e (rm_MM_compile (d + 1)) s m args below meth c Q m_cls D A 5 305 [] (m_cw ad ca ky ty u305_rt q.2.2.2 u305_M0 u305_M1) [(0, .ref (ad 0)), (1, .int u305_x1), (2, .int q.2.1), (3, .int q.2.2.1)]) (h1 : q.1 ≠ 0 → (o_At p l e (rm_MM_compile (d + 1)) s m args below meth c Q m_cls D A 5 348 [] (m_cw ad ca ky ty u305_rt q.2.2.2 u305_M0 u305_M1) [(0, .ref (ad 0)), (2, .int q.2.1)])) : o_At p l e (rm_MM_compile (d + 1)) s m args below meth c Q m_cls D A 5 305 [] (m_cw ad ca ky ty u305_rt z.2.2 u305_M0 u305_M1) [(0, .ref (ad 0)), (1, .int u305_x1), (2, .int z.1), (3, .int z.2.1)] := by
  unfold m_MM_compile_b305 at h
  intro H locs ls hP hS hl
  have C0 := C
  obtain ⟨hx, hb, -, -, -, hown, hts, hK, -, -⟩ := C0
  refine lv_iload_n hx hb d_MM_compile_305 rfl (lv_at hl 3 rfl) ?_
  refine lv_aload_n hx hb d_MM_compile_306 rfl (lv_at hl 0 rfl) ?_
  refine o_get (v := .ref (ad 5)) C in_MM hP 0 mw_0 rfl 9 (by decide) k_7_239 rfl rfl d_MM_compile_307 ?_
  refine lv_iload_n hx hb d_MM_compile_310 rfl (lv_at hl 1 rfl) ?_
  obtain ⟨g28, h⟩ := o_gd_some h
  refine o_iald (f := (MM_nodeC z.2.2)) C hP 5 4 mw_5 rfl g28 d_MM_compile_311 ?_
  refine lv_icmp_ge (tgt := 348) hx hb d_MM_compile_312 (by decide) (fun c29 => ?_) (fun c29 => ?_)
  · replace h := o_tt c29 h
    cases h
    exact h1 (Nat.succ_ne_zero 0) _ _ _ hP hS (lv_sub hl [0, 2] rfl)
  · replace h := o_ff c29 h
    refine lv_aload_n hx hb d_MM_compile_315 rfl (lv_at hl 0 rfl) ?_
    refine lv_iconst (v := (4:Int32)) hx hb d_MM_compile_316 (by decide) ?_
    refine lv_aload_n hx hb d_MM_compile_317 rfl (lv_at hl 0 rfl) ?_
    refine o_get (v := .int (MM_steps z.2.2)) C in_MM hP 0 mw_0 rfl 26 (by decide) k_8_16 rfl rfl d_MM_compile_318 ?_
    refine lv_iconst (v := (1:Int32)) hx hb d_MM_compile_321 (by decide) ?_
    refine lv_iadd hx hb d_MM_compile_322 ?_
    refine lv_iload_n hx hb d_MM_compile_323 rfl (lv_at hl 2 rfl) ?_
    obtain ⟨q15, hq15, h⟩ := o_bd_some h
    refine o_V (st1 := [.int q15.1]) (w1 := (m_cw ad ca ky ty u305_rt q15.2 u305_M0 u305_M1)) hE.1 C (e_MM_step hE hKy l (4:Int32) ((MM_steps z.2.2) + (1:Int32)) z.1 z.2.2 u305_M0 u305_M1 u305_rt hq15) hP (hDD _ _ _ _) hS hl.1 rfl mw_0 k_9_145 k_9_147 k_s_105 k_1_12 k_9_148 hv_MM_step rfl rfl ⟨(by dsimp only [rm_MM_compile, rm_MM_step]; omega), (by dsimp only [rm_MM_compile, rm_MM_step]; omega)⟩ rfl (Nat.le_of_ble_eq_true rfl) ⟨Nat.zero_le _, Nat.zero_le _⟩ rfl d_MM_compile_324 (fun H locs hP hS => ?_)
    refine lv_istore (lv' := [(4, .int q15.1), (0, .ref (ad 0)), (1, .int u305_x1), (2, .int z.1), (3, .int z.2.1)]) hx hb d_MM_compile_327 hl (by decide) rfl (fun ls hl => ?_)
    refine lv_iload hx hb d_MM_compile_329 (lv_at hl 0 rfl) ?_
    refine lv_istore_n (lv' := [(2, .int q15.1), (4, .int q15.1), (0, .ref (ad 0)), (1, .int u305_x1), (3, .int z.2.1)]) hx hb d_MM_compile_331 rfl hl (by decide) rfl (fun ls hl => ?_)
    refine lv_aload_n hx hb d_MM_compile_332 rfl (lv_at hl 2 rfl) ?_
    refine lv_aload_n hx hb d_MM_compile_333 rfl (lv_at hl 2 rfl) ?_
    refine o_get (v := .ref (ad 3)) C in_MM hP 0 mw_0 rfl 7 (by decide) k_7_237 rfl rfl d_MM_compile_334 ?_
    refine lv_iload_n hx hb d_MM_compile_337 rfl (lv_at hl 3 rfl) ?_
    obtain ⟨g30, h⟩ := o_gd_some h
    refine o_iald (f := (MM_nodeA q15.2)) C hP 3 2 mw_3 rfl g30 d_MM_compile_338 ?_
    obtain ⟨q16, hq16, h⟩ := o_bd_some h
    refine o_V (st1 := []) (w1 := (m_cw ad ca ky ty u305_rt q16 u305_M0 u305_M1)) hE.1 C (hrec ((MM_nodeA q15.2) u305_x1.toNatClampNeg) q15.2 u305_M0 u305_M1 u305_rt _ hq16) hP (hDD _ _ _ _) hS hl.1 rfl mw_0 k_9_141 k_9_143 k_s_104 k_1_12 k_9_144 hv_MM_compile rfl rfl ⟨(by dsimp only [rm_MM_compile, rm_MM_compile]; omega), (by dsimp only [rm_MM_compile, rm_MM_compile]; omega)⟩ rfl (Nat.le_of_ble_eq_true rfl) ⟨Nat.zero_le _, Nat.zero_le _⟩ rfl d_MM_compile_339 (fun H locs hP hS => ?_)
    obtain ⟨x3_342, ex3_342⟩ : ∃ y : Int32, y = z.2.1 + (1:Int32) := ⟨_, rfl⟩
    replace h := o_nm_at ex3_342 h
    refine lv_iinc (v := x3_342) (lv' := [(3, .int x3_342), (2, .int q15.1), (4, .int q15.1), (0, .ref (ad 0)), (1, .int u305_x1)]) hx hb d_MM_compile_342 hl (k := 4) rfl (by rw [ex3_342]; rfl) (by decide) rfl (fun ls hl => ?_)
    refine lv_goto (tgt := 305) hx hb d_MM_compile_345 (by decide) ?_
    cases h
    exact h0 rfl _ _ _ hP hS (lv_sub hl [3, 4, 1, 0] rfl)
set_option maxHeartbeats 4000000 in
set_option maxRecDepth 100000 in
theorem f_MM_compile_b348 {E : (Nat → Prop) → State → Heap → Prop} {p : Program} {l : Launch} {e : Env} {s : State} {m : MethodId} {args : Array Value} {below : List Frame} {meth : Method} {c : Code} {D : va_G} {ad kd sd vd xd : Nat → Nat} {ca : Nat → ClassId} {A : Nat → Prop} {ky ty : Nat → Option Nat} {Q : State → Prop} (hE : o_EK E kd sd vd xd) (hKy : m_KY ky ty sd) (C : o_Cx E p s m args meth c D m_cls (m_tys ca) "SchemaJudgeModel" b_MM_compile none 5 cc_MM_compile A) (hDD : ∀ (rt : Nat) (Mm : SMM) (M0 : SMT) (M1 : SMT), va_D A (m_cw ad ca ky ty rt Mm M0 M1)) (d : Nat) (rec : Int32 → SMM → Option (SMM)) (hrec : ∀ (x1 : Int32) (Mm : SMM) (M0 : SMT) (M1 : SMT) (rt : Nat) (r : SMM), rec x1 Mm = some r → o_Cn E l D m_cls (m_tys ca) y_MM_compile cc_MM_compile (rm_MM_compile d) [.ref (ad 0), .int x1] (m_cw ad ca ky ty rt Mm M0 M1) (m_cw ad ca ky ty rt r M0 M1) none) (n : Nat) (u348_M0 : SMT) (u348_M1 : SMT) (u348_rt : Nat) (z : Int32 × SMM) (q : Nat × Int32 × SMM) (h : m_MM_compile_b348 n rec z = some q) (h0 : q.1 = 0 → o_At p l e (rm_MM_compile (d + 1)) s m args below meth c Q m_cls D A 5 348 [] (m_cw ad ca ky ty u348_rt q.2.2 u348_M0 u348_M1) [(0, .ref (ad 0)), (2, .int q.2.1)]) (h1 : q.1 ≠ 0 → (o_At p l e (rm_MM_compile (d + 1)) s m args below meth c Q m_cls D A 5 374 [] (m_cw ad ca ky ty u348_rt q.2.2 u348_M0 u348_M1) [])) : o_At p l e (rm_MM_compile (d + 1)) s m args below meth c Q m_cls D A 5 348 [] (m_cw ad ca ky ty u348_rt z.2 u348_M0 u348_M1) [(0, .ref (ad 0)), (2, .int z.1)] := by
  unfold m_MM_compile_b348 at h
  intro H locs ls hP hS hl
  have C0 := C
  obtain ⟨hx, hb, -, -, -, hown, hts, hK, -, -⟩ := C0
  refine lv_iload_n hx hb d_MM_compile_348 rfl (lv_at hl 1 rfl) ?_
  refine lv_if_lt (tgt := 374) hx hb d_MM_compile_349 (by decide) (fun c31 => ?_) (fun c31 => ?_)
  · replace h := o_tt c31 h
    cases h
    exact h1 (Nat.succ_ne_zero 0) _ _ _ hP hS (lv_sub hl [] rfl)
  · replace h := o_ff c31 h
    refine lv_aload_n hx hb d_MM_compile_352 rfl (lv_at hl 0 rfl) ?_
    refine o_get (v := .ref (ad 14)) C in_MM hP 0 mw_0 rfl 18 (by decide) k_8_8 rfl rfl d_MM_compile_353 ?_
    refine lv_iload_n hx hb d_MM_compile_356 rfl (lv_at hl 1 rfl) ?_
    obtain ⟨g32, h⟩ := o_gd_some h
    refine o_iald (f := (MM_opB z.2)) C hP 14 13 mw_14 rfl g32 d_MM_compile_357 ?_
    refine lv_topi (fun x3_358 ex3_358 => ?_)
    replace h := o_nm_at ex3_358 h
    refine lv_istore_n (lv' := [(3, .int x3_358), (0, .ref (ad 0)), (2, .int z.1)]) hx hb d_MM_compile_358 rfl hl (by decide) rfl (fun ls hl => ?_)
    refine lv_aload_n hx hb d_MM_compile_359 rfl (lv_at hl 1 rfl) ?_
    refine o_get (v := .ref (ad 14)) C in_MM hP 0 mw_0 rfl 18 (by decide) k_8_8 rfl rfl d_MM_compile_360 ?_
    refine lv_iload_n hx hb d_MM_compile_363 rfl (lv_at hl 2 rfl) ?_
    refine lv_aload_n hx hb d_MM_compile_364 rfl (lv_at hl 1 rfl) ?_
    refine o_get (v := .int (MM_steps z.2)) C in_MM hP 0 mw_0 rfl 26 (by decide) k_8_16 rfl rfl d_MM_compile_365 ?_
    obtain ⟨g33, h⟩ := o_gd_some h
    refine o_iast (f := (MM_opB z.2)) (w1 := (m_cw ad ca ky ty u348_rt (MM_mk (MM_err z.2) (MM_fed z.2) (MM_wrong z.2) (MM_octets z.2) (MM_nodeKind z.2) (MM_nodeA z.2) (MM_nodeB z.2) (MM_nodeC z.2) (MM_nodeNext z.2) (MM_low z.2) (MM_high z.2) (MM_setFrom z.2) (MM_setTo z.2) (MM_setNot z.2) (MM_op z.2) (MM_opA z.2) (upd (MM_opB z.2) z.1.toNatClampNeg (MM_steps z.2)) (MM_mark z.2) (MM_now z.2) (MM_then z.2) (MM_todo z.2) (MM_nodes z.2) (MM_sets z.2) (MM_ranges z.2) (MM_steps z.2) (MM_pat z.2) (MM_patEnd z.2) (MM_round z.2) (MM_many1 z.2) (MM_broken z.2) (MM_checked z.2) (MM_faultKind z.2) (MM_faultValue z.2) (MM_latestFault z.2) (MM_anchors z.2) (MM_key z.2) (MM_target z.2) (MM_anchorValue z.2) (MM_anchorSchema z.2) (MM_path z.2) (MM_route z.2) (MM_isSchema z.2) (MM_seen1 z.2) (MM_pathSize z.2) (MM_octetRow z.2) (MM_partRow z.2) (MM_pairValue z.2) (MM_pairKey z.2) (MM_pairs z.2) (MM_judged z.2) (MM_deepest z.2) (MM_depth z.2) (MM_over z.2) (MM_seen z.2)) u348_M0 u348_M1)) C hP (hDD _ _ _ _) hS 14 13 mw_14 rfl g33 rfl d_MM_compile_368 (fun H locs hP hS => ?_)
    refine lv_iload_n hx hb d_MM_compile_369 rfl (lv_at hl 0 rfl) ?_
    refine lv_istore_n (lv' := [(2, .int x3_358), (3, .int x3_358), (0, .ref (ad 0))]) hx hb d_MM_compile_370 rfl hl (by decide) rfl (fun ls hl => ?_)
    refine lv_goto (tgt := 348) hx hb d_MM_compile_371 (by decide) ?_
    cases h
    exact h0 rfl _ _ _ hP hS (lv_sub hl [2, 0] rfl)
set_option maxHeartbeats 4000000 in
set_option maxRecDepth 100000 in
theorem e_MM_compile_F {E : (Nat → Prop) → State → Heap → Prop} {D : va_G} {ad kd sd vd xd : Nat → Nat} {ca : Nat → ClassId} {ky ty : Nat → Option Nat} (hE : o_EK E kd sd vd xd) (hKy : m_KY ky ty sd) (l : Launch) (n : Nat) (d : Nat) (rec : Int32 → SMM → Option (SMM)) (hrec : ∀ (x1 : Int32) (Mm : SMM) (M0 : SMT) (M1 : SMT) (rt : Nat) (r : SMM), rec x1 Mm = some r → o_Cn E l D m_cls (m_tys ca) y_MM_compile cc_MM_compile (rm_MM_compile d) [.ref (ad 0), .int x1] (m_cw ad ca ky ty rt Mm M0 M1) (m_cw ad ca ky ty rt r M0 M1) none) (x1 : Int32) (Mm : SMM) (M0 : SMT) (M1 : SMT) (rt : Nat) {r : SMM} (h : m_MM_compile_F n rec x1 Mm = some r) : o_Cn E l D m_cls (m_tys ca) y_MM_compile cc_MM_compile (rm_MM_compile (d + 1)) [.ref (ad 0), .int x1] (m_cw ad ca ky ty rt Mm M0 M1) (m_cw ad ca ky ty rt r M0 M1) none := by
  refine o_Cn_of (by decide) (Nat.le_of_ble_eq_true rfl) ?_
  intro p e s m below meth c A ls C hD hP hS hl
  have hDD : ∀ (rt : Nat) (Mm : SMM) (M0 : SMT) (M1 : SMT), va_D A (m_cw ad ca ky ty rt Mm M0 M1) := fun _ _ _ _ => o_D_map hD rfl
  have hl : lv_has ls 5 [(0, .ref (ad 0)), (1, .int x1)] := hl
  unfold m_MM_compile_F at h
  have C0 := C
  obtain ⟨hx, hb, -, -, -, hown, hts, hK, -, -⟩ := C0
  refine lv_aload_n hx hb d_MM_compile_0 rfl (lv_at hl 0 rfl) ?_
  refine o_get (v := .ref (ad 2)) C in_MM hP 0 mw_0 rfl 6 (by decide) k_7_236 rfl rfl d_MM_compile_1 ?_
  refine lv_iload_n hx hb d_MM_compile_4 rfl (lv_at hl 1 rfl) ?_
  obtain ⟨g1, h⟩ := o_gd_some h
  refine o_iald (f := (MM_nodeKind Mm)) C hP 2 1 mw_2 rfl g1 d_MM_compile_5 ?_
  refine lv_topi (fun w6 ew6 => ?_)
  replace h := o_nm_at ew6 h
  by_cases c2 : w6 = (1:Int32)
  · replace h := o_tt c2 h
    refine lv_tableIn (off := 38) (tgt := 44) hx hb d_MM_compile_6 (by rw [c2]; decide) (by rw [c2]; decide) (by rw [c2]; rfl) (by decide) ?_
    refine lv_aload_n hx hb d_MM_compile_44 rfl (lv_at hl 0 rfl) ?_
    refine lv_iconst (v := (1:Int32)) hx hb d_MM_compile_45 (by decide) ?_
    refine lv_aload_n hx hb d_MM_compile_46 rfl (lv_at hl 0 rfl) ?_
    refine o_get (v := .ref (ad 3)) C in_MM hP 0 mw_0 rfl 7 (by decide) k_7_237 rfl rfl d_MM_compile_47 ?_
    refine lv_iload_n hx hb d_MM_compile_50 rfl (lv_at hl 1 rfl) ?_
    obtain ⟨g3, h⟩ := o_gd_some h
    refine o_iald (f := (MM_nodeA Mm)) C hP 3 2 mw_3 rfl g3 d_MM_compile_51 ?_
    refine lv_iconst (v := (0:Int32)) hx hb d_MM_compile_52 (by decide) ?_
    obtain ⟨q1, hq1, h⟩ := o_bd_some h
    refine o_V (st1 := [.int q1.1]) (w1 := (m_cw ad ca ky ty rt q1.2 M0 M1)) hE.1 C (e_MM_step hE hKy l (1:Int32) ((MM_nodeA Mm) x1.toNatClampNeg) (0:Int32) Mm M0 M1 rt hq1) hP (hDD _ _ _ _) hS hl.1 rfl mw_0 k_9_145 k_9_147 k_s_105 k_1_12 k_9_148 hv_MM_step rfl rfl ⟨(by dsimp only [rm_MM_compile, rm_MM_step]; omega), (by dsimp only [rm_MM_compile, rm_MM_step]; omega)⟩ rfl (Nat.le_of_ble_eq_true rfl) ⟨Nat.zero_le _, Nat.zero_le _⟩ rfl d_MM_compile_53 (fun H locs hP hS => ?_)
    refine lv_pop hx hb d_MM_compile_56 rfl ?_
    refine lv_goto (tgt := 377) hx hb d_MM_compile_57 (by decide) ?_
    cases h
    exact o_rv C hP hS d_MM_compile_377
  replace h := o_ff c2 h
  by_cases c4 : w6 = (2:Int32)
  · replace h := o_tt c4 h
    refine lv_tableIn (off := 54) (tgt := 60) hx hb d_MM_compile_6 (by rw [c4]; decide) (by rw [c4]; decide) (by rw [c4]; rfl) (by decide) ?_
    refine lv_aload_n hx hb d_MM_compile_60 rfl (lv_at hl 0 rfl) ?_
    refine lv_iconst (v := (2:Int32)) hx hb d_MM_compile_61 (by decide) ?_
    refine lv_iconst (v := (0:Int32)) hx hb d_MM_compile_62 (by decide) ?_
    refine lv_iconst (v := (0:Int32)) hx hb d_MM_compile_63 (by decide) ?_
    obtain ⟨q2, hq2, h⟩ := o_bd_some h
    refine o_V (st1 := [.int q2.1]) (w1 := (m_cw ad ca ky ty rt q2.2 M0 M1)) hE.1 C (e_MM_step hE hKy l (2:Int32) (0:Int32) (0:Int32) Mm M0 M1 rt hq2) hP (hDD _ _ _ _) hS hl.1 rfl mw_0 k_9_145 k_9_147 k_s_105 k_1_12 k_9_148 hv_MM_step rfl rfl ⟨(by dsimp only [rm_MM_compile, rm_MM_step]; omega), (by dsimp only [rm_MM_compile, rm_MM_step]; omega)⟩ rfl (Nat.le_of_ble_eq_true rfl) ⟨Nat.zero_le _, Nat.zero_le _⟩ rfl d_MM_compile_64 (fun H locs hP hS => ?_)
    refine lv_pop hx hb d_MM_compile_67 rfl ?_
    refine lv_goto (tgt := 377) hx hb d_MM_compile_68 (by decide) ?_
    cases h
    exact o_rv C hP hS d_MM_compile_377
  replace h := o_ff c4 h
  by_cases c5 : w6 = (3:Int32)
  · replace h := o_tt c5 h
    refine lv_tableIn (off := 65) (tgt := 71) hx hb d_MM_compile_6 (by rw [c5]; decide) (by rw [c5]; decide) (by rw [c5]; rfl) (by decide) ?_
    refine lv_aload_n hx hb d_MM_compile_71 rfl (lv_at hl 0 rfl) ?_
    refine lv_iconst (v := (3:Int32)) hx hb d_MM_compile_72 (by decide) ?_
    refine lv_iconst (v := (0:Int32)) hx hb d_MM_compile_73 (by decide) ?_
    refine lv_iconst (v := (0:Int32)) hx hb d_MM_compile_74 (by decide) ?_
    obtain ⟨q3, hq3, h⟩ := o_bd_some h
    refine o_V (st1 := [.int q3.1]) (w1 := (m_cw ad ca ky ty rt q3.2 M0 M1)) hE.1 C (e_MM_step hE hKy l (3:Int32) (0:Int32) (0:Int32) Mm M0 M1 rt hq3) hP (hDD _ _ _ _) hS hl.1 rfl mw_0 k_9_145 k_9_147 k_s_105 k_1_12 k_9_148 hv_MM_step rfl rfl ⟨(by dsimp only [rm_MM_compile, rm_MM_step]; omega), (by dsimp only [rm_MM_compile, rm_MM_step]; omega)⟩ rfl (Nat.le_of_ble_eq_true rfl) ⟨Nat.zero_le _, Nat.zero_le _⟩ rfl d_MM_compile_75 (fun H locs hP hS => ?_)
    refine lv_pop hx hb d_MM_compile_78 rfl ?_
    refine lv_goto (tgt := 377) hx hb d_MM_compile_79 (by decide) ?_
    cases h
    exact o_rv C hP hS d_MM_compile_377
  replace h := o_ff c5 h
  by_cases c6 : w6 = (4:Int32)
  · replace h := o_tt c6 h
    refine lv_tableIn (off := 76) (tgt := 82) hx hb d_MM_compile_6 (by rw [c6]; decide) (by rw [c6]; decide) (by rw [c6]; rfl) (by decide) ?_
    refine lv_aload_n hx hb d_MM_compile_82 rfl (lv_at hl 0 rfl) ?_
    refine o_get (v := .ref (ad 3)) C in_MM hP 0 mw_0 rfl 7 (by decide) k_7_237 rfl rfl d_MM_compile_83 ?_
    refine lv_iload_n hx hb d_MM_compile_86 rfl (lv_at hl 1 rfl) ?_
    obtain ⟨g7, h⟩ := o_gd_some h
    refine o_iald (f := (MM_nodeA Mm)) C hP 3 2 mw_3 rfl g7 d_MM_compile_87 ?_
    refine lv_topi (fun x2_88 ex2_88 => ?_)
    replace h := o_nm_at ex2_88 h
    refine lv_istore_n (lv' := [(2, .int x2_88), (0, .ref (ad 0)), (1, .int x1)]) hx hb d_MM_compile_88 rfl hl (by decide) rfl (fun ls hl => ?_)
    obtain ⟨q5, hq5, h⟩ := o_bd_some h
    refine o_sim2 (AH := fun zz => o_At p l e (rm_MM_compile (d + 1)) s m _ below meth c _ m_cls D A 5 89 [] (m_cw ad ca ky ty rt zz.2 M0 M1) [(0, .ref (ad 0)), (2, .int zz.1)]) (AX := fun qq => o_At p l e (rm_MM_compile (d + 1)) s m _ below meth c _ m_cls D A 5 108 [] (m_cw ad ca ky ty rt qq.2.2 M0 M1) []) (fun zz qq h h0 h1 => f_MM_compile_b89 hE hKy C hDD d rec hrec n M0 M1 rt zz qq h h0 h1) n _ q5 hq5 ?_ _ _ _ hP hS (lv_sub hl [1, 0] rfl)
    intro H locs ls hP hS hl
    refine lv_goto (tgt := 377) hx hb d_MM_compile_108 (by decide) ?_
    cases h
    exact o_rv C hP hS d_MM_compile_377
  replace h := o_ff c6 h
  by_cases c10 : w6 = (5:Int32)
  · replace h := o_tt c10 h
    refine lv_tableIn (off := 105) (tgt := 111) hx hb d_MM_compile_6 (by rw [c10]; decide) (by rw [c10]; decide) (by rw [c10]; rfl) (by decide) ?_
    refine lv_iconst (v := (-1:Int32)) hx hb d_MM_compile_111 (by decide) ?_
    refine lv_istore_n (lv' := [(2, .int (-1:Int32)), (0, .ref (ad 0)), (1, .int x1)]) hx hb d_MM_compile_112 rfl hl (by decide) rfl (fun ls hl => ?_)
    refine lv_aload_n hx hb d_MM_compile_113 rfl (lv_at hl 1 rfl) ?_
    refine o_get (v := .ref (ad 3)) C in_MM hP 0 mw_0 rfl 7 (by decide) k_7_237 rfl rfl d_MM_compile_114 ?_
    refine lv_iload_n hx hb d_MM_compile_117 rfl (lv_at hl 2 rfl) ?_
    obtain ⟨g11, h⟩ := o_gd_some h
    refine o_iald (f := (MM_nodeA Mm)) C hP 3 2 mw_3 rfl g11 d_MM_compile_118 ?_
    refine lv_topi (fun x3_119 ex3_119 => ?_)
    replace h := o_nm_at ex3_119 h
    refine lv_istore_n (lv' := [(3, .int x3_119), (2, .int (-1:Int32)), (0, .ref (ad 0)), (1, .int x1)]) hx hb d_MM_compile_119 rfl hl (by decide) rfl (fun ls hl => ?_)
    obtain ⟨q9, hq9, h⟩ := o_bd_some h
    refine o_sim2 (AH := fun zz => o_At p l e (rm_MM_compile (d + 1)) s m _ below meth c _ m_cls D A 5 120 [] (m_cw ad ca ky ty rt zz.2.2 M0 M1) [(0, .ref (ad 0)), (2, .int zz.1), (3, .int zz.2.1)]) (AX := fun qq => if qq.1 = 1 then o_At p l e (rm_MM_compile (d + 1)) s m _ below meth c _ m_cls D A 5 133 [] (m_cw ad ca ky ty rt qq.2.2.2 M0 M1) [(0, .ref (ad 0)), (2, .int qq.2.1), (3, .int qq.2.2.1)] else o_At p l e (rm_MM_compile (d + 1)) s m _ below meth c _ m_cls D A 5 189 [] (m_cw ad ca ky ty rt qq.2.2.2 M0 M1) [(0, .ref (ad 0)), (2, .int qq.2.1)]) (fun zz qq h h0 h1 => f_MM_compile_b120 hE hKy C hDD d rec hrec n M0 M1 rt zz qq h h0 h1) n _ q9 hq9 ?_ _ _ _ hP hS (lv_sub hl [2, 1, 0] rfl)
    by_cases c20 : q9.1 = 1
    · replace h := o_tt c20 h
      refine o_ip c20 ?_
      intro H locs ls hP hS hl
      refine lv_aload_n hx hb d_MM_compile_133 rfl (lv_at hl 0 rfl) ?_
      refine lv_iload_n hx hb d_MM_compile_134 rfl (lv_at hl 2 rfl) ?_
      obtain ⟨q10, hq10, h⟩ := o_bd_some h
      refine o_V (st1 := []) (w1 := (m_cw ad ca ky ty rt q10 M0 M1)) hE.1 C (hrec q9.2.2.1 q9.2.2.2 M0 M1 rt _ hq10) hP (hDD _ _ _ _) hS hl.1 rfl mw_0 k_9_141 k_9_143 k_s_104 k_1_12 k_9_144 hv_MM_compile rfl rfl ⟨(by dsimp only [rm_MM_compile, rm_MM_compile]; omega), (by dsimp only [rm_MM_compile, rm_MM_compile]; omega)⟩ rfl (Nat.le_of_ble_eq_true rfl) ⟨Nat.zero_le _, Nat.zero_le _⟩ rfl d_MM_compile_135 (fun H locs hP hS => ?_)
      refine lv_goto (tgt := 189) hx hb d_MM_compile_138 (by decide) ?_
      obtain ⟨q11, hq11, h⟩ := o_bd_some h
      refine o_sim2 (AH := fun zz => o_At p l e (rm_MM_compile (d + 1)) s m _ below meth c _ m_cls D A 5 189 [] (m_cw ad ca ky ty rt zz.2 M0 M1) [(0, .ref (ad 0)), (2, .int zz.1)]) (AX := fun qq => o_At p l e (rm_MM_compile (d + 1)) s m _ below meth c _ m_cls D A 5 377 [] (m_cw ad ca ky ty rt qq.2.2 M0 M1) []) (fun zz qq h h0 h1 => f_MM_compile_b189 hE hKy C hDD d rec hrec n M0 M1 rt zz qq h h0 h1) n _ q11 hq11 ?_ _ _ _ hP hS (lv_sub hl [0, 1] rfl)
      intro H locs ls hP hS hl
      cases h
      exact o_rv C hP hS d_MM_compile_377
    replace h := o_ff c20 h
    refine o_in_ c20 ?_
    intro H locs ls hP hS hl
    obtain ⟨q12, hq12, h⟩ := o_bd_some h
    refine o_sim2 (AH := fun zz => o_At p l e (rm_MM_compile (d + 1)) s m _ below meth c _ m_cls D A 5 189 [] (m_cw ad ca ky ty rt zz.2 M0 M1) [(0, .ref (ad 0)), (2, .int zz.1)]) (AX := fun qq => o_At p l e (rm_MM_compile (d + 1)) s m _ below meth c _ m_cls D A 5 377 [] (m_cw ad ca ky ty rt qq.2.2 M0 M1) []) (fun zz qq h h0 h1 => f_MM_compile_b189 hE hKy C hDD d rec hrec n M0 M1 rt zz qq h h0 h1) n _ q12 hq12 ?_ _ _ _ hP hS (lv_sub hl [0, 1] rfl)
    intro H locs ls hP hS hl
    cases h
    exact o_rv C hP hS d_MM_compile_377
  replace h := o_ff c10 h
  by_cases c21 : w6 = (6:Int32)
  · replace h := o_tt c21 h
    refine lv_tableIn (off := 209) (tgt := 215) hx hb d_MM_compile_6 (by rw [c21]; decide) (by rw [c21]; decide) (by rw [c21]; rfl) (by decide) ?_
    refine lv_iconst (v := (0:Int32)) hx hb d_MM_compile_215 (by decide) ?_
    refine lv_istore_n (lv' := [(2, .int (0:Int32)), (0, .ref (ad 0)), (1, .int x1)]) hx hb d_MM_compile_216 rfl hl (by decide) rfl (fun ls hl => ?_)
    obtain ⟨q14, hq14, h⟩ := o_bd_some h
    refine o_sim2 (AH := fun zz => o_At p l e (rm_MM_compile (d + 1)) s m _ below meth c _ m_cls D A 5 217 [] (m_cw ad ca ky ty rt zz.2 M0 M1) [(0, .ref (ad 0)), (1, .int x1), (2, .int zz.1)]) (AX := fun qq => o_At p l e (rm_MM_compile (d + 1)) s m _ below meth c _ m_cls D A 5 243 [] (m_cw ad ca ky ty rt qq.2.2 M0 M1) [(0, .ref (ad 0)), (1, .int x1)]) (fun zz qq h h0 h1 => f_MM_compile_b217 hE hKy C hDD d rec hrec n x1 M0 M1 rt zz qq h h0 h1) n _ q14 hq14 ?_ _ _ _ hP hS (lv_sub hl [1, 2, 0] rfl)
    intro H locs ls hP hS hl
    refine lv_aload_n hx hb d_MM_compile_243 rfl (lv_at hl 0 rfl) ?_
    refine o_get (v := .ref (ad 5)) C in_MM hP 0 mw_0 rfl 9 (by decide) k_7_239 rfl rfl d_MM_compile_244 ?_
    refine lv_iload_n hx hb d_MM_compile_247 rfl (lv_at hl 1 rfl) ?_
    obtain ⟨g25, h⟩ := o_gd_some h
    refine o_iald (f := (MM_nodeC q14.2.2)) C hP 5 4 mw_5 rfl g25 d_MM_compile_248 ?_
    refine lv_if_ge (tgt := 296) hx hb d_MM_compile_249 (by decide) (fun c26 => ?_) (fun c26 => ?_)
    · replace h := o_tt c26 h
      refine lv_iconst (v := (-1:Int32)) hx hb d_MM_compile_296 (by decide) ?_
      refine lv_istore_n (lv' := [(2, .int (-1:Int32)), (0, .ref (ad 0)), (1, .int x1)]) hx hb d_MM_compile_297 rfl hl (by decide) rfl (fun ls hl => ?_)
      refine lv_aload_n hx hb d_MM_compile_298 rfl (lv_at hl 1 rfl) ?_
      refine o_get (v := .ref (ad 4)) C in_MM hP 0 mw_0 rfl 8 (by decide) k_7_238 rfl rfl d_MM_compile_299 ?_
      refine lv_iload_n hx hb d_MM_compile_302 rfl (lv_at hl 2 rfl) ?_
      obtain ⟨g27, h⟩ := o_gd_some h
      refine o_iald (f := (MM_nodeB q14.2.2)) C hP 4 3 mw_4 rfl g27 d_MM_compile_303 ?_
      refine lv_topi (fun x3_304 ex3_304 => ?_)
      replace h := o_nm_at ex3_304 h
      refine lv_istore_n (lv' := [(3, .int x3_304), (2, .int (-1:Int32)), (0, .ref (ad 0)), (1, .int x1)]) hx hb d_MM_compile_304 rfl hl (by decide) rfl (fun ls hl => ?_)
      obtain ⟨q17, hq17, h⟩ := o_bd_some h
      refine o_sim2 (AH := fun zz => o_At p l e (rm_MM_compile (d + 1)) s m _ below meth c _ m_cls D A 5 305 [] (m_cw ad ca ky ty rt zz.2.2 M0 M1) [(0, .ref (ad 0)), (1, .int x1), (2, .int zz.1), (3, .int zz.2.1)]) (AX := fun qq => o_At p l e (rm_MM_compile (d + 1)) s m _ below meth c _ m_cls D A 5 348 [] (m_cw ad ca ky ty rt qq.2.2.2 M0 M1) [(0, .ref (ad 0)), (2, .int qq.2.1)]) (fun zz qq h h0 h1 => f_MM_compile_b305 hE hKy C hDD d rec hrec n x1 M0 M1 rt zz qq h h0 h1) n _ q17 hq17 ?_ _ _ _ hP hS (lv_sub hl [2, 3, 1, 0] rfl)
      intro H locs ls hP hS hl
      obtain ⟨q18, hq18, h⟩ := o_bd_some h
      refine o_sim2 (AH := fun zz => o_At p l e (rm_MM_compile (d + 1)) s m _ below meth c _ m_cls D A 5 348 [] (m_cw ad ca ky ty rt zz.2 M0 M1) [(0, .ref (ad 0)), (2, .int zz.1)]) (AX := fun qq => o_At p l e (rm_MM_compile (d + 1)) s m _ below meth c _ m_cls D A 5 374 [] (m_cw ad ca ky ty rt qq.2.2 M0 M1) []) (fun zz qq h h0 h1 => f_MM_compile_b348 hE hKy C hDD d rec hrec n M0 M1 rt zz qq h h0 h1) n _ q18 hq18 ?_ _ _ _ hP hS (lv_sub hl [0, 1] rfl)
      intro H locs ls hP hS hl
      refine lv_goto (tgt := 377) hx hb d_MM_compile_374 (by decide) ?_
      cases h
      exact o_rv C hP hS d_MM_compile_377
    · replace h := o_ff c26 h
      refine lv_aload_n hx hb d_MM_compile_252 rfl (lv_at hl 0 rfl) ?_
      refine lv_iconst (v := (4:Int32)) hx hb d_MM_compile_253 (by decide) ?_
      refine lv_aload_n hx hb d_MM_compile_254 rfl (lv_at hl 0 rfl) ?_
      refine o_get (v := .int (MM_steps q14.2.2)) C in_MM hP 0 mw_0 rfl 26 (by decide) k_8_16 rfl rfl d_MM_compile_255 ?_
      refine lv_iconst (v := (1:Int32)) hx hb d_MM_compile_258 (by decide) ?_
      refine lv_iadd hx hb d_MM_compile_259 ?_
      refine lv_iconst (v := (0:Int32)) hx hb d_MM_compile_260 (by decide) ?_
      obtain ⟨q19, hq19, h⟩ := o_bd_some h
      refine o_V (st1 := [.int q19.1]) (w1 := (m_cw ad ca ky ty rt q19.2 M0 M1)) hE.1 C (e_MM_step hE hKy l (4:Int32) ((MM_steps q14.2.2) + (1:Int32)) (0:Int32) q14.2.2 M0 M1 rt hq19) hP (hDD _ _ _ _) hS hl.1 rfl mw_0 k_9_145 k_9_147 k_s_105 k_1_12 k_9_148 hv_MM_step rfl rfl ⟨(by dsimp only [rm_MM_compile, rm_MM_step]; omega), (by dsimp only [rm_MM_compile, rm_MM_step]; omega)⟩ rfl (Nat.le_of_ble_eq_true rfl) ⟨Nat.zero_le _, Nat.zero_le _⟩ rfl d_MM_compile_261 (fun H locs hP hS => ?_)
      refine lv_istore_n (lv' := [(2, .int q19.1), (0, .ref (ad 0)), (1, .int x1)]) hx hb d_MM_compile_264 rfl hl (by decide) rfl (fun ls hl => ?_)
      refine lv_aload_n hx hb d_MM_compile_265 rfl (lv_at hl 1 rfl) ?_
      refine lv_aload_n hx hb d_MM_compile_266 rfl (lv_at hl 1 rfl) ?_
      refine o_get (v := .ref (ad 3)) C in_MM hP 0 mw_0 rfl 7 (by decide) k_7_237 rfl rfl d_MM_compile_267 ?_
      refine lv_iload_n hx hb d_MM_compile_270 rfl (lv_at hl 2 rfl) ?_
      obtain ⟨g34, h⟩ := o_gd_some h
      refine o_iald (f := (MM_nodeA q19.2)) C hP 3 2 mw_3 rfl g34 d_MM_compile_271 ?_
      obtain ⟨q20, hq20, h⟩ := o_bd_some h
      refine o_V (st1 := []) (w1 := (m_cw ad ca ky ty rt q20 M0 M1)) hE.1 C (hrec ((MM_nodeA q19.2) x1.toNatClampNeg) q19.2 M0 M1 rt _ hq20) hP (hDD _ _ _ _) hS hl.1 rfl mw_0 k_9_141 k_9_143 k_s_104 k_1_12 k_9_144 hv_MM_compile rfl rfl ⟨(by dsimp only [rm_MM_compile, rm_MM_compile]; omega), (by dsimp only [rm_MM_compile, rm_MM_compile]; omega)⟩ rfl (Nat.le_of_ble_eq_true rfl) ⟨Nat.zero_le _, Nat.zero_le _⟩ rfl d_MM_compile_272 (fun H locs hP hS => ?_)
      refine lv_aload_n hx hb d_MM_compile_275 rfl (lv_at hl 1 rfl) ?_
      refine lv_iconst (v := (5:Int32)) hx hb d_MM_compile_276 (by decide) ?_
      refine lv_iload_n hx hb d_MM_compile_277 rfl (lv_at hl 0 rfl) ?_
      refine lv_iconst (v := (0:Int32)) hx hb d_MM_compile_278 (by decide) ?_
      obtain ⟨q21, hq21, h⟩ := o_bd_some h
      refine o_V (st1 := [.int q21.1]) (w1 := (m_cw ad ca ky ty rt q21.2 M0 M1)) hE.1 C (e_MM_step hE hKy l (5:Int32) q19.1 (0:Int32) q20 M0 M1 rt hq21) hP (hDD _ _ _ _) hS hl.1 rfl mw_0 k_9_145 k_9_147 k_s_105 k_1_12 k_9_148 hv_MM_step rfl rfl ⟨(by dsimp only [rm_MM_compile, rm_MM_step]; omega), (by dsimp only [rm_MM_compile, rm_MM_step]; omega)⟩ rfl (Nat.le_of_ble_eq_true rfl) ⟨Nat.zero_le _, Nat.zero_le _⟩ rfl d_MM_compile_279 (fun H locs hP hS => ?_)
      refine lv_pop hx hb d_MM_compile_282 rfl ?_
      refine lv_aload_n hx hb d_MM_compile_283 rfl (lv_at hl 1 rfl) ?_
      refine o_get (v := .ref (ad 14)) C in_MM hP 0 mw_0 rfl 18 (by decide) k_8_8 rfl rfl d_MM_compile_284 ?_
      refine lv_iload_n hx hb d_MM_compile_287 rfl (lv_at hl 0 rfl) ?_
      refine lv_aload_n hx hb d_MM_compile_288 rfl (lv_at hl 1 rfl) ?_
      refine o_get (v := .int (MM_steps q21.2)) C in_MM hP 0 mw_0 rfl 26 (by decide) k_8_16 rfl rfl d_MM_compile_289 ?_
      obtain ⟨g35, h⟩ := o_gd_some h
      refine o_iast (f := (MM_opB q21.2)) (w1 := (m_cw ad ca ky ty rt (MM_mk (MM_err q21.2) (MM_fed q21.2) (MM_wrong q21.2) (MM_octets q21.2) (MM_nodeKind q21.2) (MM_nodeA q21.2) (MM_nodeB q21.2) (MM_nodeC q21.2) (MM_nodeNext q21.2) (MM_low q21.2) (MM_high q21.2) (MM_setFrom q21.2) (MM_setTo q21.2) (MM_setNot q21.2) (MM_op q21.2) (MM_opA q21.2) (upd (MM_opB q21.2) q19.1.toNatClampNeg (MM_steps q21.2)) (MM_mark q21.2) (MM_now q21.2) (MM_then q21.2) (MM_todo q21.2) (MM_nodes q21.2) (MM_sets q21.2) (MM_ranges q21.2) (MM_steps q21.2) (MM_pat q21.2) (MM_patEnd q21.2) (MM_round q21.2) (MM_many1 q21.2) (MM_broken q21.2) (MM_checked q21.2) (MM_faultKind q21.2) (MM_faultValue q21.2) (MM_latestFault q21.2) (MM_anchors q21.2) (MM_key q21.2) (MM_target q21.2) (MM_anchorValue q21.2) (MM_anchorSchema q21.2) (MM_path q21.2) (MM_route q21.2) (MM_isSchema q21.2) (MM_seen1 q21.2) (MM_pathSize q21.2) (MM_octetRow q21.2) (MM_partRow q21.2) (MM_pairValue q21.2) (MM_pairKey q21.2) (MM_pairs q21.2) (MM_judged q21.2) (MM_deepest q21.2) (MM_depth q21.2) (MM_over q21.2) (MM_seen q21.2)) M0 M1)) C hP (hDD _ _ _ _) hS 14 13 mw_14 rfl g35 rfl d_MM_compile_292 (fun H locs hP hS => ?_)
      refine lv_goto (tgt := 377) hx hb d_MM_compile_293 (by decide) ?_
      cases h
      exact o_rv C hP hS d_MM_compile_377
  replace h := o_ff c21 h
  refine lv_tableOut (tgt := 377) hx hb d_MM_compile_6 (by have ec2 := o_ne_i (n := 1) (by decide) c2; have ec4 := o_ne_i (n := 2) (by decide) c4; have ec5 := o_ne_i (n := 3) (by decide) c5; have ec6 := o_ne_i (n := 4) (by decide) c6; have ec10 := o_ne_i (n := 5) (by decide) c10; have ec21 := o_ne_i (n := 6) (by decide) c21; omega) (by decide) ?_
  cases h
  exact o_rv C hP hS d_MM_compile_377
set_option maxHeartbeats 4000000 in
set_option maxRecDepth 100000 in
theorem e_MM_compile {E : (Nat → Prop) → State → Heap → Prop} {D : va_G} {ad kd sd vd xd : Nat → Nat} {ca : Nat → ClassId} {ky ty : Nat → Option Nat} (hE : o_EK E kd sd vd xd) (hKy : m_KY ky ty sd) (l : Launch) (n : Nat) (d : Nat) (x1 : Int32) (Mm : SMM) (M0 : SMT) (M1 : SMT) (rt : Nat) {r : SMM} (h : m_MM_compile n d x1 Mm = some r) : o_Cn E l D m_cls (m_tys ca) y_MM_compile cc_MM_compile (rm_MM_compile d) [.ref (ad 0), .int x1] (m_cw ad ca ky ty rt Mm M0 M1) (m_cw ad ca ky ty rt r M0 M1) none := by
  induction d generalizing x1 Mm M0 M1 rt r with
  | zero => cases h
  | succ d ih =>
    exact e_MM_compile_F hE hKy l n d (m_MM_compile n d) (fun x1 Mm M0 M1 rt r h => ih x1 Mm M0 M1 rt h) _ _ _ _ _ h
