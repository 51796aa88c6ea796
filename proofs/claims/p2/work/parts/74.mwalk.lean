set_option maxHeartbeats 4000000 in
set_option maxRecDepth 100000 in
theorem f_MM_part_j90 {E : (Nat → Prop) → State → Heap → Prop} {p : Program} {l : Launch} {e : Env} {s : State} {m : MethodId} {args : Array Value} {below : List Frame} {meth : Method} {c : Code} {D : va_G} {ad kd sd vd xd : Nat → Nat} {ca : Nat → ClassId} {A : Nat → Prop} {ky ty : Nat → Option Nat} {Q : State → Prop} (hE : o_EK E kd sd vd xd) (hKy : m_KY ky ty sd) (C : o_Cx E p s m args meth c D m_cls (m_tys ca) "SchemaJudgeModel" b_MM_part (some .int) 9 cc_MM_part A) (hDD : ∀ (rt : Nat) (Mm : SMM) (M0 : SMT) (M1 : SMT), va_D A (m_cw ad ca ky ty rt Mm M0 M1)) (n : Nat) (u6_x1 : Int32) (u6_x3 : Int32) (u6_M0 : SMT) (u6_M1 : SMT) (u6_rt : Nat) (x4 : Int32) (x5 : Int32) (x6 : Int32) (Mm : SMM) {q : Nat × Int32 × Int32 × SMM} (h : m_MM_part_j90 n u6_x1 u6_x3 x4 x5 x6 u6_M0 Mm = some q) (h0 : q.1 = 0 → o_At p l e rm_MM_part s m args below meth c Q m_cls D A 9 6 [] (m_cw ad ca ky ty u6_rt q.2.2.2 u6_M0 u6_M1) [(0, .ref (ad 0)), (1, .int u6_x1), (3, .int u6_x3), (4, .int q.2.1), (5, .int q.2.2.1)]) (h1 : q.1 ≠ 0 → (if q.1 = 1 then o_At p l e rm_MM_part s m args below meth c Q m_cls D A 9 64 [] (m_cw ad ca ky ty u6_rt q.2.2.2 u6_M0 u6_M1) [] else o_At p l e rm_MM_part s m args below meth c Q m_cls D A 9 108 [] (m_cw ad ca ky ty u6_rt q.2.2.2 u6_M0 u6_M1) [(0, .ref (ad 0)), (1, .int u6_x1), (4, .int q.2.1)])) : o_At p l e rm_MM_part s m args below meth c Q m_cls D A 9 90 [] (m_cw ad ca ky ty u6_rt Mm u6_M0 u6_M1) [(0, .ref (ad 0)), (1, .int u6_x1), (3, .int u6_x3), (4, .int x4), (5, .int x5), (6, .int x6)] := by
  unfold m_MM_part_j90 at h
  intro H locs ls hP hS hl
  have C0 := C
  obtain ⟨hx, hb, -, -, -, hown, hts, hK, -, -⟩ := C0
  refine lv_aload_n hx hb d_MM_part_90 rfl (lv_at hl 0 rfl) ?_
  refine o_get (v := .ref (ad 30)) C in_MM hP 0 mw_0 rfl 50 (by decide) k_8_40 rfl rfl d_MM_part_91 ?_
  refine lv_iload hx hb d_MM_part_94 (lv_at hl 3 rfl) ?_
  obtain ⟨x4_96, ex4_96⟩ : ∃ y : Int32, y = x4 + (1:Int32) := ⟨_, rfl⟩
  replace h := o_nm_at ex4_96 h
  refine lv_iinc (v := x4_96) (lv' := [(4, .int x4_96), (0, .ref (ad 0)), (1, .int u6_x1), (3, .int u6_x3), (5, .int x5), (6, .int x6)]) hx hb d_MM_part_96 hl (k := 3) rfl (by rw [ex4_96]; rfl) (by decide) rfl (fun ls hl => ?_)
  refine lv_iload hx hb d_MM_part_99 (lv_at hl 5 rfl) ?_
  obtain ⟨g4, h⟩ := o_gd_some h
  refine o_iast (f := (MM_partRow Mm)) (w1 := (m_cw ad ca ky ty u6_rt (MM_mk (MM_err Mm) (MM_fed Mm) (MM_wrong Mm) (MM_octets Mm) (MM_nodeKind Mm) (MM_nodeA Mm) (MM_nodeB Mm) (MM_nodeC Mm) (MM_nodeNext Mm) (MM_low Mm) (MM_high Mm) (MM_setFrom Mm) (MM_setTo Mm) (MM_setNot Mm) (MM_op Mm) (MM_opA Mm) (MM_opB Mm) (MM_mark Mm) (MM_now Mm) (MM_then Mm) (MM_todo Mm) (MM_nodes Mm) (MM_sets Mm) (MM_ranges Mm) (MM_steps Mm) (MM_pat Mm) (MM_patEnd Mm) (MM_round Mm) (MM_many1 Mm) (MM_broken Mm) (MM_checked Mm) (MM_faultKind Mm) (MM_faultValue Mm) (MM_latestFault Mm) (MM_anchors Mm) (MM_key Mm) (MM_target Mm) (MM_anchorValue Mm) (MM_anchorSchema Mm) (MM_path Mm) (MM_route Mm) (MM_isSchema Mm) (MM_seen1 Mm) (MM_pathSize Mm) (MM_octetRow Mm) (upd (MM_partRow Mm) x4.toNatClampNeg x6) (MM_pairValue Mm) (MM_pairKey Mm) (MM_pairs Mm) (MM_judged Mm) (MM_deepest Mm) (MM_depth Mm) (MM_over Mm) (MM_seen Mm)) u6_M0 u6_M1)) C hP (hDD _ _ _ _) hS 30 29 mw_30 rfl g4 rfl d_MM_part_101 (fun H locs hP hS => ?_)
  obtain ⟨x5_102, ex5_102⟩ : ∃ y : Int32, y = x5 + (1:Int32) := ⟨_, rfl⟩
  replace h := o_nm_at ex5_102 h
  refine lv_iinc (v := x5_102) (lv' := [(5, .int x5_102), (4, .int x4_96), (0, .ref (ad 0)), (1, .int u6_x1), (3, .int u6_x3), (6, .int x6)]) hx hb d_MM_part_102 hl (k := 4) rfl (by rw [ex5_102]; rfl) (by decide) rfl (fun ls hl => ?_)
  refine lv_goto (tgt := 6) hx hb d_MM_part_105 (by decide) ?_
  cases h
  exact h0 rfl _ _ _ hP hS (lv_sub hl [2, 3, 4, 1, 0] rfl)
set_option maxHeartbeats 4000000 in
set_option maxRecDepth 100000 in
theorem f_MM_part_j66 {E : (Nat → Prop) → State → Heap → Prop} {p : Program} {l : Launch} {e : Env} {s : State} {m : MethodId} {args : Array Value} {below : List Frame} {meth : Method} {c : Code} {D : va_G} {ad kd sd vd xd : Nat → Nat} {ca : Nat → ClassId} {A : Nat → Prop} {ky ty : Nat → Option Nat} {Q : State → Prop} (hE : o_EK E kd sd vd xd) (hKy : m_KY ky ty sd) (C : o_Cx E p s m args meth c D m_cls (m_tys ca) "SchemaJudgeModel" b_MM_part (some .int) 9 cc_MM_part A) (hDD : ∀ (rt : Nat) (Mm : SMM) (M0 : SMT) (M1 : SMT), va_D A (m_cw ad ca ky ty rt Mm M0 M1)) (n : Nat) (u6_x1 : Int32) (u6_x3 : Int32) (u6_M0 : SMT) (u6_M1 : SMT) (u6_rt : Nat) (x4 : Int32) (x5 : Int32) (Mm : SMM) {q : Nat × Int32 × Int32 × SMM} (h : m_MM_part_j66 n u6_x1 u6_x3 x4 x5 u6_M0 Mm = some q) (h0 : q.1 = 0 → o_At p l e rm_MM_part s m args below meth c Q m_cls D A 9 6 [] (m_cw ad ca ky ty u6_rt q.2.2.2 u6_M0 u6_M1) [(0, .ref (ad 0)), (1, .int u6_x1), (3, .int u6_x3), (4, .int q.2.1), (5, .int q.2.2.1)]) (h1 : q.1 ≠ 0 → (if q.1 = 1 then o_At p l e rm_MM_part s m args below meth c Q m_cls D A 9 64 [] (m_cw ad ca ky ty u6_rt q.2.2.2 u6_M0 u6_M1) [] else o_At p l e rm_MM_part s m args below meth c Q m_cls D A 9 108 [] (m_cw ad ca ky ty u6_rt q.2.2.2 u6_M0 u6_M1) [(0, .ref (ad 0)), (1, .int u6_x1), (4, .int q.2.1)])) : o_At p l e rm_MM_part s m args below meth c Q m_cls D A 9 66 [] (m_cw ad ca ky ty u6_rt Mm u6_M0 u6_M1) [(0, .ref (ad 0)), (1, .int u6_x1), (3, .int u6_x3), (4, .int x4), (5, .int x5)] := by
  unfold m_MM_part_j66 at h
  intro H locs ls hP hS hl
  have C0 := C
  obtain ⟨hx, hb, -, -, -, hown, hts, hK, -, -⟩ := C0
  refine lv_aload_n hx hb d_MM_part_66 rfl (lv_at hl 0 rfl) ?_
  refine o_get (v := .ref (ad 25)) C in_MM hP 0 mw_0 rfl 44 (by decide) k_8_34 rfl rfl d_MM_part_67 ?_
  obtain ⟨x5_70, ex5_70⟩ : ∃ y : Int32, y = x5 + (1:Int32) := ⟨_, rfl⟩
  replace h := o_nm_at ex5_70 h
  refine lv_iinc (v := x5_70) (lv' := [(5, .int x5_70), (0, .ref (ad 0)), (1, .int u6_x1), (3, .int u6_x3), (4, .int x4)]) hx hb d_MM_part_70 hl (k := 4) rfl (by rw [ex5_70]; rfl) (by decide) rfl (fun ls hl => ?_)
  refine lv_iload hx hb d_MM_part_73 (lv_at hl 0 rfl) ?_
  obtain ⟨g8, h⟩ := o_gd_some h
  refine o_iald (f := (MM_path Mm)) C hP 25 24 mw_25 rfl g8 d_MM_part_75 ?_
  refine lv_bipush (v := (48:Int32)) hx hb d_MM_part_76 (by decide) ?_
  refine lv_icmp_ne (tgt := 86) hx hb d_MM_part_78 (by decide) (fun c9 => ?_) (fun c9 => ?_)
  · replace h := o_ff c9 h
    refine lv_bipush (v := (47:Int32)) hx hb d_MM_part_86 (by decide) ?_
    refine lv_istore (lv' := [(6, .int (47:Int32)), (5, .int x5_70), (0, .ref (ad 0)), (1, .int u6_x1), (3, .int u6_x3), (4, .int x4)]) hx hb d_MM_part_88 hl (by decide) rfl (fun ls hl => ?_)
    exact f_MM_part_j90 hE hKy C hDD n u6_x1 u6_x3 u6_M0 u6_M1 u6_rt x4 x5_70 (47:Int32) Mm h h0 h1 _ _ _ hP hS (lv_sub hl [2, 3, 4, 5, 1, 0] rfl)
  · replace h := o_tt c9 h
    refine lv_bipush (v := (126:Int32)) hx hb d_MM_part_81 (by decide) ?_
    refine lv_goto (tgt := 88) hx hb d_MM_part_83 (by decide) ?_
    refine lv_istore (lv' := [(6, .int (126:Int32)), (5, .int x5_70), (0, .ref (ad 0)), (1, .int u6_x1), (3, .int u6_x3), (4, .int x4)]) hx hb d_MM_part_88 hl (by decide) rfl (fun ls hl => ?_)
    exact f_MM_part_j90 hE hKy C hDD n u6_x1 u6_x3 u6_M0 u6_M1 u6_rt x4 x5_70 (126:Int32) Mm h h0 h1 _ _ _ hP hS (lv_sub hl [2, 3, 4, 5, 1, 0] rfl)
set_option maxHeartbeats 4000000 in
set_option maxRecDepth 100000 in
theorem f_MM_part_b6 {E : (Nat → Prop) → State → Heap → Prop} {p : Program} {l : Launch} {e : Env} {s : State} {m : MethodId} {args : Array Value} {below : List Frame} {meth : Method} {c : Code} {D : va_G} {ad kd sd vd xd : Nat → Nat} {ca : Nat → ClassId} {A : Nat → Prop} {ky ty : Nat → Option Nat} {Q : State → Prop} (hE : o_EK E kd sd vd xd) (hKy : m_KY ky ty sd) (C : o_Cx E p s m args meth c D m_cls (m_tys ca) "SchemaJudgeModel" b_MM_part (some .int) 9 cc_MM_part A) (hDD : ∀ (rt : Nat) (Mm : SMM) (M0 : SMT) (M1 : SMT), va_D A (m_cw ad ca ky ty rt Mm M0 M1)) (n : Nat) (u6_x1 : Int32) (u6_x3 : Int32) (u6_M0 : SMT) (u6_M1 : SMT) (u6_rt : Nat) (z : Int32 × Int32 × SMM) (q : Nat × Int32 × Int32 × SMM) (h : m_MM_part_b6 n u6_x1 u6_x3 u6_M0 z = some q) (h0 : q.1 = 0 → o_At p l e rm_MM_part s m args below meth c Q m_cls D A 9 6 [] (m_cw ad ca ky ty u6_rt q.2.2.2 u6_M0 u6_M1) [(0, .ref (ad 0)), (1, .int u6_x1), (3, .int u6_x3), (4, .int q.2.1), (5, .int q.2.2.1)]) (h1 : q.1 ≠ 0 → (if q.1 = 1 then o_At p l e rm_MM_part s m args below meth c Q m_cls D A 9 64 [] (m_cw ad ca ky ty u6_rt q.2.2.2 u6_M0 u6_M1) [] else o_At p l e rm_MM_part s m args below meth c Q m_cls D A 9 108 [] (m_cw ad ca ky ty u6_rt q.2.2.2 u6_M0 u6_M1) [(0, .ref (ad 0)), (1, .int u6_x1), (4, .int q.2.1)])) : o_At p l e rm_MM_part s m args below meth c Q m_cls D A 9 6 [] (m_cw ad ca ky ty u6_rt z.2.2 u6_M0 u6_M1) [(0, .ref (ad 0)), (1, .int u6_x1), (3, .int u6_x3), (4, .int z.1), (5, .int z.2.1)] := by
  unfold m_MM_part_b6 at h
  intro H locs ls hP hS hl
  have C0 := C
  obtain ⟨hx, hb, -, -, -, hown, hts, hK, -, -⟩ := C0
  refine lv_iload hx hb d_MM_part_6 (lv_at hl 4 rfl) ?_
  refine lv_iload_n hx hb d_MM_part_8 rfl (lv_at hl 2 rfl) ?_
  refine lv_icmp_ge (tgt := 108) hx hb d_MM_part_9 (by decide) (fun c1 => ?_) (fun c1 => ?_)
  · replace h := o_tt c1 h
    cases h
    exact h1 (Nat.succ_ne_zero 1) _ _ _ hP hS (lv_sub hl [0, 1, 3] rfl)
  · replace h := o_ff c1 h
    refine lv_aload_n hx hb d_MM_part_12 rfl (lv_at hl 0 rfl) ?_
    refine o_get (v := .ref (ad 25)) C in_MM hP 0 mw_0 rfl 44 (by decide) k_8_34 rfl rfl d_MM_part_13 ?_
    refine lv_iload hx hb d_MM_part_16 (lv_at hl 4 rfl) ?_
    obtain ⟨g2, h⟩ := o_gd_some h
    refine o_iald (f := (MM_path z.2.2)) C hP 25 24 mw_25 rfl g2 d_MM_part_18 ?_
    refine lv_topi (fun x6_19 ex6_19 => ?_)
    replace h := o_nm_at ex6_19 h
    refine lv_istore (lv' := [(6, .int x6_19), (0, .ref (ad 0)), (1, .int u6_x1), (3, .int u6_x3), (4, .int z.1), (5, .int z.2.1)]) hx hb d_MM_part_19 hl (by decide) rfl (fun ls hl => ?_)
    refine lv_iload hx hb d_MM_part_21 (lv_at hl 0 rfl) ?_
    refine lv_bipush (v := (126:Int32)) hx hb d_MM_part_23 (by decide) ?_
    refine lv_icmp_ne (tgt := 90) hx hb d_MM_part_25 (by decide) (fun c3 => ?_) (fun c3 => ?_)
    · replace h := o_ff c3 h
      exact f_MM_part_j90 hE hKy C hDD n u6_x1 u6_x3 u6_M0 u6_M1 u6_rt z.1 z.2.1 x6_19 z.2.2 h h0 h1 _ _ _ hP hS (lv_sub hl [1, 2, 3, 4, 5, 0] rfl)
    · replace h := o_tt c3 h
      refine lv_iload hx hb d_MM_part_28 (lv_at hl 5 rfl) ?_
      refine lv_iconst (v := (1:Int32)) hx hb d_MM_part_30 (by decide) ?_
      refine lv_iadd hx hb d_MM_part_31 ?_
      refine lv_iload_n hx hb d_MM_part_32 rfl (lv_at hl 3 rfl) ?_
      refine lv_icmp_eq (tgt := 64) hx hb d_MM_part_33 (by decide) (fun c5 => ?_) (fun c5 => ?_)
      · replace h := o_tt c5 h
        cases h
        exact h1 (Nat.succ_ne_zero 0) _ _ _ hP hS (lv_sub hl [] rfl)
      · replace h := o_ff c5 h
        refine lv_aload_n hx hb d_MM_part_36 rfl (lv_at hl 1 rfl) ?_
        refine o_get (v := .ref (ad 25)) C in_MM hP 0 mw_0 rfl 44 (by decide) k_8_34 rfl rfl d_MM_part_37 ?_
        refine lv_iload hx hb d_MM_part_40 (lv_at hl 5 rfl) ?_
        refine lv_iconst (v := (1:Int32)) hx hb d_MM_part_42 (by decide) ?_
        refine lv_iadd hx hb d_MM_part_43 ?_
        obtain ⟨g6, h⟩ := o_gd_some h
        refine o_iald (f := (MM_path z.2.2)) C hP 25 24 mw_25 rfl g6 d_MM_part_44 ?_
        refine lv_bipush (v := (48:Int32)) hx hb d_MM_part_45 (by decide) ?_
        refine lv_icmp_eq (tgt := 66) hx hb d_MM_part_47 (by decide) (fun c7 => ?_) (fun c7 => ?_)
        · replace h := o_tt c7 h
          exact f_MM_part_j66 hE hKy C hDD n u6_x1 u6_x3 u6_M0 u6_M1 u6_rt z.1 z.2.1 z.2.2 h h0 h1 _ _ _ hP hS (lv_sub hl [1, 2, 3, 4, 5] rfl)
        · replace h := o_ff c7 h
          refine lv_aload_n hx hb d_MM_part_50 rfl (lv_at hl 1 rfl) ?_
          refine o_get (v := .ref (ad 25)) C in_MM hP 0 mw_0 rfl 44 (by decide) k_8_34 rfl rfl d_MM_part_51 ?_
          refine lv_iload hx hb d_MM_part_54 (lv_at hl 5 rfl) ?_
          refine lv_iconst (v := (1:Int32)) hx hb d_MM_part_56 (by decide) ?_
          refine lv_iadd hx hb d_MM_part_57 ?_
          obtain ⟨g10, h⟩ := o_gd_some h
          refine o_iald (f := (MM_path z.2.2)) C hP 25 24 mw_25 rfl g10 d_MM_part_58 ?_
          refine lv_bipush (v := (49:Int32)) hx hb d_MM_part_59 (by decide) ?_
          refine lv_icmp_eq (tgt := 66) hx hb d_MM_part_61 (by decide) (fun c11 => ?_) (fun c11 => ?_)
          · replace h := o_tt c11 h
            exact f_MM_part_j66 hE hKy C hDD n u6_x1 u6_x3 u6_M0 u6_M1 u6_rt z.1 z.2.1 z.2.2 h h0 h1 _ _ _ hP hS (lv_sub hl [1, 2, 3, 4, 5] rfl)
          · replace h := o_ff c11 h
            cases h
            exact h1 (Nat.succ_ne_zero 0) _ _ _ hP hS (lv_sub hl [] rfl)
set_option maxHeartbeats 4000000 in
set_option maxRecDepth 100000 in
theorem f_MM_part_b305 {E : (Nat → Prop) → State → Heap → Prop} {p : Program} {l : Launch} {e : Env} {s : State} {m : MethodId} {args : Array Value} {below : List Frame} {meth : Method} {c : Code} {D : va_G} {ad kd sd vd xd : Nat → Nat} {ca : Nat → ClassId} {A : Nat → Prop} {ky ty : Nat → Option Nat} {Q : State → Prop} (hE : o_EK E kd sd vd xd) (hKy : m_KY ky ty sd) (C : o_Cx E p s m args meth c D m_cls (m_tys ca) "SchemaJudgeModel" b_MM_part (some .int) 9 cc_MM_part A) (hDD : ∀ (rt : Nat) (Mm : SMM) (M0 : SMT) (M1 : SMT), va_D A (m_cw ad ca ky ty rt Mm M0 M1)) (n : Nat) (u305_x1 : Int32) (u305_x4 : Int32) (u305_M0 : SMT) (u305_Mm : SMM) (u305_M1 : SMT) (u305_rt : Nat) (z : Int32 × Int32) (q : Nat × Int32 × Int32) (h : m_MM_part_b305 n u305_x1 u305_x4 u305_M0 u305_Mm z = some q) (h0 : q.1 = 0 → o_At p l e rm_MM_part s m args below meth c Q m_cls D A 9 305 [] (m_cw ad ca ky ty u305_rt u305_Mm u305_M0 u305_M1) [(0, .ref (ad 0)), (1, .int u305_x1), (4, .int u305_x4), (5, .int q.2.1), (6, .int q.2.2)]) (h1 : q.1 ≠ 0 → (if q.1 = 1 then o_At p l e rm_MM_part s m args below meth c Q m_cls D A 9 329 [] (m_cw ad ca ky ty u305_rt u305_Mm u305_M0 u305_M1) [] else o_At p l e rm_MM_part s m args below meth c Q m_cls D A 9 355 [] (m_cw ad ca ky ty u305_rt u305_Mm u305_M0 u305_M1) [(0, .ref (ad 0)), (1, .int u305_x1), (5, .int q.2.1)])) : o_At p l e rm_MM_part s m args below meth c Q m_cls D A 9 305 [] (m_cw ad ca ky ty u305_rt u305_Mm u305_M0 u305_M1) [(0, .ref (ad 0)), (1, .int u305_x1), (4, .int u305_x4), (5, .int z.1), (6, .int z.2)] := by
  unfold m_MM_part_b305 at h
  intro H locs ls hP hS hl
  have C0 := C
  obtain ⟨hx, hb, -, -, -, hown, hts, hK, -, -⟩ := C0
  refine lv_iload hx hb d_MM_part_305 (lv_at hl 4 rfl) ?_
  refine lv_iload hx hb d_MM_part_307 (lv_at hl 2 rfl) ?_
  refine lv_icmp_ge (tgt := 355) hx hb d_MM_part_309 (by decide) (fun c19 => ?_) (fun c19 => ?_)
  · replace h := o_tt c19 h
    cases h
    exact h1 (Nat.succ_ne_zero 1) _ _ _ hP hS (lv_sub hl [0, 1, 3] rfl)
  · replace h := o_ff c19 h
    refine lv_aload_n hx hb d_MM_part_312 rfl (lv_at hl 0 rfl) ?_
    refine o_get (v := .ref (ad 30)) C in_MM hP 0 mw_0 rfl 50 (by decide) k_8_40 rfl rfl d_MM_part_313 ?_
    refine lv_iload hx hb d_MM_part_316 (lv_at hl 4 rfl) ?_
    obtain ⟨g20, h⟩ := o_gd_some h
    refine o_iald (f := (MM_partRow u305_Mm)) C hP 30 29 mw_30 rfl g20 d_MM_part_318 ?_
    refine lv_bipush (v := (48:Int32)) hx hb d_MM_part_319 (by decide) ?_
    refine lv_bipush (v := (57:Int32)) hx hb d_MM_part_321 (by decide) ?_
    obtain ⟨q2, hq2, h⟩ := o_bd_some h
    refine o_S (st1 := [.int q2]) (w1 := (m_cw ad ca ky ty u305_rt u305_Mm u305_M0 u305_M1)) hE.1 C (e_MM_in hE hKy l ((MM_partRow u305_Mm) z.2.toNatClampNeg) (48:Int32) (57:Int32) u305_Mm u305_M0 u305_M1 u305_rt hq2) hP (hDD _ _ _ _) hS hl.1 k_9_41 k_8_201 k_1_12 k_8_202 hs_MM_in rfl rfl ⟨(Nat.le_of_ble_eq_true rfl), (Nat.le_of_ble_eq_true rfl)⟩ rfl (Nat.le_of_ble_eq_true rfl) ⟨Nat.zero_le _, Nat.zero_le _⟩ rfl d_MM_part_323 (fun H locs hP hS => ?_)
    refine lv_if_ne (tgt := 331) hx hb d_MM_part_326 (by decide) (fun c21 => ?_) (fun c21 => ?_)
    · replace h := o_ff c21 h
      refine lv_bipush (v := (10:Int32)) hx hb d_MM_part_331 (by decide) ?_
      refine lv_iload hx hb d_MM_part_333 (lv_at hl 3 rfl) ?_
      refine lv_imul hx hb d_MM_part_335 ?_
      refine lv_aload_n hx hb d_MM_part_336 rfl (lv_at hl 0 rfl) ?_
      refine o_get (v := .ref (ad 30)) C in_MM hP 0 mw_0 rfl 50 (by decide) k_8_40 rfl rfl d_MM_part_337 ?_
      refine lv_iload hx hb d_MM_part_340 (lv_at hl 4 rfl) ?_
      obtain ⟨g22, h⟩ := o_gd_some h
      refine o_iald (f := (MM_partRow u305_Mm)) C hP 30 29 mw_30 rfl g22 d_MM_part_342 ?_
      refine lv_iadd hx hb d_MM_part_343 ?_
      refine lv_bipush (v := (48:Int32)) hx hb d_MM_part_344 (by decide) ?_
      refine lv_isub hx hb d_MM_part_346 ?_
      refine lv_topi (fun x5_347 ex5_347 => ?_)
      replace h := o_nm_at ex5_347 h
      refine lv_istore (lv' := [(5, .int x5_347), (0, .ref (ad 0)), (1, .int u305_x1), (4, .int u305_x4), (6, .int z.2)]) hx hb d_MM_part_347 hl (by decide) rfl (fun ls hl => ?_)
      obtain ⟨x6_349, ex6_349⟩ : ∃ y : Int32, y = z.2 + (1:Int32) := ⟨_, rfl⟩
      replace h := o_nm_at ex6_349 h
      refine lv_iinc (v := x6_349) (lv' := [(6, .int x6_349), (5, .int x5_347), (0, .ref (ad 0)), (1, .int u305_x1), (4, .int u305_x4)]) hx hb d_MM_part_349 hl (k := 4) rfl (by rw [ex6_349]; rfl) (by decide) rfl (fun ls hl => ?_)
      refine lv_goto (tgt := 305) hx hb d_MM_part_352 (by decide) ?_
      cases h
      exact h0 rfl _ _ _ hP hS (lv_sub hl [2, 3, 4, 1, 0] rfl)
    · replace h := o_tt c21 h
      cases h
      exact h1 (Nat.succ_ne_zero 0) _ _ _ hP hS (lv_sub hl [] rfl)
set_option maxHeartbeats 4000000 in
set_option maxRecDepth 100000 in
theorem f_MM_part_b366 {E : (Nat → Prop) → State → Heap → Prop} {p : Program} {l : Launch} {e : Env} {s : State} {m : MethodId} {args : Array Value} {below : List Frame} {meth : Method} {c : Code} {D : va_G} {ad kd sd vd xd : Nat → Nat} {ca : Nat → ClassId} {A : Nat → Prop} {ky ty : Nat → Option Nat} {Q : State → Prop} (hE : o_EK E kd sd vd xd) (hKy : m_KY ky ty sd) (C : o_Cx E p s m args meth c D m_cls (m_tys ca) "SchemaJudgeModel" b_MM_part (some .int) 9 cc_MM_part A) (hDD : ∀ (rt : Nat) (Mm : SMM) (M0 : SMT) (M1 : SMT), va_D A (m_cw ad ca ky ty rt Mm M0 M1)) (n : Nat) (u366_M0 : SMT) (u366_Mm : SMM) (u366_M1 : SMT) (u366_rt : Nat) (z : Int32 × Int32) (q : Nat × Int32 × Int32) (h : m_MM_part_b366 n u366_M0 u366_Mm z = some q) (h0 : q.1 = 0 → o_At p l e rm_MM_part s m args below meth c Q m_cls D A 9 366 [] (m_cw ad ca ky ty u366_rt u366_Mm u366_M0 u366_M1) [(0, .ref (ad 0)), (5, .int q.2.1), (6, .int q.2.2)]) (h1 : q.1 ≠ 0 → (o_At p l e rm_MM_part s m args below meth c Q m_cls D A 9 394 [] (m_cw ad ca ky ty u366_rt u366_Mm u366_M0 u366_M1) [(6, .int q.2.2)])) : o_At p l e rm_MM_part s m args below meth c Q m_cls D A 9 366 [] (m_cw ad ca ky ty u366_rt u366_Mm u366_M0 u366_M1) [(0, .ref (ad 0)), (5, .int z.1), (6, .int z.2)] := by
  unfold m_MM_part_b366 at h
  intro H locs ls hP hS hl
  have C0 := C
  obtain ⟨hx, hb, -, -, -, hown, hts, hK, -, -⟩ := C0
  refine lv_iload hx hb d_MM_part_366 (lv_at hl 2 rfl) ?_
  refine lv_if_lt (tgt := 394) hx hb d_MM_part_368 (by decide) (fun c24 => ?_) (fun c24 => ?_)
  · replace h := o_tt c24 h
    cases h
    exact h1 (Nat.succ_ne_zero 0) _ _ _ hP hS (lv_sub hl [2] rfl)
  · replace h := o_ff c24 h
    refine lv_iload hx hb d_MM_part_371 (lv_at hl 1 rfl) ?_
    refine lv_if_le (tgt := 394) hx hb d_MM_part_373 (by decide) (fun c25 => ?_) (fun c25 => ?_)
    · replace h := o_tt c25 h
      cases h
      exact h1 (Nat.succ_ne_zero 0) _ _ _ hP hS (lv_sub hl [2] rfl)
    · replace h := o_ff c25 h
      refine lv_aload_n hx hb d_MM_part_376 rfl (lv_at hl 0 rfl) ?_
      refine o_get (v := .ref (ad 33)) C in_MM hP 0 mw_0 rfl 4 (by decide) k_7_234 rfl rfl d_MM_part_377 ?_
      refine o_get (v := .ref (ad 41)) C in_MT hP 33 mw_33 rfl 7 (by decide) k_7_115 rfl rfl d_MM_part_380 ?_
      refine lv_iload hx hb d_MM_part_383 (lv_at hl 2 rfl) ?_
      obtain ⟨g26, h⟩ := o_gd_some h
      refine o_iald (f := (MT_next u366_M0)) C hP 41 39 mw_41 rfl g26 d_MM_part_385 ?_
      refine lv_topi (fun x6_386 ex6_386 => ?_)
      replace h := o_nm_at ex6_386 h
      refine lv_istore (lv' := [(6, .int x6_386), (0, .ref (ad 0)), (5, .int z.1)]) hx hb d_MM_part_386 hl (by decide) rfl (fun ls hl => ?_)
      obtain ⟨x5_388, ex5_388⟩ : ∃ y : Int32, y = z.1 + (-1:Int32) := ⟨_, rfl⟩
      replace h := o_nm_at ex5_388 h
      refine lv_iinc (v := x5_388) (lv' := [(5, .int x5_388), (6, .int x6_386), (0, .ref (ad 0))]) hx hb d_MM_part_388 hl (k := 2) rfl (by rw [ex5_388]; rfl) (by decide) rfl (fun ls hl => ?_)
      refine lv_goto (tgt := 366) hx hb d_MM_part_391 (by decide) ?_
      cases h
      exact h0 rfl _ _ _ hP hS (lv_sub hl [2, 0, 1] rfl)
set_option maxHeartbeats 4000000 in
set_option maxRecDepth 100000 in
theorem f_MM_part_j291 {E : (Nat → Prop) → State → Heap → Prop} {p : Program} {l : Launch} {e : Env} {s : State} {m : MethodId} {args : Array Value} {below : List Frame} {meth : Method} {c : Code} {D : va_G} {ad kd sd vd xd : Nat → Nat} {ca : Nat → ClassId} {A : Nat → Prop} {ky ty : Nat → Option Nat} (hE : o_EK E kd sd vd xd) (hKy : m_KY ky ty sd) (C : o_Cx E p s m args meth c D m_cls (m_tys ca) "SchemaJudgeModel" b_MM_part (some .int) 9 cc_MM_part A) (hDD : ∀ (rt : Nat) (Mm : SMM) (M0 : SMT) (M1 : SMT), va_D A (m_cw ad ca ky ty rt Mm M0 M1)) (n : Nat) (x1 : Int32) (x4 : Int32) (M0 : SMT) (Mm : SMM) (M1 : SMT) (rt : Nat) {r : Int32 × SMM} (h : m_MM_part_j291 n x1 x4 M0 Mm = some r) : o_At p l e rm_MM_part s m args below meth c (MQ below (o_Qx D m_cls (some (.int r.1)) (m_cw ad ca ky ty rt r.2 M0 M1) A) args s 0 0 A) m_cls D A 9 291 [] (m_cw ad ca ky ty rt Mm M0 M1) [(0, .ref (ad 0)), (1, .int x1), (4, .int x4)] := by
  unfold m_MM_part_j291 at h
  intro H locs ls hP hS hl
  have C0 := C
  obtain ⟨hx, hb, -, -, -, hown, hts, hK, -, -⟩ := C0
  refine lv_iload hx hb d_MM_part_291 (lv_at hl 2 rfl) ?_
  refine lv_iconst (v := (3:Int32)) hx hb d_MM_part_293 (by decide) ?_
  refine lv_icmp_le (tgt := 299) hx hb d_MM_part_294 (by decide) (fun c18 => ?_) (fun c18 => ?_)
  · replace h := o_tt c18 h
    refine lv_iconst (v := (0:Int32)) hx hb d_MM_part_299 (by decide) ?_
    refine lv_istore (lv' := [(5, .int (0:Int32)), (0, .ref (ad 0)), (1, .int x1), (4, .int x4)]) hx hb d_MM_part_300 hl (by decide) rfl (fun ls hl => ?_)
    refine lv_iconst (v := (0:Int32)) hx hb d_MM_part_302 (by decide) ?_
    refine lv_istore (lv' := [(6, .int (0:Int32)), (5, .int (0:Int32)), (0, .ref (ad 0)), (1, .int x1), (4, .int x4)]) hx hb d_MM_part_303 hl (by decide) rfl (fun ls hl => ?_)
    obtain ⟨q3, hq3, h⟩ := o_bd_some h
    refine o_sim2 (AH := fun zz => o_At p l e rm_MM_part s m args below meth c _ m_cls D A 9 305 [] (m_cw ad ca ky ty rt Mm M0 M1) [(0, .ref (ad 0)), (1, .int x1), (4, .int x4), (5, .int zz.1), (6, .int zz.2)]) (AX := fun qq => if qq.1 = 1 then o_At p l e rm_MM_part s m args below meth c _ m_cls D A 9 329 [] (m_cw ad ca ky ty rt Mm M0 M1) [] else o_At p l e rm_MM_part s m args below meth c _ m_cls D A 9 355 [] (m_cw ad ca ky ty rt Mm M0 M1) [(0, .ref (ad 0)), (1, .int x1), (5, .int qq.2.1)]) (fun zz qq h h0 h1 => f_MM_part_b305 hE hKy C hDD n x1 x4 M0 Mm M1 rt zz qq h h0 h1) n _ q3 hq3 ?_ _ _ _ hP hS (lv_sub hl [2, 3, 4, 1, 0] rfl)
    by_cases c27 : q3.1 = 1
    · replace h := o_tt c27 h
      refine o_ip c27 ?_
      intro H locs ls hP hS hl
      refine lv_iconst (v := (-1:Int32)) hx hb d_MM_part_329 (by decide) ?_
      cases h
      exact o_ri (v := (-1:Int32)) C hP hS d_MM_part_330
    replace h := o_ff c27 h
    refine o_in_ c27 ?_
    intro H locs ls hP hS hl
    refine lv_aload_n hx hb d_MM_part_355 rfl (lv_at hl 0 rfl) ?_
    refine o_get (v := .ref (ad 33)) C in_MM hP 0 mw_0 rfl 4 (by decide) k_7_234 rfl rfl d_MM_part_356 ?_
    refine o_get (v := .ref (ad 40)) C in_MT hP 33 mw_33 rfl 6 (by decide) k_7_113 rfl rfl d_MM_part_359 ?_
    refine lv_iload_n hx hb d_MM_part_362 rfl (lv_at hl 1 rfl) ?_
    obtain ⟨g23, h⟩ := o_gd_some h
    refine o_iald (f := (MT_first M0)) C hP 40 38 mw_40 rfl g23 d_MM_part_363 ?_
    refine lv_topi (fun x6_364 ex6_364 => ?_)
    replace h := o_nm_at ex6_364 h
    refine lv_istore (lv' := [(6, .int x6_364), (0, .ref (ad 0)), (1, .int x1), (5, .int q3.2.1)]) hx hb d_MM_part_364 hl (by decide) rfl (fun ls hl => ?_)
    obtain ⟨q4, hq4, h⟩ := o_bd_some h
    refine o_sim2 (AH := fun zz => o_At p l e rm_MM_part s m args below meth c _ m_cls D A 9 366 [] (m_cw ad ca ky ty rt Mm M0 M1) [(0, .ref (ad 0)), (5, .int zz.1), (6, .int zz.2)]) (AX := fun qq => o_At p l e rm_MM_part s m args below meth c _ m_cls D A 9 394 [] (m_cw ad ca ky ty rt Mm M0 M1) [(6, .int qq.2.2)]) (fun zz qq h h0 h1 => f_MM_part_b366 hE hKy C hDD n M0 Mm M1 rt zz qq h h0 h1) n _ q4 hq4 ?_ _ _ _ hP hS (lv_sub hl [1, 3, 0] rfl)
    intro H locs ls hP hS hl
    refine lv_iload hx hb d_MM_part_394 (lv_at hl 0 rfl) ?_
    cases h
    exact o_ri C hP hS d_MM_part_396
  · replace h := o_ff c18 h
    refine lv_iconst (v := (-1:Int32)) hx hb d_MM_part_297 (by decide) ?_
    cases h
    exact o_ri (v := (-1:Int32)) C hP hS d_MM_part_298
set_option maxHeartbeats 4000000 in
set_option maxRecDepth 100000 in
theorem f_MM_part_b175 {E : (Nat → Prop) → State → Heap → Prop} {p : Program} {l : Launch} {e : Env} {s : State} {m : MethodId} {args : Array Value} {below : List Frame} {meth : Method} {c : Code} {D : va_G} {ad kd sd vd xd : Nat → Nat} {ca : Nat → ClassId} {A : Nat → Prop} {ky ty : Nat → Option Nat} {Q : State → Prop} (hE : o_EK E kd sd vd xd) (hKy : m_KY ky ty sd) (C : o_Cx E p s m args meth c D m_cls (m_tys ca) "SchemaJudgeModel" b_MM_part (some .int) 9 cc_MM_part A) (hDD : ∀ (rt : Nat) (Mm : SMM) (M0 : SMT) (M1 : SMT), va_D A (m_cw ad ca ky ty rt Mm M0 M1)) (n : Nat) (u175_x4 : Int32) (u175_x5 : Int32) (u175_x6 : Int32) (u175_M0 : SMT) (u175_Mm : SMM) (u175_M1 : SMT) (u175_rt : Nat) (z : Int32 × Int32) (q : Nat × Int32 × Int32) (h : m_MM_part_b175 n u175_x4 u175_x5 u175_x6 u175_M0 u175_Mm z = some q) (h0 : q.1 = 0 → o_At p l e rm_MM_part s m args below meth c Q m_cls D A 9 175 [] (m_cw ad ca ky ty u175_rt u175_Mm u175_M0 u175_M1) [(0, .ref (ad 0)), (4, .int u175_x4), (5, .int u175_x5), (6, .int u175_x6), (7, .int q.2.1), (8, .int q.2.2)]) (h1 : q.1 ≠ 0 → (o_At p l e rm_MM_part s m args below meth c Q m_cls D A 9 231 [] (m_cw ad ca ky ty u175_rt u175_Mm u175_M0 u175_M1) [(0, .ref (ad 0)), (4, .int u175_x4), (5, .int u175_x5), (7, .int q.2.1)])) : o_At p l e rm_MM_part s m args below meth c Q m_cls D A 9 175 [] (m_cw ad ca ky ty u175_rt u175_Mm u175_M0 u175_M1) [(0, .ref (ad 0)), (4, .int u175_x4), (5, .int u175_x5), (6, .int u175_x6), (7, .int z.1), (8, .int z.2)] := by
  unfold m_MM_part_b175 at h
  intro H locs ls hP hS hl
  have C0 := C
  obtain ⟨hx, hb, -, -, -, hown, hts, hK, -, -⟩ := C0
  refine lv_iload hx hb d_MM_part_175 (lv_at hl 4 rfl) ?_
  refine lv_if_eq (tgt := 231) hx hb d_MM_part_177 (by decide) (fun c35 => ?_) (fun c35 => ?_)
  · replace h := o_tt c35 h
    cases h
    exact h1 (Nat.succ_ne_zero 0) _ _ _ hP hS (lv_sub hl [0, 1, 2, 4] rfl)
  · replace h := o_ff c35 h
    refine lv_iload hx hb d_MM_part_180 (lv_at hl 5 rfl) ?_
    refine lv_iload hx hb d_MM_part_182 (lv_at hl 1 rfl) ?_
    refine lv_icmp_ge (tgt := 231) hx hb d_MM_part_184 (by decide) (fun c36 => ?_) (fun c36 => ?_)
    · replace h := o_tt c36 h
      cases h
      exact h1 (Nat.succ_ne_zero 0) _ _ _ hP hS (lv_sub hl [0, 1, 2, 4] rfl)
    · replace h := o_ff c36 h
      refine lv_aload_n hx hb d_MM_part_187 rfl (lv_at hl 0 rfl) ?_
      refine o_get (v := .ref (ad 33)) C in_MM hP 0 mw_0 rfl 4 (by decide) k_7_234 rfl rfl d_MM_part_188 ?_
      refine o_get (v := .ref (ad 44)) C in_MT hP 33 mw_33 rfl 10 (by decide) k_7_121 rfl rfl d_MM_part_191 ?_
      refine lv_aload_n hx hb d_MM_part_194 rfl (lv_at hl 0 rfl) ?_
      refine o_get (v := .ref (ad 33)) C in_MM hP 0 mw_0 rfl 4 (by decide) k_7_234 rfl rfl d_MM_part_195 ?_
      refine o_get (v := .ref (ad 43)) C in_MT hP 33 mw_33 rfl 9 (by decide) k_7_119 rfl rfl d_MM_part_198 ?_
      refine lv_iload hx hb d_MM_part_201 (lv_at hl 3 rfl) ?_
      obtain ⟨g37, h⟩ := o_gd_some h
      refine o_iald (f := (MT_from u175_M0)) C hP 43 41 mw_43 rfl g37 d_MM_part_203 ?_
      refine lv_iload hx hb d_MM_part_204 (lv_at hl 5 rfl) ?_
      refine lv_iadd hx hb d_MM_part_206 ?_
      obtain ⟨g38, h⟩ := o_gd_some h
      refine o_iald (f := (MT_characters u175_M0)) C hP 44 42 mw_44 rfl g38 d_MM_part_207 ?_
      refine lv_aload_n hx hb d_MM_part_208 rfl (lv_at hl 0 rfl) ?_
      refine o_get (v := .ref (ad 30)) C in_MM hP 0 mw_0 rfl 50 (by decide) k_8_40 rfl rfl d_MM_part_209 ?_
      refine lv_iload hx hb d_MM_part_212 (lv_at hl 5 rfl) ?_
      obtain ⟨g39, h⟩ := o_gd_some h
      refine o_iald (f := (MM_partRow u175_Mm)) C hP 30 29 mw_30 rfl g39 d_MM_part_214 ?_
      refine lv_icmp_ne (tgt := 222) hx hb d_MM_part_215 (by decide) (fun c40 => ?_) (fun c40 => ?_)
      · replace h := o_ff c40 h
        refine lv_iconst (v := (0:Int32)) hx hb d_MM_part_222 (by decide) ?_
        refine lv_istore (lv' := [(7, .int (0:Int32)), (0, .ref (ad 0)), (4, .int u175_x4), (5, .int u175_x5), (6, .int u175_x6), (8, .int z.2)]) hx hb d_MM_part_223 hl (by decide) rfl (fun ls hl => ?_)
        obtain ⟨x8_225, ex8_225⟩ : ∃ y : Int32, y = z.2 + (1:Int32) := ⟨_, rfl⟩
        replace h := o_nm_at ex8_225 h
        refine lv_iinc (v := x8_225) (lv' := [(8, .int x8_225), (7, .int (0:Int32)), (0, .ref (ad 0)), (4, .int u175_x4), (5, .int u175_x5), (6, .int u175_x6)]) hx hb d_MM_part_225 hl (k := 5) rfl (by rw [ex8_225]; rfl) (by decide) rfl (fun ls hl => ?_)
        refine lv_goto (tgt := 175) hx hb d_MM_part_228 (by decide) ?_
        cases h
        exact h0 rfl _ _ _ hP hS (lv_sub hl [2, 3, 4, 5, 1, 0] rfl)
      · replace h := o_tt c40 h
        refine lv_iconst (v := (1:Int32)) hx hb d_MM_part_218 (by decide) ?_
        refine lv_goto (tgt := 223) hx hb d_MM_part_219 (by decide) ?_
        refine lv_istore (lv' := [(7, .int (1:Int32)), (0, .ref (ad 0)), (4, .int u175_x4), (5, .int u175_x5), (6, .int u175_x6), (8, .int z.2)]) hx hb d_MM_part_223 hl (by decide) rfl (fun ls hl => ?_)
        obtain ⟨x8_225, ex8_225⟩ : ∃ y : Int32, y = z.2 + (1:Int32) := ⟨_, rfl⟩
        replace h := o_nm_at ex8_225 h
        refine lv_iinc (v := x8_225) (lv' := [(8, .int x8_225), (7, .int (1:Int32)), (0, .ref (ad 0)), (4, .int u175_x4), (5, .int u175_x5), (6, .int u175_x6)]) hx hb d_MM_part_225 hl (k := 5) rfl (by rw [ex8_225]; rfl) (by decide) rfl (fun ls hl => ?_)
        refine lv_goto (tgt := 175) hx hb d_MM_part_228 (by decide) ?_
        cases h
        exact h0 rfl _ _ _ hP hS (lv_sub hl [2, 3, 4, 5, 1, 0] rfl)
set_option maxHeartbeats 4000000 in
set_option maxRecDepth 100000 in
theorem f_MM_part_j231 {E : (Nat → Prop) → State → Heap → Prop} {p : Program} {l : Launch} {e : Env} {s : State} {m : MethodId} {args : Array Value} {below : List Frame} {meth : Method} {c : Code} {D : va_G} {ad kd sd vd xd : Nat → Nat} {ca : Nat → ClassId} {A : Nat → Prop} {ky ty : Nat → Option Nat} {Q : State → Prop} (hE : o_EK E kd sd vd xd) (hKy : m_KY ky ty sd) (C : o_Cx E p s m args meth c D m_cls (m_tys ca) "SchemaJudgeModel" b_MM_part (some .int) 9 cc_MM_part A) (hDD : ∀ (rt : Nat) (Mm : SMM) (M0 : SMT) (M1 : SMT), va_D A (m_cw ad ca ky ty rt Mm M0 M1)) (n : Nat) (u133_x4 : Int32) (u133_M0 : SMT) (u133_Mm : SMM) (u133_M1 : SMT) (u133_rt : Nat) (x5 : Int32) (x7 : Int32) {q : Nat × Int32} (h : m_MM_part_j231 n u133_x4 x5 x7 u133_M0 u133_Mm = some q) (h0 : q.1 = 0 → o_At p l e rm_MM_part s m args below meth c Q m_cls D A 9 133 [] (m_cw ad ca ky ty u133_rt u133_Mm u133_M0 u133_M1) [(0, .ref (ad 0)), (4, .int u133_x4), (5, .int q.2)]) (h1 : q.1 ≠ 0 → (if q.1 = 1 then o_At p l e rm_MM_part s m args below meth c Q m_cls D A 9 236 [] (m_cw ad ca ky ty u133_rt u133_Mm u133_M0 u133_M1) [(5, .int q.2)] else o_At p l e rm_MM_part s m args below meth c Q m_cls D A 9 254 [] (m_cw ad ca ky ty u133_rt u133_Mm u133_M0 u133_M1) [])) : o_At p l e rm_MM_part s m args below meth c Q m_cls D A 9 231 [] (m_cw ad ca ky ty u133_rt u133_Mm u133_M0 u133_M1) [(0, .ref (ad 0)), (4, .int u133_x4), (5, .int x5), (7, .int x7)] := by
  unfold m_MM_part_j231 at h
  intro H locs ls hP hS hl
  have C0 := C
  obtain ⟨hx, hb, -, -, -, hown, hts, hK, -, -⟩ := C0
  refine lv_iload hx hb d_MM_part_231 (lv_at hl 3 rfl) ?_
  refine lv_if_eq (tgt := 239) hx hb d_MM_part_233 (by decide) (fun c41 => ?_) (fun c41 => ?_)
  · replace h := o_tt c41 h
    refine lv_aload_n hx hb d_MM_part_239 rfl (lv_at hl 0 rfl) ?_
    refine o_get (v := .ref (ad 33)) C in_MM hP 0 mw_0 rfl 4 (by decide) k_7_234 rfl rfl d_MM_part_240 ?_
    refine o_get (v := .ref (ad 41)) C in_MT hP 33 mw_33 rfl 7 (by decide) k_7_115 rfl rfl d_MM_part_243 ?_
    refine lv_iload hx hb d_MM_part_246 (lv_at hl 2 rfl) ?_
    obtain ⟨g42, h⟩ := o_gd_some h
    refine o_iald (f := (MT_next u133_M0)) C hP 41 39 mw_41 rfl g42 d_MM_part_248 ?_
    refine lv_topi (fun x5_249 ex5_249 => ?_)
    replace h := o_nm_at ex5_249 h
    refine lv_istore (lv' := [(5, .int x5_249), (0, .ref (ad 0)), (4, .int u133_x4), (7, .int x7)]) hx hb d_MM_part_249 hl (by decide) rfl (fun ls hl => ?_)
    refine lv_goto (tgt := 133) hx hb d_MM_part_251 (by decide) ?_
    cases h
    exact h0 rfl _ _ _ hP hS (lv_sub hl [1, 2, 0] rfl)
  · replace h := o_ff c41 h
    cases h
    exact h1 (Nat.succ_ne_zero 0) _ _ _ hP hS (lv_sub hl [2] rfl)
set_option maxHeartbeats 4000000 in
set_option maxRecDepth 100000 in
theorem f_MM_part_b133 {E : (Nat → Prop) → State → Heap → Prop} {p : Program} {l : Launch} {e : Env} {s : State} {m : MethodId} {args : Array Value} {below : List Frame} {meth : Method} {c : Code} {D : va_G} {ad kd sd vd xd : Nat → Nat} {ca : Nat → ClassId} {A : Nat → Prop} {ky ty : Nat → Option Nat} {Q : State → Prop} (hE : o_EK E kd sd vd xd) (hKy : m_KY ky ty sd) (C : o_Cx E p s m args meth c D m_cls (m_tys ca) "SchemaJudgeModel" b_MM_part (some .int) 9 cc_MM_part A) (hDD : ∀ (rt : Nat) (Mm : SMM) (M0 : SMT) (M1 : SMT), va_D A (m_cw ad ca ky ty rt Mm M0 M1)) (n : Nat) (u133_x4 : Int32) (u133_M0 : SMT) (u133_Mm : SMM) (u133_M1 : SMT) (u133_rt : Nat) (z : Int32) (q : Nat × Int32) (h : m_MM_part_b133 n u133_x4 u133_M0 u133_Mm z = some q) (h0 : q.1 = 0 → o_At p l e rm_MM_part s m args below meth c Q m_cls D A 9 133 [] (m_cw ad ca ky ty u133_rt u133_Mm u133_M0 u133_M1) [(0, .ref (ad 0)), (4, .int u133_x4), (5, .int q.2)]) (h1 : q.1 ≠ 0 → (if q.1 = 1 then o_At p l e rm_MM_part s m args below meth c Q m_cls D A 9 236 [] (m_cw ad ca ky ty u133_rt u133_Mm u133_M0 u133_M1) [(5, .int q.2)] else o_At p l e rm_MM_part s m args below meth c Q m_cls D A 9 254 [] (m_cw ad ca ky ty u133_rt u133_Mm u133_M0 u133_M1) [])) : o_At p l e rm_MM_part s m args below meth c Q m_cls D A 9 133 [] (m_cw ad ca ky ty u133_rt u133_Mm u133_M0 u133_M1) [(0, .ref (ad 0)), (4, .int u133_x4), (5, .int z)] := by
  unfold m_MM_part_b133 at h
  intro H locs ls hP hS hl
  have C0 := C
  obtain ⟨hx, hb, -, -, -, hown, hts, hK, -, -⟩ := C0
  refine lv_iload hx hb d_MM_part_133 (lv_at hl 2 rfl) ?_
  refine lv_if_lt (tgt := 254) hx hb d_MM_part_135 (by decide) (fun c31 => ?_) (fun c31 => ?_)
  · replace h := o_tt c31 h
    cases h
    exact h1 (Nat.succ_ne_zero 1) _ _ _ hP hS (lv_sub hl [] rfl)
  · replace h := o_ff c31 h
    refine lv_aload_n hx hb d_MM_part_138 rfl (lv_at hl 0 rfl) ?_
    refine o_get (v := .ref (ad 33)) C in_MM hP 0 mw_0 rfl 4 (by decide) k_7_234 rfl rfl d_MM_part_139 ?_
    refine o_get (v := .ref (ad 42)) C in_MT hP 33 mw_33 rfl 8 (by decide) k_7_117 rfl rfl d_MM_part_142 ?_
    refine lv_iload hx hb d_MM_part_145 (lv_at hl 2 rfl) ?_
    obtain ⟨g32, h⟩ := o_gd_some h
    refine o_iald (f := (MT_name u133_M0)) C hP 42 40 mw_42 rfl g32 d_MM_part_147 ?_
    refine lv_topi (fun x6_148 ex6_148 => ?_)
    replace h := o_nm_at ex6_148 h
    refine lv_istore (lv' := [(6, .int x6_148), (0, .ref (ad 0)), (4, .int u133_x4), (5, .int z)]) hx hb d_MM_part_148 hl (by decide) rfl (fun ls hl => ?_)
    refine lv_aload_n hx hb d_MM_part_150 rfl (lv_at hl 1 rfl) ?_
    refine o_get (v := .ref (ad 33)) C in_MM hP 0 mw_0 rfl 4 (by decide) k_7_234 rfl rfl d_MM_part_151 ?_
    refine o_get (v := .ref (ad 37)) C in_MT hP 33 mw_33 rfl 3 (by decide) k_7_107 rfl rfl d_MM_part_154 ?_
    refine lv_iload hx hb d_MM_part_157 (lv_at hl 0 rfl) ?_
    obtain ⟨g33, h⟩ := o_gd_some h
    refine o_iald (f := (MT_many u133_M0)) C hP 37 35 mw_37 rfl g33 d_MM_part_159 ?_
    refine lv_iload hx hb d_MM_part_160 (lv_at hl 2 rfl) ?_
    refine lv_icmp_ne (tgt := 169) hx hb d_MM_part_162 (by decide) (fun c34 => ?_) (fun c34 => ?_)
    · replace h := o_ff c34 h
      refine lv_iconst (v := (0:Int32)) hx hb d_MM_part_169 (by decide) ?_
      refine lv_istore (lv' := [(7, .int (0:Int32)), (6, .int x6_148), (0, .ref (ad 0)), (4, .int u133_x4), (5, .int z)]) hx hb d_MM_part_170 hl (by decide) rfl (fun ls hl => ?_)
      refine lv_iconst (v := (0:Int32)) hx hb d_MM_part_172 (by decide) ?_
      refine lv_istore (lv' := [(8, .int (0:Int32)), (7, .int (0:Int32)), (6, .int x6_148), (0, .ref (ad 0)), (4, .int u133_x4), (5, .int z)]) hx hb d_MM_part_173 hl (by decide) rfl (fun ls hl => ?_)
      obtain ⟨q5, hq5, h⟩ := o_bd_some h
      refine o_sim2 (AH := fun zz => o_At p l e rm_MM_part s m args below meth c _ m_cls D A 9 175 [] (m_cw ad ca ky ty u133_rt u133_Mm u133_M0 u133_M1) [(0, .ref (ad 0)), (4, .int u133_x4), (5, .int z), (6, .int x6_148), (7, .int zz.1), (8, .int zz.2)]) (AX := fun qq => o_At p l e rm_MM_part s m args below meth c _ m_cls D A 9 231 [] (m_cw ad ca ky ty u133_rt u133_Mm u133_M0 u133_M1) [(0, .ref (ad 0)), (4, .int u133_x4), (5, .int z), (7, .int qq.2.1)]) (fun zz qq h h0 h1 => f_MM_part_b175 hE hKy C hDD n u133_x4 z x6_148 u133_M0 u133_Mm u133_M1 u133_rt zz qq h h0 h1) n _ q5 hq5 ?_ _ _ _ hP hS (lv_sub hl [3, 4, 5, 2, 1, 0] rfl)
      intro H locs ls hP hS hl
      exact f_MM_part_j231 hE hKy C hDD n u133_x4 u133_M0 u133_Mm u133_M1 u133_rt z q5.2.1 h h0 h1 _ _ _ hP hS (lv_sub hl [0, 1, 2, 3] rfl)
    · replace h := o_tt c34 h
      refine lv_iconst (v := (1:Int32)) hx hb d_MM_part_165 (by decide) ?_
      refine lv_goto (tgt := 170) hx hb d_MM_part_166 (by decide) ?_
      refine lv_istore (lv' := [(7, .int (1:Int32)), (6, .int x6_148), (0, .ref (ad 0)), (4, .int u133_x4), (5, .int z)]) hx hb d_MM_part_170 hl (by decide) rfl (fun ls hl => ?_)
      refine lv_iconst (v := (0:Int32)) hx hb d_MM_part_172 (by decide) ?_
      refine lv_istore (lv' := [(8, .int (0:Int32)), (7, .int (1:Int32)), (6, .int x6_148), (0, .ref (ad 0)), (4, .int u133_x4), (5, .int z)]) hx hb d_MM_part_173 hl (by decide) rfl (fun ls hl => ?_)
      obtain ⟨q6, hq6, h⟩ := o_bd_some h
      refine o_sim2 (AH := fun zz => o_At p l e rm_MM_part s m args below meth c _ m_cls D A 9 175 [] (m_cw ad ca ky ty u133_rt u133_Mm u133_M0 u133_M1) [(0, .ref (ad 0)), (4, .int u133_x4), (5, .int z), (6, .int x6_148), (7, .int zz.1), (8, .int zz.2)]) (AX := fun qq => o_At p l e rm_MM_part s m args below meth c _ m_cls D A 9 231 [] (m_cw ad ca ky ty u133_rt u133_Mm u133_M0 u133_M1) [(0, .ref (ad 0)), (4, .int u133_x4), (5, .int z), (7, .int qq.2.1)]) (fun zz qq h h0 h1 => f_MM_part_b175 hE hKy C hDD n u133_x4 z x6_148 u133_M0 u133_Mm u133_M1 u133_rt zz qq h h0 h1) n _ q6 hq6 ?_ _ _ _ hP hS (lv_sub hl [3, 4, 5, 2, 1, 0] rfl)
      intro H locs ls hP hS hl
      exact f_MM_part_j231 hE hKy C hDD n u133_x4 u133_M0 u133_Mm u133_M1 u133_rt z q6.2.1 h h0 h1 _ _ _ hP hS (lv_sub hl [0, 1, 2, 3] rfl)
set_option maxHeartbeats 4000000 in
set_option maxRecDepth 100000 in
theorem e_MM_part {E : (Nat → Prop) → State → Heap → Prop} {D : va_G} {ad kd sd vd xd : Nat → Nat} {ca : Nat → ClassId} {ky ty : Nat → Option Nat} (hE : o_EK E kd sd vd xd) (hKy : m_KY ky ty sd) (l : Launch) (n : Nat) (x1 : Int32) (x2 : Int32) (x3 : Int32) (M0 : SMT) (Mm : SMM) (M1 : SMT) (rt : Nat) {r : Int32 × SMM} (h : m_MM_part n x1 x2 x3 M0 Mm = some r) : o_Cn E l D m_cls (m_tys ca) y_MM_part cc_MM_part rm_MM_part [.ref (ad 0), .int x1, .int x2, .int x3] (m_cw ad ca ky ty rt Mm M0 M1) (m_cw ad ca ky ty rt r.2 M0 M1) (some (.int r.1)) := by
  refine o_Cn_of (by decide) (Nat.le_of_ble_eq_true rfl) ?_
  intro p e s m below meth c A ls C hD hP hS hl
  have hDD : ∀ (rt : Nat) (Mm : SMM) (M0 : SMT) (M1 : SMT), va_D A (m_cw ad ca ky ty rt Mm M0 M1) := fun _ _ _ _ => o_D_map hD rfl
  have hl : lv_has ls 9 [(0, .ref (ad 0)), (1, .int x1), (2, .int x2), (3, .int x3)] := hl
  unfold m_MM_part at h
  have C0 := C
  obtain ⟨hx, hb, -, -, -, hown, hts, hK, -, -⟩ := C0
  refine lv_iconst (v := (0:Int32)) hx hb d_MM_part_0 (by decide) ?_
  refine lv_istore (lv' := [(4, .int (0:Int32)), (0, .ref (ad 0)), (1, .int x1), (2, .int x2), (3, .int x3)]) hx hb d_MM_part_1 hl (by decide) rfl (fun ls hl => ?_)
  refine lv_iload_n hx hb d_MM_part_3 rfl (lv_at hl 3 rfl) ?_
  refine lv_istore (lv' := [(5, .int x2), (4, .int (0:Int32)), (0, .ref (ad 0)), (1, .int x1), (2, .int x2), (3, .int x3)]) hx hb d_MM_part_4 hl (by decide) rfl (fun ls hl => ?_)
  obtain ⟨q1, hq1, h⟩ := o_bd_some h
  refine o_sim2 (AH := fun zz => o_At p l e rm_MM_part s m _ below meth c _ m_cls D A 9 6 [] (m_cw ad ca ky ty rt zz.2.2 M0 M1) [(0, .ref (ad 0)), (1, .int x1), (3, .int x3), (4, .int zz.1), (5, .int zz.2.1)]) (AX := fun qq => if qq.1 = 1 then o_At p l e rm_MM_part s m _ below meth c _ m_cls D A 9 64 [] (m_cw ad ca ky ty rt qq.2.2.2 M0 M1) [] else o_At p l e rm_MM_part s m _ below meth c _ m_cls D A 9 108 [] (m_cw ad ca ky ty rt qq.2.2.2 M0 M1) [(0, .ref (ad 0)), (1, .int x1), (4, .int qq.2.1)]) (fun zz qq h h0 h1 => f_MM_part_b6 hE hKy C hDD n x1 x3 M0 M1 rt zz qq h h0 h1) n _ q1 hq1 ?_ _ _ _ hP hS (lv_sub hl [2, 3, 5, 1, 0] rfl)
  by_cases c44 : q1.1 = 1
  · replace h := o_tt c44 h
    refine o_ip c44 ?_
    intro H locs ls hP hS hl
    refine lv_iconst (v := (-1:Int32)) hx hb d_MM_part_64 (by decide) ?_
    cases h
    exact o_ri (v := (-1:Int32)) C hP hS d_MM_part_65
  replace h := o_ff c44 h
  refine o_in_ c44 ?_
  intro H locs ls hP hS hl
  refine lv_aload_n hx hb d_MM_part_108 rfl (lv_at hl 0 rfl) ?_
  refine o_get (v := .ref (ad 33)) C in_MM hP 0 mw_0 rfl 4 (by decide) k_7_234 rfl rfl d_MM_part_109 ?_
  refine o_get (v := .ref (ad 35)) C in_MT hP 33 mw_33 rfl 1 (by decide) k_7_103 rfl rfl d_MM_part_112 ?_
  refine lv_iload_n hx hb d_MM_part_115 rfl (lv_at hl 1 rfl) ?_
  obtain ⟨g12, h⟩ := o_gd_some h
  refine o_iald (f := (MT_kind M0)) C hP 35 33 mw_35 rfl g12 d_MM_part_116 ?_
  refine lv_bipush (v := (6:Int32)) hx hb d_MM_part_117 (by decide) ?_
  refine lv_icmp_ne (tgt := 256) hx hb d_MM_part_119 (by decide) (fun c13 => ?_) (fun c13 => ?_)
  · replace h := o_ff c13 h
    refine lv_aload_n hx hb d_MM_part_256 rfl (lv_at hl 0 rfl) ?_
    refine o_get (v := .ref (ad 33)) C in_MM hP 0 mw_0 rfl 4 (by decide) k_7_234 rfl rfl d_MM_part_257 ?_
    refine o_get (v := .ref (ad 35)) C in_MT hP 33 mw_33 rfl 1 (by decide) k_7_103 rfl rfl d_MM_part_260 ?_
    refine lv_iload_n hx hb d_MM_part_263 rfl (lv_at hl 1 rfl) ?_
    obtain ⟨g14, h⟩ := o_gd_some h
    refine o_iald (f := (MT_kind M0)) C hP 35 33 mw_35 rfl g14 d_MM_part_264 ?_
    refine lv_iconst (v := (5:Int32)) hx hb d_MM_part_265 (by decide) ?_
    refine lv_icmp_ne (tgt := 297) hx hb d_MM_part_266 (by decide) (fun c15 => ?_) (fun c15 => ?_)
    · replace h := o_ff c15 h
      refine lv_iconst (v := (-1:Int32)) hx hb d_MM_part_297 (by decide) ?_
      cases h
      exact o_ri (v := (-1:Int32)) C hP hS d_MM_part_298
    · replace h := o_tt c15 h
      refine lv_iload hx hb d_MM_part_269 (lv_at hl 2 rfl) ?_
      refine lv_if_eq (tgt := 297) hx hb d_MM_part_271 (by decide) (fun c16 => ?_) (fun c16 => ?_)
      · replace h := o_tt c16 h
        refine lv_iconst (v := (-1:Int32)) hx hb d_MM_part_297 (by decide) ?_
        cases h
        exact o_ri (v := (-1:Int32)) C hP hS d_MM_part_298
      · replace h := o_ff c16 h
        refine lv_iload hx hb d_MM_part_274 (lv_at hl 2 rfl) ?_
        refine lv_iconst (v := (1:Int32)) hx hb d_MM_part_276 (by decide) ?_
        refine lv_icmp_le (tgt := 291) hx hb d_MM_part_277 (by decide) (fun c17 => ?_) (fun c17 => ?_)
        · replace h := o_tt c17 h
          exact f_MM_part_j291 hE hKy C hDD n x1 q1.2.1 M0 q1.2.2.2 M1 rt h _ _ _ hP hS (lv_sub hl [0, 1, 2] rfl)
        · replace h := o_ff c17 h
          refine lv_aload_n hx hb d_MM_part_280 rfl (lv_at hl 0 rfl) ?_
          refine o_get (v := .ref (ad 30)) C in_MM hP 0 mw_0 rfl 50 (by decide) k_8_40 rfl rfl d_MM_part_281 ?_
          refine lv_iconst (v := (0:Int32)) hx hb d_MM_part_284 (by decide) ?_
          obtain ⟨g28, h⟩ := o_gd_some h
          refine o_iald (f := (MM_partRow q1.2.2.2)) C hP 30 29 mw_30 rfl g28 d_MM_part_285 ?_
          refine lv_bipush (v := (48:Int32)) hx hb d_MM_part_286 (by decide) ?_
          refine lv_icmp_eq (tgt := 297) hx hb d_MM_part_288 (by decide) (fun c29 => ?_) (fun c29 => ?_)
          · replace h := o_tt c29 h
            refine lv_iconst (v := (-1:Int32)) hx hb d_MM_part_297 (by decide) ?_
            cases h
            exact o_ri (v := (-1:Int32)) C hP hS d_MM_part_298
          · replace h := o_ff c29 h
            exact f_MM_part_j291 hE hKy C hDD n x1 q1.2.1 M0 q1.2.2.2 M1 rt h _ _ _ hP hS (lv_sub hl [0, 1, 2] rfl)
  · replace h := o_tt c13 h
    refine lv_aload_n hx hb d_MM_part_122 rfl (lv_at hl 0 rfl) ?_
    refine o_get (v := .ref (ad 33)) C in_MM hP 0 mw_0 rfl 4 (by decide) k_7_234 rfl rfl d_MM_part_123 ?_
    refine o_get (v := .ref (ad 40)) C in_MT hP 33 mw_33 rfl 6 (by decide) k_7_113 rfl rfl d_MM_part_126 ?_
    refine lv_iload_n hx hb d_MM_part_129 rfl (lv_at hl 1 rfl) ?_
    obtain ⟨g30, h⟩ := o_gd_some h
    refine o_iald (f := (MT_first M0)) C hP 40 38 mw_40 rfl g30 d_MM_part_130 ?_
    refine lv_topi (fun x5_131 ex5_131 => ?_)
    replace h := o_nm_at ex5_131 h
    refine lv_istore (lv' := [(5, .int x5_131), (0, .ref (ad 0)), (1, .int x1), (4, .int q1.2.1)]) hx hb d_MM_part_131 hl (by decide) rfl (fun ls hl => ?_)
    obtain ⟨q7, hq7, h⟩ := o_bd_some h
    refine o_sim2 (AH := fun zz => o_At p l e rm_MM_part s m _ below meth c _ m_cls D A 9 133 [] (m_cw ad ca ky ty rt q1.2.2.2 M0 M1) [(0, .ref (ad 0)), (4, .int q1.2.1), (5, .int zz)]) (AX := fun qq => if qq.1 = 1 then o_At p l e rm_MM_part s m _ below meth c _ m_cls D A 9 236 [] (m_cw ad ca ky ty rt q1.2.2.2 M0 M1) [(5, .int qq.2)] else o_At p l e rm_MM_part s m _ below meth c _ m_cls D A 9 254 [] (m_cw ad ca ky ty rt q1.2.2.2 M0 M1) []) (fun zz qq h h0 h1 => f_MM_part_b133 hE hKy C hDD n q1.2.1 M0 q1.2.2.2 M1 rt zz qq h h0 h1) n _ q7 hq7 ?_ _ _ _ hP hS (lv_sub hl [1, 3, 0] rfl)
    by_cases c43 : q7.1 = 1
    · replace h := o_tt c43 h
      refine o_ip c43 ?_
      intro H locs ls hP hS hl
      refine lv_iload hx hb d_MM_part_236 (lv_at hl 0 rfl) ?_
      cases h
      exact o_ri C hP hS d_MM_part_238
    replace h := o_ff c43 h
    refine o_in_ c43 ?_
    intro H locs ls hP hS hl
    refine lv_iconst (v := (-1:Int32)) hx hb d_MM_part_254 (by decide) ?_
    cases h
    exact o_ri (v := (-1:Int32)) C hP hS d_MM_part_255
set_option maxHeartbeats 4000000 in
set_option maxRecDepth 100000 in
theorem f_MM_leads_b221 {E : (Nat → Prop) → State → Heap → Prop} {p : Program} {l : Launch} {e : Env} {s : State} {m : MethodId} {args : Array Value} {below : List Frame} {meth : Method} {c : Code} {D : va_G} {ad kd sd vd xd : Nat → Nat} {ca : Nat → ClassId} {A : Nat → Prop} {ky ty : Nat → Option Nat} {Q : State → Prop} (hE : o_EK E kd sd vd xd) (hKy : m_KY ky ty sd) (C : o_Cx E p s m args meth c D m_cls (m_tys ca) "SchemaJudgeModel" b_MM_leads (some .int) 7 cc_MM_leads A) (hDD : ∀ (rt : Nat) (Mm : SMM) (M0 : SMT) (M1 : SMT), va_D A (m_cw ad ca ky ty rt Mm M0 M1)) (n : Nat) (u221_x4 : Int32) (u221_x5 : Int32) (u221_M0 : SMT) (u221_Mm : SMM) (u221_M1 : SMT) (u221_rt : Nat) (z : Int32) (q : Nat × Int32) (h : m_MM_leads_b221 n u221_x4 u221_x5 u221_M0 u221_Mm z = some q) (h0 : q.1 = 0 → o_At p l e rm_MM_leads s m args below meth c Q m_cls D A 7 221 [] (m_cw ad ca ky ty u221_rt u221_Mm u221_M0 u221_M1) [(0, .ref (ad 0)), (4, .int u221_x4), (5, .int u221_x5), (6, .int q.2)]) (h1 : q.1 ≠ 0 → (o_At p l e rm_MM_leads s m args below meth c Q m_cls D A 7 248 [] (m_cw ad ca ky ty u221_rt u221_Mm u221_M0 u221_M1) [(0, .ref (ad 0)), (4, .int u221_x4), (5, .int u221_x5), (6, .int q.2)])) : o_At p l e rm_MM_leads s m args below meth c Q m_cls D A 7 221 [] (m_cw ad ca ky ty u221_rt u221_Mm u221_M0 u221_M1) [(0, .ref (ad 0)), (4, .int u221_x4), (5, .int u221_x5), (6, .int z)] := by
  unfold m_MM_leads_b221 at h
  intro H locs ls hP hS hl
  have C0 := C
  obtain ⟨hx, hb, -, -, -, hown, hts, hK, -, -⟩ := C0
  refine lv_iload hx hb d_MM_leads_221 (lv_at hl 3 rfl) ?_
  refine lv_aload_n hx hb d_MM_leads_223 rfl (lv_at hl 0 rfl) ?_
  refine o_get (v := .int (MM_pathSize u221_Mm)) C in_MM hP 0 mw_0 rfl 48 (by decide) k_8_38 rfl rfl d_MM_leads_224 ?_
  refine lv_icmp_ge (tgt := 248) hx hb d_MM_leads_227 (by decide) (fun c10 => ?_) (fun c10 => ?_)
  · replace h := o_tt c10 h
    cases h
    exact h1 (Nat.succ_ne_zero 0) _ _ _ hP hS (lv_sub hl [0, 1, 2, 3] rfl)
  · replace h := o_ff c10 h
    refine lv_aload_n hx hb d_MM_leads_230 rfl (lv_at hl 0 rfl) ?_
    refine o_get (v := .ref (ad 25)) C in_MM hP 0 mw_0 rfl 44 (by decide) k_8_34 rfl rfl d_MM_leads_231 ?_
    refine lv_iload hx hb d_MM_leads_234 (lv_at hl 3 rfl) ?_
    obtain ⟨g11, h⟩ := o_gd_some h
    refine o_iald (f := (MM_path u221_Mm)) C hP 25 24 mw_25 rfl g11 d_MM_leads_236 ?_
    refine lv_bipush (v := (47:Int32)) hx hb d_MM_leads_237 (by decide) ?_
    refine lv_icmp_eq (tgt := 248) hx hb d_MM_leads_239 (by decide) (fun c12 => ?_) (fun c12 => ?_)
    · replace h := o_tt c12 h
      cases h
      exact h1 (Nat.succ_ne_zero 0) _ _ _ hP hS (lv_sub hl [0, 1, 2, 3] rfl)
    · replace h := o_ff c12 h
      obtain ⟨x6_242, ex6_242⟩ : ∃ y : Int32, y = z + (1:Int32) := ⟨_, rfl⟩
      replace h := o_nm_at ex6_242 h
      refine lv_iinc (v := x6_242) (lv' := [(6, .int x6_242), (0, .ref (ad 0)), (4, .int u221_x4), (5, .int u221_x5)]) hx hb d_MM_leads_242 hl (k := 3) rfl (by rw [ex6_242]; rfl) (by decide) rfl (fun ls hl => ?_)
      refine lv_goto (tgt := 221) hx hb d_MM_leads_245 (by decide) ?_
      cases h
      exact h0 rfl _ _ _ hP hS (lv_sub hl [1, 2, 3, 0] rfl)
set_option maxHeartbeats 4000000 in
set_option maxRecDepth 100000 in
theorem f_MM_leads_j248 {E : (Nat → Prop) → State → Heap → Prop} {p : Program} {l : Launch} {e : Env} {s : State} {m : MethodId} {args : Array Value} {below : List Frame} {meth : Method} {c : Code} {D : va_G} {ad kd sd vd xd : Nat → Nat} {ca : Nat → ClassId} {A : Nat → Prop} {ky ty : Nat → Option Nat} {Q : State → Prop} (hE : o_EK E kd sd vd xd) (hKy : m_KY ky ty sd) (C : o_Cx E p s m args meth c D m_cls (m_tys ca) "SchemaJudgeModel" b_MM_leads (some .int) 7 cc_MM_leads A) (hDD : ∀ (rt : Nat) (Mm : SMM) (M0 : SMT) (M1 : SMT), va_D A (m_cw ad ca ky ty rt Mm M0 M1)) (n : Nat) (u217_M0 : SMT) (u217_M1 : SMT) (u217_rt : Nat) (x4 : Int32) (x5 : Int32) (x6 : Int32) (Mm : SMM) {q : Nat × Int32 × Int32 × SMM} (h : m_MM_leads_j248 n x4 x5 x6 u217_M0 Mm = some q) (h0 : q.1 = 0 → o_At p l e rm_MM_leads s m args below meth c Q m_cls D A 7 217 [] (m_cw ad ca ky ty u217_rt q.2.2.2 u217_M0 u217_M1) [(0, .ref (ad 0)), (4, .int q.2.1), (5, .int q.2.2.1)]) (h1 : q.1 ≠ 0 → (if q.1 = 1 then o_At p l e rm_MM_leads s m args below meth c Q m_cls D A 7 265 [] (m_cw ad ca ky ty u217_rt q.2.2.2 u217_M0 u217_M1) [] else o_At p l e rm_MM_leads s m args below meth c Q m_cls D A 7 276 [] (m_cw ad ca ky ty u217_rt q.2.2.2 u217_M0 u217_M1) [(0, .ref (ad 0)), (4, .int q.2.1)])) : o_At p l e rm_MM_leads s m args below meth c Q m_cls D A 7 248 [] (m_cw ad ca ky ty u217_rt Mm u217_M0 u217_M1) [(0, .ref (ad 0)), (4, .int x4), (5, .int x5), (6, .int x6)] := by
  unfold m_MM_leads_j248 at h
  intro H locs ls hP hS hl
  have C0 := C
  obtain ⟨hx, hb, -, -, -, hown, hts, hK, -, -⟩ := C0
  refine lv_aload_n hx hb d_MM_leads_248 rfl (lv_at hl 0 rfl) ?_
  refine lv_iload hx hb d_MM_leads_249 (lv_at hl 1 rfl) ?_
  refine lv_iload hx hb d_MM_leads_251 (lv_at hl 2 rfl) ?_
  refine lv_iload hx hb d_MM_leads_253 (lv_at hl 3 rfl) ?_
  obtain ⟨q3, hq3, h⟩ := o_bd_some h
  refine o_V (st1 := [.int q3.1]) (w1 := (m_cw ad ca ky ty u217_rt q3.2 u217_M0 u217_M1)) hE.1 C (e_MM_part hE hKy l n x4 x5 x6 u217_M0 Mm u217_M1 u217_rt hq3) hP (hDD _ _ _ _) hS hl.1 rfl mw_0 k_9_190 k_9_192 k_s_113 k_1_12 k_9_193 hv_MM_part rfl rfl ⟨(Nat.le_of_ble_eq_true rfl), (Nat.le_of_ble_eq_true rfl)⟩ rfl (Nat.le_of_ble_eq_true rfl) ⟨Nat.zero_le _, Nat.zero_le _⟩ rfl d_MM_leads_255 (fun H locs hP hS => ?_)
  refine lv_istore (lv' := [(4, .int q3.1), (0, .ref (ad 0)), (5, .int x5), (6, .int x6)]) hx hb d_MM_leads_258 hl (by decide) rfl (fun ls hl => ?_)
  refine lv_iload hx hb d_MM_leads_260 (lv_at hl 0 rfl) ?_
  refine lv_if_ge (tgt := 267) hx hb d_MM_leads_262 (by decide) (fun c13 => ?_) (fun c13 => ?_)
  · replace h := o_tt c13 h
    refine lv_iload hx hb d_MM_leads_267 (lv_at hl 3 rfl) ?_
    refine lv_aload_n hx hb d_MM_leads_269 rfl (lv_at hl 1 rfl) ?_
    refine o_get (v := .int (MM_pathSize q3.2)) C in_MM hP 0 mw_0 rfl 48 (by decide) k_8_38 rfl rfl d_MM_leads_270 ?_
    refine lv_icmp_ne (tgt := 293) hx hb d_MM_leads_273 (by decide) (fun c14 => ?_) (fun c14 => ?_)
    · replace h := o_ff c14 h
      refine lv_iload hx hb d_MM_leads_293 (lv_at hl 3 rfl) ?_
      refine lv_iconst (v := (1:Int32)) hx hb d_MM_leads_295 (by decide) ?_
      refine lv_iadd hx hb d_MM_leads_296 ?_
      refine lv_topi (fun x5_297 ex5_297 => ?_)
      replace h := o_nm_at ex5_297 h
      refine lv_istore (lv' := [(5, .int x5_297), (4, .int q3.1), (0, .ref (ad 0)), (6, .int x6)]) hx hb d_MM_leads_297 hl (by decide) rfl (fun ls hl => ?_)
      refine lv_goto (tgt := 217) hx hb d_MM_leads_299 (by decide) ?_
      cases h
      exact h0 rfl _ _ _ hP hS (lv_sub hl [2, 1, 0] rfl)
    · replace h := o_tt c14 h
      cases h
      exact h1 (Nat.succ_ne_zero 1) _ _ _ hP hS (lv_sub hl [1, 0] rfl)
  · replace h := o_ff c13 h
    cases h
    exact h1 (Nat.succ_ne_zero 0) _ _ _ hP hS (lv_sub hl [] rfl)
set_option maxHeartbeats 4000000 in
set_option maxRecDepth 100000 in
theorem f_MM_leads_b217 {E : (Nat → Prop) → State → Heap → Prop} {p : Program} {l : Launch} {e : Env} {s : State} {m : MethodId} {args : Array Value} {below : List Frame} {meth : Method} {c : Code} {D : va_G} {ad kd sd vd xd : Nat → Nat} {ca : Nat → ClassId} {A : Nat → Prop} {ky ty : Nat → Option Nat} {Q : State → Prop} (hE : o_EK E kd sd vd xd) (hKy : m_KY ky ty sd) (C : o_Cx E p s m args meth c D m_cls (m_tys ca) "SchemaJudgeModel" b_MM_leads (some .int) 7 cc_MM_leads A) (hDD : ∀ (rt : Nat) (Mm : SMM) (M0 : SMT) (M1 : SMT), va_D A (m_cw ad ca ky ty rt Mm M0 M1)) (n : Nat) (u217_M0 : SMT) (u217_M1 : SMT) (u217_rt : Nat) (z : Int32 × Int32 × SMM) (q : Nat × Int32 × Int32 × SMM) (h : m_MM_leads_b217 n u217_M0 z = some q) (h0 : q.1 = 0 → o_At p l e rm_MM_leads s m args below meth c Q m_cls D A 7 217 [] (m_cw ad ca ky ty u217_rt q.2.2.2 u217_M0 u217_M1) [(0, .ref (ad 0)), (4, .int q.2.1), (5, .int q.2.2.1)]) (h1 : q.1 ≠ 0 → (if q.1 = 1 then o_At p l e rm_MM_leads s m args below meth c Q m_cls D A 7 265 [] (m_cw ad ca ky ty u217_rt q.2.2.2 u217_M0 u217_M1) [] else o_At p l e rm_MM_leads s m args below meth c Q m_cls D A 7 276 [] (m_cw ad ca ky ty u217_rt q.2.2.2 u217_M0 u217_M1) [(0, .ref (ad 0)), (4, .int q.2.1)])) : o_At p l e rm_MM_leads s m args below meth c Q m_cls D A 7 217 [] (m_cw ad ca ky ty u217_rt z.2.2 u217_M0 u217_M1) [(0, .ref (ad 0)), (4, .int z.1), (5, .int z.2.1)] := by
  unfold m_MM_leads_b217 at h
  intro H locs ls hP hS hl
  have C0 := C
  obtain ⟨hx, hb, -, -, -, hown, hts, hK, -, -⟩ := C0
  refine lv_iload hx hb d_MM_leads_217 (lv_at hl 2 rfl) ?_
  refine lv_istore (lv' := [(6, .int z.2.1), (0, .ref (ad 0)), (4, .int z.1), (5, .int z.2.1)]) hx hb d_MM_leads_219 hl (by decide) rfl (fun ls hl => ?_)
  obtain ⟨q2, hq2, h⟩ := o_bd_some h
  refine o_sim2 (AH := fun zz => o_At p l e rm_MM_leads s m args below meth c _ m_cls D A 7 221 [] (m_cw ad ca ky ty u217_rt z.2.2 u217_M0 u217_M1) [(0, .ref (ad 0)), (4, .int z.1), (5, .int z.2.1), (6, .int zz)]) (AX := fun qq => o_At p l e rm_MM_leads s m args below meth c _ m_cls D A 7 248 [] (m_cw ad ca ky ty u217_rt z.2.2 u217_M0 u217_M1) [(0, .ref (ad 0)), (4, .int z.1), (5, .int z.2.1), (6, .int qq.2)]) (fun zz qq h h0 h1 => f_MM_leads_b221 hE hKy C hDD n z.1 z.2.1 u217_M0 z.2.2 u217_M1 u217_rt zz qq h h0 h1) n _ q2 hq2 ?_ _ _ _ hP hS (lv_sub hl [1, 2, 3, 0] rfl)
  intro H locs ls hP hS hl
  exact f_MM_leads_j248 hE hKy C hDD n u217_M0 u217_M1 u217_rt z.1 z.2.1 q2.2 z.2.2 h h0 h1 _ _ _ hP hS (lv_sub hl [0, 1, 2, 3] rfl)
set_option maxHeartbeats 4000000 in
set_option maxRecDepth 100000 in
theorem f_MM_leads_b106 {E : (Nat → Prop) → State → Heap → Prop} {p : Program} {l : Launch} {e : Env} {s : State} {m : MethodId} {args : Array Value} {below : List Frame} {meth : Method} {c : Code} {D : va_G} {ad kd sd vd xd : Nat → Nat} {ca : Nat → ClassId} {A : Nat → Prop} {ky ty : Nat → Option Nat} {Q : State → Prop} (hE : o_EK E kd sd vd xd) (hKy : m_KY ky ty sd) (C : o_Cx E p s m args meth c D m_cls (m_tys ca) "SchemaJudgeModel" b_MM_leads (some .int) 7 cc_MM_leads A) (hDD : ∀ (rt : Nat) (Mm : SMM) (M0 : SMT) (M1 : SMT), va_D A (m_cw ad ca ky ty rt Mm M0 M1)) (n : Nat) (u106_x2 : Int32) (u106_x3 : Int32) (u106_x4 : Int32) (u106_M0 : SMT) (u106_Mm : SMM) (u106_M1 : SMT) (u106_rt : Nat) (z : Int32 × Int32) (q : Nat × Int32 × Int32) (h : m_MM_leads_b106 n u106_x2 u106_x3 u106_x4 u106_M0 u106_Mm z = some q) (h0 : q.1 = 0 → o_At p l e rm_MM_leads s m args below meth c Q m_cls D A 7 106 [] (m_cw ad ca ky ty u106_rt u106_Mm u106_M0 u106_M1) [(0, .ref (ad 0)), (2, .int u106_x2), (3, .int u106_x3), (4, .int u106_x4), (5, .int q.2.1), (6, .int q.2.2)]) (h1 : q.1 ≠ 0 → (o_At p l e rm_MM_leads s m args below meth c Q m_cls D A 7 175 [] (m_cw ad ca ky ty u106_rt u106_Mm u106_M0 u106_M1) [(0, .ref (ad 0)), (2, .int u106_x2), (3, .int u106_x3), (4, .int u106_x4), (5, .int q.2.1)])) : o_At p l e rm_MM_leads s m args below meth c Q m_cls D A 7 106 [] (m_cw ad ca ky ty u106_rt u106_Mm u106_M0 u106_M1) [(0, .ref (ad 0)), (2, .int u106_x2), (3, .int u106_x3), (4, .int u106_x4), (5, .int z.1), (6, .int z.2)] := by
  unfold m_MM_leads_b106 at h
  intro H locs ls hP hS hl
  have C0 := C
  obtain ⟨hx, hb, -, -, -, hown, hts, hK, -, -⟩ := C0
  refine lv_iload hx hb d_MM_leads_106 (lv_at hl 4 rfl) ?_
  refine lv_if_eq (tgt := 175) hx hb d_MM_leads_108 (by decide) (fun c22 => ?_) (fun c22 => ?_)
  · replace h := o_tt c22 h
    cases h
    exact h1 (Nat.succ_ne_zero 0) _ _ _ hP hS (lv_sub hl [0, 1, 2, 3, 4] rfl)
  · replace h := o_ff c22 h
    refine lv_iload hx hb d_MM_leads_111 (lv_at hl 5 rfl) ?_
    refine lv_iload_n hx hb d_MM_leads_113 rfl (lv_at hl 1 rfl) ?_
    refine lv_iconst (v := (1:Int32)) hx hb d_MM_leads_114 (by decide) ?_
    refine lv_isub hx hb d_MM_leads_115 ?_
    refine lv_icmp_ge (tgt := 175) hx hb d_MM_leads_116 (by decide) (fun c23 => ?_) (fun c23 => ?_)
    · replace h := o_tt c23 h
      cases h
      exact h1 (Nat.succ_ne_zero 0) _ _ _ hP hS (lv_sub hl [0, 1, 2, 3, 4] rfl)
    · replace h := o_ff c23 h
      refine lv_aload_n hx hb d_MM_leads_119 rfl (lv_at hl 0 rfl) ?_
      refine o_get (v := .ref (ad 33)) C in_MM hP 0 mw_0 rfl 4 (by decide) k_7_234 rfl rfl d_MM_leads_120 ?_
      refine o_get (v := .ref (ad 44)) C in_MT hP 33 mw_33 rfl 10 (by decide) k_7_121 rfl rfl d_MM_leads_123 ?_
      refine lv_aload_n hx hb d_MM_leads_126 rfl (lv_at hl 0 rfl) ?_
      refine o_get (v := .ref (ad 33)) C in_MM hP 0 mw_0 rfl 4 (by decide) k_7_234 rfl rfl d_MM_leads_127 ?_
      refine o_get (v := .ref (ad 43)) C in_MT hP 33 mw_33 rfl 9 (by decide) k_7_119 rfl rfl d_MM_leads_130 ?_
      refine lv_aload_n hx hb d_MM_leads_133 rfl (lv_at hl 0 rfl) ?_
      refine o_get (v := .ref (ad 23)) C in_MM hP 0 mw_0 rfl 42 (by decide) k_8_32 rfl rfl d_MM_leads_134 ?_
      refine lv_iload hx hb d_MM_leads_137 (lv_at hl 3 rfl) ?_
      obtain ⟨g24, h⟩ := o_gd_some h
      refine o_iald (f := (MM_anchorValue u106_Mm)) C hP 23 22 mw_23 rfl g24 d_MM_leads_139 ?_
      obtain ⟨g25, h⟩ := o_gd_some h
      refine o_iald (f := (MT_from u106_M0)) C hP 43 41 mw_43 rfl g25 d_MM_leads_140 ?_
      refine lv_iload hx hb d_MM_leads_141 (lv_at hl 5 rfl) ?_
      refine lv_iadd hx hb d_MM_leads_143 ?_
      obtain ⟨g26, h⟩ := o_gd_some h
      refine o_iald (f := (MT_characters u106_M0)) C hP 44 42 mw_44 rfl g26 d_MM_leads_144 ?_
      refine lv_aload_n hx hb d_MM_leads_145 rfl (lv_at hl 0 rfl) ?_
      refine o_get (v := .ref (ad 33)) C in_MM hP 0 mw_0 rfl 4 (by decide) k_7_234 rfl rfl d_MM_leads_146 ?_
      refine o_get (v := .ref (ad 44)) C in_MT hP 33 mw_33 rfl 10 (by decide) k_7_121 rfl rfl d_MM_leads_149 ?_
      refine lv_iload_n hx hb d_MM_leads_152 rfl (lv_at hl 2 rfl) ?_
      refine lv_iconst (v := (1:Int32)) hx hb d_MM_leads_153 (by decide) ?_
      refine lv_iadd hx hb d_MM_leads_154 ?_
      refine lv_iload hx hb d_MM_leads_155 (lv_at hl 5 rfl) ?_
      refine lv_iadd hx hb d_MM_leads_157 ?_
      obtain ⟨g27, h⟩ := o_gd_some h
      refine o_iald (f := (MT_characters u106_M0)) C hP 44 42 mw_44 rfl g27 d_MM_leads_158 ?_
      refine lv_icmp_ne (tgt := 166) hx hb d_MM_leads_159 (by decide) (fun c28 => ?_) (fun c28 => ?_)
      · replace h := o_ff c28 h
        refine lv_iconst (v := (0:Int32)) hx hb d_MM_leads_166 (by decide) ?_
        refine lv_istore (lv' := [(5, .int (0:Int32)), (0, .ref (ad 0)), (2, .int u106_x2), (3, .int u106_x3), (4, .int u106_x4), (6, .int z.2)]) hx hb d_MM_leads_167 hl (by decide) rfl (fun ls hl => ?_)
        obtain ⟨x6_169, ex6_169⟩ : ∃ y : Int32, y = z.2 + (1:Int32) := ⟨_, rfl⟩
        replace h := o_nm_at ex6_169 h
        refine lv_iinc (v := x6_169) (lv' := [(6, .int x6_169), (5, .int (0:Int32)), (0, .ref (ad 0)), (2, .int u106_x2), (3, .int u106_x3), (4, .int u106_x4)]) hx hb d_MM_leads_169 hl (k := 5) rfl (by rw [ex6_169]; rfl) (by decide) rfl (fun ls hl => ?_)
        refine lv_goto (tgt := 106) hx hb d_MM_leads_172 (by decide) ?_
        cases h
        exact h0 rfl _ _ _ hP hS (lv_sub hl [2, 3, 4, 5, 1, 0] rfl)
      · replace h := o_tt c28 h
        refine lv_iconst (v := (1:Int32)) hx hb d_MM_leads_162 (by decide) ?_
        refine lv_goto (tgt := 167) hx hb d_MM_leads_163 (by decide) ?_
        refine lv_istore (lv' := [(5, .int (1:Int32)), (0, .ref (ad 0)), (2, .int u106_x2), (3, .int u106_x3), (4, .int u106_x4), (6, .int z.2)]) hx hb d_MM_leads_167 hl (by decide) rfl (fun ls hl => ?_)
        obtain ⟨x6_169, ex6_169⟩ : ∃ y : Int32, y = z.2 + (1:Int32) := ⟨_, rfl⟩
        replace h := o_nm_at ex6_169 h
        refine lv_iinc (v := x6_169) (lv' := [(6, .int x6_169), (5, .int (1:Int32)), (0, .ref (ad 0)), (2, .int u106_x2), (3, .int u106_x3), (4, .int u106_x4)]) hx hb d_MM_leads_169 hl (k := 5) rfl (by rw [ex6_169]; rfl) (by decide) rfl (fun ls hl => ?_)
        refine lv_goto (tgt := 106) hx hb d_MM_leads_172 (by decide) ?_
        cases h
        exact h0 rfl _ _ _ hP hS (lv_sub hl [2, 3, 4, 5, 1, 0] rfl)
set_option maxHeartbeats 4000000 in
set_option maxRecDepth 100000 in
theorem f_MM_leads_j175 {E : (Nat → Prop) → State → Heap → Prop} {p : Program} {l : Launch} {e : Env} {s : State} {m : MethodId} {args : Array Value} {below : List Frame} {meth : Method} {c : Code} {D : va_G} {ad kd sd vd xd : Nat → Nat} {ca : Nat → ClassId} {A : Nat → Prop} {ky ty : Nat → Option Nat} {Q : State → Prop} (hE : o_EK E kd sd vd xd) (hKy : m_KY ky ty sd) (C : o_Cx E p s m args meth c D m_cls (m_tys ca) "SchemaJudgeModel" b_MM_leads (some .int) 7 cc_MM_leads A) (hDD : ∀ (rt : Nat) (Mm : SMM) (M0 : SMT) (M1 : SMT), va_D A (m_cw ad ca ky ty rt Mm M0 M1)) (n : Nat) (u66_x2 : Int32) (u66_x3 : Int32) (u66_M0 : SMT) (u66_Mm : SMM) (u66_M1 : SMT) (u66_rt : Nat) (x4 : Int32) (x5 : Int32) {q : Nat × Int32} (h : m_MM_leads_j175 n u66_x2 u66_x3 x4 x5 u66_M0 u66_Mm = some q) (h0 : q.1 = 0 → o_At p l e rm_MM_leads s m args below meth c Q m_cls D A 7 66 [] (m_cw ad ca ky ty u66_rt u66_Mm u66_M0 u66_M1) [(0, .ref (ad 0)), (2, .int u66_x2), (3, .int u66_x3), (4, .int q.2)]) (h1 : q.1 ≠ 0 → (if q.1 = 1 then o_At p l e rm_MM_leads s m args below meth c Q m_cls D A 7 180 [] (m_cw ad ca ky ty u66_rt u66_Mm u66_M0 u66_M1) [(0, .ref (ad 0)), (4, .int q.2)] else o_At p l e rm_MM_leads s m args below meth c Q m_cls D A 7 194 [] (m_cw ad ca ky ty u66_rt u66_Mm u66_M0 u66_M1) [])) : o_At p l e rm_MM_leads s m args below meth c Q m_cls D A 7 175 [] (m_cw ad ca ky ty u66_rt u66_Mm u66_M0 u66_M1) [(0, .ref (ad 0)), (2, .int u66_x2), (3, .int u66_x3), (4, .int x4), (5, .int x5)] := by
  unfold m_MM_leads_j175 at h
  intro H locs ls hP hS hl
  have C0 := C
  obtain ⟨hx, hb, -, -, -, hown, hts, hK, -, -⟩ := C0
  refine lv_iload hx hb d_MM_leads_175 (lv_at hl 4 rfl) ?_
  refine lv_if_eq (tgt := 188) hx hb d_MM_leads_177 (by decide) (fun c29 => ?_) (fun c29 => ?_)
  · replace h := o_tt c29 h
    obtain ⟨x4_188, ex4_188⟩ : ∃ y : Int32, y = x4 + (1:Int32) := ⟨_, rfl⟩
    replace h := o_nm_at ex4_188 h
    refine lv_iinc (v := x4_188) (lv' := [(4, .int x4_188), (0, .ref (ad 0)), (2, .int u66_x2), (3, .int u66_x3), (5, .int x5)]) hx hb d_MM_leads_188 hl (k := 3) rfl (by rw [ex4_188]; rfl) (by decide) rfl (fun ls hl => ?_)
    refine lv_goto (tgt := 66) hx hb d_MM_leads_191 (by decide) ?_
    cases h
    exact h0 rfl _ _ _ hP hS (lv_sub hl [1, 2, 3, 0] rfl)
  · replace h := o_ff c29 h
    cases h
    exact h1 (Nat.succ_ne_zero 0) _ _ _ hP hS (lv_sub hl [0, 3] rfl)
set_option maxHeartbeats 4000000 in
set_option maxRecDepth 100000 in
theorem f_MM_leads_b66 {E : (Nat → Prop) → State → Heap → Prop} {p : Program} {l : Launch} {e : Env} {s : State} {m : MethodId} {args : Array Value} {below : List Frame} {meth : Method} {c : Code} {D : va_G} {ad kd sd vd xd : Nat → Nat} {ca : Nat → ClassId} {A : Nat → Prop} {ky ty : Nat → Option Nat} {Q : State → Prop} (hE : o_EK E kd sd vd xd) (hKy : m_KY ky ty sd) (C : o_Cx E p s m args meth c D m_cls (m_tys ca) "SchemaJudgeModel" b_MM_leads (some .int) 7 cc_MM_leads A) (hDD : ∀ (rt : Nat) (Mm : SMM) (M0 : SMT) (M1 : SMT), va_D A (m_cw ad ca ky ty rt Mm M0 M1)) (n : Nat) (u66_x2 : Int32) (u66_x3 : Int32) (u66_M0 : SMT) (u66_Mm : SMM) (u66_M1 : SMT) (u66_rt : Nat) (z : Int32) (q : Nat × Int32) (h : m_MM_leads_b66 n u66_x2 u66_x3 u66_M0 u66_Mm z = some q) (h0 : q.1 = 0 → o_At p l e rm_MM_leads s m args below meth c Q m_cls D A 7 66 [] (m_cw ad ca ky ty u66_rt u66_Mm u66_M0 u66_M1) [(0, .ref (ad 0)), (2, .int u66_x2), (3, .int u66_x3), (4, .int q.2)]) (h1 : q.1 ≠ 0 → (if q.1 = 1 then o_At p l e rm_MM_leads s m args below meth c Q m_cls D A 7 180 [] (m_cw ad ca ky ty u66_rt u66_Mm u66_M0 u66_M1) [(0, .ref (ad 0)), (4, .int q.2)] else o_At p l e rm_MM_leads s m args below meth c Q m_cls D A 7 194 [] (m_cw ad ca ky ty u66_rt u66_Mm u66_M0 u66_M1) [])) : o_At p l e rm_MM_leads s m args below meth c Q m_cls D A 7 66 [] (m_cw ad ca ky ty u66_rt u66_Mm u66_M0 u66_M1) [(0, .ref (ad 0)), (2, .int u66_x2), (3, .int u66_x3), (4, .int z)] := by
  unfold m_MM_leads_b66 at h
  intro H locs ls hP hS hl
  have C0 := C
  obtain ⟨hx, hb, -, -, -, hown, hts, hK, -, -⟩ := C0
  refine lv_iload hx hb d_MM_leads_66 (lv_at hl 3 rfl) ?_
  refine lv_aload_n hx hb d_MM_leads_68 rfl (lv_at hl 0 rfl) ?_
  refine o_get (v := .int (MM_anchors u66_Mm)) C in_MM hP 0 mw_0 rfl 39 (by decide) k_8_29 rfl rfl d_MM_leads_69 ?_
  refine lv_icmp_ge (tgt := 194) hx hb d_MM_leads_72 (by decide) (fun c18 => ?_) (fun c18 => ?_)
  · replace h := o_tt c18 h
    cases h
    exact h1 (Nat.succ_ne_zero 1) _ _ _ hP hS (lv_sub hl [] rfl)
  · replace h := o_ff c18 h
    refine lv_aload_n hx hb d_MM_leads_75 rfl (lv_at hl 0 rfl) ?_
    refine o_get (v := .ref (ad 33)) C in_MM hP 0 mw_0 rfl 4 (by decide) k_7_234 rfl rfl d_MM_leads_76 ?_
    refine o_get (v := .ref (ad 37)) C in_MT hP 33 mw_33 rfl 3 (by decide) k_7_107 rfl rfl d_MM_leads_79 ?_
    refine lv_aload_n hx hb d_MM_leads_82 rfl (lv_at hl 0 rfl) ?_
    refine o_get (v := .ref (ad 23)) C in_MM hP 0 mw_0 rfl 42 (by decide) k_8_32 rfl rfl d_MM_leads_83 ?_
    refine lv_iload hx hb d_MM_leads_86 (lv_at hl 3 rfl) ?_
    obtain ⟨g19, h⟩ := o_gd_some h
    refine o_iald (f := (MM_anchorValue u66_Mm)) C hP 23 22 mw_23 rfl g19 d_MM_leads_88 ?_
    obtain ⟨g20, h⟩ := o_gd_some h
    refine o_iald (f := (MT_many u66_M0)) C hP 37 35 mw_37 rfl g20 d_MM_leads_89 ?_
    refine lv_iload_n hx hb d_MM_leads_90 rfl (lv_at hl 1 rfl) ?_
    refine lv_iconst (v := (1:Int32)) hx hb d_MM_leads_91 (by decide) ?_
    refine lv_isub hx hb d_MM_leads_92 ?_
    refine lv_icmp_ne (tgt := 100) hx hb d_MM_leads_93 (by decide) (fun c21 => ?_) (fun c21 => ?_)
    · replace h := o_ff c21 h
      refine lv_iconst (v := (0:Int32)) hx hb d_MM_leads_100 (by decide) ?_
      refine lv_istore (lv' := [(5, .int (0:Int32)), (0, .ref (ad 0)), (2, .int u66_x2), (3, .int u66_x3), (4, .int z)]) hx hb d_MM_leads_101 hl (by decide) rfl (fun ls hl => ?_)
      refine lv_iconst (v := (0:Int32)) hx hb d_MM_leads_103 (by decide) ?_
      refine lv_istore (lv' := [(6, .int (0:Int32)), (5, .int (0:Int32)), (0, .ref (ad 0)), (2, .int u66_x2), (3, .int u66_x3), (4, .int z)]) hx hb d_MM_leads_104 hl (by decide) rfl (fun ls hl => ?_)
      obtain ⟨q5, hq5, h⟩ := o_bd_some h
      refine o_sim2 (AH := fun zz => o_At p l e rm_MM_leads s m args below meth c _ m_cls D A 7 106 [] (m_cw ad ca ky ty u66_rt u66_Mm u66_M0 u66_M1) [(0, .ref (ad 0)), (2, .int u66_x2), (3, .int u66_x3), (4, .int z), (5, .int zz.1), (6, .int zz.2)]) (AX := fun qq => o_At p l e rm_MM_leads s m args below meth c _ m_cls D A 7 175 [] (m_cw ad ca ky ty u66_rt u66_Mm u66_M0 u66_M1) [(0, .ref (ad 0)), (2, .int u66_x2), (3, .int u66_x3), (4, .int z), (5, .int qq.2.1)]) (fun zz qq h h0 h1 => f_MM_leads_b106 hE hKy C hDD n u66_x2 u66_x3 z u66_M0 u66_Mm u66_M1 u66_rt zz qq h h0 h1) n _ q5 hq5 ?_ _ _ _ hP hS (lv_sub hl [2, 3, 4, 5, 1, 0] rfl)
      intro H locs ls hP hS hl
      exact f_MM_leads_j175 hE hKy C hDD n u66_x2 u66_x3 u66_M0 u66_Mm u66_M1 u66_rt z q5.2.1 h h0 h1 _ _ _ hP hS (lv_sub hl [0, 1, 2, 3, 4] rfl)
    · replace h := o_tt c21 h
      refine lv_iconst (v := (1:Int32)) hx hb d_MM_leads_96 (by decide) ?_
      refine lv_goto (tgt := 101) hx hb d_MM_leads_97 (by decide) ?_
      refine lv_istore (lv' := [(5, .int (1:Int32)), (0, .ref (ad 0)), (2, .int u66_x2), (3, .int u66_x3), (4, .int z)]) hx hb d_MM_leads_101 hl (by decide) rfl (fun ls hl => ?_)
      refine lv_iconst (v := (0:Int32)) hx hb d_MM_leads_103 (by decide) ?_
      refine lv_istore (lv' := [(6, .int (0:Int32)), (5, .int (1:Int32)), (0, .ref (ad 0)), (2, .int u66_x2), (3, .int u66_x3), (4, .int z)]) hx hb d_MM_leads_104 hl (by decide) rfl (fun ls hl => ?_)
      obtain ⟨q6, hq6, h⟩ := o_bd_some h
      refine o_sim2 (AH := fun zz => o_At p l e rm_MM_leads s m args below meth c _ m_cls D A 7 106 [] (m_cw ad ca ky ty u66_rt u66_Mm u66_M0 u66_M1) [(0, .ref (ad 0)), (2, .int u66_x2), (3, .int u66_x3), (4, .int z), (5, .int zz.1), (6, .int zz.2)]) (AX := fun qq => o_At p l e rm_MM_leads s m args below meth c _ m_cls D A 7 175 [] (m_cw ad ca ky ty u66_rt u66_Mm u66_M0 u66_M1) [(0, .ref (ad 0)), (2, .int u66_x2), (3, .int u66_x3), (4, .int z), (5, .int qq.2.1)]) (fun zz qq h h0 h1 => f_MM_leads_b106 hE hKy C hDD n u66_x2 u66_x3 z u66_M0 u66_Mm u66_M1 u66_rt zz qq h h0 h1) n _ q6 hq6 ?_ _ _ _ hP hS (lv_sub hl [2, 3, 4, 5, 1, 0] rfl)
      intro H locs ls hP hS hl
      exact f_MM_leads_j175 hE hKy C hDD n u66_x2 u66_x3 u66_M0 u66_Mm u66_M1 u66_rt z q6.2.1 h h0 h1 _ _ _ hP hS (lv_sub hl [0, 1, 2, 3, 4] rfl)
set_option maxHeartbeats 4000000 in
set_option maxRecDepth 100000 in
theorem e_MM_leads {E : (Nat → Prop) → State → Heap → Prop} {D : va_G} {ad kd sd vd xd : Nat → Nat} {ca : Nat → ClassId} {ky ty : Nat → Option Nat} (hE : o_EK E kd sd vd xd) (hKy : m_KY ky ty sd) (l : Launch) (n : Nat) (x1 : Int32) (M0 : SMT) (Mm : SMM) (M1 : SMT) (rt : Nat) {r : Int32 × SMM} (h : m_MM_leads n x1 M0 Mm = some r) : o_Cn E l D m_cls (m_tys ca) y_MM_leads cc_MM_leads rm_MM_leads [.ref (ad 0), .int x1] (m_cw ad ca ky ty rt Mm M0 M1) (m_cw ad ca ky ty rt r.2 M0 M1) (some (.int r.1)) := by
  refine o_Cn_of (by decide) (Nat.le_of_ble_eq_true rfl) ?_
  intro p e s m below meth c A ls C hD hP hS hl
  have hDD : ∀ (rt : Nat) (Mm : SMM) (M0 : SMT) (M1 : SMT), va_D A (m_cw ad ca ky ty rt Mm M0 M1) := fun _ _ _ _ => o_D_map hD rfl
  have hl : lv_has ls 7 [(0, .ref (ad 0)), (1, .int x1)] := hl
  unfold m_MM_leads at h
  have C0 := C
  obtain ⟨hx, hb, -, -, -, hown, hts, hK, -, -⟩ := C0
  refine lv_aload_n hx hb d_MM_leads_0 rfl (lv_at hl 0 rfl) ?_
  refine o_get (v := .ref (ad 33)) C in_MM hP 0 mw_0 rfl 4 (by decide) k_7_234 rfl rfl d_MM_leads_1 ?_
  refine o_get (v := .ref (ad 37)) C in_MT hP 33 mw_33 rfl 3 (by decide) k_7_107 rfl rfl d_MM_leads_4 ?_
  refine lv_iload_n hx hb d_MM_leads_7 rfl (lv_at hl 1 rfl) ?_
  obtain ⟨g1, h⟩ := o_gd_some h
  refine o_iald (f := (MT_many M0)) C hP 37 35 mw_37 rfl g1 d_MM_leads_8 ?_
  refine lv_topi (fun x2_9 ex2_9 => ?_)
  replace h := o_nm_at ex2_9 h
  refine lv_istore_n (lv' := [(2, .int x2_9), (0, .ref (ad 0)), (1, .int x1)]) hx hb d_MM_leads_9 rfl hl (by decide) rfl (fun ls hl => ?_)
  refine lv_aload_n hx hb d_MM_leads_10 rfl (lv_at hl 1 rfl) ?_
  refine o_get (v := .ref (ad 33)) C in_MM hP 0 mw_0 rfl 4 (by decide) k_7_234 rfl rfl d_MM_leads_11 ?_
  refine o_get (v := .ref (ad 43)) C in_MT hP 33 mw_33 rfl 9 (by decide) k_7_119 rfl rfl d_MM_leads_14 ?_
  refine lv_iload_n hx hb d_MM_leads_17 rfl (lv_at hl 2 rfl) ?_
  obtain ⟨g2, h⟩ := o_gd_some h
  refine o_iald (f := (MT_from M0)) C hP 43 41 mw_43 rfl g2 d_MM_leads_18 ?_
  refine lv_topi (fun x3_19 ex3_19 => ?_)
  replace h := o_nm_at ex3_19 h
  refine lv_istore_n (lv' := [(3, .int x3_19), (2, .int x2_9), (0, .ref (ad 0)), (1, .int x1)]) hx hb d_MM_leads_19 rfl hl (by decide) rfl (fun ls hl => ?_)
  refine lv_iload_n hx hb d_MM_leads_20 rfl (lv_at hl 1 rfl) ?_
  refine lv_if_eq (tgt := 38) hx hb d_MM_leads_21 (by decide) (fun c3 => ?_) (fun c3 => ?_)
  · replace h := o_tt c3 h
    refine lv_iconst (v := (-1:Int32)) hx hb d_MM_leads_38 (by decide) ?_
    cases h
    exact o_ri (v := (-1:Int32)) C hP hS d_MM_leads_39
  · replace h := o_ff c3 h
    refine lv_aload_n hx hb d_MM_leads_24 rfl (lv_at hl 2 rfl) ?_
    refine o_get (v := .ref (ad 33)) C in_MM hP 0 mw_0 rfl 4 (by decide) k_7_234 rfl rfl d_MM_leads_25 ?_
    refine o_get (v := .ref (ad 44)) C in_MT hP 33 mw_33 rfl 10 (by decide) k_7_121 rfl rfl d_MM_leads_28 ?_
    refine lv_iload_n hx hb d_MM_leads_31 rfl (lv_at hl 0 rfl) ?_
    obtain ⟨g4, h⟩ := o_gd_some h
    refine o_iald (f := (MT_characters M0)) C hP 44 42 mw_44 rfl g4 d_MM_leads_32 ?_
    refine lv_bipush (v := (35:Int32)) hx hb d_MM_leads_33 (by decide) ?_
    refine lv_icmp_eq (tgt := 40) hx hb d_MM_leads_35 (by decide) (fun c5 => ?_) (fun c5 => ?_)
    · replace h := o_tt c5 h
      refine lv_iload_n hx hb d_MM_leads_40 rfl (lv_at hl 1 rfl) ?_
      refine lv_iconst (v := (1:Int32)) hx hb d_MM_leads_41 (by decide) ?_
      refine lv_icmp_ne (tgt := 47) hx hb d_MM_leads_42 (by decide) (fun c6 => ?_) (fun c6 => ?_)
      · replace h := o_ff c6 h
        refine lv_aload_n hx hb d_MM_leads_47 rfl (lv_at hl 2 rfl) ?_
        refine o_get (v := .ref (ad 33)) C in_MM hP 0 mw_0 rfl 4 (by decide) k_7_234 rfl rfl d_MM_leads_48 ?_
        refine o_get (v := .ref (ad 44)) C in_MT hP 33 mw_33 rfl 10 (by decide) k_7_121 rfl rfl d_MM_leads_51 ?_
        refine lv_iload_n hx hb d_MM_leads_54 rfl (lv_at hl 0 rfl) ?_
        refine lv_iconst (v := (1:Int32)) hx hb d_MM_leads_55 (by decide) ?_
        refine lv_iadd hx hb d_MM_leads_56 ?_
        obtain ⟨g7, h⟩ := o_gd_some h
        refine o_iald (f := (MT_characters M0)) C hP 44 42 mw_44 rfl g7 d_MM_leads_57 ?_
        refine lv_bipush (v := (47:Int32)) hx hb d_MM_leads_58 (by decide) ?_
        refine lv_icmp_eq (tgt := 196) hx hb d_MM_leads_60 (by decide) (fun c8 => ?_) (fun c8 => ?_)
        · replace h := o_tt c8 h
          refine lv_aload_n hx hb d_MM_leads_196 rfl (lv_at hl 2 rfl) ?_
          refine lv_iload_n hx hb d_MM_leads_197 rfl (lv_at hl 0 rfl) ?_
          refine lv_iconst (v := (2:Int32)) hx hb d_MM_leads_198 (by decide) ?_
          refine lv_iadd hx hb d_MM_leads_199 ?_
          refine lv_iload_n hx hb d_MM_leads_200 rfl (lv_at hl 0 rfl) ?_
          refine lv_iload_n hx hb d_MM_leads_201 rfl (lv_at hl 1 rfl) ?_
          refine lv_iadd hx hb d_MM_leads_202 ?_
          obtain ⟨q1, hq1, h⟩ := o_bd_some h
          refine o_V (st1 := [.int q1.1]) (w1 := (m_cw ad ca ky ty rt q1.2 M0 M1)) hE.1 C (e_MM_decode hE hKy l n (x3_19 + (2:Int32)) (x3_19 + x2_9) M0 Mm M1 rt hq1) hP (hDD _ _ _ _) hS hl.1 rfl mw_0 k_9_183 k_9_185 k_s_112 k_1_12 k_9_186 hv_MM_decode rfl rfl ⟨(Nat.le_of_ble_eq_true rfl), (Nat.le_of_ble_eq_true rfl)⟩ rfl (Nat.le_of_ble_eq_true rfl) ⟨Nat.zero_le _, Nat.zero_le _⟩ rfl d_MM_leads_203 (fun H locs hP hS => ?_)
          refine lv_if_ne (tgt := 211) hx hb d_MM_leads_206 (by decide) (fun c9 => ?_) (fun c9 => ?_)
          · replace h := o_ff c9 h
            refine lv_iconst (v := (0:Int32)) hx hb d_MM_leads_211 (by decide) ?_
            refine lv_istore (lv' := [(4, .int (0:Int32)), (3, .int x3_19), (2, .int x2_9), (0, .ref (ad 0)), (1, .int x1)]) hx hb d_MM_leads_212 hl (by decide) rfl (fun ls hl => ?_)
            refine lv_iconst (v := (0:Int32)) hx hb d_MM_leads_214 (by decide) ?_
            refine lv_istore (lv' := [(5, .int (0:Int32)), (4, .int (0:Int32)), (3, .int x3_19), (2, .int x2_9), (0, .ref (ad 0)), (1, .int x1)]) hx hb d_MM_leads_215 hl (by decide) rfl (fun ls hl => ?_)
            obtain ⟨q4, hq4, h⟩ := o_bd_some h
            refine o_sim2 (AH := fun zz => o_At p l e rm_MM_leads s m _ below meth c _ m_cls D A 7 217 [] (m_cw ad ca ky ty rt zz.2.2 M0 M1) [(0, .ref (ad 0)), (4, .int zz.1), (5, .int zz.2.1)]) (AX := fun qq => if qq.1 = 1 then o_At p l e rm_MM_leads s m _ below meth c _ m_cls D A 7 265 [] (m_cw ad ca ky ty rt qq.2.2.2 M0 M1) [] else o_At p l e rm_MM_leads s m _ below meth c _ m_cls D A 7 276 [] (m_cw ad ca ky ty rt qq.2.2.2 M0 M1) [(0, .ref (ad 0)), (4, .int qq.2.1)]) (fun zz qq h h0 h1 => f_MM_leads_b217 hE hKy C hDD n M0 M1 rt zz qq h h0 h1) n _ q4 hq4 ?_ _ _ _ hP hS (lv_sub hl [4, 1, 0] rfl)
            by_cases c17 : q4.1 = 1
            · replace h := o_tt c17 h
              refine o_ip c17 ?_
              intro H locs ls hP hS hl
              refine lv_iconst (v := (-1:Int32)) hx hb d_MM_leads_265 (by decide) ?_
              cases h
              exact o_ri (v := (-1:Int32)) C hP hS d_MM_leads_266
            replace h := o_ff c17 h
            refine o_in_ c17 ?_
            intro H locs ls hP hS hl
            refine lv_aload_n hx hb d_MM_leads_276 rfl (lv_at hl 0 rfl) ?_
            refine o_get (v := .ref (ad 27)) C in_MM hP 0 mw_0 rfl 46 (by decide) k_8_36 rfl rfl d_MM_leads_277 ?_
            refine lv_iload hx hb d_MM_leads_280 (lv_at hl 1 rfl) ?_
            obtain ⟨g15, h⟩ := o_gd_some h
            refine o_zald (f := (MM_isSchema q4.2.2.2)) C hP 27 26 mw_27 rfl g15 d_MM_leads_282 ?_
            refine lv_if_eq (tgt := 291) hx hb d_MM_leads_283 (by decide) (fun c16 => ?_) (fun c16 => ?_)
            · replace h := o_tt c16 h
              refine lv_iconst (v := (-1:Int32)) hx hb d_MM_leads_291 (by decide) ?_
              cases h
              exact o_ri (v := (-1:Int32)) C hP hS d_MM_leads_292
            · replace h := o_ff c16 h
              refine lv_iload hx hb d_MM_leads_286 (lv_at hl 1 rfl) ?_
              refine lv_goto (tgt := 292) hx hb d_MM_leads_288 (by decide) ?_
              cases h
              exact o_ri C hP hS d_MM_leads_292
          · replace h := o_tt c9 h
            refine lv_iconst (v := (-1:Int32)) hx hb d_MM_leads_209 (by decide) ?_
            cases h
            exact o_ri (v := (-1:Int32)) C hP hS d_MM_leads_210
        · replace h := o_ff c8 h
          refine lv_iconst (v := (0:Int32)) hx hb d_MM_leads_63 (by decide) ?_
          refine lv_istore (lv' := [(4, .int (0:Int32)), (3, .int x3_19), (2, .int x2_9), (0, .ref (ad 0)), (1, .int x1)]) hx hb d_MM_leads_64 hl (by decide) rfl (fun ls hl => ?_)
          obtain ⟨q7, hq7, h⟩ := o_bd_some h
          refine o_sim2 (AH := fun zz => o_At p l e rm_MM_leads s m _ below meth c _ m_cls D A 7 66 [] (m_cw ad ca ky ty rt Mm M0 M1) [(0, .ref (ad 0)), (2, .int x2_9), (3, .int x3_19), (4, .int zz)]) (AX := fun qq => if qq.1 = 1 then o_At p l e rm_MM_leads s m _ below meth c _ m_cls D A 7 180 [] (m_cw ad ca ky ty rt Mm M0 M1) [(0, .ref (ad 0)), (4, .int qq.2)] else o_At p l e rm_MM_leads s m _ below meth c _ m_cls D A 7 194 [] (m_cw ad ca ky ty rt Mm M0 M1) []) (fun zz qq h h0 h1 => f_MM_leads_b66 hE hKy C hDD n x2_9 x3_19 M0 Mm M1 rt zz qq h h0 h1) n _ q7 hq7 ?_ _ _ _ hP hS (lv_sub hl [3, 2, 1, 0] rfl)
          by_cases c31 : q7.1 = 1
          · replace h := o_tt c31 h
            refine o_ip c31 ?_
            intro H locs ls hP hS hl
            refine lv_aload_n hx hb d_MM_leads_180 rfl (lv_at hl 0 rfl) ?_
            refine o_get (v := .ref (ad 24)) C in_MM hP 0 mw_0 rfl 43 (by decide) k_8_33 rfl rfl d_MM_leads_181 ?_
            refine lv_iload hx hb d_MM_leads_184 (lv_at hl 1 rfl) ?_
            obtain ⟨g30, h⟩ := o_gd_some h
            refine o_iald (f := (MM_anchorSchema Mm)) C hP 24 23 mw_24 rfl g30 d_MM_leads_186 ?_
            cases h
            exact o_ri (v := ((MM_anchorSchema Mm) q7.2.toNatClampNeg)) C hP hS d_MM_leads_187
          replace h := o_ff c31 h
          refine o_in_ c31 ?_
          intro H locs ls hP hS hl
          refine lv_iconst (v := (-1:Int32)) hx hb d_MM_leads_194 (by decide) ?_
          cases h
          exact o_ri (v := (-1:Int32)) C hP hS d_MM_leads_195
      · replace h := o_tt c6 h
        refine lv_iconst (v := (0:Int32)) hx hb d_MM_leads_45 (by decide) ?_
        cases h
        exact o_ri (v := (0:Int32)) C hP hS d_MM_leads_46
    · replace h := o_ff c5 h
      refine lv_iconst (v := (-1:Int32)) hx hb d_MM_leads_38 (by decide) ?_
      cases h
      exact o_ri (v := (-1:Int32)) C hP hS d_MM_leads_39
set_option maxHeartbeats 4000000 in
set_option maxRecDepth 100000 in
theorem e_MM_go {E : (Nat → Prop) → State → Heap → Prop} {D : va_G} {ad kd sd vd xd : Nat → Nat} {ca : Nat → ClassId} {ky ty : Nat → Option Nat} (hE : o_EK E kd sd vd xd) (hKy : m_KY ky ty sd) (l : Launch) (x1 : Int32) (x2 : Int32) (Mm : SMM) (M0 : SMT) (M1 : SMT) (rt : Nat) {r : Int32 × SMM} (h : m_MM_go x1 x2 Mm = some r) : o_Cn E l D m_cls (m_tys ca) y_MM_go cc_MM_go rm_MM_go [.ref (ad 0), .int x1, .int x2] (m_cw ad ca ky ty rt Mm M0 M1) (m_cw ad ca ky ty rt r.2 M0 M1) (some (.int r.1)) := by
  refine o_Cn_of (by decide) (Nat.le_of_ble_eq_true rfl) ?_
  intro p e s m below meth c A ls C hD hP hS hl
  have hDD : ∀ (rt : Nat) (Mm : SMM) (M0 : SMT) (M1 : SMT), va_D A (m_cw ad ca ky ty rt Mm M0 M1) := fun _ _ _ _ => o_D_map hD rfl
  have hl : lv_has ls 3 [(0, .ref (ad 0)), (1, .int x1), (2, .int x2)] := hl
  unfold m_MM_go at h
  have C0 := C
  obtain ⟨hx, hb, -, -, -, hown, hts, hK, -, -⟩ := C0
  refine lv_aload_n hx hb d_MM_go_0 rfl (lv_at hl 0 rfl) ?_
  refine o_get (v := .ref (ad 28)) C in_MM hP 0 mw_0 rfl 47 (by decide) k_8_37 rfl rfl d_MM_go_1 ?_
  refine lv_iload_n hx hb d_MM_go_4 rfl (lv_at hl 2 rfl) ?_
  obtain ⟨g1, h⟩ := o_gd_some h
  refine o_zald (f := (MM_seen1 Mm)) C hP 28 27 mw_28 rfl g1 d_MM_go_5 ?_
  refine lv_if_ne (tgt := 18) hx hb d_MM_go_6 (by decide) (fun c2 => ?_) (fun c2 => ?_)
  · replace h := o_ff c2 h
    refine lv_iload_n hx hb d_MM_go_18 rfl (lv_at hl 1 rfl) ?_
    cases h
    exact o_ri C hP hS d_MM_go_19
  · replace h := o_tt c2 h
    refine lv_iload_n hx hb d_MM_go_9 rfl (lv_at hl 1 rfl) ?_
    refine lv_aload_n hx hb d_MM_go_10 rfl (lv_at hl 0 rfl) ?_
    refine o_get (v := .ref (ad 26)) C in_MM hP 0 mw_0 rfl 45 (by decide) k_8_35 rfl rfl d_MM_go_11 ?_
    refine va_alen (v := (2000:Int32)) hx hb hK hP 26 25 mw_26 rfl rfl d_MM_go_14 ?_
    refine lv_icmp_ne (tgt := 20) hx hb d_MM_go_15 (by decide) (fun c3 => ?_) (fun c3 => ?_)
    · replace h := o_ff c3 h
      refine lv_aload_n hx hb d_MM_go_20 rfl (lv_at hl 0 rfl) ?_
      refine o_get (v := .ref (ad 26)) C in_MM hP 0 mw_0 rfl 45 (by decide) k_8_35 rfl rfl d_MM_go_21 ?_
      refine lv_iload_n hx hb d_MM_go_24 rfl (lv_at hl 1 rfl) ?_
      refine lv_iload_n hx hb d_MM_go_25 rfl (lv_at hl 2 rfl) ?_
      obtain ⟨g4, h⟩ := o_gd_some h
      refine o_iast (f := (MM_route Mm)) (w1 := (m_cw ad ca ky ty rt (MM_mk (MM_err Mm) (MM_fed Mm) (MM_wrong Mm) (MM_octets Mm) (MM_nodeKind Mm) (MM_nodeA Mm) (MM_nodeB Mm) (MM_nodeC Mm) (MM_nodeNext Mm) (MM_low Mm) (MM_high Mm) (MM_setFrom Mm) (MM_setTo Mm) (MM_setNot Mm) (MM_op Mm) (MM_opA Mm) (MM_opB Mm) (MM_mark Mm) (MM_now Mm) (MM_then Mm) (MM_todo Mm) (MM_nodes Mm) (MM_sets Mm) (MM_ranges Mm) (MM_steps Mm) (MM_pat Mm) (MM_patEnd Mm) (MM_round Mm) (MM_many1 Mm) (MM_broken Mm) (MM_checked Mm) (MM_faultKind Mm) (MM_faultValue Mm) (MM_latestFault Mm) (MM_anchors Mm) (MM_key Mm) (MM_target Mm) (MM_anchorValue Mm) (MM_anchorSchema Mm) (MM_path Mm) (upd (MM_route Mm) x1.toNatClampNeg x2) (MM_isSchema Mm) (MM_seen1 Mm) (MM_pathSize Mm) (MM_octetRow Mm) (MM_partRow Mm) (MM_pairValue Mm) (MM_pairKey Mm) (MM_pairs Mm) (MM_judged Mm) (MM_deepest Mm) (MM_depth Mm) (MM_over Mm) (MM_seen Mm)) M0 M1)) C hP (hDD _ _ _ _) hS 26 25 mw_26 rfl g4 rfl d_MM_go_26 (fun H locs hP hS => ?_)
      refine lv_iload_n hx hb d_MM_go_27 rfl (lv_at hl 1 rfl) ?_
      refine lv_iconst (v := (1:Int32)) hx hb d_MM_go_28 (by decide) ?_
      refine lv_iadd hx hb d_MM_go_29 ?_
      cases h
      exact o_ri (v := (x1 + (1:Int32))) C hP hS d_MM_go_30
    · replace h := o_tt c3 h
      refine lv_iload_n hx hb d_MM_go_18 rfl (lv_at hl 1 rfl) ?_
      cases h
      exact o_ri C hP hS d_MM_go_19
set_option maxHeartbeats 4000000 in
set_option maxRecDepth 100000 in
theorem f_MM_comesBack_b2 {E : (Nat → Prop) → State → Heap → Prop} {p : Program} {l : Launch} {e : Env} {s : State} {m : MethodId} {args : Array Value} {below : List Frame} {meth : Method} {c : Code} {D : va_G} {ad kd sd vd xd : Nat → Nat} {ca : Nat → ClassId} {A : Nat → Prop} {ky ty : Nat → Option Nat} {Q : State → Prop} (hE : o_EK E kd sd vd xd) (hKy : m_KY ky ty sd) (C : o_Cx E p s m args meth c D m_cls (m_tys ca) "SchemaJudgeModel" b_MM_comesBack (some .boolean) 8 cc_MM_comesBack A) (hDD : ∀ (rt : Nat) (Mm : SMM) (M0 : SMT) (M1 : SMT), va_D A (m_cw ad ca ky ty rt Mm M0 M1)) (n : Nat) (u2_x1 : Int32) (u2_M0 : SMT) (u2_M1 : SMT) (u2_rt : Nat) (z : Int32 × SMM) (q : Nat × Int32 × SMM) (h : m_MM_comesBack_b2 n u2_x1 u2_M0 z = some q) (h0 : q.1 = 0 → o_At p l e rm_MM_comesBack s m args below meth c Q m_cls D A 8 2 [] (m_cw ad ca ky ty u2_rt q.2.2 u2_M0 u2_M1) [(0, .ref (ad 0)), (1, .int u2_x1), (2, .int q.2.1)]) (h1 : q.1 ≠ 0 → (o_At p l e rm_MM_comesBack s m args below meth c Q m_cls D A 8 26 [] (m_cw ad ca ky ty u2_rt q.2.2 u2_M0 u2_M1) [(0, .ref (ad 0)), (1, .int u2_x1)])) : o_At p l e rm_MM_comesBack s m args below meth c Q m_cls D A 8 2 [] (m_cw ad ca ky ty u2_rt z.2 u2_M0 u2_M1) [(0, .ref (ad 0)), (1, .int u2_x1), (2, .int z.1)] := by
  unfold m_MM_comesBack_b2 at h
  intro H locs ls hP hS hl
  have C0 := C
  obtain ⟨hx, hb, -, -, -, hown, hts, hK, -, -⟩ := C0
  refine lv_iload_n hx hb d_MM_comesBack_2 rfl (lv_at hl 2 rfl) ?_
  refine lv_aload_n hx hb d_MM_comesBack_3 rfl (lv_at hl 0 rfl) ?_
  refine o_get (v := .ref (ad 33)) C in_MM hP 0 mw_0 rfl 4 (by decide) k_7_234 rfl rfl d_MM_comesBack_4 ?_
  refine o_get (v := .int (MT_values u2_M0)) C in_MT hP 33 mw_33 rfl 13 (by decide) k_7_127 rfl rfl d_MM_comesBack_7 ?_
  refine lv_icmp_ge (tgt := 26) hx hb d_MM_comesBack_10 (by decide) (fun c1 => ?_) (fun c1 => ?_)
  · replace h := o_tt c1 h
    cases h
    exact h1 (Nat.succ_ne_zero 0) _ _ _ hP hS (lv_sub hl [0, 1] rfl)
  · replace h := o_ff c1 h
    refine lv_aload_n hx hb d_MM_comesBack_13 rfl (lv_at hl 0 rfl) ?_
    refine o_get (v := .ref (ad 28)) C in_MM hP 0 mw_0 rfl 47 (by decide) k_8_37 rfl rfl d_MM_comesBack_14 ?_
    refine lv_iload_n hx hb d_MM_comesBack_17 rfl (lv_at hl 2 rfl) ?_
    refine lv_iconst (v := (0:Int32)) hx hb d_MM_comesBack_18 (by decide) ?_
    obtain ⟨g2, h⟩ := o_gd_some h
    refine o_zast (f := (MM_seen1 z.2)) (w1 := (m_cw ad ca ky ty u2_rt (MM_mk (MM_err z.2) (MM_fed z.2) (MM_wrong z.2) (MM_octets z.2) (MM_nodeKind z.2) (MM_nodeA z.2) (MM_nodeB z.2) (MM_nodeC z.2) (MM_nodeNext z.2) (MM_low z.2) (MM_high z.2) (MM_setFrom z.2) (MM_setTo z.2) (MM_setNot z.2) (MM_op z.2) (MM_opA z.2) (MM_opB z.2) (MM_mark z.2) (MM_now z.2) (MM_then z.2) (MM_todo z.2) (MM_nodes z.2) (MM_sets z.2) (MM_ranges z.2) (MM_steps z.2) (MM_pat z.2) (MM_patEnd z.2) (MM_round z.2) (MM_many1 z.2) (MM_broken z.2) (MM_checked z.2) (MM_faultKind z.2) (MM_faultValue z.2) (MM_latestFault z.2) (MM_anchors z.2) (MM_key z.2) (MM_target z.2) (MM_anchorValue z.2) (MM_anchorSchema z.2) (MM_path z.2) (MM_route z.2) (MM_isSchema z.2) (upd (MM_seen1 z.2) z.1.toNatClampNeg (vp_nar .boolean (0:Int32))) (MM_pathSize z.2) (MM_octetRow z.2) (MM_partRow z.2) (MM_pairValue z.2) (MM_pairKey z.2) (MM_pairs z.2) (MM_judged z.2) (MM_deepest z.2) (MM_depth z.2) (MM_over z.2) (MM_seen z.2)) u2_M0 u2_M1)) C hP (hDD _ _ _ _) hS 28 27 mw_28 rfl g2 rfl d_MM_comesBack_19 (fun H locs hP hS => ?_)
    obtain ⟨x2_20, ex2_20⟩ : ∃ y : Int32, y = z.1 + (1:Int32) := ⟨_, rfl⟩
    replace h := o_nm_at ex2_20 h
    refine lv_iinc (v := x2_20) (lv' := [(2, .int x2_20), (0, .ref (ad 0)), (1, .int u2_x1)]) hx hb d_MM_comesBack_20 hl (k := 2) rfl (by rw [ex2_20]; rfl) (by decide) rfl (fun ls hl => ?_)
    refine lv_goto (tgt := 2) hx hb d_MM_comesBack_23 (by decide) ?_
    cases h
    exact h0 rfl _ _ _ hP hS (lv_sub hl [1, 2, 0] rfl)
set_option maxHeartbeats 4000000 in
set_option maxRecDepth 100000 in
theorem f_MM_comesBack_j248 {E : (Nat → Prop) → State → Heap → Prop} {p : Program} {l : Launch} {e : Env} {s : State} {m : MethodId} {args : Array Value} {below : List Frame} {meth : Method} {c : Code} {D : va_G} {ad kd sd vd xd : Nat → Nat} {ca : Nat → ClassId} {A : Nat → Prop} {ky ty : Nat → Option Nat} {Q : State → Prop} (hE : o_EK E kd sd vd xd) (hKy : m_KY ky ty sd) (C : o_Cx E p s m args meth c D m_cls (m_tys ca) "SchemaJudgeModel" b_MM_comesBack (some .boolean) 8 cc_MM_comesBack A) (hDD : ∀ (rt : Nat) (Mm : SMM) (M0 : SMT) (M1 : SMT), va_D A (m_cw ad ca ky ty rt Mm M0 M1)) (n : Nat) (u128_x1 : Int32) (u128_x3 : Int32) (u128_M0 : SMT) (u128_M1 : SMT) (u128_rt : Nat) (x2 : Int32) (x5 : Int32) (Mm : SMM) {q : Nat × Int32 × Int32 × SMM} (h : m_MM_comesBack_j248 n u128_x1 x2 u128_x3 x5 u128_M0 Mm = some q) (h0 : q.1 = 0 → o_At p l e rm_MM_comesBack s m args below meth c Q m_cls D A 8 128 [] (m_cw ad ca ky ty u128_rt q.2.2.2 u128_M0 u128_M1) [(0, .ref (ad 0)), (1, .int u128_x1), (2, .int q.2.1), (3, .int u128_x3), (5, .int q.2.2.1)]) (h1 : q.1 ≠ 0 → (o_At p l e rm_MM_comesBack s m args below meth c Q m_cls D A 8 263 [] (m_cw ad ca ky ty u128_rt q.2.2.2 u128_M0 u128_M1) [(0, .ref (ad 0)), (1, .int u128_x1), (2, .int q.2.1), (3, .int u128_x3)])) : o_At p l e rm_MM_comesBack s m args below meth c Q m_cls D A 8 248 [] (m_cw ad ca ky ty u128_rt Mm u128_M0 u128_M1) [(0, .ref (ad 0)), (1, .int u128_x1), (2, .int x2), (3, .int u128_x3), (5, .int x5)] := by
  unfold m_MM_comesBack_j248 at h
  intro H locs ls hP hS hl
  have C0 := C
  obtain ⟨hx, hb, -, -, -, hown, hts, hK, -, -⟩ := C0
  refine lv_aload_n hx hb d_MM_comesBack_248 rfl (lv_at hl 0 rfl) ?_
  refine o_get (v := .ref (ad 33)) C in_MM hP 0 mw_0 rfl 4 (by decide) k_7_234 rfl rfl d_MM_comesBack_249 ?_
  refine o_get (v := .ref (ad 41)) C in_MT hP 33 mw_33 rfl 7 (by decide) k_7_115 rfl rfl d_MM_comesBack_252 ?_
  refine lv_iload hx hb d_MM_comesBack_255 (lv_at hl 4 rfl) ?_
  obtain ⟨g18, h⟩ := o_gd_some h
  refine o_iald (f := (MT_next u128_M0)) C hP 41 39 mw_41 rfl g18 d_MM_comesBack_257 ?_
  refine lv_topi (fun x5_258 ex5_258 => ?_)
  replace h := o_nm_at ex5_258 h
  refine lv_istore (lv' := [(5, .int x5_258), (0, .ref (ad 0)), (1, .int u128_x1), (2, .int x2), (3, .int u128_x3)]) hx hb d_MM_comesBack_258 hl (by decide) rfl (fun ls hl => ?_)
  refine lv_goto (tgt := 128) hx hb d_MM_comesBack_260 (by decide) ?_
  cases h
  exact h0 rfl _ _ _ hP hS (lv_sub hl [1, 2, 3, 4, 0] rfl)
set_option maxHeartbeats 4000000 in
set_option maxRecDepth 100000 in
theorem f_MM_comesBack_b220 {E : (Nat → Prop) → State → Heap → Prop} {p : Program} {l : Launch} {e : Env} {s : State} {m : MethodId} {args : Array Value} {below : List Frame} {meth : Method} {c : Code} {D : va_G} {ad kd sd vd xd : Nat → Nat} {ca : Nat → ClassId} {A : Nat → Prop} {ky ty : Nat → Option Nat} {Q : State → Prop} (hE : o_EK E kd sd vd xd) (hKy : m_KY ky ty sd) (C : o_Cx E p s m args meth c D m_cls (m_tys ca) "SchemaJudgeModel" b_MM_comesBack (some .boolean) 8 cc_MM_comesBack A) (hDD : ∀ (rt : Nat) (Mm : SMM) (M0 : SMT) (M1 : SMT), va_D A (m_cw ad ca ky ty rt Mm M0 M1)) (n : Nat) (u220_x1 : Int32) (u220_x3 : Int32) (u220_x5 : Int32) (u220_M0 : SMT) (u220_M1 : SMT) (u220_rt : Nat) (z : Int32 × Int32 × SMM) (q : Nat × Int32 × Int32 × SMM) (h : m_MM_comesBack_b220 n u220_x1 u220_x3 u220_x5 u220_M0 z = some q) (h0 : q.1 = 0 → o_At p l e rm_MM_comesBack s m args below meth c Q m_cls D A 8 220 [] (m_cw ad ca ky ty u220_rt q.2.2.2 u220_M0 u220_M1) [(0, .ref (ad 0)), (1, .int u220_x1), (2, .int q.2.1), (3, .int u220_x3), (5, .int u220_x5), (7, .int q.2.2.1)]) (h1 : q.1 ≠ 0 → (o_At p l e rm_MM_comesBack s m args below meth c Q m_cls D A 8 248 [] (m_cw ad ca ky ty u220_rt q.2.2.2 u220_M0 u220_M1) [(0, .ref (ad 0)), (1, .int u220_x1), (2, .int q.2.1), (3, .int u220_x3), (5, .int u220_x5)])) : o_At p l e rm_MM_comesBack s m args below meth c Q m_cls D A 8 220 [] (m_cw ad ca ky ty u220_rt z.2.2 u220_M0 u220_M1) [(0, .ref (ad 0)), (1, .int u220_x1), (2, .int z.1), (3, .int u220_x3), (5, .int u220_x5), (7, .int z.2.1)] := by
  unfold m_MM_comesBack_b220 at h
  intro H locs ls hP hS hl
  have C0 := C
  obtain ⟨hx, hb, -, -, -, hown, hts, hK, -, -⟩ := C0
  refine lv_iload hx hb d_MM_comesBack_220 (lv_at hl 5 rfl) ?_
  refine lv_if_lt (tgt := 248) hx hb d_MM_comesBack_222 (by decide) (fun c20 => ?_) (fun c20 => ?_)
  · replace h := o_tt c20 h
    cases h
    exact h1 (Nat.succ_ne_zero 0) _ _ _ hP hS (lv_sub hl [0, 1, 2, 3, 4] rfl)
  · replace h := o_ff c20 h
    refine lv_aload_n hx hb d_MM_comesBack_225 rfl (lv_at hl 0 rfl) ?_
    refine lv_iload_n hx hb d_MM_comesBack_226 rfl (lv_at hl 2 rfl) ?_
    refine lv_iload hx hb d_MM_comesBack_227 (lv_at hl 5 rfl) ?_
    obtain ⟨q2, hq2, h⟩ := o_bd_some h
    refine o_V (st1 := [.int q2.1]) (w1 := (m_cw ad ca ky ty u220_rt q2.2 u220_M0 u220_M1)) hE.1 C (e_MM_go hE hKy l z.1 z.2.1 z.2.2 u220_M0 u220_M1 u220_rt hq2) hP (hDD _ _ _ _) hS hl.1 rfl mw_0 k_9_198 k_9_200 k_s_115 k_1_12 k_9_201 hv_MM_go rfl rfl ⟨(Nat.le_of_ble_eq_true rfl), (Nat.le_of_ble_eq_true rfl)⟩ rfl (Nat.le_of_ble_eq_true rfl) ⟨Nat.zero_le _, Nat.zero_le _⟩ rfl d_MM_comesBack_229 (fun H locs hP hS => ?_)
    refine lv_istore_n (lv' := [(2, .int q2.1), (0, .ref (ad 0)), (1, .int u220_x1), (3, .int u220_x3), (5, .int u220_x5), (7, .int z.2.1)]) hx hb d_MM_comesBack_232 rfl hl (by decide) rfl (fun ls hl => ?_)
    refine lv_aload_n hx hb d_MM_comesBack_233 rfl (lv_at hl 1 rfl) ?_
    refine o_get (v := .ref (ad 33)) C in_MM hP 0 mw_0 rfl 4 (by decide) k_7_234 rfl rfl d_MM_comesBack_234 ?_
    refine o_get (v := .ref (ad 41)) C in_MT hP 33 mw_33 rfl 7 (by decide) k_7_115 rfl rfl d_MM_comesBack_237 ?_
    refine lv_iload hx hb d_MM_comesBack_240 (lv_at hl 5 rfl) ?_
    obtain ⟨g21, h⟩ := o_gd_some h
    refine o_iald (f := (MT_next u220_M0)) C hP 41 39 mw_41 rfl g21 d_MM_comesBack_242 ?_
    refine lv_topi (fun x7_243 ex7_243 => ?_)
    replace h := o_nm_at ex7_243 h
    refine lv_istore (lv' := [(7, .int x7_243), (2, .int q2.1), (0, .ref (ad 0)), (1, .int u220_x1), (3, .int u220_x3), (5, .int u220_x5)]) hx hb d_MM_comesBack_243 hl (by decide) rfl (fun ls hl => ?_)
    refine lv_goto (tgt := 220) hx hb d_MM_comesBack_245 (by decide) ?_
    cases h
    exact h0 rfl _ _ _ hP hS (lv_sub hl [2, 3, 1, 4, 5, 0] rfl)
set_option maxHeartbeats 4000000 in
set_option maxRecDepth 100000 in
theorem f_MM_comesBack_j208 {E : (Nat → Prop) → State → Heap → Prop} {p : Program} {l : Launch} {e : Env} {s : State} {m : MethodId} {args : Array Value} {below : List Frame} {meth : Method} {c : Code} {D : va_G} {ad kd sd vd xd : Nat → Nat} {ca : Nat → ClassId} {A : Nat → Prop} {ky ty : Nat → Option Nat} {Q : State → Prop} (hE : o_EK E kd sd vd xd) (hKy : m_KY ky ty sd) (C : o_Cx E p s m args meth c D m_cls (m_tys ca) "SchemaJudgeModel" b_MM_comesBack (some .boolean) 8 cc_MM_comesBack A) (hDD : ∀ (rt : Nat) (Mm : SMM) (M0 : SMT) (M1 : SMT), va_D A (m_cw ad ca ky ty rt Mm M0 M1)) (n : Nat) (u128_x1 : Int32) (u128_x3 : Int32) (u128_M0 : SMT) (u128_M1 : SMT) (u128_rt : Nat) (x2 : Int32) (x5 : Int32) (Mm : SMM) {q : Nat × Int32 × Int32 × SMM} (h : m_MM_comesBack_j208 n u128_x1 x2 u128_x3 x5 u128_M0 Mm = some q) (h0 : q.1 = 0 → o_At p l e rm_MM_comesBack s m args below meth c Q m_cls D A 8 128 [] (m_cw ad ca ky ty u128_rt q.2.2.2 u128_M0 u128_M1) [(0, .ref (ad 0)), (1, .int u128_x1), (2, .int q.2.1), (3, .int u128_x3), (5, .int q.2.2.1)]) (h1 : q.1 ≠ 0 → (o_At p l e rm_MM_comesBack s m args below meth c Q m_cls D A 8 263 [] (m_cw ad ca ky ty u128_rt q.2.2.2 u128_M0 u128_M1) [(0, .ref (ad 0)), (1, .int u128_x1), (2, .int q.2.1), (3, .int u128_x3)])) : o_At p l e rm_MM_comesBack s m args below meth c Q m_cls D A 8 208 [] (m_cw ad ca ky ty u128_rt Mm u128_M0 u128_M1) [(0, .ref (ad 0)), (1, .int u128_x1), (2, .int x2), (3, .int u128_x3), (5, .int x5)] := by
  unfold m_MM_comesBack_j208 at h
  intro H locs ls hP hS hl
  have C0 := C
  obtain ⟨hx, hb, -, -, -, hown, hts, hK, -, -⟩ := C0
  refine lv_aload_n hx hb d_MM_comesBack_208 rfl (lv_at hl 0 rfl) ?_
  refine o_get (v := .ref (ad 33)) C in_MM hP 0 mw_0 rfl 4 (by decide) k_7_234 rfl rfl d_MM_comesBack_209 ?_
  refine o_get (v := .ref (ad 40)) C in_MT hP 33 mw_33 rfl 6 (by decide) k_7_113 rfl rfl d_MM_comesBack_212 ?_
  refine lv_iload hx hb d_MM_comesBack_215 (lv_at hl 4 rfl) ?_
  obtain ⟨g19, h⟩ := o_gd_some h
  refine o_iald (f := (MT_first u128_M0)) C hP 40 38 mw_40 rfl g19 d_MM_comesBack_217 ?_
  refine lv_topi (fun x7_218 ex7_218 => ?_)
  replace h := o_nm_at ex7_218 h
  refine lv_istore (lv' := [(7, .int x7_218), (0, .ref (ad 0)), (1, .int u128_x1), (2, .int x2), (3, .int u128_x3), (5, .int x5)]) hx hb d_MM_comesBack_218 hl (by decide) rfl (fun ls hl => ?_)
  obtain ⟨q3, hq3, h⟩ := o_bd_some h
  refine o_sim2 (AH := fun zz => o_At p l e rm_MM_comesBack s m args below meth c _ m_cls D A 8 220 [] (m_cw ad ca ky ty u128_rt zz.2.2 u128_M0 u128_M1) [(0, .ref (ad 0)), (1, .int u128_x1), (2, .int zz.1), (3, .int u128_x3), (5, .int x5), (7, .int zz.2.1)]) (AX := fun qq => o_At p l e rm_MM_comesBack s m args below meth c _ m_cls D A 8 248 [] (m_cw ad ca ky ty u128_rt qq.2.2.2 u128_M0 u128_M1) [(0, .ref (ad 0)), (1, .int u128_x1), (2, .int qq.2.1), (3, .int u128_x3), (5, .int x5)]) (fun zz qq h h0 h1 => f_MM_comesBack_b220 hE hKy C hDD n u128_x1 u128_x3 x5 u128_M0 u128_M1 u128_rt zz qq h h0 h1) n _ q3 hq3 ?_ _ _ _ hP hS (lv_sub hl [1, 2, 3, 4, 5, 0] rfl)
  intro H locs ls hP hS hl
  exact f_MM_comesBack_j248 hE hKy C hDD n u128_x1 u128_x3 u128_M0 u128_M1 u128_rt q3.2.1 x5 q3.2.2.2 h h0 h1 _ _ _ hP hS (lv_sub hl [0, 1, 2, 3, 4] rfl)
set_option maxHeartbeats 4000000 in
set_option maxRecDepth 100000 in
theorem f_MM_comesBack_j201 {E : (Nat → Prop) → State → Heap → Prop} {p : Program} {l : Launch} {e : Env} {s : State} {m : MethodId} {args : Array Value} {below : List Frame} {meth : Method} {c : Code} {D : va_G} {ad kd sd vd xd : Nat → Nat} {ca : Nat → ClassId} {A : Nat → Prop} {ky ty : Nat → Option Nat} {Q : State → Prop} (hE : o_EK E kd sd vd xd) (hKy : m_KY ky ty sd) (C : o_Cx E p s m args meth c D m_cls (m_tys ca) "SchemaJudgeModel" b_MM_comesBack (some .boolean) 8 cc_MM_comesBack A) (hDD : ∀ (rt : Nat) (Mm : SMM) (M0 : SMT) (M1 : SMT), va_D A (m_cw ad ca ky ty rt Mm M0 M1)) (n : Nat) (u128_x1 : Int32) (u128_x3 : Int32) (u128_M0 : SMT) (u128_M1 : SMT) (u128_rt : Nat) (x2 : Int32) (x5 : Int32) (x6 : Int32) (Mm : SMM) {q : Nat × Int32 × Int32 × SMM} (h : m_MM_comesBack_j201 n u128_x1 x2 u128_x3 x5 x6 u128_M0 Mm = some q) (h0 : q.1 = 0 → o_At p l e rm_MM_comesBack s m args below meth c Q m_cls D A 8 128 [] (m_cw ad ca ky ty u128_rt q.2.2.2 u128_M0 u128_M1) [(0, .ref (ad 0)), (1, .int u128_x1), (2, .int q.2.1), (3, .int u128_x3), (5, .int q.2.2.1)]) (h1 : q.1 ≠ 0 → (o_At p l e rm_MM_comesBack s m args below meth c Q m_cls D A 8 263 [] (m_cw ad ca ky ty u128_rt q.2.2.2 u128_M0 u128_M1) [(0, .ref (ad 0)), (1, .int u128_x1), (2, .int q.2.1), (3, .int u128_x3)])) : o_At p l e rm_MM_comesBack s m args below meth c Q m_cls D A 8 201 [] (m_cw ad ca ky ty u128_rt Mm u128_M0 u128_M1) [(0, .ref (ad 0)), (1, .int u128_x1), (2, .int x2), (3, .int u128_x3), (5, .int x5), (6, .int x6)] := by
  unfold m_MM_comesBack_j201 at h
  intro H locs ls hP hS hl
  have C0 := C
  obtain ⟨hx, hb, -, -, -, hown, hts, hK, -, -⟩ := C0
  refine lv_iload hx hb d_MM_comesBack_201 (lv_at hl 5 rfl) ?_
  refine lv_bipush (v := (17:Int32)) hx hb d_MM_comesBack_203 (by decide) ?_
  refine lv_icmp_ne (tgt := 248) hx hb d_MM_comesBack_205 (by decide) (fun c17 => ?_) (fun c17 => ?_)
  · replace h := o_ff c17 h
    exact f_MM_comesBack_j248 hE hKy C hDD n u128_x1 u128_x3 u128_M0 u128_M1 u128_rt x2 x5 Mm h h0 h1 _ _ _ hP hS (lv_sub hl [0, 1, 2, 3, 4] rfl)
  · replace h := o_tt c17 h
    exact f_MM_comesBack_j208 hE hKy C hDD n u128_x1 u128_x3 u128_M0 u128_M1 u128_rt x2 x5 Mm h h0 h1 _ _ _ hP hS (lv_sub hl [0, 1, 2, 3, 4] rfl)
set_option maxHeartbeats 4000000 in
set_option maxRecDepth 100000 in
theorem f_MM_comesBack_j187 {E : (Nat → Prop) → State → Heap → Prop} {p : Program} {l : Launch} {e : Env} {s : State} {m : MethodId} {args : Array Value} {below : List Frame} {meth : Method} {c : Code} {D : va_G} {ad kd sd vd xd : Nat → Nat} {ca : Nat → ClassId} {A : Nat → Prop} {ky ty : Nat → Option Nat} {Q : State → Prop} (hE : o_EK E kd sd vd xd) (hKy : m_KY ky ty sd) (C : o_Cx E p s m args meth c D m_cls (m_tys ca) "SchemaJudgeModel" b_MM_comesBack (some .boolean) 8 cc_MM_comesBack A) (hDD : ∀ (rt : Nat) (Mm : SMM) (M0 : SMT) (M1 : SMT), va_D A (m_cw ad ca ky ty rt Mm M0 M1)) (n : Nat) (u128_x1 : Int32) (u128_x3 : Int32) (u128_M0 : SMT) (u128_M1 : SMT) (u128_rt : Nat) (x2 : Int32) (x5 : Int32) (x6 : Int32) (Mm : SMM) {q : Nat × Int32 × Int32 × SMM} (h : m_MM_comesBack_j187 n u128_x1 x2 u128_x3 x5 x6 u128_M0 Mm = some q) (h0 : q.1 = 0 → o_At p l e rm_MM_comesBack s m args below meth c Q m_cls D A 8 128 [] (m_cw ad ca ky ty u128_rt q.2.2.2 u128_M0 u128_M1) [(0, .ref (ad 0)), (1, .int u128_x1), (2, .int q.2.1), (3, .int u128_x3), (5, .int q.2.2.1)]) (h1 : q.1 ≠ 0 → (o_At p l e rm_MM_comesBack s m args below meth c Q m_cls D A 8 263 [] (m_cw ad ca ky ty u128_rt q.2.2.2 u128_M0 u128_M1) [(0, .ref (ad 0)), (1, .int u128_x1), (2, .int q.2.1), (3, .int u128_x3)])) : o_At p l e rm_MM_comesBack s m args below meth c Q m_cls D A 8 187 [] (m_cw ad ca ky ty u128_rt Mm u128_M0 u128_M1) [(0, .ref (ad 0)), (1, .int u128_x1), (2, .int x2), (3, .int u128_x3), (5, .int x5), (6, .int x6)] := by
  unfold m_MM_comesBack_j187 at h
  intro H locs ls hP hS hl
  have C0 := C
  obtain ⟨hx, hb, -, -, -, hown, hts, hK, -, -⟩ := C0
  refine lv_iload hx hb d_MM_comesBack_187 (lv_at hl 5 rfl) ?_
  refine lv_bipush (v := (10:Int32)) hx hb d_MM_comesBack_189 (by decide) ?_
  refine lv_icmp_lt (tgt := 201) hx hb d_MM_comesBack_191 (by decide) (fun c16 => ?_) (fun c16 => ?_)
  · replace h := o_tt c16 h
    exact f_MM_comesBack_j201 hE hKy C hDD n u128_x1 u128_x3 u128_M0 u128_M1 u128_rt x2 x5 x6 Mm h h0 h1 _ _ _ hP hS (lv_sub hl [0, 1, 2, 3, 4, 5] rfl)
  · replace h := o_ff c16 h
    refine lv_iload hx hb d_MM_comesBack_194 (lv_at hl 5 rfl) ?_
    refine lv_bipush (v := (12:Int32)) hx hb d_MM_comesBack_196 (by decide) ?_
    refine lv_icmp_le (tgt := 208) hx hb d_MM_comesBack_198 (by decide) (fun c22 => ?_) (fun c22 => ?_)
    · replace h := o_tt c22 h
      exact f_MM_comesBack_j208 hE hKy C hDD n u128_x1 u128_x3 u128_M0 u128_M1 u128_rt x2 x5 Mm h h0 h1 _ _ _ hP hS (lv_sub hl [0, 1, 2, 3, 4] rfl)
    · replace h := o_ff c22 h
      exact f_MM_comesBack_j201 hE hKy C hDD n u128_x1 u128_x3 u128_M0 u128_M1 u128_rt x2 x5 x6 Mm h h0 h1 _ _ _ hP hS (lv_sub hl [0, 1, 2, 3, 4, 5] rfl)
set_option maxHeartbeats 4000000 in
set_option maxRecDepth 100000 in
theorem f_MM_comesBack_b128 {E : (Nat → Prop) → State → Heap → Prop} {p : Program} {l : Launch} {e : Env} {s : State} {m : MethodId} {args : Array Value} {below : List Frame} {meth : Method} {c : Code} {D : va_G} {ad kd sd vd xd : Nat → Nat} {ca : Nat → ClassId} {A : Nat → Prop} {ky ty : Nat → Option Nat} {Q : State → Prop} (hE : o_EK E kd sd vd xd) (hKy : m_KY ky ty sd) (C : o_Cx E p s m args meth c D m_cls (m_tys ca) "SchemaJudgeModel" b_MM_comesBack (some .boolean) 8 cc_MM_comesBack A) (hDD : ∀ (rt : Nat) (Mm : SMM) (M0 : SMT) (M1 : SMT), va_D A (m_cw ad ca ky ty rt Mm M0 M1)) (n : Nat) (u128_x1 : Int32) (u128_x3 : Int32) (u128_M0 : SMT) (u128_M1 : SMT) (u128_rt : Nat) (z : Int32 × Int32 × SMM) (q : Nat × Int32 × Int32 × SMM) (h : m_MM_comesBack_b128 n u128_x1 u128_x3 u128_M0 z = some q) (h0 : q.1 = 0 → o_At p l e rm_MM_comesBack s m args below meth c Q m_cls D A 8 128 [] (m_cw ad ca ky ty u128_rt q.2.2.2 u128_M0 u128_M1) [(0, .ref (ad 0)), (1, .int u128_x1), (2, .int q.2.1), (3, .int u128_x3), (5, .int q.2.2.1)]) (h1 : q.1 ≠ 0 → (o_At p l e rm_MM_comesBack s m args below meth c Q m_cls D A 8 263 [] (m_cw ad ca ky ty u128_rt q.2.2.2 u128_M0 u128_M1) [(0, .ref (ad 0)), (1, .int u128_x1), (2, .int q.2.1), (3, .int u128_x3)])) : o_At p l e rm_MM_comesBack s m args below meth c Q m_cls D A 8 128 [] (m_cw ad ca ky ty u128_rt z.2.2 u128_M0 u128_M1) [(0, .ref (ad 0)), (1, .int u128_x1), (2, .int z.1), (3, .int u128_x3), (5, .int z.2.1)] := by
  unfold m_MM_comesBack_b128 at h
  intro H locs ls hP hS hl
  have C0 := C
  obtain ⟨hx, hb, -, -, -, hown, hts, hK, -, -⟩ := C0
  refine lv_iload hx hb d_MM_comesBack_128 (lv_at hl 4 rfl) ?_
  refine lv_if_lt (tgt := 263) hx hb d_MM_comesBack_130 (by decide) (fun c12 => ?_) (fun c12 => ?_)
  · replace h := o_tt c12 h
    cases h
    exact h1 (Nat.succ_ne_zero 0) _ _ _ hP hS (lv_sub hl [0, 1, 2, 3] rfl)
  · replace h := o_ff c12 h
    refine lv_aload_n hx hb d_MM_comesBack_133 rfl (lv_at hl 0 rfl) ?_
    refine o_get (v := .ref (ad 21)) C in_MM hP 0 mw_0 rfl 40 (by decide) k_8_30 rfl rfl d_MM_comesBack_134 ?_
    refine lv_iload hx hb d_MM_comesBack_137 (lv_at hl 4 rfl) ?_
    obtain ⟨g13, h⟩ := o_gd_some h
    refine o_iald (f := (MM_key z.2.2)) C hP 21 20 mw_21 rfl g13 d_MM_comesBack_139 ?_
    refine lv_topi (fun x6_140 ex6_140 => ?_)
    replace h := o_nm_at ex6_140 h
    refine lv_istore (lv' := [(6, .int x6_140), (0, .ref (ad 0)), (1, .int u128_x1), (2, .int z.1), (3, .int u128_x3), (5, .int z.2.1)]) hx hb d_MM_comesBack_140 hl (by decide) rfl (fun ls hl => ?_)
    refine lv_iload hx hb d_MM_comesBack_142 (lv_at hl 0 rfl) ?_
    refine lv_bipush (v := (32:Int32)) hx hb d_MM_comesBack_144 (by decide) ?_
    refine lv_icmp_ne (tgt := 165) hx hb d_MM_comesBack_146 (by decide) (fun c14 => ?_) (fun c14 => ?_)
    · replace h := o_ff c14 h
      refine lv_iload hx hb d_MM_comesBack_165 (lv_at hl 0 rfl) ?_
      refine lv_if_lt (tgt := 187) hx hb d_MM_comesBack_167 (by decide) (fun c15 => ?_) (fun c15 => ?_)
      · replace h := o_tt c15 h
        exact f_MM_comesBack_j187 hE hKy C hDD n u128_x1 u128_x3 u128_M0 u128_M1 u128_rt z.1 z.2.1 x6_140 z.2.2 h h0 h1 _ _ _ hP hS (lv_sub hl [1, 2, 3, 4, 5, 0] rfl)
      · replace h := o_ff c15 h
        refine lv_iload hx hb d_MM_comesBack_170 (lv_at hl 0 rfl) ?_
        refine lv_iconst (v := (3:Int32)) hx hb d_MM_comesBack_172 (by decide) ?_
        refine lv_icmp_gt (tgt := 187) hx hb d_MM_comesBack_173 (by decide) (fun c23 => ?_) (fun c23 => ?_)
        · replace h := o_tt c23 h
          exact f_MM_comesBack_j187 hE hKy C hDD n u128_x1 u128_x3 u128_M0 u128_M1 u128_rt z.1 z.2.1 x6_140 z.2.2 h h0 h1 _ _ _ hP hS (lv_sub hl [1, 2, 3, 4, 5, 0] rfl)
        · replace h := o_ff c23 h
          refine lv_aload_n hx hb d_MM_comesBack_176 rfl (lv_at hl 1 rfl) ?_
          refine lv_iload_n hx hb d_MM_comesBack_177 rfl (lv_at hl 3 rfl) ?_
          refine lv_iload hx hb d_MM_comesBack_178 (lv_at hl 5 rfl) ?_
          obtain ⟨q4, hq4, h⟩ := o_bd_some h
          refine o_V (st1 := [.int q4.1]) (w1 := (m_cw ad ca ky ty u128_rt q4.2 u128_M0 u128_M1)) hE.1 C (e_MM_go hE hKy l z.1 z.2.1 z.2.2 u128_M0 u128_M1 u128_rt hq4) hP (hDD _ _ _ _) hS hl.1 rfl mw_0 k_9_198 k_9_200 k_s_115 k_1_12 k_9_201 hv_MM_go rfl rfl ⟨(Nat.le_of_ble_eq_true rfl), (Nat.le_of_ble_eq_true rfl)⟩ rfl (Nat.le_of_ble_eq_true rfl) ⟨Nat.zero_le _, Nat.zero_le _⟩ rfl d_MM_comesBack_180 (fun H locs hP hS => ?_)
          refine lv_istore_n (lv' := [(2, .int q4.1), (6, .int x6_140), (0, .ref (ad 0)), (1, .int u128_x1), (3, .int u128_x3), (5, .int z.2.1)]) hx hb d_MM_comesBack_183 rfl hl (by decide) rfl (fun ls hl => ?_)
          refine lv_goto (tgt := 248) hx hb d_MM_comesBack_184 (by decide) ?_
          exact f_MM_comesBack_j248 hE hKy C hDD n u128_x1 u128_x3 u128_M0 u128_M1 u128_rt q4.1 z.2.1 q4.2 h h0 h1 _ _ _ hP hS (lv_sub hl [2, 3, 0, 4, 5] rfl)
    · replace h := o_tt c14 h
      refine lv_aload_n hx hb d_MM_comesBack_149 rfl (lv_at hl 1 rfl) ?_
      refine lv_iload_n hx hb d_MM_comesBack_150 rfl (lv_at hl 3 rfl) ?_
      refine lv_aload_n hx hb d_MM_comesBack_151 rfl (lv_at hl 1 rfl) ?_
      refine o_get (v := .ref (ad 22)) C in_MM hP 0 mw_0 rfl 41 (by decide) k_8_31 rfl rfl d_MM_comesBack_152 ?_
      refine lv_iload hx hb d_MM_comesBack_155 (lv_at hl 5 rfl) ?_
      obtain ⟨g24, h⟩ := o_gd_some h
      refine o_iald (f := (MM_target z.2.2)) C hP 22 21 mw_22 rfl g24 d_MM_comesBack_157 ?_
      obtain ⟨q5, hq5, h⟩ := o_bd_some h
      refine o_V (st1 := [.int q5.1]) (w1 := (m_cw ad ca ky ty u128_rt q5.2 u128_M0 u128_M1)) hE.1 C (e_MM_go hE hKy l z.1 ((MM_target z.2.2) z.2.1.toNatClampNeg) z.2.2 u128_M0 u128_M1 u128_rt hq5) hP (hDD _ _ _ _) hS hl.1 rfl mw_0 k_9_198 k_9_200 k_s_115 k_1_12 k_9_201 hv_MM_go rfl rfl ⟨(Nat.le_of_ble_eq_true rfl), (Nat.le_of_ble_eq_true rfl)⟩ rfl (Nat.le_of_ble_eq_true rfl) ⟨Nat.zero_le _, Nat.zero_le _⟩ rfl d_MM_comesBack_158 (fun H locs hP hS => ?_)
      refine lv_istore_n (lv' := [(2, .int q5.1), (6, .int x6_140), (0, .ref (ad 0)), (1, .int u128_x1), (3, .int u128_x3), (5, .int z.2.1)]) hx hb d_MM_comesBack_161 rfl hl (by decide) rfl (fun ls hl => ?_)
      refine lv_goto (tgt := 248) hx hb d_MM_comesBack_162 (by decide) ?_
      exact f_MM_comesBack_j248 hE hKy C hDD n u128_x1 u128_x3 u128_M0 u128_M1 u128_rt q5.1 z.2.1 q5.2 h h0 h1 _ _ _ hP hS (lv_sub hl [2, 3, 0, 4, 5] rfl)
set_option maxHeartbeats 4000000 in
set_option maxRecDepth 100000 in
theorem f_MM_comesBack_j96 {E : (Nat → Prop) → State → Heap → Prop} {p : Program} {l : Launch} {e : Env} {s : State} {m : MethodId} {args : Array Value} {below : List Frame} {meth : Method} {c : Code} {D : va_G} {ad kd sd vd xd : Nat → Nat} {ca : Nat → ClassId} {A : Nat → Prop} {ky ty : Nat → Option Nat} {Q : State → Prop} (hE : o_EK E kd sd vd xd) (hKy : m_KY ky ty sd) (C : o_Cx E p s m args meth c D m_cls (m_tys ca) "SchemaJudgeModel" b_MM_comesBack (some .boolean) 8 cc_MM_comesBack A) (hDD : ∀ (rt : Nat) (Mm : SMM) (M0 : SMT) (M1 : SMT), va_D A (m_cw ad ca ky ty rt Mm M0 M1)) (n : Nat) (u40_x1 : Int32) (u40_M0 : SMT) (u40_M1 : SMT) (u40_rt : Nat) (x2 : Int32) (x4 : Int32) (Mm : SMM) {q : Nat × Int32 × Int32 × SMM} (h : m_MM_comesBack_j96 n u40_x1 x2 x4 u40_M0 Mm = some q) (h0 : q.1 = 0 → o_At p l e rm_MM_comesBack s m args below meth c Q m_cls D A 8 40 [] (m_cw ad ca ky ty u40_rt q.2.2.2 u40_M0 u40_M1) [(0, .ref (ad 0)), (1, .int u40_x1), (2, .int q.2.1), (3, .int q.2.2.1)]) (h1 : q.1 ≠ 0 → (if q.1 = 1 then o_At p l e rm_MM_comesBack s m args below meth c Q m_cls D A 8 65 [] (m_cw ad ca ky ty u40_rt q.2.2.2 u40_M0 u40_M1) [] else o_At p l e rm_MM_comesBack s m args below meth c Q m_cls D A 8 266 [] (m_cw ad ca ky ty u40_rt q.2.2.2 u40_M0 u40_M1) [])) : o_At p l e rm_MM_comesBack s m args below meth c Q m_cls D A 8 96 [] (m_cw ad ca ky ty u40_rt Mm u40_M0 u40_M1) [(0, .ref (ad 0)), (1, .int u40_x1), (2, .int x2), (4, .int x4)] := by
  unfold m_MM_comesBack_j96 at h
  intro H locs ls hP hS hl
  have C0 := C
  obtain ⟨hx, hb, -, -, -, hown, hts, hK, -, -⟩ := C0
  refine lv_iconst (v := (0:Int32)) hx hb d_MM_comesBack_96 (by decide) ?_
  refine lv_istore_n (lv' := [(3, .int (0:Int32)), (0, .ref (ad 0)), (1, .int u40_x1), (2, .int x2), (4, .int x4)]) hx hb d_MM_comesBack_97 rfl hl (by decide) rfl (fun ls hl => ?_)
  refine lv_aload_n hx hb d_MM_comesBack_98 rfl (lv_at hl 1 rfl) ?_
  refine o_get (v := .ref (ad 33)) C in_MM hP 0 mw_0 rfl 4 (by decide) k_7_234 rfl rfl d_MM_comesBack_99 ?_
  refine o_get (v := .ref (ad 35)) C in_MT hP 33 mw_33 rfl 1 (by decide) k_7_103 rfl rfl d_MM_comesBack_102 ?_
  refine lv_iload hx hb d_MM_comesBack_105 (lv_at hl 4 rfl) ?_
  obtain ⟨g9, h⟩ := o_gd_some h
  refine o_iald (f := (MT_kind u40_M0)) C hP 35 33 mw_35 rfl g9 d_MM_comesBack_107 ?_
  refine lv_bipush (v := (6:Int32)) hx hb d_MM_comesBack_108 (by decide) ?_
  refine lv_icmp_eq (tgt := 116) hx hb d_MM_comesBack_110 (by decide) (fun c10 => ?_) (fun c10 => ?_)
  · replace h := o_tt c10 h
    refine lv_aload_n hx hb d_MM_comesBack_116 rfl (lv_at hl 1 rfl) ?_
    refine o_get (v := .ref (ad 33)) C in_MM hP 0 mw_0 rfl 4 (by decide) k_7_234 rfl rfl d_MM_comesBack_117 ?_
    refine o_get (v := .ref (ad 40)) C in_MT hP 33 mw_33 rfl 6 (by decide) k_7_113 rfl rfl d_MM_comesBack_120 ?_
    refine lv_iload hx hb d_MM_comesBack_123 (lv_at hl 4 rfl) ?_
    obtain ⟨g11, h⟩ := o_gd_some h
    refine o_iald (f := (MT_first u40_M0)) C hP 40 38 mw_40 rfl g11 d_MM_comesBack_125 ?_
    refine lv_topi (fun x5_126 ex5_126 => ?_)
    replace h := o_nm_at ex5_126 h
    refine lv_istore (lv' := [(5, .int x5_126), (3, .int (0:Int32)), (0, .ref (ad 0)), (1, .int u40_x1), (2, .int x2), (4, .int x4)]) hx hb d_MM_comesBack_126 hl (by decide) rfl (fun ls hl => ?_)
    obtain ⟨q6, hq6, h⟩ := o_bd_some h
    refine o_sim2 (AH := fun zz => o_At p l e rm_MM_comesBack s m args below meth c _ m_cls D A 8 128 [] (m_cw ad ca ky ty u40_rt zz.2.2 u40_M0 u40_M1) [(0, .ref (ad 0)), (1, .int u40_x1), (2, .int zz.1), (3, .int (0:Int32)), (5, .int zz.2.1)]) (AX := fun qq => o_At p l e rm_MM_comesBack s m args below meth c _ m_cls D A 8 263 [] (m_cw ad ca ky ty u40_rt qq.2.2.2 u40_M0 u40_M1) [(0, .ref (ad 0)), (1, .int u40_x1), (2, .int qq.2.1), (3, .int (0:Int32))]) (fun zz qq h h0 h1 => f_MM_comesBack_b128 hE hKy C hDD n u40_x1 (0:Int32) u40_M0 u40_M1 u40_rt zz qq h h0 h1) n _ q6 hq6 ?_ _ _ _ hP hS (lv_sub hl [2, 3, 4, 1, 0] rfl)
    intro H locs ls hP hS hl
    refine lv_goto (tgt := 40) hx hb d_MM_comesBack_263 (by decide) ?_
    cases h
    exact h0 rfl _ _ _ hP hS (lv_sub hl [0, 1, 2, 3] rfl)
  · replace h := o_ff c10 h
    refine lv_goto (tgt := 40) hx hb d_MM_comesBack_113 (by decide) ?_
    cases h
    exact h0 rfl _ _ _ hP hS (lv_sub hl [1, 2, 3, 0] rfl)
set_option maxHeartbeats 4000000 in
set_option maxRecDepth 100000 in
theorem f_MM_comesBack_j84 {E : (Nat → Prop) → State → Heap → Prop} {p : Program} {l : Launch} {e : Env} {s : State} {m : MethodId} {args : Array Value} {below : List Frame} {meth : Method} {c : Code} {D : va_G} {ad kd sd vd xd : Nat → Nat} {ca : Nat → ClassId} {A : Nat → Prop} {ky ty : Nat → Option Nat} {Q : State → Prop} (hE : o_EK E kd sd vd xd) (hKy : m_KY ky ty sd) (C : o_Cx E p s m args meth c D m_cls (m_tys ca) "SchemaJudgeModel" b_MM_comesBack (some .boolean) 8 cc_MM_comesBack A) (hDD : ∀ (rt : Nat) (Mm : SMM) (M0 : SMT) (M1 : SMT), va_D A (m_cw ad ca ky ty rt Mm M0 M1)) (n : Nat) (u40_x1 : Int32) (u40_M0 : SMT) (u40_M1 : SMT) (u40_rt : Nat) (x2 : Int32) (x3 : Int32) (x4 : Int32) (Mm : SMM) {q : Nat × Int32 × Int32 × SMM} (h : m_MM_comesBack_j84 n u40_x1 x2 x3 x4 u40_M0 Mm = some q) (h0 : q.1 = 0 → o_At p l e rm_MM_comesBack s m args below meth c Q m_cls D A 8 40 [] (m_cw ad ca ky ty u40_rt q.2.2.2 u40_M0 u40_M1) [(0, .ref (ad 0)), (1, .int u40_x1), (2, .int q.2.1), (3, .int q.2.2.1)]) (h1 : q.1 ≠ 0 → (if q.1 = 1 then o_At p l e rm_MM_comesBack s m args below meth c Q m_cls D A 8 65 [] (m_cw ad ca ky ty u40_rt q.2.2.2 u40_M0 u40_M1) [] else o_At p l e rm_MM_comesBack s m args below meth c Q m_cls D A 8 266 [] (m_cw ad ca ky ty u40_rt q.2.2.2 u40_M0 u40_M1) [])) : o_At p l e rm_MM_comesBack s m args below meth c Q m_cls D A 8 84 [] (m_cw ad ca ky ty u40_rt Mm u40_M0 u40_M1) [(0, .ref (ad 0)), (1, .int u40_x1), (2, .int x2), (3, .int x3), (4, .int x4)] := by
  unfold m_MM_comesBack_j84 at h
  intro H locs ls hP hS hl
  have C0 := C
  obtain ⟨hx, hb, -, -, -, hown, hts, hK, -, -⟩ := C0
  refine lv_iload_n hx hb d_MM_comesBack_84 rfl (lv_at hl 3 rfl) ?_
  refine lv_if_ne (tgt := 96) hx hb d_MM_comesBack_85 (by decide) (fun c8 => ?_) (fun c8 => ?_)
  · replace h := o_ff c8 h
    exact f_MM_comesBack_j96 hE hKy C hDD n u40_x1 u40_M0 u40_M1 u40_rt x2 x4 Mm h h0 h1 _ _ _ hP hS (lv_sub hl [0, 1, 2, 4] rfl)
  · replace h := o_tt c8 h
    refine lv_aload_n hx hb d_MM_comesBack_88 rfl (lv_at hl 0 rfl) ?_
    refine o_get (v := .ref (ad 28)) C in_MM hP 0 mw_0 rfl 47 (by decide) k_8_37 rfl rfl d_MM_comesBack_89 ?_
    refine lv_iload hx hb d_MM_comesBack_92 (lv_at hl 4 rfl) ?_
    refine lv_iconst (v := (1:Int32)) hx hb d_MM_comesBack_94 (by decide) ?_
    obtain ⟨g25, h⟩ := o_gd_some h
    refine o_zast (f := (MM_seen1 Mm)) (w1 := (m_cw ad ca ky ty u40_rt (MM_mk (MM_err Mm) (MM_fed Mm) (MM_wrong Mm) (MM_octets Mm) (MM_nodeKind Mm) (MM_nodeA Mm) (MM_nodeB Mm) (MM_nodeC Mm) (MM_nodeNext Mm) (MM_low Mm) (MM_high Mm) (MM_setFrom Mm) (MM_setTo Mm) (MM_setNot Mm) (MM_op Mm) (MM_opA Mm) (MM_opB Mm) (MM_mark Mm) (MM_now Mm) (MM_then Mm) (MM_todo Mm) (MM_nodes Mm) (MM_sets Mm) (MM_ranges Mm) (MM_steps Mm) (MM_pat Mm) (MM_patEnd Mm) (MM_round Mm) (MM_many1 Mm) (MM_broken Mm) (MM_checked Mm) (MM_faultKind Mm) (MM_faultValue Mm) (MM_latestFault Mm) (MM_anchors Mm) (MM_key Mm) (MM_target Mm) (MM_anchorValue Mm) (MM_anchorSchema Mm) (MM_path Mm) (MM_route Mm) (MM_isSchema Mm) (upd (MM_seen1 Mm) x4.toNatClampNeg (vp_nar .boolean (1:Int32))) (MM_pathSize Mm) (MM_octetRow Mm) (MM_partRow Mm) (MM_pairValue Mm) (MM_pairKey Mm) (MM_pairs Mm) (MM_judged Mm) (MM_deepest Mm) (MM_depth Mm) (MM_over Mm) (MM_seen Mm)) u40_M0 u40_M1)) C hP (hDD _ _ _ _) hS 28 27 mw_28 rfl g25 rfl d_MM_comesBack_95 (fun H locs hP hS => ?_)
    exact f_MM_comesBack_j96 hE hKy C hDD n u40_x1 u40_M0 u40_M1 u40_rt x2 x4 (MM_mk (MM_err Mm) (MM_fed Mm) (MM_wrong Mm) (MM_octets Mm) (MM_nodeKind Mm) (MM_nodeA Mm) (MM_nodeB Mm) (MM_nodeC Mm) (MM_nodeNext Mm) (MM_low Mm) (MM_high Mm) (MM_setFrom Mm) (MM_setTo Mm) (MM_setNot Mm) (MM_op Mm) (MM_opA Mm) (MM_opB Mm) (MM_mark Mm) (MM_now Mm) (MM_then Mm) (MM_todo Mm) (MM_nodes Mm) (MM_sets Mm) (MM_ranges Mm) (MM_steps Mm) (MM_pat Mm) (MM_patEnd Mm) (MM_round Mm) (MM_many1 Mm) (MM_broken Mm) (MM_checked Mm) (MM_faultKind Mm) (MM_faultValue Mm) (MM_latestFault Mm) (MM_anchors Mm) (MM_key Mm) (MM_target Mm) (MM_anchorValue Mm) (MM_anchorSchema Mm) (MM_path Mm) (MM_route Mm) (MM_isSchema Mm) (upd (MM_seen1 Mm) x4.toNatClampNeg (vp_nar .boolean (1:Int32))) (MM_pathSize Mm) (MM_octetRow Mm) (MM_partRow Mm) (MM_pairValue Mm) (MM_pairKey Mm) (MM_pairs Mm) (MM_judged Mm) (MM_deepest Mm) (MM_depth Mm) (MM_over Mm) (MM_seen Mm)) h h0 h1 _ _ _ hP hS (lv_sub hl [0, 1, 2, 4] rfl)
set_option maxHeartbeats 4000000 in
set_option maxRecDepth 100000 in
theorem f_MM_comesBack_j67 {E : (Nat → Prop) → State → Heap → Prop} {p : Program} {l : Launch} {e : Env} {s : State} {m : MethodId} {args : Array Value} {below : List Frame} {meth : Method} {c : Code} {D : va_G} {ad kd sd vd xd : Nat → Nat} {ca : Nat → ClassId} {A : Nat → Prop} {ky ty : Nat → Option Nat} {Q : State → Prop} (hE : o_EK E kd sd vd xd) (hKy : m_KY ky ty sd) (C : o_Cx E p s m args meth c D m_cls (m_tys ca) "SchemaJudgeModel" b_MM_comesBack (some .boolean) 8 cc_MM_comesBack A) (hDD : ∀ (rt : Nat) (Mm : SMM) (M0 : SMT) (M1 : SMT), va_D A (m_cw ad ca ky ty rt Mm M0 M1)) (n : Nat) (u40_x1 : Int32) (u40_M0 : SMT) (u40_M1 : SMT) (u40_rt : Nat) (x2 : Int32) (x3 : Int32) (x4 : Int32) (Mm : SMM) {q : Nat × Int32 × Int32 × SMM} (h : m_MM_comesBack_j67 n u40_x1 x2 x3 x4 u40_M0 Mm = some q) (h0 : q.1 = 0 → o_At p l e rm_MM_comesBack s m args below meth c Q m_cls D A 8 40 [] (m_cw ad ca ky ty u40_rt q.2.2.2 u40_M0 u40_M1) [(0, .ref (ad 0)), (1, .int u40_x1), (2, .int q.2.1), (3, .int q.2.2.1)]) (h1 : q.1 ≠ 0 → (if q.1 = 1 then o_At p l e rm_MM_comesBack s m args below meth c Q m_cls D A 8 65 [] (m_cw ad ca ky ty u40_rt q.2.2.2 u40_M0 u40_M1) [] else o_At p l e rm_MM_comesBack s m args below meth c Q m_cls D A 8 266 [] (m_cw ad ca ky ty u40_rt q.2.2.2 u40_M0 u40_M1) [])) : o_At p l e rm_MM_comesBack s m args below meth c Q m_cls D A 8 67 [] (m_cw ad ca ky ty u40_rt Mm u40_M0 u40_M1) [(0, .ref (ad 0)), (1, .int u40_x1), (2, .int x2), (3, .int x3), (4, .int x4)] := by
  unfold m_MM_comesBack_j67 at h
  intro H locs ls hP hS hl
  have C0 := C
  obtain ⟨hx, hb, -, -, -, hown, hts, hK, -, -⟩ := C0
  refine lv_iload_n hx hb d_MM_comesBack_67 rfl (lv_at hl 3 rfl) ?_
  refine lv_if_ne (tgt := 84) hx hb d_MM_comesBack_68 (by decide) (fun c7 => ?_) (fun c7 => ?_)
  · replace h := o_ff c7 h
    exact f_MM_comesBack_j84 hE hKy C hDD n u40_x1 u40_M0 u40_M1 u40_rt x2 x3 x4 Mm h h0 h1 _ _ _ hP hS (lv_sub hl [0, 1, 2, 3, 4] rfl)
  · replace h := o_tt c7 h
    refine lv_aload_n hx hb d_MM_comesBack_71 rfl (lv_at hl 0 rfl) ?_
    refine o_get (v := .ref (ad 28)) C in_MM hP 0 mw_0 rfl 47 (by decide) k_8_37 rfl rfl d_MM_comesBack_72 ?_
    refine lv_iload hx hb d_MM_comesBack_75 (lv_at hl 4 rfl) ?_
    obtain ⟨g26, h⟩ := o_gd_some h
    refine o_zald (f := (MM_seen1 Mm)) C hP 28 27 mw_28 rfl g26 d_MM_comesBack_77 ?_
    refine lv_if_eq (tgt := 84) hx hb d_MM_comesBack_78 (by decide) (fun c27 => ?_) (fun c27 => ?_)
    · replace h := o_tt c27 h
      exact f_MM_comesBack_j84 hE hKy C hDD n u40_x1 u40_M0 u40_M1 u40_rt x2 x3 x4 Mm h h0 h1 _ _ _ hP hS (lv_sub hl [0, 1, 2, 3, 4] rfl)
    · replace h := o_ff c27 h
      refine lv_goto (tgt := 40) hx hb d_MM_comesBack_81 (by decide) ?_
      cases h
      exact h0 rfl _ _ _ hP hS (lv_sub hl [0, 1, 2, 3] rfl)
set_option maxHeartbeats 4000000 in
set_option maxRecDepth 100000 in
theorem f_MM_comesBack_b40 {E : (Nat → Prop) → State → Heap → Prop} {p : Program} {l : Launch} {e : Env} {s : State} {m : MethodId} {args : Array Value} {below : List Frame} {meth : Method} {c : Code} {D : va_G} {ad kd sd vd xd : Nat → Nat} {ca : Nat → ClassId} {A : Nat → Prop} {ky ty : Nat → Option Nat} {Q : State → Prop} (hE : o_EK E kd sd vd xd) (hKy : m_KY ky ty sd) (C : o_Cx E p s m args meth c D m_cls (m_tys ca) "SchemaJudgeModel" b_MM_comesBack (some .boolean) 8 cc_MM_comesBack A) (hDD : ∀ (rt : Nat) (Mm : SMM) (M0 : SMT) (M1 : SMT), va_D A (m_cw ad ca ky ty rt Mm M0 M1)) (n : Nat) (u40_x1 : Int32) (u40_M0 : SMT) (u40_M1 : SMT) (u40_rt : Nat) (z : Int32 × Int32 × SMM) (q : Nat × Int32 × Int32 × SMM) (h : m_MM_comesBack_b40 n u40_x1 u40_M0 z = some q) (h0 : q.1 = 0 → o_At p l e rm_MM_comesBack s m args below meth c Q m_cls D A 8 40 [] (m_cw ad ca ky ty u40_rt q.2.2.2 u40_M0 u40_M1) [(0, .ref (ad 0)), (1, .int u40_x1), (2, .int q.2.1), (3, .int q.2.2.1)]) (h1 : q.1 ≠ 0 → (if q.1 = 1 then o_At p l e rm_MM_comesBack s m args below meth c Q m_cls D A 8 65 [] (m_cw ad ca ky ty u40_rt q.2.2.2 u40_M0 u40_M1) [] else o_At p l e rm_MM_comesBack s m args below meth c Q m_cls D A 8 266 [] (m_cw ad ca ky ty u40_rt q.2.2.2 u40_M0 u40_M1) [])) : o_At p l e rm_MM_comesBack s m args below meth c Q m_cls D A 8 40 [] (m_cw ad ca ky ty u40_rt z.2.2 u40_M0 u40_M1) [(0, .ref (ad 0)), (1, .int u40_x1), (2, .int z.1), (3, .int z.2.1)] := by
  unfold m_MM_comesBack_b40 at h
  intro H locs ls hP hS hl
  have C0 := C
  obtain ⟨hx, hb, -, -, -, hown, hts, hK, -, -⟩ := C0
  refine lv_iload_n hx hb d_MM_comesBack_40 rfl (lv_at hl 2 rfl) ?_
  refine lv_if_le (tgt := 266) hx hb d_MM_comesBack_41 (by decide) (fun c4 => ?_) (fun c4 => ?_)
  · replace h := o_tt c4 h
    cases h
    exact h1 (Nat.succ_ne_zero 1) _ _ _ hP hS (lv_sub hl [] rfl)
  · replace h := o_ff c4 h
    refine lv_aload_n hx hb d_MM_comesBack_44 rfl (lv_at hl 0 rfl) ?_
    refine o_get (v := .ref (ad 26)) C in_MM hP 0 mw_0 rfl 45 (by decide) k_8_35 rfl rfl d_MM_comesBack_45 ?_
    obtain ⟨x2_48, ex2_48⟩ : ∃ y : Int32, y = z.1 + (-1:Int32) := ⟨_, rfl⟩
    replace h := o_nm_at ex2_48 h
    refine lv_iinc (v := x2_48) (lv' := [(2, .int x2_48), (0, .ref (ad 0)), (1, .int u40_x1), (3, .int z.2.1)]) hx hb d_MM_comesBack_48 hl (k := 2) rfl (by rw [ex2_48]; rfl) (by decide) rfl (fun ls hl => ?_)
    refine lv_iload_n hx hb d_MM_comesBack_51 rfl (lv_at hl 0 rfl) ?_
    obtain ⟨g5, h⟩ := o_gd_some h
    refine o_iald (f := (MM_route z.2.2)) C hP 26 25 mw_26 rfl g5 d_MM_comesBack_52 ?_
    refine lv_topi (fun x4_53 ex4_53 => ?_)
    replace h := o_nm_at ex4_53 h
    refine lv_istore (lv' := [(4, .int x4_53), (2, .int x2_48), (0, .ref (ad 0)), (1, .int u40_x1), (3, .int z.2.1)]) hx hb d_MM_comesBack_53 hl (by decide) rfl (fun ls hl => ?_)
    refine lv_iload_n hx hb d_MM_comesBack_55 rfl (lv_at hl 4 rfl) ?_
    refine lv_if_ne (tgt := 67) hx hb d_MM_comesBack_56 (by decide) (fun c6 => ?_) (fun c6 => ?_)
    · replace h := o_ff c6 h
      exact f_MM_comesBack_j67 hE hKy C hDD n u40_x1 u40_M0 u40_M1 u40_rt x2_48 z.2.1 x4_53 z.2.2 h h0 h1 _ _ _ hP hS (lv_sub hl [2, 3, 1, 4, 0] rfl)
    · replace h := o_tt c6 h
      refine lv_iload hx hb d_MM_comesBack_59 (lv_at hl 0 rfl) ?_
      refine lv_iload_n hx hb d_MM_comesBack_61 rfl (lv_at hl 3 rfl) ?_
      refine lv_icmp_ne (tgt := 67) hx hb d_MM_comesBack_62 (by decide) (fun c28 => ?_) (fun c28 => ?_)
      · replace h := o_ff c28 h
        exact f_MM_comesBack_j67 hE hKy C hDD n u40_x1 u40_M0 u40_M1 u40_rt x2_48 z.2.1 x4_53 z.2.2 h h0 h1 _ _ _ hP hS (lv_sub hl [2, 3, 1, 4, 0] rfl)
      · replace h := o_tt c28 h
        cases h
        exact h1 (Nat.succ_ne_zero 0) _ _ _ hP hS (lv_sub hl [] rfl)
set_option maxHeartbeats 4000000 in
set_option maxRecDepth 100000 in
theorem e_MM_comesBack {E : (Nat → Prop) → State → Heap → Prop} {D : va_G} {ad kd sd vd xd : Nat → Nat} {ca : Nat → ClassId} {ky ty : Nat → Option Nat} (hE : o_EK E kd sd vd xd) (hKy : m_KY ky ty sd) (l : Launch) (n : Nat) (x1 : Int32) (M0 : SMT) (Mm : SMM) (M1 : SMT) (rt : Nat) {r : Int32 × SMM} (h : m_MM_comesBack n x1 M0 Mm = some r) : o_Cn E l D m_cls (m_tys ca) y_MM_comesBack cc_MM_comesBack rm_MM_comesBack [.ref (ad 0), .int x1] (m_cw ad ca ky ty rt Mm M0 M1) (m_cw ad ca ky ty rt r.2 M0 M1) (some (.int r.1)) := by
  refine o_Cn_of (by decide) (Nat.le_of_ble_eq_true rfl) ?_
  intro p e s m below meth c A ls C hD hP hS hl
  have hDD : ∀ (rt : Nat) (Mm : SMM) (M0 : SMT) (M1 : SMT), va_D A (m_cw ad ca ky ty rt Mm M0 M1) := fun _ _ _ _ => o_D_map hD rfl
  have hl : lv_has ls 8 [(0, .ref (ad 0)), (1, .int x1)] := hl
  unfold m_MM_comesBack at h
  have C0 := C
  obtain ⟨hx, hb, -, -, -, hown, hts, hK, -, -⟩ := C0
  refine lv_iconst (v := (0:Int32)) hx hb d_MM_comesBack_0 (by decide) ?_
  refine lv_istore_n (lv' := [(2, .int (0:Int32)), (0, .ref (ad 0)), (1, .int x1)]) hx hb d_MM_comesBack_1 rfl hl (by decide) rfl (fun ls hl => ?_)
  obtain ⟨q1, hq1, h⟩ := o_bd_some h
  refine o_sim2 (AH := fun zz => o_At p l e rm_MM_comesBack s m _ below meth c _ m_cls D A 8 2 [] (m_cw ad ca ky ty rt zz.2 M0 M1) [(0, .ref (ad 0)), (1, .int x1), (2, .int zz.1)]) (AX := fun qq => o_At p l e rm_MM_comesBack s m _ below meth c _ m_cls D A 8 26 [] (m_cw ad ca ky ty rt qq.2.2 M0 M1) [(0, .ref (ad 0)), (1, .int x1)]) (fun zz qq h h0 h1 => f_MM_comesBack_b2 hE hKy C hDD n x1 M0 M1 rt zz qq h h0 h1) n _ q1 hq1 ?_ _ _ _ hP hS (lv_sub hl [1, 2, 0] rfl)
  intro H locs ls hP hS hl
  refine lv_iconst (v := (0:Int32)) hx hb d_MM_comesBack_26 (by decide) ?_
  refine lv_istore_n (lv' := [(2, .int (0:Int32)), (0, .ref (ad 0)), (1, .int x1)]) hx hb d_MM_comesBack_27 rfl hl (by decide) rfl (fun ls hl => ?_)
  refine lv_aload_n hx hb d_MM_comesBack_28 rfl (lv_at hl 1 rfl) ?_
  refine o_get (v := .ref (ad 26)) C in_MM hP 0 mw_0 rfl 45 (by decide) k_8_35 rfl rfl d_MM_comesBack_29 ?_
  refine lv_iload_n hx hb d_MM_comesBack_32 rfl (lv_at hl 0 rfl) ?_
  obtain ⟨x2_33, ex2_33⟩ : ∃ y : Int32, y = (0:Int32) + (1:Int32) := ⟨_, rfl⟩
  replace h := o_nm_at ex2_33 h
  refine lv_iinc (v := x2_33) (lv' := [(2, .int x2_33), (0, .ref (ad 0)), (1, .int x1)]) hx hb d_MM_comesBack_33 hl (k := 0) rfl (by rw [ex2_33]; rfl) (by decide) rfl (fun ls hl => ?_)
  refine lv_iload_n hx hb d_MM_comesBack_36 rfl (lv_at hl 2 rfl) ?_
  obtain ⟨g3, h⟩ := o_gd_some h
  refine o_iast (f := (MM_route q1.2.2)) (w1 := (m_cw ad ca ky ty rt (MM_mk (MM_err q1.2.2) (MM_fed q1.2.2) (MM_wrong q1.2.2) (MM_octets q1.2.2) (MM_nodeKind q1.2.2) (MM_nodeA q1.2.2) (MM_nodeB q1.2.2) (MM_nodeC q1.2.2) (MM_nodeNext q1.2.2) (MM_low q1.2.2) (MM_high q1.2.2) (MM_setFrom q1.2.2) (MM_setTo q1.2.2) (MM_setNot q1.2.2) (MM_op q1.2.2) (MM_opA q1.2.2) (MM_opB q1.2.2) (MM_mark q1.2.2) (MM_now q1.2.2) (MM_then q1.2.2) (MM_todo q1.2.2) (MM_nodes q1.2.2) (MM_sets q1.2.2) (MM_ranges q1.2.2) (MM_steps q1.2.2) (MM_pat q1.2.2) (MM_patEnd q1.2.2) (MM_round q1.2.2) (MM_many1 q1.2.2) (MM_broken q1.2.2) (MM_checked q1.2.2) (MM_faultKind q1.2.2) (MM_faultValue q1.2.2) (MM_latestFault q1.2.2) (MM_anchors q1.2.2) (MM_key q1.2.2) (MM_target q1.2.2) (MM_anchorValue q1.2.2) (MM_anchorSchema q1.2.2) (MM_path q1.2.2) (upd (MM_route q1.2.2) (0:Int32).toNatClampNeg x1) (MM_isSchema q1.2.2) (MM_seen1 q1.2.2) (MM_pathSize q1.2.2) (MM_octetRow q1.2.2) (MM_partRow q1.2.2) (MM_pairValue q1.2.2) (MM_pairKey q1.2.2) (MM_pairs q1.2.2) (MM_judged q1.2.2) (MM_deepest q1.2.2) (MM_depth q1.2.2) (MM_over q1.2.2) (MM_seen q1.2.2)) M0 M1)) C hP (hDD _ _ _ _) hS 26 25 mw_26 rfl g3 rfl d_MM_comesBack_37 (fun H locs hP hS => ?_)
  refine lv_iconst (v := (1:Int32)) hx hb d_MM_comesBack_38 (by decide) ?_
  refine lv_istore_n (lv' := [(3, .int (1:Int32)), (2, .int x2_33), (0, .ref (ad 0)), (1, .int x1)]) hx hb d_MM_comesBack_39 rfl hl (by decide) rfl (fun ls hl => ?_)
  obtain ⟨q7, hq7, h⟩ := o_bd_some h
  refine o_sim2 (AH := fun zz => o_At p l e rm_MM_comesBack s m _ below meth c _ m_cls D A 8 40 [] (m_cw ad ca ky ty rt zz.2.2 M0 M1) [(0, .ref (ad 0)), (1, .int x1), (2, .int zz.1), (3, .int zz.2.1)]) (AX := fun qq => if qq.1 = 1 then o_At p l e rm_MM_comesBack s m _ below meth c _ m_cls D A 8 65 [] (m_cw ad ca ky ty rt qq.2.2.2 M0 M1) [] else o_At p l e rm_MM_comesBack s m _ below meth c _ m_cls D A 8 266 [] (m_cw ad ca ky ty rt qq.2.2.2 M0 M1) []) (fun zz qq h h0 h1 => f_MM_comesBack_b40 hE hKy C hDD n x1 M0 M1 rt zz qq h h0 h1) n _ q7 hq7 ?_ _ _ _ hP hS (lv_sub hl [2, 3, 1, 0] rfl)
  by_cases c29 : q7.1 = 1
  · replace h := o_tt c29 h
    refine o_ip c29 ?_
    intro H locs ls hP hS hl
    refine lv_iconst (v := (1:Int32)) hx hb d_MM_comesBack_65 (by decide) ?_
    cases h
    exact o_rz (v := (1:Int32)) C o_nar1 hP hS d_MM_comesBack_66
  replace h := o_ff c29 h
  refine o_in_ c29 ?_
  intro H locs ls hP hS hl
  refine lv_iconst (v := (0:Int32)) hx hb d_MM_comesBack_266 (by decide) ?_
  cases h
  exact o_rz (v := (0:Int32)) C o_nar0 hP hS d_MM_comesBack_267
set_option maxHeartbeats 4000000 in
set_option maxRecDepth 100000 in
theorem f_MM_check_b42 {E : (Nat → Prop) → State → Heap → Prop} {p : Program} {l : Launch} {e : Env} {s : State} {m : MethodId} {args : Array Value} {below : List Frame} {meth : Method} {c : Code} {D : va_G} {ad kd sd vd xd : Nat → Nat} {ca : Nat → ClassId} {A : Nat → Prop} {ky ty : Nat → Option Nat} {Q : State → Prop} (hE : o_EK E kd sd vd xd) (hKy : m_KY ky ty sd) (C : o_Cx E p s m args meth c D m_cls (m_tys ca) "SchemaJudgeModel" b_MM_check (some .int) 2 cc_MM_check A) (hDD : ∀ (rt : Nat) (Mm : SMM) (M0 : SMT) (M1 : SMT), va_D A (m_cw ad ca ky ty rt Mm M0 M1)) (n : Nat) (u42_M0 : SMT) (u42_rt : Nat) (u42_M1 : SMT) (z : Int32 × SMM) (q : Nat × Int32 × SMM) (h : m_MM_check_b42 n u42_M0 u42_rt z = some q) (h0 : q.1 = 0 → o_At p l e rm_MM_check s m args below meth c Q m_cls D A 2 42 [] (m_cw ad ca ky ty u42_rt q.2.2 u42_M0 u42_M1) [(0, .ref (ad 0)), (1, .int q.2.1)]) (h1 : q.1 ≠ 0 → (o_At p l e rm_MM_check s m args below meth c Q m_cls D A 2 76 [] (m_cw ad ca ky ty u42_rt q.2.2 u42_M0 u42_M1) [(0, .ref (ad 0))])) : o_At p l e rm_MM_check s m args below meth c Q m_cls D A 2 42 [] (m_cw ad ca ky ty u42_rt z.2 u42_M0 u42_M1) [(0, .ref (ad 0)), (1, .int z.1)] := by
  unfold m_MM_check_b42 at h
  intro H locs ls hP hS hl
  have C0 := C
  obtain ⟨hx, hb, -, -, -, hown, hts, hK, -, -⟩ := C0
  refine lv_iload_n hx hb d_MM_check_42 rfl (lv_at hl 1 rfl) ?_
  refine lv_sipush (v := (1000:Int32)) hx hb d_MM_check_43 (by decide) ?_
  refine lv_icmp_ge (tgt := 76) hx hb d_MM_check_46 (by decide) (fun c3 => ?_) (fun c3 => ?_)
  · replace h := o_tt c3 h
    cases h
    exact h1 (Nat.succ_ne_zero 0) _ _ _ hP hS (lv_sub hl [0] rfl)
  · replace h := o_ff c3 h
    refine lv_aload_n hx hb d_MM_check_49 rfl (lv_at hl 0 rfl) ?_
    refine o_get (v := .ref (ad 27)) C in_MM hP 0 mw_0 rfl 46 (by decide) k_8_36 rfl rfl d_MM_check_50 ?_
    refine lv_iload_n hx hb d_MM_check_53 rfl (lv_at hl 1 rfl) ?_
    refine lv_iconst (v := (0:Int32)) hx hb d_MM_check_54 (by decide) ?_
    obtain ⟨g4, h⟩ := o_gd_some h
    refine o_zast (f := (MM_isSchema z.2)) (w1 := (m_cw ad ca ky ty u42_rt (MM_mk (MM_err z.2) (MM_fed z.2) (MM_wrong z.2) (MM_octets z.2) (MM_nodeKind z.2) (MM_nodeA z.2) (MM_nodeB z.2) (MM_nodeC z.2) (MM_nodeNext z.2) (MM_low z.2) (MM_high z.2) (MM_setFrom z.2) (MM_setTo z.2) (MM_setNot z.2) (MM_op z.2) (MM_opA z.2) (MM_opB z.2) (MM_mark z.2) (MM_now z.2) (MM_then z.2) (MM_todo z.2) (MM_nodes z.2) (MM_sets z.2) (MM_ranges z.2) (MM_steps z.2) (MM_pat z.2) (MM_patEnd z.2) (MM_round z.2) (MM_many1 z.2) (MM_broken z.2) (MM_checked z.2) (MM_faultKind z.2) (MM_faultValue z.2) (MM_latestFault z.2) (MM_anchors z.2) (MM_key z.2) (MM_target z.2) (MM_anchorValue z.2) (MM_anchorSchema z.2) (MM_path z.2) (MM_route z.2) (upd (MM_isSchema z.2) z.1.toNatClampNeg (vp_nar .boolean (0:Int32))) (MM_seen1 z.2) (MM_pathSize z.2) (MM_octetRow z.2) (MM_partRow z.2) (MM_pairValue z.2) (MM_pairKey z.2) (MM_pairs z.2) (MM_judged z.2) (MM_deepest z.2) (MM_depth z.2) (MM_over z.2) (MM_seen z.2)) u42_M0 u42_M1)) C hP (hDD _ _ _ _) hS 27 26 mw_27 rfl g4 rfl d_MM_check_55 (fun H locs hP hS => ?_)
    refine lv_aload_n hx hb d_MM_check_56 rfl (lv_at hl 0 rfl) ?_
    refine o_get (v := .ref (ad 21)) C in_MM hP 0 mw_0 rfl 40 (by decide) k_8_30 rfl rfl d_MM_check_57 ?_
    refine lv_iload_n hx hb d_MM_check_60 rfl (lv_at hl 1 rfl) ?_
    refine lv_iconst (v := (-1:Int32)) hx hb d_MM_check_61 (by decide) ?_
    obtain ⟨g5, h⟩ := o_gd_some h
    refine o_iast (f := (MM_key z.2)) (w1 := (m_cw ad ca ky ty u42_rt (MM_mk (MM_err z.2) (MM_fed z.2) (MM_wrong z.2) (MM_octets z.2) (MM_nodeKind z.2) (MM_nodeA z.2) (MM_nodeB z.2) (MM_nodeC z.2) (MM_nodeNext z.2) (MM_low z.2) (MM_high z.2) (MM_setFrom z.2) (MM_setTo z.2) (MM_setNot z.2) (MM_op z.2) (MM_opA z.2) (MM_opB z.2) (MM_mark z.2) (MM_now z.2) (MM_then z.2) (MM_todo z.2) (MM_nodes z.2) (MM_sets z.2) (MM_ranges z.2) (MM_steps z.2) (MM_pat z.2) (MM_patEnd z.2) (MM_round z.2) (MM_many1 z.2) (MM_broken z.2) (MM_checked z.2) (MM_faultKind z.2) (MM_faultValue z.2) (MM_latestFault z.2) (MM_anchors z.2) (upd (MM_key z.2) z.1.toNatClampNeg (-1:Int32)) (MM_target z.2) (MM_anchorValue z.2) (MM_anchorSchema z.2) (MM_path z.2) (MM_route z.2) (upd (MM_isSchema z.2) z.1.toNatClampNeg (vp_nar .boolean (0:Int32))) (MM_seen1 z.2) (MM_pathSize z.2) (MM_octetRow z.2) (MM_partRow z.2) (MM_pairValue z.2) (MM_pairKey z.2) (MM_pairs z.2) (MM_judged z.2) (MM_deepest z.2) (MM_depth z.2) (MM_over z.2) (MM_seen z.2)) u42_M0 u42_M1)) C hP (hDD _ _ _ _) hS 21 20 mw_21 rfl g5 rfl d_MM_check_62 (fun H locs hP hS => ?_)
    refine lv_aload_n hx hb d_MM_check_63 rfl (lv_at hl 0 rfl) ?_
    refine o_get (v := .ref (ad 22)) C in_MM hP 0 mw_0 rfl 41 (by decide) k_8_31 rfl rfl d_MM_check_64 ?_
    refine lv_iload_n hx hb d_MM_check_67 rfl (lv_at hl 1 rfl) ?_
    refine lv_iconst (v := (-1:Int32)) hx hb d_MM_check_68 (by decide) ?_
    obtain ⟨g6, h⟩ := o_gd_some h
    refine o_iast (f := (MM_target z.2)) (w1 := (m_cw ad ca ky ty u42_rt (MM_mk (MM_err z.2) (MM_fed z.2) (MM_wrong z.2) (MM_octets z.2) (MM_nodeKind z.2) (MM_nodeA z.2) (MM_nodeB z.2) (MM_nodeC z.2) (MM_nodeNext z.2) (MM_low z.2) (MM_high z.2) (MM_setFrom z.2) (MM_setTo z.2) (MM_setNot z.2) (MM_op z.2) (MM_opA z.2) (MM_opB z.2) (MM_mark z.2) (MM_now z.2) (MM_then z.2) (MM_todo z.2) (MM_nodes z.2) (MM_sets z.2) (MM_ranges z.2) (MM_steps z.2) (MM_pat z.2) (MM_patEnd z.2) (MM_round z.2) (MM_many1 z.2) (MM_broken z.2) (MM_checked z.2) (MM_faultKind z.2) (MM_faultValue z.2) (MM_latestFault z.2) (MM_anchors z.2) (upd (MM_key z.2) z.1.toNatClampNeg (-1:Int32)) (upd (MM_target z.2) z.1.toNatClampNeg (-1:Int32)) (MM_anchorValue z.2) (MM_anchorSchema z.2) (MM_path z.2) (MM_route z.2) (upd (MM_isSchema z.2) z.1.toNatClampNeg (vp_nar .boolean (0:Int32))) (MM_seen1 z.2) (MM_pathSize z.2) (MM_octetRow z.2) (MM_partRow z.2) (MM_pairValue z.2) (MM_pairKey z.2) (MM_pairs z.2) (MM_judged z.2) (MM_deepest z.2) (MM_depth z.2) (MM_over z.2) (MM_seen z.2)) u42_M0 u42_M1)) C hP (hDD _ _ _ _) hS 22 21 mw_22 rfl g6 rfl d_MM_check_69 (fun H locs hP hS => ?_)
    obtain ⟨x1_70, ex1_70⟩ : ∃ y : Int32, y = z.1 + (1:Int32) := ⟨_, rfl⟩
    replace h := o_nm_at ex1_70 h
    refine lv_iinc (v := x1_70) (lv' := [(1, .int x1_70), (0, .ref (ad 0))]) hx hb d_MM_check_70 hl (k := 1) rfl (by rw [ex1_70]; rfl) (by decide) rfl (fun ls hl => ?_)
    refine lv_goto (tgt := 42) hx hb d_MM_check_73 (by decide) ?_
    cases h
    exact h0 rfl _ _ _ hP hS (lv_sub hl [1, 0] rfl)
set_option maxHeartbeats 4000000 in
set_option maxRecDepth 100000 in
theorem f_MM_check_j231 {E : (Nat → Prop) → State → Heap → Prop} {p : Program} {l : Launch} {e : Env} {s : State} {m : MethodId} {args : Array Value} {below : List Frame} {meth : Method} {c : Code} {D : va_G} {ad kd sd vd xd : Nat → Nat} {ca : Nat → ClassId} {A : Nat → Prop} {ky ty : Nat → Option Nat} (hE : o_EK E kd sd vd xd) (hKy : m_KY ky ty sd) (C : o_Cx E p s m args meth c D m_cls (m_tys ca) "SchemaJudgeModel" b_MM_check (some .int) 2 cc_MM_check A) (hDD : ∀ (rt : Nat) (Mm : SMM) (M0 : SMT) (M1 : SMT), va_D A (m_cw ad ca ky ty rt Mm M0 M1)) (n : Nat) (y1 : Int32) (M0 : SMT) (Mm : SMM) (rt : Nat) (M1 : SMT) {r : Int32 × SMM × Nat} (h : m_MM_check_j231 n y1 M0 Mm rt = some r) : o_At p l e rm_MM_check s m args below meth c (MQ below (o_Qx D m_cls (some (.int r.1)) (m_cw ad ca ky ty r.2.2 r.2.1 M0 M1) A) args s 0 0 A) m_cls D A 2 231 [.int y1, .ref (ad 0)] (m_cw ad ca ky ty rt Mm M0 M1) [(0, .ref (ad 0))] := by
  unfold m_MM_check_j231 at h
  intro H locs ls hP hS hl
  have C0 := C
  obtain ⟨hx, hb, -, -, -, hown, hts, hK, -, -⟩ := C0
  obtain ⟨g10, h⟩ := o_gd_some h
  refine o_put (v := .int y1) (ty := .boolean) (w1 := (m_cw ad ca ky ty rt (MM_mk (MM_err Mm) (MM_fed Mm) (MM_wrong Mm) (MM_octets Mm) (MM_nodeKind Mm) (MM_nodeA Mm) (MM_nodeB Mm) (MM_nodeC Mm) (MM_nodeNext Mm) (MM_low Mm) (MM_high Mm) (MM_setFrom Mm) (MM_setTo Mm) (MM_setNot Mm) (MM_op Mm) (MM_opA Mm) (MM_opB Mm) (MM_mark Mm) (MM_now Mm) (MM_then Mm) (MM_todo Mm) (MM_nodes Mm) (MM_sets Mm) (MM_ranges Mm) (MM_steps Mm) (MM_pat Mm) (MM_patEnd Mm) (MM_round Mm) (MM_many1 Mm) (MM_broken Mm) y1 (MM_faultKind Mm) (MM_faultValue Mm) (MM_latestFault Mm) (MM_anchors Mm) (MM_key Mm) (MM_target Mm) (MM_anchorValue Mm) (MM_anchorSchema Mm) (MM_path Mm) (MM_route Mm) (MM_isSchema Mm) (MM_seen1 Mm) (MM_pathSize Mm) (MM_octetRow Mm) (MM_partRow Mm) (MM_pairValue Mm) (MM_pairKey Mm) (MM_pairs Mm) (MM_judged Mm) (MM_deepest Mm) (MM_depth Mm) (MM_over Mm) (MM_seen Mm)) M0 M1)) C in_MM t_MM t_MM_ok n_MM hP (hDD _ _ _ _) hS 0 mw_0 rfl 35 (by decide) k_8_25 rfl rfl (by decide +kernel) (o_zb_nar g10) (o_zb_fit g10) (Nat.le_of_ble_eq_true rfl) rfl d_MM_check_231 (fun H locs hP hS => ?_)
  refine lv_aload_n hx hb d_MM_check_234 rfl (lv_at hl 0 rfl) ?_
  refine lv_aload_n hx hb d_MM_check_235 rfl (lv_at hl 0 rfl) ?_
  refine o_get (v := .int (MM_faultKind Mm)) C in_MM hP 0 mw_0 rfl 36 (by decide) k_8_26 rfl rfl d_MM_check_236 ?_
  refine lv_if_eq (tgt := 249) hx hb d_MM_check_239 (by decide) (fun c11 => ?_) (fun c11 => ?_)
  · replace h := o_tt c11 h
    refine lv_iconst (v := (-1:Int32)) hx hb d_MM_check_249 (by decide) ?_
    refine o_put (v := .int (-1:Int32)) (ty := .int) (w1 := (m_cw ad ca ky ty rt (MM_mk (MM_err Mm) (MM_fed Mm) (MM_wrong Mm) (MM_octets Mm) (MM_nodeKind Mm) (MM_nodeA Mm) (MM_nodeB Mm) (MM_nodeC Mm) (MM_nodeNext Mm) (MM_low Mm) (MM_high Mm) (MM_setFrom Mm) (MM_setTo Mm) (MM_setNot Mm) (MM_op Mm) (MM_opA Mm) (MM_opB Mm) (MM_mark Mm) (MM_now Mm) (MM_then Mm) (MM_todo Mm) (MM_nodes Mm) (MM_sets Mm) (MM_ranges Mm) (MM_steps Mm) (MM_pat Mm) (MM_patEnd Mm) (MM_round Mm) (MM_many1 Mm) (MM_broken Mm) y1 (MM_faultKind Mm) (MM_faultValue Mm) (-1:Int32) (MM_anchors Mm) (MM_key Mm) (MM_target Mm) (MM_anchorValue Mm) (MM_anchorSchema Mm) (MM_path Mm) (MM_route Mm) (MM_isSchema Mm) (MM_seen1 Mm) (MM_pathSize Mm) (MM_octetRow Mm) (MM_partRow Mm) (MM_pairValue Mm) (MM_pairKey Mm) (MM_pairs Mm) (MM_judged Mm) (MM_deepest Mm) (MM_depth Mm) (MM_over Mm) (MM_seen Mm)) M0 M1)) C in_MM t_MM t_MM_ok n_MM hP (hDD _ _ _ _) hS 0 mw_0 rfl 38 (by decide) k_8_28 rfl rfl (by decide +kernel) rfl rfl (Nat.le_of_ble_eq_true rfl) rfl d_MM_check_250 (fun H locs hP hS => ?_)
    refine lv_aload_n hx hb d_MM_check_253 rfl (lv_at hl 0 rfl) ?_
    refine o_get (v := .int (MM_faultKind Mm)) C in_MM hP 0 mw_0 rfl 36 (by decide) k_8_26 rfl rfl d_MM_check_254 ?_
    cases h
    exact o_ri (v := (MM_faultKind Mm)) C hP hS d_MM_check_257
  · replace h := o_ff c11 h
    refine lv_aload_n hx hb d_MM_check_242 rfl (lv_at hl 0 rfl) ?_
    refine o_get (v := .int (MM_faultValue Mm)) C in_MM hP 0 mw_0 rfl 37 (by decide) k_8_27 rfl rfl d_MM_check_243 ?_
    refine lv_goto (tgt := 250) hx hb d_MM_check_246 (by decide) ?_
    refine o_put (v := .int (MM_faultValue Mm)) (ty := .int) (w1 := (m_cw ad ca ky ty rt (MM_mk (MM_err Mm) (MM_fed Mm) (MM_wrong Mm) (MM_octets Mm) (MM_nodeKind Mm) (MM_nodeA Mm) (MM_nodeB Mm) (MM_nodeC Mm) (MM_nodeNext Mm) (MM_low Mm) (MM_high Mm) (MM_setFrom Mm) (MM_setTo Mm) (MM_setNot Mm) (MM_op Mm) (MM_opA Mm) (MM_opB Mm) (MM_mark Mm) (MM_now Mm) (MM_then Mm) (MM_todo Mm) (MM_nodes Mm) (MM_sets Mm) (MM_ranges Mm) (MM_steps Mm) (MM_pat Mm) (MM_patEnd Mm) (MM_round Mm) (MM_many1 Mm) (MM_broken Mm) y1 (MM_faultKind Mm) (MM_faultValue Mm) (MM_faultValue Mm) (MM_anchors Mm) (MM_key Mm) (MM_target Mm) (MM_anchorValue Mm) (MM_anchorSchema Mm) (MM_path Mm) (MM_route Mm) (MM_isSchema Mm) (MM_seen1 Mm) (MM_pathSize Mm) (MM_octetRow Mm) (MM_partRow Mm) (MM_pairValue Mm) (MM_pairKey Mm) (MM_pairs Mm) (MM_judged Mm) (MM_deepest Mm) (MM_depth Mm) (MM_over Mm) (MM_seen Mm)) M0 M1)) C in_MM t_MM t_MM_ok n_MM hP (hDD _ _ _ _) hS 0 mw_0 rfl 38 (by decide) k_8_28 rfl rfl (by decide +kernel) rfl rfl (Nat.le_of_ble_eq_true rfl) rfl d_MM_check_250 (fun H locs hP hS => ?_)
    refine lv_aload_n hx hb d_MM_check_253 rfl (lv_at hl 0 rfl) ?_
    refine o_get (v := .int (MM_faultKind Mm)) C in_MM hP 0 mw_0 rfl 36 (by decide) k_8_26 rfl rfl d_MM_check_254 ?_
    cases h
    exact o_ri (v := (MM_faultKind Mm)) C hP hS d_MM_check_257
set_option maxHeartbeats 4000000 in
set_option maxRecDepth 100000 in
theorem f_MM_check_j218 {E : (Nat → Prop) → State → Heap → Prop} {p : Program} {l : Launch} {e : Env} {s : State} {m : MethodId} {args : Array Value} {below : List Frame} {meth : Method} {c : Code} {D : va_G} {ad kd sd vd xd : Nat → Nat} {ca : Nat → ClassId} {A : Nat → Prop} {ky ty : Nat → Option Nat} (hE : o_EK E kd sd vd xd) (hKy : m_KY ky ty sd) (C : o_Cx E p s m args meth c D m_cls (m_tys ca) "SchemaJudgeModel" b_MM_check (some .int) 2 cc_MM_check A) (hDD : ∀ (rt : Nat) (Mm : SMM) (M0 : SMT) (M1 : SMT), va_D A (m_cw ad ca ky ty rt Mm M0 M1)) (n : Nat)  (M0 : SMT) (Mm : SMM) (rt : Nat) (M1 : SMT) {r : Int32 × SMM × Nat} (h : m_MM_check_j218 n M0 Mm rt = some r) : o_At p l e rm_MM_check s m args below meth c (MQ below (o_Qx D m_cls (some (.int r.1)) (m_cw ad ca ky ty r.2.2 r.2.1 M0 M1) A) args s 0 0 A) m_cls D A 2 218 [] (m_cw ad ca ky ty rt Mm M0 M1) [(0, .ref (ad 0))] := by
  unfold m_MM_check_j218 at h
  intro H locs ls hP hS hl
  have C0 := C
  obtain ⟨hx, hb, -, -, -, hown, hts, hK, -, -⟩ := C0
  refine lv_aload_n hx hb d_MM_check_218 rfl (lv_at hl 0 rfl) ?_
  refine lv_aload_n hx hb d_MM_check_219 rfl (lv_at hl 0 rfl) ?_
  refine o_get (v := .int (MM_faultKind Mm)) C in_MM hP 0 mw_0 rfl 36 (by decide) k_8_26 rfl rfl d_MM_check_220 ?_
  refine lv_if_ne (tgt := 230) hx hb d_MM_check_223 (by decide) (fun c9 => ?_) (fun c9 => ?_)
  · replace h := o_ff c9 h
    refine lv_iconst (v := (0:Int32)) hx hb d_MM_check_230 (by decide) ?_
    exact f_MM_check_j231 hE hKy C hDD n (0:Int32) M0 Mm rt M1 h _ _ _ hP hS (lv_sub hl [0] rfl)
  · replace h := o_tt c9 h
    refine lv_iconst (v := (1:Int32)) hx hb d_MM_check_226 (by decide) ?_
    refine lv_goto (tgt := 231) hx hb d_MM_check_227 (by decide) ?_
    exact f_MM_check_j231 hE hKy C hDD n (1:Int32) M0 Mm rt M1 h _ _ _ hP hS (lv_sub hl [0] rfl)
set_option maxHeartbeats 4000000 in
set_option maxRecDepth 100000 in
theorem f_MM_check_b170 {E : (Nat → Prop) → State → Heap → Prop} {p : Program} {l : Launch} {e : Env} {s : State} {m : MethodId} {args : Array Value} {below : List Frame} {meth : Method} {c : Code} {D : va_G} {ad kd sd vd xd : Nat → Nat} {ca : Nat → ClassId} {A : Nat → Prop} {ky ty : Nat → Option Nat} {Q : State → Prop} (hE : o_EK E kd sd vd xd) (hKy : m_KY ky ty sd) (C : o_Cx E p s m args meth c D m_cls (m_tys ca) "SchemaJudgeModel" b_MM_check (some .int) 2 cc_MM_check A) (hDD : ∀ (rt : Nat) (Mm : SMM) (M0 : SMT) (M1 : SMT), va_D A (m_cw ad ca ky ty rt Mm M0 M1)) (n : Nat) (u170_M0 : SMT) (u170_rt : Nat) (u170_M1 : SMT) (z : Int32 × SMM) (q : Nat × Int32 × SMM) (h : m_MM_check_b170 n u170_M0 u170_rt z = some q) (h0 : q.1 = 0 → o_At p l e rm_MM_check s m args below meth c Q m_cls D A 2 170 [] (m_cw ad ca ky ty u170_rt q.2.2 u170_M0 u170_M1) [(0, .ref (ad 0)), (1, .int q.2.1)]) (h1 : q.1 ≠ 0 → (o_At p l e rm_MM_check s m args below meth c Q m_cls D A 2 218 [] (m_cw ad ca ky ty u170_rt q.2.2 u170_M0 u170_M1) [(0, .ref (ad 0))])) : o_At p l e rm_MM_check s m args below meth c Q m_cls D A 2 170 [] (m_cw ad ca ky ty u170_rt z.2 u170_M0 u170_M1) [(0, .ref (ad 0)), (1, .int z.1)] := by
  unfold m_MM_check_b170 at h
  intro H locs ls hP hS hl
  have C0 := C
  obtain ⟨hx, hb, -, -, -, hown, hts, hK, -, -⟩ := C0
  refine lv_iload_n hx hb d_MM_check_170 rfl (lv_at hl 1 rfl) ?_
  refine lv_aload_n hx hb d_MM_check_171 rfl (lv_at hl 0 rfl) ?_
  refine o_get (v := .ref (ad 33)) C in_MM hP 0 mw_0 rfl 4 (by decide) k_7_234 rfl rfl d_MM_check_172 ?_
  refine o_get (v := .int (MT_values u170_M0)) C in_MT hP 33 mw_33 rfl 13 (by decide) k_7_127 rfl rfl d_MM_check_175 ?_
  refine lv_icmp_ge (tgt := 218) hx hb d_MM_check_178 (by decide) (fun c12 => ?_) (fun c12 => ?_)
  · replace h := o_tt c12 h
    cases h
    exact h1 (Nat.succ_ne_zero 0) _ _ _ hP hS (lv_sub hl [0] rfl)
  · replace h := o_ff c12 h
    refine lv_aload_n hx hb d_MM_check_181 rfl (lv_at hl 0 rfl) ?_
    refine o_get (v := .int (MM_faultKind z.2)) C in_MM hP 0 mw_0 rfl 36 (by decide) k_8_26 rfl rfl d_MM_check_182 ?_
    refine lv_if_ne (tgt := 218) hx hb d_MM_check_185 (by decide) (fun c13 => ?_) (fun c13 => ?_)
    · replace h := o_ff c13 h
      cases h
      exact h1 (Nat.succ_ne_zero 0) _ _ _ hP hS (lv_sub hl [0] rfl)
    · replace h := o_tt c13 h
      refine lv_aload_n hx hb d_MM_check_188 rfl (lv_at hl 0 rfl) ?_
      refine o_get (v := .ref (ad 27)) C in_MM hP 0 mw_0 rfl 46 (by decide) k_8_36 rfl rfl d_MM_check_189 ?_
      refine lv_iload_n hx hb d_MM_check_192 rfl (lv_at hl 1 rfl) ?_
      obtain ⟨g14, h⟩ := o_gd_some h
      refine o_zald (f := (MM_isSchema z.2)) C hP 27 26 mw_27 rfl g14 d_MM_check_193 ?_
      refine lv_if_eq (tgt := 212) hx hb d_MM_check_194 (by decide) (fun c15 => ?_) (fun c15 => ?_)
      · replace h := o_tt c15 h
        obtain ⟨x1_212, ex1_212⟩ : ∃ y : Int32, y = z.1 + (1:Int32) := ⟨_, rfl⟩
        replace h := o_nm_at ex1_212 h
        refine lv_iinc (v := x1_212) (lv' := [(1, .int x1_212), (0, .ref (ad 0))]) hx hb d_MM_check_212 hl (k := 1) rfl (by rw [ex1_212]; rfl) (by decide) rfl (fun ls hl => ?_)
        refine lv_goto (tgt := 170) hx hb d_MM_check_215 (by decide) ?_
        cases h
        exact h0 rfl _ _ _ hP hS (lv_sub hl [1, 0] rfl)
      · replace h := o_ff c15 h
        refine lv_aload_n hx hb d_MM_check_197 rfl (lv_at hl 0 rfl) ?_
        refine lv_iload_n hx hb d_MM_check_198 rfl (lv_at hl 1 rfl) ?_
        obtain ⟨q4, hq4, h⟩ := o_bd_some h
        refine o_V (st1 := [.int q4.1]) (w1 := (m_cw ad ca ky ty u170_rt q4.2 u170_M0 u170_M1)) hE.1 C (e_MM_comesBack hE hKy l n z.1 u170_M0 z.2 u170_M1 u170_rt hq4) hP (hDD _ _ _ _) hS hl.1 rfl mw_0 k_9_194 k_9_196 k_s_114 k_1_12 k_9_197 hv_MM_comesBack rfl rfl ⟨(Nat.le_of_ble_eq_true rfl), (Nat.le_of_ble_eq_true rfl)⟩ rfl (Nat.le_of_ble_eq_true rfl) ⟨Nat.zero_le _, Nat.zero_le _⟩ rfl d_MM_check_199 (fun H locs hP hS => ?_)
        refine lv_if_eq (tgt := 212) hx hb d_MM_check_202 (by decide) (fun c16 => ?_) (fun c16 => ?_)
        · replace h := o_tt c16 h
          obtain ⟨x1_212, ex1_212⟩ : ∃ y : Int32, y = z.1 + (1:Int32) := ⟨_, rfl⟩
          replace h := o_nm_at ex1_212 h
          refine lv_iinc (v := x1_212) (lv' := [(1, .int x1_212), (0, .ref (ad 0))]) hx hb d_MM_check_212 hl (k := 1) rfl (by rw [ex1_212]; rfl) (by decide) rfl (fun ls hl => ?_)
          refine lv_goto (tgt := 170) hx hb d_MM_check_215 (by decide) ?_
          cases h
          exact h0 rfl _ _ _ hP hS (lv_sub hl [1, 0] rfl)
        · replace h := o_ff c16 h
          refine lv_aload_n hx hb d_MM_check_205 rfl (lv_at hl 0 rfl) ?_
          refine lv_bipush (v := (6:Int32)) hx hb d_MM_check_206 (by decide) ?_
          refine lv_iload_n hx hb d_MM_check_208 rfl (lv_at hl 1 rfl) ?_
          obtain ⟨q5, hq5, h⟩ := o_bd_some h
          refine o_V (st1 := []) (w1 := (m_cw ad ca ky ty u170_rt q5 u170_M0 u170_M1)) hE.1 C (e_MM_fault hE hKy l (6:Int32) z.1 q4.2 u170_M0 u170_M1 u170_rt hq5) hP (hDD _ _ _ _) hS hl.1 rfl mw_0 k_9_42 k_9_44 k_s_83 k_1_12 k_9_45 hv_MM_fault rfl rfl ⟨(Nat.le_of_ble_eq_true rfl), (Nat.le_of_ble_eq_true rfl)⟩ rfl (Nat.le_of_ble_eq_true rfl) ⟨Nat.zero_le _, Nat.zero_le _⟩ rfl d_MM_check_209 (fun H locs hP hS => ?_)
          obtain ⟨x1_212, ex1_212⟩ : ∃ y : Int32, y = z.1 + (1:Int32) := ⟨_, rfl⟩
          replace h := o_nm_at ex1_212 h
          refine lv_iinc (v := x1_212) (lv' := [(1, .int x1_212), (0, .ref (ad 0))]) hx hb d_MM_check_212 hl (k := 1) rfl (by rw [ex1_212]; rfl) (by decide) rfl (fun ls hl => ?_)
          refine lv_goto (tgt := 170) hx hb d_MM_check_215 (by decide) ?_
          cases h
          exact h0 rfl _ _ _ hP hS (lv_sub hl [1, 0] rfl)
set_option maxHeartbeats 4000000 in
set_option maxRecDepth 100000 in
theorem f_MM_check_j161 {E : (Nat → Prop) → State → Heap → Prop} {p : Program} {l : Launch} {e : Env} {s : State} {m : MethodId} {args : Array Value} {below : List Frame} {meth : Method} {c : Code} {D : va_G} {ad kd sd vd xd : Nat → Nat} {ca : Nat → ClassId} {A : Nat → Prop} {ky ty : Nat → Option Nat} (hE : o_EK E kd sd vd xd) (hKy : m_KY ky ty sd) (C : o_Cx E p s m args meth c D m_cls (m_tys ca) "SchemaJudgeModel" b_MM_check (some .int) 2 cc_MM_check A) (hDD : ∀ (rt : Nat) (Mm : SMM) (M0 : SMT) (M1 : SMT), va_D A (m_cw ad ca ky ty rt Mm M0 M1)) (n : Nat)  (M0 : SMT) (Mm : SMM) (rt : Nat) (M1 : SMT) {r : Int32 × SMM × Nat} (h : m_MM_check_j161 n M0 Mm rt = some r) : o_At p l e rm_MM_check s m args below meth c (MQ below (o_Qx D m_cls (some (.int r.1)) (m_cw ad ca ky ty r.2.2 r.2.1 M0 M1) A) args s 0 0 A) m_cls D A 2 161 [] (m_cw ad ca ky ty rt Mm M0 M1) [(0, .ref (ad 0))] := by
  unfold m_MM_check_j161 at h
  intro H locs ls hP hS hl
  have C0 := C
  obtain ⟨hx, hb, -, -, -, hown, hts, hK, -, -⟩ := C0
  refine lv_aload_n hx hb d_MM_check_161 rfl (lv_at hl 0 rfl) ?_
  refine o_get (v := .int (MM_faultKind Mm)) C in_MM hP 0 mw_0 rfl 36 (by decide) k_8_26 rfl rfl d_MM_check_162 ?_
  refine lv_if_ne (tgt := 218) hx hb d_MM_check_165 (by decide) (fun c8 => ?_) (fun c8 => ?_)
  · replace h := o_ff c8 h
    exact f_MM_check_j218 hE hKy C hDD n M0 Mm rt M1 h _ _ _ hP hS (lv_sub hl [0] rfl)
  · replace h := o_tt c8 h
    refine lv_iconst (v := (0:Int32)) hx hb d_MM_check_168 (by decide) ?_
    refine lv_istore_n (lv' := [(1, .int (0:Int32)), (0, .ref (ad 0))]) hx hb d_MM_check_169 rfl hl (by decide) rfl (fun ls hl => ?_)
    obtain ⟨q6, hq6, h⟩ := o_bd_some h
    refine o_sim2 (AH := fun zz => o_At p l e rm_MM_check s m args below meth c _ m_cls D A 2 170 [] (m_cw ad ca ky ty rt zz.2 M0 M1) [(0, .ref (ad 0)), (1, .int zz.1)]) (AX := fun qq => o_At p l e rm_MM_check s m args below meth c _ m_cls D A 2 218 [] (m_cw ad ca ky ty rt qq.2.2 M0 M1) [(0, .ref (ad 0))]) (fun zz qq h h0 h1 => f_MM_check_b170 hE hKy C hDD n M0 rt M1 zz qq h h0 h1) n _ q6 hq6 ?_ _ _ _ hP hS (lv_sub hl [1, 0] rfl)
    intro H locs ls hP hS hl
    exact f_MM_check_j218 hE hKy C hDD n M0 q6.2.2 rt M1 h _ _ _ hP hS (lv_sub hl [0] rfl)
set_option maxHeartbeats 4000000 in
set_option maxRecDepth 100000 in
theorem f_MM_check_b90 {E : (Nat → Prop) → State → Heap → Prop} {p : Program} {l : Launch} {e : Env} {s : State} {m : MethodId} {args : Array Value} {below : List Frame} {meth : Method} {c : Code} {D : va_G} {ad kd sd vd xd : Nat → Nat} {ca : Nat → ClassId} {A : Nat → Prop} {ky ty : Nat → Option Nat} {Q : State → Prop} (hE : o_EK E kd sd vd xd) (hKy : m_KY ky ty sd) (C : o_Cx E p s m args meth c D m_cls (m_tys ca) "SchemaJudgeModel" b_MM_check (some .int) 2 cc_MM_check A) (hDD : ∀ (rt : Nat) (Mm : SMM) (M0 : SMT) (M1 : SMT), va_D A (m_cw ad ca ky ty rt Mm M0 M1)) (n : Nat) (u90_M0 : SMT) (u90_rt : Nat) (u90_M1 : SMT) (z : Int32 × SMM) (q : Nat × Int32 × SMM) (h : m_MM_check_b90 n u90_M0 u90_rt z = some q) (h0 : q.1 = 0 → o_At p l e rm_MM_check s m args below meth c Q m_cls D A 2 90 [] (m_cw ad ca ky ty u90_rt q.2.2 u90_M0 u90_M1) [(0, .ref (ad 0)), (1, .int q.2.1)]) (h1 : q.1 ≠ 0 → (o_At p l e rm_MM_check s m args below meth c Q m_cls D A 2 161 [] (m_cw ad ca ky ty u90_rt q.2.2 u90_M0 u90_M1) [(0, .ref (ad 0))])) : o_At p l e rm_MM_check s m args below meth c Q m_cls D A 2 90 [] (m_cw ad ca ky ty u90_rt z.2 u90_M0 u90_M1) [(0, .ref (ad 0)), (1, .int z.1)] := by
  unfold m_MM_check_b90 at h
  intro H locs ls hP hS hl
  have C0 := C
  obtain ⟨hx, hb, -, -, -, hown, hts, hK, -, -⟩ := C0
  refine lv_iload_n hx hb d_MM_check_90 rfl (lv_at hl 1 rfl) ?_
  refine lv_aload_n hx hb d_MM_check_91 rfl (lv_at hl 0 rfl) ?_
  refine o_get (v := .ref (ad 33)) C in_MM hP 0 mw_0 rfl 4 (by decide) k_7_234 rfl rfl d_MM_check_92 ?_
  refine o_get (v := .int (MT_values u90_M0)) C in_MT hP 33 mw_33 rfl 13 (by decide) k_7_127 rfl rfl d_MM_check_95 ?_
  refine lv_icmp_ge (tgt := 161) hx hb d_MM_check_98 (by decide) (fun c17 => ?_) (fun c17 => ?_)
  · replace h := o_tt c17 h
    cases h
    exact h1 (Nat.succ_ne_zero 0) _ _ _ hP hS (lv_sub hl [0] rfl)
  · replace h := o_ff c17 h
    refine lv_aload_n hx hb d_MM_check_101 rfl (lv_at hl 0 rfl) ?_
    refine o_get (v := .ref (ad 21)) C in_MM hP 0 mw_0 rfl 40 (by decide) k_8_30 rfl rfl d_MM_check_102 ?_
    refine lv_iload_n hx hb d_MM_check_105 rfl (lv_at hl 1 rfl) ?_
    obtain ⟨g18, h⟩ := o_gd_some h
    refine o_iald (f := (MM_key z.2)) C hP 21 20 mw_21 rfl g18 d_MM_check_106 ?_
    refine lv_bipush (v := (32:Int32)) hx hb d_MM_check_107 (by decide) ?_
    refine lv_icmp_ne (tgt := 155) hx hb d_MM_check_109 (by decide) (fun c19 => ?_) (fun c19 => ?_)
    · replace h := o_ff c19 h
      obtain ⟨x1_155, ex1_155⟩ : ∃ y : Int32, y = z.1 + (1:Int32) := ⟨_, rfl⟩
      replace h := o_nm_at ex1_155 h
      refine lv_iinc (v := x1_155) (lv' := [(1, .int x1_155), (0, .ref (ad 0))]) hx hb d_MM_check_155 hl (k := 1) rfl (by rw [ex1_155]; rfl) (by decide) rfl (fun ls hl => ?_)
      refine lv_goto (tgt := 90) hx hb d_MM_check_158 (by decide) ?_
      cases h
      exact h0 rfl _ _ _ hP hS (lv_sub hl [1, 0] rfl)
    · replace h := o_tt c19 h
      refine lv_aload_n hx hb d_MM_check_112 rfl (lv_at hl 0 rfl) ?_
      refine o_get (v := .ref (ad 27)) C in_MM hP 0 mw_0 rfl 46 (by decide) k_8_36 rfl rfl d_MM_check_113 ?_
      refine lv_aload_n hx hb d_MM_check_116 rfl (lv_at hl 0 rfl) ?_
      refine o_get (v := .ref (ad 33)) C in_MM hP 0 mw_0 rfl 4 (by decide) k_7_234 rfl rfl d_MM_check_117 ?_
      refine o_get (v := .ref (ad 38)) C in_MT hP 33 mw_33 rfl 4 (by decide) k_7_109 rfl rfl d_MM_check_120 ?_
      refine lv_iload_n hx hb d_MM_check_123 rfl (lv_at hl 1 rfl) ?_
      obtain ⟨g20, h⟩ := o_gd_some h
      refine o_iald (f := (MT_parent u90_M0)) C hP 38 36 mw_38 rfl g20 d_MM_check_124 ?_
      obtain ⟨g21, h⟩ := o_gd_some h
      refine o_zald (f := (MM_isSchema z.2)) C hP 27 26 mw_27 rfl g21 d_MM_check_125 ?_
      refine lv_if_eq (tgt := 155) hx hb d_MM_check_126 (by decide) (fun c22 => ?_) (fun c22 => ?_)
      · replace h := o_tt c22 h
        obtain ⟨x1_155, ex1_155⟩ : ∃ y : Int32, y = z.1 + (1:Int32) := ⟨_, rfl⟩
        replace h := o_nm_at ex1_155 h
        refine lv_iinc (v := x1_155) (lv' := [(1, .int x1_155), (0, .ref (ad 0))]) hx hb d_MM_check_155 hl (k := 1) rfl (by rw [ex1_155]; rfl) (by decide) rfl (fun ls hl => ?_)
        refine lv_goto (tgt := 90) hx hb d_MM_check_158 (by decide) ?_
        cases h
        exact h0 rfl _ _ _ hP hS (lv_sub hl [1, 0] rfl)
      · replace h := o_ff c22 h
        refine lv_aload_n hx hb d_MM_check_129 rfl (lv_at hl 0 rfl) ?_
        refine o_get (v := .ref (ad 22)) C in_MM hP 0 mw_0 rfl 41 (by decide) k_8_31 rfl rfl d_MM_check_130 ?_
        refine lv_iload_n hx hb d_MM_check_133 rfl (lv_at hl 1 rfl) ?_
        refine lv_aload_n hx hb d_MM_check_134 rfl (lv_at hl 0 rfl) ?_
        refine lv_iload_n hx hb d_MM_check_135 rfl (lv_at hl 1 rfl) ?_
        obtain ⟨q7, hq7, h⟩ := o_bd_some h
        refine o_V (st1 := [.int q7.1, .int z.1, .ref (ad 22)]) (w1 := (m_cw ad ca ky ty u90_rt q7.2 u90_M0 u90_M1)) hE.1 C (e_MM_leads hE hKy l n z.1 u90_M0 z.2 u90_M1 u90_rt hq7) hP (hDD _ _ _ _) hS hl.1 rfl mw_0 k_9_179 k_9_181 k_s_111 k_1_12 k_9_182 hv_MM_leads rfl rfl ⟨(Nat.le_of_ble_eq_true rfl), (Nat.le_of_ble_eq_true rfl)⟩ rfl (Nat.le_of_ble_eq_true rfl) ⟨Nat.zero_le _, Nat.zero_le _⟩ rfl d_MM_check_136 (fun H locs hP hS => ?_)
        obtain ⟨g23, h⟩ := o_gd_some h
        refine o_iast (f := (MM_target q7.2)) (w1 := (m_cw ad ca ky ty u90_rt (MM_mk (MM_err q7.2) (MM_fed q7.2) (MM_wrong q7.2) (MM_octets q7.2) (MM_nodeKind q7.2) (MM_nodeA q7.2) (MM_nodeB q7.2) (MM_nodeC q7.2) (MM_nodeNext q7.2) (MM_low q7.2) (MM_high q7.2) (MM_setFrom q7.2) (MM_setTo q7.2) (MM_setNot q7.2) (MM_op q7.2) (MM_opA q7.2) (MM_opB q7.2) (MM_mark q7.2) (MM_now q7.2) (MM_then q7.2) (MM_todo q7.2) (MM_nodes q7.2) (MM_sets q7.2) (MM_ranges q7.2) (MM_steps q7.2) (MM_pat q7.2) (MM_patEnd q7.2) (MM_round q7.2) (MM_many1 q7.2) (MM_broken q7.2) (MM_checked q7.2) (MM_faultKind q7.2) (MM_faultValue q7.2) (MM_latestFault q7.2) (MM_anchors q7.2) (MM_key q7.2) (upd (MM_target q7.2) z.1.toNatClampNeg q7.1) (MM_anchorValue q7.2) (MM_anchorSchema q7.2) (MM_path q7.2) (MM_route q7.2) (MM_isSchema q7.2) (MM_seen1 q7.2) (MM_pathSize q7.2) (MM_octetRow q7.2) (MM_partRow q7.2) (MM_pairValue q7.2) (MM_pairKey q7.2) (MM_pairs q7.2) (MM_judged q7.2) (MM_deepest q7.2) (MM_depth q7.2) (MM_over q7.2) (MM_seen q7.2)) u90_M0 u90_M1)) C hP (hDD _ _ _ _) hS 22 21 mw_22 rfl g23 rfl d_MM_check_139 (fun H locs hP hS => ?_)
        refine lv_aload_n hx hb d_MM_check_140 rfl (lv_at hl 0 rfl) ?_
        refine o_get (v := .ref (ad 22)) C in_MM hP 0 mw_0 rfl 41 (by decide) k_8_31 rfl rfl d_MM_check_141 ?_
        refine lv_iload_n hx hb d_MM_check_144 rfl (lv_at hl 1 rfl) ?_
        obtain ⟨g24, h⟩ := o_gd_some h
        refine o_iald (f := (upd (MM_target q7.2) z.1.toNatClampNeg q7.1)) C hP 22 21 mw_22 rfl g24 d_MM_check_145 ?_
        refine lv_if_ge (tgt := 155) hx hb d_MM_check_146 (by decide) (fun c25 => ?_) (fun c25 => ?_)
        · replace h := o_tt c25 h
          obtain ⟨x1_155, ex1_155⟩ : ∃ y : Int32, y = z.1 + (1:Int32) := ⟨_, rfl⟩
          replace h := o_nm_at ex1_155 h
          refine lv_iinc (v := x1_155) (lv' := [(1, .int x1_155), (0, .ref (ad 0))]) hx hb d_MM_check_155 hl (k := 1) rfl (by rw [ex1_155]; rfl) (by decide) rfl (fun ls hl => ?_)
          refine lv_goto (tgt := 90) hx hb d_MM_check_158 (by decide) ?_
          cases h
          exact h0 rfl _ _ _ hP hS (lv_sub hl [1, 0] rfl)
        · replace h := o_ff c25 h
          refine lv_aload_n hx hb d_MM_check_149 rfl (lv_at hl 0 rfl) ?_
          refine lv_iconst (v := (5:Int32)) hx hb d_MM_check_150 (by decide) ?_
          refine lv_iload_n hx hb d_MM_check_151 rfl (lv_at hl 1 rfl) ?_
          obtain ⟨q8, hq8, h⟩ := o_bd_some h
          refine o_V (st1 := []) (w1 := (m_cw ad ca ky ty u90_rt q8 u90_M0 u90_M1)) hE.1 C (e_MM_fault hE hKy l (5:Int32) z.1 (MM_mk (MM_err q7.2) (MM_fed q7.2) (MM_wrong q7.2) (MM_octets q7.2) (MM_nodeKind q7.2) (MM_nodeA q7.2) (MM_nodeB q7.2) (MM_nodeC q7.2) (MM_nodeNext q7.2) (MM_low q7.2) (MM_high q7.2) (MM_setFrom q7.2) (MM_setTo q7.2) (MM_setNot q7.2) (MM_op q7.2) (MM_opA q7.2) (MM_opB q7.2) (MM_mark q7.2) (MM_now q7.2) (MM_then q7.2) (MM_todo q7.2) (MM_nodes q7.2) (MM_sets q7.2) (MM_ranges q7.2) (MM_steps q7.2) (MM_pat q7.2) (MM_patEnd q7.2) (MM_round q7.2) (MM_many1 q7.2) (MM_broken q7.2) (MM_checked q7.2) (MM_faultKind q7.2) (MM_faultValue q7.2) (MM_latestFault q7.2) (MM_anchors q7.2) (MM_key q7.2) (upd (MM_target q7.2) z.1.toNatClampNeg q7.1) (MM_anchorValue q7.2) (MM_anchorSchema q7.2) (MM_path q7.2) (MM_route q7.2) (MM_isSchema q7.2) (MM_seen1 q7.2) (MM_pathSize q7.2) (MM_octetRow q7.2) (MM_partRow q7.2) (MM_pairValue q7.2) (MM_pairKey q7.2) (MM_pairs q7.2) (MM_judged q7.2) (MM_deepest q7.2) (MM_depth q7.2) (MM_over q7.2) (MM_seen q7.2)) u90_M0 u90_M1 u90_rt hq8) hP (hDD _ _ _ _) hS hl.1 rfl mw_0 k_9_42 k_9_44 k_s_83 k_1_12 k_9_45 hv_MM_fault rfl rfl ⟨(Nat.le_of_ble_eq_true rfl), (Nat.le_of_ble_eq_true rfl)⟩ rfl (Nat.le_of_ble_eq_true rfl) ⟨Nat.zero_le _, Nat.zero_le _⟩ rfl d_MM_check_152 (fun H locs hP hS => ?_)
          obtain ⟨x1_155, ex1_155⟩ : ∃ y : Int32, y = z.1 + (1:Int32) := ⟨_, rfl⟩
          replace h := o_nm_at ex1_155 h
          refine lv_iinc (v := x1_155) (lv' := [(1, .int x1_155), (0, .ref (ad 0))]) hx hb d_MM_check_155 hl (k := 1) rfl (by rw [ex1_155]; rfl) (by decide) rfl (fun ls hl => ?_)
          refine lv_goto (tgt := 90) hx hb d_MM_check_158 (by decide) ?_
          cases h
          exact h0 rfl _ _ _ hP hS (lv_sub hl [1, 0] rfl)
set_option maxHeartbeats 4000000 in
set_option maxRecDepth 100000 in
theorem f_MM_check_j21 {E : (Nat → Prop) → State → Heap → Prop} {p : Program} {l : Launch} {e : Env} {s : State} {m : MethodId} {args : Array Value} {below : List Frame} {meth : Method} {c : Code} {D : va_G} {ad kd sd vd xd : Nat → Nat} {ca : Nat → ClassId} {A : Nat → Prop} {ky ty : Nat → Option Nat} (hE : o_EK E kd sd vd xd) (hKy : m_KY ky ty sd) (C : o_Cx E p s m args meth c D m_cls (m_tys ca) "SchemaJudgeModel" b_MM_check (some .int) 2 cc_MM_check A) (hDD : ∀ (rt : Nat) (Mm : SMM) (M0 : SMT) (M1 : SMT), va_D A (m_cw ad ca ky ty rt Mm M0 M1)) (n : Nat) (y1 : Int32) (M0 : SMT) (Mm : SMM) (rt : Nat) (M1 : SMT) {r : Int32 × SMM × Nat} (h : m_MM_check_j21 n y1 M0 Mm rt = some r) : o_At p l e rm_MM_check s m args below meth c (MQ below (o_Qx D m_cls (some (.int r.1)) (m_cw ad ca ky ty r.2.2 r.2.1 M0 M1) A) args s 0 0 A) m_cls D A 2 21 [.int y1, .ref (ad 0)] (m_cw ad ca ky ty rt Mm M0 M1) [(0, .ref (ad 0))] := by
  unfold m_MM_check_j21 at h
  intro H locs ls hP hS hl
  have C0 := C
  obtain ⟨hx, hb, -, -, -, hown, hts, hK, -, -⟩ := C0
  refine lv_iconst (v := (1:Int32)) hx hb d_MM_check_21 (by decide) ?_
  obtain ⟨q1, hq1, h⟩ := o_bd_some h
  refine o_V (st1 := [.int q1.1]) (w1 := (m_cw ad ca ky ty rt q1.2 M0 M1)) hE.1 C (e_MM_fails hE hKy l y1 (1:Int32) Mm M0 M1 rt hq1) hP (hDD _ _ _ _) hS hl.1 rfl mw_0 k_8_176 k_8_178 k_s_81 k_1_12 k_8_179 hv_MM_fails rfl rfl ⟨(Nat.le_of_ble_eq_true rfl), (Nat.le_of_ble_eq_true rfl)⟩ rfl (Nat.le_of_ble_eq_true rfl) ⟨Nat.zero_le _, Nat.zero_le _⟩ rfl d_MM_check_22 (fun H locs hP hS => ?_)
  refine lv_if_eq (tgt := 30) hx hb d_MM_check_25 (by decide) (fun c2 => ?_) (fun c2 => ?_)
  · replace h := o_tt c2 h
    refine lv_aload_n hx hb d_MM_check_30 rfl (lv_at hl 0 rfl) ?_
    refine lv_iconst (v := (0:Int32)) hx hb d_MM_check_31 (by decide) ?_
    refine o_put (v := .int (0:Int32)) (ty := .int) (w1 := (m_cw ad ca ky ty rt (MM_mk (MM_err q1.2) (MM_fed q1.2) (MM_wrong q1.2) (MM_octets q1.2) (MM_nodeKind q1.2) (MM_nodeA q1.2) (MM_nodeB q1.2) (MM_nodeC q1.2) (MM_nodeNext q1.2) (MM_low q1.2) (MM_high q1.2) (MM_setFrom q1.2) (MM_setTo q1.2) (MM_setNot q1.2) (MM_op q1.2) (MM_opA q1.2) (MM_opB q1.2) (MM_mark q1.2) (MM_now q1.2) (MM_then q1.2) (MM_todo q1.2) (MM_nodes q1.2) (MM_sets q1.2) (MM_ranges q1.2) (MM_steps q1.2) (MM_pat q1.2) (MM_patEnd q1.2) (MM_round q1.2) (MM_many1 q1.2) (MM_broken q1.2) (MM_checked q1.2) (0:Int32) (MM_faultValue q1.2) (MM_latestFault q1.2) (MM_anchors q1.2) (MM_key q1.2) (MM_target q1.2) (MM_anchorValue q1.2) (MM_anchorSchema q1.2) (MM_path q1.2) (MM_route q1.2) (MM_isSchema q1.2) (MM_seen1 q1.2) (MM_pathSize q1.2) (MM_octetRow q1.2) (MM_partRow q1.2) (MM_pairValue q1.2) (MM_pairKey q1.2) (MM_pairs q1.2) (MM_judged q1.2) (MM_deepest q1.2) (MM_depth q1.2) (MM_over q1.2) (MM_seen q1.2)) M0 M1)) C in_MM t_MM t_MM_ok n_MM hP (hDD _ _ _ _) hS 0 mw_0 rfl 36 (by decide) k_8_26 rfl rfl (by decide +kernel) rfl rfl (Nat.le_of_ble_eq_true rfl) rfl d_MM_check_32 (fun H locs hP hS => ?_)
    refine lv_aload_n hx hb d_MM_check_35 rfl (lv_at hl 0 rfl) ?_
    refine lv_iconst (v := (0:Int32)) hx hb d_MM_check_36 (by decide) ?_
    refine o_put (v := .int (0:Int32)) (ty := .int) (w1 := (m_cw ad ca ky ty rt (MM_mk (MM_err q1.2) (MM_fed q1.2) (MM_wrong q1.2) (MM_octets q1.2) (MM_nodeKind q1.2) (MM_nodeA q1.2) (MM_nodeB q1.2) (MM_nodeC q1.2) (MM_nodeNext q1.2) (MM_low q1.2) (MM_high q1.2) (MM_setFrom q1.2) (MM_setTo q1.2) (MM_setNot q1.2) (MM_op q1.2) (MM_opA q1.2) (MM_opB q1.2) (MM_mark q1.2) (MM_now q1.2) (MM_then q1.2) (MM_todo q1.2) (MM_nodes q1.2) (MM_sets q1.2) (MM_ranges q1.2) (MM_steps q1.2) (MM_pat q1.2) (MM_patEnd q1.2) (MM_round q1.2) (MM_many1 q1.2) (MM_broken q1.2) (MM_checked q1.2) (0:Int32) (MM_faultValue q1.2) (MM_latestFault q1.2) (0:Int32) (MM_key q1.2) (MM_target q1.2) (MM_anchorValue q1.2) (MM_anchorSchema q1.2) (MM_path q1.2) (MM_route q1.2) (MM_isSchema q1.2) (MM_seen1 q1.2) (MM_pathSize q1.2) (MM_octetRow q1.2) (MM_partRow q1.2) (MM_pairValue q1.2) (MM_pairKey q1.2) (MM_pairs q1.2) (MM_judged q1.2) (MM_deepest q1.2) (MM_depth q1.2) (MM_over q1.2) (MM_seen q1.2)) M0 M1)) C in_MM t_MM t_MM_ok n_MM hP (hDD _ _ _ _) hS 0 mw_0 rfl 39 (by decide) k_8_29 rfl rfl (by decide +kernel) rfl rfl (Nat.le_of_ble_eq_true rfl) rfl d_MM_check_37 (fun H locs hP hS => ?_)
    refine lv_iconst (v := (0:Int32)) hx hb d_MM_check_40 (by decide) ?_
    refine lv_istore_n (lv' := [(1, .int (0:Int32)), (0, .ref (ad 0))]) hx hb d_MM_check_41 rfl hl (by decide) rfl (fun ls hl => ?_)
    obtain ⟨q2, hq2, h⟩ := o_bd_some h
    refine o_sim2 (AH := fun zz => o_At p l e rm_MM_check s m args below meth c _ m_cls D A 2 42 [] (m_cw ad ca ky ty rt zz.2 M0 M1) [(0, .ref (ad 0)), (1, .int zz.1)]) (AX := fun qq => o_At p l e rm_MM_check s m args below meth c _ m_cls D A 2 76 [] (m_cw ad ca ky ty rt qq.2.2 M0 M1) [(0, .ref (ad 0))]) (fun zz qq h h0 h1 => f_MM_check_b42 hE hKy C hDD n M0 rt M1 zz qq h h0 h1) n _ q2 hq2 ?_ _ _ _ hP hS (lv_sub hl [1, 0] rfl)
    intro H locs ls hP hS hl
    refine lv_aload_n hx hb d_MM_check_76 rfl (lv_at hl 0 rfl) ?_
    refine lv_iconst (v := (0:Int32)) hx hb d_MM_check_77 (by decide) ?_
    obtain ⟨q3, hq3, h⟩ := o_bd_some h
    refine o_V (st1 := []) (w1 := (m_cw ad ca ky ty q3.2 q3.1 M0 M1)) hE.1 C (e_MM_visit hE hKy l n 45 (0:Int32) M0 q2.2.2 rt M1 hq3) hP (hDD _ _ _ _) hS hl.1 rfl mw_0 k_9_37 k_9_39 k_s_82 k_1_12 k_9_40 hv_MM_visit rfl rfl ⟨(Nat.le_of_ble_eq_true rfl), (Nat.le_of_ble_eq_true rfl)⟩ rfl (Nat.le_of_ble_eq_true rfl) ⟨Nat.zero_le _, Nat.zero_le _⟩ rfl d_MM_check_78 (fun H locs hP hS => ?_)
    refine lv_aload_n hx hb d_MM_check_81 rfl (lv_at hl 0 rfl) ?_
    refine o_get (v := .int (MM_faultKind q3.1)) C in_MM hP 0 mw_0 rfl 36 (by decide) k_8_26 rfl rfl d_MM_check_82 ?_
    refine lv_if_ne (tgt := 161) hx hb d_MM_check_85 (by decide) (fun c7 => ?_) (fun c7 => ?_)
    · replace h := o_ff c7 h
      exact f_MM_check_j161 hE hKy C hDD n M0 q3.1 q3.2 M1 h _ _ _ hP hS (lv_sub hl [0] rfl)
    · replace h := o_tt c7 h
      refine lv_iconst (v := (0:Int32)) hx hb d_MM_check_88 (by decide) ?_
      refine lv_istore_n (lv' := [(1, .int (0:Int32)), (0, .ref (ad 0))]) hx hb d_MM_check_89 rfl hl (by decide) rfl (fun ls hl => ?_)
      obtain ⟨q9, hq9, h⟩ := o_bd_some h
      refine o_sim2 (AH := fun zz => o_At p l e rm_MM_check s m args below meth c _ m_cls D A 2 90 [] (m_cw ad ca ky ty q3.2 zz.2 M0 M1) [(0, .ref (ad 0)), (1, .int zz.1)]) (AX := fun qq => o_At p l e rm_MM_check s m args below meth c _ m_cls D A 2 161 [] (m_cw ad ca ky ty q3.2 qq.2.2 M0 M1) [(0, .ref (ad 0))]) (fun zz qq h h0 h1 => f_MM_check_b90 hE hKy C hDD n M0 q3.2 M1 zz qq h h0 h1) n _ q9 hq9 ?_ _ _ _ hP hS (lv_sub hl [1, 0] rfl)
      intro H locs ls hP hS hl
      exact f_MM_check_j161 hE hKy C hDD n M0 q9.2.2 q3.2 M1 h _ _ _ hP hS (lv_sub hl [0] rfl)
  · replace h := o_ff c2 h
    refine lv_iconst (v := (0:Int32)) hx hb d_MM_check_28 (by decide) ?_
    cases h
    exact o_ri (v := (0:Int32)) C hP hS d_MM_check_29
set_option maxHeartbeats 4000000 in
set_option maxRecDepth 100000 in
theorem e_MM_check {E : (Nat → Prop) → State → Heap → Prop} {D : va_G} {ad kd sd vd xd : Nat → Nat} {ca : Nat → ClassId} {ky ty : Nat → Option Nat} (hE : o_EK E kd sd vd xd) (hKy : m_KY ky ty sd) (l : Launch) (n : Nat)  (M0 : SMT) (Mm : SMM) (rt : Nat) (M1 : SMT) {r : Int32 × SMM × Nat} (h : m_MM_check n M0 Mm rt = some r) : o_Cn E l D m_cls (m_tys ca) y_MM_check cc_MM_check rm_MM_check [.ref (ad 0)] (m_cw ad ca ky ty rt Mm M0 M1) (m_cw ad ca ky ty r.2.2 r.2.1 M0 M1) (some (.int r.1)) := by
  refine o_Cn_of (by decide) (Nat.le_of_ble_eq_true rfl) ?_
  intro p e s m below meth c A ls C hD hP hS hl
  have hDD : ∀ (rt : Nat) (Mm : SMM) (M0 : SMT) (M1 : SMT), va_D A (m_cw ad ca ky ty rt Mm M0 M1) := fun _ _ _ _ => o_D_map hD rfl
  have hl : lv_has ls 2 [(0, .ref (ad 0))] := hl
  unfold m_MM_check at h
  have C0 := C
  obtain ⟨hx, hb, -, -, -, hown, hts, hK, -, -⟩ := C0
  refine lv_aload_n hx hb d_MM_check_0 rfl (lv_at hl 0 rfl) ?_
  refine lv_iconst (v := (0:Int32)) hx hb d_MM_check_1 (by decide) ?_
  refine o_put (v := .int (0:Int32)) (ty := .int) (w1 := (m_cw ad ca ky ty rt (MM_mk (0:Int32) (MM_fed Mm) (MM_wrong Mm) (MM_octets Mm) (MM_nodeKind Mm) (MM_nodeA Mm) (MM_nodeB Mm) (MM_nodeC Mm) (MM_nodeNext Mm) (MM_low Mm) (MM_high Mm) (MM_setFrom Mm) (MM_setTo Mm) (MM_setNot Mm) (MM_op Mm) (MM_opA Mm) (MM_opB Mm) (MM_mark Mm) (MM_now Mm) (MM_then Mm) (MM_todo Mm) (MM_nodes Mm) (MM_sets Mm) (MM_ranges Mm) (MM_steps Mm) (MM_pat Mm) (MM_patEnd Mm) (MM_round Mm) (MM_many1 Mm) (MM_broken Mm) (MM_checked Mm) (MM_faultKind Mm) (MM_faultValue Mm) (MM_latestFault Mm) (MM_anchors Mm) (MM_key Mm) (MM_target Mm) (MM_anchorValue Mm) (MM_anchorSchema Mm) (MM_path Mm) (MM_route Mm) (MM_isSchema Mm) (MM_seen1 Mm) (MM_pathSize Mm) (MM_octetRow Mm) (MM_partRow Mm) (MM_pairValue Mm) (MM_pairKey Mm) (MM_pairs Mm) (MM_judged Mm) (MM_deepest Mm) (MM_depth Mm) (MM_over Mm) (MM_seen Mm)) M0 M1)) C in_MM t_MM t_MM_ok n_MM hP (hDD _ _ _ _) hS 0 mw_0 rfl 0 (by decide) k_7_230 rfl rfl (by decide +kernel) rfl rfl (Nat.le_of_ble_eq_true rfl) rfl d_MM_check_2 (fun H locs hP hS => ?_)
  refine lv_aload_n hx hb d_MM_check_5 rfl (lv_at hl 0 rfl) ?_
  refine lv_aload_n hx hb d_MM_check_6 rfl (lv_at hl 0 rfl) ?_
  refine o_get (v := .ref (ad 33)) C in_MM hP 0 mw_0 rfl 4 (by decide) k_7_234 rfl rfl d_MM_check_7 ?_
  refine o_get (v := .int (MT_values M0)) C in_MT hP 33 mw_33 rfl 13 (by decide) k_7_127 rfl rfl d_MM_check_10 ?_
  refine lv_if_ne (tgt := 20) hx hb d_MM_check_13 (by decide) (fun c1 => ?_) (fun c1 => ?_)
  · replace h := o_ff c1 h
    refine lv_iconst (v := (0:Int32)) hx hb d_MM_check_20 (by decide) ?_
    exact f_MM_check_j21 hE hKy C hDD n (0:Int32) M0 (MM_mk (0:Int32) (MM_fed Mm) (MM_wrong Mm) (MM_octets Mm) (MM_nodeKind Mm) (MM_nodeA Mm) (MM_nodeB Mm) (MM_nodeC Mm) (MM_nodeNext Mm) (MM_low Mm) (MM_high Mm) (MM_setFrom Mm) (MM_setTo Mm) (MM_setNot Mm) (MM_op Mm) (MM_opA Mm) (MM_opB Mm) (MM_mark Mm) (MM_now Mm) (MM_then Mm) (MM_todo Mm) (MM_nodes Mm) (MM_sets Mm) (MM_ranges Mm) (MM_steps Mm) (MM_pat Mm) (MM_patEnd Mm) (MM_round Mm) (MM_many1 Mm) (MM_broken Mm) (MM_checked Mm) (MM_faultKind Mm) (MM_faultValue Mm) (MM_latestFault Mm) (MM_anchors Mm) (MM_key Mm) (MM_target Mm) (MM_anchorValue Mm) (MM_anchorSchema Mm) (MM_path Mm) (MM_route Mm) (MM_isSchema Mm) (MM_seen1 Mm) (MM_pathSize Mm) (MM_octetRow Mm) (MM_partRow Mm) (MM_pairValue Mm) (MM_pairKey Mm) (MM_pairs Mm) (MM_judged Mm) (MM_deepest Mm) (MM_depth Mm) (MM_over Mm) (MM_seen Mm)) rt M1 h _ _ _ hP hS (lv_sub hl [0] rfl)
  · replace h := o_tt c1 h
    refine lv_iconst (v := (1:Int32)) hx hb d_MM_check_16 (by decide) ?_
    refine lv_goto (tgt := 21) hx hb d_MM_check_17 (by decide) ?_
    exact f_MM_check_j21 hE hKy C hDD n (1:Int32) M0 (MM_mk (0:Int32) (MM_fed Mm) (MM_wrong Mm) (MM_octets Mm) (MM_nodeKind Mm) (MM_nodeA Mm) (MM_nodeB Mm) (MM_nodeC Mm) (MM_nodeNext Mm) (MM_low Mm) (MM_high Mm) (MM_setFrom Mm) (MM_setTo Mm) (MM_setNot Mm) (MM_op Mm) (MM_opA Mm) (MM_opB Mm) (MM_mark Mm) (MM_now Mm) (MM_then Mm) (MM_todo Mm) (MM_nodes Mm) (MM_sets Mm) (MM_ranges Mm) (MM_steps Mm) (MM_pat Mm) (MM_patEnd Mm) (MM_round Mm) (MM_many1 Mm) (MM_broken Mm) (MM_checked Mm) (MM_faultKind Mm) (MM_faultValue Mm) (MM_latestFault Mm) (MM_anchors Mm) (MM_key Mm) (MM_target Mm) (MM_anchorValue Mm) (MM_anchorSchema Mm) (MM_path Mm) (MM_route Mm) (MM_isSchema Mm) (MM_seen1 Mm) (MM_pathSize Mm) (MM_octetRow Mm) (MM_partRow Mm) (MM_pairValue Mm) (MM_pairKey Mm) (MM_pairs Mm) (MM_judged Mm) (MM_deepest Mm) (MM_depth Mm) (MM_over Mm) (MM_seen Mm)) rt M1 h _ _ _ hP hS (lv_sub hl [0] rfl)
set_option maxHeartbeats 4000000 in
set_option maxRecDepth 100000 in
theorem e_MM_fault_1 {E : (Nat → Prop) → State → Heap → Prop} {D : va_G} {ad kd sd vd xd : Nat → Nat} {ca : Nat → ClassId} {ky ty : Nat → Option Nat} (hE : o_EK E kd sd vd xd) (hKy : m_KY ky ty sd) (l : Launch)  (Mm : SMM) (M0 : SMT) (M1 : SMT) (rt : Nat) {r : Int32 × SMM} (h : m_MM_fault_1 Mm = some r) : o_Cn E l D m_cls (m_tys ca) y_MM_fault_1 cc_MM_fault_1 rm_MM_fault_1 [.ref (ad 0)] (m_cw ad ca ky ty rt Mm M0 M1) (m_cw ad ca ky ty rt r.2 M0 M1) (some (.int r.1)) := by
  refine o_Cn_of (by decide) (Nat.le_of_ble_eq_true rfl) ?_
  intro p e s m below meth c A ls C hD hP hS hl
  have hDD : ∀ (rt : Nat) (Mm : SMM) (M0 : SMT) (M1 : SMT), va_D A (m_cw ad ca ky ty rt Mm M0 M1) := fun _ _ _ _ => o_D_map hD rfl
  have hl : lv_has ls 1 [(0, .ref (ad 0))] := hl
  unfold m_MM_fault_1 at h
  have C0 := C
  obtain ⟨hx, hb, -, -, -, hown, hts, hK, -, -⟩ := C0
  refine lv_aload_n hx hb d_MM_fault_1_0 rfl (lv_at hl 0 rfl) ?_
  refine lv_iconst (v := (0:Int32)) hx hb d_MM_fault_1_1 (by decide) ?_
  refine o_put (v := .int (0:Int32)) (ty := .int) (w1 := (m_cw ad ca ky ty rt (MM_mk (0:Int32) (MM_fed Mm) (MM_wrong Mm) (MM_octets Mm) (MM_nodeKind Mm) (MM_nodeA Mm) (MM_nodeB Mm) (MM_nodeC Mm) (MM_nodeNext Mm) (MM_low Mm) (MM_high Mm) (MM_setFrom Mm) (MM_setTo Mm) (MM_setNot Mm) (MM_op Mm) (MM_opA Mm) (MM_opB Mm) (MM_mark Mm) (MM_now Mm) (MM_then Mm) (MM_todo Mm) (MM_nodes Mm) (MM_sets Mm) (MM_ranges Mm) (MM_steps Mm) (MM_pat Mm) (MM_patEnd Mm) (MM_round Mm) (MM_many1 Mm) (MM_broken Mm) (MM_checked Mm) (MM_faultKind Mm) (MM_faultValue Mm) (MM_latestFault Mm) (MM_anchors Mm) (MM_key Mm) (MM_target Mm) (MM_anchorValue Mm) (MM_anchorSchema Mm) (MM_path Mm) (MM_route Mm) (MM_isSchema Mm) (MM_seen1 Mm) (MM_pathSize Mm) (MM_octetRow Mm) (MM_partRow Mm) (MM_pairValue Mm) (MM_pairKey Mm) (MM_pairs Mm) (MM_judged Mm) (MM_deepest Mm) (MM_depth Mm) (MM_over Mm) (MM_seen Mm)) M0 M1)) C in_MM t_MM t_MM_ok n_MM hP (hDD _ _ _ _) hS 0 mw_0 rfl 0 (by decide) k_7_230 rfl rfl (by decide +kernel) rfl rfl (Nat.le_of_ble_eq_true rfl) rfl d_MM_fault_1_2 (fun H locs hP hS => ?_)
  refine lv_aload_n hx hb d_MM_fault_1_5 rfl (lv_at hl 0 rfl) ?_
  refine o_get (v := .int (MM_latestFault Mm)) C in_MM hP 0 mw_0 rfl 38 (by decide) k_8_28 rfl rfl d_MM_fault_1_6 ?_
  cases h
  exact o_ri (v := (MM_latestFault Mm)) C hP hS d_MM_fault_1_9
set_option maxHeartbeats 4000000 in
set_option maxRecDepth 100000 in
theorem e_MM_pair {E : (Nat → Prop) → State → Heap → Prop} {D : va_G} {ad kd sd vd xd : Nat → Nat} {ca : Nat → ClassId} {ky ty : Nat → Option Nat} (hE : o_EK E kd sd vd xd) (hKy : m_KY ky ty sd) (l : Launch) (x1 : Int32) (x2 : Int32) (Mm : SMM) (M0 : SMT) (M1 : SMT) (rt : Nat) {r : SMM} (h : m_MM_pair x1 x2 Mm = some r) : o_Cn E l D m_cls (m_tys ca) y_MM_pair cc_MM_pair rm_MM_pair [.ref (ad 0), .int x1, .int x2] (m_cw ad ca ky ty rt Mm M0 M1) (m_cw ad ca ky ty rt r M0 M1) none := by
  refine o_Cn_of (by decide) (Nat.le_of_ble_eq_true rfl) ?_
  intro p e s m below meth c A ls C hD hP hS hl
  have hDD : ∀ (rt : Nat) (Mm : SMM) (M0 : SMT) (M1 : SMT), va_D A (m_cw ad ca ky ty rt Mm M0 M1) := fun _ _ _ _ => o_D_map hD rfl
  have hl : lv_has ls 3 [(0, .ref (ad 0)), (1, .int x1), (2, .int x2)] := hl
  unfold m_MM_pair at h
  have C0 := C
  obtain ⟨hx, hb, -, -, -, hown, hts, hK, -, -⟩ := C0
  refine lv_aload_n hx hb d_MM_pair_0 rfl (lv_at hl 0 rfl) ?_
  refine o_get (v := .int (MM_pairs Mm)) C in_MM hP 0 mw_0 rfl 53 (by decide) k_8_43 rfl rfl d_MM_pair_1 ?_
  refine lv_sipush (v := (300:Int32)) hx hb d_MM_pair_4 (by decide) ?_
  refine lv_icmp_ne (tgt := 11) hx hb d_MM_pair_7 (by decide) (fun c1 => ?_) (fun c1 => ?_)
  · replace h := o_ff c1 h
    refine lv_aload_n hx hb d_MM_pair_11 rfl (lv_at hl 0 rfl) ?_
    refine o_get (v := .ref (ad 31)) C in_MM hP 0 mw_0 rfl 51 (by decide) k_8_41 rfl rfl d_MM_pair_12 ?_
    refine lv_aload_n hx hb d_MM_pair_15 rfl (lv_at hl 0 rfl) ?_
    refine o_get (v := .int (MM_pairs Mm)) C in_MM hP 0 mw_0 rfl 53 (by decide) k_8_43 rfl rfl d_MM_pair_16 ?_
    refine lv_iload_n hx hb d_MM_pair_19 rfl (lv_at hl 1 rfl) ?_
    obtain ⟨g2, h⟩ := o_gd_some h
    refine o_iast (f := (MM_pairValue Mm)) (w1 := (m_cw ad ca ky ty rt (MM_mk (MM_err Mm) (MM_fed Mm) (MM_wrong Mm) (MM_octets Mm) (MM_nodeKind Mm) (MM_nodeA Mm) (MM_nodeB Mm) (MM_nodeC Mm) (MM_nodeNext Mm) (MM_low Mm) (MM_high Mm) (MM_setFrom Mm) (MM_setTo Mm) (MM_setNot Mm) (MM_op Mm) (MM_opA Mm) (MM_opB Mm) (MM_mark Mm) (MM_now Mm) (MM_then Mm) (MM_todo Mm) (MM_nodes Mm) (MM_sets Mm) (MM_ranges Mm) (MM_steps Mm) (MM_pat Mm) (MM_patEnd Mm) (MM_round Mm) (MM_many1 Mm) (MM_broken Mm) (MM_checked Mm) (MM_faultKind Mm) (MM_faultValue Mm) (MM_latestFault Mm) (MM_anchors Mm) (MM_key Mm) (MM_target Mm) (MM_anchorValue Mm) (MM_anchorSchema Mm) (MM_path Mm) (MM_route Mm) (MM_isSchema Mm) (MM_seen1 Mm) (MM_pathSize Mm) (MM_octetRow Mm) (MM_partRow Mm) (upd (MM_pairValue Mm) (MM_pairs Mm).toNatClampNeg x1) (MM_pairKey Mm) (MM_pairs Mm) (MM_judged Mm) (MM_deepest Mm) (MM_depth Mm) (MM_over Mm) (MM_seen Mm)) M0 M1)) C hP (hDD _ _ _ _) hS 31 30 mw_31 rfl g2 rfl d_MM_pair_20 (fun H locs hP hS => ?_)
    refine lv_aload_n hx hb d_MM_pair_21 rfl (lv_at hl 0 rfl) ?_
    refine o_get (v := .ref (ad 32)) C in_MM hP 0 mw_0 rfl 52 (by decide) k_8_42 rfl rfl d_MM_pair_22 ?_
    refine lv_aload_n hx hb d_MM_pair_25 rfl (lv_at hl 0 rfl) ?_
    refine lv_dup hx hb d_MM_pair_26 rfl ?_
    refine o_get (v := .int (MM_pairs Mm)) C in_MM hP 0 mw_0 rfl 53 (by decide) k_8_43 rfl rfl d_MM_pair_27 ?_
    refine lv_dup_x1 hx hb d_MM_pair_30 rfl rfl ?_
    refine lv_iconst (v := (1:Int32)) hx hb d_MM_pair_31 (by decide) ?_
    refine lv_iadd hx hb d_MM_pair_32 ?_
    refine o_put (v := .int ((MM_pairs Mm) + (1:Int32))) (ty := .int) (w1 := (m_cw ad ca ky ty rt (MM_mk (MM_err Mm) (MM_fed Mm) (MM_wrong Mm) (MM_octets Mm) (MM_nodeKind Mm) (MM_nodeA Mm) (MM_nodeB Mm) (MM_nodeC Mm) (MM_nodeNext Mm) (MM_low Mm) (MM_high Mm) (MM_setFrom Mm) (MM_setTo Mm) (MM_setNot Mm) (MM_op Mm) (MM_opA Mm) (MM_opB Mm) (MM_mark Mm) (MM_now Mm) (MM_then Mm) (MM_todo Mm) (MM_nodes Mm) (MM_sets Mm) (MM_ranges Mm) (MM_steps Mm) (MM_pat Mm) (MM_patEnd Mm) (MM_round Mm) (MM_many1 Mm) (MM_broken Mm) (MM_checked Mm) (MM_faultKind Mm) (MM_faultValue Mm) (MM_latestFault Mm) (MM_anchors Mm) (MM_key Mm) (MM_target Mm) (MM_anchorValue Mm) (MM_anchorSchema Mm) (MM_path Mm) (MM_route Mm) (MM_isSchema Mm) (MM_seen1 Mm) (MM_pathSize Mm) (MM_octetRow Mm) (MM_partRow Mm) (upd (MM_pairValue Mm) (MM_pairs Mm).toNatClampNeg x1) (MM_pairKey Mm) ((MM_pairs Mm) + (1:Int32)) (MM_judged Mm) (MM_deepest Mm) (MM_depth Mm) (MM_over Mm) (MM_seen Mm)) M0 M1)) C in_MM t_MM t_MM_ok n_MM hP (hDD _ _ _ _) hS 0 mw_0 rfl 53 (by decide) k_8_43 rfl rfl (by decide +kernel) rfl rfl (Nat.le_of_ble_eq_true rfl) rfl d_MM_pair_33 (fun H locs hP hS => ?_)
    refine lv_iload_n hx hb d_MM_pair_36 rfl (lv_at hl 2 rfl) ?_
    obtain ⟨g3, h⟩ := o_gd_some h
    refine o_iast (f := (MM_pairKey Mm)) (w1 := (m_cw ad ca ky ty rt (MM_mk (MM_err Mm) (MM_fed Mm) (MM_wrong Mm) (MM_octets Mm) (MM_nodeKind Mm) (MM_nodeA Mm) (MM_nodeB Mm) (MM_nodeC Mm) (MM_nodeNext Mm) (MM_low Mm) (MM_high Mm) (MM_setFrom Mm) (MM_setTo Mm) (MM_setNot Mm) (MM_op Mm) (MM_opA Mm) (MM_opB Mm) (MM_mark Mm) (MM_now Mm) (MM_then Mm) (MM_todo Mm) (MM_nodes Mm) (MM_sets Mm) (MM_ranges Mm) (MM_steps Mm) (MM_pat Mm) (MM_patEnd Mm) (MM_round Mm) (MM_many1 Mm) (MM_broken Mm) (MM_checked Mm) (MM_faultKind Mm) (MM_faultValue Mm) (MM_latestFault Mm) (MM_anchors Mm) (MM_key Mm) (MM_target Mm) (MM_anchorValue Mm) (MM_anchorSchema Mm) (MM_path Mm) (MM_route Mm) (MM_isSchema Mm) (MM_seen1 Mm) (MM_pathSize Mm) (MM_octetRow Mm) (MM_partRow Mm) (upd (MM_pairValue Mm) (MM_pairs Mm).toNatClampNeg x1) (upd (MM_pairKey Mm) (MM_pairs Mm).toNatClampNeg x2) ((MM_pairs Mm) + (1:Int32)) (MM_judged Mm) (MM_deepest Mm) (MM_depth Mm) (MM_over Mm) (MM_seen Mm)) M0 M1)) C hP (hDD _ _ _ _) hS 32 31 mw_32 rfl g3 rfl d_MM_pair_37 (fun H locs hP hS => ?_)
    cases h
    exact o_rv C hP hS d_MM_pair_38
  · replace h := o_tt c1 h
    cases h
    exact o_rv C hP hS d_MM_pair_10
set_option maxHeartbeats 4000000 in
set_option maxRecDepth 100000 in
theorem f_MT_member_b7_a {E : (Nat → Prop) → State → Heap → Prop} {p : Program} {l : Launch} {e : Env} {s : State} {m : MethodId} {args : Array Value} {below : List Frame} {meth : Method} {c : Code} {D : va_G} {ad kd sd vd xd : Nat → Nat} {ca : Nat → ClassId} {A : Nat → Prop} {ky ty : Nat → Option Nat} {Q : State → Prop} (hE : o_EK E kd sd vd xd) (hKy : m_KY ky ty sd) (C : o_Cx E p s m args meth c D m_cls (m_tys ca) "SchemaJudgeModel$Text" b_MT_member (some .int) 4 cc_MT_member A) (hDD : ∀ (rt : Nat) (Mm : SMM) (M0 : SMT) (M1 : SMT), va_D A (m_cw ad ca ky ty rt Mm M0 M1)) (n : Nat) (u7_x2 : Nat) (gu7_x2 : o_sb u7_x2 = true) (u7_a0 : SMT) (u7_Mm : SMM) (u7_M1 : SMT) (u7_rt : Nat) (z : Int32) (q : Nat × Int32) (h : m_MT_member_b7 n u7_x2 u7_a0 z = some q) (h0 : q.1 = 0 → o_At p l e rm_MT_member s m args below meth c Q m_cls D A 4 7 [] (m_cw ad ca ky ty u7_rt u7_Mm u7_a0 u7_M1) [(0, .ref (ad 33)), (2, .ref (sd u7_x2)), (3, .int q.2)]) (h1 : q.1 ≠ 0 → (if q.1 = 1 then o_At p l e rm_MT_member s m args below meth c Q m_cls D A 4 25 [] (m_cw ad ca ky ty u7_rt u7_Mm u7_a0 u7_M1) [(3, .int q.2)] else o_At p l e rm_MT_member s m args below meth c Q m_cls D A 4 37 [] (m_cw ad ca ky ty u7_rt u7_Mm u7_a0 u7_M1) [])) : o_At p l e rm_MT_member s m args below meth c Q m_cls D A 4 7 [] (m_cw ad ca ky ty u7_rt u7_Mm u7_a0 u7_M1) [(0, .ref (ad 33)), (2, .ref (sd u7_x2)), (3, .int z)] := by
  unfold m_MT_member_b7 at h
  intro H locs ls hP hS hl
  have C0 := C
  obtain ⟨hx, hb, -, -, -, hown, hts, hK, -, -⟩ := C0
  refine lv_iload_n hx hb d_MT_member_7 rfl (lv_at hl 2 rfl) ?_
  refine lv_if_lt (tgt := 37) hx hb d_MT_member_8 (by decide) (fun c2 => ?_) (fun c2 => ?_)
  · replace h := o_tt c2 h
    cases h
    exact h1 (Nat.succ_ne_zero 1) _ _ _ hP hS (lv_sub hl [] rfl)
  · replace h := o_ff c2 h
    refine lv_aload_n hx hb d_MT_member_11 rfl (lv_at hl 0 rfl) ?_
    refine lv_aload_n hx hb d_MT_member_12 rfl (lv_at hl 0 rfl) ?_
    refine o_get (v := .ref (ad 42)) C in_MT hP 33 mw_33 rfl 8 (by decide) k_7_116 rfl rfl d_MT_member_13 ?_
    refine lv_iload_n hx hb d_MT_member_16 rfl (lv_at hl 2 rfl) ?_
    obtain ⟨g3, h⟩ := o_gd_some h
    refine o_iald (f := (MT_name u7_a0)) C hP 42 40 mw_42 rfl g3 d_MT_member_17 ?_
    refine lv_aload_n hx hb d_MT_member_18 rfl (lv_at hl 1 rfl) ?_
    obtain ⟨q1, hq1, h⟩ := o_bd_some h
    refine o_V (st1 := [.int q1]) (w1 := (m_cw ad ca ky ty u7_rt u7_Mm u7_a0 u7_M1)) hE.1 C (e_MT_is_a hE hKy l n ((MT_name u7_a0) z.toNatClampNeg) u7_x2 gu7_x2 u7_a0 u7_Mm u7_M1 u7_rt hq1) hP (hDD _ _ _ _) hS hl.1 rfl mw_33 k_9_230 k_9_47 k_9_48 k_1_13 k_9_49 hv_MT_is rfl rfl ⟨(Nat.le_of_ble_eq_true rfl), (Nat.le_of_ble_eq_true rfl)⟩ rfl (Nat.le_of_ble_eq_true rfl) ⟨Nat.zero_le _, Nat.zero_le _⟩ rfl d_MT_member_19 (fun H locs hP hS => ?_)
    refine lv_if_eq (tgt := 27) hx hb d_MT_member_22 (by decide) (fun c4 => ?_) (fun c4 => ?_)
    · replace h := o_tt c4 h
      refine lv_aload_n hx hb d_MT_member_27 rfl (lv_at hl 0 rfl) ?_
      refine o_get (v := .ref (ad 41)) C in_MT hP 33 mw_33 rfl 7 (by decide) k_7_114 rfl rfl d_MT_member_28 ?_
      refine lv_iload_n hx hb d_MT_member_31 rfl (lv_at hl 2 rfl) ?_
      obtain ⟨g5, h⟩ := o_gd_some h
      refine o_iald (f := (MT_next u7_a0)) C hP 41 39 mw_41 rfl g5 d_MT_member_32 ?_
      refine lv_topi (fun x3_33 ex3_33 => ?_)
      replace h := o_nm_at ex3_33 h
      refine lv_istore_n (lv' := [(3, .int x3_33), (0, .ref (ad 33)), (2, .ref (sd u7_x2))]) hx hb d_MT_member_33 rfl hl (by decide) rfl (fun ls hl => ?_)
      refine lv_goto (tgt := 7) hx hb d_MT_member_34 (by decide) ?_
      cases h
      exact h0 rfl _ _ _ hP hS (lv_sub hl [1, 2, 0] rfl)
    · replace h := o_ff c4 h
      cases h
      exact h1 (Nat.succ_ne_zero 0) _ _ _ hP hS (lv_sub hl [2] rfl)
set_option maxHeartbeats 4000000 in
set_option maxRecDepth 100000 in
theorem e_MT_member_a {E : (Nat → Prop) → State → Heap → Prop} {D : va_G} {ad kd sd vd xd : Nat → Nat} {ca : Nat → ClassId} {ky ty : Nat → Option Nat} (hE : o_EK E kd sd vd xd) (hKy : m_KY ky ty sd) (l : Launch) (n : Nat) (x1 : Int32) (x2 : Nat) (gx2 : o_sb x2 = true) (a0 : SMT) (Mm : SMM) (M1 : SMT) (rt : Nat) {r : Int32} (h : m_MT_member n x1 x2 a0 = some r) : o_Cn E l D m_cls (m_tys ca) y_MT_member cc_MT_member rm_MT_member [.ref (ad 33), .int x1, .ref (sd x2)] (m_cw ad ca ky ty rt Mm a0 M1) (m_cw ad ca ky ty rt Mm a0 M1) (some (.int r)) := by
  refine o_Cn_of (by decide) (Nat.le_of_ble_eq_true rfl) ?_
  intro p e s m below meth c A ls C hD hP hS hl
  have hDD : ∀ (rt : Nat) (Mm : SMM) (M0 : SMT) (M1 : SMT), va_D A (m_cw ad ca ky ty rt Mm M0 M1) := fun _ _ _ _ => o_D_map hD rfl
  have hl : lv_has ls 4 [(0, .ref (ad 33)), (1, .int x1), (2, .ref (sd x2))] := hl
  unfold m_MT_member at h
  have C0 := C
  obtain ⟨hx, hb, -, -, -, hown, hts, hK, -, -⟩ := C0
  refine lv_aload_n hx hb d_MT_member_0 rfl (lv_at hl 0 rfl) ?_
  refine o_get (v := .ref (ad 40)) C in_MT hP 33 mw_33 rfl 6 (by decide) k_7_112 rfl rfl d_MT_member_1 ?_
  refine lv_iload_n hx hb d_MT_member_4 rfl (lv_at hl 1 rfl) ?_
  obtain ⟨g1, h⟩ := o_gd_some h
  refine o_iald (f := (MT_first a0)) C hP 40 38 mw_40 rfl g1 d_MT_member_5 ?_
  refine lv_topi (fun x3_6 ex3_6 => ?_)
  replace h := o_nm_at ex3_6 h
  refine lv_istore_n (lv' := [(3, .int x3_6), (0, .ref (ad 33)), (1, .int x1), (2, .ref (sd x2))]) hx hb d_MT_member_6 rfl hl (by decide) rfl (fun ls hl => ?_)
  obtain ⟨q2, hq2, h⟩ := o_bd_some h
  refine o_sim2 (AH := fun zz => o_At p l e rm_MT_member s m _ below meth c _ m_cls D A 4 7 [] (m_cw ad ca ky ty rt Mm a0 M1) [(0, .ref (ad 33)), (2, .ref (sd x2)), (3, .int zz)]) (AX := fun qq => if qq.1 = 1 then o_At p l e rm_MT_member s m _ below meth c _ m_cls D A 4 25 [] (m_cw ad ca ky ty rt Mm a0 M1) [(3, .int qq.2)] else o_At p l e rm_MT_member s m _ below meth c _ m_cls D A 4 37 [] (m_cw ad ca ky ty rt Mm a0 M1) []) (fun zz qq h h0 h1 => f_MT_member_b7_a hE hKy C hDD n x2 gx2 a0 Mm M1 rt zz qq h h0 h1) n _ q2 hq2 ?_ _ _ _ hP hS (lv_sub hl [1, 3, 0] rfl)
  by_cases c6 : q2.1 = 1
  · replace h := o_tt c6 h
    refine o_ip c6 ?_
    intro H locs ls hP hS hl
    refine lv_iload_n hx hb d_MT_member_25 rfl (lv_at hl 0 rfl) ?_
    cases h
    exact o_ri C hP hS d_MT_member_26
  replace h := o_ff c6 h
  refine o_in_ c6 ?_
  intro H locs ls hP hS hl
  refine lv_iconst (v := (-1:Int32)) hx hb d_MT_member_37 (by decide) ?_
  cases h
  exact o_ri (v := (-1:Int32)) C hP hS d_MT_member_38
