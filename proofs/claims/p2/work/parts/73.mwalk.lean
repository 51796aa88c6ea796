set_option maxHeartbeats 4000000 in
set_option maxRecDepth 100000 in
theorem f_MM_strings_b64 {E : (Nat → Prop) → State → Heap → Prop} {p : Program} {l : Launch} {e : Env} {s : State} {m : MethodId} {args : Array Value} {below : List Frame} {meth : Method} {c : Code} {D : va_G} {ad kd sd vd xd : Nat → Nat} {ca : Nat → ClassId} {A : Nat → Prop} {ky ty : Nat → Option Nat} {Q : State → Prop} (hE : o_EK E kd sd vd xd) (hKy : m_KY ky ty sd) (C : o_Cx E p s m args meth c D m_cls (m_tys ca) "SchemaJudgeModel" b_MM_strings none 4 cc_MM_strings A) (hDD : ∀ (rt : Nat) (Mm : SMM) (M0 : SMT) (M1 : SMT), va_D A (m_cw ad ca ky ty rt Mm M0 M1)) (n : Nat) (u64_x1 : Int32) (u64_x2 : Int32) (u64_M0 : SMT) (u64_Mm : SMM) (u64_M1 : SMT) (u64_rt : Nat) (z : Int32) (q : Nat × Int32) (h : m_MM_strings_b64 n u64_x1 u64_x2 u64_M0 u64_Mm z = some q) (h0 : q.1 = 0 → o_At p l e rm_MM_strings s m args below meth c Q m_cls D A 4 64 [] (m_cw ad ca ky ty u64_rt u64_Mm u64_M0 u64_M1) [(0, .ref (ad 0)), (1, .int u64_x1), (2, .int u64_x2), (3, .int q.2)]) (h1 : q.1 ≠ 0 → (if q.1 = 1 then o_At p l e rm_MM_strings s m args below meth c Q m_cls D A 4 85 [] (m_cw ad ca ky ty u64_rt u64_Mm u64_M0 u64_M1) [(0, .ref (ad 0)), (2, .int u64_x2)] else o_At p l e rm_MM_strings s m args below meth c Q m_cls D A 4 105 [] (m_cw ad ca ky ty u64_rt u64_Mm u64_M0 u64_M1) [(0, .ref (ad 0)), (1, .int u64_x1), (2, .int u64_x2)])) : o_At p l e rm_MM_strings s m args below meth c Q m_cls D A 4 64 [] (m_cw ad ca ky ty u64_rt u64_Mm u64_M0 u64_M1) [(0, .ref (ad 0)), (1, .int u64_x1), (2, .int u64_x2), (3, .int z)] := by
  unfold m_MM_strings_b64 at h
  intro H locs ls hP hS hl
  have C0 := C
  obtain ⟨hx, hb, -, -, -, hown, hts, hK, -, -⟩ := C0
  refine lv_iload_n hx hb d_MM_strings_64 rfl (lv_at hl 3 rfl) ?_
  refine lv_iload_n hx hb d_MM_strings_65 rfl (lv_at hl 2 rfl) ?_
  refine lv_icmp_eq (tgt := 105) hx hb d_MM_strings_66 (by decide) (fun c8 => ?_) (fun c8 => ?_)
  · replace h := o_tt c8 h
    cases h
    exact h1 (Nat.succ_ne_zero 1) _ _ _ hP hS (lv_sub hl [0, 1, 2] rfl)
  · replace h := o_ff c8 h
    refine lv_aload_n hx hb d_MM_strings_69 rfl (lv_at hl 0 rfl) ?_
    refine o_get (v := .ref (ad 33)) C in_MM hP 0 mw_0 rfl 4 (by decide) k_7_234 rfl rfl d_MM_strings_70 ?_
    refine lv_iload_n hx hb d_MM_strings_73 rfl (lv_at hl 2 rfl) ?_
    refine lv_aload_n hx hb d_MM_strings_74 rfl (lv_at hl 0 rfl) ?_
    refine o_get (v := .ref (ad 33)) C in_MM hP 0 mw_0 rfl 4 (by decide) k_7_234 rfl rfl d_MM_strings_75 ?_
    refine lv_iload_n hx hb d_MM_strings_78 rfl (lv_at hl 3 rfl) ?_
    obtain ⟨q1, hq1, h⟩ := o_bd_some h
    refine o_V (st1 := [.int q1]) (w1 := (m_cw ad ca ky ty u64_rt u64_Mm u64_M0 u64_M1)) hE.1 C (e_MT_same_aa hE hKy l n u64_x2 z u64_M0 u64_Mm u64_M1 u64_rt hq1) hP (hDD _ _ _ _) hS hl.1 rfl mw_33 k_9_166 k_9_26 k_9_27 k_1_13 k_9_28 hv_MT_same rfl rfl ⟨(Nat.le_of_ble_eq_true rfl), (Nat.le_of_ble_eq_true rfl)⟩ rfl (Nat.le_of_ble_eq_true rfl) ⟨Nat.zero_le _, Nat.zero_le _⟩ rfl d_MM_strings_79 (fun H locs hP hS => ?_)
    refine lv_if_eq (tgt := 92) hx hb d_MM_strings_82 (by decide) (fun c9 => ?_) (fun c9 => ?_)
    · replace h := o_tt c9 h
      refine lv_aload_n hx hb d_MM_strings_92 rfl (lv_at hl 0 rfl) ?_
      refine o_get (v := .ref (ad 33)) C in_MM hP 0 mw_0 rfl 4 (by decide) k_7_234 rfl rfl d_MM_strings_93 ?_
      refine o_get (v := .ref (ad 41)) C in_MT hP 33 mw_33 rfl 7 (by decide) k_7_115 rfl rfl d_MM_strings_96 ?_
      refine lv_iload_n hx hb d_MM_strings_99 rfl (lv_at hl 3 rfl) ?_
      obtain ⟨g10, h⟩ := o_gd_some h
      refine o_iald (f := (MT_next u64_M0)) C hP 41 39 mw_41 rfl g10 d_MM_strings_100 ?_
      refine lv_topi (fun x3_101 ex3_101 => ?_)
      replace h := o_nm_at ex3_101 h
      refine lv_istore_n (lv' := [(3, .int x3_101), (0, .ref (ad 0)), (1, .int u64_x1), (2, .int u64_x2)]) hx hb d_MM_strings_101 rfl hl (by decide) rfl (fun ls hl => ?_)
      refine lv_goto (tgt := 64) hx hb d_MM_strings_102 (by decide) ?_
      cases h
      exact h0 rfl _ _ _ hP hS (lv_sub hl [1, 2, 3, 0] rfl)
    · replace h := o_ff c9 h
      cases h
      exact h1 (Nat.succ_ne_zero 0) _ _ _ hP hS (lv_sub hl [0, 2] rfl)
set_option maxHeartbeats 4000000 in
set_option maxRecDepth 100000 in
theorem f_MM_strings_b30 {E : (Nat → Prop) → State → Heap → Prop} {p : Program} {l : Launch} {e : Env} {s : State} {m : MethodId} {args : Array Value} {below : List Frame} {meth : Method} {c : Code} {D : va_G} {ad kd sd vd xd : Nat → Nat} {ca : Nat → ClassId} {A : Nat → Prop} {ky ty : Nat → Option Nat} {Q : State → Prop} (hE : o_EK E kd sd vd xd) (hKy : m_KY ky ty sd) (C : o_Cx E p s m args meth c D m_cls (m_tys ca) "SchemaJudgeModel" b_MM_strings none 4 cc_MM_strings A) (hDD : ∀ (rt : Nat) (Mm : SMM) (M0 : SMT) (M1 : SMT), va_D A (m_cw ad ca ky ty rt Mm M0 M1)) (n : Nat) (u30_x1 : Int32) (u30_M0 : SMT) (u30_Mm : SMM) (u30_M1 : SMT) (u30_rt : Nat) (z : Int32) (q : Nat × Int32) (h : m_MM_strings_b30 n u30_x1 u30_M0 u30_Mm z = some q) (h0 : q.1 = 0 → o_At p l e rm_MM_strings s m args below meth c Q m_cls D A 4 30 [] (m_cw ad ca ky ty u30_rt u30_Mm u30_M0 u30_M1) [(0, .ref (ad 0)), (1, .int u30_x1), (2, .int q.2)]) (h1 : q.1 ≠ 0 → (if q.1 = 1 then o_At p l e rm_MM_strings s m args below meth c Q m_cls D A 4 47 [] (m_cw ad ca ky ty u30_rt u30_Mm u30_M0 u30_M1) [(0, .ref (ad 0)), (2, .int q.2)] else if q.1 = 2 then o_At p l e rm_MM_strings s m args below meth c Q m_cls D A 4 85 [] (m_cw ad ca ky ty u30_rt u30_Mm u30_M0 u30_M1) [(0, .ref (ad 0)), (2, .int q.2)] else o_At p l e rm_MM_strings s m args below meth c Q m_cls D A 4 118 [] (m_cw ad ca ky ty u30_rt u30_Mm u30_M0 u30_M1) [])) : o_At p l e rm_MM_strings s m args below meth c Q m_cls D A 4 30 [] (m_cw ad ca ky ty u30_rt u30_Mm u30_M0 u30_M1) [(0, .ref (ad 0)), (1, .int u30_x1), (2, .int z)] := by
  unfold m_MM_strings_b30 at h
  intro H locs ls hP hS hl
  have C0 := C
  obtain ⟨hx, hb, -, -, -, hown, hts, hK, -, -⟩ := C0
  refine lv_iload_n hx hb d_MM_strings_30 rfl (lv_at hl 2 rfl) ?_
  refine lv_if_lt (tgt := 118) hx hb d_MM_strings_31 (by decide) (fun c4 => ?_) (fun c4 => ?_)
  · replace h := o_tt c4 h
    cases h
    exact h1 (Nat.succ_ne_zero 2) _ _ _ hP hS (lv_sub hl [] rfl)
  · replace h := o_ff c4 h
    refine lv_aload_n hx hb d_MM_strings_34 rfl (lv_at hl 0 rfl) ?_
    refine o_get (v := .ref (ad 33)) C in_MM hP 0 mw_0 rfl 4 (by decide) k_7_234 rfl rfl d_MM_strings_35 ?_
    refine o_get (v := .ref (ad 35)) C in_MT hP 33 mw_33 rfl 1 (by decide) k_7_103 rfl rfl d_MM_strings_38 ?_
    refine lv_iload_n hx hb d_MM_strings_41 rfl (lv_at hl 2 rfl) ?_
    obtain ⟨g5, h⟩ := o_gd_some h
    refine o_iald (f := (MT_kind u30_M0)) C hP 35 33 mw_35 rfl g5 d_MM_strings_42 ?_
    refine lv_iconst (v := (4:Int32)) hx hb d_MM_strings_43 (by decide) ?_
    refine lv_icmp_eq (tgt := 54) hx hb d_MM_strings_44 (by decide) (fun c6 => ?_) (fun c6 => ?_)
    · replace h := o_tt c6 h
      refine lv_aload_n hx hb d_MM_strings_54 rfl (lv_at hl 0 rfl) ?_
      refine o_get (v := .ref (ad 33)) C in_MM hP 0 mw_0 rfl 4 (by decide) k_7_234 rfl rfl d_MM_strings_55 ?_
      refine o_get (v := .ref (ad 40)) C in_MT hP 33 mw_33 rfl 6 (by decide) k_7_113 rfl rfl d_MM_strings_58 ?_
      refine lv_iload_n hx hb d_MM_strings_61 rfl (lv_at hl 1 rfl) ?_
      obtain ⟨g7, h⟩ := o_gd_some h
      refine o_iald (f := (MT_first u30_M0)) C hP 40 38 mw_40 rfl g7 d_MM_strings_62 ?_
      refine lv_topi (fun x3_63 ex3_63 => ?_)
      replace h := o_nm_at ex3_63 h
      refine lv_istore_n (lv' := [(3, .int x3_63), (0, .ref (ad 0)), (1, .int u30_x1), (2, .int z)]) hx hb d_MM_strings_63 rfl hl (by decide) rfl (fun ls hl => ?_)
      obtain ⟨q2, hq2, h⟩ := o_bd_some h
      refine o_sim2 (AH := fun zz => o_At p l e rm_MM_strings s m args below meth c _ m_cls D A 4 64 [] (m_cw ad ca ky ty u30_rt u30_Mm u30_M0 u30_M1) [(0, .ref (ad 0)), (1, .int u30_x1), (2, .int z), (3, .int zz)]) (AX := fun qq => if qq.1 = 1 then o_At p l e rm_MM_strings s m args below meth c _ m_cls D A 4 85 [] (m_cw ad ca ky ty u30_rt u30_Mm u30_M0 u30_M1) [(0, .ref (ad 0)), (2, .int z)] else o_At p l e rm_MM_strings s m args below meth c _ m_cls D A 4 105 [] (m_cw ad ca ky ty u30_rt u30_Mm u30_M0 u30_M1) [(0, .ref (ad 0)), (1, .int u30_x1), (2, .int z)]) (fun zz qq h h0 h1 => f_MM_strings_b64 hE hKy C hDD n u30_x1 z u30_M0 u30_Mm u30_M1 u30_rt zz qq h h0 h1) n _ q2 hq2 ?_ _ _ _ hP hS (lv_sub hl [1, 2, 3, 0] rfl)
      by_cases c12 : q2.1 = 1
      · replace h := o_tt c12 h
        refine o_ip c12 ?_
        intro H locs ls hP hS hl
        cases h
        exact h1 (Nat.succ_ne_zero 1) _ _ _ hP hS (lv_sub hl [0, 1] rfl)
      replace h := o_ff c12 h
      refine o_in_ c12 ?_
      intro H locs ls hP hS hl
      refine lv_aload_n hx hb d_MM_strings_105 rfl (lv_at hl 0 rfl) ?_
      refine o_get (v := .ref (ad 33)) C in_MM hP 0 mw_0 rfl 4 (by decide) k_7_234 rfl rfl d_MM_strings_106 ?_
      refine o_get (v := .ref (ad 41)) C in_MT hP 33 mw_33 rfl 7 (by decide) k_7_115 rfl rfl d_MM_strings_109 ?_
      refine lv_iload_n hx hb d_MM_strings_112 rfl (lv_at hl 2 rfl) ?_
      obtain ⟨g11, h⟩ := o_gd_some h
      refine o_iald (f := (MT_next u30_M0)) C hP 41 39 mw_41 rfl g11 d_MM_strings_113 ?_
      refine lv_topi (fun x2_114 ex2_114 => ?_)
      replace h := o_nm_at ex2_114 h
      refine lv_istore_n (lv' := [(2, .int x2_114), (0, .ref (ad 0)), (1, .int u30_x1)]) hx hb d_MM_strings_114 rfl hl (by decide) rfl (fun ls hl => ?_)
      refine lv_goto (tgt := 30) hx hb d_MM_strings_115 (by decide) ?_
      cases h
      exact h0 rfl _ _ _ hP hS (lv_sub hl [1, 2, 0] rfl)
    · replace h := o_ff c6 h
      cases h
      exact h1 (Nat.succ_ne_zero 0) _ _ _ hP hS (lv_sub hl [0, 2] rfl)
set_option maxHeartbeats 4000000 in
set_option maxRecDepth 100000 in
theorem e_MM_strings {E : (Nat → Prop) → State → Heap → Prop} {D : va_G} {ad kd sd vd xd : Nat → Nat} {ca : Nat → ClassId} {ky ty : Nat → Option Nat} (hE : o_EK E kd sd vd xd) (hKy : m_KY ky ty sd) (l : Launch) (n : Nat) (x1 : Int32) (M0 : SMT) (Mm : SMM) (M1 : SMT) (rt : Nat) {r : SMM} (h : m_MM_strings n x1 M0 Mm = some r) : o_Cn E l D m_cls (m_tys ca) y_MM_strings cc_MM_strings rm_MM_strings [.ref (ad 0), .int x1] (m_cw ad ca ky ty rt Mm M0 M1) (m_cw ad ca ky ty rt r M0 M1) none := by
  refine o_Cn_of (by decide) (Nat.le_of_ble_eq_true rfl) ?_
  intro p e s m below meth c A ls C hD hP hS hl
  have hDD : ∀ (rt : Nat) (Mm : SMM) (M0 : SMT) (M1 : SMT), va_D A (m_cw ad ca ky ty rt Mm M0 M1) := fun _ _ _ _ => o_D_map hD rfl
  have hl : lv_has ls 4 [(0, .ref (ad 0)), (1, .int x1)] := hl
  unfold m_MM_strings at h
  have C0 := C
  obtain ⟨hx, hb, -, -, -, hown, hts, hK, -, -⟩ := C0
  refine lv_aload_n hx hb d_MM_strings_0 rfl (lv_at hl 0 rfl) ?_
  refine o_get (v := .ref (ad 33)) C in_MM hP 0 mw_0 rfl 4 (by decide) k_7_234 rfl rfl d_MM_strings_1 ?_
  refine o_get (v := .ref (ad 35)) C in_MT hP 33 mw_33 rfl 1 (by decide) k_7_103 rfl rfl d_MM_strings_4 ?_
  refine lv_iload_n hx hb d_MM_strings_7 rfl (lv_at hl 1 rfl) ?_
  obtain ⟨g1, h⟩ := o_gd_some h
  refine o_iald (f := (MT_kind M0)) C hP 35 33 mw_35 rfl g1 d_MM_strings_8 ?_
  refine lv_iconst (v := (5:Int32)) hx hb d_MM_strings_9 (by decide) ?_
  refine lv_icmp_eq (tgt := 20) hx hb d_MM_strings_10 (by decide) (fun c2 => ?_) (fun c2 => ?_)
  · replace h := o_tt c2 h
    refine lv_aload_n hx hb d_MM_strings_20 rfl (lv_at hl 0 rfl) ?_
    refine o_get (v := .ref (ad 33)) C in_MM hP 0 mw_0 rfl 4 (by decide) k_7_234 rfl rfl d_MM_strings_21 ?_
    refine o_get (v := .ref (ad 40)) C in_MT hP 33 mw_33 rfl 6 (by decide) k_7_113 rfl rfl d_MM_strings_24 ?_
    refine lv_iload_n hx hb d_MM_strings_27 rfl (lv_at hl 1 rfl) ?_
    obtain ⟨g3, h⟩ := o_gd_some h
    refine o_iald (f := (MT_first M0)) C hP 40 38 mw_40 rfl g3 d_MM_strings_28 ?_
    refine lv_topi (fun x2_29 ex2_29 => ?_)
    replace h := o_nm_at ex2_29 h
    refine lv_istore_n (lv' := [(2, .int x2_29), (0, .ref (ad 0)), (1, .int x1)]) hx hb d_MM_strings_29 rfl hl (by decide) rfl (fun ls hl => ?_)
    obtain ⟨q3, hq3, h⟩ := o_bd_some h
    refine o_sim2 (AH := fun zz => o_At p l e rm_MM_strings s m _ below meth c _ m_cls D A 4 30 [] (m_cw ad ca ky ty rt Mm M0 M1) [(0, .ref (ad 0)), (1, .int x1), (2, .int zz)]) (AX := fun qq => if qq.1 = 1 then o_At p l e rm_MM_strings s m _ below meth c _ m_cls D A 4 47 [] (m_cw ad ca ky ty rt Mm M0 M1) [(0, .ref (ad 0)), (2, .int qq.2)] else if qq.1 = 2 then o_At p l e rm_MM_strings s m _ below meth c _ m_cls D A 4 85 [] (m_cw ad ca ky ty rt Mm M0 M1) [(0, .ref (ad 0)), (2, .int qq.2)] else o_At p l e rm_MM_strings s m _ below meth c _ m_cls D A 4 118 [] (m_cw ad ca ky ty rt Mm M0 M1) []) (fun zz qq h h0 h1 => f_MM_strings_b30 hE hKy C hDD n x1 M0 Mm M1 rt zz qq h h0 h1) n _ q3 hq3 ?_ _ _ _ hP hS (lv_sub hl [1, 2, 0] rfl)
    by_cases c13 : q3.1 = 1
    · replace h := o_tt c13 h
      refine o_ip c13 ?_
      intro H locs ls hP hS hl
      refine lv_aload_n hx hb d_MM_strings_47 rfl (lv_at hl 0 rfl) ?_
      refine lv_iconst (v := (1:Int32)) hx hb d_MM_strings_48 (by decide) ?_
      refine lv_iload_n hx hb d_MM_strings_49 rfl (lv_at hl 1 rfl) ?_
      obtain ⟨q4, hq4, h⟩ := o_bd_some h
      refine o_V (st1 := []) (w1 := (m_cw ad ca ky ty rt q4 M0 M1)) hE.1 C (e_MM_fault hE hKy l (1:Int32) q3.2 Mm M0 M1 rt hq4) hP (hDD _ _ _ _) hS hl.1 rfl mw_0 k_9_42 k_9_44 k_s_83 k_1_12 k_9_45 hv_MM_fault rfl rfl ⟨(Nat.le_of_ble_eq_true rfl), (Nat.le_of_ble_eq_true rfl)⟩ rfl (Nat.le_of_ble_eq_true rfl) ⟨Nat.zero_le _, Nat.zero_le _⟩ rfl d_MM_strings_50 (fun H locs hP hS => ?_)
      cases h
      exact o_rv C hP hS d_MM_strings_53
    replace h := o_ff c13 h
    refine o_in_ c13 ?_
    by_cases c14 : q3.1 = 2
    · replace h := o_tt c14 h
      refine o_ip c14 ?_
      intro H locs ls hP hS hl
      refine lv_aload_n hx hb d_MM_strings_85 rfl (lv_at hl 0 rfl) ?_
      refine lv_iconst (v := (1:Int32)) hx hb d_MM_strings_86 (by decide) ?_
      refine lv_iload_n hx hb d_MM_strings_87 rfl (lv_at hl 1 rfl) ?_
      obtain ⟨q5, hq5, h⟩ := o_bd_some h
      refine o_V (st1 := []) (w1 := (m_cw ad ca ky ty rt q5 M0 M1)) hE.1 C (e_MM_fault hE hKy l (1:Int32) q3.2 Mm M0 M1 rt hq5) hP (hDD _ _ _ _) hS hl.1 rfl mw_0 k_9_42 k_9_44 k_s_83 k_1_12 k_9_45 hv_MM_fault rfl rfl ⟨(Nat.le_of_ble_eq_true rfl), (Nat.le_of_ble_eq_true rfl)⟩ rfl (Nat.le_of_ble_eq_true rfl) ⟨Nat.zero_le _, Nat.zero_le _⟩ rfl d_MM_strings_88 (fun H locs hP hS => ?_)
      cases h
      exact o_rv C hP hS d_MM_strings_91
    replace h := o_ff c14 h
    refine o_in_ c14 ?_
    intro H locs ls hP hS hl
    cases h
    exact o_rv C hP hS d_MM_strings_118
  · replace h := o_ff c2 h
    refine lv_aload_n hx hb d_MM_strings_13 rfl (lv_at hl 0 rfl) ?_
    refine lv_iconst (v := (1:Int32)) hx hb d_MM_strings_14 (by decide) ?_
    refine lv_iload_n hx hb d_MM_strings_15 rfl (lv_at hl 1 rfl) ?_
    obtain ⟨q6, hq6, h⟩ := o_bd_some h
    refine o_V (st1 := []) (w1 := (m_cw ad ca ky ty rt q6 M0 M1)) hE.1 C (e_MM_fault hE hKy l (1:Int32) x1 Mm M0 M1 rt hq6) hP (hDD _ _ _ _) hS hl.1 rfl mw_0 k_9_42 k_9_44 k_s_83 k_1_12 k_9_45 hv_MM_fault rfl rfl ⟨(Nat.le_of_ble_eq_true rfl), (Nat.le_of_ble_eq_true rfl)⟩ rfl (Nat.le_of_ble_eq_true rfl) ⟨Nat.zero_le _, Nat.zero_le _⟩ rfl d_MM_strings_16 (fun H locs hP hS => ?_)
    cases h
    exact o_rv C hP hS d_MM_strings_19
set_option maxHeartbeats 4000000 in
set_option maxRecDepth 100000 in
theorem e_MM_isPattern_a {E : (Nat → Prop) → State → Heap → Prop} {D : va_G} {ad kd sd vd xd : Nat → Nat} {ca : Nat → ClassId} {ky ty : Nat → Option Nat} (hE : o_EK E kd sd vd xd) (hKy : m_KY ky ty sd) (l : Launch) (n : Nat) (x2 : Int32) (a1 : SMT) (Mm : SMM) (M1 : SMT) (rt : Nat) {r : Int32 × SMM} (h : m_MM_isPattern n x2 a1 Mm = some r) : o_Cn E l D m_cls (m_tys ca) y_MM_isPattern cc_MM_isPattern rm_MM_isPattern [.ref (ad 0), .ref (ad 33), .int x2] (m_cw ad ca ky ty rt Mm a1 M1) (m_cw ad ca ky ty 33 r.2 a1 M1) (some (.int r.1)) := by
  refine o_Cn_of (by decide) (Nat.le_of_ble_eq_true rfl) ?_
  intro p e s m below meth c A ls C hD hP hS hl
  have hDD : ∀ (rt : Nat) (Mm : SMM) (M0 : SMT) (M1 : SMT), va_D A (m_cw ad ca ky ty rt Mm M0 M1) := fun _ _ _ _ => o_D_map hD rfl
  have hl : lv_has ls 4 [(0, .ref (ad 0)), (1, .ref (ad 33)), (2, .int x2)] := hl
  unfold m_MM_isPattern at h
  have C0 := C
  obtain ⟨hx, hb, -, -, -, hown, hts, hK, -, -⟩ := C0
  refine lv_aload_n hx hb d_MM_isPattern_0 rfl (lv_at hl 0 rfl) ?_
  refine lv_aload_n hx hb d_MM_isPattern_1 rfl (lv_at hl 1 rfl) ?_
  refine o_put (v := .ref (ad 33)) (ty := (.object "SchemaJudgeModel$Text")) (w1 := (m_cw ad ca ky ty 33 Mm a1 M1)) C in_MM t_MM t_MM_ok n_MM hP (hDD _ _ _ _) hS 0 mw_0 rfl 31 (by decide) k_8_21 rfl rfl (by decide +kernel) rfl rfl (Nat.le_of_ble_eq_true rfl) rfl d_MM_isPattern_2 (fun H locs hP hS => ?_)
  refine lv_aload_n hx hb d_MM_isPattern_5 rfl (lv_at hl 0 rfl) ?_
  refine lv_aload_n hx hb d_MM_isPattern_6 rfl (lv_at hl 1 rfl) ?_
  refine o_get (v := .ref (ad 43)) C in_MT hP 33 mw_33 rfl 9 (by decide) k_7_119 rfl rfl d_MM_isPattern_7 ?_
  refine lv_iload_n hx hb d_MM_isPattern_10 rfl (lv_at hl 2 rfl) ?_
  obtain ⟨g1, h⟩ := o_gd_some h
  refine o_iald (f := (MT_from a1)) C hP 43 41 mw_43 rfl g1 d_MM_isPattern_11 ?_
  refine o_put (v := .int ((MT_from a1) x2.toNatClampNeg)) (ty := .int) (w1 := (m_cw ad ca ky ty 33 (MM_mk (MM_err Mm) (MM_fed Mm) (MM_wrong Mm) (MM_octets Mm) (MM_nodeKind Mm) (MM_nodeA Mm) (MM_nodeB Mm) (MM_nodeC Mm) (MM_nodeNext Mm) (MM_low Mm) (MM_high Mm) (MM_setFrom Mm) (MM_setTo Mm) (MM_setNot Mm) (MM_op Mm) (MM_opA Mm) (MM_opB Mm) (MM_mark Mm) (MM_now Mm) (MM_then Mm) (MM_todo Mm) (MM_nodes Mm) (MM_sets Mm) (MM_ranges Mm) (MM_steps Mm) ((MT_from a1) x2.toNatClampNeg) (MM_patEnd Mm) (MM_round Mm) (MM_many1 Mm) (MM_broken Mm) (MM_checked Mm) (MM_faultKind Mm) (MM_faultValue Mm) (MM_latestFault Mm) (MM_anchors Mm) (MM_key Mm) (MM_target Mm) (MM_anchorValue Mm) (MM_anchorSchema Mm) (MM_path Mm) (MM_route Mm) (MM_isSchema Mm) (MM_seen1 Mm) (MM_pathSize Mm) (MM_octetRow Mm) (MM_partRow Mm) (MM_pairValue Mm) (MM_pairKey Mm) (MM_pairs Mm) (MM_judged Mm) (MM_deepest Mm) (MM_depth Mm) (MM_over Mm) (MM_seen Mm)) a1 M1)) C in_MM t_MM t_MM_ok n_MM hP (hDD _ _ _ _) hS 0 mw_0 rfl 27 (by decide) k_8_17 rfl rfl (by decide +kernel) rfl rfl (Nat.le_of_ble_eq_true rfl) rfl d_MM_isPattern_12 (fun H locs hP hS => ?_)
  refine lv_aload_n hx hb d_MM_isPattern_15 rfl (lv_at hl 0 rfl) ?_
  refine lv_aload_n hx hb d_MM_isPattern_16 rfl (lv_at hl 0 rfl) ?_
  refine o_get (v := .int ((MT_from a1) x2.toNatClampNeg)) C in_MM hP 0 mw_0 rfl 27 (by decide) k_8_17 rfl rfl d_MM_isPattern_17 ?_
  refine lv_aload_n hx hb d_MM_isPattern_20 rfl (lv_at hl 1 rfl) ?_
  refine o_get (v := .ref (ad 37)) C in_MT hP 33 mw_33 rfl 3 (by decide) k_7_107 rfl rfl d_MM_isPattern_21 ?_
  refine lv_iload_n hx hb d_MM_isPattern_24 rfl (lv_at hl 2 rfl) ?_
  obtain ⟨g2, h⟩ := o_gd_some h
  refine o_iald (f := (MT_many a1)) C hP 37 35 mw_37 rfl g2 d_MM_isPattern_25 ?_
  refine lv_iadd hx hb d_MM_isPattern_26 ?_
  refine o_put (v := .int (((MT_from a1) x2.toNatClampNeg) + ((MT_many a1) x2.toNatClampNeg))) (ty := .int) (w1 := (m_cw ad ca ky ty 33 (MM_mk (MM_err Mm) (MM_fed Mm) (MM_wrong Mm) (MM_octets Mm) (MM_nodeKind Mm) (MM_nodeA Mm) (MM_nodeB Mm) (MM_nodeC Mm) (MM_nodeNext Mm) (MM_low Mm) (MM_high Mm) (MM_setFrom Mm) (MM_setTo Mm) (MM_setNot Mm) (MM_op Mm) (MM_opA Mm) (MM_opB Mm) (MM_mark Mm) (MM_now Mm) (MM_then Mm) (MM_todo Mm) (MM_nodes Mm) (MM_sets Mm) (MM_ranges Mm) (MM_steps Mm) ((MT_from a1) x2.toNatClampNeg) (((MT_from a1) x2.toNatClampNeg) + ((MT_many a1) x2.toNatClampNeg)) (MM_round Mm) (MM_many1 Mm) (MM_broken Mm) (MM_checked Mm) (MM_faultKind Mm) (MM_faultValue Mm) (MM_latestFault Mm) (MM_anchors Mm) (MM_key Mm) (MM_target Mm) (MM_anchorValue Mm) (MM_anchorSchema Mm) (MM_path Mm) (MM_route Mm) (MM_isSchema Mm) (MM_seen1 Mm) (MM_pathSize Mm) (MM_octetRow Mm) (MM_partRow Mm) (MM_pairValue Mm) (MM_pairKey Mm) (MM_pairs Mm) (MM_judged Mm) (MM_deepest Mm) (MM_depth Mm) (MM_over Mm) (MM_seen Mm)) a1 M1)) C in_MM t_MM t_MM_ok n_MM hP (hDD _ _ _ _) hS 0 mw_0 rfl 28 (by decide) k_8_18 rfl rfl (by decide +kernel) rfl rfl (Nat.le_of_ble_eq_true rfl) rfl d_MM_isPattern_27 (fun H locs hP hS => ?_)
  refine lv_aload_n hx hb d_MM_isPattern_30 rfl (lv_at hl 0 rfl) ?_
  refine lv_iconst (v := (0:Int32)) hx hb d_MM_isPattern_31 (by decide) ?_
  refine o_put (v := .int (0:Int32)) (ty := .int) (w1 := (m_cw ad ca ky ty 33 (MM_mk (MM_err Mm) (MM_fed Mm) (MM_wrong Mm) (MM_octets Mm) (MM_nodeKind Mm) (MM_nodeA Mm) (MM_nodeB Mm) (MM_nodeC Mm) (MM_nodeNext Mm) (MM_low Mm) (MM_high Mm) (MM_setFrom Mm) (MM_setTo Mm) (MM_setNot Mm) (MM_op Mm) (MM_opA Mm) (MM_opB Mm) (MM_mark Mm) (MM_now Mm) (MM_then Mm) (MM_todo Mm) (0:Int32) (MM_sets Mm) (MM_ranges Mm) (MM_steps Mm) ((MT_from a1) x2.toNatClampNeg) (((MT_from a1) x2.toNatClampNeg) + ((MT_many a1) x2.toNatClampNeg)) (MM_round Mm) (MM_many1 Mm) (MM_broken Mm) (MM_checked Mm) (MM_faultKind Mm) (MM_faultValue Mm) (MM_latestFault Mm) (MM_anchors Mm) (MM_key Mm) (MM_target Mm) (MM_anchorValue Mm) (MM_anchorSchema Mm) (MM_path Mm) (MM_route Mm) (MM_isSchema Mm) (MM_seen1 Mm) (MM_pathSize Mm) (MM_octetRow Mm) (MM_partRow Mm) (MM_pairValue Mm) (MM_pairKey Mm) (MM_pairs Mm) (MM_judged Mm) (MM_deepest Mm) (MM_depth Mm) (MM_over Mm) (MM_seen Mm)) a1 M1)) C in_MM t_MM t_MM_ok n_MM hP (hDD _ _ _ _) hS 0 mw_0 rfl 23 (by decide) k_8_13 rfl rfl (by decide +kernel) rfl rfl (Nat.le_of_ble_eq_true rfl) rfl d_MM_isPattern_32 (fun H locs hP hS => ?_)
  refine lv_aload_n hx hb d_MM_isPattern_35 rfl (lv_at hl 0 rfl) ?_
  refine lv_iconst (v := (0:Int32)) hx hb d_MM_isPattern_36 (by decide) ?_
  refine o_put (v := .int (0:Int32)) (ty := .int) (w1 := (m_cw ad ca ky ty 33 (MM_mk (MM_err Mm) (MM_fed Mm) (MM_wrong Mm) (MM_octets Mm) (MM_nodeKind Mm) (MM_nodeA Mm) (MM_nodeB Mm) (MM_nodeC Mm) (MM_nodeNext Mm) (MM_low Mm) (MM_high Mm) (MM_setFrom Mm) (MM_setTo Mm) (MM_setNot Mm) (MM_op Mm) (MM_opA Mm) (MM_opB Mm) (MM_mark Mm) (MM_now Mm) (MM_then Mm) (MM_todo Mm) (0:Int32) (0:Int32) (MM_ranges Mm) (MM_steps Mm) ((MT_from a1) x2.toNatClampNeg) (((MT_from a1) x2.toNatClampNeg) + ((MT_many a1) x2.toNatClampNeg)) (MM_round Mm) (MM_many1 Mm) (MM_broken Mm) (MM_checked Mm) (MM_faultKind Mm) (MM_faultValue Mm) (MM_latestFault Mm) (MM_anchors Mm) (MM_key Mm) (MM_target Mm) (MM_anchorValue Mm) (MM_anchorSchema Mm) (MM_path Mm) (MM_route Mm) (MM_isSchema Mm) (MM_seen1 Mm) (MM_pathSize Mm) (MM_octetRow Mm) (MM_partRow Mm) (MM_pairValue Mm) (MM_pairKey Mm) (MM_pairs Mm) (MM_judged Mm) (MM_deepest Mm) (MM_depth Mm) (MM_over Mm) (MM_seen Mm)) a1 M1)) C in_MM t_MM t_MM_ok n_MM hP (hDD _ _ _ _) hS 0 mw_0 rfl 24 (by decide) k_8_14 rfl rfl (by decide +kernel) rfl rfl (Nat.le_of_ble_eq_true rfl) rfl d_MM_isPattern_37 (fun H locs hP hS => ?_)
  refine lv_aload_n hx hb d_MM_isPattern_40 rfl (lv_at hl 0 rfl) ?_
  refine lv_iconst (v := (0:Int32)) hx hb d_MM_isPattern_41 (by decide) ?_
  refine o_put (v := .int (0:Int32)) (ty := .int) (w1 := (m_cw ad ca ky ty 33 (MM_mk (MM_err Mm) (MM_fed Mm) (MM_wrong Mm) (MM_octets Mm) (MM_nodeKind Mm) (MM_nodeA Mm) (MM_nodeB Mm) (MM_nodeC Mm) (MM_nodeNext Mm) (MM_low Mm) (MM_high Mm) (MM_setFrom Mm) (MM_setTo Mm) (MM_setNot Mm) (MM_op Mm) (MM_opA Mm) (MM_opB Mm) (MM_mark Mm) (MM_now Mm) (MM_then Mm) (MM_todo Mm) (0:Int32) (0:Int32) (0:Int32) (MM_steps Mm) ((MT_from a1) x2.toNatClampNeg) (((MT_from a1) x2.toNatClampNeg) + ((MT_many a1) x2.toNatClampNeg)) (MM_round Mm) (MM_many1 Mm) (MM_broken Mm) (MM_checked Mm) (MM_faultKind Mm) (MM_faultValue Mm) (MM_latestFault Mm) (MM_anchors Mm) (MM_key Mm) (MM_target Mm) (MM_anchorValue Mm) (MM_anchorSchema Mm) (MM_path Mm) (MM_route Mm) (MM_isSchema Mm) (MM_seen1 Mm) (MM_pathSize Mm) (MM_octetRow Mm) (MM_partRow Mm) (MM_pairValue Mm) (MM_pairKey Mm) (MM_pairs Mm) (MM_judged Mm) (MM_deepest Mm) (MM_depth Mm) (MM_over Mm) (MM_seen Mm)) a1 M1)) C in_MM t_MM t_MM_ok n_MM hP (hDD _ _ _ _) hS 0 mw_0 rfl 25 (by decide) k_8_15 rfl rfl (by decide +kernel) rfl rfl (Nat.le_of_ble_eq_true rfl) rfl d_MM_isPattern_42 (fun H locs hP hS => ?_)
  refine lv_aload_n hx hb d_MM_isPattern_45 rfl (lv_at hl 0 rfl) ?_
  refine lv_iconst (v := (0:Int32)) hx hb d_MM_isPattern_46 (by decide) ?_
  refine o_put (v := .int (0:Int32)) (ty := .boolean) (w1 := (m_cw ad ca ky ty 33 (MM_mk (MM_err Mm) (MM_fed Mm) (MM_wrong Mm) (MM_octets Mm) (MM_nodeKind Mm) (MM_nodeA Mm) (MM_nodeB Mm) (MM_nodeC Mm) (MM_nodeNext Mm) (MM_low Mm) (MM_high Mm) (MM_setFrom Mm) (MM_setTo Mm) (MM_setNot Mm) (MM_op Mm) (MM_opA Mm) (MM_opB Mm) (MM_mark Mm) (MM_now Mm) (MM_then Mm) (MM_todo Mm) (0:Int32) (0:Int32) (0:Int32) (MM_steps Mm) ((MT_from a1) x2.toNatClampNeg) (((MT_from a1) x2.toNatClampNeg) + ((MT_many a1) x2.toNatClampNeg)) (MM_round Mm) (MM_many1 Mm) (0:Int32) (MM_checked Mm) (MM_faultKind Mm) (MM_faultValue Mm) (MM_latestFault Mm) (MM_anchors Mm) (MM_key Mm) (MM_target Mm) (MM_anchorValue Mm) (MM_anchorSchema Mm) (MM_path Mm) (MM_route Mm) (MM_isSchema Mm) (MM_seen1 Mm) (MM_pathSize Mm) (MM_octetRow Mm) (MM_partRow Mm) (MM_pairValue Mm) (MM_pairKey Mm) (MM_pairs Mm) (MM_judged Mm) (MM_deepest Mm) (MM_depth Mm) (MM_over Mm) (MM_seen Mm)) a1 M1)) C in_MM t_MM t_MM_ok n_MM hP (hDD _ _ _ _) hS 0 mw_0 rfl 32 (by decide) k_8_22 rfl rfl (by decide +kernel) rfl rfl (Nat.le_of_ble_eq_true rfl) rfl d_MM_isPattern_47 (fun H locs hP hS => ?_)
  refine lv_aload_n hx hb d_MM_isPattern_50 rfl (lv_at hl 0 rfl) ?_
  refine lv_iconst (v := (0:Int32)) hx hb d_MM_isPattern_51 (by decide) ?_
  obtain ⟨q1, hq1, h⟩ := o_bd_some h
  refine o_V (st1 := [.int q1.1]) (w1 := (m_cw ad ca ky ty 33 q1.2 a1 M1)) hE.1 C (e_MM_ways_a hE hKy l n 33 (0:Int32) a1 (MM_mk (MM_err Mm) (MM_fed Mm) (MM_wrong Mm) (MM_octets Mm) (MM_nodeKind Mm) (MM_nodeA Mm) (MM_nodeB Mm) (MM_nodeC Mm) (MM_nodeNext Mm) (MM_low Mm) (MM_high Mm) (MM_setFrom Mm) (MM_setTo Mm) (MM_setNot Mm) (MM_op Mm) (MM_opA Mm) (MM_opB Mm) (MM_mark Mm) (MM_now Mm) (MM_then Mm) (MM_todo Mm) (0:Int32) (0:Int32) (0:Int32) (MM_steps Mm) ((MT_from a1) x2.toNatClampNeg) (((MT_from a1) x2.toNatClampNeg) + ((MT_many a1) x2.toNatClampNeg)) (MM_round Mm) (MM_many1 Mm) (0:Int32) (MM_checked Mm) (MM_faultKind Mm) (MM_faultValue Mm) (MM_latestFault Mm) (MM_anchors Mm) (MM_key Mm) (MM_target Mm) (MM_anchorValue Mm) (MM_anchorSchema Mm) (MM_path Mm) (MM_route Mm) (MM_isSchema Mm) (MM_seen1 Mm) (MM_pathSize Mm) (MM_octetRow Mm) (MM_partRow Mm) (MM_pairValue Mm) (MM_pairKey Mm) (MM_pairs Mm) (MM_judged Mm) (MM_deepest Mm) (MM_depth Mm) (MM_over Mm) (MM_seen Mm)) M1 hq1) hP (hDD _ _ _ _) hS hl.1 rfl mw_0 k_9_58 k_9_60 k_s_86 k_1_12 k_9_61 hv_MM_ways rfl rfl ⟨(Nat.le_of_ble_eq_true rfl), (Nat.le_of_ble_eq_true rfl)⟩ rfl (Nat.le_of_ble_eq_true rfl) ⟨Nat.zero_le _, Nat.zero_le _⟩ rfl d_MM_isPattern_52 (fun H locs hP hS => ?_)
  refine lv_istore_n (lv' := [(3, .int q1.1), (0, .ref (ad 0)), (1, .ref (ad 33)), (2, .int x2)]) hx hb d_MM_isPattern_55 rfl hl (by decide) rfl (fun ls hl => ?_)
  refine lv_aload_n hx hb d_MM_isPattern_56 rfl (lv_at hl 1 rfl) ?_
  refine o_get (v := .int (MM_broken q1.2)) C in_MM hP 0 mw_0 rfl 32 (by decide) k_8_22 rfl rfl d_MM_isPattern_57 ?_
  refine lv_if_ne (tgt := 86) hx hb d_MM_isPattern_60 (by decide) (fun c3 => ?_) (fun c3 => ?_)
  · replace h := o_ff c3 h
    refine lv_iconst (v := (0:Int32)) hx hb d_MM_isPattern_86 (by decide) ?_
    cases h
    exact o_rz (v := (0:Int32)) C o_nar0 hP hS d_MM_isPattern_87
  · replace h := o_tt c3 h
    refine lv_aload_n hx hb d_MM_isPattern_63 rfl (lv_at hl 1 rfl) ?_
    refine o_get (v := .int (MM_pat q1.2)) C in_MM hP 0 mw_0 rfl 27 (by decide) k_8_17 rfl rfl d_MM_isPattern_64 ?_
    refine lv_aload_n hx hb d_MM_isPattern_67 rfl (lv_at hl 1 rfl) ?_
    refine o_get (v := .int (MM_patEnd q1.2)) C in_MM hP 0 mw_0 rfl 28 (by decide) k_8_18 rfl rfl d_MM_isPattern_68 ?_
    refine lv_icmp_lt (tgt := 86) hx hb d_MM_isPattern_71 (by decide) (fun c4 => ?_) (fun c4 => ?_)
    · replace h := o_tt c4 h
      refine lv_iconst (v := (0:Int32)) hx hb d_MM_isPattern_86 (by decide) ?_
      cases h
      exact o_rz (v := (0:Int32)) C o_nar0 hP hS d_MM_isPattern_87
    · replace h := o_ff c4 h
      refine lv_aload_n hx hb d_MM_isPattern_74 rfl (lv_at hl 1 rfl) ?_
      refine lv_iload_n hx hb d_MM_isPattern_75 rfl (lv_at hl 0 rfl) ?_
      obtain ⟨q2, hq2, h⟩ := o_bd_some h
      refine o_V (st1 := [.long q2]) (w1 := (m_cw ad ca ky ty 33 q1.2 a1 M1)) hE.1 C (e_MM_size hE hKy l n 110 q1.1 q1.2 a1 M1 33 hq2) hP (hDD _ _ _ _) hS hl.1 rfl mw_0 k_9_129 k_9_131 k_s_103 k_1_12 k_9_132 hv_MM_size rfl rfl ⟨(Nat.le_of_ble_eq_true rfl), (Nat.le_of_ble_eq_true rfl)⟩ rfl (Nat.le_of_ble_eq_true rfl) ⟨Nat.zero_le _, Nat.zero_le _⟩ rfl d_MM_isPattern_76 (fun H locs hP hS => ?_)
      refine lv_ldc2 (v := (400:Int64)) hx hb hown (hts _ k_9_140) d_MM_isPattern_79 ?_
      refine W.lcmp hx hb d_MM_isPattern_82 ?_
      refine lv_if_le (tgt := 88) hx hb d_MM_isPattern_83 (by decide) (fun c5 => ?_) (fun c5 => ?_)
      · replace h := o_tt c5 h
        refine lv_aload_n hx hb d_MM_isPattern_88 rfl (lv_at hl 1 rfl) ?_
        refine lv_iconst (v := (0:Int32)) hx hb d_MM_isPattern_89 (by decide) ?_
        refine o_put (v := .int (0:Int32)) (ty := .int) (w1 := (m_cw ad ca ky ty 33 (MM_mk (MM_err q1.2) (MM_fed q1.2) (MM_wrong q1.2) (MM_octets q1.2) (MM_nodeKind q1.2) (MM_nodeA q1.2) (MM_nodeB q1.2) (MM_nodeC q1.2) (MM_nodeNext q1.2) (MM_low q1.2) (MM_high q1.2) (MM_setFrom q1.2) (MM_setTo q1.2) (MM_setNot q1.2) (MM_op q1.2) (MM_opA q1.2) (MM_opB q1.2) (MM_mark q1.2) (MM_now q1.2) (MM_then q1.2) (MM_todo q1.2) (MM_nodes q1.2) (MM_sets q1.2) (MM_ranges q1.2) (0:Int32) (MM_pat q1.2) (MM_patEnd q1.2) (MM_round q1.2) (MM_many1 q1.2) (MM_broken q1.2) (MM_checked q1.2) (MM_faultKind q1.2) (MM_faultValue q1.2) (MM_latestFault q1.2) (MM_anchors q1.2) (MM_key q1.2) (MM_target q1.2) (MM_anchorValue q1.2) (MM_anchorSchema q1.2) (MM_path q1.2) (MM_route q1.2) (MM_isSchema q1.2) (MM_seen1 q1.2) (MM_pathSize q1.2) (MM_octetRow q1.2) (MM_partRow q1.2) (MM_pairValue q1.2) (MM_pairKey q1.2) (MM_pairs q1.2) (MM_judged q1.2) (MM_deepest q1.2) (MM_depth q1.2) (MM_over q1.2) (MM_seen q1.2)) a1 M1)) C in_MM t_MM t_MM_ok n_MM hP (hDD _ _ _ _) hS 0 mw_0 rfl 26 (by decide) k_8_16 rfl rfl (by decide +kernel) rfl rfl (Nat.le_of_ble_eq_true rfl) rfl d_MM_isPattern_90 (fun H locs hP hS => ?_)
        refine lv_aload_n hx hb d_MM_isPattern_93 rfl (lv_at hl 1 rfl) ?_
        refine lv_iload_n hx hb d_MM_isPattern_94 rfl (lv_at hl 0 rfl) ?_
        obtain ⟨q3, hq3, h⟩ := o_bd_some h
        refine o_V (st1 := []) (w1 := (m_cw ad ca ky ty 33 q3 a1 M1)) hE.1 C (e_MM_compile hE hKy l n 110 q1.1 (MM_mk (MM_err q1.2) (MM_fed q1.2) (MM_wrong q1.2) (MM_octets q1.2) (MM_nodeKind q1.2) (MM_nodeA q1.2) (MM_nodeB q1.2) (MM_nodeC q1.2) (MM_nodeNext q1.2) (MM_low q1.2) (MM_high q1.2) (MM_setFrom q1.2) (MM_setTo q1.2) (MM_setNot q1.2) (MM_op q1.2) (MM_opA q1.2) (MM_opB q1.2) (MM_mark q1.2) (MM_now q1.2) (MM_then q1.2) (MM_todo q1.2) (MM_nodes q1.2) (MM_sets q1.2) (MM_ranges q1.2) (0:Int32) (MM_pat q1.2) (MM_patEnd q1.2) (MM_round q1.2) (MM_many1 q1.2) (MM_broken q1.2) (MM_checked q1.2) (MM_faultKind q1.2) (MM_faultValue q1.2) (MM_latestFault q1.2) (MM_anchors q1.2) (MM_key q1.2) (MM_target q1.2) (MM_anchorValue q1.2) (MM_anchorSchema q1.2) (MM_path q1.2) (MM_route q1.2) (MM_isSchema q1.2) (MM_seen1 q1.2) (MM_pathSize q1.2) (MM_octetRow q1.2) (MM_partRow q1.2) (MM_pairValue q1.2) (MM_pairKey q1.2) (MM_pairs q1.2) (MM_judged q1.2) (MM_deepest q1.2) (MM_depth q1.2) (MM_over q1.2) (MM_seen q1.2)) a1 M1 33 hq3) hP (hDD _ _ _ _) hS hl.1 rfl mw_0 k_9_141 k_9_143 k_s_104 k_1_12 k_9_144 hv_MM_compile rfl rfl ⟨(Nat.le_of_ble_eq_true rfl), (Nat.le_of_ble_eq_true rfl)⟩ rfl (Nat.le_of_ble_eq_true rfl) ⟨Nat.zero_le _, Nat.zero_le _⟩ rfl d_MM_isPattern_95 (fun H locs hP hS => ?_)
        refine lv_aload_n hx hb d_MM_isPattern_98 rfl (lv_at hl 1 rfl) ?_
        refine lv_bipush (v := (9:Int32)) hx hb d_MM_isPattern_99 (by decide) ?_
        refine lv_iconst (v := (0:Int32)) hx hb d_MM_isPattern_101 (by decide) ?_
        refine lv_iconst (v := (0:Int32)) hx hb d_MM_isPattern_102 (by decide) ?_
        obtain ⟨q4, hq4, h⟩ := o_bd_some h
        refine o_V (st1 := [.int q4.1]) (w1 := (m_cw ad ca ky ty 33 q4.2 a1 M1)) hE.1 C (e_MM_step hE hKy l (9:Int32) (0:Int32) (0:Int32) q3 a1 M1 33 hq4) hP (hDD _ _ _ _) hS hl.1 rfl mw_0 k_9_145 k_9_147 k_s_105 k_1_12 k_9_148 hv_MM_step rfl rfl ⟨(Nat.le_of_ble_eq_true rfl), (Nat.le_of_ble_eq_true rfl)⟩ rfl (Nat.le_of_ble_eq_true rfl) ⟨Nat.zero_le _, Nat.zero_le _⟩ rfl d_MM_isPattern_103 (fun H locs hP hS => ?_)
        refine lv_pop hx hb d_MM_isPattern_106 rfl ?_
        refine lv_iconst (v := (1:Int32)) hx hb d_MM_isPattern_107 (by decide) ?_
        cases h
        exact o_rz (v := (1:Int32)) C o_nar1 hP hS d_MM_isPattern_108
      · replace h := o_ff c5 h
        refine lv_iconst (v := (0:Int32)) hx hb d_MM_isPattern_86 (by decide) ?_
        cases h
        exact o_rz (v := (0:Int32)) C o_nar0 hP hS d_MM_isPattern_87
set_option maxHeartbeats 4000000 in
set_option maxRecDepth 100000 in
theorem f_MM_keyword_b477 {E : (Nat → Prop) → State → Heap → Prop} {p : Program} {l : Launch} {e : Env} {s : State} {m : MethodId} {args : Array Value} {below : List Frame} {meth : Method} {c : Code} {D : va_G} {ad kd sd vd xd : Nat → Nat} {ca : Nat → ClassId} {A : Nat → Prop} {ky ty : Nat → Option Nat} {Q : State → Prop} (hE : o_EK E kd sd vd xd) (hKy : m_KY ky ty sd) (C : o_Cx E p s m args meth c D m_cls (m_tys ca) "SchemaJudgeModel" b_MM_keyword none 6 cc_MM_keyword A) (hDD : ∀ (rt : Nat) (Mm : SMM) (M0 : SMT) (M1 : SMT), va_D A (m_cw ad ca ky ty rt Mm M0 M1)) (d : Nat) (rec : Int32 → SMT → SMM → Nat → Option (SMM × Nat)) (hrec : ∀ (x1 : Int32) (M0 : SMT) (Mm : SMM) (rt : Nat) (M1 : SMT) (r : SMM × Nat), rec x1 M0 Mm rt = some r → o_Cn E l D m_cls (m_tys ca) y_MM_visit cc_MM_visit (rm_MM_visit d) [.ref (ad 0), .int x1] (m_cw ad ca ky ty rt Mm M0 M1) (m_cw ad ca ky ty r.2 r.1 M0 M1) none) (n : Nat) (u477_M0 : SMT) (u477_rt : Nat) (u477_M1 : SMT) (z : Int32 × SMM) (q : Nat × Int32 × SMM) (h : m_MM_keyword_b477 n rec u477_M0 u477_rt z = some q) (h0 : q.1 = 0 → o_At p l e (rm_MM_keyword d) s m args below meth c Q m_cls D A 6 477 [] (m_cw ad ca ky ty u477_rt q.2.2 u477_M0 u477_M1) [(0, .ref (ad 0)), (5, .int q.2.1)]) (h1 : q.1 ≠ 0 → (o_At p l e (rm_MM_keyword d) s m args below meth c Q m_cls D A 6 503 [] (m_cw ad ca ky ty u477_rt q.2.2 u477_M0 u477_M1) [])) : o_At p l e (rm_MM_keyword d) s m args below meth c Q m_cls D A 6 477 [] (m_cw ad ca ky ty u477_rt z.2 u477_M0 u477_M1) [(0, .ref (ad 0)), (5, .int z.1)] := by
  unfold m_MM_keyword_b477 at h
  intro H locs ls hP hS hl
  have C0 := C
  obtain ⟨hx, hb, -, -, -, hown, hts, hK, -, -⟩ := C0
  refine lv_iload hx hb d_MM_keyword_477 (lv_at hl 1 rfl) ?_
  refine lv_if_lt (tgt := 503) hx hb d_MM_keyword_479 (by decide) (fun c18 => ?_) (fun c18 => ?_)
  · replace h := o_tt c18 h
    cases h
    exact h1 (Nat.succ_ne_zero 0) _ _ _ hP hS (lv_sub hl [] rfl)
  · replace h := o_ff c18 h
    refine lv_aload_n hx hb d_MM_keyword_482 rfl (lv_at hl 0 rfl) ?_
    refine lv_iload hx hb d_MM_keyword_483 (lv_at hl 1 rfl) ?_
    obtain ⟨q2, hq2, h⟩ := o_bd_some h
    refine o_V (st1 := []) (w1 := (m_cw ad ca ky ty u477_rt q2 u477_M0 u477_M1)) hE.1 C (e_MM_strings hE hKy l n z.1 u477_M0 z.2 u477_M1 u477_rt hq2) hP (hDD _ _ _ _) hS hl.1 rfl mw_0 k_9_175 k_9_177 k_s_110 k_1_12 k_9_178 hv_MM_strings rfl rfl ⟨(by dsimp only [rm_MM_keyword, rm_MM_strings]; omega), (by dsimp only [rm_MM_keyword, rm_MM_strings]; omega)⟩ rfl (Nat.le_of_ble_eq_true rfl) ⟨Nat.zero_le _, Nat.zero_le _⟩ rfl d_MM_keyword_485 (fun H locs hP hS => ?_)
    refine lv_aload_n hx hb d_MM_keyword_488 rfl (lv_at hl 0 rfl) ?_
    refine o_get (v := .ref (ad 33)) C in_MM hP 0 mw_0 rfl 4 (by decide) k_7_234 rfl rfl d_MM_keyword_489 ?_
    refine o_get (v := .ref (ad 41)) C in_MT hP 33 mw_33 rfl 7 (by decide) k_7_115 rfl rfl d_MM_keyword_492 ?_
    refine lv_iload hx hb d_MM_keyword_495 (lv_at hl 1 rfl) ?_
    obtain ⟨g19, h⟩ := o_gd_some h
    refine o_iald (f := (MT_next u477_M0)) C hP 41 39 mw_41 rfl g19 d_MM_keyword_497 ?_
    refine lv_topi (fun x5_498 ex5_498 => ?_)
    replace h := o_nm_at ex5_498 h
    refine lv_istore (lv' := [(5, .int x5_498), (0, .ref (ad 0))]) hx hb d_MM_keyword_498 hl (by decide) rfl (fun ls hl => ?_)
    refine lv_goto (tgt := 477) hx hb d_MM_keyword_500 (by decide) ?_
    cases h
    exact h0 rfl _ _ _ hP hS (lv_sub hl [1, 0] rfl)
set_option maxHeartbeats 4000000 in
set_option maxRecDepth 100000 in
theorem f_MM_keyword_j283 {E : (Nat → Prop) → State → Heap → Prop} {p : Program} {l : Launch} {e : Env} {s : State} {m : MethodId} {args : Array Value} {below : List Frame} {meth : Method} {c : Code} {D : va_G} {ad kd sd vd xd : Nat → Nat} {ca : Nat → ClassId} {A : Nat → Prop} {ky ty : Nat → Option Nat} (hE : o_EK E kd sd vd xd) (hKy : m_KY ky ty sd) (C : o_Cx E p s m args meth c D m_cls (m_tys ca) "SchemaJudgeModel" b_MM_keyword none 6 cc_MM_keyword A) (hDD : ∀ (rt : Nat) (Mm : SMM) (M0 : SMT) (M1 : SMT), va_D A (m_cw ad ca ky ty rt Mm M0 M1)) (d : Nat) (rec : Int32 → SMT → SMM → Nat → Option (SMM × Nat)) (hrec : ∀ (x1 : Int32) (M0 : SMT) (Mm : SMM) (rt : Nat) (M1 : SMT) (r : SMM × Nat), rec x1 M0 Mm rt = some r → o_Cn E l D m_cls (m_tys ca) y_MM_visit cc_MM_visit (rm_MM_visit d) [.ref (ad 0), .int x1] (m_cw ad ca ky ty rt Mm M0 M1) (m_cw ad ca ky ty r.2 r.1 M0 M1) none) (n : Nat) (x2 : Int32) (M0 : SMT) (Mm : SMM) (rt : Nat) (M1 : SMT) {r : SMM × Nat} (h : m_MM_keyword_j283 n rec x2 M0 Mm rt = some r) : o_At p l e (rm_MM_keyword d) s m args below meth c (MQ below (o_Qx D m_cls none (m_cw ad ca ky ty r.2 r.1 M0 M1) A) args s 0 0 A) m_cls D A 6 283 [] (m_cw ad ca ky ty rt Mm M0 M1) [(0, .ref (ad 0)), (2, .int x2)] := by
  unfold m_MM_keyword_j283 at h
  intro H locs ls hP hS hl
  have C0 := C
  obtain ⟨hx, hb, -, -, -, hown, hts, hK, -, -⟩ := C0
  refine lv_aload_n hx hb d_MM_keyword_283 rfl (lv_at hl 0 rfl) ?_
  refine lv_iconst (v := (1:Int32)) hx hb d_MM_keyword_284 (by decide) ?_
  refine lv_iload_n hx hb d_MM_keyword_285 rfl (lv_at hl 1 rfl) ?_
  obtain ⟨q16, hq16, h⟩ := o_bd_some h
  refine o_V (st1 := []) (w1 := (m_cw ad ca ky ty rt q16 M0 M1)) hE.1 C (e_MM_fault hE hKy l (1:Int32) x2 Mm M0 M1 rt hq16) hP (hDD _ _ _ _) hS hl.1 rfl mw_0 k_9_42 k_9_44 k_s_83 k_1_12 k_9_45 hv_MM_fault rfl rfl ⟨(by dsimp only [rm_MM_keyword, rm_MM_fault]; omega), (by dsimp only [rm_MM_keyword, rm_MM_fault]; omega)⟩ rfl (Nat.le_of_ble_eq_true rfl) ⟨Nat.zero_le _, Nat.zero_le _⟩ rfl d_MM_keyword_286 (fun H locs hP hS => ?_)
  refine lv_goto (tgt := 518) hx hb d_MM_keyword_289 (by decide) ?_
  cases h
  exact o_rv C hP hS d_MM_keyword_518
set_option maxHeartbeats 4000000 in
set_option maxRecDepth 100000 in
theorem f_MM_keyword_j234 {E : (Nat → Prop) → State → Heap → Prop} {p : Program} {l : Launch} {e : Env} {s : State} {m : MethodId} {args : Array Value} {below : List Frame} {meth : Method} {c : Code} {D : va_G} {ad kd sd vd xd : Nat → Nat} {ca : Nat → ClassId} {A : Nat → Prop} {ky ty : Nat → Option Nat} (hE : o_EK E kd sd vd xd) (hKy : m_KY ky ty sd) (C : o_Cx E p s m args meth c D m_cls (m_tys ca) "SchemaJudgeModel" b_MM_keyword none 6 cc_MM_keyword A) (hDD : ∀ (rt : Nat) (Mm : SMM) (M0 : SMT) (M1 : SMT), va_D A (m_cw ad ca ky ty rt Mm M0 M1)) (d : Nat) (rec : Int32 → SMT → SMM → Nat → Option (SMM × Nat)) (hrec : ∀ (x1 : Int32) (M0 : SMT) (Mm : SMM) (rt : Nat) (M1 : SMT) (r : SMM × Nat), rec x1 M0 Mm rt = some r → o_Cn E l D m_cls (m_tys ca) y_MM_visit cc_MM_visit (rm_MM_visit d) [.ref (ad 0), .int x1] (m_cw ad ca ky ty rt Mm M0 M1) (m_cw ad ca ky ty r.2 r.1 M0 M1) none) (n : Nat) (x2 : Int32) (M0 : SMT) (Mm : SMM) (rt : Nat) (M1 : SMT) {r : SMM × Nat} (h : m_MM_keyword_j234 n rec x2 M0 Mm rt = some r) : o_At p l e (rm_MM_keyword d) s m args below meth c (MQ below (o_Qx D m_cls none (m_cw ad ca ky ty r.2 r.1 M0 M1) A) args s 0 0 A) m_cls D A 6 234 [] (m_cw ad ca ky ty rt Mm M0 M1) [(0, .ref (ad 0)), (2, .int x2)] := by
  unfold m_MM_keyword_j234 at h
  intro H locs ls hP hS hl
  have C0 := C
  obtain ⟨hx, hb, -, -, -, hown, hts, hK, -, -⟩ := C0
  refine lv_aload_n hx hb d_MM_keyword_234 rfl (lv_at hl 0 rfl) ?_
  refine lv_iconst (v := (1:Int32)) hx hb d_MM_keyword_235 (by decide) ?_
  refine lv_iload_n hx hb d_MM_keyword_236 rfl (lv_at hl 1 rfl) ?_
  obtain ⟨q18, hq18, h⟩ := o_bd_some h
  refine o_V (st1 := []) (w1 := (m_cw ad ca ky ty rt q18 M0 M1)) hE.1 C (e_MM_fault hE hKy l (1:Int32) x2 Mm M0 M1 rt hq18) hP (hDD _ _ _ _) hS hl.1 rfl mw_0 k_9_42 k_9_44 k_s_83 k_1_12 k_9_45 hv_MM_fault rfl rfl ⟨(by dsimp only [rm_MM_keyword, rm_MM_fault]; omega), (by dsimp only [rm_MM_keyword, rm_MM_fault]; omega)⟩ rfl (Nat.le_of_ble_eq_true rfl) ⟨Nat.zero_le _, Nat.zero_le _⟩ rfl d_MM_keyword_237 (fun H locs hP hS => ?_)
  refine lv_goto (tgt := 518) hx hb d_MM_keyword_240 (by decide) ?_
  cases h
  exact o_rv C hP hS d_MM_keyword_518
set_option maxHeartbeats 4000000 in
set_option maxRecDepth 100000 in
theorem f_MM_keyword_j168 {E : (Nat → Prop) → State → Heap → Prop} {p : Program} {l : Launch} {e : Env} {s : State} {m : MethodId} {args : Array Value} {below : List Frame} {meth : Method} {c : Code} {D : va_G} {ad kd sd vd xd : Nat → Nat} {ca : Nat → ClassId} {A : Nat → Prop} {ky ty : Nat → Option Nat} {Q : State → Prop} (hE : o_EK E kd sd vd xd) (hKy : m_KY ky ty sd) (C : o_Cx E p s m args meth c D m_cls (m_tys ca) "SchemaJudgeModel" b_MM_keyword none 6 cc_MM_keyword A) (hDD : ∀ (rt : Nat) (Mm : SMM) (M0 : SMT) (M1 : SMT), va_D A (m_cw ad ca ky ty rt Mm M0 M1)) (d : Nat) (rec : Int32 → SMT → SMM → Nat → Option (SMM × Nat)) (hrec : ∀ (x1 : Int32) (M0 : SMT) (Mm : SMM) (rt : Nat) (M1 : SMT) (r : SMM × Nat), rec x1 M0 Mm rt = some r → o_Cn E l D m_cls (m_tys ca) y_MM_visit cc_MM_visit (rm_MM_visit d) [.ref (ad 0), .int x1] (m_cw ad ca ky ty rt Mm M0 M1) (m_cw ad ca ky ty r.2 r.1 M0 M1) none) (n : Nat) (u129_x1 : Int32) (u129_M0 : SMT) (u129_M1 : SMT) (x5 : Int32) (Mm : SMM) (rt : Nat) {q : Nat × Int32 × SMM × Nat} (h : m_MM_keyword_j168 n rec u129_x1 x5 u129_M0 Mm rt = some q) (h0 : q.1 = 0 → o_At p l e (rm_MM_keyword d) s m args below meth c Q m_cls D A 6 129 [] (m_cw ad ca ky ty q.2.2.2 q.2.2.1 u129_M0 u129_M1) [(0, .ref (ad 0)), (1, .int u129_x1), (5, .int q.2.1)]) (h1 : q.1 ≠ 0 → (o_At p l e (rm_MM_keyword d) s m args below meth c Q m_cls D A 6 189 [] (m_cw ad ca ky ty q.2.2.2 q.2.2.1 u129_M0 u129_M1) [])) : o_At p l e (rm_MM_keyword d) s m args below meth c Q m_cls D A 6 168 [] (m_cw ad ca ky ty rt Mm u129_M0 u129_M1) [(0, .ref (ad 0)), (1, .int u129_x1), (5, .int x5)] := by
  unfold m_MM_keyword_j168 at h
  intro H locs ls hP hS hl
  have C0 := C
  obtain ⟨hx, hb, -, -, -, hown, hts, hK, -, -⟩ := C0
  refine lv_aload_n hx hb d_MM_keyword_168 rfl (lv_at hl 0 rfl) ?_
  refine lv_iload hx hb d_MM_keyword_169 (lv_at hl 2 rfl) ?_
  obtain ⟨q19, hq19, h⟩ := o_bd_some h
  refine o_V (st1 := []) (w1 := (m_cw ad ca ky ty q19.2 q19.1 u129_M0 u129_M1)) hE.1 C (hrec x5 u129_M0 Mm rt u129_M1 _ hq19) hP (hDD _ _ _ _) hS hl.1 rfl mw_0 k_9_37 k_9_39 k_s_82 k_1_12 k_9_40 hv_MM_visit rfl rfl ⟨(by dsimp only [rm_MM_keyword, rm_MM_visit]; omega), (by dsimp only [rm_MM_keyword, rm_MM_visit]; omega)⟩ rfl (Nat.le_of_ble_eq_true rfl) ⟨Nat.zero_le _, Nat.zero_le _⟩ rfl d_MM_keyword_171 (fun H locs hP hS => ?_)
  refine lv_aload_n hx hb d_MM_keyword_174 rfl (lv_at hl 0 rfl) ?_
  refine o_get (v := .ref (ad 33)) C in_MM hP 0 mw_0 rfl 4 (by decide) k_7_234 rfl rfl d_MM_keyword_175 ?_
  refine o_get (v := .ref (ad 41)) C in_MT hP 33 mw_33 rfl 7 (by decide) k_7_115 rfl rfl d_MM_keyword_178 ?_
  refine lv_iload hx hb d_MM_keyword_181 (lv_at hl 2 rfl) ?_
  obtain ⟨g39, h⟩ := o_gd_some h
  refine o_iald (f := (MT_next u129_M0)) C hP 41 39 mw_41 rfl g39 d_MM_keyword_183 ?_
  refine lv_topi (fun x5_184 ex5_184 => ?_)
  replace h := o_nm_at ex5_184 h
  refine lv_istore (lv' := [(5, .int x5_184), (0, .ref (ad 0)), (1, .int u129_x1)]) hx hb d_MM_keyword_184 hl (by decide) rfl (fun ls hl => ?_)
  refine lv_goto (tgt := 129) hx hb d_MM_keyword_186 (by decide) ?_
  cases h
  exact h0 rfl _ _ _ hP hS (lv_sub hl [1, 2, 0] rfl)
set_option maxHeartbeats 4000000 in
set_option maxRecDepth 100000 in
theorem f_MM_keyword_b129 {E : (Nat → Prop) → State → Heap → Prop} {p : Program} {l : Launch} {e : Env} {s : State} {m : MethodId} {args : Array Value} {below : List Frame} {meth : Method} {c : Code} {D : va_G} {ad kd sd vd xd : Nat → Nat} {ca : Nat → ClassId} {A : Nat → Prop} {ky ty : Nat → Option Nat} {Q : State → Prop} (hE : o_EK E kd sd vd xd) (hKy : m_KY ky ty sd) (C : o_Cx E p s m args meth c D m_cls (m_tys ca) "SchemaJudgeModel" b_MM_keyword none 6 cc_MM_keyword A) (hDD : ∀ (rt : Nat) (Mm : SMM) (M0 : SMT) (M1 : SMT), va_D A (m_cw ad ca ky ty rt Mm M0 M1)) (d : Nat) (rec : Int32 → SMT → SMM → Nat → Option (SMM × Nat)) (hrec : ∀ (x1 : Int32) (M0 : SMT) (Mm : SMM) (rt : Nat) (M1 : SMT) (r : SMM × Nat), rec x1 M0 Mm rt = some r → o_Cn E l D m_cls (m_tys ca) y_MM_visit cc_MM_visit (rm_MM_visit d) [.ref (ad 0), .int x1] (m_cw ad ca ky ty rt Mm M0 M1) (m_cw ad ca ky ty r.2 r.1 M0 M1) none) (n : Nat) (u129_x1 : Int32) (u129_M0 : SMT) (u129_M1 : SMT) (z : Int32 × SMM × Nat) (q : Nat × Int32 × SMM × Nat) (h : m_MM_keyword_b129 n rec u129_x1 u129_M0 z = some q) (h0 : q.1 = 0 → o_At p l e (rm_MM_keyword d) s m args below meth c Q m_cls D A 6 129 [] (m_cw ad ca ky ty q.2.2.2 q.2.2.1 u129_M0 u129_M1) [(0, .ref (ad 0)), (1, .int u129_x1), (5, .int q.2.1)]) (h1 : q.1 ≠ 0 → (o_At p l e (rm_MM_keyword d) s m args below meth c Q m_cls D A 6 189 [] (m_cw ad ca ky ty q.2.2.2 q.2.2.1 u129_M0 u129_M1) [])) : o_At p l e (rm_MM_keyword d) s m args below meth c Q m_cls D A 6 129 [] (m_cw ad ca ky ty z.2.2 z.2.1 u129_M0 u129_M1) [(0, .ref (ad 0)), (1, .int u129_x1), (5, .int z.1)] := by
  unfold m_MM_keyword_b129 at h
  intro H locs ls hP hS hl
  have C0 := C
  obtain ⟨hx, hb, -, -, -, hown, hts, hK, -, -⟩ := C0
  refine lv_iload hx hb d_MM_keyword_129 (lv_at hl 2 rfl) ?_
  refine lv_if_lt (tgt := 189) hx hb d_MM_keyword_131 (by decide) (fun c37 => ?_) (fun c37 => ?_)
  · replace h := o_tt c37 h
    cases h
    exact h1 (Nat.succ_ne_zero 0) _ _ _ hP hS (lv_sub hl [] rfl)
  · replace h := o_ff c37 h
    refine lv_iload_n hx hb d_MM_keyword_134 rfl (lv_at hl 1 rfl) ?_
    refine lv_bipush (v := (16:Int32)) hx hb d_MM_keyword_135 (by decide) ?_
    refine lv_icmp_ne (tgt := 168) hx hb d_MM_keyword_137 (by decide) (fun c38 => ?_) (fun c38 => ?_)
    · replace h := o_ff c38 h
      exact f_MM_keyword_j168 hE hKy C hDD d rec hrec n u129_x1 u129_M0 u129_M1 z.1 z.2.1 z.2.2 h h0 h1 _ _ _ hP hS (lv_sub hl [0, 1, 2] rfl)
    · replace h := o_tt c38 h
      refine lv_aload_n hx hb d_MM_keyword_140 rfl (lv_at hl 0 rfl) ?_
      refine lv_aload_n hx hb d_MM_keyword_141 rfl (lv_at hl 0 rfl) ?_
      refine o_get (v := .ref (ad 33)) C in_MM hP 0 mw_0 rfl 4 (by decide) k_7_234 rfl rfl d_MM_keyword_142 ?_
      refine lv_aload_n hx hb d_MM_keyword_145 rfl (lv_at hl 0 rfl) ?_
      refine o_get (v := .ref (ad 33)) C in_MM hP 0 mw_0 rfl 4 (by decide) k_7_234 rfl rfl d_MM_keyword_146 ?_
      refine o_get (v := .ref (ad 42)) C in_MT hP 33 mw_33 rfl 8 (by decide) k_7_117 rfl rfl d_MM_keyword_149 ?_
      refine lv_iload hx hb d_MM_keyword_152 (lv_at hl 2 rfl) ?_
      obtain ⟨g40, h⟩ := o_gd_some h
      refine o_iald (f := (MT_name u129_M0)) C hP 42 40 mw_42 rfl g40 d_MM_keyword_154 ?_
      obtain ⟨q20, hq20, h⟩ := o_bd_some h
      refine o_V (st1 := [.int q20.1]) (w1 := (m_cw ad ca ky ty 33 q20.2 u129_M0 u129_M1)) hE.1 C (e_MM_isPattern_a hE hKy l n ((MT_name u129_M0) z.1.toNatClampNeg) u129_M0 z.2.1 u129_M1 z.2.2 hq20) hP (hDD _ _ _ _) hS hl.1 rfl mw_0 k_9_54 k_9_56 k_s_85 k_1_12 k_9_57 hv_MM_isPattern rfl rfl ⟨(by dsimp only [rm_MM_keyword, rm_MM_isPattern]; omega), (by dsimp only [rm_MM_keyword, rm_MM_isPattern]; omega)⟩ rfl (Nat.le_of_ble_eq_true rfl) ⟨Nat.zero_le _, Nat.zero_le _⟩ rfl d_MM_keyword_155 (fun H locs hP hS => ?_)
      refine lv_if_ne (tgt := 168) hx hb d_MM_keyword_158 (by decide) (fun c41 => ?_) (fun c41 => ?_)
      · replace h := o_ff c41 h
        exact f_MM_keyword_j168 hE hKy C hDD d rec hrec n u129_x1 u129_M0 u129_M1 z.1 q20.2 33 h h0 h1 _ _ _ hP hS (lv_sub hl [0, 1, 2] rfl)
      · replace h := o_tt c41 h
        refine lv_aload_n hx hb d_MM_keyword_161 rfl (lv_at hl 0 rfl) ?_
        refine lv_iconst (v := (4:Int32)) hx hb d_MM_keyword_162 (by decide) ?_
        refine lv_iload hx hb d_MM_keyword_163 (lv_at hl 2 rfl) ?_
        obtain ⟨q21, hq21, h⟩ := o_bd_some h
        refine o_V (st1 := []) (w1 := (m_cw ad ca ky ty 33 q21 u129_M0 u129_M1)) hE.1 C (e_MM_fault hE hKy l (4:Int32) z.1 q20.2 u129_M0 u129_M1 33 hq21) hP (hDD _ _ _ _) hS hl.1 rfl mw_0 k_9_42 k_9_44 k_s_83 k_1_12 k_9_45 hv_MM_fault rfl rfl ⟨(by dsimp only [rm_MM_keyword, rm_MM_fault]; omega), (by dsimp only [rm_MM_keyword, rm_MM_fault]; omega)⟩ rfl (Nat.le_of_ble_eq_true rfl) ⟨Nat.zero_le _, Nat.zero_le _⟩ rfl d_MM_keyword_165 (fun H locs hP hS => ?_)
        exact f_MM_keyword_j168 hE hKy C hDD d rec hrec n u129_x1 u129_M0 u129_M1 z.1 q21 33 h h0 h1 _ _ _ hP hS (lv_sub hl [0, 1, 2] rfl)
set_option maxHeartbeats 4000000 in
set_option maxRecDepth 100000 in
theorem f_MM_keyword_j49 {E : (Nat → Prop) → State → Heap → Prop} {p : Program} {l : Launch} {e : Env} {s : State} {m : MethodId} {args : Array Value} {below : List Frame} {meth : Method} {c : Code} {D : va_G} {ad kd sd vd xd : Nat → Nat} {ca : Nat → ClassId} {A : Nat → Prop} {ky ty : Nat → Option Nat} (hE : o_EK E kd sd vd xd) (hKy : m_KY ky ty sd) (C : o_Cx E p s m args meth c D m_cls (m_tys ca) "SchemaJudgeModel" b_MM_keyword none 6 cc_MM_keyword A) (hDD : ∀ (rt : Nat) (Mm : SMM) (M0 : SMT) (M1 : SMT), va_D A (m_cw ad ca ky ty rt Mm M0 M1)) (d : Nat) (rec : Int32 → SMT → SMM → Nat → Option (SMM × Nat)) (hrec : ∀ (x1 : Int32) (M0 : SMT) (Mm : SMM) (rt : Nat) (M1 : SMT) (r : SMM × Nat), rec x1 M0 Mm rt = some r → o_Cn E l D m_cls (m_tys ca) y_MM_visit cc_MM_visit (rm_MM_visit d) [.ref (ad 0), .int x1] (m_cw ad ca ky ty rt Mm M0 M1) (m_cw ad ca ky ty r.2 r.1 M0 M1) none) (n : Nat) (x2 : Int32) (M0 : SMT) (Mm : SMM) (rt : Nat) (M1 : SMT) {r : SMM × Nat} (h : m_MM_keyword_j49 n rec x2 M0 Mm rt = some r) : o_At p l e (rm_MM_keyword d) s m args below meth c (MQ below (o_Qx D m_cls none (m_cw ad ca ky ty r.2 r.1 M0 M1) A) args s 0 0 A) m_cls D A 6 49 [] (m_cw ad ca ky ty rt Mm M0 M1) [(0, .ref (ad 0)), (2, .int x2)] := by
  unfold m_MM_keyword_j49 at h
  intro H locs ls hP hS hl
  have C0 := C
  obtain ⟨hx, hb, -, -, -, hown, hts, hK, -, -⟩ := C0
  refine lv_aload_n hx hb d_MM_keyword_49 rfl (lv_at hl 0 rfl) ?_
  refine lv_iconst (v := (1:Int32)) hx hb d_MM_keyword_50 (by decide) ?_
  refine lv_iload_n hx hb d_MM_keyword_51 rfl (lv_at hl 1 rfl) ?_
  obtain ⟨q24, hq24, h⟩ := o_bd_some h
  refine o_V (st1 := []) (w1 := (m_cw ad ca ky ty rt q24 M0 M1)) hE.1 C (e_MM_fault hE hKy l (1:Int32) x2 Mm M0 M1 rt hq24) hP (hDD _ _ _ _) hS hl.1 rfl mw_0 k_9_42 k_9_44 k_s_83 k_1_12 k_9_45 hv_MM_fault rfl rfl ⟨(by dsimp only [rm_MM_keyword, rm_MM_fault]; omega), (by dsimp only [rm_MM_keyword, rm_MM_fault]; omega)⟩ rfl (Nat.le_of_ble_eq_true rfl) ⟨Nat.zero_le _, Nat.zero_le _⟩ rfl d_MM_keyword_52 (fun H locs hP hS => ?_)
  refine lv_goto (tgt := 518) hx hb d_MM_keyword_55 (by decide) ?_
  cases h
  exact o_rv C hP hS d_MM_keyword_518
set_option maxHeartbeats 4000000 in
set_option maxRecDepth 100000 in
theorem f_MM_keyword_b69 {E : (Nat → Prop) → State → Heap → Prop} {p : Program} {l : Launch} {e : Env} {s : State} {m : MethodId} {args : Array Value} {below : List Frame} {meth : Method} {c : Code} {D : va_G} {ad kd sd vd xd : Nat → Nat} {ca : Nat → ClassId} {A : Nat → Prop} {ky ty : Nat → Option Nat} {Q : State → Prop} (hE : o_EK E kd sd vd xd) (hKy : m_KY ky ty sd) (C : o_Cx E p s m args meth c D m_cls (m_tys ca) "SchemaJudgeModel" b_MM_keyword none 6 cc_MM_keyword A) (hDD : ∀ (rt : Nat) (Mm : SMM) (M0 : SMT) (M1 : SMT), va_D A (m_cw ad ca ky ty rt Mm M0 M1)) (d : Nat) (rec : Int32 → SMT → SMM → Nat → Option (SMM × Nat)) (hrec : ∀ (x1 : Int32) (M0 : SMT) (Mm : SMM) (rt : Nat) (M1 : SMT) (r : SMM × Nat), rec x1 M0 Mm rt = some r → o_Cn E l D m_cls (m_tys ca) y_MM_visit cc_MM_visit (rm_MM_visit d) [.ref (ad 0), .int x1] (m_cw ad ca ky ty rt Mm M0 M1) (m_cw ad ca ky ty r.2 r.1 M0 M1) none) (n : Nat) (u69_M0 : SMT) (u69_M1 : SMT) (z : Int32 × SMM × Nat) (q : Nat × Int32 × SMM × Nat) (h : m_MM_keyword_b69 n rec u69_M0 z = some q) (h0 : q.1 = 0 → o_At p l e (rm_MM_keyword d) s m args below meth c Q m_cls D A 6 69 [] (m_cw ad ca ky ty q.2.2.2 q.2.2.1 u69_M0 u69_M1) [(0, .ref (ad 0)), (5, .int q.2.1)]) (h1 : q.1 ≠ 0 → (o_At p l e (rm_MM_keyword d) s m args below meth c Q m_cls D A 6 95 [] (m_cw ad ca ky ty q.2.2.2 q.2.2.1 u69_M0 u69_M1) [])) : o_At p l e (rm_MM_keyword d) s m args below meth c Q m_cls D A 6 69 [] (m_cw ad ca ky ty z.2.2 z.2.1 u69_M0 u69_M1) [(0, .ref (ad 0)), (5, .int z.1)] := by
  unfold m_MM_keyword_b69 at h
  intro H locs ls hP hS hl
  have C0 := C
  obtain ⟨hx, hb, -, -, -, hown, hts, hK, -, -⟩ := C0
  refine lv_iload hx hb d_MM_keyword_69 (lv_at hl 1 rfl) ?_
  refine lv_if_lt (tgt := 95) hx hb d_MM_keyword_71 (by decide) (fun c46 => ?_) (fun c46 => ?_)
  · replace h := o_tt c46 h
    cases h
    exact h1 (Nat.succ_ne_zero 0) _ _ _ hP hS (lv_sub hl [] rfl)
  · replace h := o_ff c46 h
    refine lv_aload_n hx hb d_MM_keyword_74 rfl (lv_at hl 0 rfl) ?_
    refine lv_iload hx hb d_MM_keyword_75 (lv_at hl 1 rfl) ?_
    obtain ⟨q25, hq25, h⟩ := o_bd_some h
    refine o_V (st1 := []) (w1 := (m_cw ad ca ky ty q25.2 q25.1 u69_M0 u69_M1)) hE.1 C (hrec z.1 u69_M0 z.2.1 z.2.2 u69_M1 _ hq25) hP (hDD _ _ _ _) hS hl.1 rfl mw_0 k_9_37 k_9_39 k_s_82 k_1_12 k_9_40 hv_MM_visit rfl rfl ⟨(by dsimp only [rm_MM_keyword, rm_MM_visit]; omega), (by dsimp only [rm_MM_keyword, rm_MM_visit]; omega)⟩ rfl (Nat.le_of_ble_eq_true rfl) ⟨Nat.zero_le _, Nat.zero_le _⟩ rfl d_MM_keyword_77 (fun H locs hP hS => ?_)
    refine lv_aload_n hx hb d_MM_keyword_80 rfl (lv_at hl 0 rfl) ?_
    refine o_get (v := .ref (ad 33)) C in_MM hP 0 mw_0 rfl 4 (by decide) k_7_234 rfl rfl d_MM_keyword_81 ?_
    refine o_get (v := .ref (ad 41)) C in_MT hP 33 mw_33 rfl 7 (by decide) k_7_115 rfl rfl d_MM_keyword_84 ?_
    refine lv_iload hx hb d_MM_keyword_87 (lv_at hl 1 rfl) ?_
    obtain ⟨g47, h⟩ := o_gd_some h
    refine o_iald (f := (MT_next u69_M0)) C hP 41 39 mw_41 rfl g47 d_MM_keyword_89 ?_
    refine lv_topi (fun x5_90 ex5_90 => ?_)
    replace h := o_nm_at ex5_90 h
    refine lv_istore (lv' := [(5, .int x5_90), (0, .ref (ad 0))]) hx hb d_MM_keyword_90 hl (by decide) rfl (fun ls hl => ?_)
    refine lv_goto (tgt := 69) hx hb d_MM_keyword_92 (by decide) ?_
    cases h
    exact h0 rfl _ _ _ hP hS (lv_sub hl [1, 0] rfl)
set_option maxHeartbeats 4000000 in
set_option maxRecDepth 100000 in
theorem e_MM_keyword {E : (Nat → Prop) → State → Heap → Prop} {D : va_G} {ad kd sd vd xd : Nat → Nat} {ca : Nat → ClassId} {ky ty : Nat → Option Nat} (hE : o_EK E kd sd vd xd) (hKy : m_KY ky ty sd) (l : Launch) (n : Nat) (d : Nat) (rec : Int32 → SMT → SMM → Nat → Option (SMM × Nat)) (hrec : ∀ (x1 : Int32) (M0 : SMT) (Mm : SMM) (rt : Nat) (M1 : SMT) (r : SMM × Nat), rec x1 M0 Mm rt = some r → o_Cn E l D m_cls (m_tys ca) y_MM_visit cc_MM_visit (rm_MM_visit d) [.ref (ad 0), .int x1] (m_cw ad ca ky ty rt Mm M0 M1) (m_cw ad ca ky ty r.2 r.1 M0 M1) none) (x1 : Int32) (x2 : Int32) (x3 : Int32) (M0 : SMT) (Mm : SMM) (rt : Nat) (M1 : SMT) {r : SMM × Nat} (h : m_MM_keyword n rec x1 x2 x3 M0 Mm rt = some r) : o_Cn E l D m_cls (m_tys ca) y_MM_keyword cc_MM_keyword (rm_MM_keyword d) [.ref (ad 0), .int x1, .int x2, .int x3] (m_cw ad ca ky ty rt Mm M0 M1) (m_cw ad ca ky ty r.2 r.1 M0 M1) none := by
  refine o_Cn_of (by decide) (Nat.le_of_ble_eq_true rfl) ?_
  intro p e s m below meth c A ls C hD hP hS hl
  have hDD : ∀ (rt : Nat) (Mm : SMM) (M0 : SMT) (M1 : SMT), va_D A (m_cw ad ca ky ty rt Mm M0 M1) := fun _ _ _ _ => o_D_map hD rfl
  have hl : lv_has ls 6 [(0, .ref (ad 0)), (1, .int x1), (2, .int x2), (3, .int x3)] := hl
  unfold m_MM_keyword at h
  have C0 := C
  obtain ⟨hx, hb, -, -, -, hown, hts, hK, -, -⟩ := C0
  refine lv_aload_n hx hb d_MM_keyword_0 rfl (lv_at hl 0 rfl) ?_
  refine o_get (v := .ref (ad 33)) C in_MM hP 0 mw_0 rfl 4 (by decide) k_7_234 rfl rfl d_MM_keyword_1 ?_
  refine o_get (v := .ref (ad 35)) C in_MT hP 33 mw_33 rfl 1 (by decide) k_7_103 rfl rfl d_MM_keyword_4 ?_
  refine lv_iload_n hx hb d_MM_keyword_7 rfl (lv_at hl 2 rfl) ?_
  obtain ⟨g1, h⟩ := o_gd_some h
  refine o_iald (f := (MT_kind M0)) C hP 35 33 mw_35 rfl g1 d_MM_keyword_8 ?_
  refine lv_topi (fun x4_9 ex4_9 => ?_)
  replace h := o_nm_at ex4_9 h
  refine lv_istore (lv' := [(4, .int x4_9), (0, .ref (ad 0)), (1, .int x1), (2, .int x2), (3, .int x3)]) hx hb d_MM_keyword_9 hl (by decide) rfl (fun ls hl => ?_)
  refine lv_iload_n hx hb d_MM_keyword_11 rfl (lv_at hl 2 rfl) ?_
  refine lv_bipush (v := (10:Int32)) hx hb d_MM_keyword_12 (by decide) ?_
  refine lv_icmp_ge (tgt := 25) hx hb d_MM_keyword_14 (by decide) (fun c2 => ?_) (fun c2 => ?_)
  · replace h := o_tt c2 h
    refine lv_iload_n hx hb d_MM_keyword_25 rfl (lv_at hl 2 rfl) ?_
    refine lv_bipush (v := (14:Int32)) hx hb d_MM_keyword_26 (by decide) ?_
    refine lv_icmp_ge (tgt := 98) hx hb d_MM_keyword_28 (by decide) (fun c3 => ?_) (fun c3 => ?_)
    · replace h := o_tt c3 h
      refine lv_iload_n hx hb d_MM_keyword_98 rfl (lv_at hl 2 rfl) ?_
      refine lv_bipush (v := (18:Int32)) hx hb d_MM_keyword_99 (by decide) ?_
      refine lv_icmp_ge (tgt := 192) hx hb d_MM_keyword_101 (by decide) (fun c4 => ?_) (fun c4 => ?_)
      · replace h := o_tt c4 h
        refine lv_iload_n hx hb d_MM_keyword_192 rfl (lv_at hl 2 rfl) ?_
        refine lv_bipush (v := (23:Int32)) hx hb d_MM_keyword_193 (by decide) ?_
        refine lv_icmp_ge (tgt := 243) hx hb d_MM_keyword_195 (by decide) (fun c5 => ?_) (fun c5 => ?_)
        · replace h := o_tt c5 h
          refine lv_iload_n hx hb d_MM_keyword_243 rfl (lv_at hl 2 rfl) ?_
          refine lv_bipush (v := (31:Int32)) hx hb d_MM_keyword_244 (by decide) ?_
          refine lv_icmp_ge (tgt := 292) hx hb d_MM_keyword_246 (by decide) (fun c6 => ?_) (fun c6 => ?_)
          · replace h := o_tt c6 h
            refine lv_iload_n hx hb d_MM_keyword_292 rfl (lv_at hl 2 rfl) ?_
            refine lv_bipush (v := (31:Int32)) hx hb d_MM_keyword_293 (by decide) ?_
            refine lv_icmp_ne (tgt := 334) hx hb d_MM_keyword_295 (by decide) (fun c7 => ?_) (fun c7 => ?_)
            · replace h := o_ff c7 h
              refine lv_iload_n hx hb d_MM_keyword_334 rfl (lv_at hl 2 rfl) ?_
              refine lv_bipush (v := (32:Int32)) hx hb d_MM_keyword_335 (by decide) ?_
              refine lv_icmp_ne (tgt := 355) hx hb d_MM_keyword_337 (by decide) (fun c8 => ?_) (fun c8 => ?_)
              · replace h := o_ff c8 h
                refine lv_iload_n hx hb d_MM_keyword_355 rfl (lv_at hl 2 rfl) ?_
                refine lv_bipush (v := (33:Int32)) hx hb d_MM_keyword_356 (by decide) ?_
                refine lv_icmp_ne (tgt := 370) hx hb d_MM_keyword_358 (by decide) (fun c9 => ?_) (fun c9 => ?_)
                · replace h := o_ff c9 h
                  refine lv_iload_n hx hb d_MM_keyword_370 rfl (lv_at hl 2 rfl) ?_
                  refine lv_bipush (v := (34:Int32)) hx hb d_MM_keyword_371 (by decide) ?_
                  refine lv_icmp_ne (tgt := 384) hx hb d_MM_keyword_373 (by decide) (fun c10 => ?_) (fun c10 => ?_)
                  · replace h := o_ff c10 h
                    refine lv_iload_n hx hb d_MM_keyword_384 rfl (lv_at hl 2 rfl) ?_
                    refine lv_bipush (v := (35:Int32)) hx hb d_MM_keyword_385 (by decide) ?_
                    refine lv_icmp_ne (tgt := 405) hx hb d_MM_keyword_387 (by decide) (fun c11 => ?_) (fun c11 => ?_)
                    · replace h := o_ff c11 h
                      refine lv_iload_n hx hb d_MM_keyword_405 rfl (lv_at hl 2 rfl) ?_
                      refine lv_bipush (v := (37:Int32)) hx hb d_MM_keyword_406 (by decide) ?_
                      refine lv_icmp_ne (tgt := 430) hx hb d_MM_keyword_408 (by decide) (fun c12 => ?_) (fun c12 => ?_)
                      · replace h := o_ff c12 h
                        refine lv_iload_n hx hb d_MM_keyword_430 rfl (lv_at hl 2 rfl) ?_
                        refine lv_bipush (v := (38:Int32)) hx hb d_MM_keyword_431 (by decide) ?_
                        refine lv_icmp_ne (tgt := 444) hx hb d_MM_keyword_433 (by decide) (fun c13 => ?_) (fun c13 => ?_)
                        · replace h := o_ff c13 h
                          refine lv_iload_n hx hb d_MM_keyword_444 rfl (lv_at hl 2 rfl) ?_
                          refine lv_bipush (v := (39:Int32)) hx hb d_MM_keyword_445 (by decide) ?_
                          refine lv_icmp_ne (tgt := 506) hx hb d_MM_keyword_447 (by decide) (fun c14 => ?_) (fun c14 => ?_)
                          · replace h := o_ff c14 h
                            refine lv_iload_n hx hb d_MM_keyword_506 rfl (lv_at hl 2 rfl) ?_
                            refine lv_bipush (v := (40:Int32)) hx hb d_MM_keyword_507 (by decide) ?_
                            refine lv_icmp_lt (tgt := 518) hx hb d_MM_keyword_509 (by decide) (fun c15 => ?_) (fun c15 => ?_)
                            · replace h := o_tt c15 h
                              cases h
                              exact o_rv C hP hS d_MM_keyword_518
                            · replace h := o_ff c15 h
                              refine lv_aload_n hx hb d_MM_keyword_512 rfl (lv_at hl 1 rfl) ?_
                              refine lv_iconst (v := (2:Int32)) hx hb d_MM_keyword_513 (by decide) ?_
                              refine lv_iload_n hx hb d_MM_keyword_514 rfl (lv_at hl 3 rfl) ?_
                              obtain ⟨q1, hq1, h⟩ := o_bd_some h
                              refine o_V (st1 := []) (w1 := (m_cw ad ca ky ty rt q1 M0 M1)) hE.1 C (e_MM_fault hE hKy l (2:Int32) x2 Mm M0 M1 rt hq1) hP (hDD _ _ _ _) hS hl.1 rfl mw_0 k_9_42 k_9_44 k_s_83 k_1_12 k_9_45 hv_MM_fault rfl rfl ⟨(by dsimp only [rm_MM_keyword, rm_MM_fault]; omega), (by dsimp only [rm_MM_keyword, rm_MM_fault]; omega)⟩ rfl (Nat.le_of_ble_eq_true rfl) ⟨Nat.zero_le _, Nat.zero_le _⟩ rfl d_MM_keyword_515 (fun H locs hP hS => ?_)
                              cases h
                              exact o_rv C hP hS d_MM_keyword_518
                          · replace h := o_tt c14 h
                            refine lv_iload hx hb d_MM_keyword_450 (lv_at hl 0 rfl) ?_
                            refine lv_bipush (v := (6:Int32)) hx hb d_MM_keyword_452 (by decide) ?_
                            refine lv_icmp_eq (tgt := 466) hx hb d_MM_keyword_454 (by decide) (fun c16 => ?_) (fun c16 => ?_)
                            · replace h := o_tt c16 h
                              refine lv_aload_n hx hb d_MM_keyword_466 rfl (lv_at hl 1 rfl) ?_
                              refine o_get (v := .ref (ad 33)) C in_MM hP 0 mw_0 rfl 4 (by decide) k_7_234 rfl rfl d_MM_keyword_467 ?_
                              refine o_get (v := .ref (ad 40)) C in_MT hP 33 mw_33 rfl 6 (by decide) k_7_113 rfl rfl d_MM_keyword_470 ?_
                              refine lv_iload_n hx hb d_MM_keyword_473 rfl (lv_at hl 3 rfl) ?_
                              obtain ⟨g17, h⟩ := o_gd_some h
                              refine o_iald (f := (MT_first M0)) C hP 40 38 mw_40 rfl g17 d_MM_keyword_474 ?_
                              refine lv_topi (fun x5_475 ex5_475 => ?_)
                              replace h := o_nm_at ex5_475 h
                              refine lv_istore (lv' := [(5, .int x5_475), (4, .int x4_9), (0, .ref (ad 0)), (1, .int x1), (2, .int x2), (3, .int x3)]) hx hb d_MM_keyword_475 hl (by decide) rfl (fun ls hl => ?_)
                              obtain ⟨q3, hq3, h⟩ := o_bd_some h
                              refine o_sim2 (AH := fun zz => o_At p l e (rm_MM_keyword d) s m _ below meth c _ m_cls D A 6 477 [] (m_cw ad ca ky ty rt zz.2 M0 M1) [(0, .ref (ad 0)), (5, .int zz.1)]) (AX := fun qq => o_At p l e (rm_MM_keyword d) s m _ below meth c _ m_cls D A 6 503 [] (m_cw ad ca ky ty rt qq.2.2 M0 M1) []) (fun zz qq h h0 h1 => f_MM_keyword_b477 hE hKy C hDD d rec hrec n M0 rt M1 zz qq h h0 h1) n _ q3 hq3 ?_ _ _ _ hP hS (lv_sub hl [2, 0] rfl)
                              intro H locs ls hP hS hl
                              refine lv_goto (tgt := 518) hx hb d_MM_keyword_503 (by decide) ?_
                              cases h
                              exact o_rv C hP hS d_MM_keyword_518
                            · replace h := o_ff c16 h
                              refine lv_aload_n hx hb d_MM_keyword_457 rfl (lv_at hl 1 rfl) ?_
                              refine lv_iconst (v := (1:Int32)) hx hb d_MM_keyword_458 (by decide) ?_
                              refine lv_iload_n hx hb d_MM_keyword_459 rfl (lv_at hl 3 rfl) ?_
                              obtain ⟨q4, hq4, h⟩ := o_bd_some h
                              refine o_V (st1 := []) (w1 := (m_cw ad ca ky ty rt q4 M0 M1)) hE.1 C (e_MM_fault hE hKy l (1:Int32) x2 Mm M0 M1 rt hq4) hP (hDD _ _ _ _) hS hl.1 rfl mw_0 k_9_42 k_9_44 k_s_83 k_1_12 k_9_45 hv_MM_fault rfl rfl ⟨(by dsimp only [rm_MM_keyword, rm_MM_fault]; omega), (by dsimp only [rm_MM_keyword, rm_MM_fault]; omega)⟩ rfl (Nat.le_of_ble_eq_true rfl) ⟨Nat.zero_le _, Nat.zero_le _⟩ rfl d_MM_keyword_460 (fun H locs hP hS => ?_)
                              refine lv_goto (tgt := 518) hx hb d_MM_keyword_463 (by decide) ?_
                              cases h
                              exact o_rv C hP hS d_MM_keyword_518
                        · replace h := o_tt c13 h
                          refine lv_aload_n hx hb d_MM_keyword_436 rfl (lv_at hl 1 rfl) ?_
                          refine lv_iload_n hx hb d_MM_keyword_437 rfl (lv_at hl 3 rfl) ?_
                          obtain ⟨q5, hq5, h⟩ := o_bd_some h
                          refine o_V (st1 := []) (w1 := (m_cw ad ca ky ty rt q5 M0 M1)) hE.1 C (e_MM_strings hE hKy l n x2 M0 Mm M1 rt hq5) hP (hDD _ _ _ _) hS hl.1 rfl mw_0 k_9_175 k_9_177 k_s_110 k_1_12 k_9_178 hv_MM_strings rfl rfl ⟨(by dsimp only [rm_MM_keyword, rm_MM_strings]; omega), (by dsimp only [rm_MM_keyword, rm_MM_strings]; omega)⟩ rfl (Nat.le_of_ble_eq_true rfl) ⟨Nat.zero_le _, Nat.zero_le _⟩ rfl d_MM_keyword_438 (fun H locs hP hS => ?_)
                          refine lv_goto (tgt := 518) hx hb d_MM_keyword_441 (by decide) ?_
                          cases h
                          exact o_rv C hP hS d_MM_keyword_518
                      · replace h := o_tt c12 h
                        refine lv_iload hx hb d_MM_keyword_411 (lv_at hl 0 rfl) ?_
                        refine lv_iconst (v := (1:Int32)) hx hb d_MM_keyword_413 (by decide) ?_
                        refine lv_iconst (v := (2:Int32)) hx hb d_MM_keyword_414 (by decide) ?_
                        obtain ⟨q6, hq6, h⟩ := o_bd_some h
                        refine o_S (st1 := [.int q6]) (w1 := (m_cw ad ca ky ty rt Mm M0 M1)) hE.1 C (e_MM_in hE hKy l x4_9 (1:Int32) (2:Int32) Mm M0 M1 rt hq6) hP (hDD _ _ _ _) hS hl.1 k_9_41 k_8_201 k_1_12 k_8_202 hs_MM_in rfl rfl ⟨(by dsimp only [rm_MM_keyword, rm_MM_in]; omega), (by dsimp only [rm_MM_keyword, rm_MM_in]; omega)⟩ rfl (Nat.le_of_ble_eq_true rfl) ⟨Nat.zero_le _, Nat.zero_le _⟩ rfl d_MM_keyword_415 (fun H locs hP hS => ?_)
                        refine lv_if_ne (tgt := 518) hx hb d_MM_keyword_418 (by decide) (fun c20 => ?_) (fun c20 => ?_)
                        · replace h := o_ff c20 h
                          cases h
                          exact o_rv C hP hS d_MM_keyword_518
                        · replace h := o_tt c20 h
                          refine lv_aload_n hx hb d_MM_keyword_421 rfl (lv_at hl 1 rfl) ?_
                          refine lv_iconst (v := (1:Int32)) hx hb d_MM_keyword_422 (by decide) ?_
                          refine lv_iload_n hx hb d_MM_keyword_423 rfl (lv_at hl 3 rfl) ?_
                          obtain ⟨q7, hq7, h⟩ := o_bd_some h
                          refine o_V (st1 := []) (w1 := (m_cw ad ca ky ty rt q7 M0 M1)) hE.1 C (e_MM_fault hE hKy l (1:Int32) x2 Mm M0 M1 rt hq7) hP (hDD _ _ _ _) hS hl.1 rfl mw_0 k_9_42 k_9_44 k_s_83 k_1_12 k_9_45 hv_MM_fault rfl rfl ⟨(by dsimp only [rm_MM_keyword, rm_MM_fault]; omega), (by dsimp only [rm_MM_keyword, rm_MM_fault]; omega)⟩ rfl (Nat.le_of_ble_eq_true rfl) ⟨Nat.zero_le _, Nat.zero_le _⟩ rfl d_MM_keyword_424 (fun H locs hP hS => ?_)
                          refine lv_goto (tgt := 518) hx hb d_MM_keyword_427 (by decide) ?_
                          cases h
                          exact o_rv C hP hS d_MM_keyword_518
                    · replace h := o_tt c11 h
                      refine lv_iload hx hb d_MM_keyword_390 (lv_at hl 0 rfl) ?_
                      refine lv_iconst (v := (5:Int32)) hx hb d_MM_keyword_392 (by decide) ?_
                      refine lv_icmp_eq (tgt := 518) hx hb d_MM_keyword_393 (by decide) (fun c21 => ?_) (fun c21 => ?_)
                      · replace h := o_tt c21 h
                        cases h
                        exact o_rv C hP hS d_MM_keyword_518
                      · replace h := o_ff c21 h
                        refine lv_aload_n hx hb d_MM_keyword_396 rfl (lv_at hl 1 rfl) ?_
                        refine lv_iconst (v := (1:Int32)) hx hb d_MM_keyword_397 (by decide) ?_
                        refine lv_iload_n hx hb d_MM_keyword_398 rfl (lv_at hl 3 rfl) ?_
                        obtain ⟨q8, hq8, h⟩ := o_bd_some h
                        refine o_V (st1 := []) (w1 := (m_cw ad ca ky ty rt q8 M0 M1)) hE.1 C (e_MM_fault hE hKy l (1:Int32) x2 Mm M0 M1 rt hq8) hP (hDD _ _ _ _) hS hl.1 rfl mw_0 k_9_42 k_9_44 k_s_83 k_1_12 k_9_45 hv_MM_fault rfl rfl ⟨(by dsimp only [rm_MM_keyword, rm_MM_fault]; omega), (by dsimp only [rm_MM_keyword, rm_MM_fault]; omega)⟩ rfl (Nat.le_of_ble_eq_true rfl) ⟨Nat.zero_le _, Nat.zero_le _⟩ rfl d_MM_keyword_399 (fun H locs hP hS => ?_)
                        refine lv_goto (tgt := 518) hx hb d_MM_keyword_402 (by decide) ?_
                        cases h
                        exact o_rv C hP hS d_MM_keyword_518
                  · replace h := o_tt c10 h
                    refine lv_aload_n hx hb d_MM_keyword_376 rfl (lv_at hl 1 rfl) ?_
                    refine lv_iload_n hx hb d_MM_keyword_377 rfl (lv_at hl 3 rfl) ?_
                    obtain ⟨q9, hq9, h⟩ := o_bd_some h
                    refine o_V (st1 := []) (w1 := (m_cw ad ca ky ty rt q9 M0 M1)) hE.1 C (e_MM_type hE hKy l n x2 M0 Mm M1 rt hq9) hP (hDD _ _ _ _) hS hl.1 rfl mw_0 k_9_167 k_9_169 k_s_108 k_1_12 k_9_170 hv_MM_type rfl rfl ⟨(by dsimp only [rm_MM_keyword, rm_MM_type]; omega), (by dsimp only [rm_MM_keyword, rm_MM_type]; omega)⟩ rfl (Nat.le_of_ble_eq_true rfl) ⟨Nat.zero_le _, Nat.zero_le _⟩ rfl d_MM_keyword_378 (fun H locs hP hS => ?_)
                    refine lv_goto (tgt := 518) hx hb d_MM_keyword_381 (by decide) ?_
                    cases h
                    exact o_rv C hP hS d_MM_keyword_518
                · replace h := o_tt c9 h
                  refine lv_aload_n hx hb d_MM_keyword_361 rfl (lv_at hl 1 rfl) ?_
                  refine lv_iload_n hx hb d_MM_keyword_362 rfl (lv_at hl 3 rfl) ?_
                  refine lv_iload_n hx hb d_MM_keyword_363 rfl (lv_at hl 4 rfl) ?_
                  obtain ⟨q10, hq10, h⟩ := o_bd_some h
                  refine o_V (st1 := []) (w1 := (m_cw ad ca ky ty rt q10 M0 M1)) hE.1 C (e_MM_anchor hE hKy l n x2 x3 M0 Mm M1 rt hq10) hP (hDD _ _ _ _) hS hl.1 rfl mw_0 k_9_159 k_9_161 k_s_107 k_1_12 k_9_162 hv_MM_anchor rfl rfl ⟨(by dsimp only [rm_MM_keyword, rm_MM_anchor]; omega), (by dsimp only [rm_MM_keyword, rm_MM_anchor]; omega)⟩ rfl (Nat.le_of_ble_eq_true rfl) ⟨Nat.zero_le _, Nat.zero_le _⟩ rfl d_MM_keyword_364 (fun H locs hP hS => ?_)
                  refine lv_goto (tgt := 518) hx hb d_MM_keyword_367 (by decide) ?_
                  cases h
                  exact o_rv C hP hS d_MM_keyword_518
              · replace h := o_tt c8 h
                refine lv_iload hx hb d_MM_keyword_340 (lv_at hl 0 rfl) ?_
                refine lv_iconst (v := (4:Int32)) hx hb d_MM_keyword_342 (by decide) ?_
                refine lv_icmp_eq (tgt := 518) hx hb d_MM_keyword_343 (by decide) (fun c22 => ?_) (fun c22 => ?_)
                · replace h := o_tt c22 h
                  cases h
                  exact o_rv C hP hS d_MM_keyword_518
                · replace h := o_ff c22 h
                  refine lv_aload_n hx hb d_MM_keyword_346 rfl (lv_at hl 1 rfl) ?_
                  refine lv_iconst (v := (1:Int32)) hx hb d_MM_keyword_347 (by decide) ?_
                  refine lv_iload_n hx hb d_MM_keyword_348 rfl (lv_at hl 3 rfl) ?_
                  obtain ⟨q11, hq11, h⟩ := o_bd_some h
                  refine o_V (st1 := []) (w1 := (m_cw ad ca ky ty rt q11 M0 M1)) hE.1 C (e_MM_fault hE hKy l (1:Int32) x2 Mm M0 M1 rt hq11) hP (hDD _ _ _ _) hS hl.1 rfl mw_0 k_9_42 k_9_44 k_s_83 k_1_12 k_9_45 hv_MM_fault rfl rfl ⟨(by dsimp only [rm_MM_keyword, rm_MM_fault]; omega), (by dsimp only [rm_MM_keyword, rm_MM_fault]; omega)⟩ rfl (Nat.le_of_ble_eq_true rfl) ⟨Nat.zero_le _, Nat.zero_le _⟩ rfl d_MM_keyword_349 (fun H locs hP hS => ?_)
                  refine lv_goto (tgt := 518) hx hb d_MM_keyword_352 (by decide) ?_
                  cases h
                  exact o_rv C hP hS d_MM_keyword_518
            · replace h := o_tt c7 h
              refine lv_iload hx hb d_MM_keyword_298 (lv_at hl 0 rfl) ?_
              refine lv_iconst (v := (4:Int32)) hx hb d_MM_keyword_300 (by decide) ?_
              refine lv_icmp_eq (tgt := 313) hx hb d_MM_keyword_301 (by decide) (fun c23 => ?_) (fun c23 => ?_)
              · replace h := o_tt c23 h
                refine lv_aload_n hx hb d_MM_keyword_313 rfl (lv_at hl 1 rfl) ?_
                refine lv_aload_n hx hb d_MM_keyword_314 rfl (lv_at hl 1 rfl) ?_
                refine o_get (v := .ref (ad 33)) C in_MM hP 0 mw_0 rfl 4 (by decide) k_7_234 rfl rfl d_MM_keyword_315 ?_
                refine lv_iload_n hx hb d_MM_keyword_318 rfl (lv_at hl 3 rfl) ?_
                obtain ⟨q12, hq12, h⟩ := o_bd_some h
                refine o_V (st1 := [.int q12.1]) (w1 := (m_cw ad ca ky ty 33 q12.2 M0 M1)) hE.1 C (e_MM_isPattern_a hE hKy l n x2 M0 Mm M1 rt hq12) hP (hDD _ _ _ _) hS hl.1 rfl mw_0 k_9_54 k_9_56 k_s_85 k_1_12 k_9_57 hv_MM_isPattern rfl rfl ⟨(by dsimp only [rm_MM_keyword, rm_MM_isPattern]; omega), (by dsimp only [rm_MM_keyword, rm_MM_isPattern]; omega)⟩ rfl (Nat.le_of_ble_eq_true rfl) ⟨Nat.zero_le _, Nat.zero_le _⟩ rfl d_MM_keyword_319 (fun H locs hP hS => ?_)
                refine lv_if_ne (tgt := 518) hx hb d_MM_keyword_322 (by decide) (fun c24 => ?_) (fun c24 => ?_)
                · replace h := o_ff c24 h
                  cases h
                  exact o_rv C hP hS d_MM_keyword_518
                · replace h := o_tt c24 h
                  refine lv_aload_n hx hb d_MM_keyword_325 rfl (lv_at hl 1 rfl) ?_
                  refine lv_iconst (v := (4:Int32)) hx hb d_MM_keyword_326 (by decide) ?_
                  refine lv_iload_n hx hb d_MM_keyword_327 rfl (lv_at hl 3 rfl) ?_
                  obtain ⟨q13, hq13, h⟩ := o_bd_some h
                  refine o_V (st1 := []) (w1 := (m_cw ad ca ky ty 33 q13 M0 M1)) hE.1 C (e_MM_fault hE hKy l (4:Int32) x2 q12.2 M0 M1 33 hq13) hP (hDD _ _ _ _) hS hl.1 rfl mw_0 k_9_42 k_9_44 k_s_83 k_1_12 k_9_45 hv_MM_fault rfl rfl ⟨(by dsimp only [rm_MM_keyword, rm_MM_fault]; omega), (by dsimp only [rm_MM_keyword, rm_MM_fault]; omega)⟩ rfl (Nat.le_of_ble_eq_true rfl) ⟨Nat.zero_le _, Nat.zero_le _⟩ rfl d_MM_keyword_328 (fun H locs hP hS => ?_)
                  refine lv_goto (tgt := 518) hx hb d_MM_keyword_331 (by decide) ?_
                  cases h
                  exact o_rv C hP hS d_MM_keyword_518
              · replace h := o_ff c23 h
                refine lv_aload_n hx hb d_MM_keyword_304 rfl (lv_at hl 1 rfl) ?_
                refine lv_iconst (v := (1:Int32)) hx hb d_MM_keyword_305 (by decide) ?_
                refine lv_iload_n hx hb d_MM_keyword_306 rfl (lv_at hl 3 rfl) ?_
                obtain ⟨q14, hq14, h⟩ := o_bd_some h
                refine o_V (st1 := []) (w1 := (m_cw ad ca ky ty rt q14 M0 M1)) hE.1 C (e_MM_fault hE hKy l (1:Int32) x2 Mm M0 M1 rt hq14) hP (hDD _ _ _ _) hS hl.1 rfl mw_0 k_9_42 k_9_44 k_s_83 k_1_12 k_9_45 hv_MM_fault rfl rfl ⟨(by dsimp only [rm_MM_keyword, rm_MM_fault]; omega), (by dsimp only [rm_MM_keyword, rm_MM_fault]; omega)⟩ rfl (Nat.le_of_ble_eq_true rfl) ⟨Nat.zero_le _, Nat.zero_le _⟩ rfl d_MM_keyword_307 (fun H locs hP hS => ?_)
                refine lv_goto (tgt := 518) hx hb d_MM_keyword_310 (by decide) ?_
                cases h
                exact o_rv C hP hS d_MM_keyword_518
          · replace h := o_ff c6 h
            refine lv_aload_n hx hb d_MM_keyword_249 rfl (lv_at hl 1 rfl) ?_
            refine o_get (v := .ref (ad 33)) C in_MM hP 0 mw_0 rfl 4 (by decide) k_7_234 rfl rfl d_MM_keyword_250 ?_
            refine lv_iload_n hx hb d_MM_keyword_253 rfl (lv_at hl 3 rfl) ?_
            obtain ⟨q15, hq15, h⟩ := o_bd_some h
            refine o_V (st1 := [.int q15]) (w1 := (m_cw ad ca ky ty rt Mm M0 M1)) hE.1 C (e_MT_isWhole_a hE hKy l x2 M0 Mm M1 rt hq15) hP (hDD _ _ _ _) hS hl.1 rfl mw_33 k_9_149 k_9_150 k_9_151 k_1_13 k_9_152 hv_MT_isWhole rfl rfl ⟨(by dsimp only [rm_MM_keyword, rm_MT_isWhole]; omega), (by dsimp only [rm_MM_keyword, rm_MT_isWhole]; omega)⟩ rfl (Nat.le_of_ble_eq_true rfl) ⟨Nat.zero_le _, Nat.zero_le _⟩ rfl d_MM_keyword_254 (fun H locs hP hS => ?_)
            refine lv_if_eq (tgt := 283) hx hb d_MM_keyword_257 (by decide) (fun c25 => ?_) (fun c25 => ?_)
            · replace h := o_tt c25 h
              exact f_MM_keyword_j283 hE hKy C hDD d rec hrec n x2 M0 Mm rt M1 h _ _ _ hP hS (lv_sub hl [1, 3] rfl)
            · replace h := o_ff c25 h
              refine lv_aload_n hx hb d_MM_keyword_260 rfl (lv_at hl 1 rfl) ?_
              refine o_get (v := .ref (ad 33)) C in_MM hP 0 mw_0 rfl 4 (by decide) k_7_234 rfl rfl d_MM_keyword_261 ?_
              refine o_get (v := .ref (ad 46)) C in_MT hP 33 mw_33 rfl 12 (by decide) k_7_125 rfl rfl d_MM_keyword_264 ?_
              refine lv_iload_n hx hb d_MM_keyword_267 rfl (lv_at hl 3 rfl) ?_
              obtain ⟨g26, h⟩ := o_gd_some h
              refine o_zald (f := (MT_minus M0)) C hP 46 44 mw_46 rfl g26 d_MM_keyword_268 ?_
              refine lv_if_ne (tgt := 283) hx hb d_MM_keyword_269 (by decide) (fun c27 => ?_) (fun c27 => ?_)
              · replace h := o_ff c27 h
                exact f_MM_keyword_j283 hE hKy C hDD d rec hrec n x2 M0 Mm rt M1 h _ _ _ hP hS (lv_sub hl [1, 3] rfl)
              · replace h := o_tt c27 h
                refine lv_aload_n hx hb d_MM_keyword_272 rfl (lv_at hl 1 rfl) ?_
                refine lv_iload_n hx hb d_MM_keyword_273 rfl (lv_at hl 3 rfl) ?_
                obtain ⟨q17, hq17, h⟩ := o_bd_some h
                refine o_V (st1 := [.int q17]) (w1 := (m_cw ad ca ky ty rt Mm M0 M1)) hE.1 C (e_MM_intOf hE hKy l n x2 M0 Mm M1 rt hq17) hP (hDD _ _ _ _) hS hl.1 rfl mw_0 k_9_153 k_9_155 k_s_106 k_1_12 k_9_156 hv_MM_intOf rfl rfl ⟨(by dsimp only [rm_MM_keyword, rm_MM_intOf]; omega), (by dsimp only [rm_MM_keyword, rm_MM_intOf]; omega)⟩ rfl (Nat.le_of_ble_eq_true rfl) ⟨Nat.zero_le _, Nat.zero_le _⟩ rfl d_MM_keyword_274 (fun H locs hP hS => ?_)
                refine lv_ldcw (v := (1000000:Int32)) hx hb hown (hts _ k_9_158) d_MM_keyword_277 ?_
                refine lv_icmp_le (tgt := 518) hx hb d_MM_keyword_280 (by decide) (fun c28 => ?_) (fun c28 => ?_)
                · replace h := o_tt c28 h
                  cases h
                  exact o_rv C hP hS d_MM_keyword_518
                · replace h := o_ff c28 h
                  exact f_MM_keyword_j283 hE hKy C hDD d rec hrec n x2 M0 Mm rt M1 h _ _ _ hP hS (lv_sub hl [1, 3] rfl)
        · replace h := o_ff c5 h
          refine lv_iload hx hb d_MM_keyword_198 (lv_at hl 0 rfl) ?_
          refine lv_iconst (v := (3:Int32)) hx hb d_MM_keyword_200 (by decide) ?_
          refine lv_icmp_ne (tgt := 234) hx hb d_MM_keyword_201 (by decide) (fun c29 => ?_) (fun c29 => ?_)
          · replace h := o_ff c29 h
            exact f_MM_keyword_j234 hE hKy C hDD d rec hrec n x2 M0 Mm rt M1 h _ _ _ hP hS (lv_sub hl [1, 3] rfl)
          · replace h := o_tt c29 h
            refine lv_iload_n hx hb d_MM_keyword_204 rfl (lv_at hl 2 rfl) ?_
            refine lv_bipush (v := (22:Int32)) hx hb d_MM_keyword_205 (by decide) ?_
            refine lv_icmp_ne (tgt := 518) hx hb d_MM_keyword_207 (by decide) (fun c30 => ?_) (fun c30 => ?_)
            · replace h := o_ff c30 h
              cases h
              exact o_rv C hP hS d_MM_keyword_518
            · replace h := o_tt c30 h
              refine lv_aload_n hx hb d_MM_keyword_210 rfl (lv_at hl 1 rfl) ?_
              refine o_get (v := .ref (ad 33)) C in_MM hP 0 mw_0 rfl 4 (by decide) k_7_234 rfl rfl d_MM_keyword_211 ?_
              refine o_get (v := .ref (ad 37)) C in_MT hP 33 mw_33 rfl 3 (by decide) k_7_107 rfl rfl d_MM_keyword_214 ?_
              refine lv_iload_n hx hb d_MM_keyword_217 rfl (lv_at hl 3 rfl) ?_
              obtain ⟨g31, h⟩ := o_gd_some h
              refine o_iald (f := (MT_many M0)) C hP 37 35 mw_37 rfl g31 d_MM_keyword_218 ?_
              refine lv_if_eq (tgt := 234) hx hb d_MM_keyword_219 (by decide) (fun c32 => ?_) (fun c32 => ?_)
              · replace h := o_tt c32 h
                exact f_MM_keyword_j234 hE hKy C hDD d rec hrec n x2 M0 Mm rt M1 h _ _ _ hP hS (lv_sub hl [1, 3] rfl)
              · replace h := o_ff c32 h
                refine lv_aload_n hx hb d_MM_keyword_222 rfl (lv_at hl 1 rfl) ?_
                refine o_get (v := .ref (ad 33)) C in_MM hP 0 mw_0 rfl 4 (by decide) k_7_234 rfl rfl d_MM_keyword_223 ?_
                refine o_get (v := .ref (ad 46)) C in_MT hP 33 mw_33 rfl 12 (by decide) k_7_125 rfl rfl d_MM_keyword_226 ?_
                refine lv_iload_n hx hb d_MM_keyword_229 rfl (lv_at hl 3 rfl) ?_
                obtain ⟨g33, h⟩ := o_gd_some h
                refine o_zald (f := (MT_minus M0)) C hP 46 44 mw_46 rfl g33 d_MM_keyword_230 ?_
                refine lv_if_eq (tgt := 518) hx hb d_MM_keyword_231 (by decide) (fun c34 => ?_) (fun c34 => ?_)
                · replace h := o_tt c34 h
                  cases h
                  exact o_rv C hP hS d_MM_keyword_518
                · replace h := o_ff c34 h
                  exact f_MM_keyword_j234 hE hKy C hDD d rec hrec n x2 M0 Mm rt M1 h _ _ _ hP hS (lv_sub hl [1, 3] rfl)
      · replace h := o_ff c4 h
        refine lv_iload hx hb d_MM_keyword_104 (lv_at hl 0 rfl) ?_
        refine lv_bipush (v := (6:Int32)) hx hb d_MM_keyword_106 (by decide) ?_
        refine lv_icmp_eq (tgt := 118) hx hb d_MM_keyword_108 (by decide) (fun c35 => ?_) (fun c35 => ?_)
        · replace h := o_tt c35 h
          refine lv_aload_n hx hb d_MM_keyword_118 rfl (lv_at hl 1 rfl) ?_
          refine o_get (v := .ref (ad 33)) C in_MM hP 0 mw_0 rfl 4 (by decide) k_7_234 rfl rfl d_MM_keyword_119 ?_
          refine o_get (v := .ref (ad 40)) C in_MT hP 33 mw_33 rfl 6 (by decide) k_7_113 rfl rfl d_MM_keyword_122 ?_
          refine lv_iload_n hx hb d_MM_keyword_125 rfl (lv_at hl 3 rfl) ?_
          obtain ⟨g36, h⟩ := o_gd_some h
          refine o_iald (f := (MT_first M0)) C hP 40 38 mw_40 rfl g36 d_MM_keyword_126 ?_
          refine lv_topi (fun x5_127 ex5_127 => ?_)
          replace h := o_nm_at ex5_127 h
          refine lv_istore (lv' := [(5, .int x5_127), (4, .int x4_9), (0, .ref (ad 0)), (1, .int x1), (2, .int x2), (3, .int x3)]) hx hb d_MM_keyword_127 hl (by decide) rfl (fun ls hl => ?_)
          obtain ⟨q22, hq22, h⟩ := o_bd_some h
          refine o_sim2 (AH := fun zz => o_At p l e (rm_MM_keyword d) s m _ below meth c _ m_cls D A 6 129 [] (m_cw ad ca ky ty zz.2.2 zz.2.1 M0 M1) [(0, .ref (ad 0)), (1, .int x1), (5, .int zz.1)]) (AX := fun qq => o_At p l e (rm_MM_keyword d) s m _ below meth c _ m_cls D A 6 189 [] (m_cw ad ca ky ty qq.2.2.2 qq.2.2.1 M0 M1) []) (fun zz qq h h0 h1 => f_MM_keyword_b129 hE hKy C hDD d rec hrec n x1 M0 M1 zz qq h h0 h1) n _ q22 hq22 ?_ _ _ _ hP hS (lv_sub hl [2, 3, 0] rfl)
          intro H locs ls hP hS hl
          refine lv_goto (tgt := 518) hx hb d_MM_keyword_189 (by decide) ?_
          cases h
          exact o_rv C hP hS d_MM_keyword_518
        · replace h := o_ff c35 h
          refine lv_aload_n hx hb d_MM_keyword_111 rfl (lv_at hl 1 rfl) ?_
          refine lv_iconst (v := (1:Int32)) hx hb d_MM_keyword_112 (by decide) ?_
          refine lv_iload_n hx hb d_MM_keyword_113 rfl (lv_at hl 3 rfl) ?_
          obtain ⟨q23, hq23, h⟩ := o_bd_some h
          refine o_V (st1 := []) (w1 := (m_cw ad ca ky ty rt q23 M0 M1)) hE.1 C (e_MM_fault hE hKy l (1:Int32) x2 Mm M0 M1 rt hq23) hP (hDD _ _ _ _) hS hl.1 rfl mw_0 k_9_42 k_9_44 k_s_83 k_1_12 k_9_45 hv_MM_fault rfl rfl ⟨(by dsimp only [rm_MM_keyword, rm_MM_fault]; omega), (by dsimp only [rm_MM_keyword, rm_MM_fault]; omega)⟩ rfl (Nat.le_of_ble_eq_true rfl) ⟨Nat.zero_le _, Nat.zero_le _⟩ rfl d_MM_keyword_114 (fun H locs hP hS => ?_)
          cases h
          exact o_rv C hP hS d_MM_keyword_117
    · replace h := o_ff c3 h
      refine lv_iload hx hb d_MM_keyword_31 (lv_at hl 0 rfl) ?_
      refine lv_iconst (v := (5:Int32)) hx hb d_MM_keyword_33 (by decide) ?_
      refine lv_icmp_ne (tgt := 49) hx hb d_MM_keyword_34 (by decide) (fun c42 => ?_) (fun c42 => ?_)
      · replace h := o_ff c42 h
        exact f_MM_keyword_j49 hE hKy C hDD d rec hrec n x2 M0 Mm rt M1 h _ _ _ hP hS (lv_sub hl [1, 3] rfl)
      · replace h := o_tt c42 h
        refine lv_aload_n hx hb d_MM_keyword_37 rfl (lv_at hl 1 rfl) ?_
        refine o_get (v := .ref (ad 33)) C in_MM hP 0 mw_0 rfl 4 (by decide) k_7_234 rfl rfl d_MM_keyword_38 ?_
        refine o_get (v := .ref (ad 37)) C in_MT hP 33 mw_33 rfl 3 (by decide) k_7_107 rfl rfl d_MM_keyword_41 ?_
        refine lv_iload_n hx hb d_MM_keyword_44 rfl (lv_at hl 3 rfl) ?_
        obtain ⟨g43, h⟩ := o_gd_some h
        refine o_iald (f := (MT_many M0)) C hP 37 35 mw_37 rfl g43 d_MM_keyword_45 ?_
        refine lv_if_ne (tgt := 58) hx hb d_MM_keyword_46 (by decide) (fun c44 => ?_) (fun c44 => ?_)
        · replace h := o_ff c44 h
          refine lv_aload_n hx hb d_MM_keyword_58 rfl (lv_at hl 1 rfl) ?_
          refine o_get (v := .ref (ad 33)) C in_MM hP 0 mw_0 rfl 4 (by decide) k_7_234 rfl rfl d_MM_keyword_59 ?_
          refine o_get (v := .ref (ad 40)) C in_MT hP 33 mw_33 rfl 6 (by decide) k_7_113 rfl rfl d_MM_keyword_62 ?_
          refine lv_iload_n hx hb d_MM_keyword_65 rfl (lv_at hl 3 rfl) ?_
          obtain ⟨g45, h⟩ := o_gd_some h
          refine o_iald (f := (MT_first M0)) C hP 40 38 mw_40 rfl g45 d_MM_keyword_66 ?_
          refine lv_topi (fun x5_67 ex5_67 => ?_)
          replace h := o_nm_at ex5_67 h
          refine lv_istore (lv' := [(5, .int x5_67), (4, .int x4_9), (0, .ref (ad 0)), (1, .int x1), (2, .int x2), (3, .int x3)]) hx hb d_MM_keyword_67 hl (by decide) rfl (fun ls hl => ?_)
          obtain ⟨q26, hq26, h⟩ := o_bd_some h
          refine o_sim2 (AH := fun zz => o_At p l e (rm_MM_keyword d) s m _ below meth c _ m_cls D A 6 69 [] (m_cw ad ca ky ty zz.2.2 zz.2.1 M0 M1) [(0, .ref (ad 0)), (5, .int zz.1)]) (AX := fun qq => o_At p l e (rm_MM_keyword d) s m _ below meth c _ m_cls D A 6 95 [] (m_cw ad ca ky ty qq.2.2.2 qq.2.2.1 M0 M1) []) (fun zz qq h h0 h1 => f_MM_keyword_b69 hE hKy C hDD d rec hrec n M0 M1 zz qq h h0 h1) n _ q26 hq26 ?_ _ _ _ hP hS (lv_sub hl [2, 0] rfl)
          intro H locs ls hP hS hl
          refine lv_goto (tgt := 518) hx hb d_MM_keyword_95 (by decide) ?_
          cases h
          exact o_rv C hP hS d_MM_keyword_518
        · replace h := o_tt c44 h
          exact f_MM_keyword_j49 hE hKy C hDD d rec hrec n x2 M0 Mm rt M1 h _ _ _ hP hS (lv_sub hl [1, 3] rfl)
  · replace h := o_ff c2 h
    refine lv_aload_n hx hb d_MM_keyword_17 rfl (lv_at hl 1 rfl) ?_
    refine lv_iload_n hx hb d_MM_keyword_18 rfl (lv_at hl 3 rfl) ?_
    obtain ⟨q27, hq27, h⟩ := o_bd_some h
    refine o_V (st1 := []) (w1 := (m_cw ad ca ky ty q27.2 q27.1 M0 M1)) hE.1 C (hrec x2 M0 Mm rt M1 _ hq27) hP (hDD _ _ _ _) hS hl.1 rfl mw_0 k_9_37 k_9_39 k_s_82 k_1_12 k_9_40 hv_MM_visit rfl rfl ⟨(by dsimp only [rm_MM_keyword, rm_MM_visit]; omega), (by dsimp only [rm_MM_keyword, rm_MM_visit]; omega)⟩ rfl (Nat.le_of_ble_eq_true rfl) ⟨Nat.zero_le _, Nat.zero_le _⟩ rfl d_MM_keyword_19 (fun H locs hP hS => ?_)
    refine lv_goto (tgt := 518) hx hb d_MM_keyword_22 (by decide) ?_
    cases h
    exact o_rv C hP hS d_MM_keyword_518
set_option maxHeartbeats 4000000 in
set_option maxRecDepth 100000 in
theorem f_MM_visit_b75 {E : (Nat → Prop) → State → Heap → Prop} {p : Program} {l : Launch} {e : Env} {s : State} {m : MethodId} {args : Array Value} {below : List Frame} {meth : Method} {c : Code} {D : va_G} {ad kd sd vd xd : Nat → Nat} {ca : Nat → ClassId} {A : Nat → Prop} {ky ty : Nat → Option Nat} {Q : State → Prop} (hE : o_EK E kd sd vd xd) (hKy : m_KY ky ty sd) (C : o_Cx E p s m args meth c D m_cls (m_tys ca) "SchemaJudgeModel" b_MM_visit none 4 cc_MM_visit A) (hDD : ∀ (rt : Nat) (Mm : SMM) (M0 : SMT) (M1 : SMT), va_D A (m_cw ad ca ky ty rt Mm M0 M1)) (d : Nat) (rec : Int32 → SMT → SMM → Nat → Option (SMM × Nat)) (hrec : ∀ (x1 : Int32) (M0 : SMT) (Mm : SMM) (rt : Nat) (M1 : SMT) (r : SMM × Nat), rec x1 M0 Mm rt = some r → o_Cn E l D m_cls (m_tys ca) y_MM_visit cc_MM_visit (rm_MM_visit d) [.ref (ad 0), .int x1] (m_cw ad ca ky ty rt Mm M0 M1) (m_cw ad ca ky ty r.2 r.1 M0 M1) none) (n : Nat) (u75_x1 : Int32) (u75_x2 : Int32) (u75_M0 : SMT) (u75_rt : Nat) (u75_M1 : SMT) (z : Int32 × SMM) (q : Nat × Int32 × SMM) (h : m_MM_visit_b75 n rec u75_x1 u75_x2 u75_M0 u75_rt z = some q) (h0 : q.1 = 0 → o_At p l e (rm_MM_visit (d + 1)) s m args below meth c Q m_cls D A 4 75 [] (m_cw ad ca ky ty u75_rt q.2.2 u75_M0 u75_M1) [(0, .ref (ad 0)), (1, .int u75_x1), (2, .int u75_x2), (3, .int q.2.1)]) (h1 : q.1 ≠ 0 → (o_At p l e (rm_MM_visit (d + 1)) s m args below meth c Q m_cls D A 4 122 [] (m_cw ad ca ky ty u75_rt q.2.2 u75_M0 u75_M1) [(0, .ref (ad 0)), (1, .int u75_x1), (2, .int u75_x2)])) : o_At p l e (rm_MM_visit (d + 1)) s m args below meth c Q m_cls D A 4 75 [] (m_cw ad ca ky ty u75_rt z.2 u75_M0 u75_M1) [(0, .ref (ad 0)), (1, .int u75_x1), (2, .int u75_x2), (3, .int z.1)] := by
  unfold m_MM_visit_b75 at h
  intro H locs ls hP hS hl
  have C0 := C
  obtain ⟨hx, hb, -, -, -, hown, hts, hK, -, -⟩ := C0
  refine lv_iload_n hx hb d_MM_visit_75 rfl (lv_at hl 3 rfl) ?_
  refine lv_aload_n hx hb d_MM_visit_76 rfl (lv_at hl 0 rfl) ?_
  refine o_get (v := .ref (ad 19)) C in_MM hP 0 mw_0 rfl 33 (by decide) k_8_23 rfl rfl d_MM_visit_77 ?_
  refine va_alen (v := (44:Int32)) hx hb hK hP 19 18 mw_19 rfl rfl d_MM_visit_80 ?_
  refine lv_icmp_ge (tgt := 122) hx hb d_MM_visit_81 (by decide) (fun c8 => ?_) (fun c8 => ?_)
  · replace h := o_tt c8 h
    cases h
    exact h1 (Nat.succ_ne_zero 0) _ _ _ hP hS (lv_sub hl [0, 1, 2] rfl)
  · replace h := o_ff c8 h
    refine lv_aload_n hx hb d_MM_visit_84 rfl (lv_at hl 0 rfl) ?_
    refine o_get (v := .ref (ad 33)) C in_MM hP 0 mw_0 rfl 4 (by decide) k_7_234 rfl rfl d_MM_visit_85 ?_
    refine lv_aload_n hx hb d_MM_visit_88 rfl (lv_at hl 0 rfl) ?_
    refine o_get (v := .ref (ad 33)) C in_MM hP 0 mw_0 rfl 4 (by decide) k_7_234 rfl rfl d_MM_visit_89 ?_
    refine o_get (v := .ref (ad 42)) C in_MT hP 33 mw_33 rfl 8 (by decide) k_7_117 rfl rfl d_MM_visit_92 ?_
    refine lv_iload_n hx hb d_MM_visit_95 rfl (lv_at hl 2 rfl) ?_
    obtain ⟨g9, h⟩ := o_gd_some h
    refine o_iald (f := (MT_name u75_M0)) C hP 42 40 mw_42 rfl g9 d_MM_visit_96 ?_
    refine lv_aload_n hx hb d_MM_visit_97 rfl (lv_at hl 0 rfl) ?_
    refine o_get (v := .ref (ad 19)) C in_MM hP 0 mw_0 rfl 33 (by decide) k_8_23 rfl rfl d_MM_visit_98 ?_
    refine lv_iload_n hx hb d_MM_visit_101 rfl (lv_at hl 3 rfl) ?_
    obtain ⟨g10, h⟩ := o_gd_some h
    refine o_aldS C hP 19 18 mw_19 rfl g10 (hKy.1 _ g10) d_MM_visit_102 ?_
    obtain ⟨q2, hq2, h⟩ := o_bd_some h
    refine o_V (st1 := [.int q2]) (w1 := (m_cw ad ca ky ty u75_rt z.2 u75_M0 u75_M1)) hE.1 C (e_MT_is_a hE hKy l n ((MT_name u75_M0) u75_x2.toNatClampNeg) (mk_keys z.1.toNatClampNeg) (mk_keys_sb g10) u75_M0 z.2 u75_M1 u75_rt hq2) hP (hDD _ _ _ _) hS hl.1 rfl mw_33 k_9_46 k_9_47 k_9_48 k_1_13 k_9_49 hv_MT_is rfl rfl ⟨(by dsimp only [rm_MM_visit, rm_MT_is]; omega), (by dsimp only [rm_MM_visit, rm_MT_is]; omega)⟩ rfl (Nat.le_of_ble_eq_true rfl) ⟨Nat.zero_le _, Nat.zero_le _⟩ rfl d_MM_visit_103 (fun H locs hP hS => ?_)
    refine lv_if_eq (tgt := 116) hx hb d_MM_visit_106 (by decide) (fun c11 => ?_) (fun c11 => ?_)
    · replace h := o_tt c11 h
      obtain ⟨x3_116, ex3_116⟩ : ∃ y : Int32, y = z.1 + (1:Int32) := ⟨_, rfl⟩
      replace h := o_nm_at ex3_116 h
      refine lv_iinc (v := x3_116) (lv' := [(3, .int x3_116), (0, .ref (ad 0)), (1, .int u75_x1), (2, .int u75_x2)]) hx hb d_MM_visit_116 hl (k := 3) rfl (by rw [ex3_116]; rfl) (by decide) rfl (fun ls hl => ?_)
      refine lv_goto (tgt := 75) hx hb d_MM_visit_119 (by decide) ?_
      cases h
      exact h0 rfl _ _ _ hP hS (lv_sub hl [1, 2, 3, 0] rfl)
    · replace h := o_ff c11 h
      refine lv_aload_n hx hb d_MM_visit_109 rfl (lv_at hl 0 rfl) ?_
      refine o_get (v := .ref (ad 21)) C in_MM hP 0 mw_0 rfl 40 (by decide) k_8_30 rfl rfl d_MM_visit_110 ?_
      refine lv_iload_n hx hb d_MM_visit_113 rfl (lv_at hl 2 rfl) ?_
      refine lv_iload_n hx hb d_MM_visit_114 rfl (lv_at hl 3 rfl) ?_
      obtain ⟨g12, h⟩ := o_gd_some h
      refine o_iast (f := (MM_key z.2)) (w1 := (m_cw ad ca ky ty u75_rt (MM_mk (MM_err z.2) (MM_fed z.2) (MM_wrong z.2) (MM_octets z.2) (MM_nodeKind z.2) (MM_nodeA z.2) (MM_nodeB z.2) (MM_nodeC z.2) (MM_nodeNext z.2) (MM_low z.2) (MM_high z.2) (MM_setFrom z.2) (MM_setTo z.2) (MM_setNot z.2) (MM_op z.2) (MM_opA z.2) (MM_opB z.2) (MM_mark z.2) (MM_now z.2) (MM_then z.2) (MM_todo z.2) (MM_nodes z.2) (MM_sets z.2) (MM_ranges z.2) (MM_steps z.2) (MM_pat z.2) (MM_patEnd z.2) (MM_round z.2) (MM_many1 z.2) (MM_broken z.2) (MM_checked z.2) (MM_faultKind z.2) (MM_faultValue z.2) (MM_latestFault z.2) (MM_anchors z.2) (upd (MM_key z.2) u75_x2.toNatClampNeg z.1) (MM_target z.2) (MM_anchorValue z.2) (MM_anchorSchema z.2) (MM_path z.2) (MM_route z.2) (MM_isSchema z.2) (MM_seen1 z.2) (MM_pathSize z.2) (MM_octetRow z.2) (MM_partRow z.2) (MM_pairValue z.2) (MM_pairKey z.2) (MM_pairs z.2) (MM_judged z.2) (MM_deepest z.2) (MM_depth z.2) (MM_over z.2) (MM_seen z.2)) u75_M0 u75_M1)) C hP (hDD _ _ _ _) hS 21 20 mw_21 rfl g12 rfl d_MM_visit_115 (fun H locs hP hS => ?_)
      obtain ⟨x3_116, ex3_116⟩ : ∃ y : Int32, y = z.1 + (1:Int32) := ⟨_, rfl⟩
      replace h := o_nm_at ex3_116 h
      refine lv_iinc (v := x3_116) (lv' := [(3, .int x3_116), (0, .ref (ad 0)), (1, .int u75_x1), (2, .int u75_x2)]) hx hb d_MM_visit_116 hl (k := 3) rfl (by rw [ex3_116]; rfl) (by decide) rfl (fun ls hl => ?_)
      refine lv_goto (tgt := 75) hx hb d_MM_visit_119 (by decide) ?_
      cases h
      exact h0 rfl _ _ _ hP hS (lv_sub hl [1, 2, 3, 0] rfl)
set_option maxHeartbeats 4000000 in
set_option maxRecDepth 100000 in
theorem f_MM_visit_j143 {E : (Nat → Prop) → State → Heap → Prop} {p : Program} {l : Launch} {e : Env} {s : State} {m : MethodId} {args : Array Value} {below : List Frame} {meth : Method} {c : Code} {D : va_G} {ad kd sd vd xd : Nat → Nat} {ca : Nat → ClassId} {A : Nat → Prop} {ky ty : Nat → Option Nat} {Q : State → Prop} (hE : o_EK E kd sd vd xd) (hKy : m_KY ky ty sd) (C : o_Cx E p s m args meth c D m_cls (m_tys ca) "SchemaJudgeModel" b_MM_visit none 4 cc_MM_visit A) (hDD : ∀ (rt : Nat) (Mm : SMM) (M0 : SMT) (M1 : SMT), va_D A (m_cw ad ca ky ty rt Mm M0 M1)) (d : Nat) (rec : Int32 → SMT → SMM → Nat → Option (SMM × Nat)) (hrec : ∀ (x1 : Int32) (M0 : SMT) (Mm : SMM) (rt : Nat) (M1 : SMT) (r : SMM × Nat), rec x1 M0 Mm rt = some r → o_Cn E l D m_cls (m_tys ca) y_MM_visit cc_MM_visit (rm_MM_visit d) [.ref (ad 0), .int x1] (m_cw ad ca ky ty rt Mm M0 M1) (m_cw ad ca ky ty r.2 r.1 M0 M1) none) (n : Nat) (u55_x1 : Int32) (u55_M0 : SMT) (u55_M1 : SMT) (x2 : Int32) (Mm : SMM) (rt : Nat) {q : Nat × Int32 × SMM × Nat} (h : m_MM_visit_j143 n rec u55_x1 x2 u55_M0 Mm rt = some q) (h0 : q.1 = 0 → o_At p l e (rm_MM_visit (d + 1)) s m args below meth c Q m_cls D A 4 55 [] (m_cw ad ca ky ty q.2.2.2 q.2.2.1 u55_M0 u55_M1) [(0, .ref (ad 0)), (1, .int u55_x1), (2, .int q.2.1)]) (h1 : q.1 ≠ 0 → (o_At p l e (rm_MM_visit (d + 1)) s m args below meth c Q m_cls D A 4 156 [] (m_cw ad ca ky ty q.2.2.2 q.2.2.1 u55_M0 u55_M1) [])) : o_At p l e (rm_MM_visit (d + 1)) s m args below meth c Q m_cls D A 4 143 [] (m_cw ad ca ky ty rt Mm u55_M0 u55_M1) [(0, .ref (ad 0)), (1, .int u55_x1), (2, .int x2)] := by
  unfold m_MM_visit_j143 at h
  intro H locs ls hP hS hl
  have C0 := C
  obtain ⟨hx, hb, -, -, -, hown, hts, hK, -, -⟩ := C0
  refine lv_aload_n hx hb d_MM_visit_143 rfl (lv_at hl 0 rfl) ?_
  refine o_get (v := .ref (ad 33)) C in_MM hP 0 mw_0 rfl 4 (by decide) k_7_234 rfl rfl d_MM_visit_144 ?_
  refine o_get (v := .ref (ad 41)) C in_MT hP 33 mw_33 rfl 7 (by decide) k_7_115 rfl rfl d_MM_visit_147 ?_
  refine lv_iload_n hx hb d_MM_visit_150 rfl (lv_at hl 2 rfl) ?_
  obtain ⟨g15, h⟩ := o_gd_some h
  refine o_iald (f := (MT_next u55_M0)) C hP 41 39 mw_41 rfl g15 d_MM_visit_151 ?_
  refine lv_topi (fun x2_152 ex2_152 => ?_)
  replace h := o_nm_at ex2_152 h
  refine lv_istore_n (lv' := [(2, .int x2_152), (0, .ref (ad 0)), (1, .int u55_x1)]) hx hb d_MM_visit_152 rfl hl (by decide) rfl (fun ls hl => ?_)
  refine lv_goto (tgt := 55) hx hb d_MM_visit_153 (by decide) ?_
  cases h
  exact h0 rfl _ _ _ hP hS (lv_sub hl [1, 2, 0] rfl)
set_option maxHeartbeats 4000000 in
set_option maxRecDepth 100000 in
theorem f_MM_visit_b55 {E : (Nat → Prop) → State → Heap → Prop} {p : Program} {l : Launch} {e : Env} {s : State} {m : MethodId} {args : Array Value} {below : List Frame} {meth : Method} {c : Code} {D : va_G} {ad kd sd vd xd : Nat → Nat} {ca : Nat → ClassId} {A : Nat → Prop} {ky ty : Nat → Option Nat} {Q : State → Prop} (hE : o_EK E kd sd vd xd) (hKy : m_KY ky ty sd) (C : o_Cx E p s m args meth c D m_cls (m_tys ca) "SchemaJudgeModel" b_MM_visit none 4 cc_MM_visit A) (hDD : ∀ (rt : Nat) (Mm : SMM) (M0 : SMT) (M1 : SMT), va_D A (m_cw ad ca ky ty rt Mm M0 M1)) (d : Nat) (rec : Int32 → SMT → SMM → Nat → Option (SMM × Nat)) (hrec : ∀ (x1 : Int32) (M0 : SMT) (Mm : SMM) (rt : Nat) (M1 : SMT) (r : SMM × Nat), rec x1 M0 Mm rt = some r → o_Cn E l D m_cls (m_tys ca) y_MM_visit cc_MM_visit (rm_MM_visit d) [.ref (ad 0), .int x1] (m_cw ad ca ky ty rt Mm M0 M1) (m_cw ad ca ky ty r.2 r.1 M0 M1) none) (n : Nat) (u55_x1 : Int32) (u55_M0 : SMT) (u55_M1 : SMT) (z : Int32 × SMM × Nat) (q : Nat × Int32 × SMM × Nat) (h : m_MM_visit_b55 n rec u55_x1 u55_M0 z = some q) (h0 : q.1 = 0 → o_At p l e (rm_MM_visit (d + 1)) s m args below meth c Q m_cls D A 4 55 [] (m_cw ad ca ky ty q.2.2.2 q.2.2.1 u55_M0 u55_M1) [(0, .ref (ad 0)), (1, .int u55_x1), (2, .int q.2.1)]) (h1 : q.1 ≠ 0 → (o_At p l e (rm_MM_visit (d + 1)) s m args below meth c Q m_cls D A 4 156 [] (m_cw ad ca ky ty q.2.2.2 q.2.2.1 u55_M0 u55_M1) [])) : o_At p l e (rm_MM_visit (d + 1)) s m args below meth c Q m_cls D A 4 55 [] (m_cw ad ca ky ty z.2.2 z.2.1 u55_M0 u55_M1) [(0, .ref (ad 0)), (1, .int u55_x1), (2, .int z.1)] := by
  unfold m_MM_visit_b55 at h
  intro H locs ls hP hS hl
  have C0 := C
  obtain ⟨hx, hb, -, -, -, hown, hts, hK, -, -⟩ := C0
  refine lv_iload_n hx hb d_MM_visit_55 rfl (lv_at hl 2 rfl) ?_
  refine lv_if_lt (tgt := 156) hx hb d_MM_visit_56 (by decide) (fun c5 => ?_) (fun c5 => ?_)
  · replace h := o_tt c5 h
    cases h
    exact h1 (Nat.succ_ne_zero 0) _ _ _ hP hS (lv_sub hl [] rfl)
  · replace h := o_ff c5 h
    refine lv_aload_n hx hb d_MM_visit_59 rfl (lv_at hl 0 rfl) ?_
    refine o_get (v := .ref (ad 33)) C in_MM hP 0 mw_0 rfl 4 (by decide) k_7_234 rfl rfl d_MM_visit_60 ?_
    refine o_get (v := .ref (ad 35)) C in_MT hP 33 mw_33 rfl 1 (by decide) k_7_103 rfl rfl d_MM_visit_63 ?_
    refine lv_iload_n hx hb d_MM_visit_66 rfl (lv_at hl 1 rfl) ?_
    obtain ⟨g6, h⟩ := o_gd_some h
    refine o_iald (f := (MT_kind u55_M0)) C hP 35 33 mw_35 rfl g6 d_MM_visit_67 ?_
    refine lv_bipush (v := (6:Int32)) hx hb d_MM_visit_68 (by decide) ?_
    refine lv_icmp_ne (tgt := 156) hx hb d_MM_visit_70 (by decide) (fun c7 => ?_) (fun c7 => ?_)
    · replace h := o_ff c7 h
      cases h
      exact h1 (Nat.succ_ne_zero 0) _ _ _ hP hS (lv_sub hl [] rfl)
    · replace h := o_tt c7 h
      refine lv_iconst (v := (0:Int32)) hx hb d_MM_visit_73 (by decide) ?_
      refine lv_istore_n (lv' := [(3, .int (0:Int32)), (0, .ref (ad 0)), (1, .int u55_x1), (2, .int z.1)]) hx hb d_MM_visit_74 rfl hl (by decide) rfl (fun ls hl => ?_)
      obtain ⟨q3, hq3, h⟩ := o_bd_some h
      refine o_sim2 (AH := fun zz => o_At p l e (rm_MM_visit (d + 1)) s m args below meth c _ m_cls D A 4 75 [] (m_cw ad ca ky ty z.2.2 zz.2 u55_M0 u55_M1) [(0, .ref (ad 0)), (1, .int u55_x1), (2, .int z.1), (3, .int zz.1)]) (AX := fun qq => o_At p l e (rm_MM_visit (d + 1)) s m args below meth c _ m_cls D A 4 122 [] (m_cw ad ca ky ty z.2.2 qq.2.2 u55_M0 u55_M1) [(0, .ref (ad 0)), (1, .int u55_x1), (2, .int z.1)]) (fun zz qq h h0 h1 => f_MM_visit_b75 hE hKy C hDD d rec hrec n u55_x1 z.1 u55_M0 z.2.2 u55_M1 zz qq h h0 h1) n _ q3 hq3 ?_ _ _ _ hP hS (lv_sub hl [1, 2, 3, 0] rfl)
      intro H locs ls hP hS hl
      refine lv_aload_n hx hb d_MM_visit_122 rfl (lv_at hl 0 rfl) ?_
      refine o_get (v := .ref (ad 21)) C in_MM hP 0 mw_0 rfl 40 (by decide) k_8_30 rfl rfl d_MM_visit_123 ?_
      refine lv_iload_n hx hb d_MM_visit_126 rfl (lv_at hl 2 rfl) ?_
      obtain ⟨g13, h⟩ := o_gd_some h
      refine o_iald (f := (MM_key q3.2.2)) C hP 21 20 mw_21 rfl g13 d_MM_visit_127 ?_
      refine lv_if_lt (tgt := 143) hx hb d_MM_visit_128 (by decide) (fun c14 => ?_) (fun c14 => ?_)
      · replace h := o_tt c14 h
        exact f_MM_visit_j143 hE hKy C hDD d rec hrec n u55_x1 u55_M0 u55_M1 z.1 q3.2.2 z.2.2 h h0 h1 _ _ _ hP hS (lv_sub hl [0, 1, 2] rfl)
      · replace h := o_ff c14 h
        refine lv_aload_n hx hb d_MM_visit_131 rfl (lv_at hl 0 rfl) ?_
        refine lv_aload_n hx hb d_MM_visit_132 rfl (lv_at hl 0 rfl) ?_
        refine o_get (v := .ref (ad 21)) C in_MM hP 0 mw_0 rfl 40 (by decide) k_8_30 rfl rfl d_MM_visit_133 ?_
        refine lv_iload_n hx hb d_MM_visit_136 rfl (lv_at hl 2 rfl) ?_
        obtain ⟨g16, h⟩ := o_gd_some h
        refine o_iald (f := (MM_key q3.2.2)) C hP 21 20 mw_21 rfl g16 d_MM_visit_137 ?_
        refine lv_iload_n hx hb d_MM_visit_138 rfl (lv_at hl 2 rfl) ?_
        refine lv_iload_n hx hb d_MM_visit_139 rfl (lv_at hl 1 rfl) ?_
        obtain ⟨q4, hq4, h⟩ := o_bd_some h
        refine o_V (st1 := []) (w1 := (m_cw ad ca ky ty q4.2 q4.1 u55_M0 u55_M1)) hE.1 C (e_MM_keyword hE hKy l n d rec hrec ((MM_key q3.2.2) z.1.toNatClampNeg) z.1 u55_x1 u55_M0 q3.2.2 z.2.2 u55_M1 hq4) hP (hDD _ _ _ _) hS hl.1 rfl mw_0 k_9_50 k_9_52 k_s_84 k_1_12 k_9_53 hv_MM_keyword rfl rfl ⟨(by dsimp only [rm_MM_visit, rm_MM_keyword]; omega), (by dsimp only [rm_MM_visit, rm_MM_keyword]; omega)⟩ rfl (Nat.le_of_ble_eq_true rfl) ⟨Nat.zero_le _, Nat.zero_le _⟩ rfl d_MM_visit_140 (fun H locs hP hS => ?_)
        exact f_MM_visit_j143 hE hKy C hDD d rec hrec n u55_x1 u55_M0 u55_M1 z.1 q4.1 q4.2 h h0 h1 _ _ _ hP hS (lv_sub hl [0, 1, 2] rfl)
set_option maxHeartbeats 4000000 in
set_option maxRecDepth 100000 in
theorem f_MM_visit_j38 {E : (Nat → Prop) → State → Heap → Prop} {p : Program} {l : Launch} {e : Env} {s : State} {m : MethodId} {args : Array Value} {below : List Frame} {meth : Method} {c : Code} {D : va_G} {ad kd sd vd xd : Nat → Nat} {ca : Nat → ClassId} {A : Nat → Prop} {ky ty : Nat → Option Nat} (hE : o_EK E kd sd vd xd) (hKy : m_KY ky ty sd) (C : o_Cx E p s m args meth c D m_cls (m_tys ca) "SchemaJudgeModel" b_MM_visit none 4 cc_MM_visit A) (hDD : ∀ (rt : Nat) (Mm : SMM) (M0 : SMT) (M1 : SMT), va_D A (m_cw ad ca ky ty rt Mm M0 M1)) (d : Nat) (rec : Int32 → SMT → SMM → Nat → Option (SMM × Nat)) (hrec : ∀ (x1 : Int32) (M0 : SMT) (Mm : SMM) (rt : Nat) (M1 : SMT) (r : SMM × Nat), rec x1 M0 Mm rt = some r → o_Cn E l D m_cls (m_tys ca) y_MM_visit cc_MM_visit (rm_MM_visit d) [.ref (ad 0), .int x1] (m_cw ad ca ky ty rt Mm M0 M1) (m_cw ad ca ky ty r.2 r.1 M0 M1) none) (n : Nat) (x1 : Int32) (M0 : SMT) (Mm : SMM) (rt : Nat) (M1 : SMT) {r : SMM × Nat} (h : m_MM_visit_j38 n rec x1 M0 Mm rt = some r) : o_At p l e (rm_MM_visit (d + 1)) s m args below meth c (MQ below (o_Qx D m_cls none (m_cw ad ca ky ty r.2 r.1 M0 M1) A) args s 0 0 A) m_cls D A 4 38 [] (m_cw ad ca ky ty rt Mm M0 M1) [(0, .ref (ad 0)), (1, .int x1)] := by
  unfold m_MM_visit_j38 at h
  intro H locs ls hP hS hl
  have C0 := C
  obtain ⟨hx, hb, -, -, -, hown, hts, hK, -, -⟩ := C0
  refine lv_aload_n hx hb d_MM_visit_38 rfl (lv_at hl 0 rfl) ?_
  refine o_get (v := .ref (ad 27)) C in_MM hP 0 mw_0 rfl 46 (by decide) k_8_36 rfl rfl d_MM_visit_39 ?_
  refine lv_iload_n hx hb d_MM_visit_42 rfl (lv_at hl 1 rfl) ?_
  refine lv_iconst (v := (1:Int32)) hx hb d_MM_visit_43 (by decide) ?_
  obtain ⟨g3, h⟩ := o_gd_some h
  refine o_zast (f := (MM_isSchema Mm)) (w1 := (m_cw ad ca ky ty rt (MM_mk (MM_err Mm) (MM_fed Mm) (MM_wrong Mm) (MM_octets Mm) (MM_nodeKind Mm) (MM_nodeA Mm) (MM_nodeB Mm) (MM_nodeC Mm) (MM_nodeNext Mm) (MM_low Mm) (MM_high Mm) (MM_setFrom Mm) (MM_setTo Mm) (MM_setNot Mm) (MM_op Mm) (MM_opA Mm) (MM_opB Mm) (MM_mark Mm) (MM_now Mm) (MM_then Mm) (MM_todo Mm) (MM_nodes Mm) (MM_sets Mm) (MM_ranges Mm) (MM_steps Mm) (MM_pat Mm) (MM_patEnd Mm) (MM_round Mm) (MM_many1 Mm) (MM_broken Mm) (MM_checked Mm) (MM_faultKind Mm) (MM_faultValue Mm) (MM_latestFault Mm) (MM_anchors Mm) (MM_key Mm) (MM_target Mm) (MM_anchorValue Mm) (MM_anchorSchema Mm) (MM_path Mm) (MM_route Mm) (upd (MM_isSchema Mm) x1.toNatClampNeg (vp_nar .boolean (1:Int32))) (MM_seen1 Mm) (MM_pathSize Mm) (MM_octetRow Mm) (MM_partRow Mm) (MM_pairValue Mm) (MM_pairKey Mm) (MM_pairs Mm) (MM_judged Mm) (MM_deepest Mm) (MM_depth Mm) (MM_over Mm) (MM_seen Mm)) M0 M1)) C hP (hDD _ _ _ _) hS 27 26 mw_27 rfl g3 rfl d_MM_visit_44 (fun H locs hP hS => ?_)
  refine lv_aload_n hx hb d_MM_visit_45 rfl (lv_at hl 0 rfl) ?_
  refine o_get (v := .ref (ad 33)) C in_MM hP 0 mw_0 rfl 4 (by decide) k_7_234 rfl rfl d_MM_visit_46 ?_
  refine o_get (v := .ref (ad 40)) C in_MT hP 33 mw_33 rfl 6 (by decide) k_7_113 rfl rfl d_MM_visit_49 ?_
  refine lv_iload_n hx hb d_MM_visit_52 rfl (lv_at hl 1 rfl) ?_
  obtain ⟨g4, h⟩ := o_gd_some h
  refine o_iald (f := (MT_first M0)) C hP 40 38 mw_40 rfl g4 d_MM_visit_53 ?_
  refine lv_topi (fun x2_54 ex2_54 => ?_)
  replace h := o_nm_at ex2_54 h
  refine lv_istore_n (lv' := [(2, .int x2_54), (0, .ref (ad 0)), (1, .int x1)]) hx hb d_MM_visit_54 rfl hl (by decide) rfl (fun ls hl => ?_)
  obtain ⟨q5, hq5, h⟩ := o_bd_some h
  refine o_sim2 (AH := fun zz => o_At p l e (rm_MM_visit (d + 1)) s m args below meth c _ m_cls D A 4 55 [] (m_cw ad ca ky ty zz.2.2 zz.2.1 M0 M1) [(0, .ref (ad 0)), (1, .int x1), (2, .int zz.1)]) (AX := fun qq => o_At p l e (rm_MM_visit (d + 1)) s m args below meth c _ m_cls D A 4 156 [] (m_cw ad ca ky ty qq.2.2.2 qq.2.2.1 M0 M1) []) (fun zz qq h h0 h1 => f_MM_visit_b55 hE hKy C hDD d rec hrec n x1 M0 M1 zz qq h h0 h1) n _ q5 hq5 ?_ _ _ _ hP hS (lv_sub hl [1, 2, 0] rfl)
  intro H locs ls hP hS hl
  cases h
  exact o_rv C hP hS d_MM_visit_156
set_option maxHeartbeats 4000000 in
set_option maxRecDepth 100000 in
theorem e_MM_visit_F {E : (Nat → Prop) → State → Heap → Prop} {D : va_G} {ad kd sd vd xd : Nat → Nat} {ca : Nat → ClassId} {ky ty : Nat → Option Nat} (hE : o_EK E kd sd vd xd) (hKy : m_KY ky ty sd) (l : Launch) (n : Nat) (d : Nat) (rec : Int32 → SMT → SMM → Nat → Option (SMM × Nat)) (hrec : ∀ (x1 : Int32) (M0 : SMT) (Mm : SMM) (rt : Nat) (M1 : SMT) (r : SMM × Nat), rec x1 M0 Mm rt = some r → o_Cn E l D m_cls (m_tys ca) y_MM_visit cc_MM_visit (rm_MM_visit d) [.ref (ad 0), .int x1] (m_cw ad ca ky ty rt Mm M0 M1) (m_cw ad ca ky ty r.2 r.1 M0 M1) none) (x1 : Int32) (M0 : SMT) (Mm : SMM) (rt : Nat) (M1 : SMT) {r : SMM × Nat} (h : m_MM_visit_F n rec x1 M0 Mm rt = some r) : o_Cn E l D m_cls (m_tys ca) y_MM_visit cc_MM_visit (rm_MM_visit (d + 1)) [.ref (ad 0), .int x1] (m_cw ad ca ky ty rt Mm M0 M1) (m_cw ad ca ky ty r.2 r.1 M0 M1) none := by
  refine o_Cn_of (by decide) (Nat.le_of_ble_eq_true rfl) ?_
  intro p e s m below meth c A ls C hD hP hS hl
  have hDD : ∀ (rt : Nat) (Mm : SMM) (M0 : SMT) (M1 : SMT), va_D A (m_cw ad ca ky ty rt Mm M0 M1) := fun _ _ _ _ => o_D_map hD rfl
  have hl : lv_has ls 4 [(0, .ref (ad 0)), (1, .int x1)] := hl
  unfold m_MM_visit_F at h
  have C0 := C
  obtain ⟨hx, hb, -, -, -, hown, hts, hK, -, -⟩ := C0
  refine lv_aload_n hx hb d_MM_visit_0 rfl (lv_at hl 0 rfl) ?_
  refine o_get (v := .ref (ad 33)) C in_MM hP 0 mw_0 rfl 4 (by decide) k_7_234 rfl rfl d_MM_visit_1 ?_
  refine o_get (v := .ref (ad 35)) C in_MT hP 33 mw_33 rfl 1 (by decide) k_7_103 rfl rfl d_MM_visit_4 ?_
  refine lv_iload_n hx hb d_MM_visit_7 rfl (lv_at hl 1 rfl) ?_
  obtain ⟨g1, h⟩ := o_gd_some h
  refine o_iald (f := (MT_kind M0)) C hP 35 33 mw_35 rfl g1 d_MM_visit_8 ?_
  refine lv_iconst (v := (1:Int32)) hx hb d_MM_visit_9 (by decide) ?_
  refine lv_iconst (v := (2:Int32)) hx hb d_MM_visit_10 (by decide) ?_
  obtain ⟨q1, hq1, h⟩ := o_bd_some h
  refine o_S (st1 := [.int q1]) (w1 := (m_cw ad ca ky ty rt Mm M0 M1)) hE.1 C (e_MM_in hE hKy l ((MT_kind M0) x1.toNatClampNeg) (1:Int32) (2:Int32) Mm M0 M1 rt hq1) hP (hDD _ _ _ _) hS hl.1 k_9_41 k_8_201 k_1_12 k_8_202 hs_MM_in rfl rfl ⟨(by dsimp only [rm_MM_visit, rm_MM_in]; omega), (by dsimp only [rm_MM_visit, rm_MM_in]; omega)⟩ rfl (Nat.le_of_ble_eq_true rfl) ⟨Nat.zero_le _, Nat.zero_le _⟩ rfl d_MM_visit_11 (fun H locs hP hS => ?_)
  refine lv_if_ne (tgt := 38) hx hb d_MM_visit_14 (by decide) (fun c2 => ?_) (fun c2 => ?_)
  · replace h := o_ff c2 h
    exact f_MM_visit_j38 hE hKy C hDD d rec hrec n x1 M0 Mm rt M1 h _ _ _ hP hS (lv_sub hl [0, 1] rfl)
  · replace h := o_tt c2 h
    refine lv_aload_n hx hb d_MM_visit_17 rfl (lv_at hl 0 rfl) ?_
    refine o_get (v := .ref (ad 33)) C in_MM hP 0 mw_0 rfl 4 (by decide) k_7_234 rfl rfl d_MM_visit_18 ?_
    refine o_get (v := .ref (ad 35)) C in_MT hP 33 mw_33 rfl 1 (by decide) k_7_103 rfl rfl d_MM_visit_21 ?_
    refine lv_iload_n hx hb d_MM_visit_24 rfl (lv_at hl 1 rfl) ?_
    obtain ⟨g17, h⟩ := o_gd_some h
    refine o_iald (f := (MT_kind M0)) C hP 35 33 mw_35 rfl g17 d_MM_visit_25 ?_
    refine lv_bipush (v := (6:Int32)) hx hb d_MM_visit_26 (by decide) ?_
    refine lv_icmp_eq (tgt := 38) hx hb d_MM_visit_28 (by decide) (fun c18 => ?_) (fun c18 => ?_)
    · replace h := o_tt c18 h
      exact f_MM_visit_j38 hE hKy C hDD d rec hrec n x1 M0 Mm rt M1 h _ _ _ hP hS (lv_sub hl [0, 1] rfl)
    · replace h := o_ff c18 h
      refine lv_aload_n hx hb d_MM_visit_31 rfl (lv_at hl 0 rfl) ?_
      refine lv_iconst (v := (1:Int32)) hx hb d_MM_visit_32 (by decide) ?_
      refine lv_iload_n hx hb d_MM_visit_33 rfl (lv_at hl 1 rfl) ?_
      obtain ⟨q6, hq6, h⟩ := o_bd_some h
      refine o_V (st1 := []) (w1 := (m_cw ad ca ky ty rt q6 M0 M1)) hE.1 C (e_MM_fault hE hKy l (1:Int32) x1 Mm M0 M1 rt hq6) hP (hDD _ _ _ _) hS hl.1 rfl mw_0 k_9_42 k_9_44 k_s_83 k_1_12 k_9_45 hv_MM_fault rfl rfl ⟨(by dsimp only [rm_MM_visit, rm_MM_fault]; omega), (by dsimp only [rm_MM_visit, rm_MM_fault]; omega)⟩ rfl (Nat.le_of_ble_eq_true rfl) ⟨Nat.zero_le _, Nat.zero_le _⟩ rfl d_MM_visit_34 (fun H locs hP hS => ?_)
      cases h
      exact o_rv C hP hS d_MM_visit_37
set_option maxHeartbeats 4000000 in
set_option maxRecDepth 100000 in
theorem e_MM_visit {E : (Nat → Prop) → State → Heap → Prop} {D : va_G} {ad kd sd vd xd : Nat → Nat} {ca : Nat → ClassId} {ky ty : Nat → Option Nat} (hE : o_EK E kd sd vd xd) (hKy : m_KY ky ty sd) (l : Launch) (n : Nat) (d : Nat) (x1 : Int32) (M0 : SMT) (Mm : SMM) (rt : Nat) (M1 : SMT) {r : SMM × Nat} (h : m_MM_visit n d x1 M0 Mm rt = some r) : o_Cn E l D m_cls (m_tys ca) y_MM_visit cc_MM_visit (rm_MM_visit d) [.ref (ad 0), .int x1] (m_cw ad ca ky ty rt Mm M0 M1) (m_cw ad ca ky ty r.2 r.1 M0 M1) none := by
  induction d generalizing x1 M0 Mm rt M1 r with
  | zero => cases h
  | succ d ih =>
    exact e_MM_visit_F hE hKy l n d (m_MM_visit n d) (fun x1 M0 Mm rt M1 r h => ih x1 M0 Mm rt M1 h) _ _ _ _ _ h
set_option maxHeartbeats 4000000 in
set_option maxRecDepth 100000 in
theorem f_MM_decode_j159 {E : (Nat → Prop) → State → Heap → Prop} {p : Program} {l : Launch} {e : Env} {s : State} {m : MethodId} {args : Array Value} {below : List Frame} {meth : Method} {c : Code} {D : va_G} {ad kd sd vd xd : Nat → Nat} {ca : Nat → ClassId} {A : Nat → Prop} {ky ty : Nat → Option Nat} {Q : State → Prop} (hE : o_EK E kd sd vd xd) (hKy : m_KY ky ty sd) (C : o_Cx E p s m args meth c D m_cls (m_tys ca) "SchemaJudgeModel" b_MM_decode (some .boolean) 9 cc_MM_decode A) (hDD : ∀ (rt : Nat) (Mm : SMM) (M0 : SMT) (M1 : SMT), va_D A (m_cw ad ca ky ty rt Mm M0 M1)) (n : Nat) (u5_x2 : Int32) (u5_M0 : SMT) (u5_M1 : SMT) (u5_rt : Nat) (x3 : Int32) (x4 : Int32) (x5 : Int32) (Mm : SMM) {q : Nat × Int32 × Int32 × SMM} (h : m_MM_decode_j159 n u5_x2 x3 x4 x5 u5_M0 Mm = some q) (h0 : q.1 = 0 → o_At p l e rm_MM_decode s m args below meth c Q m_cls D A 9 5 [] (m_cw ad ca ky ty u5_rt q.2.2.2 u5_M0 u5_M1) [(0, .ref (ad 0)), (2, .int u5_x2), (3, .int q.2.1), (4, .int q.2.2.1)]) (h1 : q.1 ≠ 0 → (o_At p l e rm_MM_decode s m args below meth c Q m_cls D A 9 380 [] (m_cw ad ca ky ty u5_rt q.2.2.2 u5_M0 u5_M1) [(0, .ref (ad 0)), (3, .int q.2.1)])) : o_At p l e rm_MM_decode s m args below meth c Q m_cls D A 9 159 [] (m_cw ad ca ky ty u5_rt Mm u5_M0 u5_M1) [(0, .ref (ad 0)), (2, .int u5_x2), (3, .int x3), (4, .int x4), (5, .int x5)] := by
  unfold m_MM_decode_j159 at h
  intro H locs ls hP hS hl
  have C0 := C
  obtain ⟨hx, hb, -, -, -, hown, hts, hK, -, -⟩ := C0
  refine lv_iload hx hb d_MM_decode_159 (lv_at hl 4 rfl) ?_
  refine lv_sipush (v := (128:Int32)) hx hb d_MM_decode_161 (by decide) ?_
  refine lv_icmp_ge (tgt := 181) hx hb d_MM_decode_164 (by decide) (fun c4 => ?_) (fun c4 => ?_)
  · replace h := o_tt c4 h
    refine lv_iload hx hb d_MM_decode_181 (lv_at hl 4 rfl) ?_
    refine lv_sipush (v := (2048:Int32)) hx hb d_MM_decode_183 (by decide) ?_
    refine lv_icmp_ge (tgt := 228) hx hb d_MM_decode_186 (by decide) (fun c5 => ?_) (fun c5 => ?_)
    · replace h := o_tt c5 h
      refine lv_iload hx hb d_MM_decode_228 (lv_at hl 4 rfl) ?_
      refine lv_ldcw (v := (65536:Int32)) hx hb hown (hts _ k_9_187) d_MM_decode_230 ?_
      refine lv_icmp_ge (tgt := 296) hx hb d_MM_decode_233 (by decide) (fun c6 => ?_) (fun c6 => ?_)
      · replace h := o_tt c6 h
        refine lv_aload_n hx hb d_MM_decode_296 rfl (lv_at hl 0 rfl) ?_
        refine o_get (v := .ref (ad 29)) C in_MM hP 0 mw_0 rfl 49 (by decide) k_8_39 rfl rfl d_MM_decode_297 ?_
        refine lv_iload_n hx hb d_MM_decode_300 rfl (lv_at hl 2 rfl) ?_
        obtain ⟨x3_301, ex3_301⟩ : ∃ y : Int32, y = x3 + (1:Int32) := ⟨_, rfl⟩
        replace h := o_nm_at ex3_301 h
        refine lv_iinc (v := x3_301) (lv' := [(3, .int x3_301), (0, .ref (ad 0)), (2, .int u5_x2), (4, .int x4), (5, .int x5)]) hx hb d_MM_decode_301 hl (k := 2) rfl (by rw [ex3_301]; rfl) (by decide) rfl (fun ls hl => ?_)
        refine lv_sipush (v := (240:Int32)) hx hb d_MM_decode_304 (by decide) ?_
        refine lv_iload hx hb d_MM_decode_307 (lv_at hl 4 rfl) ?_
        refine lv_bipush (v := (18:Int32)) hx hb d_MM_decode_309 (by decide) ?_
        refine lv_ishr hx hb d_MM_decode_311 ?_
        refine lv_ior hx hb d_MM_decode_312 ?_
        obtain ⟨g7, h⟩ := o_gd_some h
        refine o_iast (f := (MM_octetRow Mm)) (w1 := (m_cw ad ca ky ty u5_rt (MM_mk (MM_err Mm) (MM_fed Mm) (MM_wrong Mm) (MM_octets Mm) (MM_nodeKind Mm) (MM_nodeA Mm) (MM_nodeB Mm) (MM_nodeC Mm) (MM_nodeNext Mm) (MM_low Mm) (MM_high Mm) (MM_setFrom Mm) (MM_setTo Mm) (MM_setNot Mm) (MM_op Mm) (MM_opA Mm) (MM_opB Mm) (MM_mark Mm) (MM_now Mm) (MM_then Mm) (MM_todo Mm) (MM_nodes Mm) (MM_sets Mm) (MM_ranges Mm) (MM_steps Mm) (MM_pat Mm) (MM_patEnd Mm) (MM_round Mm) (MM_many1 Mm) (MM_broken Mm) (MM_checked Mm) (MM_faultKind Mm) (MM_faultValue Mm) (MM_latestFault Mm) (MM_anchors Mm) (MM_key Mm) (MM_target Mm) (MM_anchorValue Mm) (MM_anchorSchema Mm) (MM_path Mm) (MM_route Mm) (MM_isSchema Mm) (MM_seen1 Mm) (MM_pathSize Mm) (upd (MM_octetRow Mm) x3.toNatClampNeg ((240:Int32) ||| (x5 >>> ((18:Int32) &&& 31)))) (MM_partRow Mm) (MM_pairValue Mm) (MM_pairKey Mm) (MM_pairs Mm) (MM_judged Mm) (MM_deepest Mm) (MM_depth Mm) (MM_over Mm) (MM_seen Mm)) u5_M0 u5_M1)) C hP (hDD _ _ _ _) hS 29 28 mw_29 rfl g7 rfl d_MM_decode_313 (fun H locs hP hS => ?_)
        refine lv_aload_n hx hb d_MM_decode_314 rfl (lv_at hl 1 rfl) ?_
        refine o_get (v := .ref (ad 29)) C in_MM hP 0 mw_0 rfl 49 (by decide) k_8_39 rfl rfl d_MM_decode_315 ?_
        refine lv_iload_n hx hb d_MM_decode_318 rfl (lv_at hl 0 rfl) ?_
        obtain ⟨x3_319, ex3_319⟩ : ∃ y : Int32, y = x3_301 + (1:Int32) := ⟨_, rfl⟩
        replace h := o_nm_at ex3_319 h
        refine lv_iinc (v := x3_319) (lv' := [(3, .int x3_319), (0, .ref (ad 0)), (2, .int u5_x2), (4, .int x4), (5, .int x5)]) hx hb d_MM_decode_319 hl (k := 0) rfl (by rw [ex3_319]; rfl) (by decide) rfl (fun ls hl => ?_)
        refine lv_sipush (v := (128:Int32)) hx hb d_MM_decode_322 (by decide) ?_
        refine lv_iload hx hb d_MM_decode_325 (lv_at hl 4 rfl) ?_
        refine lv_bipush (v := (12:Int32)) hx hb d_MM_decode_327 (by decide) ?_
        refine lv_ishr hx hb d_MM_decode_329 ?_
        refine lv_bipush (v := (63:Int32)) hx hb d_MM_decode_330 (by decide) ?_
        refine lv_iand hx hb d_MM_decode_332 ?_
        refine lv_ior hx hb d_MM_decode_333 ?_
        obtain ⟨g8, h⟩ := o_gd_some h
        refine o_iast (f := (upd (MM_octetRow Mm) x3.toNatClampNeg ((240:Int32) ||| (x5 >>> ((18:Int32) &&& 31))))) (w1 := (m_cw ad ca ky ty u5_rt (MM_mk (MM_err Mm) (MM_fed Mm) (MM_wrong Mm) (MM_octets Mm) (MM_nodeKind Mm) (MM_nodeA Mm) (MM_nodeB Mm) (MM_nodeC Mm) (MM_nodeNext Mm) (MM_low Mm) (MM_high Mm) (MM_setFrom Mm) (MM_setTo Mm) (MM_setNot Mm) (MM_op Mm) (MM_opA Mm) (MM_opB Mm) (MM_mark Mm) (MM_now Mm) (MM_then Mm) (MM_todo Mm) (MM_nodes Mm) (MM_sets Mm) (MM_ranges Mm) (MM_steps Mm) (MM_pat Mm) (MM_patEnd Mm) (MM_round Mm) (MM_many1 Mm) (MM_broken Mm) (MM_checked Mm) (MM_faultKind Mm) (MM_faultValue Mm) (MM_latestFault Mm) (MM_anchors Mm) (MM_key Mm) (MM_target Mm) (MM_anchorValue Mm) (MM_anchorSchema Mm) (MM_path Mm) (MM_route Mm) (MM_isSchema Mm) (MM_seen1 Mm) (MM_pathSize Mm) (upd (upd (MM_octetRow Mm) x3.toNatClampNeg ((240:Int32) ||| (x5 >>> ((18:Int32) &&& 31)))) x3_301.toNatClampNeg ((128:Int32) ||| ((x5 >>> ((12:Int32) &&& 31)) &&& (63:Int32)))) (MM_partRow Mm) (MM_pairValue Mm) (MM_pairKey Mm) (MM_pairs Mm) (MM_judged Mm) (MM_deepest Mm) (MM_depth Mm) (MM_over Mm) (MM_seen Mm)) u5_M0 u5_M1)) C hP (hDD _ _ _ _) hS 29 28 mw_29 rfl g8 rfl d_MM_decode_334 (fun H locs hP hS => ?_)
        refine lv_aload_n hx hb d_MM_decode_335 rfl (lv_at hl 1 rfl) ?_
        refine o_get (v := .ref (ad 29)) C in_MM hP 0 mw_0 rfl 49 (by decide) k_8_39 rfl rfl d_MM_decode_336 ?_
        refine lv_iload_n hx hb d_MM_decode_339 rfl (lv_at hl 0 rfl) ?_
        obtain ⟨x3_340, ex3_340⟩ : ∃ y : Int32, y = x3_319 + (1:Int32) := ⟨_, rfl⟩
        replace h := o_nm_at ex3_340 h
        refine lv_iinc (v := x3_340) (lv' := [(3, .int x3_340), (0, .ref (ad 0)), (2, .int u5_x2), (4, .int x4), (5, .int x5)]) hx hb d_MM_decode_340 hl (k := 0) rfl (by rw [ex3_340]; rfl) (by decide) rfl (fun ls hl => ?_)
        refine lv_sipush (v := (128:Int32)) hx hb d_MM_decode_343 (by decide) ?_
        refine lv_iload hx hb d_MM_decode_346 (lv_at hl 4 rfl) ?_
        refine lv_bipush (v := (6:Int32)) hx hb d_MM_decode_348 (by decide) ?_
        refine lv_ishr hx hb d_MM_decode_350 ?_
        refine lv_bipush (v := (63:Int32)) hx hb d_MM_decode_351 (by decide) ?_
        refine lv_iand hx hb d_MM_decode_353 ?_
        refine lv_ior hx hb d_MM_decode_354 ?_
        obtain ⟨g9, h⟩ := o_gd_some h
        refine o_iast (f := (upd (upd (MM_octetRow Mm) x3.toNatClampNeg ((240:Int32) ||| (x5 >>> ((18:Int32) &&& 31)))) x3_301.toNatClampNeg ((128:Int32) ||| ((x5 >>> ((12:Int32) &&& 31)) &&& (63:Int32))))) (w1 := (m_cw ad ca ky ty u5_rt (MM_mk (MM_err Mm) (MM_fed Mm) (MM_wrong Mm) (MM_octets Mm) (MM_nodeKind Mm) (MM_nodeA Mm) (MM_nodeB Mm) (MM_nodeC Mm) (MM_nodeNext Mm) (MM_low Mm) (MM_high Mm) (MM_setFrom Mm) (MM_setTo Mm) (MM_setNot Mm) (MM_op Mm) (MM_opA Mm) (MM_opB Mm) (MM_mark Mm) (MM_now Mm) (MM_then Mm) (MM_todo Mm) (MM_nodes Mm) (MM_sets Mm) (MM_ranges Mm) (MM_steps Mm) (MM_pat Mm) (MM_patEnd Mm) (MM_round Mm) (MM_many1 Mm) (MM_broken Mm) (MM_checked Mm) (MM_faultKind Mm) (MM_faultValue Mm) (MM_latestFault Mm) (MM_anchors Mm) (MM_key Mm) (MM_target Mm) (MM_anchorValue Mm) (MM_anchorSchema Mm) (MM_path Mm) (MM_route Mm) (MM_isSchema Mm) (MM_seen1 Mm) (MM_pathSize Mm) (upd (upd (upd (MM_octetRow Mm) x3.toNatClampNeg ((240:Int32) ||| (x5 >>> ((18:Int32) &&& 31)))) x3_301.toNatClampNeg ((128:Int32) ||| ((x5 >>> ((12:Int32) &&& 31)) &&& (63:Int32)))) x3_319.toNatClampNeg ((128:Int32) ||| ((x5 >>> ((6:Int32) &&& 31)) &&& (63:Int32)))) (MM_partRow Mm) (MM_pairValue Mm) (MM_pairKey Mm) (MM_pairs Mm) (MM_judged Mm) (MM_deepest Mm) (MM_depth Mm) (MM_over Mm) (MM_seen Mm)) u5_M0 u5_M1)) C hP (hDD _ _ _ _) hS 29 28 mw_29 rfl g9 rfl d_MM_decode_355 (fun H locs hP hS => ?_)
        refine lv_aload_n hx hb d_MM_decode_356 rfl (lv_at hl 1 rfl) ?_
        refine o_get (v := .ref (ad 29)) C in_MM hP 0 mw_0 rfl 49 (by decide) k_8_39 rfl rfl d_MM_decode_357 ?_
        refine lv_iload_n hx hb d_MM_decode_360 rfl (lv_at hl 0 rfl) ?_
        obtain ⟨x3_361, ex3_361⟩ : ∃ y : Int32, y = x3_340 + (1:Int32) := ⟨_, rfl⟩
        replace h := o_nm_at ex3_361 h
        refine lv_iinc (v := x3_361) (lv' := [(3, .int x3_361), (0, .ref (ad 0)), (2, .int u5_x2), (4, .int x4), (5, .int x5)]) hx hb d_MM_decode_361 hl (k := 0) rfl (by rw [ex3_361]; rfl) (by decide) rfl (fun ls hl => ?_)
        refine lv_sipush (v := (128:Int32)) hx hb d_MM_decode_364 (by decide) ?_
        refine lv_iload hx hb d_MM_decode_367 (lv_at hl 4 rfl) ?_
        refine lv_bipush (v := (63:Int32)) hx hb d_MM_decode_369 (by decide) ?_
        refine lv_iand hx hb d_MM_decode_371 ?_
        refine lv_ior hx hb d_MM_decode_372 ?_
        obtain ⟨g10, h⟩ := o_gd_some h
        refine o_iast (f := (upd (upd (upd (MM_octetRow Mm) x3.toNatClampNeg ((240:Int32) ||| (x5 >>> ((18:Int32) &&& 31)))) x3_301.toNatClampNeg ((128:Int32) ||| ((x5 >>> ((12:Int32) &&& 31)) &&& (63:Int32)))) x3_319.toNatClampNeg ((128:Int32) ||| ((x5 >>> ((6:Int32) &&& 31)) &&& (63:Int32))))) (w1 := (m_cw ad ca ky ty u5_rt (MM_mk (MM_err Mm) (MM_fed Mm) (MM_wrong Mm) (MM_octets Mm) (MM_nodeKind Mm) (MM_nodeA Mm) (MM_nodeB Mm) (MM_nodeC Mm) (MM_nodeNext Mm) (MM_low Mm) (MM_high Mm) (MM_setFrom Mm) (MM_setTo Mm) (MM_setNot Mm) (MM_op Mm) (MM_opA Mm) (MM_opB Mm) (MM_mark Mm) (MM_now Mm) (MM_then Mm) (MM_todo Mm) (MM_nodes Mm) (MM_sets Mm) (MM_ranges Mm) (MM_steps Mm) (MM_pat Mm) (MM_patEnd Mm) (MM_round Mm) (MM_many1 Mm) (MM_broken Mm) (MM_checked Mm) (MM_faultKind Mm) (MM_faultValue Mm) (MM_latestFault Mm) (MM_anchors Mm) (MM_key Mm) (MM_target Mm) (MM_anchorValue Mm) (MM_anchorSchema Mm) (MM_path Mm) (MM_route Mm) (MM_isSchema Mm) (MM_seen1 Mm) (MM_pathSize Mm) (upd (upd (upd (upd (MM_octetRow Mm) x3.toNatClampNeg ((240:Int32) ||| (x5 >>> ((18:Int32) &&& 31)))) x3_301.toNatClampNeg ((128:Int32) ||| ((x5 >>> ((12:Int32) &&& 31)) &&& (63:Int32)))) x3_319.toNatClampNeg ((128:Int32) ||| ((x5 >>> ((6:Int32) &&& 31)) &&& (63:Int32)))) x3_340.toNatClampNeg ((128:Int32) ||| (x5 &&& (63:Int32)))) (MM_partRow Mm) (MM_pairValue Mm) (MM_pairKey Mm) (MM_pairs Mm) (MM_judged Mm) (MM_deepest Mm) (MM_depth Mm) (MM_over Mm) (MM_seen Mm)) u5_M0 u5_M1)) C hP (hDD _ _ _ _) hS 29 28 mw_29 rfl g10 rfl d_MM_decode_373 (fun H locs hP hS => ?_)
        obtain ⟨x4_374, ex4_374⟩ : ∃ y : Int32, y = x4 + (1:Int32) := ⟨_, rfl⟩
        replace h := o_nm_at ex4_374 h
        refine lv_iinc (v := x4_374) (lv' := [(4, .int x4_374), (3, .int x3_361), (0, .ref (ad 0)), (2, .int u5_x2), (5, .int x5)]) hx hb d_MM_decode_374 hl (k := 3) rfl (by rw [ex4_374]; rfl) (by decide) rfl (fun ls hl => ?_)
        refine lv_goto (tgt := 5) hx hb d_MM_decode_377 (by decide) ?_
        cases h
        exact h0 rfl _ _ _ hP hS (lv_sub hl [2, 3, 1, 0] rfl)
      · replace h := o_ff c6 h
        refine lv_aload_n hx hb d_MM_decode_236 rfl (lv_at hl 0 rfl) ?_
        refine o_get (v := .ref (ad 29)) C in_MM hP 0 mw_0 rfl 49 (by decide) k_8_39 rfl rfl d_MM_decode_237 ?_
        refine lv_iload_n hx hb d_MM_decode_240 rfl (lv_at hl 2 rfl) ?_
        obtain ⟨x3_241, ex3_241⟩ : ∃ y : Int32, y = x3 + (1:Int32) := ⟨_, rfl⟩
        replace h := o_nm_at ex3_241 h
        refine lv_iinc (v := x3_241) (lv' := [(3, .int x3_241), (0, .ref (ad 0)), (2, .int u5_x2), (4, .int x4), (5, .int x5)]) hx hb d_MM_decode_241 hl (k := 2) rfl (by rw [ex3_241]; rfl) (by decide) rfl (fun ls hl => ?_)
        refine lv_sipush (v := (224:Int32)) hx hb d_MM_decode_244 (by decide) ?_
        refine lv_iload hx hb d_MM_decode_247 (lv_at hl 4 rfl) ?_
        refine lv_bipush (v := (12:Int32)) hx hb d_MM_decode_249 (by decide) ?_
        refine lv_ishr hx hb d_MM_decode_251 ?_
        refine lv_ior hx hb d_MM_decode_252 ?_
        obtain ⟨g11, h⟩ := o_gd_some h
        refine o_iast (f := (MM_octetRow Mm)) (w1 := (m_cw ad ca ky ty u5_rt (MM_mk (MM_err Mm) (MM_fed Mm) (MM_wrong Mm) (MM_octets Mm) (MM_nodeKind Mm) (MM_nodeA Mm) (MM_nodeB Mm) (MM_nodeC Mm) (MM_nodeNext Mm) (MM_low Mm) (MM_high Mm) (MM_setFrom Mm) (MM_setTo Mm) (MM_setNot Mm) (MM_op Mm) (MM_opA Mm) (MM_opB Mm) (MM_mark Mm) (MM_now Mm) (MM_then Mm) (MM_todo Mm) (MM_nodes Mm) (MM_sets Mm) (MM_ranges Mm) (MM_steps Mm) (MM_pat Mm) (MM_patEnd Mm) (MM_round Mm) (MM_many1 Mm) (MM_broken Mm) (MM_checked Mm) (MM_faultKind Mm) (MM_faultValue Mm) (MM_latestFault Mm) (MM_anchors Mm) (MM_key Mm) (MM_target Mm) (MM_anchorValue Mm) (MM_anchorSchema Mm) (MM_path Mm) (MM_route Mm) (MM_isSchema Mm) (MM_seen1 Mm) (MM_pathSize Mm) (upd (MM_octetRow Mm) x3.toNatClampNeg ((224:Int32) ||| (x5 >>> ((12:Int32) &&& 31)))) (MM_partRow Mm) (MM_pairValue Mm) (MM_pairKey Mm) (MM_pairs Mm) (MM_judged Mm) (MM_deepest Mm) (MM_depth Mm) (MM_over Mm) (MM_seen Mm)) u5_M0 u5_M1)) C hP (hDD _ _ _ _) hS 29 28 mw_29 rfl g11 rfl d_MM_decode_253 (fun H locs hP hS => ?_)
        refine lv_aload_n hx hb d_MM_decode_254 rfl (lv_at hl 1 rfl) ?_
        refine o_get (v := .ref (ad 29)) C in_MM hP 0 mw_0 rfl 49 (by decide) k_8_39 rfl rfl d_MM_decode_255 ?_
        refine lv_iload_n hx hb d_MM_decode_258 rfl (lv_at hl 0 rfl) ?_
        obtain ⟨x3_259, ex3_259⟩ : ∃ y : Int32, y = x3_241 + (1:Int32) := ⟨_, rfl⟩
        replace h := o_nm_at ex3_259 h
        refine lv_iinc (v := x3_259) (lv' := [(3, .int x3_259), (0, .ref (ad 0)), (2, .int u5_x2), (4, .int x4), (5, .int x5)]) hx hb d_MM_decode_259 hl (k := 0) rfl (by rw [ex3_259]; rfl) (by decide) rfl (fun ls hl => ?_)
        refine lv_sipush (v := (128:Int32)) hx hb d_MM_decode_262 (by decide) ?_
        refine lv_iload hx hb d_MM_decode_265 (lv_at hl 4 rfl) ?_
        refine lv_bipush (v := (6:Int32)) hx hb d_MM_decode_267 (by decide) ?_
        refine lv_ishr hx hb d_MM_decode_269 ?_
        refine lv_bipush (v := (63:Int32)) hx hb d_MM_decode_270 (by decide) ?_
        refine lv_iand hx hb d_MM_decode_272 ?_
        refine lv_ior hx hb d_MM_decode_273 ?_
        obtain ⟨g12, h⟩ := o_gd_some h
        refine o_iast (f := (upd (MM_octetRow Mm) x3.toNatClampNeg ((224:Int32) ||| (x5 >>> ((12:Int32) &&& 31))))) (w1 := (m_cw ad ca ky ty u5_rt (MM_mk (MM_err Mm) (MM_fed Mm) (MM_wrong Mm) (MM_octets Mm) (MM_nodeKind Mm) (MM_nodeA Mm) (MM_nodeB Mm) (MM_nodeC Mm) (MM_nodeNext Mm) (MM_low Mm) (MM_high Mm) (MM_setFrom Mm) (MM_setTo Mm) (MM_setNot Mm) (MM_op Mm) (MM_opA Mm) (MM_opB Mm) (MM_mark Mm) (MM_now Mm) (MM_then Mm) (MM_todo Mm) (MM_nodes Mm) (MM_sets Mm) (MM_ranges Mm) (MM_steps Mm) (MM_pat Mm) (MM_patEnd Mm) (MM_round Mm) (MM_many1 Mm) (MM_broken Mm) (MM_checked Mm) (MM_faultKind Mm) (MM_faultValue Mm) (MM_latestFault Mm) (MM_anchors Mm) (MM_key Mm) (MM_target Mm) (MM_anchorValue Mm) (MM_anchorSchema Mm) (MM_path Mm) (MM_route Mm) (MM_isSchema Mm) (MM_seen1 Mm) (MM_pathSize Mm) (upd (upd (MM_octetRow Mm) x3.toNatClampNeg ((224:Int32) ||| (x5 >>> ((12:Int32) &&& 31)))) x3_241.toNatClampNeg ((128:Int32) ||| ((x5 >>> ((6:Int32) &&& 31)) &&& (63:Int32)))) (MM_partRow Mm) (MM_pairValue Mm) (MM_pairKey Mm) (MM_pairs Mm) (MM_judged Mm) (MM_deepest Mm) (MM_depth Mm) (MM_over Mm) (MM_seen Mm)) u5_M0 u5_M1)) C hP (hDD _ _ _ _) hS 29 28 mw_29 rfl g12 rfl d_MM_decode_274 (fun H locs hP hS => ?_)
        refine lv_aload_n hx hb d_MM_decode_275 rfl (lv_at hl 1 rfl) ?_
        refine o_get (v := .ref (ad 29)) C in_MM hP 0 mw_0 rfl 49 (by decide) k_8_39 rfl rfl d_MM_decode_276 ?_
        refine lv_iload_n hx hb d_MM_decode_279 rfl (lv_at hl 0 rfl) ?_
        obtain ⟨x3_280, ex3_280⟩ : ∃ y : Int32, y = x3_259 + (1:Int32) := ⟨_, rfl⟩
        replace h := o_nm_at ex3_280 h
        refine lv_iinc (v := x3_280) (lv' := [(3, .int x3_280), (0, .ref (ad 0)), (2, .int u5_x2), (4, .int x4), (5, .int x5)]) hx hb d_MM_decode_280 hl (k := 0) rfl (by rw [ex3_280]; rfl) (by decide) rfl (fun ls hl => ?_)
        refine lv_sipush (v := (128:Int32)) hx hb d_MM_decode_283 (by decide) ?_
        refine lv_iload hx hb d_MM_decode_286 (lv_at hl 4 rfl) ?_
        refine lv_bipush (v := (63:Int32)) hx hb d_MM_decode_288 (by decide) ?_
        refine lv_iand hx hb d_MM_decode_290 ?_
        refine lv_ior hx hb d_MM_decode_291 ?_
        obtain ⟨g13, h⟩ := o_gd_some h
        refine o_iast (f := (upd (upd (MM_octetRow Mm) x3.toNatClampNeg ((224:Int32) ||| (x5 >>> ((12:Int32) &&& 31)))) x3_241.toNatClampNeg ((128:Int32) ||| ((x5 >>> ((6:Int32) &&& 31)) &&& (63:Int32))))) (w1 := (m_cw ad ca ky ty u5_rt (MM_mk (MM_err Mm) (MM_fed Mm) (MM_wrong Mm) (MM_octets Mm) (MM_nodeKind Mm) (MM_nodeA Mm) (MM_nodeB Mm) (MM_nodeC Mm) (MM_nodeNext Mm) (MM_low Mm) (MM_high Mm) (MM_setFrom Mm) (MM_setTo Mm) (MM_setNot Mm) (MM_op Mm) (MM_opA Mm) (MM_opB Mm) (MM_mark Mm) (MM_now Mm) (MM_then Mm) (MM_todo Mm) (MM_nodes Mm) (MM_sets Mm) (MM_ranges Mm) (MM_steps Mm) (MM_pat Mm) (MM_patEnd Mm) (MM_round Mm) (MM_many1 Mm) (MM_broken Mm) (MM_checked Mm) (MM_faultKind Mm) (MM_faultValue Mm) (MM_latestFault Mm) (MM_anchors Mm) (MM_key Mm) (MM_target Mm) (MM_anchorValue Mm) (MM_anchorSchema Mm) (MM_path Mm) (MM_route Mm) (MM_isSchema Mm) (MM_seen1 Mm) (MM_pathSize Mm) (upd (upd (upd (MM_octetRow Mm) x3.toNatClampNeg ((224:Int32) ||| (x5 >>> ((12:Int32) &&& 31)))) x3_241.toNatClampNeg ((128:Int32) ||| ((x5 >>> ((6:Int32) &&& 31)) &&& (63:Int32)))) x3_259.toNatClampNeg ((128:Int32) ||| (x5 &&& (63:Int32)))) (MM_partRow Mm) (MM_pairValue Mm) (MM_pairKey Mm) (MM_pairs Mm) (MM_judged Mm) (MM_deepest Mm) (MM_depth Mm) (MM_over Mm) (MM_seen Mm)) u5_M0 u5_M1)) C hP (hDD _ _ _ _) hS 29 28 mw_29 rfl g13 rfl d_MM_decode_292 (fun H locs hP hS => ?_)
        refine lv_goto (tgt := 374) hx hb d_MM_decode_293 (by decide) ?_
        obtain ⟨x4_374, ex4_374⟩ : ∃ y : Int32, y = x4 + (1:Int32) := ⟨_, rfl⟩
        replace h := o_nm_at ex4_374 h
        refine lv_iinc (v := x4_374) (lv' := [(4, .int x4_374), (3, .int x3_280), (0, .ref (ad 0)), (2, .int u5_x2), (5, .int x5)]) hx hb d_MM_decode_374 hl (k := 3) rfl (by rw [ex4_374]; rfl) (by decide) rfl (fun ls hl => ?_)
        refine lv_goto (tgt := 5) hx hb d_MM_decode_377 (by decide) ?_
        cases h
        exact h0 rfl _ _ _ hP hS (lv_sub hl [2, 3, 1, 0] rfl)
    · replace h := o_ff c5 h
      refine lv_aload_n hx hb d_MM_decode_189 rfl (lv_at hl 0 rfl) ?_
      refine o_get (v := .ref (ad 29)) C in_MM hP 0 mw_0 rfl 49 (by decide) k_8_39 rfl rfl d_MM_decode_190 ?_
      refine lv_iload_n hx hb d_MM_decode_193 rfl (lv_at hl 2 rfl) ?_
      obtain ⟨x3_194, ex3_194⟩ : ∃ y : Int32, y = x3 + (1:Int32) := ⟨_, rfl⟩
      replace h := o_nm_at ex3_194 h
      refine lv_iinc (v := x3_194) (lv' := [(3, .int x3_194), (0, .ref (ad 0)), (2, .int u5_x2), (4, .int x4), (5, .int x5)]) hx hb d_MM_decode_194 hl (k := 2) rfl (by rw [ex3_194]; rfl) (by decide) rfl (fun ls hl => ?_)
      refine lv_sipush (v := (192:Int32)) hx hb d_MM_decode_197 (by decide) ?_
      refine lv_iload hx hb d_MM_decode_200 (lv_at hl 4 rfl) ?_
      refine lv_bipush (v := (6:Int32)) hx hb d_MM_decode_202 (by decide) ?_
      refine lv_ishr hx hb d_MM_decode_204 ?_
      refine lv_ior hx hb d_MM_decode_205 ?_
      obtain ⟨g14, h⟩ := o_gd_some h
      refine o_iast (f := (MM_octetRow Mm)) (w1 := (m_cw ad ca ky ty u5_rt (MM_mk (MM_err Mm) (MM_fed Mm) (MM_wrong Mm) (MM_octets Mm) (MM_nodeKind Mm) (MM_nodeA Mm) (MM_nodeB Mm) (MM_nodeC Mm) (MM_nodeNext Mm) (MM_low Mm) (MM_high Mm) (MM_setFrom Mm) (MM_setTo Mm) (MM_setNot Mm) (MM_op Mm) (MM_opA Mm) (MM_opB Mm) (MM_mark Mm) (MM_now Mm) (MM_then Mm) (MM_todo Mm) (MM_nodes Mm) (MM_sets Mm) (MM_ranges Mm) (MM_steps Mm) (MM_pat Mm) (MM_patEnd Mm) (MM_round Mm) (MM_many1 Mm) (MM_broken Mm) (MM_checked Mm) (MM_faultKind Mm) (MM_faultValue Mm) (MM_latestFault Mm) (MM_anchors Mm) (MM_key Mm) (MM_target Mm) (MM_anchorValue Mm) (MM_anchorSchema Mm) (MM_path Mm) (MM_route Mm) (MM_isSchema Mm) (MM_seen1 Mm) (MM_pathSize Mm) (upd (MM_octetRow Mm) x3.toNatClampNeg ((192:Int32) ||| (x5 >>> ((6:Int32) &&& 31)))) (MM_partRow Mm) (MM_pairValue Mm) (MM_pairKey Mm) (MM_pairs Mm) (MM_judged Mm) (MM_deepest Mm) (MM_depth Mm) (MM_over Mm) (MM_seen Mm)) u5_M0 u5_M1)) C hP (hDD _ _ _ _) hS 29 28 mw_29 rfl g14 rfl d_MM_decode_206 (fun H locs hP hS => ?_)
      refine lv_aload_n hx hb d_MM_decode_207 rfl (lv_at hl 1 rfl) ?_
      refine o_get (v := .ref (ad 29)) C in_MM hP 0 mw_0 rfl 49 (by decide) k_8_39 rfl rfl d_MM_decode_208 ?_
      refine lv_iload_n hx hb d_MM_decode_211 rfl (lv_at hl 0 rfl) ?_
      obtain ⟨x3_212, ex3_212⟩ : ∃ y : Int32, y = x3_194 + (1:Int32) := ⟨_, rfl⟩
      replace h := o_nm_at ex3_212 h
      refine lv_iinc (v := x3_212) (lv' := [(3, .int x3_212), (0, .ref (ad 0)), (2, .int u5_x2), (4, .int x4), (5, .int x5)]) hx hb d_MM_decode_212 hl (k := 0) rfl (by rw [ex3_212]; rfl) (by decide) rfl (fun ls hl => ?_)
      refine lv_sipush (v := (128:Int32)) hx hb d_MM_decode_215 (by decide) ?_
      refine lv_iload hx hb d_MM_decode_218 (lv_at hl 4 rfl) ?_
      refine lv_bipush (v := (63:Int32)) hx hb d_MM_decode_220 (by decide) ?_
      refine lv_iand hx hb d_MM_decode_222 ?_
      refine lv_ior hx hb d_MM_decode_223 ?_
      obtain ⟨g15, h⟩ := o_gd_some h
      refine o_iast (f := (upd (MM_octetRow Mm) x3.toNatClampNeg ((192:Int32) ||| (x5 >>> ((6:Int32) &&& 31))))) (w1 := (m_cw ad ca ky ty u5_rt (MM_mk (MM_err Mm) (MM_fed Mm) (MM_wrong Mm) (MM_octets Mm) (MM_nodeKind Mm) (MM_nodeA Mm) (MM_nodeB Mm) (MM_nodeC Mm) (MM_nodeNext Mm) (MM_low Mm) (MM_high Mm) (MM_setFrom Mm) (MM_setTo Mm) (MM_setNot Mm) (MM_op Mm) (MM_opA Mm) (MM_opB Mm) (MM_mark Mm) (MM_now Mm) (MM_then Mm) (MM_todo Mm) (MM_nodes Mm) (MM_sets Mm) (MM_ranges Mm) (MM_steps Mm) (MM_pat Mm) (MM_patEnd Mm) (MM_round Mm) (MM_many1 Mm) (MM_broken Mm) (MM_checked Mm) (MM_faultKind Mm) (MM_faultValue Mm) (MM_latestFault Mm) (MM_anchors Mm) (MM_key Mm) (MM_target Mm) (MM_anchorValue Mm) (MM_anchorSchema Mm) (MM_path Mm) (MM_route Mm) (MM_isSchema Mm) (MM_seen1 Mm) (MM_pathSize Mm) (upd (upd (MM_octetRow Mm) x3.toNatClampNeg ((192:Int32) ||| (x5 >>> ((6:Int32) &&& 31)))) x3_194.toNatClampNeg ((128:Int32) ||| (x5 &&& (63:Int32)))) (MM_partRow Mm) (MM_pairValue Mm) (MM_pairKey Mm) (MM_pairs Mm) (MM_judged Mm) (MM_deepest Mm) (MM_depth Mm) (MM_over Mm) (MM_seen Mm)) u5_M0 u5_M1)) C hP (hDD _ _ _ _) hS 29 28 mw_29 rfl g15 rfl d_MM_decode_224 (fun H locs hP hS => ?_)
      refine lv_goto (tgt := 374) hx hb d_MM_decode_225 (by decide) ?_
      obtain ⟨x4_374, ex4_374⟩ : ∃ y : Int32, y = x4 + (1:Int32) := ⟨_, rfl⟩
      replace h := o_nm_at ex4_374 h
      refine lv_iinc (v := x4_374) (lv' := [(4, .int x4_374), (3, .int x3_212), (0, .ref (ad 0)), (2, .int u5_x2), (5, .int x5)]) hx hb d_MM_decode_374 hl (k := 3) rfl (by rw [ex4_374]; rfl) (by decide) rfl (fun ls hl => ?_)
      refine lv_goto (tgt := 5) hx hb d_MM_decode_377 (by decide) ?_
      cases h
      exact h0 rfl _ _ _ hP hS (lv_sub hl [2, 3, 1, 0] rfl)
  · replace h := o_ff c4 h
    refine lv_aload_n hx hb d_MM_decode_167 rfl (lv_at hl 0 rfl) ?_
    refine o_get (v := .ref (ad 29)) C in_MM hP 0 mw_0 rfl 49 (by decide) k_8_39 rfl rfl d_MM_decode_168 ?_
    refine lv_iload_n hx hb d_MM_decode_171 rfl (lv_at hl 2 rfl) ?_
    obtain ⟨x3_172, ex3_172⟩ : ∃ y : Int32, y = x3 + (1:Int32) := ⟨_, rfl⟩
    replace h := o_nm_at ex3_172 h
    refine lv_iinc (v := x3_172) (lv' := [(3, .int x3_172), (0, .ref (ad 0)), (2, .int u5_x2), (4, .int x4), (5, .int x5)]) hx hb d_MM_decode_172 hl (k := 2) rfl (by rw [ex3_172]; rfl) (by decide) rfl (fun ls hl => ?_)
    refine lv_iload hx hb d_MM_decode_175 (lv_at hl 4 rfl) ?_
    obtain ⟨g16, h⟩ := o_gd_some h
    refine o_iast (f := (MM_octetRow Mm)) (w1 := (m_cw ad ca ky ty u5_rt (MM_mk (MM_err Mm) (MM_fed Mm) (MM_wrong Mm) (MM_octets Mm) (MM_nodeKind Mm) (MM_nodeA Mm) (MM_nodeB Mm) (MM_nodeC Mm) (MM_nodeNext Mm) (MM_low Mm) (MM_high Mm) (MM_setFrom Mm) (MM_setTo Mm) (MM_setNot Mm) (MM_op Mm) (MM_opA Mm) (MM_opB Mm) (MM_mark Mm) (MM_now Mm) (MM_then Mm) (MM_todo Mm) (MM_nodes Mm) (MM_sets Mm) (MM_ranges Mm) (MM_steps Mm) (MM_pat Mm) (MM_patEnd Mm) (MM_round Mm) (MM_many1 Mm) (MM_broken Mm) (MM_checked Mm) (MM_faultKind Mm) (MM_faultValue Mm) (MM_latestFault Mm) (MM_anchors Mm) (MM_key Mm) (MM_target Mm) (MM_anchorValue Mm) (MM_anchorSchema Mm) (MM_path Mm) (MM_route Mm) (MM_isSchema Mm) (MM_seen1 Mm) (MM_pathSize Mm) (upd (MM_octetRow Mm) x3.toNatClampNeg x5) (MM_partRow Mm) (MM_pairValue Mm) (MM_pairKey Mm) (MM_pairs Mm) (MM_judged Mm) (MM_deepest Mm) (MM_depth Mm) (MM_over Mm) (MM_seen Mm)) u5_M0 u5_M1)) C hP (hDD _ _ _ _) hS 29 28 mw_29 rfl g16 rfl d_MM_decode_177 (fun H locs hP hS => ?_)
    refine lv_goto (tgt := 374) hx hb d_MM_decode_178 (by decide) ?_
    obtain ⟨x4_374, ex4_374⟩ : ∃ y : Int32, y = x4 + (1:Int32) := ⟨_, rfl⟩
    replace h := o_nm_at ex4_374 h
    refine lv_iinc (v := x4_374) (lv' := [(4, .int x4_374), (3, .int x3_172), (0, .ref (ad 0)), (2, .int u5_x2), (5, .int x5)]) hx hb d_MM_decode_374 hl (k := 3) rfl (by rw [ex4_374]; rfl) (by decide) rfl (fun ls hl => ?_)
    refine lv_goto (tgt := 5) hx hb d_MM_decode_377 (by decide) ?_
    cases h
    exact h0 rfl _ _ _ hP hS (lv_sub hl [2, 3, 1, 0] rfl)
set_option maxHeartbeats 4000000 in
set_option maxRecDepth 100000 in
theorem f_MM_decode_b5 {E : (Nat → Prop) → State → Heap → Prop} {p : Program} {l : Launch} {e : Env} {s : State} {m : MethodId} {args : Array Value} {below : List Frame} {meth : Method} {c : Code} {D : va_G} {ad kd sd vd xd : Nat → Nat} {ca : Nat → ClassId} {A : Nat → Prop} {ky ty : Nat → Option Nat} {Q : State → Prop} (hE : o_EK E kd sd vd xd) (hKy : m_KY ky ty sd) (C : o_Cx E p s m args meth c D m_cls (m_tys ca) "SchemaJudgeModel" b_MM_decode (some .boolean) 9 cc_MM_decode A) (hDD : ∀ (rt : Nat) (Mm : SMM) (M0 : SMT) (M1 : SMT), va_D A (m_cw ad ca ky ty rt Mm M0 M1)) (n : Nat) (u5_x2 : Int32) (u5_M0 : SMT) (u5_M1 : SMT) (u5_rt : Nat) (z : Int32 × Int32 × SMM) (q : Nat × Int32 × Int32 × SMM) (h : m_MM_decode_b5 n u5_x2 u5_M0 z = some q) (h0 : q.1 = 0 → o_At p l e rm_MM_decode s m args below meth c Q m_cls D A 9 5 [] (m_cw ad ca ky ty u5_rt q.2.2.2 u5_M0 u5_M1) [(0, .ref (ad 0)), (2, .int u5_x2), (3, .int q.2.1), (4, .int q.2.2.1)]) (h1 : q.1 ≠ 0 → (o_At p l e rm_MM_decode s m args below meth c Q m_cls D A 9 380 [] (m_cw ad ca ky ty u5_rt q.2.2.2 u5_M0 u5_M1) [(0, .ref (ad 0)), (3, .int q.2.1)])) : o_At p l e rm_MM_decode s m args below meth c Q m_cls D A 9 5 [] (m_cw ad ca ky ty u5_rt z.2.2 u5_M0 u5_M1) [(0, .ref (ad 0)), (2, .int u5_x2), (3, .int z.1), (4, .int z.2.1)] := by
  unfold m_MM_decode_b5 at h
  intro H locs ls hP hS hl
  have C0 := C
  obtain ⟨hx, hb, -, -, -, hown, hts, hK, -, -⟩ := C0
  refine lv_iload hx hb d_MM_decode_5 (lv_at hl 3 rfl) ?_
  refine lv_iload_n hx hb d_MM_decode_7 rfl (lv_at hl 1 rfl) ?_
  refine lv_icmp_ge (tgt := 380) hx hb d_MM_decode_8 (by decide) (fun c1 => ?_) (fun c1 => ?_)
  · replace h := o_tt c1 h
    cases h
    exact h1 (Nat.succ_ne_zero 0) _ _ _ hP hS (lv_sub hl [0, 2] rfl)
  · replace h := o_ff c1 h
    refine lv_aload_n hx hb d_MM_decode_11 rfl (lv_at hl 0 rfl) ?_
    refine o_get (v := .ref (ad 33)) C in_MM hP 0 mw_0 rfl 4 (by decide) k_7_234 rfl rfl d_MM_decode_12 ?_
    refine o_get (v := .ref (ad 44)) C in_MT hP 33 mw_33 rfl 10 (by decide) k_7_121 rfl rfl d_MM_decode_15 ?_
    refine lv_iload hx hb d_MM_decode_18 (lv_at hl 3 rfl) ?_
    obtain ⟨g2, h⟩ := o_gd_some h
    refine o_iald (f := (MT_characters u5_M0)) C hP 44 42 mw_44 rfl g2 d_MM_decode_20 ?_
    refine lv_topi (fun x5_21 ex5_21 => ?_)
    replace h := o_nm_at ex5_21 h
    refine lv_istore (lv' := [(5, .int x5_21), (0, .ref (ad 0)), (2, .int u5_x2), (3, .int z.1), (4, .int z.2.1)]) hx hb d_MM_decode_21 hl (by decide) rfl (fun ls hl => ?_)
    refine lv_iload hx hb d_MM_decode_23 (lv_at hl 0 rfl) ?_
    refine lv_bipush (v := (37:Int32)) hx hb d_MM_decode_25 (by decide) ?_
    refine lv_icmp_ne (tgt := 159) hx hb d_MM_decode_27 (by decide) (fun c3 => ?_) (fun c3 => ?_)
    · replace h := o_ff c3 h
      exact f_MM_decode_j159 hE hKy C hDD n u5_x2 u5_M0 u5_M1 u5_rt z.1 z.2.1 x5_21 z.2.2 h h0 h1 _ _ _ hP hS (lv_sub hl [1, 2, 3, 4, 0] rfl)
    · replace h := o_tt c3 h
      refine lv_iload hx hb d_MM_decode_30 (lv_at hl 4 rfl) ?_
      refine lv_iconst (v := (2:Int32)) hx hb d_MM_decode_32 (by decide) ?_
      refine lv_iadd hx hb d_MM_decode_33 ?_
      refine lv_iload_n hx hb d_MM_decode_34 rfl (lv_at hl 2 rfl) ?_
      refine lv_icmp_ge (tgt := 159) hx hb d_MM_decode_35 (by decide) (fun c17 => ?_) (fun c17 => ?_)
      · replace h := o_tt c17 h
        exact f_MM_decode_j159 hE hKy C hDD n u5_x2 u5_M0 u5_M1 u5_rt z.1 z.2.1 x5_21 z.2.2 h h0 h1 _ _ _ hP hS (lv_sub hl [1, 2, 3, 4, 0] rfl)
      · replace h := o_ff c17 h
        refine lv_aload_n hx hb d_MM_decode_38 rfl (lv_at hl 1 rfl) ?_
        refine o_get (v := .ref (ad 33)) C in_MM hP 0 mw_0 rfl 4 (by decide) k_7_234 rfl rfl d_MM_decode_39 ?_
        refine o_get (v := .ref (ad 44)) C in_MT hP 33 mw_33 rfl 10 (by decide) k_7_121 rfl rfl d_MM_decode_42 ?_
        refine lv_iload hx hb d_MM_decode_45 (lv_at hl 4 rfl) ?_
        refine lv_iconst (v := (1:Int32)) hx hb d_MM_decode_47 (by decide) ?_
        refine lv_iadd hx hb d_MM_decode_48 ?_
        obtain ⟨g18, h⟩ := o_gd_some h
        refine o_iald (f := (MT_characters u5_M0)) C hP 44 42 mw_44 rfl g18 d_MM_decode_49 ?_
        obtain ⟨q1, hq1, h⟩ := o_bd_some h
        refine o_S (st1 := [.int q1]) (w1 := (m_cw ad ca ky ty u5_rt z.2.2 u5_M0 u5_M1)) hE.1 C (e_MT_hex hE hKy l ((MT_characters u5_M0) (z.2.1 + (1:Int32)).toNatClampNeg) z.2.2 u5_M0 u5_M1 u5_rt hq1) hP (hDD _ _ _ _) hS hl.1 k_9_112 k_8_233 k_1_13 k_8_234 hs_MT_hex rfl rfl ⟨(Nat.le_of_ble_eq_true rfl), (Nat.le_of_ble_eq_true rfl)⟩ rfl (Nat.le_of_ble_eq_true rfl) ⟨Nat.zero_le _, Nat.zero_le _⟩ rfl d_MM_decode_50 (fun H locs hP hS => ?_)
        refine lv_if_lt (tgt := 159) hx hb d_MM_decode_53 (by decide) (fun c19 => ?_) (fun c19 => ?_)
        · replace h := o_tt c19 h
          exact f_MM_decode_j159 hE hKy C hDD n u5_x2 u5_M0 u5_M1 u5_rt z.1 z.2.1 x5_21 z.2.2 h h0 h1 _ _ _ hP hS (lv_sub hl [1, 2, 3, 4, 0] rfl)
        · replace h := o_ff c19 h
          refine lv_aload_n hx hb d_MM_decode_56 rfl (lv_at hl 1 rfl) ?_
          refine o_get (v := .ref (ad 33)) C in_MM hP 0 mw_0 rfl 4 (by decide) k_7_234 rfl rfl d_MM_decode_57 ?_
          refine o_get (v := .ref (ad 44)) C in_MT hP 33 mw_33 rfl 10 (by decide) k_7_121 rfl rfl d_MM_decode_60 ?_
          refine lv_iload hx hb d_MM_decode_63 (lv_at hl 4 rfl) ?_
          refine lv_iconst (v := (2:Int32)) hx hb d_MM_decode_65 (by decide) ?_
          refine lv_iadd hx hb d_MM_decode_66 ?_
          obtain ⟨g20, h⟩ := o_gd_some h
          refine o_iald (f := (MT_characters u5_M0)) C hP 44 42 mw_44 rfl g20 d_MM_decode_67 ?_
          obtain ⟨q2, hq2, h⟩ := o_bd_some h
          refine o_S (st1 := [.int q2]) (w1 := (m_cw ad ca ky ty u5_rt z.2.2 u5_M0 u5_M1)) hE.1 C (e_MT_hex hE hKy l ((MT_characters u5_M0) (z.2.1 + (2:Int32)).toNatClampNeg) z.2.2 u5_M0 u5_M1 u5_rt hq2) hP (hDD _ _ _ _) hS hl.1 k_9_112 k_8_233 k_1_13 k_8_234 hs_MT_hex rfl rfl ⟨(Nat.le_of_ble_eq_true rfl), (Nat.le_of_ble_eq_true rfl)⟩ rfl (Nat.le_of_ble_eq_true rfl) ⟨Nat.zero_le _, Nat.zero_le _⟩ rfl d_MM_decode_68 (fun H locs hP hS => ?_)
          refine lv_if_lt (tgt := 159) hx hb d_MM_decode_71 (by decide) (fun c21 => ?_) (fun c21 => ?_)
          · replace h := o_tt c21 h
            exact f_MM_decode_j159 hE hKy C hDD n u5_x2 u5_M0 u5_M1 u5_rt z.1 z.2.1 x5_21 z.2.2 h h0 h1 _ _ _ hP hS (lv_sub hl [1, 2, 3, 4, 0] rfl)
          · replace h := o_ff c21 h
            refine lv_aload_n hx hb d_MM_decode_74 rfl (lv_at hl 1 rfl) ?_
            refine o_get (v := .ref (ad 33)) C in_MM hP 0 mw_0 rfl 4 (by decide) k_7_234 rfl rfl d_MM_decode_75 ?_
            refine o_get (v := .ref (ad 44)) C in_MT hP 33 mw_33 rfl 10 (by decide) k_7_121 rfl rfl d_MM_decode_78 ?_
            refine lv_iload hx hb d_MM_decode_81 (lv_at hl 4 rfl) ?_
            refine lv_iconst (v := (1:Int32)) hx hb d_MM_decode_83 (by decide) ?_
            refine lv_iadd hx hb d_MM_decode_84 ?_
            obtain ⟨g22, h⟩ := o_gd_some h
            refine o_iald (f := (MT_characters u5_M0)) C hP 44 42 mw_44 rfl g22 d_MM_decode_85 ?_
            refine lv_sipush (v := (128:Int32)) hx hb d_MM_decode_86 (by decide) ?_
            refine lv_icmp_ge (tgt := 159) hx hb d_MM_decode_89 (by decide) (fun c23 => ?_) (fun c23 => ?_)
            · replace h := o_tt c23 h
              exact f_MM_decode_j159 hE hKy C hDD n u5_x2 u5_M0 u5_M1 u5_rt z.1 z.2.1 x5_21 z.2.2 h h0 h1 _ _ _ hP hS (lv_sub hl [1, 2, 3, 4, 0] rfl)
            · replace h := o_ff c23 h
              refine lv_aload_n hx hb d_MM_decode_92 rfl (lv_at hl 1 rfl) ?_
              refine o_get (v := .ref (ad 33)) C in_MM hP 0 mw_0 rfl 4 (by decide) k_7_234 rfl rfl d_MM_decode_93 ?_
              refine o_get (v := .ref (ad 44)) C in_MT hP 33 mw_33 rfl 10 (by decide) k_7_121 rfl rfl d_MM_decode_96 ?_
              refine lv_iload hx hb d_MM_decode_99 (lv_at hl 4 rfl) ?_
              refine lv_iconst (v := (2:Int32)) hx hb d_MM_decode_101 (by decide) ?_
              refine lv_iadd hx hb d_MM_decode_102 ?_
              obtain ⟨g24, h⟩ := o_gd_some h
              refine o_iald (f := (MT_characters u5_M0)) C hP 44 42 mw_44 rfl g24 d_MM_decode_103 ?_
              refine lv_sipush (v := (128:Int32)) hx hb d_MM_decode_104 (by decide) ?_
              refine lv_icmp_ge (tgt := 159) hx hb d_MM_decode_107 (by decide) (fun c25 => ?_) (fun c25 => ?_)
              · replace h := o_tt c25 h
                exact f_MM_decode_j159 hE hKy C hDD n u5_x2 u5_M0 u5_M1 u5_rt z.1 z.2.1 x5_21 z.2.2 h h0 h1 _ _ _ hP hS (lv_sub hl [1, 2, 3, 4, 0] rfl)
              · replace h := o_ff c25 h
                refine lv_aload_n hx hb d_MM_decode_110 rfl (lv_at hl 1 rfl) ?_
                refine o_get (v := .ref (ad 29)) C in_MM hP 0 mw_0 rfl 49 (by decide) k_8_39 rfl rfl d_MM_decode_111 ?_
                refine lv_iload_n hx hb d_MM_decode_114 rfl (lv_at hl 3 rfl) ?_
                obtain ⟨x3_115, ex3_115⟩ : ∃ y : Int32, y = z.1 + (1:Int32) := ⟨_, rfl⟩
                replace h := o_nm_at ex3_115 h
                refine lv_iinc (v := x3_115) (lv' := [(3, .int x3_115), (5, .int x5_21), (0, .ref (ad 0)), (2, .int u5_x2), (4, .int z.2.1)]) hx hb d_MM_decode_115 hl (k := 3) rfl (by rw [ex3_115]; rfl) (by decide) rfl (fun ls hl => ?_)
                refine lv_bipush (v := (16:Int32)) hx hb d_MM_decode_118 (by decide) ?_
                refine lv_aload_n hx hb d_MM_decode_120 rfl (lv_at hl 2 rfl) ?_
                refine o_get (v := .ref (ad 33)) C in_MM hP 0 mw_0 rfl 4 (by decide) k_7_234 rfl rfl d_MM_decode_121 ?_
                refine o_get (v := .ref (ad 44)) C in_MT hP 33 mw_33 rfl 10 (by decide) k_7_121 rfl rfl d_MM_decode_124 ?_
                refine lv_iload hx hb d_MM_decode_127 (lv_at hl 4 rfl) ?_
                refine lv_iconst (v := (1:Int32)) hx hb d_MM_decode_129 (by decide) ?_
                refine lv_iadd hx hb d_MM_decode_130 ?_
                obtain ⟨g26, h⟩ := o_gd_some h
                refine o_iald (f := (MT_characters u5_M0)) C hP 44 42 mw_44 rfl g26 d_MM_decode_131 ?_
                obtain ⟨q3, hq3, h⟩ := o_bd_some h
                refine o_S (st1 := [.int q3, .int (16:Int32), .int z.1, .ref (ad 29)]) (w1 := (m_cw ad ca ky ty u5_rt z.2.2 u5_M0 u5_M1)) hE.1 C (e_MT_hex hE hKy l ((MT_characters u5_M0) (z.2.1 + (1:Int32)).toNatClampNeg) z.2.2 u5_M0 u5_M1 u5_rt hq3) hP (hDD _ _ _ _) hS hl.1 k_9_112 k_8_233 k_1_13 k_8_234 hs_MT_hex rfl rfl ⟨(Nat.le_of_ble_eq_true rfl), (Nat.le_of_ble_eq_true rfl)⟩ rfl (Nat.le_of_ble_eq_true rfl) ⟨Nat.zero_le _, Nat.zero_le _⟩ rfl d_MM_decode_132 (fun H locs hP hS => ?_)
                refine lv_imul hx hb d_MM_decode_135 ?_
                refine lv_aload_n hx hb d_MM_decode_136 rfl (lv_at hl 2 rfl) ?_
                refine o_get (v := .ref (ad 33)) C in_MM hP 0 mw_0 rfl 4 (by decide) k_7_234 rfl rfl d_MM_decode_137 ?_
                refine o_get (v := .ref (ad 44)) C in_MT hP 33 mw_33 rfl 10 (by decide) k_7_121 rfl rfl d_MM_decode_140 ?_
                refine lv_iload hx hb d_MM_decode_143 (lv_at hl 4 rfl) ?_
                refine lv_iconst (v := (2:Int32)) hx hb d_MM_decode_145 (by decide) ?_
                refine lv_iadd hx hb d_MM_decode_146 ?_
                obtain ⟨g27, h⟩ := o_gd_some h
                refine o_iald (f := (MT_characters u5_M0)) C hP 44 42 mw_44 rfl g27 d_MM_decode_147 ?_
                obtain ⟨q4, hq4, h⟩ := o_bd_some h
                refine o_S (st1 := [.int q4, .int ((16:Int32) * q3), .int z.1, .ref (ad 29)]) (w1 := (m_cw ad ca ky ty u5_rt z.2.2 u5_M0 u5_M1)) hE.1 C (e_MT_hex hE hKy l ((MT_characters u5_M0) (z.2.1 + (2:Int32)).toNatClampNeg) z.2.2 u5_M0 u5_M1 u5_rt hq4) hP (hDD _ _ _ _) hS hl.1 k_9_112 k_8_233 k_1_13 k_8_234 hs_MT_hex rfl rfl ⟨(Nat.le_of_ble_eq_true rfl), (Nat.le_of_ble_eq_true rfl)⟩ rfl (Nat.le_of_ble_eq_true rfl) ⟨Nat.zero_le _, Nat.zero_le _⟩ rfl d_MM_decode_148 (fun H locs hP hS => ?_)
                refine lv_iadd hx hb d_MM_decode_151 ?_
                obtain ⟨g28, h⟩ := o_gd_some h
                refine o_iast (f := (MM_octetRow z.2.2)) (w1 := (m_cw ad ca ky ty u5_rt (MM_mk (MM_err z.2.2) (MM_fed z.2.2) (MM_wrong z.2.2) (MM_octets z.2.2) (MM_nodeKind z.2.2) (MM_nodeA z.2.2) (MM_nodeB z.2.2) (MM_nodeC z.2.2) (MM_nodeNext z.2.2) (MM_low z.2.2) (MM_high z.2.2) (MM_setFrom z.2.2) (MM_setTo z.2.2) (MM_setNot z.2.2) (MM_op z.2.2) (MM_opA z.2.2) (MM_opB z.2.2) (MM_mark z.2.2) (MM_now z.2.2) (MM_then z.2.2) (MM_todo z.2.2) (MM_nodes z.2.2) (MM_sets z.2.2) (MM_ranges z.2.2) (MM_steps z.2.2) (MM_pat z.2.2) (MM_patEnd z.2.2) (MM_round z.2.2) (MM_many1 z.2.2) (MM_broken z.2.2) (MM_checked z.2.2) (MM_faultKind z.2.2) (MM_faultValue z.2.2) (MM_latestFault z.2.2) (MM_anchors z.2.2) (MM_key z.2.2) (MM_target z.2.2) (MM_anchorValue z.2.2) (MM_anchorSchema z.2.2) (MM_path z.2.2) (MM_route z.2.2) (MM_isSchema z.2.2) (MM_seen1 z.2.2) (MM_pathSize z.2.2) (upd (MM_octetRow z.2.2) z.1.toNatClampNeg (((16:Int32) * q3) + q4)) (MM_partRow z.2.2) (MM_pairValue z.2.2) (MM_pairKey z.2.2) (MM_pairs z.2.2) (MM_judged z.2.2) (MM_deepest z.2.2) (MM_depth z.2.2) (MM_over z.2.2) (MM_seen z.2.2)) u5_M0 u5_M1)) C hP (hDD _ _ _ _) hS 29 28 mw_29 rfl g28 rfl d_MM_decode_152 (fun H locs hP hS => ?_)
                obtain ⟨x4_153, ex4_153⟩ : ∃ y : Int32, y = z.2.1 + (2:Int32) := ⟨_, rfl⟩
                replace h := o_nm_at ex4_153 h
                refine lv_iinc (v := x4_153) (lv' := [(4, .int x4_153), (3, .int x3_115), (5, .int x5_21), (0, .ref (ad 0)), (2, .int u5_x2)]) hx hb d_MM_decode_153 hl (k := 4) rfl (by rw [ex4_153]; rfl) (by decide) rfl (fun ls hl => ?_)
                refine lv_goto (tgt := 374) hx hb d_MM_decode_156 (by decide) ?_
                obtain ⟨x4_374, ex4_374⟩ : ∃ y : Int32, y = x4_153 + (1:Int32) := ⟨_, rfl⟩
                replace h := o_nm_at ex4_374 h
                refine lv_iinc (v := x4_374) (lv' := [(4, .int x4_374), (3, .int x3_115), (5, .int x5_21), (0, .ref (ad 0)), (2, .int u5_x2)]) hx hb d_MM_decode_374 hl (k := 0) rfl (by rw [ex4_374]; rfl) (by decide) rfl (fun ls hl => ?_)
                refine lv_goto (tgt := 5) hx hb d_MM_decode_377 (by decide) ?_
                cases h
                exact h0 rfl _ _ _ hP hS (lv_sub hl [3, 4, 1, 0] rfl)
set_option maxHeartbeats 4000000 in
set_option maxRecDepth 100000 in
theorem f_MM_decode_b542 {E : (Nat → Prop) → State → Heap → Prop} {p : Program} {l : Launch} {e : Env} {s : State} {m : MethodId} {args : Array Value} {below : List Frame} {meth : Method} {c : Code} {D : va_G} {ad kd sd vd xd : Nat → Nat} {ca : Nat → ClassId} {A : Nat → Prop} {ky ty : Nat → Option Nat} {Q : State → Prop} (hE : o_EK E kd sd vd xd) (hKy : m_KY ky ty sd) (C : o_Cx E p s m args meth c D m_cls (m_tys ca) "SchemaJudgeModel" b_MM_decode (some .boolean) 9 cc_MM_decode A) (hDD : ∀ (rt : Nat) (Mm : SMM) (M0 : SMT) (M1 : SMT), va_D A (m_cw ad ca ky ty rt Mm M0 M1)) (n : Nat) (u542_x3 : Int32) (u542_x4 : Int32) (u542_x6 : Int32) (u542_M0 : SMT) (u542_Mm : SMM) (u542_M1 : SMT) (u542_rt : Nat) (z : Int32 × Int32) (q : Nat × Int32 × Int32) (h : m_MM_decode_b542 n u542_x3 u542_x4 u542_x6 u542_M0 u542_Mm z = some q) (h0 : q.1 = 0 → o_At p l e rm_MM_decode s m args below meth c Q m_cls D A 9 542 [] (m_cw ad ca ky ty u542_rt u542_Mm u542_M0 u542_M1) [(0, .ref (ad 0)), (3, .int u542_x3), (4, .int u542_x4), (6, .int u542_x6), (7, .int q.2.1), (8, .int q.2.2)]) (h1 : q.1 ≠ 0 → (if q.1 = 1 then o_At p l e rm_MM_decode s m args below meth c Q m_cls D A 9 569 [] (m_cw ad ca ky ty u542_rt u542_Mm u542_M0 u542_M1) [] else o_At p l e rm_MM_decode s m args below meth c Q m_cls D A 9 598 [] (m_cw ad ca ky ty u542_rt u542_Mm u542_M0 u542_M1) [(0, .ref (ad 0)), (3, .int u542_x3), (4, .int u542_x4), (6, .int u542_x6), (7, .int q.2.1)])) : o_At p l e rm_MM_decode s m args below meth c Q m_cls D A 9 542 [] (m_cw ad ca ky ty u542_rt u542_Mm u542_M0 u542_M1) [(0, .ref (ad 0)), (3, .int u542_x3), (4, .int u542_x4), (6, .int u542_x6), (7, .int z.1), (8, .int z.2)] := by
  unfold m_MM_decode_b542 at h
  intro H locs ls hP hS hl
  have C0 := C
  obtain ⟨hx, hb, -, -, -, hown, hts, hK, -, -⟩ := C0
  refine lv_iload hx hb d_MM_decode_542 (lv_at hl 5 rfl) ?_
  refine lv_iload hx hb d_MM_decode_544 (lv_at hl 3 rfl) ?_
  refine lv_icmp_gt (tgt := 598) hx hb d_MM_decode_546 (by decide) (fun c40 => ?_) (fun c40 => ?_)
  · replace h := o_tt c40 h
    cases h
    exact h1 (Nat.succ_ne_zero 1) _ _ _ hP hS (lv_sub hl [0, 1, 2, 3, 4] rfl)
  · replace h := o_ff c40 h
    refine lv_aload_n hx hb d_MM_decode_549 rfl (lv_at hl 0 rfl) ?_
    refine o_get (v := .ref (ad 29)) C in_MM hP 0 mw_0 rfl 49 (by decide) k_8_39 rfl rfl d_MM_decode_550 ?_
    refine lv_iload hx hb d_MM_decode_553 (lv_at hl 2 rfl) ?_
    refine lv_iload hx hb d_MM_decode_555 (lv_at hl 5 rfl) ?_
    refine lv_iadd hx hb d_MM_decode_557 ?_
    obtain ⟨g41, h⟩ := o_gd_some h
    refine o_iald (f := (MM_octetRow u542_Mm)) C hP 29 28 mw_29 rfl g41 d_MM_decode_558 ?_
    refine lv_sipush (v := (192:Int32)) hx hb d_MM_decode_559 (by decide) ?_
    refine lv_iand hx hb d_MM_decode_562 ?_
    refine lv_sipush (v := (128:Int32)) hx hb d_MM_decode_563 (by decide) ?_
    refine lv_icmp_eq (tgt := 571) hx hb d_MM_decode_566 (by decide) (fun c42 => ?_) (fun c42 => ?_)
    · replace h := o_tt c42 h
      refine lv_iload hx hb d_MM_decode_571 (lv_at hl 4 rfl) ?_
      refine lv_bipush (v := (6:Int32)) hx hb d_MM_decode_573 (by decide) ?_
      refine lv_ishl hx hb d_MM_decode_575 ?_
      refine lv_aload_n hx hb d_MM_decode_576 rfl (lv_at hl 0 rfl) ?_
      refine o_get (v := .ref (ad 29)) C in_MM hP 0 mw_0 rfl 49 (by decide) k_8_39 rfl rfl d_MM_decode_577 ?_
      refine lv_iload hx hb d_MM_decode_580 (lv_at hl 2 rfl) ?_
      refine lv_iload hx hb d_MM_decode_582 (lv_at hl 5 rfl) ?_
      refine lv_iadd hx hb d_MM_decode_584 ?_
      obtain ⟨g43, h⟩ := o_gd_some h
      refine o_iald (f := (MM_octetRow u542_Mm)) C hP 29 28 mw_29 rfl g43 d_MM_decode_585 ?_
      refine lv_bipush (v := (63:Int32)) hx hb d_MM_decode_586 (by decide) ?_
      refine lv_iand hx hb d_MM_decode_588 ?_
      refine lv_ior hx hb d_MM_decode_589 ?_
      refine lv_topi (fun x7_590 ex7_590 => ?_)
      replace h := o_nm_at ex7_590 h
      refine lv_istore (lv' := [(7, .int x7_590), (0, .ref (ad 0)), (3, .int u542_x3), (4, .int u542_x4), (6, .int u542_x6), (8, .int z.2)]) hx hb d_MM_decode_590 hl (by decide) rfl (fun ls hl => ?_)
      obtain ⟨x8_592, ex8_592⟩ : ∃ y : Int32, y = z.2 + (1:Int32) := ⟨_, rfl⟩
      replace h := o_nm_at ex8_592 h
      refine lv_iinc (v := x8_592) (lv' := [(8, .int x8_592), (7, .int x7_590), (0, .ref (ad 0)), (3, .int u542_x3), (4, .int u542_x4), (6, .int u542_x6)]) hx hb d_MM_decode_592 hl (k := 5) rfl (by rw [ex8_592]; rfl) (by decide) rfl (fun ls hl => ?_)
      refine lv_goto (tgt := 542) hx hb d_MM_decode_595 (by decide) ?_
      cases h
      exact h0 rfl _ _ _ hP hS (lv_sub hl [2, 3, 4, 5, 1, 0] rfl)
    · replace h := o_ff c42 h
      cases h
      exact h1 (Nat.succ_ne_zero 0) _ _ _ hP hS (lv_sub hl [] rfl)
set_option maxHeartbeats 4000000 in
set_option maxRecDepth 100000 in
theorem f_MM_decode_j648 {E : (Nat → Prop) → State → Heap → Prop} {p : Program} {l : Launch} {e : Env} {s : State} {m : MethodId} {args : Array Value} {below : List Frame} {meth : Method} {c : Code} {D : va_G} {ad kd sd vd xd : Nat → Nat} {ca : Nat → ClassId} {A : Nat → Prop} {ky ty : Nat → Option Nat} {Q : State → Prop} (hE : o_EK E kd sd vd xd) (hKy : m_KY ky ty sd) (C : o_Cx E p s m args meth c D m_cls (m_tys ca) "SchemaJudgeModel" b_MM_decode (some .boolean) 9 cc_MM_decode A) (hDD : ∀ (rt : Nat) (Mm : SMM) (M0 : SMT) (M1 : SMT), va_D A (m_cw ad ca ky ty rt Mm M0 M1)) (n : Nat) (u388_x3 : Int32) (u388_M0 : SMT) (u388_M1 : SMT) (u388_rt : Nat) (x4 : Int32) (x6 : Int32) (x7 : Int32) (Mm : SMM) {q : Nat × Int32 × SMM} (h : m_MM_decode_j648 n u388_x3 x4 x6 x7 u388_M0 Mm = some q) (h0 : q.1 = 0 → o_At p l e rm_MM_decode s m args below meth c Q m_cls D A 9 388 [] (m_cw ad ca ky ty u388_rt q.2.2 u388_M0 u388_M1) [(0, .ref (ad 0)), (3, .int u388_x3), (4, .int q.2.1)]) (h1 : q.1 ≠ 0 → (if q.1 = 1 then o_At p l e rm_MM_decode s m args below meth c Q m_cls D A 9 492 [] (m_cw ad ca ky ty u388_rt q.2.2 u388_M0 u388_M1) [] else if q.1 = 2 then o_At p l e rm_MM_decode s m args below meth c Q m_cls D A 9 569 [] (m_cw ad ca ky ty u388_rt q.2.2 u388_M0 u388_M1) [] else if q.1 = 3 then o_At p l e rm_MM_decode s m args below meth c Q m_cls D A 9 646 [] (m_cw ad ca ky ty u388_rt q.2.2 u388_M0 u388_M1) [] else o_At p l e rm_MM_decode s m args below meth c Q m_cls D A 9 679 [] (m_cw ad ca ky ty u388_rt q.2.2 u388_M0 u388_M1) [])) : o_At p l e rm_MM_decode s m args below meth c Q m_cls D A 9 648 [] (m_cw ad ca ky ty u388_rt Mm u388_M0 u388_M1) [(0, .ref (ad 0)), (3, .int u388_x3), (4, .int x4), (6, .int x6), (7, .int x7)] := by
  unfold m_MM_decode_j648 at h
  intro H locs ls hP hS hl
  have C0 := C
  obtain ⟨hx, hb, -, -, -, hown, hts, hK, -, -⟩ := C0
  refine lv_aload_n hx hb d_MM_decode_648 rfl (lv_at hl 0 rfl) ?_
  refine o_get (v := .ref (ad 25)) C in_MM hP 0 mw_0 rfl 44 (by decide) k_8_34 rfl rfl d_MM_decode_649 ?_
  refine lv_aload_n hx hb d_MM_decode_652 rfl (lv_at hl 0 rfl) ?_
  refine lv_dup hx hb d_MM_decode_653 rfl ?_
  refine o_get (v := .int (MM_pathSize Mm)) C in_MM hP 0 mw_0 rfl 48 (by decide) k_8_38 rfl rfl d_MM_decode_654 ?_
  refine lv_dup_x1 hx hb d_MM_decode_657 rfl rfl ?_
  refine lv_iconst (v := (1:Int32)) hx hb d_MM_decode_658 (by decide) ?_
  refine lv_iadd hx hb d_MM_decode_659 ?_
  refine o_put (v := .int ((MM_pathSize Mm) + (1:Int32))) (ty := .int) (w1 := (m_cw ad ca ky ty u388_rt (MM_mk (MM_err Mm) (MM_fed Mm) (MM_wrong Mm) (MM_octets Mm) (MM_nodeKind Mm) (MM_nodeA Mm) (MM_nodeB Mm) (MM_nodeC Mm) (MM_nodeNext Mm) (MM_low Mm) (MM_high Mm) (MM_setFrom Mm) (MM_setTo Mm) (MM_setNot Mm) (MM_op Mm) (MM_opA Mm) (MM_opB Mm) (MM_mark Mm) (MM_now Mm) (MM_then Mm) (MM_todo Mm) (MM_nodes Mm) (MM_sets Mm) (MM_ranges Mm) (MM_steps Mm) (MM_pat Mm) (MM_patEnd Mm) (MM_round Mm) (MM_many1 Mm) (MM_broken Mm) (MM_checked Mm) (MM_faultKind Mm) (MM_faultValue Mm) (MM_latestFault Mm) (MM_anchors Mm) (MM_key Mm) (MM_target Mm) (MM_anchorValue Mm) (MM_anchorSchema Mm) (MM_path Mm) (MM_route Mm) (MM_isSchema Mm) (MM_seen1 Mm) ((MM_pathSize Mm) + (1:Int32)) (MM_octetRow Mm) (MM_partRow Mm) (MM_pairValue Mm) (MM_pairKey Mm) (MM_pairs Mm) (MM_judged Mm) (MM_deepest Mm) (MM_depth Mm) (MM_over Mm) (MM_seen Mm)) u388_M0 u388_M1)) C in_MM t_MM t_MM_ok n_MM hP (hDD _ _ _ _) hS 0 mw_0 rfl 48 (by decide) k_8_38 rfl rfl (by decide +kernel) rfl rfl (Nat.le_of_ble_eq_true rfl) rfl d_MM_decode_660 (fun H locs hP hS => ?_)
  refine lv_iload hx hb d_MM_decode_663 (lv_at hl 4 rfl) ?_
  obtain ⟨g46, h⟩ := o_gd_some h
  refine o_iast (f := (MM_path Mm)) (w1 := (m_cw ad ca ky ty u388_rt (MM_mk (MM_err Mm) (MM_fed Mm) (MM_wrong Mm) (MM_octets Mm) (MM_nodeKind Mm) (MM_nodeA Mm) (MM_nodeB Mm) (MM_nodeC Mm) (MM_nodeNext Mm) (MM_low Mm) (MM_high Mm) (MM_setFrom Mm) (MM_setTo Mm) (MM_setNot Mm) (MM_op Mm) (MM_opA Mm) (MM_opB Mm) (MM_mark Mm) (MM_now Mm) (MM_then Mm) (MM_todo Mm) (MM_nodes Mm) (MM_sets Mm) (MM_ranges Mm) (MM_steps Mm) (MM_pat Mm) (MM_patEnd Mm) (MM_round Mm) (MM_many1 Mm) (MM_broken Mm) (MM_checked Mm) (MM_faultKind Mm) (MM_faultValue Mm) (MM_latestFault Mm) (MM_anchors Mm) (MM_key Mm) (MM_target Mm) (MM_anchorValue Mm) (MM_anchorSchema Mm) (upd (MM_path Mm) (MM_pathSize Mm).toNatClampNeg x7) (MM_route Mm) (MM_isSchema Mm) (MM_seen1 Mm) ((MM_pathSize Mm) + (1:Int32)) (MM_octetRow Mm) (MM_partRow Mm) (MM_pairValue Mm) (MM_pairKey Mm) (MM_pairs Mm) (MM_judged Mm) (MM_deepest Mm) (MM_depth Mm) (MM_over Mm) (MM_seen Mm)) u388_M0 u388_M1)) C hP (hDD _ _ _ _) hS 25 24 mw_25 rfl g46 rfl d_MM_decode_665 (fun H locs hP hS => ?_)
  refine lv_iload hx hb d_MM_decode_666 (lv_at hl 2 rfl) ?_
  refine lv_iload hx hb d_MM_decode_668 (lv_at hl 3 rfl) ?_
  refine lv_iadd hx hb d_MM_decode_670 ?_
  refine lv_topi (fun x4_671 ex4_671 => ?_)
  replace h := o_nm_at ex4_671 h
  refine lv_istore (lv' := [(4, .int x4_671), (0, .ref (ad 0)), (3, .int u388_x3), (6, .int x6), (7, .int x7)]) hx hb d_MM_decode_671 hl (by decide) rfl (fun ls hl => ?_)
  obtain ⟨x4_673, ex4_673⟩ : ∃ y : Int32, y = x4_671 + (1:Int32) := ⟨_, rfl⟩
  replace h := o_nm_at ex4_673 h
  refine lv_iinc (v := x4_673) (lv' := [(4, .int x4_673), (0, .ref (ad 0)), (3, .int u388_x3), (6, .int x6), (7, .int x7)]) hx hb d_MM_decode_673 hl (k := 0) rfl (by rw [ex4_673]; rfl) (by decide) rfl (fun ls hl => ?_)
  refine lv_goto (tgt := 388) hx hb d_MM_decode_676 (by decide) ?_
  cases h
  exact h0 rfl _ _ _ hP hS (lv_sub hl [1, 2, 0] rfl)
set_option maxHeartbeats 4000000 in
set_option maxRecDepth 100000 in
theorem f_MM_decode_j626 {E : (Nat → Prop) → State → Heap → Prop} {p : Program} {l : Launch} {e : Env} {s : State} {m : MethodId} {args : Array Value} {below : List Frame} {meth : Method} {c : Code} {D : va_G} {ad kd sd vd xd : Nat → Nat} {ca : Nat → ClassId} {A : Nat → Prop} {ky ty : Nat → Option Nat} {Q : State → Prop} (hE : o_EK E kd sd vd xd) (hKy : m_KY ky ty sd) (C : o_Cx E p s m args meth c D m_cls (m_tys ca) "SchemaJudgeModel" b_MM_decode (some .boolean) 9 cc_MM_decode A) (hDD : ∀ (rt : Nat) (Mm : SMM) (M0 : SMT) (M1 : SMT), va_D A (m_cw ad ca ky ty rt Mm M0 M1)) (n : Nat) (u388_x3 : Int32) (u388_M0 : SMT) (u388_M1 : SMT) (u388_rt : Nat) (x4 : Int32) (x6 : Int32) (x7 : Int32) (Mm : SMM) {q : Nat × Int32 × SMM} (h : m_MM_decode_j626 n u388_x3 x4 x6 x7 u388_M0 Mm = some q) (h0 : q.1 = 0 → o_At p l e rm_MM_decode s m args below meth c Q m_cls D A 9 388 [] (m_cw ad ca ky ty u388_rt q.2.2 u388_M0 u388_M1) [(0, .ref (ad 0)), (3, .int u388_x3), (4, .int q.2.1)]) (h1 : q.1 ≠ 0 → (if q.1 = 1 then o_At p l e rm_MM_decode s m args below meth c Q m_cls D A 9 492 [] (m_cw ad ca ky ty u388_rt q.2.2 u388_M0 u388_M1) [] else if q.1 = 2 then o_At p l e rm_MM_decode s m args below meth c Q m_cls D A 9 569 [] (m_cw ad ca ky ty u388_rt q.2.2 u388_M0 u388_M1) [] else if q.1 = 3 then o_At p l e rm_MM_decode s m args below meth c Q m_cls D A 9 646 [] (m_cw ad ca ky ty u388_rt q.2.2 u388_M0 u388_M1) [] else o_At p l e rm_MM_decode s m args below meth c Q m_cls D A 9 679 [] (m_cw ad ca ky ty u388_rt q.2.2 u388_M0 u388_M1) [])) : o_At p l e rm_MM_decode s m args below meth c Q m_cls D A 9 626 [] (m_cw ad ca ky ty u388_rt Mm u388_M0 u388_M1) [(0, .ref (ad 0)), (3, .int u388_x3), (4, .int x4), (6, .int x6), (7, .int x7)] := by
  unfold m_MM_decode_j626 at h
  intro H locs ls hP hS hl
  have C0 := C
  obtain ⟨hx, hb, -, -, -, hown, hts, hK, -, -⟩ := C0
  refine lv_iload hx hb d_MM_decode_626 (lv_at hl 3 rfl) ?_
  refine lv_iconst (v := (3:Int32)) hx hb d_MM_decode_628 (by decide) ?_
  refine lv_icmp_ne (tgt := 648) hx hb d_MM_decode_629 (by decide) (fun c45 => ?_) (fun c45 => ?_)
  · replace h := o_ff c45 h
    exact f_MM_decode_j648 hE hKy C hDD n u388_x3 u388_M0 u388_M1 u388_rt x4 x6 x7 Mm h h0 h1 _ _ _ hP hS (lv_sub hl [0, 1, 2, 3, 4] rfl)
  · replace h := o_tt c45 h
    refine lv_iload hx hb d_MM_decode_632 (lv_at hl 4 rfl) ?_
    refine lv_ldcw (v := (65536:Int32)) hx hb hown (hts _ k_9_187) d_MM_decode_634 ?_
    refine lv_ldcw (v := (1114111:Int32)) hx hb hown (hts _ k_9_107) d_MM_decode_637 ?_
    obtain ⟨q7, hq7, h⟩ := o_bd_some h
    refine o_S (st1 := [.int q7]) (w1 := (m_cw ad ca ky ty u388_rt Mm u388_M0 u388_M1)) hE.1 C (e_MM_in hE hKy l x7 (65536:Int32) (1114111:Int32) Mm u388_M0 u388_M1 u388_rt hq7) hP (hDD _ _ _ _) hS hl.1 k_9_41 k_8_201 k_1_12 k_8_202 hs_MM_in rfl rfl ⟨(Nat.le_of_ble_eq_true rfl), (Nat.le_of_ble_eq_true rfl)⟩ rfl (Nat.le_of_ble_eq_true rfl) ⟨Nat.zero_le _, Nat.zero_le _⟩ rfl d_MM_decode_640 (fun H locs hP hS => ?_)
    refine lv_if_ne (tgt := 648) hx hb d_MM_decode_643 (by decide) (fun c47 => ?_) (fun c47 => ?_)
    · replace h := o_ff c47 h
      exact f_MM_decode_j648 hE hKy C hDD n u388_x3 u388_M0 u388_M1 u388_rt x4 x6 x7 Mm h h0 h1 _ _ _ hP hS (lv_sub hl [0, 1, 2, 3, 4] rfl)
    · replace h := o_tt c47 h
      cases h
      exact h1 (Nat.succ_ne_zero 2) _ _ _ hP hS (lv_sub hl [] rfl)
set_option maxHeartbeats 4000000 in
set_option maxRecDepth 100000 in
theorem f_MM_decode_j476 {E : (Nat → Prop) → State → Heap → Prop} {p : Program} {l : Launch} {e : Env} {s : State} {m : MethodId} {args : Array Value} {below : List Frame} {meth : Method} {c : Code} {D : va_G} {ad kd sd vd xd : Nat → Nat} {ca : Nat → ClassId} {A : Nat → Prop} {ky ty : Nat → Option Nat} {Q : State → Prop} (hE : o_EK E kd sd vd xd) (hKy : m_KY ky ty sd) (C : o_Cx E p s m args meth c D m_cls (m_tys ca) "SchemaJudgeModel" b_MM_decode (some .boolean) 9 cc_MM_decode A) (hDD : ∀ (rt : Nat) (Mm : SMM) (M0 : SMT) (M1 : SMT), va_D A (m_cw ad ca ky ty rt Mm M0 M1)) (n : Nat) (u388_x3 : Int32) (u388_M0 : SMT) (u388_M1 : SMT) (u388_rt : Nat) (x4 : Int32) (x5 : Int32) (y0 : Int32) (Mm : SMM) {q : Nat × Int32 × SMM} (h : m_MM_decode_j476 n u388_x3 x4 x5 y0 u388_M0 Mm = some q) (h0 : q.1 = 0 → o_At p l e rm_MM_decode s m args below meth c Q m_cls D A 9 388 [] (m_cw ad ca ky ty u388_rt q.2.2 u388_M0 u388_M1) [(0, .ref (ad 0)), (3, .int u388_x3), (4, .int q.2.1)]) (h1 : q.1 ≠ 0 → (if q.1 = 1 then o_At p l e rm_MM_decode s m args below meth c Q m_cls D A 9 492 [] (m_cw ad ca ky ty u388_rt q.2.2 u388_M0 u388_M1) [] else if q.1 = 2 then o_At p l e rm_MM_decode s m args below meth c Q m_cls D A 9 569 [] (m_cw ad ca ky ty u388_rt q.2.2 u388_M0 u388_M1) [] else if q.1 = 3 then o_At p l e rm_MM_decode s m args below meth c Q m_cls D A 9 646 [] (m_cw ad ca ky ty u388_rt q.2.2 u388_M0 u388_M1) [] else o_At p l e rm_MM_decode s m args below meth c Q m_cls D A 9 679 [] (m_cw ad ca ky ty u388_rt q.2.2 u388_M0 u388_M1) [])) : o_At p l e rm_MM_decode s m args below meth c Q m_cls D A 9 476 [.int y0] (m_cw ad ca ky ty u388_rt Mm u388_M0 u388_M1) [(0, .ref (ad 0)), (3, .int u388_x3), (4, .int x4), (5, .int x5)] := by
  unfold m_MM_decode_j476 at h
  intro H locs ls hP hS hl
  have C0 := C
  obtain ⟨hx, hb, -, -, -, hown, hts, hK, -, -⟩ := C0
  refine lv_istore (lv' := [(6, .int y0), (0, .ref (ad 0)), (3, .int u388_x3), (4, .int x4), (5, .int x5)]) hx hb d_MM_decode_476 hl (by decide) rfl (fun ls hl => ?_)
  refine lv_iload hx hb d_MM_decode_478 (lv_at hl 0 rfl) ?_
  refine lv_if_lt (tgt := 492) hx hb d_MM_decode_480 (by decide) (fun c35 => ?_) (fun c35 => ?_)
  · replace h := o_tt c35 h
    cases h
    exact h1 (Nat.succ_ne_zero 0) _ _ _ hP hS (lv_sub hl [] rfl)
  · replace h := o_ff c35 h
    refine lv_iload hx hb d_MM_decode_483 (lv_at hl 3 rfl) ?_
    refine lv_iload hx hb d_MM_decode_485 (lv_at hl 0 rfl) ?_
    refine lv_iadd hx hb d_MM_decode_487 ?_
    refine lv_iload_n hx hb d_MM_decode_488 rfl (lv_at hl 2 rfl) ?_
    refine lv_icmp_lt (tgt := 494) hx hb d_MM_decode_489 (by decide) (fun c36 => ?_) (fun c36 => ?_)
    · replace h := o_tt c36 h
      refine lv_iload hx hb d_MM_decode_494 (lv_at hl 0 rfl) ?_
      refine lv_if_ne (tgt := 504) hx hb d_MM_decode_496 (by decide) (fun c37 => ?_) (fun c37 => ?_)
      · replace h := o_ff c37 h
        refine lv_iload hx hb d_MM_decode_504 (lv_at hl 0 rfl) ?_
        refine lv_iconst (v := (1:Int32)) hx hb d_MM_decode_506 (by decide) ?_
        refine lv_icmp_ne (tgt := 518) hx hb d_MM_decode_507 (by decide) (fun c38 => ?_) (fun c38 => ?_)
        · replace h := o_ff c38 h
          refine lv_iload hx hb d_MM_decode_518 (lv_at hl 0 rfl) ?_
          refine lv_iconst (v := (2:Int32)) hx hb d_MM_decode_520 (by decide) ?_
          refine lv_icmp_ne (tgt := 532) hx hb d_MM_decode_521 (by decide) (fun c39 => ?_) (fun c39 => ?_)
          · replace h := o_ff c39 h
            refine lv_iload hx hb d_MM_decode_532 (lv_at hl 4 rfl) ?_
            refine lv_bipush (v := (7:Int32)) hx hb d_MM_decode_534 (by decide) ?_
            refine lv_iand hx hb d_MM_decode_536 ?_
            refine lv_topi (fun x7_537 ex7_537 => ?_)
            replace h := o_nm_at ex7_537 h
            refine lv_istore (lv' := [(7, .int x7_537), (6, .int y0), (0, .ref (ad 0)), (3, .int u388_x3), (4, .int x4), (5, .int x5)]) hx hb d_MM_decode_537 hl (by decide) rfl (fun ls hl => ?_)
            refine lv_iconst (v := (1:Int32)) hx hb d_MM_decode_539 (by decide) ?_
            refine lv_istore (lv' := [(8, .int (1:Int32)), (7, .int x7_537), (6, .int y0), (0, .ref (ad 0)), (3, .int u388_x3), (4, .int x4), (5, .int x5)]) hx hb d_MM_decode_540 hl (by decide) rfl (fun ls hl => ?_)
            obtain ⟨q6, hq6, h⟩ := o_bd_some h
            refine o_sim2 (AH := fun zz => o_At p l e rm_MM_decode s m args below meth c _ m_cls D A 9 542 [] (m_cw ad ca ky ty u388_rt Mm u388_M0 u388_M1) [(0, .ref (ad 0)), (3, .int u388_x3), (4, .int x4), (6, .int y0), (7, .int zz.1), (8, .int zz.2)]) (AX := fun qq => if qq.1 = 1 then o_At p l e rm_MM_decode s m args below meth c _ m_cls D A 9 569 [] (m_cw ad ca ky ty u388_rt Mm u388_M0 u388_M1) [] else o_At p l e rm_MM_decode s m args below meth c _ m_cls D A 9 598 [] (m_cw ad ca ky ty u388_rt Mm u388_M0 u388_M1) [(0, .ref (ad 0)), (3, .int u388_x3), (4, .int x4), (6, .int y0), (7, .int qq.2.1)]) (fun zz qq h h0 h1 => f_MM_decode_b542 hE hKy C hDD n u388_x3 x4 y0 u388_M0 Mm u388_M1 u388_rt zz qq h h0 h1) n _ q6 hq6 ?_ _ _ _ hP hS (lv_sub hl [3, 4, 5, 2, 1, 0] rfl)
            by_cases c50 : q6.1 = 1
            · replace h := o_tt c50 h
              refine o_ip c50 ?_
              intro H locs ls hP hS hl
              cases h
              exact h1 (Nat.succ_ne_zero 1) _ _ _ hP hS (lv_sub hl [] rfl)
            replace h := o_ff c50 h
            refine o_in_ c50 ?_
            intro H locs ls hP hS hl
            refine lv_iload hx hb d_MM_decode_598 (lv_at hl 3 rfl) ?_
            refine lv_iconst (v := (2:Int32)) hx hb d_MM_decode_600 (by decide) ?_
            refine lv_icmp_ne (tgt := 626) hx hb d_MM_decode_601 (by decide) (fun c44 => ?_) (fun c44 => ?_)
            · replace h := o_ff c44 h
              exact f_MM_decode_j626 hE hKy C hDD n u388_x3 u388_M0 u388_M1 u388_rt x4 y0 q6.2.1 Mm h h0 h1 _ _ _ hP hS (lv_sub hl [0, 1, 2, 3, 4] rfl)
            · replace h := o_tt c44 h
              refine lv_iload hx hb d_MM_decode_604 (lv_at hl 4 rfl) ?_
              refine lv_sipush (v := (2048:Int32)) hx hb d_MM_decode_606 (by decide) ?_
              refine lv_icmp_lt (tgt := 646) hx hb d_MM_decode_609 (by decide) (fun c48 => ?_) (fun c48 => ?_)
              · replace h := o_tt c48 h
                cases h
                exact h1 (Nat.succ_ne_zero 2) _ _ _ hP hS (lv_sub hl [] rfl)
              · replace h := o_ff c48 h
                refine lv_iload hx hb d_MM_decode_612 (lv_at hl 4 rfl) ?_
                refine lv_ldcw (v := (55296:Int32)) hx hb hown (hts _ k_9_188) d_MM_decode_614 ?_
                refine lv_ldcw (v := (57343:Int32)) hx hb hown (hts _ k_9_189) d_MM_decode_617 ?_
                obtain ⟨q8, hq8, h⟩ := o_bd_some h
                refine o_S (st1 := [.int q8]) (w1 := (m_cw ad ca ky ty u388_rt Mm u388_M0 u388_M1)) hE.1 C (e_MM_in hE hKy l q6.2.1 (55296:Int32) (57343:Int32) Mm u388_M0 u388_M1 u388_rt hq8) hP (hDD _ _ _ _) hS hl.1 k_9_41 k_8_201 k_1_12 k_8_202 hs_MM_in rfl rfl ⟨(Nat.le_of_ble_eq_true rfl), (Nat.le_of_ble_eq_true rfl)⟩ rfl (Nat.le_of_ble_eq_true rfl) ⟨Nat.zero_le _, Nat.zero_le _⟩ rfl d_MM_decode_620 (fun H locs hP hS => ?_)
                refine lv_if_ne (tgt := 646) hx hb d_MM_decode_623 (by decide) (fun c49 => ?_) (fun c49 => ?_)
                · replace h := o_ff c49 h
                  cases h
                  exact h1 (Nat.succ_ne_zero 2) _ _ _ hP hS (lv_sub hl [] rfl)
                · replace h := o_tt c49 h
                  exact f_MM_decode_j626 hE hKy C hDD n u388_x3 u388_M0 u388_M1 u388_rt x4 y0 q6.2.1 Mm h h0 h1 _ _ _ hP hS (lv_sub hl [0, 1, 2, 3, 4] rfl)
          · replace h := o_tt c39 h
            refine lv_iload hx hb d_MM_decode_524 (lv_at hl 4 rfl) ?_
            refine lv_bipush (v := (15:Int32)) hx hb d_MM_decode_526 (by decide) ?_
            refine lv_iand hx hb d_MM_decode_528 ?_
            refine lv_goto (tgt := 537) hx hb d_MM_decode_529 (by decide) ?_
            refine lv_topi (fun x7_537 ex7_537 => ?_)
            replace h := o_nm_at ex7_537 h
            refine lv_istore (lv' := [(7, .int x7_537), (6, .int y0), (0, .ref (ad 0)), (3, .int u388_x3), (4, .int x4), (5, .int x5)]) hx hb d_MM_decode_537 hl (by decide) rfl (fun ls hl => ?_)
            refine lv_iconst (v := (1:Int32)) hx hb d_MM_decode_539 (by decide) ?_
            refine lv_istore (lv' := [(8, .int (1:Int32)), (7, .int x7_537), (6, .int y0), (0, .ref (ad 0)), (3, .int u388_x3), (4, .int x4), (5, .int x5)]) hx hb d_MM_decode_540 hl (by decide) rfl (fun ls hl => ?_)
            obtain ⟨q9, hq9, h⟩ := o_bd_some h
            refine o_sim2 (AH := fun zz => o_At p l e rm_MM_decode s m args below meth c _ m_cls D A 9 542 [] (m_cw ad ca ky ty u388_rt Mm u388_M0 u388_M1) [(0, .ref (ad 0)), (3, .int u388_x3), (4, .int x4), (6, .int y0), (7, .int zz.1), (8, .int zz.2)]) (AX := fun qq => if qq.1 = 1 then o_At p l e rm_MM_decode s m args below meth c _ m_cls D A 9 569 [] (m_cw ad ca ky ty u388_rt Mm u388_M0 u388_M1) [] else o_At p l e rm_MM_decode s m args below meth c _ m_cls D A 9 598 [] (m_cw ad ca ky ty u388_rt Mm u388_M0 u388_M1) [(0, .ref (ad 0)), (3, .int u388_x3), (4, .int x4), (6, .int y0), (7, .int qq.2.1)]) (fun zz qq h h0 h1 => f_MM_decode_b542 hE hKy C hDD n u388_x3 x4 y0 u388_M0 Mm u388_M1 u388_rt zz qq h h0 h1) n _ q9 hq9 ?_ _ _ _ hP hS (lv_sub hl [3, 4, 5, 2, 1, 0] rfl)
            by_cases c54 : q9.1 = 1
            · replace h := o_tt c54 h
              refine o_ip c54 ?_
              intro H locs ls hP hS hl
              cases h
              exact h1 (Nat.succ_ne_zero 1) _ _ _ hP hS (lv_sub hl [] rfl)
            replace h := o_ff c54 h
            refine o_in_ c54 ?_
            intro H locs ls hP hS hl
            refine lv_iload hx hb d_MM_decode_598 (lv_at hl 3 rfl) ?_
            refine lv_iconst (v := (2:Int32)) hx hb d_MM_decode_600 (by decide) ?_
            refine lv_icmp_ne (tgt := 626) hx hb d_MM_decode_601 (by decide) (fun c51 => ?_) (fun c51 => ?_)
            · replace h := o_ff c51 h
              exact f_MM_decode_j626 hE hKy C hDD n u388_x3 u388_M0 u388_M1 u388_rt x4 y0 q9.2.1 Mm h h0 h1 _ _ _ hP hS (lv_sub hl [0, 1, 2, 3, 4] rfl)
            · replace h := o_tt c51 h
              refine lv_iload hx hb d_MM_decode_604 (lv_at hl 4 rfl) ?_
              refine lv_sipush (v := (2048:Int32)) hx hb d_MM_decode_606 (by decide) ?_
              refine lv_icmp_lt (tgt := 646) hx hb d_MM_decode_609 (by decide) (fun c52 => ?_) (fun c52 => ?_)
              · replace h := o_tt c52 h
                cases h
                exact h1 (Nat.succ_ne_zero 2) _ _ _ hP hS (lv_sub hl [] rfl)
              · replace h := o_ff c52 h
                refine lv_iload hx hb d_MM_decode_612 (lv_at hl 4 rfl) ?_
                refine lv_ldcw (v := (55296:Int32)) hx hb hown (hts _ k_9_188) d_MM_decode_614 ?_
                refine lv_ldcw (v := (57343:Int32)) hx hb hown (hts _ k_9_189) d_MM_decode_617 ?_
                obtain ⟨q10, hq10, h⟩ := o_bd_some h
                refine o_S (st1 := [.int q10]) (w1 := (m_cw ad ca ky ty u388_rt Mm u388_M0 u388_M1)) hE.1 C (e_MM_in hE hKy l q9.2.1 (55296:Int32) (57343:Int32) Mm u388_M0 u388_M1 u388_rt hq10) hP (hDD _ _ _ _) hS hl.1 k_9_41 k_8_201 k_1_12 k_8_202 hs_MM_in rfl rfl ⟨(Nat.le_of_ble_eq_true rfl), (Nat.le_of_ble_eq_true rfl)⟩ rfl (Nat.le_of_ble_eq_true rfl) ⟨Nat.zero_le _, Nat.zero_le _⟩ rfl d_MM_decode_620 (fun H locs hP hS => ?_)
                refine lv_if_ne (tgt := 646) hx hb d_MM_decode_623 (by decide) (fun c53 => ?_) (fun c53 => ?_)
                · replace h := o_ff c53 h
                  cases h
                  exact h1 (Nat.succ_ne_zero 2) _ _ _ hP hS (lv_sub hl [] rfl)
                · replace h := o_tt c53 h
                  exact f_MM_decode_j626 hE hKy C hDD n u388_x3 u388_M0 u388_M1 u388_rt x4 y0 q9.2.1 Mm h h0 h1 _ _ _ hP hS (lv_sub hl [0, 1, 2, 3, 4] rfl)
        · replace h := o_tt c38 h
          refine lv_iload hx hb d_MM_decode_510 (lv_at hl 4 rfl) ?_
          refine lv_bipush (v := (31:Int32)) hx hb d_MM_decode_512 (by decide) ?_
          refine lv_iand hx hb d_MM_decode_514 ?_
          refine lv_goto (tgt := 537) hx hb d_MM_decode_515 (by decide) ?_
          refine lv_topi (fun x7_537 ex7_537 => ?_)
          replace h := o_nm_at ex7_537 h
          refine lv_istore (lv' := [(7, .int x7_537), (6, .int y0), (0, .ref (ad 0)), (3, .int u388_x3), (4, .int x4), (5, .int x5)]) hx hb d_MM_decode_537 hl (by decide) rfl (fun ls hl => ?_)
          refine lv_iconst (v := (1:Int32)) hx hb d_MM_decode_539 (by decide) ?_
          refine lv_istore (lv' := [(8, .int (1:Int32)), (7, .int x7_537), (6, .int y0), (0, .ref (ad 0)), (3, .int u388_x3), (4, .int x4), (5, .int x5)]) hx hb d_MM_decode_540 hl (by decide) rfl (fun ls hl => ?_)
          obtain ⟨q11, hq11, h⟩ := o_bd_some h
          refine o_sim2 (AH := fun zz => o_At p l e rm_MM_decode s m args below meth c _ m_cls D A 9 542 [] (m_cw ad ca ky ty u388_rt Mm u388_M0 u388_M1) [(0, .ref (ad 0)), (3, .int u388_x3), (4, .int x4), (6, .int y0), (7, .int zz.1), (8, .int zz.2)]) (AX := fun qq => if qq.1 = 1 then o_At p l e rm_MM_decode s m args below meth c _ m_cls D A 9 569 [] (m_cw ad ca ky ty u388_rt Mm u388_M0 u388_M1) [] else o_At p l e rm_MM_decode s m args below meth c _ m_cls D A 9 598 [] (m_cw ad ca ky ty u388_rt Mm u388_M0 u388_M1) [(0, .ref (ad 0)), (3, .int u388_x3), (4, .int x4), (6, .int y0), (7, .int qq.2.1)]) (fun zz qq h h0 h1 => f_MM_decode_b542 hE hKy C hDD n u388_x3 x4 y0 u388_M0 Mm u388_M1 u388_rt zz qq h h0 h1) n _ q11 hq11 ?_ _ _ _ hP hS (lv_sub hl [3, 4, 5, 2, 1, 0] rfl)
          by_cases c58 : q11.1 = 1
          · replace h := o_tt c58 h
            refine o_ip c58 ?_
            intro H locs ls hP hS hl
            cases h
            exact h1 (Nat.succ_ne_zero 1) _ _ _ hP hS (lv_sub hl [] rfl)
          replace h := o_ff c58 h
          refine o_in_ c58 ?_
          intro H locs ls hP hS hl
          refine lv_iload hx hb d_MM_decode_598 (lv_at hl 3 rfl) ?_
          refine lv_iconst (v := (2:Int32)) hx hb d_MM_decode_600 (by decide) ?_
          refine lv_icmp_ne (tgt := 626) hx hb d_MM_decode_601 (by decide) (fun c55 => ?_) (fun c55 => ?_)
          · replace h := o_ff c55 h
            exact f_MM_decode_j626 hE hKy C hDD n u388_x3 u388_M0 u388_M1 u388_rt x4 y0 q11.2.1 Mm h h0 h1 _ _ _ hP hS (lv_sub hl [0, 1, 2, 3, 4] rfl)
          · replace h := o_tt c55 h
            refine lv_iload hx hb d_MM_decode_604 (lv_at hl 4 rfl) ?_
            refine lv_sipush (v := (2048:Int32)) hx hb d_MM_decode_606 (by decide) ?_
            refine lv_icmp_lt (tgt := 646) hx hb d_MM_decode_609 (by decide) (fun c56 => ?_) (fun c56 => ?_)
            · replace h := o_tt c56 h
              cases h
              exact h1 (Nat.succ_ne_zero 2) _ _ _ hP hS (lv_sub hl [] rfl)
            · replace h := o_ff c56 h
              refine lv_iload hx hb d_MM_decode_612 (lv_at hl 4 rfl) ?_
              refine lv_ldcw (v := (55296:Int32)) hx hb hown (hts _ k_9_188) d_MM_decode_614 ?_
              refine lv_ldcw (v := (57343:Int32)) hx hb hown (hts _ k_9_189) d_MM_decode_617 ?_
              obtain ⟨q12, hq12, h⟩ := o_bd_some h
              refine o_S (st1 := [.int q12]) (w1 := (m_cw ad ca ky ty u388_rt Mm u388_M0 u388_M1)) hE.1 C (e_MM_in hE hKy l q11.2.1 (55296:Int32) (57343:Int32) Mm u388_M0 u388_M1 u388_rt hq12) hP (hDD _ _ _ _) hS hl.1 k_9_41 k_8_201 k_1_12 k_8_202 hs_MM_in rfl rfl ⟨(Nat.le_of_ble_eq_true rfl), (Nat.le_of_ble_eq_true rfl)⟩ rfl (Nat.le_of_ble_eq_true rfl) ⟨Nat.zero_le _, Nat.zero_le _⟩ rfl d_MM_decode_620 (fun H locs hP hS => ?_)
              refine lv_if_ne (tgt := 646) hx hb d_MM_decode_623 (by decide) (fun c57 => ?_) (fun c57 => ?_)
              · replace h := o_ff c57 h
                cases h
                exact h1 (Nat.succ_ne_zero 2) _ _ _ hP hS (lv_sub hl [] rfl)
              · replace h := o_tt c57 h
                exact f_MM_decode_j626 hE hKy C hDD n u388_x3 u388_M0 u388_M1 u388_rt x4 y0 q11.2.1 Mm h h0 h1 _ _ _ hP hS (lv_sub hl [0, 1, 2, 3, 4] rfl)
      · replace h := o_tt c37 h
        refine lv_iload hx hb d_MM_decode_499 (lv_at hl 4 rfl) ?_
        refine lv_goto (tgt := 537) hx hb d_MM_decode_501 (by decide) ?_
        refine lv_istore (lv' := [(7, .int x5), (6, .int y0), (0, .ref (ad 0)), (3, .int u388_x3), (4, .int x4), (5, .int x5)]) hx hb d_MM_decode_537 hl (by decide) rfl (fun ls hl => ?_)
        refine lv_iconst (v := (1:Int32)) hx hb d_MM_decode_539 (by decide) ?_
        refine lv_istore (lv' := [(8, .int (1:Int32)), (7, .int x5), (6, .int y0), (0, .ref (ad 0)), (3, .int u388_x3), (4, .int x4), (5, .int x5)]) hx hb d_MM_decode_540 hl (by decide) rfl (fun ls hl => ?_)
        obtain ⟨q13, hq13, h⟩ := o_bd_some h
        refine o_sim2 (AH := fun zz => o_At p l e rm_MM_decode s m args below meth c _ m_cls D A 9 542 [] (m_cw ad ca ky ty u388_rt Mm u388_M0 u388_M1) [(0, .ref (ad 0)), (3, .int u388_x3), (4, .int x4), (6, .int y0), (7, .int zz.1), (8, .int zz.2)]) (AX := fun qq => if qq.1 = 1 then o_At p l e rm_MM_decode s m args below meth c _ m_cls D A 9 569 [] (m_cw ad ca ky ty u388_rt Mm u388_M0 u388_M1) [] else o_At p l e rm_MM_decode s m args below meth c _ m_cls D A 9 598 [] (m_cw ad ca ky ty u388_rt Mm u388_M0 u388_M1) [(0, .ref (ad 0)), (3, .int u388_x3), (4, .int x4), (6, .int y0), (7, .int qq.2.1)]) (fun zz qq h h0 h1 => f_MM_decode_b542 hE hKy C hDD n u388_x3 x4 y0 u388_M0 Mm u388_M1 u388_rt zz qq h h0 h1) n _ q13 hq13 ?_ _ _ _ hP hS (lv_sub hl [3, 4, 5, 2, 1, 0] rfl)
        by_cases c62 : q13.1 = 1
        · replace h := o_tt c62 h
          refine o_ip c62 ?_
          intro H locs ls hP hS hl
          cases h
          exact h1 (Nat.succ_ne_zero 1) _ _ _ hP hS (lv_sub hl [] rfl)
        replace h := o_ff c62 h
        refine o_in_ c62 ?_
        intro H locs ls hP hS hl
        refine lv_iload hx hb d_MM_decode_598 (lv_at hl 3 rfl) ?_
        refine lv_iconst (v := (2:Int32)) hx hb d_MM_decode_600 (by decide) ?_
        refine lv_icmp_ne (tgt := 626) hx hb d_MM_decode_601 (by decide) (fun c59 => ?_) (fun c59 => ?_)
        · replace h := o_ff c59 h
          exact f_MM_decode_j626 hE hKy C hDD n u388_x3 u388_M0 u388_M1 u388_rt x4 y0 q13.2.1 Mm h h0 h1 _ _ _ hP hS (lv_sub hl [0, 1, 2, 3, 4] rfl)
        · replace h := o_tt c59 h
          refine lv_iload hx hb d_MM_decode_604 (lv_at hl 4 rfl) ?_
          refine lv_sipush (v := (2048:Int32)) hx hb d_MM_decode_606 (by decide) ?_
          refine lv_icmp_lt (tgt := 646) hx hb d_MM_decode_609 (by decide) (fun c60 => ?_) (fun c60 => ?_)
          · replace h := o_tt c60 h
            cases h
            exact h1 (Nat.succ_ne_zero 2) _ _ _ hP hS (lv_sub hl [] rfl)
          · replace h := o_ff c60 h
            refine lv_iload hx hb d_MM_decode_612 (lv_at hl 4 rfl) ?_
            refine lv_ldcw (v := (55296:Int32)) hx hb hown (hts _ k_9_188) d_MM_decode_614 ?_
            refine lv_ldcw (v := (57343:Int32)) hx hb hown (hts _ k_9_189) d_MM_decode_617 ?_
            obtain ⟨q14, hq14, h⟩ := o_bd_some h
            refine o_S (st1 := [.int q14]) (w1 := (m_cw ad ca ky ty u388_rt Mm u388_M0 u388_M1)) hE.1 C (e_MM_in hE hKy l q13.2.1 (55296:Int32) (57343:Int32) Mm u388_M0 u388_M1 u388_rt hq14) hP (hDD _ _ _ _) hS hl.1 k_9_41 k_8_201 k_1_12 k_8_202 hs_MM_in rfl rfl ⟨(Nat.le_of_ble_eq_true rfl), (Nat.le_of_ble_eq_true rfl)⟩ rfl (Nat.le_of_ble_eq_true rfl) ⟨Nat.zero_le _, Nat.zero_le _⟩ rfl d_MM_decode_620 (fun H locs hP hS => ?_)
            refine lv_if_ne (tgt := 646) hx hb d_MM_decode_623 (by decide) (fun c61 => ?_) (fun c61 => ?_)
            · replace h := o_ff c61 h
              cases h
              exact h1 (Nat.succ_ne_zero 2) _ _ _ hP hS (lv_sub hl [] rfl)
            · replace h := o_tt c61 h
              exact f_MM_decode_j626 hE hKy C hDD n u388_x3 u388_M0 u388_M1 u388_rt x4 y0 q13.2.1 Mm h h0 h1 _ _ _ hP hS (lv_sub hl [0, 1, 2, 3, 4] rfl)
    · replace h := o_ff c36 h
      cases h
      exact h1 (Nat.succ_ne_zero 0) _ _ _ hP hS (lv_sub hl [] rfl)
set_option maxHeartbeats 4000000 in
set_option maxRecDepth 100000 in
theorem f_MM_decode_j455 {E : (Nat → Prop) → State → Heap → Prop} {p : Program} {l : Launch} {e : Env} {s : State} {m : MethodId} {args : Array Value} {below : List Frame} {meth : Method} {c : Code} {D : va_G} {ad kd sd vd xd : Nat → Nat} {ca : Nat → ClassId} {A : Nat → Prop} {ky ty : Nat → Option Nat} {Q : State → Prop} (hE : o_EK E kd sd vd xd) (hKy : m_KY ky ty sd) (C : o_Cx E p s m args meth c D m_cls (m_tys ca) "SchemaJudgeModel" b_MM_decode (some .boolean) 9 cc_MM_decode A) (hDD : ∀ (rt : Nat) (Mm : SMM) (M0 : SMT) (M1 : SMT), va_D A (m_cw ad ca ky ty rt Mm M0 M1)) (n : Nat) (u388_x3 : Int32) (u388_M0 : SMT) (u388_M1 : SMT) (u388_rt : Nat) (x4 : Int32) (x5 : Int32) (Mm : SMM) {q : Nat × Int32 × SMM} (h : m_MM_decode_j455 n u388_x3 x4 x5 u388_M0 Mm = some q) (h0 : q.1 = 0 → o_At p l e rm_MM_decode s m args below meth c Q m_cls D A 9 388 [] (m_cw ad ca ky ty u388_rt q.2.2 u388_M0 u388_M1) [(0, .ref (ad 0)), (3, .int u388_x3), (4, .int q.2.1)]) (h1 : q.1 ≠ 0 → (if q.1 = 1 then o_At p l e rm_MM_decode s m args below meth c Q m_cls D A 9 492 [] (m_cw ad ca ky ty u388_rt q.2.2 u388_M0 u388_M1) [] else if q.1 = 2 then o_At p l e rm_MM_decode s m args below meth c Q m_cls D A 9 569 [] (m_cw ad ca ky ty u388_rt q.2.2 u388_M0 u388_M1) [] else if q.1 = 3 then o_At p l e rm_MM_decode s m args below meth c Q m_cls D A 9 646 [] (m_cw ad ca ky ty u388_rt q.2.2 u388_M0 u388_M1) [] else o_At p l e rm_MM_decode s m args below meth c Q m_cls D A 9 679 [] (m_cw ad ca ky ty u388_rt q.2.2 u388_M0 u388_M1) [])) : o_At p l e rm_MM_decode s m args below meth c Q m_cls D A 9 455 [] (m_cw ad ca ky ty u388_rt Mm u388_M0 u388_M1) [(0, .ref (ad 0)), (3, .int u388_x3), (4, .int x4), (5, .int x5)] := by
  unfold m_MM_decode_j455 at h
  intro H locs ls hP hS hl
  have C0 := C
  obtain ⟨hx, hb, -, -, -, hown, hts, hK, -, -⟩ := C0
  refine lv_iload hx hb d_MM_decode_455 (lv_at hl 3 rfl) ?_
  refine lv_sipush (v := (240:Int32)) hx hb d_MM_decode_457 (by decide) ?_
  refine lv_icmp_lt (tgt := 475) hx hb d_MM_decode_460 (by decide) (fun c34 => ?_) (fun c34 => ?_)
  · replace h := o_tt c34 h
    refine lv_iconst (v := (-1:Int32)) hx hb d_MM_decode_475 (by decide) ?_
    exact f_MM_decode_j476 hE hKy C hDD n u388_x3 u388_M0 u388_M1 u388_rt x4 x5 (-1:Int32) Mm h h0 h1 _ _ _ hP hS (lv_sub hl [0, 1, 2, 3] rfl)
  · replace h := o_ff c34 h
    refine lv_iload hx hb d_MM_decode_463 (lv_at hl 3 rfl) ?_
    refine lv_sipush (v := (245:Int32)) hx hb d_MM_decode_465 (by decide) ?_
    refine lv_icmp_ge (tgt := 475) hx hb d_MM_decode_468 (by decide) (fun c63 => ?_) (fun c63 => ?_)
    · replace h := o_tt c63 h
      refine lv_iconst (v := (-1:Int32)) hx hb d_MM_decode_475 (by decide) ?_
      exact f_MM_decode_j476 hE hKy C hDD n u388_x3 u388_M0 u388_M1 u388_rt x4 x5 (-1:Int32) Mm h h0 h1 _ _ _ hP hS (lv_sub hl [0, 1, 2, 3] rfl)
    · replace h := o_ff c63 h
      refine lv_iconst (v := (3:Int32)) hx hb d_MM_decode_471 (by decide) ?_
      refine lv_goto (tgt := 476) hx hb d_MM_decode_472 (by decide) ?_
      exact f_MM_decode_j476 hE hKy C hDD n u388_x3 u388_M0 u388_M1 u388_rt x4 x5 (3:Int32) Mm h h0 h1 _ _ _ hP hS (lv_sub hl [0, 1, 2, 3] rfl)
set_option maxHeartbeats 4000000 in
set_option maxRecDepth 100000 in
theorem f_MM_decode_j435 {E : (Nat → Prop) → State → Heap → Prop} {p : Program} {l : Launch} {e : Env} {s : State} {m : MethodId} {args : Array Value} {below : List Frame} {meth : Method} {c : Code} {D : va_G} {ad kd sd vd xd : Nat → Nat} {ca : Nat → ClassId} {A : Nat → Prop} {ky ty : Nat → Option Nat} {Q : State → Prop} (hE : o_EK E kd sd vd xd) (hKy : m_KY ky ty sd) (C : o_Cx E p s m args meth c D m_cls (m_tys ca) "SchemaJudgeModel" b_MM_decode (some .boolean) 9 cc_MM_decode A) (hDD : ∀ (rt : Nat) (Mm : SMM) (M0 : SMT) (M1 : SMT), va_D A (m_cw ad ca ky ty rt Mm M0 M1)) (n : Nat) (u388_x3 : Int32) (u388_M0 : SMT) (u388_M1 : SMT) (u388_rt : Nat) (x4 : Int32) (x5 : Int32) (Mm : SMM) {q : Nat × Int32 × SMM} (h : m_MM_decode_j435 n u388_x3 x4 x5 u388_M0 Mm = some q) (h0 : q.1 = 0 → o_At p l e rm_MM_decode s m args below meth c Q m_cls D A 9 388 [] (m_cw ad ca ky ty u388_rt q.2.2 u388_M0 u388_M1) [(0, .ref (ad 0)), (3, .int u388_x3), (4, .int q.2.1)]) (h1 : q.1 ≠ 0 → (if q.1 = 1 then o_At p l e rm_MM_decode s m args below meth c Q m_cls D A 9 492 [] (m_cw ad ca ky ty u388_rt q.2.2 u388_M0 u388_M1) [] else if q.1 = 2 then o_At p l e rm_MM_decode s m args below meth c Q m_cls D A 9 569 [] (m_cw ad ca ky ty u388_rt q.2.2 u388_M0 u388_M1) [] else if q.1 = 3 then o_At p l e rm_MM_decode s m args below meth c Q m_cls D A 9 646 [] (m_cw ad ca ky ty u388_rt q.2.2 u388_M0 u388_M1) [] else o_At p l e rm_MM_decode s m args below meth c Q m_cls D A 9 679 [] (m_cw ad ca ky ty u388_rt q.2.2 u388_M0 u388_M1) [])) : o_At p l e rm_MM_decode s m args below meth c Q m_cls D A 9 435 [] (m_cw ad ca ky ty u388_rt Mm u388_M0 u388_M1) [(0, .ref (ad 0)), (3, .int u388_x3), (4, .int x4), (5, .int x5)] := by
  unfold m_MM_decode_j435 at h
  intro H locs ls hP hS hl
  have C0 := C
  obtain ⟨hx, hb, -, -, -, hown, hts, hK, -, -⟩ := C0
  refine lv_iload hx hb d_MM_decode_435 (lv_at hl 3 rfl) ?_
  refine lv_sipush (v := (224:Int32)) hx hb d_MM_decode_437 (by decide) ?_
  refine lv_icmp_lt (tgt := 455) hx hb d_MM_decode_440 (by decide) (fun c33 => ?_) (fun c33 => ?_)
  · replace h := o_tt c33 h
    exact f_MM_decode_j455 hE hKy C hDD n u388_x3 u388_M0 u388_M1 u388_rt x4 x5 Mm h h0 h1 _ _ _ hP hS (lv_sub hl [0, 1, 2, 3] rfl)
  · replace h := o_ff c33 h
    refine lv_iload hx hb d_MM_decode_443 (lv_at hl 3 rfl) ?_
    refine lv_sipush (v := (240:Int32)) hx hb d_MM_decode_445 (by decide) ?_
    refine lv_icmp_ge (tgt := 455) hx hb d_MM_decode_448 (by decide) (fun c64 => ?_) (fun c64 => ?_)
    · replace h := o_tt c64 h
      exact f_MM_decode_j455 hE hKy C hDD n u388_x3 u388_M0 u388_M1 u388_rt x4 x5 Mm h h0 h1 _ _ _ hP hS (lv_sub hl [0, 1, 2, 3] rfl)
    · replace h := o_ff c64 h
      refine lv_iconst (v := (2:Int32)) hx hb d_MM_decode_451 (by decide) ?_
      refine lv_goto (tgt := 476) hx hb d_MM_decode_452 (by decide) ?_
      exact f_MM_decode_j476 hE hKy C hDD n u388_x3 u388_M0 u388_M1 u388_rt x4 x5 (2:Int32) Mm h h0 h1 _ _ _ hP hS (lv_sub hl [0, 1, 2, 3] rfl)
set_option maxHeartbeats 4000000 in
set_option maxRecDepth 100000 in
theorem f_MM_decode_b388 {E : (Nat → Prop) → State → Heap → Prop} {p : Program} {l : Launch} {e : Env} {s : State} {m : MethodId} {args : Array Value} {below : List Frame} {meth : Method} {c : Code} {D : va_G} {ad kd sd vd xd : Nat → Nat} {ca : Nat → ClassId} {A : Nat → Prop} {ky ty : Nat → Option Nat} {Q : State → Prop} (hE : o_EK E kd sd vd xd) (hKy : m_KY ky ty sd) (C : o_Cx E p s m args meth c D m_cls (m_tys ca) "SchemaJudgeModel" b_MM_decode (some .boolean) 9 cc_MM_decode A) (hDD : ∀ (rt : Nat) (Mm : SMM) (M0 : SMT) (M1 : SMT), va_D A (m_cw ad ca ky ty rt Mm M0 M1)) (n : Nat) (u388_x3 : Int32) (u388_M0 : SMT) (u388_M1 : SMT) (u388_rt : Nat) (z : Int32 × SMM) (q : Nat × Int32 × SMM) (h : m_MM_decode_b388 n u388_x3 u388_M0 z = some q) (h0 : q.1 = 0 → o_At p l e rm_MM_decode s m args below meth c Q m_cls D A 9 388 [] (m_cw ad ca ky ty u388_rt q.2.2 u388_M0 u388_M1) [(0, .ref (ad 0)), (3, .int u388_x3), (4, .int q.2.1)]) (h1 : q.1 ≠ 0 → (if q.1 = 1 then o_At p l e rm_MM_decode s m args below meth c Q m_cls D A 9 492 [] (m_cw ad ca ky ty u388_rt q.2.2 u388_M0 u388_M1) [] else if q.1 = 2 then o_At p l e rm_MM_decode s m args below meth c Q m_cls D A 9 569 [] (m_cw ad ca ky ty u388_rt q.2.2 u388_M0 u388_M1) [] else if q.1 = 3 then o_At p l e rm_MM_decode s m args below meth c Q m_cls D A 9 646 [] (m_cw ad ca ky ty u388_rt q.2.2 u388_M0 u388_M1) [] else o_At p l e rm_MM_decode s m args below meth c Q m_cls D A 9 679 [] (m_cw ad ca ky ty u388_rt q.2.2 u388_M0 u388_M1) [])) : o_At p l e rm_MM_decode s m args below meth c Q m_cls D A 9 388 [] (m_cw ad ca ky ty u388_rt z.2 u388_M0 u388_M1) [(0, .ref (ad 0)), (3, .int u388_x3), (4, .int z.1)] := by
  unfold m_MM_decode_b388 at h
  intro H locs ls hP hS hl
  have C0 := C
  obtain ⟨hx, hb, -, -, -, hown, hts, hK, -, -⟩ := C0
  refine lv_iload hx hb d_MM_decode_388 (lv_at hl 2 rfl) ?_
  refine lv_iload_n hx hb d_MM_decode_390 rfl (lv_at hl 1 rfl) ?_
  refine lv_icmp_ge (tgt := 679) hx hb d_MM_decode_391 (by decide) (fun c29 => ?_) (fun c29 => ?_)
  · replace h := o_tt c29 h
    cases h
    exact h1 (Nat.succ_ne_zero 3) _ _ _ hP hS (lv_sub hl [] rfl)
  · replace h := o_ff c29 h
    refine lv_aload_n hx hb d_MM_decode_394 rfl (lv_at hl 0 rfl) ?_
    refine o_get (v := .ref (ad 29)) C in_MM hP 0 mw_0 rfl 49 (by decide) k_8_39 rfl rfl d_MM_decode_395 ?_
    refine lv_iload hx hb d_MM_decode_398 (lv_at hl 2 rfl) ?_
    obtain ⟨g30, h⟩ := o_gd_some h
    refine o_iald (f := (MM_octetRow z.2)) C hP 29 28 mw_29 rfl g30 d_MM_decode_400 ?_
    refine lv_topi (fun x5_401 ex5_401 => ?_)
    replace h := o_nm_at ex5_401 h
    refine lv_istore (lv' := [(5, .int x5_401), (0, .ref (ad 0)), (3, .int u388_x3), (4, .int z.1)]) hx hb d_MM_decode_401 hl (by decide) rfl (fun ls hl => ?_)
    refine lv_iload hx hb d_MM_decode_403 (lv_at hl 0 rfl) ?_
    refine lv_sipush (v := (128:Int32)) hx hb d_MM_decode_405 (by decide) ?_
    refine lv_icmp_ge (tgt := 415) hx hb d_MM_decode_408 (by decide) (fun c31 => ?_) (fun c31 => ?_)
    · replace h := o_tt c31 h
      refine lv_iload hx hb d_MM_decode_415 (lv_at hl 0 rfl) ?_
      refine lv_sipush (v := (194:Int32)) hx hb d_MM_decode_417 (by decide) ?_
      refine lv_icmp_lt (tgt := 435) hx hb d_MM_decode_420 (by decide) (fun c32 => ?_) (fun c32 => ?_)
      · replace h := o_tt c32 h
        exact f_MM_decode_j435 hE hKy C hDD n u388_x3 u388_M0 u388_M1 u388_rt z.1 x5_401 z.2 h h0 h1 _ _ _ hP hS (lv_sub hl [1, 2, 3, 0] rfl)
      · replace h := o_ff c32 h
        refine lv_iload hx hb d_MM_decode_423 (lv_at hl 0 rfl) ?_
        refine lv_sipush (v := (224:Int32)) hx hb d_MM_decode_425 (by decide) ?_
        refine lv_icmp_ge (tgt := 435) hx hb d_MM_decode_428 (by decide) (fun c65 => ?_) (fun c65 => ?_)
        · replace h := o_tt c65 h
          exact f_MM_decode_j435 hE hKy C hDD n u388_x3 u388_M0 u388_M1 u388_rt z.1 x5_401 z.2 h h0 h1 _ _ _ hP hS (lv_sub hl [1, 2, 3, 0] rfl)
        · replace h := o_ff c65 h
          refine lv_iconst (v := (1:Int32)) hx hb d_MM_decode_431 (by decide) ?_
          refine lv_goto (tgt := 476) hx hb d_MM_decode_432 (by decide) ?_
          exact f_MM_decode_j476 hE hKy C hDD n u388_x3 u388_M0 u388_M1 u388_rt z.1 x5_401 (1:Int32) z.2 h h0 h1 _ _ _ hP hS (lv_sub hl [1, 2, 3, 0] rfl)
    · replace h := o_ff c31 h
      refine lv_iconst (v := (0:Int32)) hx hb d_MM_decode_411 (by decide) ?_
      refine lv_goto (tgt := 476) hx hb d_MM_decode_412 (by decide) ?_
      exact f_MM_decode_j476 hE hKy C hDD n u388_x3 u388_M0 u388_M1 u388_rt z.1 x5_401 (0:Int32) z.2 h h0 h1 _ _ _ hP hS (lv_sub hl [1, 2, 3, 0] rfl)
set_option maxHeartbeats 4000000 in
set_option maxRecDepth 100000 in
theorem e_MM_decode {E : (Nat → Prop) → State → Heap → Prop} {D : va_G} {ad kd sd vd xd : Nat → Nat} {ca : Nat → ClassId} {ky ty : Nat → Option Nat} (hE : o_EK E kd sd vd xd) (hKy : m_KY ky ty sd) (l : Launch) (n : Nat) (x1 : Int32) (x2 : Int32) (M0 : SMT) (Mm : SMM) (M1 : SMT) (rt : Nat) {r : Int32 × SMM} (h : m_MM_decode n x1 x2 M0 Mm = some r) : o_Cn E l D m_cls (m_tys ca) y_MM_decode cc_MM_decode rm_MM_decode [.ref (ad 0), .int x1, .int x2] (m_cw ad ca ky ty rt Mm M0 M1) (m_cw ad ca ky ty rt r.2 M0 M1) (some (.int r.1)) := by
  refine o_Cn_of (by decide) (Nat.le_of_ble_eq_true rfl) ?_
  intro p e s m below meth c A ls C hD hP hS hl
  have hDD : ∀ (rt : Nat) (Mm : SMM) (M0 : SMT) (M1 : SMT), va_D A (m_cw ad ca ky ty rt Mm M0 M1) := fun _ _ _ _ => o_D_map hD rfl
  have hl : lv_has ls 9 [(0, .ref (ad 0)), (1, .int x1), (2, .int x2)] := hl
  unfold m_MM_decode at h
  have C0 := C
  obtain ⟨hx, hb, -, -, -, hown, hts, hK, -, -⟩ := C0
  refine lv_iconst (v := (0:Int32)) hx hb d_MM_decode_0 (by decide) ?_
  refine lv_istore_n (lv' := [(3, .int (0:Int32)), (0, .ref (ad 0)), (1, .int x1), (2, .int x2)]) hx hb d_MM_decode_1 rfl hl (by decide) rfl (fun ls hl => ?_)
  refine lv_iload_n hx hb d_MM_decode_2 rfl (lv_at hl 2 rfl) ?_
  refine lv_istore (lv' := [(4, .int x1), (3, .int (0:Int32)), (0, .ref (ad 0)), (1, .int x1), (2, .int x2)]) hx hb d_MM_decode_3 hl (by decide) rfl (fun ls hl => ?_)
  obtain ⟨q5, hq5, h⟩ := o_bd_some h
  refine o_sim2 (AH := fun zz => o_At p l e rm_MM_decode s m _ below meth c _ m_cls D A 9 5 [] (m_cw ad ca ky ty rt zz.2.2 M0 M1) [(0, .ref (ad 0)), (2, .int x2), (3, .int zz.1), (4, .int zz.2.1)]) (AX := fun qq => o_At p l e rm_MM_decode s m _ below meth c _ m_cls D A 9 380 [] (m_cw ad ca ky ty rt qq.2.2.2 M0 M1) [(0, .ref (ad 0)), (3, .int qq.2.1)]) (fun zz qq h h0 h1 => f_MM_decode_b5 hE hKy C hDD n x2 M0 M1 rt zz qq h h0 h1) n _ q5 hq5 ?_ _ _ _ hP hS (lv_sub hl [2, 4, 1, 0] rfl)
  intro H locs ls hP hS hl
  refine lv_aload_n hx hb d_MM_decode_380 rfl (lv_at hl 0 rfl) ?_
  refine lv_iconst (v := (0:Int32)) hx hb d_MM_decode_381 (by decide) ?_
  refine o_put (v := .int (0:Int32)) (ty := .int) (w1 := (m_cw ad ca ky ty rt (MM_mk (MM_err q5.2.2.2) (MM_fed q5.2.2.2) (MM_wrong q5.2.2.2) (MM_octets q5.2.2.2) (MM_nodeKind q5.2.2.2) (MM_nodeA q5.2.2.2) (MM_nodeB q5.2.2.2) (MM_nodeC q5.2.2.2) (MM_nodeNext q5.2.2.2) (MM_low q5.2.2.2) (MM_high q5.2.2.2) (MM_setFrom q5.2.2.2) (MM_setTo q5.2.2.2) (MM_setNot q5.2.2.2) (MM_op q5.2.2.2) (MM_opA q5.2.2.2) (MM_opB q5.2.2.2) (MM_mark q5.2.2.2) (MM_now q5.2.2.2) (MM_then q5.2.2.2) (MM_todo q5.2.2.2) (MM_nodes q5.2.2.2) (MM_sets q5.2.2.2) (MM_ranges q5.2.2.2) (MM_steps q5.2.2.2) (MM_pat q5.2.2.2) (MM_patEnd q5.2.2.2) (MM_round q5.2.2.2) (MM_many1 q5.2.2.2) (MM_broken q5.2.2.2) (MM_checked q5.2.2.2) (MM_faultKind q5.2.2.2) (MM_faultValue q5.2.2.2) (MM_latestFault q5.2.2.2) (MM_anchors q5.2.2.2) (MM_key q5.2.2.2) (MM_target q5.2.2.2) (MM_anchorValue q5.2.2.2) (MM_anchorSchema q5.2.2.2) (MM_path q5.2.2.2) (MM_route q5.2.2.2) (MM_isSchema q5.2.2.2) (MM_seen1 q5.2.2.2) (0:Int32) (MM_octetRow q5.2.2.2) (MM_partRow q5.2.2.2) (MM_pairValue q5.2.2.2) (MM_pairKey q5.2.2.2) (MM_pairs q5.2.2.2) (MM_judged q5.2.2.2) (MM_deepest q5.2.2.2) (MM_depth q5.2.2.2) (MM_over q5.2.2.2) (MM_seen q5.2.2.2)) M0 M1)) C in_MM t_MM t_MM_ok n_MM hP (hDD _ _ _ _) hS 0 mw_0 rfl 48 (by decide) k_8_38 rfl rfl (by decide +kernel) rfl rfl (Nat.le_of_ble_eq_true rfl) rfl d_MM_decode_382 (fun H locs hP hS => ?_)
  refine lv_iconst (v := (0:Int32)) hx hb d_MM_decode_385 (by decide) ?_
  refine lv_istore (lv' := [(4, .int (0:Int32)), (0, .ref (ad 0)), (3, .int q5.2.1)]) hx hb d_MM_decode_386 hl (by decide) rfl (fun ls hl => ?_)
  obtain ⟨q15, hq15, h⟩ := o_bd_some h
  refine o_sim2 (AH := fun zz => o_At p l e rm_MM_decode s m _ below meth c _ m_cls D A 9 388 [] (m_cw ad ca ky ty rt zz.2 M0 M1) [(0, .ref (ad 0)), (3, .int q5.2.1), (4, .int zz.1)]) (AX := fun qq => if qq.1 = 1 then o_At p l e rm_MM_decode s m _ below meth c _ m_cls D A 9 492 [] (m_cw ad ca ky ty rt qq.2.2 M0 M1) [] else if qq.1 = 2 then o_At p l e rm_MM_decode s m _ below meth c _ m_cls D A 9 569 [] (m_cw ad ca ky ty rt qq.2.2 M0 M1) [] else if qq.1 = 3 then o_At p l e rm_MM_decode s m _ below meth c _ m_cls D A 9 646 [] (m_cw ad ca ky ty rt qq.2.2 M0 M1) [] else o_At p l e rm_MM_decode s m _ below meth c _ m_cls D A 9 679 [] (m_cw ad ca ky ty rt qq.2.2 M0 M1) []) (fun zz qq h h0 h1 => f_MM_decode_b388 hE hKy C hDD n q5.2.1 M0 M1 rt zz qq h h0 h1) n _ q15 hq15 ?_ _ _ _ hP hS (lv_sub hl [1, 2, 0] rfl)
  by_cases c66 : q15.1 = 1
  · replace h := o_tt c66 h
    refine o_ip c66 ?_
    intro H locs ls hP hS hl
    refine lv_iconst (v := (0:Int32)) hx hb d_MM_decode_492 (by decide) ?_
    cases h
    exact o_rz (v := (0:Int32)) C o_nar0 hP hS d_MM_decode_493
  replace h := o_ff c66 h
  refine o_in_ c66 ?_
  by_cases c67 : q15.1 = 2
  · replace h := o_tt c67 h
    refine o_ip c67 ?_
    intro H locs ls hP hS hl
    refine lv_iconst (v := (0:Int32)) hx hb d_MM_decode_569 (by decide) ?_
    cases h
    exact o_rz (v := (0:Int32)) C o_nar0 hP hS d_MM_decode_570
  replace h := o_ff c67 h
  refine o_in_ c67 ?_
  by_cases c68 : q15.1 = 3
  · replace h := o_tt c68 h
    refine o_ip c68 ?_
    intro H locs ls hP hS hl
    refine lv_iconst (v := (0:Int32)) hx hb d_MM_decode_646 (by decide) ?_
    cases h
    exact o_rz (v := (0:Int32)) C o_nar0 hP hS d_MM_decode_647
  replace h := o_ff c68 h
  refine o_in_ c68 ?_
  intro H locs ls hP hS hl
  refine lv_iconst (v := (1:Int32)) hx hb d_MM_decode_679 (by decide) ?_
  cases h
  exact o_rz (v := (1:Int32)) C o_nar1 hP hS d_MM_decode_680
