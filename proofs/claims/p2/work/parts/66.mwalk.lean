set_option maxHeartbeats 4000000 in
set_option maxRecDepth 100000 in
theorem e_MT_begins {E : (Nat → Prop) → State → Heap → Prop} {D : va_G} {ad kd sd vd xd : Nat → Nat} {ca : Nat → ClassId} {ky ty : Nat → Option Nat} (hE : o_EK E kd sd vd xd) (hKy : m_KY ky ty sd) (l : Launch) (x0 : Int32) (Mm : SMM) (M0 : SMT) (M1 : SMT) (rt : Nat) {r : Int32} (h : m_MT_begins x0 = some r) : o_Cn E l D m_cls (m_tys ca) y_MT_begins cc_MT_begins rm_MT_begins [.int x0] (m_cw ad ca ky ty rt Mm M0 M1) (m_cw ad ca ky ty rt Mm M0 M1) (some (.int r)) := by
  refine o_Cn_of (by decide) (Nat.le_of_ble_eq_true rfl) ?_
  intro p e s m below meth c A ls C hD hP hS hl
  have hDD : ∀ (rt : Nat) (Mm : SMM) (M0 : SMT) (M1 : SMT), va_D A (m_cw ad ca ky ty rt Mm M0 M1) := fun _ _ _ _ => o_D_map hD rfl
  have hl : lv_has ls 1 [(0, .int x0)] := hl
  unfold m_MT_begins at h
  have C0 := C
  obtain ⟨hx, hb, -, -, -, hown, hts, hK, -, -⟩ := C0
  refine lv_iload_n hx hb d_MT_begins_0 rfl (lv_at hl 0 rfl) ?_
  refine lv_bipush (v := (110:Int32)) hx hb d_MT_begins_1 (by decide) ?_
  refine lv_icmp_eq (tgt := 53) hx hb d_MT_begins_3 (by decide) (fun c1 => ?_) (fun c1 => ?_)
  · replace h := o_tt c1 h
    refine lv_iconst (v := (1:Int32)) hx hb d_MT_begins_53 (by decide) ?_
    refine lv_goto (tgt := 58) hx hb d_MT_begins_54 (by decide) ?_
    cases h
    exact o_rz (v := (1:Int32)) C o_nar1 hP hS d_MT_begins_58
  · replace h := o_ff c1 h
    refine lv_iload_n hx hb d_MT_begins_6 rfl (lv_at hl 0 rfl) ?_
    refine lv_bipush (v := (116:Int32)) hx hb d_MT_begins_7 (by decide) ?_
    refine lv_icmp_eq (tgt := 53) hx hb d_MT_begins_9 (by decide) (fun c2 => ?_) (fun c2 => ?_)
    · replace h := o_tt c2 h
      refine lv_iconst (v := (1:Int32)) hx hb d_MT_begins_53 (by decide) ?_
      refine lv_goto (tgt := 58) hx hb d_MT_begins_54 (by decide) ?_
      cases h
      exact o_rz (v := (1:Int32)) C o_nar1 hP hS d_MT_begins_58
    · replace h := o_ff c2 h
      refine lv_iload_n hx hb d_MT_begins_12 rfl (lv_at hl 0 rfl) ?_
      refine lv_bipush (v := (102:Int32)) hx hb d_MT_begins_13 (by decide) ?_
      refine lv_icmp_eq (tgt := 53) hx hb d_MT_begins_15 (by decide) (fun c3 => ?_) (fun c3 => ?_)
      · replace h := o_tt c3 h
        refine lv_iconst (v := (1:Int32)) hx hb d_MT_begins_53 (by decide) ?_
        refine lv_goto (tgt := 58) hx hb d_MT_begins_54 (by decide) ?_
        cases h
        exact o_rz (v := (1:Int32)) C o_nar1 hP hS d_MT_begins_58
      · replace h := o_ff c3 h
        refine lv_iload_n hx hb d_MT_begins_18 rfl (lv_at hl 0 rfl) ?_
        refine lv_bipush (v := (34:Int32)) hx hb d_MT_begins_19 (by decide) ?_
        refine lv_icmp_eq (tgt := 53) hx hb d_MT_begins_21 (by decide) (fun c4 => ?_) (fun c4 => ?_)
        · replace h := o_tt c4 h
          refine lv_iconst (v := (1:Int32)) hx hb d_MT_begins_53 (by decide) ?_
          refine lv_goto (tgt := 58) hx hb d_MT_begins_54 (by decide) ?_
          cases h
          exact o_rz (v := (1:Int32)) C o_nar1 hP hS d_MT_begins_58
        · replace h := o_ff c4 h
          refine lv_iload_n hx hb d_MT_begins_24 rfl (lv_at hl 0 rfl) ?_
          refine lv_bipush (v := (91:Int32)) hx hb d_MT_begins_25 (by decide) ?_
          refine lv_icmp_eq (tgt := 53) hx hb d_MT_begins_27 (by decide) (fun c5 => ?_) (fun c5 => ?_)
          · replace h := o_tt c5 h
            refine lv_iconst (v := (1:Int32)) hx hb d_MT_begins_53 (by decide) ?_
            refine lv_goto (tgt := 58) hx hb d_MT_begins_54 (by decide) ?_
            cases h
            exact o_rz (v := (1:Int32)) C o_nar1 hP hS d_MT_begins_58
          · replace h := o_ff c5 h
            refine lv_iload_n hx hb d_MT_begins_30 rfl (lv_at hl 0 rfl) ?_
            refine lv_bipush (v := (123:Int32)) hx hb d_MT_begins_31 (by decide) ?_
            refine lv_icmp_eq (tgt := 53) hx hb d_MT_begins_33 (by decide) (fun c6 => ?_) (fun c6 => ?_)
            · replace h := o_tt c6 h
              refine lv_iconst (v := (1:Int32)) hx hb d_MT_begins_53 (by decide) ?_
              refine lv_goto (tgt := 58) hx hb d_MT_begins_54 (by decide) ?_
              cases h
              exact o_rz (v := (1:Int32)) C o_nar1 hP hS d_MT_begins_58
            · replace h := o_ff c6 h
              refine lv_iload_n hx hb d_MT_begins_36 rfl (lv_at hl 0 rfl) ?_
              refine lv_bipush (v := (45:Int32)) hx hb d_MT_begins_37 (by decide) ?_
              refine lv_icmp_eq (tgt := 53) hx hb d_MT_begins_39 (by decide) (fun c7 => ?_) (fun c7 => ?_)
              · replace h := o_tt c7 h
                refine lv_iconst (v := (1:Int32)) hx hb d_MT_begins_53 (by decide) ?_
                refine lv_goto (tgt := 58) hx hb d_MT_begins_54 (by decide) ?_
                cases h
                exact o_rz (v := (1:Int32)) C o_nar1 hP hS d_MT_begins_58
              · replace h := o_ff c7 h
                refine lv_iload_n hx hb d_MT_begins_42 rfl (lv_at hl 0 rfl) ?_
                refine lv_bipush (v := (48:Int32)) hx hb d_MT_begins_43 (by decide) ?_
                refine lv_bipush (v := (57:Int32)) hx hb d_MT_begins_45 (by decide) ?_
                obtain ⟨q1, hq1, h⟩ := o_bd_some h
                refine o_SN (st1 := [.int q1]) (w1 := (m_cw ad ca ky ty rt Mm M0 M1)) hE.1 C (e_MM_in hE hKy l x0 (48:Int32) (57:Int32) Mm M0 M1 rt hq1) hP (hDD _ _ _ _) hS hl.1 (hE.2.1 _ _ _ C.2.2.2.2.2.2.2.2.2 _ nw_21) k_8_201 k_1_12 k_8_202 hs_MM_in rfl rfl ⟨(Nat.le_of_ble_eq_true rfl), (Nat.le_of_ble_eq_true rfl)⟩ rfl (Nat.le_of_ble_eq_true rfl) ⟨Nat.zero_le _, Nat.zero_le _⟩ rfl d_MT_begins_47 (fun H locs hP hS => ?_)
                refine lv_if_eq (tgt := 57) hx hb d_MT_begins_50 (by decide) (fun c8 => ?_) (fun c8 => ?_)
                · replace h := o_tt c8 h
                  refine lv_iconst (v := (0:Int32)) hx hb d_MT_begins_57 (by decide) ?_
                  cases h
                  exact o_rz (v := (0:Int32)) C o_nar0 hP hS d_MT_begins_58
                · replace h := o_ff c8 h
                  refine lv_iconst (v := (1:Int32)) hx hb d_MT_begins_53 (by decide) ?_
                  refine lv_goto (tgt := 58) hx hb d_MT_begins_54 (by decide) ?_
                  cases h
                  exact o_rz (v := (1:Int32)) C o_nar1 hP hS d_MT_begins_58
set_option maxHeartbeats 4000000 in
set_option maxRecDepth 100000 in
theorem f_MT_same_b20_aa {E : (Nat → Prop) → State → Heap → Prop} {p : Program} {l : Launch} {e : Env} {s : State} {m : MethodId} {args : Array Value} {below : List Frame} {meth : Method} {c : Code} {D : va_G} {ad kd sd vd xd : Nat → Nat} {ca : Nat → ClassId} {A : Nat → Prop} {ky ty : Nat → Option Nat} {Q : State → Prop} (hE : o_EK E kd sd vd xd) (hKy : m_KY ky ty sd) (C : o_Cx E p s m args meth c D m_cls (m_tys ca) "SchemaJudgeModel$Text" b_MT_same (some .boolean) 5 cc_MT_same A) (hDD : ∀ (rt : Nat) (Mm : SMM) (M0 : SMT) (M1 : SMT), va_D A (m_cw ad ca ky ty rt Mm M0 M1)) (n : Nat) (u20_x1 : Int32) (u20_x3 : Int32) (u20_a0 : SMT) (u20_Mm : SMM) (u20_M1 : SMT) (u20_rt : Nat) (z : Int32) (q : Nat × Int32) (h : m_MT_same_b20 n u20_x1 u20_x3 u20_a0 u20_a0 z = some q) (h0 : q.1 = 0 → o_At p l e rm_MT_same s m args below meth c Q m_cls D A 5 20 [] (m_cw ad ca ky ty u20_rt u20_Mm u20_a0 u20_M1) [(0, .ref (ad 33)), (1, .int u20_x1), (2, .ref (ad 33)), (3, .int u20_x3), (4, .int q.2)]) (h1 : q.1 ≠ 0 → (if q.1 = 1 then o_At p l e rm_MT_same s m args below meth c Q m_cls D A 5 62 [] (m_cw ad ca ky ty u20_rt u20_Mm u20_a0 u20_M1) [] else o_At p l e rm_MT_same s m args below meth c Q m_cls D A 5 70 [] (m_cw ad ca ky ty u20_rt u20_Mm u20_a0 u20_M1) [])) : o_At p l e rm_MT_same s m args below meth c Q m_cls D A 5 20 [] (m_cw ad ca ky ty u20_rt u20_Mm u20_a0 u20_M1) [(0, .ref (ad 33)), (1, .int u20_x1), (2, .ref (ad 33)), (3, .int u20_x3), (4, .int z)] := by
  unfold m_MT_same_b20 at h
  intro H locs ls hP hS hl
  have C0 := C
  obtain ⟨hx, hb, -, -, -, hown, hts, hK, -, -⟩ := C0
  refine lv_iload hx hb d_MT_same_20 (lv_at hl 4 rfl) ?_
  refine lv_aload_n hx hb d_MT_same_22 rfl (lv_at hl 0 rfl) ?_
  refine o_get (v := .ref (ad 37)) C in_MT hP 33 mw_33 rfl 3 (by decide) k_7_106 rfl rfl d_MT_same_23 ?_
  refine lv_iload_n hx hb d_MT_same_26 rfl (lv_at hl 1 rfl) ?_
  obtain ⟨g4, h⟩ := o_gd_some h
  refine o_iald (f := (MT_many u20_a0)) C hP 37 35 mw_37 rfl g4 d_MT_same_27 ?_
  refine lv_icmp_ge (tgt := 70) hx hb d_MT_same_28 (by decide) (fun c5 => ?_) (fun c5 => ?_)
  · replace h := o_tt c5 h
    cases h
    exact h1 (Nat.succ_ne_zero 1) _ _ _ hP hS (lv_sub hl [] rfl)
  · replace h := o_ff c5 h
    refine lv_aload_n hx hb d_MT_same_31 rfl (lv_at hl 0 rfl) ?_
    refine o_get (v := .ref (ad 44)) C in_MT hP 33 mw_33 rfl 10 (by decide) k_7_120 rfl rfl d_MT_same_32 ?_
    refine lv_aload_n hx hb d_MT_same_35 rfl (lv_at hl 0 rfl) ?_
    refine o_get (v := .ref (ad 43)) C in_MT hP 33 mw_33 rfl 9 (by decide) k_7_118 rfl rfl d_MT_same_36 ?_
    refine lv_iload_n hx hb d_MT_same_39 rfl (lv_at hl 1 rfl) ?_
    obtain ⟨g6, h⟩ := o_gd_some h
    refine o_iald (f := (MT_from u20_a0)) C hP 43 41 mw_43 rfl g6 d_MT_same_40 ?_
    refine lv_iload hx hb d_MT_same_41 (lv_at hl 4 rfl) ?_
    refine lv_iadd hx hb d_MT_same_43 ?_
    obtain ⟨g7, h⟩ := o_gd_some h
    refine o_iald (f := (MT_characters u20_a0)) C hP 44 42 mw_44 rfl g7 d_MT_same_44 ?_
    refine lv_aload_n hx hb d_MT_same_45 rfl (lv_at hl 2 rfl) ?_
    refine o_get (v := .ref (ad 44)) C in_MT hP 33 mw_33 rfl 10 (by decide) k_7_120 rfl rfl d_MT_same_46 ?_
    refine lv_aload_n hx hb d_MT_same_49 rfl (lv_at hl 2 rfl) ?_
    refine o_get (v := .ref (ad 43)) C in_MT hP 33 mw_33 rfl 9 (by decide) k_7_118 rfl rfl d_MT_same_50 ?_
    refine lv_iload_n hx hb d_MT_same_53 rfl (lv_at hl 3 rfl) ?_
    obtain ⟨g8, h⟩ := o_gd_some h
    refine o_iald (f := (MT_from u20_a0)) C hP 43 41 mw_43 rfl g8 d_MT_same_54 ?_
    refine lv_iload hx hb d_MT_same_55 (lv_at hl 4 rfl) ?_
    refine lv_iadd hx hb d_MT_same_57 ?_
    obtain ⟨g9, h⟩ := o_gd_some h
    refine o_iald (f := (MT_characters u20_a0)) C hP 44 42 mw_44 rfl g9 d_MT_same_58 ?_
    refine lv_icmp_eq (tgt := 64) hx hb d_MT_same_59 (by decide) (fun c10 => ?_) (fun c10 => ?_)
    · replace h := o_tt c10 h
      obtain ⟨x4_64, ex4_64⟩ : ∃ y : Int32, y = z + (1:Int32) := ⟨_, rfl⟩
      replace h := o_nm_at ex4_64 h
      refine lv_iinc (v := x4_64) (lv' := [(4, .int x4_64), (0, .ref (ad 33)), (1, .int u20_x1), (2, .ref (ad 33)), (3, .int u20_x3)]) hx hb d_MT_same_64 hl (k := 4) rfl (by rw [ex4_64]; rfl) (by decide) rfl (fun ls hl => ?_)
      refine lv_goto (tgt := 20) hx hb d_MT_same_67 (by decide) ?_
      cases h
      exact h0 rfl _ _ _ hP hS (lv_sub hl [1, 2, 3, 4, 0] rfl)
    · replace h := o_ff c10 h
      cases h
      exact h1 (Nat.succ_ne_zero 0) _ _ _ hP hS (lv_sub hl [] rfl)
set_option maxHeartbeats 4000000 in
set_option maxRecDepth 100000 in
theorem e_MT_same_aa {E : (Nat → Prop) → State → Heap → Prop} {D : va_G} {ad kd sd vd xd : Nat → Nat} {ca : Nat → ClassId} {ky ty : Nat → Option Nat} (hE : o_EK E kd sd vd xd) (hKy : m_KY ky ty sd) (l : Launch) (n : Nat) (x1 : Int32) (x3 : Int32) (a0 : SMT) (Mm : SMM) (M1 : SMT) (rt : Nat) {r : Int32} (h : m_MT_same n x1 x3 a0 a0 = some r) : o_Cn E l D m_cls (m_tys ca) y_MT_same cc_MT_same rm_MT_same [.ref (ad 33), .int x1, .ref (ad 33), .int x3] (m_cw ad ca ky ty rt Mm a0 M1) (m_cw ad ca ky ty rt Mm a0 M1) (some (.int r)) := by
  refine o_Cn_of (by decide) (Nat.le_of_ble_eq_true rfl) ?_
  intro p e s m below meth c A ls C hD hP hS hl
  have hDD : ∀ (rt : Nat) (Mm : SMM) (M0 : SMT) (M1 : SMT), va_D A (m_cw ad ca ky ty rt Mm M0 M1) := fun _ _ _ _ => o_D_map hD rfl
  have hl : lv_has ls 5 [(0, .ref (ad 33)), (1, .int x1), (2, .ref (ad 33)), (3, .int x3)] := hl
  unfold m_MT_same at h
  have C0 := C
  obtain ⟨hx, hb, -, -, -, hown, hts, hK, -, -⟩ := C0
  refine lv_aload_n hx hb d_MT_same_0 rfl (lv_at hl 0 rfl) ?_
  refine o_get (v := .ref (ad 37)) C in_MT hP 33 mw_33 rfl 3 (by decide) k_7_106 rfl rfl d_MT_same_1 ?_
  refine lv_iload_n hx hb d_MT_same_4 rfl (lv_at hl 1 rfl) ?_
  obtain ⟨g1, h⟩ := o_gd_some h
  refine o_iald (f := (MT_many a0)) C hP 37 35 mw_37 rfl g1 d_MT_same_5 ?_
  refine lv_aload_n hx hb d_MT_same_6 rfl (lv_at hl 2 rfl) ?_
  refine o_get (v := .ref (ad 37)) C in_MT hP 33 mw_33 rfl 3 (by decide) k_7_106 rfl rfl d_MT_same_7 ?_
  refine lv_iload_n hx hb d_MT_same_10 rfl (lv_at hl 3 rfl) ?_
  obtain ⟨g2, h⟩ := o_gd_some h
  refine o_iald (f := (MT_many a0)) C hP 37 35 mw_37 rfl g2 d_MT_same_11 ?_
  refine lv_icmp_eq (tgt := 17) hx hb d_MT_same_12 (by decide) (fun c3 => ?_) (fun c3 => ?_)
  · replace h := o_tt c3 h
    refine lv_iconst (v := (0:Int32)) hx hb d_MT_same_17 (by decide) ?_
    refine lv_istore (lv' := [(4, .int (0:Int32)), (0, .ref (ad 33)), (1, .int x1), (2, .ref (ad 33)), (3, .int x3)]) hx hb d_MT_same_18 hl (by decide) rfl (fun ls hl => ?_)
    obtain ⟨q1, hq1, h⟩ := o_bd_some h
    refine o_sim2 (AH := fun zz => o_At p l e rm_MT_same s m _ below meth c _ m_cls D A 5 20 [] (m_cw ad ca ky ty rt Mm a0 M1) [(0, .ref (ad 33)), (1, .int x1), (2, .ref (ad 33)), (3, .int x3), (4, .int zz)]) (AX := fun qq => if qq.1 = 1 then o_At p l e rm_MT_same s m _ below meth c _ m_cls D A 5 62 [] (m_cw ad ca ky ty rt Mm a0 M1) [] else o_At p l e rm_MT_same s m _ below meth c _ m_cls D A 5 70 [] (m_cw ad ca ky ty rt Mm a0 M1) []) (fun zz qq h h0 h1 => f_MT_same_b20_aa hE hKy C hDD n x1 x3 a0 Mm M1 rt zz qq h h0 h1) n _ q1 hq1 ?_ _ _ _ hP hS (lv_sub hl [1, 2, 3, 4, 0] rfl)
    by_cases c11 : q1.1 = 1
    · replace h := o_tt c11 h
      refine o_ip c11 ?_
      intro H locs ls hP hS hl
      refine lv_iconst (v := (0:Int32)) hx hb d_MT_same_62 (by decide) ?_
      cases h
      exact o_rz (v := (0:Int32)) C o_nar0 hP hS d_MT_same_63
    replace h := o_ff c11 h
    refine o_in_ c11 ?_
    intro H locs ls hP hS hl
    refine lv_iconst (v := (1:Int32)) hx hb d_MT_same_70 (by decide) ?_
    cases h
    exact o_rz (v := (1:Int32)) C o_nar1 hP hS d_MT_same_71
  · replace h := o_ff c3 h
    refine lv_iconst (v := (0:Int32)) hx hb d_MT_same_15 (by decide) ?_
    cases h
    exact o_rz (v := (0:Int32)) C o_nar0 hP hS d_MT_same_16
set_option maxHeartbeats 4000000 in
set_option maxRecDepth 100000 in
theorem f_MT_object_b127_a {E : (Nat → Prop) → State → Heap → Prop} {p : Program} {l : Launch} {e : Env} {s : State} {m : MethodId} {args : Array Value} {below : List Frame} {meth : Method} {c : Code} {D : va_G} {ad kd sd vd xd : Nat → Nat} {ca : Nat → ClassId} {A : Nat → Prop} {ky ty : Nat → Option Nat} {Q : State → Prop} (hE : o_EK E kd sd vd xd) (hKy : m_KY ky ty sd) (C : o_Cx E p s m args meth c D m_cls (m_tys ca) "SchemaJudgeModel$Text" b_MT_object (some .boolean) 8 cc_MT_object A) (hDD : ∀ (rt : Nat) (Mm : SMM) (M0 : SMT) (M1 : SMT), va_D A (m_cw ad ca ky ty rt Mm M0 M1)) (d : Nat) (rec : Int32 → Int32 → SMT → Option (Int32 × SMT)) (hrec : ∀ (x1 : Int32) (x2 : Int32) (a0 : SMT) (Mm : SMM) (M1 : SMT) (rt : Nat) (r : Int32 × SMT), rec x1 x2 a0 = some r → o_Cn E l D m_cls (m_tys ca) y_MT_value cc_MT_value (rm_MT_value d) [.ref (ad 33), .int x1, .int x2] (m_cw ad ca ky ty rt Mm a0 M1) (m_cw ad ca ky ty rt Mm r.2 M1) (some (.int r.1))) (n : Nat) (u127_x2 : Int32) (u127_x3 : Int32) (u127_x4 : Int32) (u127_x5 : Int32) (u127_x6 : Int32) (u127_a0 : SMT) (u127_Mm : SMM) (u127_M1 : SMT) (u127_rt : Nat) (z : Int32) (q : Nat × Int32) (h : m_MT_object_b127 n rec u127_x2 u127_x3 u127_x4 u127_x5 u127_x6 u127_a0 z = some q) (h0 : q.1 = 0 → o_At p l e (rm_MT_object d) s m args below meth c Q m_cls D A 8 127 [] (m_cw ad ca ky ty u127_rt u127_Mm u127_a0 u127_M1) [(0, .ref (ad 33)), (2, .int u127_x2), (3, .int u127_x3), (4, .int u127_x4), (5, .int u127_x5), (6, .int u127_x6), (7, .int q.2)]) (h1 : q.1 ≠ 0 → (if q.1 = 1 then o_At p l e (rm_MT_object d) s m args below meth c Q m_cls D A 8 149 [] (m_cw ad ca ky ty u127_rt u127_Mm u127_a0 u127_M1) [(0, .ref (ad 33)), (5, .int u127_x5)] else o_At p l e (rm_MT_object d) s m args below meth c Q m_cls D A 8 168 [] (m_cw ad ca ky ty u127_rt u127_Mm u127_a0 u127_M1) [(0, .ref (ad 33)), (2, .int u127_x2), (3, .int u127_x3), (4, .int u127_x4), (6, .int u127_x6)])) : o_At p l e (rm_MT_object d) s m args below meth c Q m_cls D A 8 127 [] (m_cw ad ca ky ty u127_rt u127_Mm u127_a0 u127_M1) [(0, .ref (ad 33)), (2, .int u127_x2), (3, .int u127_x3), (4, .int u127_x4), (5, .int u127_x5), (6, .int u127_x6), (7, .int z)] := by
  unfold m_MT_object_b127 at h
  intro H locs ls hP hS hl
  have C0 := C
  obtain ⟨hx, hb, -, -, -, hown, hts, hK, -, -⟩ := C0
  refine lv_iload hx hb d_MT_object_127 (lv_at hl 6 rfl) ?_
  refine lv_if_lt (tgt := 168) hx hb d_MT_object_129 (by decide) (fun c8 => ?_) (fun c8 => ?_)
  · replace h := o_tt c8 h
    cases h
    exact h1 (Nat.succ_ne_zero 1) _ _ _ hP hS (lv_sub hl [0, 1, 2, 3, 5] rfl)
  · replace h := o_ff c8 h
    refine lv_aload_n hx hb d_MT_object_132 rfl (lv_at hl 0 rfl) ?_
    refine lv_aload_n hx hb d_MT_object_133 rfl (lv_at hl 0 rfl) ?_
    refine o_get (v := .ref (ad 42)) C in_MT hP 33 mw_33 rfl 8 (by decide) k_7_116 rfl rfl d_MT_object_134 ?_
    refine lv_iload hx hb d_MT_object_137 (lv_at hl 6 rfl) ?_
    obtain ⟨g9, h⟩ := o_gd_some h
    refine o_iald (f := (MT_name u127_a0)) C hP 42 40 mw_42 rfl g9 d_MT_object_139 ?_
    refine lv_aload_n hx hb d_MT_object_140 rfl (lv_at hl 0 rfl) ?_
    refine lv_iload hx hb d_MT_object_141 (lv_at hl 5 rfl) ?_
    obtain ⟨q7, hq7, h⟩ := o_bd_some h
    refine o_V (st1 := [.int q7]) (w1 := (m_cw ad ca ky ty u127_rt u127_Mm u127_a0 u127_M1)) hE.1 C (e_MT_same_aa hE hKy l n ((MT_name u127_a0) z.toNatClampNeg) u127_x6 u127_a0 u127_Mm u127_M1 u127_rt hq7) hP (hDD _ _ _ _) hS hl.1 rfl mw_33 k_9_25 k_9_26 k_9_27 k_1_13 k_9_28 hv_MT_same rfl rfl ⟨(by dsimp only [rm_MT_object, rm_MT_same]; omega), (by dsimp only [rm_MT_object, rm_MT_same]; omega)⟩ rfl (Nat.le_of_ble_eq_true rfl) ⟨Nat.zero_le _, Nat.zero_le _⟩ rfl d_MT_object_143 (fun H locs hP hS => ?_)
    refine lv_if_eq (tgt := 156) hx hb d_MT_object_146 (by decide) (fun c10 => ?_) (fun c10 => ?_)
    · replace h := o_tt c10 h
      refine lv_aload_n hx hb d_MT_object_156 rfl (lv_at hl 0 rfl) ?_
      refine o_get (v := .ref (ad 41)) C in_MT hP 33 mw_33 rfl 7 (by decide) k_7_114 rfl rfl d_MT_object_157 ?_
      refine lv_iload hx hb d_MT_object_160 (lv_at hl 6 rfl) ?_
      obtain ⟨g11, h⟩ := o_gd_some h
      refine o_iald (f := (MT_next u127_a0)) C hP 41 39 mw_41 rfl g11 d_MT_object_162 ?_
      refine lv_topi (fun x7_163 ex7_163 => ?_)
      replace h := o_nm_at ex7_163 h
      refine lv_istore (lv' := [(7, .int x7_163), (0, .ref (ad 33)), (2, .int u127_x2), (3, .int u127_x3), (4, .int u127_x4), (5, .int u127_x5), (6, .int u127_x6)]) hx hb d_MT_object_163 hl (by decide) rfl (fun ls hl => ?_)
      refine lv_goto (tgt := 127) hx hb d_MT_object_165 (by decide) ?_
      cases h
      exact h0 rfl _ _ _ hP hS (lv_sub hl [1, 2, 3, 4, 5, 6, 0] rfl)
    · replace h := o_ff c10 h
      cases h
      exact h1 (Nat.succ_ne_zero 0) _ _ _ hP hS (lv_sub hl [0, 4] rfl)
set_option maxHeartbeats 4000000 in
set_option maxRecDepth 100000 in
theorem f_MT_object_j261_a {E : (Nat → Prop) → State → Heap → Prop} {p : Program} {l : Launch} {e : Env} {s : State} {m : MethodId} {args : Array Value} {below : List Frame} {meth : Method} {c : Code} {D : va_G} {ad kd sd vd xd : Nat → Nat} {ca : Nat → ClassId} {A : Nat → Prop} {ky ty : Nat → Option Nat} {Q : State → Prop} (hE : o_EK E kd sd vd xd) (hKy : m_KY ky ty sd) (C : o_Cx E p s m args meth c D m_cls (m_tys ca) "SchemaJudgeModel$Text" b_MT_object (some .boolean) 8 cc_MT_object A) (hDD : ∀ (rt : Nat) (Mm : SMM) (M0 : SMT) (M1 : SMT), va_D A (m_cw ad ca ky ty rt Mm M0 M1)) (d : Nat) (rec : Int32 → Int32 → SMT → Option (Int32 × SMT)) (hrec : ∀ (x1 : Int32) (x2 : Int32) (a0 : SMT) (Mm : SMM) (M1 : SMT) (rt : Nat) (r : Int32 × SMT), rec x1 x2 a0 = some r → o_Cn E l D m_cls (m_tys ca) y_MT_value cc_MT_value (rm_MT_value d) [.ref (ad 33), .int x1, .int x2] (m_cw ad ca ky ty rt Mm a0 M1) (m_cw ad ca ky ty rt Mm r.2 M1) (some (.int r.1))) (n : Nat) (u50_x2 : Int32) (u50_x3 : Int32) (u50_Mm : SMM) (u50_M1 : SMT) (u50_rt : Nat) (x7 : Int32) (a0 : SMT) {q : Nat × Int32 × Int32 × SMT} (h : m_MT_object_j261 n rec u50_x2 u50_x3 x7 a0 = some q) (h0 : q.1 = 0 → o_At p l e (rm_MT_object d) s m args below meth c Q m_cls D A 8 50 [] (m_cw ad ca ky ty u50_rt u50_Mm q.2.2.2 u50_M1) [(0, .ref (ad 33)), (2, .int u50_x2), (3, .int u50_x3), (4, .int q.2.1)]) (h1 : q.1 ≠ 0 → (if q.1 = 1 then o_At p l e (rm_MT_object d) s m args below meth c Q m_cls D A 8 88 [] (m_cw ad ca ky ty u50_rt u50_Mm q.2.2.2 u50_M1) [(0, .ref (ad 33))] else if q.1 = 2 then o_At p l e (rm_MT_object d) s m args below meth c Q m_cls D A 8 117 [] (m_cw ad ca ky ty u50_rt u50_Mm q.2.2.2 u50_M1) [] else if q.1 = 3 then o_At p l e (rm_MT_object d) s m args below meth c Q m_cls D A 8 149 [] (m_cw ad ca ky ty u50_rt u50_Mm q.2.2.2 u50_M1) [(0, .ref (ad 33)), (5, .int q.2.2.1)] else if q.1 = 4 then o_At p l e (rm_MT_object d) s m args below meth c Q m_cls D A 8 185 [] (m_cw ad ca ky ty u50_rt u50_Mm q.2.2.2 u50_M1) [(0, .ref (ad 33))] else if q.1 = 5 then o_At p l e (rm_MT_object d) s m args below meth c Q m_cls D A 8 225 [] (m_cw ad ca ky ty u50_rt u50_Mm q.2.2.2 u50_M1) [] else if q.1 = 6 then o_At p l e (rm_MT_object d) s m args below meth c Q m_cls D A 8 292 [] (m_cw ad ca ky ty u50_rt u50_Mm q.2.2.2 u50_M1) [(0, .ref (ad 33))] else o_At p l e (rm_MT_object d) s m args below meth c Q m_cls D A 8 317 [] (m_cw ad ca ky ty u50_rt u50_Mm q.2.2.2 u50_M1) [(0, .ref (ad 33))])) : o_At p l e (rm_MT_object d) s m args below meth c Q m_cls D A 8 261 [] (m_cw ad ca ky ty u50_rt u50_Mm a0 u50_M1) [(0, .ref (ad 33)), (2, .int u50_x2), (3, .int u50_x3), (7, .int x7)] := by
  unfold m_MT_object_j261 at h
  intro H locs ls hP hS hl
  have C0 := C
  obtain ⟨hx, hb, -, -, -, hown, hts, hK, -, -⟩ := C0
  refine lv_iload hx hb d_MT_object_261 (lv_at hl 3 rfl) ?_
  refine lv_istore (lv' := [(4, .int x7), (0, .ref (ad 33)), (2, .int u50_x2), (3, .int u50_x3), (7, .int x7)]) hx hb d_MT_object_263 hl (by decide) rfl (fun ls hl => ?_)
  refine lv_aload_n hx hb d_MT_object_265 rfl (lv_at hl 1 rfl) ?_
  refine o_get (v := .ref (ad 37)) C in_MT hP 33 mw_33 rfl 3 (by decide) k_7_106 rfl rfl d_MT_object_266 ?_
  refine lv_iload_n hx hb d_MT_object_269 rfl (lv_at hl 3 rfl) ?_
  refine lv_dup2_11 hx hb d_MT_object_270 rfl rfl ?_
  obtain ⟨g17, h⟩ := o_gd_some h
  refine o_iald (f := (MT_many a0)) C hP 37 35 mw_37 rfl g17 d_MT_object_271 ?_
  refine lv_iconst (v := (1:Int32)) hx hb d_MT_object_272 (by decide) ?_
  refine lv_iadd hx hb d_MT_object_273 ?_
  obtain ⟨g18, h⟩ := o_gd_some h
  refine o_iast (f := (MT_many a0)) (w1 := (m_cw ad ca ky ty u50_rt u50_Mm (MT_mk (MT_text a0) (MT_kind a0) (MT_place a0) (upd (MT_many a0) u50_x3.toNatClampNeg (((MT_many a0) u50_x3.toNatClampNeg) + (1:Int32))) (MT_parent a0) (MT_power a0) (MT_first a0) (MT_next a0) (MT_name a0) (MT_from a0) (MT_characters a0) (MT_digits a0) (MT_minus a0) (MT_values a0) (MT_letters a0) (MT_at a0) (MT_wrong a0) (MT_used a0) (MT_written a0) (MT_left a0)) u50_M1)) C hP (hDD _ _ _ _) hS 37 35 mw_37 rfl g18 rfl d_MT_object_274 (fun H locs hP hS => ?_)
  refine lv_aload_n hx hb d_MT_object_275 rfl (lv_at hl 1 rfl) ?_
  obtain ⟨q13, hq13, h⟩ := o_bd_some h
  refine o_V (st1 := []) (w1 := (m_cw ad ca ky ty u50_rt u50_Mm q13 u50_M1)) hE.1 C (e_MT_blanks_a hE hKy l n (MT_mk (MT_text a0) (MT_kind a0) (MT_place a0) (upd (MT_many a0) u50_x3.toNatClampNeg (((MT_many a0) u50_x3.toNatClampNeg) + (1:Int32))) (MT_parent a0) (MT_power a0) (MT_first a0) (MT_next a0) (MT_name a0) (MT_from a0) (MT_characters a0) (MT_digits a0) (MT_minus a0) (MT_values a0) (MT_letters a0) (MT_at a0) (MT_wrong a0) (MT_used a0) (MT_written a0) (MT_left a0)) u50_Mm u50_M1 u50_rt hq13) hP (hDD _ _ _ _) hS hl.1 rfl mw_33 k_8_188 k_8_189 k_8_190 k_1_13 k_8_191 hv_MT_blanks rfl rfl ⟨(by dsimp only [rm_MT_object, rm_MT_blanks]; omega), (by dsimp only [rm_MT_object, rm_MT_blanks]; omega)⟩ rfl (Nat.le_of_ble_eq_true rfl) ⟨Nat.zero_le _, Nat.zero_le _⟩ rfl d_MT_object_276 (fun H locs hP hS => ?_)
  refine lv_aload_n hx hb d_MT_object_279 rfl (lv_at hl 1 rfl) ?_
  refine lv_aload_n hx hb d_MT_object_280 rfl (lv_at hl 1 rfl) ?_
  refine o_get (v := .int (MT_at q13)) C in_MT hP 33 mw_33 rfl 15 (by decide) k_7_129 rfl rfl d_MT_object_281 ?_
  obtain ⟨q14, hq14, h⟩ := o_bd_some h
  refine o_V (st1 := [.int q14]) (w1 := (m_cw ad ca ky ty u50_rt u50_Mm q13 u50_M1)) hE.1 C (e_MT_c_a hE hKy l (MT_at q13) q13 u50_Mm u50_M1 u50_rt hq14) hP (hDD _ _ _ _) hS hl.1 rfl mw_33 k_8_192 k_8_193 k_8_194 k_1_13 k_8_195 hv_MT_c rfl rfl ⟨(by dsimp only [rm_MT_object, rm_MT_c]; omega), (by dsimp only [rm_MT_object, rm_MT_c]; omega)⟩ rfl (Nat.le_of_ble_eq_true rfl) ⟨Nat.zero_le _, Nat.zero_le _⟩ rfl d_MT_object_284 (fun H locs hP hS => ?_)
  refine lv_bipush (v := (125:Int32)) hx hb d_MT_object_287 (by decide) ?_
  refine lv_icmp_ne (tgt := 304) hx hb d_MT_object_289 (by decide) (fun c19 => ?_) (fun c19 => ?_)
  · replace h := o_ff c19 h
    refine lv_aload_n hx hb d_MT_object_304 rfl (lv_at hl 1 rfl) ?_
    refine lv_aload_n hx hb d_MT_object_305 rfl (lv_at hl 1 rfl) ?_
    refine o_get (v := .int (MT_at q13)) C in_MT hP 33 mw_33 rfl 15 (by decide) k_7_129 rfl rfl d_MT_object_306 ?_
    obtain ⟨q15, hq15, h⟩ := o_bd_some h
    refine o_V (st1 := [.int q15]) (w1 := (m_cw ad ca ky ty u50_rt u50_Mm q13 u50_M1)) hE.1 C (e_MT_c_a hE hKy l (MT_at q13) q13 u50_Mm u50_M1 u50_rt hq15) hP (hDD _ _ _ _) hS hl.1 rfl mw_33 k_8_192 k_8_193 k_8_194 k_1_13 k_8_195 hv_MT_c rfl rfl ⟨(by dsimp only [rm_MT_object, rm_MT_c]; omega), (by dsimp only [rm_MT_object, rm_MT_c]; omega)⟩ rfl (Nat.le_of_ble_eq_true rfl) ⟨Nat.zero_le _, Nat.zero_le _⟩ rfl d_MT_object_309 (fun H locs hP hS => ?_)
    refine lv_bipush (v := (44:Int32)) hx hb d_MT_object_312 (by decide) ?_
    refine lv_icmp_eq (tgt := 326) hx hb d_MT_object_314 (by decide) (fun c20 => ?_) (fun c20 => ?_)
    · replace h := o_tt c20 h
      refine lv_aload_n hx hb d_MT_object_326 rfl (lv_at hl 1 rfl) ?_
      refine lv_dup hx hb d_MT_object_327 rfl ?_
      refine o_get (v := .int (MT_at q13)) C in_MT hP 33 mw_33 rfl 15 (by decide) k_7_129 rfl rfl d_MT_object_328 ?_
      refine lv_iconst (v := (1:Int32)) hx hb d_MT_object_331 (by decide) ?_
      refine lv_iadd hx hb d_MT_object_332 ?_
      refine o_put (v := .int ((MT_at q13) + (1:Int32))) (ty := .int) (w1 := (m_cw ad ca ky ty u50_rt u50_Mm (MT_mk (MT_text q13) (MT_kind q13) (MT_place q13) (MT_many q13) (MT_parent q13) (MT_power q13) (MT_first q13) (MT_next q13) (MT_name q13) (MT_from q13) (MT_characters q13) (MT_digits q13) (MT_minus q13) (MT_values q13) (MT_letters q13) ((MT_at q13) + (1:Int32)) (MT_wrong q13) (MT_used q13) (MT_written q13) (MT_left q13)) u50_M1)) C in_MT t_MT t_MT_ok n_MT hP (hDD _ _ _ _) hS 33 mw_33 rfl 15 (by decide) k_7_129 rfl rfl (by decide +kernel) rfl rfl (Nat.le_of_ble_eq_true rfl) rfl d_MT_object_333 (fun H locs hP hS => ?_)
      refine lv_goto (tgt := 50) hx hb d_MT_object_336 (by decide) ?_
      cases h
      exact h0 rfl _ _ _ hP hS (lv_sub hl [1, 2, 3, 0] rfl)
    · replace h := o_ff c20 h
      cases h
      exact h1 (Nat.succ_ne_zero 6) _ _ _ hP hS (lv_sub hl [1] rfl)
  · replace h := o_tt c19 h
    cases h
    exact h1 (Nat.succ_ne_zero 5) _ _ _ hP hS (lv_sub hl [1] rfl)
set_option maxHeartbeats 4000000 in
set_option maxRecDepth 100000 in
theorem f_MT_object_b50_a {E : (Nat → Prop) → State → Heap → Prop} {p : Program} {l : Launch} {e : Env} {s : State} {m : MethodId} {args : Array Value} {below : List Frame} {meth : Method} {c : Code} {D : va_G} {ad kd sd vd xd : Nat → Nat} {ca : Nat → ClassId} {A : Nat → Prop} {ky ty : Nat → Option Nat} {Q : State → Prop} (hE : o_EK E kd sd vd xd) (hKy : m_KY ky ty sd) (C : o_Cx E p s m args meth c D m_cls (m_tys ca) "SchemaJudgeModel$Text" b_MT_object (some .boolean) 8 cc_MT_object A) (hDD : ∀ (rt : Nat) (Mm : SMM) (M0 : SMT) (M1 : SMT), va_D A (m_cw ad ca ky ty rt Mm M0 M1)) (d : Nat) (rec : Int32 → Int32 → SMT → Option (Int32 × SMT)) (hrec : ∀ (x1 : Int32) (x2 : Int32) (a0 : SMT) (Mm : SMM) (M1 : SMT) (rt : Nat) (r : Int32 × SMT), rec x1 x2 a0 = some r → o_Cn E l D m_cls (m_tys ca) y_MT_value cc_MT_value (rm_MT_value d) [.ref (ad 33), .int x1, .int x2] (m_cw ad ca ky ty rt Mm a0 M1) (m_cw ad ca ky ty rt Mm r.2 M1) (some (.int r.1))) (n : Nat) (u50_x2 : Int32) (u50_x3 : Int32) (u50_Mm : SMM) (u50_M1 : SMT) (u50_rt : Nat) (z : Int32 × Int32 × SMT) (q : Nat × Int32 × Int32 × SMT) (h : m_MT_object_b50 n rec u50_x2 u50_x3 z = some q) (h0 : q.1 = 0 → o_At p l e (rm_MT_object d) s m args below meth c Q m_cls D A 8 50 [] (m_cw ad ca ky ty u50_rt u50_Mm q.2.2.2 u50_M1) [(0, .ref (ad 33)), (2, .int u50_x2), (3, .int u50_x3), (4, .int q.2.1)]) (h1 : q.1 ≠ 0 → (if q.1 = 1 then o_At p l e (rm_MT_object d) s m args below meth c Q m_cls D A 8 88 [] (m_cw ad ca ky ty u50_rt u50_Mm q.2.2.2 u50_M1) [(0, .ref (ad 33))] else if q.1 = 2 then o_At p l e (rm_MT_object d) s m args below meth c Q m_cls D A 8 117 [] (m_cw ad ca ky ty u50_rt u50_Mm q.2.2.2 u50_M1) [] else if q.1 = 3 then o_At p l e (rm_MT_object d) s m args below meth c Q m_cls D A 8 149 [] (m_cw ad ca ky ty u50_rt u50_Mm q.2.2.2 u50_M1) [(0, .ref (ad 33)), (5, .int q.2.2.1)] else if q.1 = 4 then o_At p l e (rm_MT_object d) s m args below meth c Q m_cls D A 8 185 [] (m_cw ad ca ky ty u50_rt u50_Mm q.2.2.2 u50_M1) [(0, .ref (ad 33))] else if q.1 = 5 then o_At p l e (rm_MT_object d) s m args below meth c Q m_cls D A 8 225 [] (m_cw ad ca ky ty u50_rt u50_Mm q.2.2.2 u50_M1) [] else if q.1 = 6 then o_At p l e (rm_MT_object d) s m args below meth c Q m_cls D A 8 292 [] (m_cw ad ca ky ty u50_rt u50_Mm q.2.2.2 u50_M1) [(0, .ref (ad 33))] else o_At p l e (rm_MT_object d) s m args below meth c Q m_cls D A 8 317 [] (m_cw ad ca ky ty u50_rt u50_Mm q.2.2.2 u50_M1) [(0, .ref (ad 33))])) : o_At p l e (rm_MT_object d) s m args below meth c Q m_cls D A 8 50 [] (m_cw ad ca ky ty u50_rt u50_Mm z.2.2 u50_M1) [(0, .ref (ad 33)), (2, .int u50_x2), (3, .int u50_x3), (4, .int z.1)] := by
  unfold m_MT_object_b50 at h
  intro H locs ls hP hS hl
  have C0 := C
  obtain ⟨hx, hb, -, -, -, hown, hts, hK, -, -⟩ := C0
  refine lv_aload_n hx hb d_MT_object_50 rfl (lv_at hl 0 rfl) ?_
  obtain ⟨q4, hq4, h⟩ := o_bd_some h
  refine o_V (st1 := []) (w1 := (m_cw ad ca ky ty u50_rt u50_Mm q4 u50_M1)) hE.1 C (e_MT_blanks_a hE hKy l n z.2.2 u50_Mm u50_M1 u50_rt hq4) hP (hDD _ _ _ _) hS hl.1 rfl mw_33 k_8_188 k_8_189 k_8_190 k_1_13 k_8_191 hv_MT_blanks rfl rfl ⟨(by dsimp only [rm_MT_object, rm_MT_blanks]; omega), (by dsimp only [rm_MT_object, rm_MT_blanks]; omega)⟩ rfl (Nat.le_of_ble_eq_true rfl) ⟨Nat.zero_le _, Nat.zero_le _⟩ rfl d_MT_object_51 (fun H locs hP hS => ?_)
  refine lv_aload_n hx hb d_MT_object_54 rfl (lv_at hl 0 rfl) ?_
  refine lv_aload_n hx hb d_MT_object_55 rfl (lv_at hl 0 rfl) ?_
  refine o_get (v := .int (MT_at q4)) C in_MT hP 33 mw_33 rfl 15 (by decide) k_7_129 rfl rfl d_MT_object_56 ?_
  obtain ⟨q5, hq5, h⟩ := o_bd_some h
  refine o_V (st1 := [.int q5]) (w1 := (m_cw ad ca ky ty u50_rt u50_Mm q4 u50_M1)) hE.1 C (e_MT_c_a hE hKy l (MT_at q4) q4 u50_Mm u50_M1 u50_rt hq5) hP (hDD _ _ _ _) hS hl.1 rfl mw_33 k_8_192 k_8_193 k_8_194 k_1_13 k_8_195 hv_MT_c rfl rfl ⟨(by dsimp only [rm_MT_object, rm_MT_c]; omega), (by dsimp only [rm_MT_object, rm_MT_c]; omega)⟩ rfl (Nat.le_of_ble_eq_true rfl) ⟨Nat.zero_le _, Nat.zero_le _⟩ rfl d_MT_object_59 (fun H locs hP hS => ?_)
  refine lv_bipush (v := (34:Int32)) hx hb d_MT_object_62 (by decide) ?_
  refine lv_icmp_ne (tgt := 88) hx hb d_MT_object_64 (by decide) (fun c2 => ?_) (fun c2 => ?_)
  · replace h := o_ff c2 h
    cases h
    exact h1 (Nat.succ_ne_zero 0) _ _ _ hP hS (lv_sub hl [0] rfl)
  · replace h := o_tt c2 h
    refine lv_aload_n hx hb d_MT_object_67 rfl (lv_at hl 0 rfl) ?_
    refine o_get (v := .ref (ad 37)) C in_MT hP 33 mw_33 rfl 3 (by decide) k_7_106 rfl rfl d_MT_object_68 ?_
    refine lv_iload_n hx hb d_MT_object_71 rfl (lv_at hl 2 rfl) ?_
    obtain ⟨g3, h⟩ := o_gd_some h
    refine o_iald (f := (MT_many q4)) C hP 37 35 mw_37 rfl g3 d_MT_object_72 ?_
    refine lv_bipush (v := (60:Int32)) hx hb d_MT_object_73 (by decide) ?_
    refine lv_icmp_eq (tgt := 88) hx hb d_MT_object_75 (by decide) (fun c4 => ?_) (fun c4 => ?_)
    · replace h := o_tt c4 h
      cases h
      exact h1 (Nat.succ_ne_zero 0) _ _ _ hP hS (lv_sub hl [0] rfl)
    · replace h := o_ff c4 h
      refine lv_aload_n hx hb d_MT_object_78 rfl (lv_at hl 0 rfl) ?_
      refine o_get (v := .int (MT_values q4)) C in_MT hP 33 mw_33 rfl 13 (by decide) k_7_126 rfl rfl d_MT_object_79 ?_
      refine lv_sipush (v := (1000:Int32)) hx hb d_MT_object_82 (by decide) ?_
      refine lv_icmp_ne (tgt := 97) hx hb d_MT_object_85 (by decide) (fun c5 => ?_) (fun c5 => ?_)
      · replace h := o_ff c5 h
        refine lv_aload_n hx hb d_MT_object_97 rfl (lv_at hl 0 rfl) ?_
        refine o_get (v := .int (MT_at q4)) C in_MT hP 33 mw_33 rfl 15 (by decide) k_7_129 rfl rfl d_MT_object_98 ?_
        refine lv_topi (fun x5_101 ex5_101 => ?_)
        replace h := o_nm_at ex5_101 h
        refine lv_istore (lv' := [(5, .int x5_101), (0, .ref (ad 33)), (2, .int u50_x2), (3, .int u50_x3), (4, .int z.1)]) hx hb d_MT_object_101 hl (by decide) rfl (fun ls hl => ?_)
        refine lv_aload_n hx hb d_MT_object_103 rfl (lv_at hl 1 rfl) ?_
        refine o_get (v := .int (MT_values q4)) C in_MT hP 33 mw_33 rfl 13 (by decide) k_7_126 rfl rfl d_MT_object_104 ?_
        refine lv_topi (fun x6_107 ex6_107 => ?_)
        replace h := o_nm_at ex6_107 h
        refine lv_istore (lv' := [(6, .int x6_107), (5, .int x5_101), (0, .ref (ad 33)), (2, .int u50_x2), (3, .int u50_x3), (4, .int z.1)]) hx hb d_MT_object_107 hl (by decide) rfl (fun ls hl => ?_)
        refine lv_aload_n hx hb d_MT_object_109 rfl (lv_at hl 2 rfl) ?_
        refine lv_iload_n hx hb d_MT_object_110 rfl (lv_at hl 4 rfl) ?_
        obtain ⟨q6, hq6, h⟩ := o_bd_some h
        refine o_V (st1 := [.int q6.1]) (w1 := (m_cw ad ca ky ty u50_rt u50_Mm q6.2 u50_M1)) hE.1 C (e_MT_string_a hE hKy l n u50_x3 q4 u50_Mm u50_M1 u50_rt hq6) hP (hDD _ _ _ _) hS hl.1 rfl mw_33 k_8_220 k_8_221 k_8_222 k_1_13 k_8_223 hv_MT_string rfl rfl ⟨(by dsimp only [rm_MT_object, rm_MT_string]; omega), (by dsimp only [rm_MT_object, rm_MT_string]; omega)⟩ rfl (Nat.le_of_ble_eq_true rfl) ⟨Nat.zero_le _, Nat.zero_le _⟩ rfl d_MT_object_111 (fun H locs hP hS => ?_)
        refine lv_if_ne (tgt := 119) hx hb d_MT_object_114 (by decide) (fun c6 => ?_) (fun c6 => ?_)
        · replace h := o_ff c6 h
          refine lv_aload_n hx hb d_MT_object_119 rfl (lv_at hl 2 rfl) ?_
          refine o_get (v := .ref (ad 40)) C in_MT hP 33 mw_33 rfl 6 (by decide) k_7_112 rfl rfl d_MT_object_120 ?_
          refine lv_iload_n hx hb d_MT_object_123 rfl (lv_at hl 4 rfl) ?_
          obtain ⟨g7, h⟩ := o_gd_some h
          refine o_iald (f := (MT_first q6.2)) C hP 40 38 mw_40 rfl g7 d_MT_object_124 ?_
          refine lv_topi (fun x7_125 ex7_125 => ?_)
          replace h := o_nm_at ex7_125 h
          refine lv_istore (lv' := [(7, .int x7_125), (6, .int x6_107), (5, .int x5_101), (0, .ref (ad 33)), (2, .int u50_x2), (3, .int u50_x3), (4, .int z.1)]) hx hb d_MT_object_125 hl (by decide) rfl (fun ls hl => ?_)
          obtain ⟨q8, hq8, h⟩ := o_bd_some h
          refine o_sim2 (AH := fun zz => o_At p l e (rm_MT_object d) s m args below meth c _ m_cls D A 8 127 [] (m_cw ad ca ky ty u50_rt u50_Mm q6.2 u50_M1) [(0, .ref (ad 33)), (2, .int u50_x2), (3, .int u50_x3), (4, .int z.1), (5, .int x5_101), (6, .int x6_107), (7, .int zz)]) (AX := fun qq => if qq.1 = 1 then o_At p l e (rm_MT_object d) s m args below meth c _ m_cls D A 8 149 [] (m_cw ad ca ky ty u50_rt u50_Mm q6.2 u50_M1) [(0, .ref (ad 33)), (5, .int x5_101)] else o_At p l e (rm_MT_object d) s m args below meth c _ m_cls D A 8 168 [] (m_cw ad ca ky ty u50_rt u50_Mm q6.2 u50_M1) [(0, .ref (ad 33)), (2, .int u50_x2), (3, .int u50_x3), (4, .int z.1), (6, .int x6_107)]) (fun zz qq h h0 h1 => f_MT_object_b127_a hE hKy C hDD d rec hrec n u50_x2 u50_x3 z.1 x5_101 x6_107 q6.2 u50_Mm u50_M1 u50_rt zz qq h h0 h1) n _ q8 hq8 ?_ _ _ _ hP hS (lv_sub hl [3, 4, 5, 6, 2, 1, 0] rfl)
          by_cases c22 : q8.1 = 1
          · replace h := o_tt c22 h
            refine o_ip c22 ?_
            intro H locs ls hP hS hl
            cases h
            exact h1 (Nat.succ_ne_zero 2) _ _ _ hP hS (lv_sub hl [0, 1] rfl)
          replace h := o_ff c22 h
          refine o_in_ c22 ?_
          intro H locs ls hP hS hl
          refine lv_aload_n hx hb d_MT_object_168 rfl (lv_at hl 0 rfl) ?_
          obtain ⟨q9, hq9, h⟩ := o_bd_some h
          refine o_V (st1 := []) (w1 := (m_cw ad ca ky ty u50_rt u50_Mm q9 u50_M1)) hE.1 C (e_MT_blanks_a hE hKy l n q6.2 u50_Mm u50_M1 u50_rt hq9) hP (hDD _ _ _ _) hS hl.1 rfl mw_33 k_8_188 k_8_189 k_8_190 k_1_13 k_8_191 hv_MT_blanks rfl rfl ⟨(by dsimp only [rm_MT_object, rm_MT_blanks]; omega), (by dsimp only [rm_MT_object, rm_MT_blanks]; omega)⟩ rfl (Nat.le_of_ble_eq_true rfl) ⟨Nat.zero_le _, Nat.zero_le _⟩ rfl d_MT_object_169 (fun H locs hP hS => ?_)
          refine lv_aload_n hx hb d_MT_object_172 rfl (lv_at hl 0 rfl) ?_
          refine lv_aload_n hx hb d_MT_object_173 rfl (lv_at hl 0 rfl) ?_
          refine o_get (v := .int (MT_at q9)) C in_MT hP 33 mw_33 rfl 15 (by decide) k_7_129 rfl rfl d_MT_object_174 ?_
          obtain ⟨q10, hq10, h⟩ := o_bd_some h
          refine o_V (st1 := [.int q10]) (w1 := (m_cw ad ca ky ty u50_rt u50_Mm q9 u50_M1)) hE.1 C (e_MT_c_a hE hKy l (MT_at q9) q9 u50_Mm u50_M1 u50_rt hq10) hP (hDD _ _ _ _) hS hl.1 rfl mw_33 k_8_192 k_8_193 k_8_194 k_1_13 k_8_195 hv_MT_c rfl rfl ⟨(by dsimp only [rm_MT_object, rm_MT_c]; omega), (by dsimp only [rm_MT_object, rm_MT_c]; omega)⟩ rfl (Nat.le_of_ble_eq_true rfl) ⟨Nat.zero_le _, Nat.zero_le _⟩ rfl d_MT_object_177 (fun H locs hP hS => ?_)
          refine lv_bipush (v := (58:Int32)) hx hb d_MT_object_180 (by decide) ?_
          refine lv_icmp_eq (tgt := 194) hx hb d_MT_object_182 (by decide) (fun c12 => ?_) (fun c12 => ?_)
          · replace h := o_tt c12 h
            refine lv_aload_n hx hb d_MT_object_194 rfl (lv_at hl 0 rfl) ?_
            refine lv_dup hx hb d_MT_object_195 rfl ?_
            refine o_get (v := .int (MT_at q9)) C in_MT hP 33 mw_33 rfl 15 (by decide) k_7_129 rfl rfl d_MT_object_196 ?_
            refine lv_iconst (v := (1:Int32)) hx hb d_MT_object_199 (by decide) ?_
            refine lv_iadd hx hb d_MT_object_200 ?_
            refine o_put (v := .int ((MT_at q9) + (1:Int32))) (ty := .int) (w1 := (m_cw ad ca ky ty u50_rt u50_Mm (MT_mk (MT_text q9) (MT_kind q9) (MT_place q9) (MT_many q9) (MT_parent q9) (MT_power q9) (MT_first q9) (MT_next q9) (MT_name q9) (MT_from q9) (MT_characters q9) (MT_digits q9) (MT_minus q9) (MT_values q9) (MT_letters q9) ((MT_at q9) + (1:Int32)) (MT_wrong q9) (MT_used q9) (MT_written q9) (MT_left q9)) u50_M1)) C in_MT t_MT t_MT_ok n_MT hP (hDD _ _ _ _) hS 33 mw_33 rfl 15 (by decide) k_7_129 rfl rfl (by decide +kernel) rfl rfl (Nat.le_of_ble_eq_true rfl) rfl d_MT_object_201 (fun H locs hP hS => ?_)
            refine lv_aload_n hx hb d_MT_object_204 rfl (lv_at hl 0 rfl) ?_
            obtain ⟨q11, hq11, h⟩ := o_bd_some h
            refine o_V (st1 := []) (w1 := (m_cw ad ca ky ty u50_rt u50_Mm q11 u50_M1)) hE.1 C (e_MT_blanks_a hE hKy l n (MT_mk (MT_text q9) (MT_kind q9) (MT_place q9) (MT_many q9) (MT_parent q9) (MT_power q9) (MT_first q9) (MT_next q9) (MT_name q9) (MT_from q9) (MT_characters q9) (MT_digits q9) (MT_minus q9) (MT_values q9) (MT_letters q9) ((MT_at q9) + (1:Int32)) (MT_wrong q9) (MT_used q9) (MT_written q9) (MT_left q9)) u50_Mm u50_M1 u50_rt hq11) hP (hDD _ _ _ _) hS hl.1 rfl mw_33 k_8_188 k_8_189 k_8_190 k_1_13 k_8_191 hv_MT_blanks rfl rfl ⟨(by dsimp only [rm_MT_object, rm_MT_blanks]; omega), (by dsimp only [rm_MT_object, rm_MT_blanks]; omega)⟩ rfl (Nat.le_of_ble_eq_true rfl) ⟨Nat.zero_le _, Nat.zero_le _⟩ rfl d_MT_object_205 (fun H locs hP hS => ?_)
            refine lv_aload_n hx hb d_MT_object_208 rfl (lv_at hl 0 rfl) ?_
            refine o_get (v := .int (MT_values q11)) C in_MT hP 33 mw_33 rfl 13 (by decide) k_7_126 rfl rfl d_MT_object_209 ?_
            refine lv_topi (fun x7_212 ex7_212 => ?_)
            replace h := o_nm_at ex7_212 h
            refine lv_istore (lv' := [(7, .int x7_212), (0, .ref (ad 33)), (2, .int u50_x2), (3, .int u50_x3), (4, .int z.1), (6, .int x6_107)]) hx hb d_MT_object_212 hl (by decide) rfl (fun ls hl => ?_)
            refine lv_aload_n hx hb d_MT_object_214 rfl (lv_at hl 1 rfl) ?_
            refine lv_iload_n hx hb d_MT_object_215 rfl (lv_at hl 3 rfl) ?_
            refine lv_iload_n hx hb d_MT_object_216 rfl (lv_at hl 2 rfl) ?_
            refine lv_iconst (v := (1:Int32)) hx hb d_MT_object_217 (by decide) ?_
            refine lv_iadd hx hb d_MT_object_218 ?_
            obtain ⟨q12, hq12, h⟩ := o_bd_some h
            refine o_V (st1 := [.int q12.1]) (w1 := (m_cw ad ca ky ty u50_rt u50_Mm q12.2 u50_M1)) hE.1 C (hrec u50_x3 (u50_x2 + (1:Int32)) q11 u50_Mm u50_M1 u50_rt _ hq12) hP (hDD _ _ _ _) hS hl.1 rfl mw_33 k_8_196 k_8_197 k_8_198 k_1_13 k_8_199 hv_MT_value rfl rfl ⟨(by dsimp only [rm_MT_object, rm_MT_value]; omega), (by dsimp only [rm_MT_object, rm_MT_value]; omega)⟩ rfl (Nat.le_of_ble_eq_true rfl) ⟨Nat.zero_le _, Nat.zero_le _⟩ rfl d_MT_object_219 (fun H locs hP hS => ?_)
            refine lv_if_ne (tgt := 227) hx hb d_MT_object_222 (by decide) (fun c13 => ?_) (fun c13 => ?_)
            · replace h := o_ff c13 h
              refine lv_aload_n hx hb d_MT_object_227 rfl (lv_at hl 1 rfl) ?_
              refine o_get (v := .ref (ad 42)) C in_MT hP 33 mw_33 rfl 8 (by decide) k_7_116 rfl rfl d_MT_object_228 ?_
              refine lv_iload hx hb d_MT_object_231 (lv_at hl 0 rfl) ?_
              refine lv_iload hx hb d_MT_object_233 (lv_at hl 5 rfl) ?_
              obtain ⟨g14, h⟩ := o_gd_some h
              refine o_iast (f := (MT_name q12.2)) (w1 := (m_cw ad ca ky ty u50_rt u50_Mm (MT_mk (MT_text q12.2) (MT_kind q12.2) (MT_place q12.2) (MT_many q12.2) (MT_parent q12.2) (MT_power q12.2) (MT_first q12.2) (MT_next q12.2) (upd (MT_name q12.2) x7_212.toNatClampNeg x6_107) (MT_from q12.2) (MT_characters q12.2) (MT_digits q12.2) (MT_minus q12.2) (MT_values q12.2) (MT_letters q12.2) (MT_at q12.2) (MT_wrong q12.2) (MT_used q12.2) (MT_written q12.2) (MT_left q12.2)) u50_M1)) C hP (hDD _ _ _ _) hS 42 40 mw_42 rfl g14 rfl d_MT_object_235 (fun H locs hP hS => ?_)
              refine lv_iload hx hb d_MT_object_236 (lv_at hl 4 rfl) ?_
              refine lv_if_ge (tgt := 252) hx hb d_MT_object_238 (by decide) (fun c15 => ?_) (fun c15 => ?_)
              · replace h := o_tt c15 h
                refine lv_aload_n hx hb d_MT_object_252 rfl (lv_at hl 1 rfl) ?_
                refine o_get (v := .ref (ad 41)) C in_MT hP 33 mw_33 rfl 7 (by decide) k_7_114 rfl rfl d_MT_object_253 ?_
                refine lv_iload hx hb d_MT_object_256 (lv_at hl 4 rfl) ?_
                refine lv_iload hx hb d_MT_object_258 (lv_at hl 0 rfl) ?_
                obtain ⟨g16, h⟩ := o_gd_some h
                refine o_iast (f := (MT_next q12.2)) (w1 := (m_cw ad ca ky ty u50_rt u50_Mm (MT_mk (MT_text q12.2) (MT_kind q12.2) (MT_place q12.2) (MT_many q12.2) (MT_parent q12.2) (MT_power q12.2) (MT_first q12.2) (upd (MT_next q12.2) z.1.toNatClampNeg x7_212) (upd (MT_name q12.2) x7_212.toNatClampNeg x6_107) (MT_from q12.2) (MT_characters q12.2) (MT_digits q12.2) (MT_minus q12.2) (MT_values q12.2) (MT_letters q12.2) (MT_at q12.2) (MT_wrong q12.2) (MT_used q12.2) (MT_written q12.2) (MT_left q12.2)) u50_M1)) C hP (hDD _ _ _ _) hS 41 39 mw_41 rfl g16 rfl d_MT_object_260 (fun H locs hP hS => ?_)
                exact f_MT_object_j261_a hE hKy C hDD d rec hrec n u50_x2 u50_x3 u50_Mm u50_M1 u50_rt x7_212 (MT_mk (MT_text q12.2) (MT_kind q12.2) (MT_place q12.2) (MT_many q12.2) (MT_parent q12.2) (MT_power q12.2) (MT_first q12.2) (upd (MT_next q12.2) z.1.toNatClampNeg x7_212) (upd (MT_name q12.2) x7_212.toNatClampNeg x6_107) (MT_from q12.2) (MT_characters q12.2) (MT_digits q12.2) (MT_minus q12.2) (MT_values q12.2) (MT_letters q12.2) (MT_at q12.2) (MT_wrong q12.2) (MT_used q12.2) (MT_written q12.2) (MT_left q12.2)) h h0 h1 _ _ _ hP hS (lv_sub hl [1, 2, 3, 0] rfl)
              · replace h := o_ff c15 h
                refine lv_aload_n hx hb d_MT_object_241 rfl (lv_at hl 1 rfl) ?_
                refine o_get (v := .ref (ad 40)) C in_MT hP 33 mw_33 rfl 6 (by decide) k_7_112 rfl rfl d_MT_object_242 ?_
                refine lv_iload_n hx hb d_MT_object_245 rfl (lv_at hl 3 rfl) ?_
                refine lv_iload hx hb d_MT_object_246 (lv_at hl 0 rfl) ?_
                obtain ⟨g21, h⟩ := o_gd_some h
                refine o_iast (f := (MT_first q12.2)) (w1 := (m_cw ad ca ky ty u50_rt u50_Mm (MT_mk (MT_text q12.2) (MT_kind q12.2) (MT_place q12.2) (MT_many q12.2) (MT_parent q12.2) (MT_power q12.2) (upd (MT_first q12.2) u50_x3.toNatClampNeg x7_212) (MT_next q12.2) (upd (MT_name q12.2) x7_212.toNatClampNeg x6_107) (MT_from q12.2) (MT_characters q12.2) (MT_digits q12.2) (MT_minus q12.2) (MT_values q12.2) (MT_letters q12.2) (MT_at q12.2) (MT_wrong q12.2) (MT_used q12.2) (MT_written q12.2) (MT_left q12.2)) u50_M1)) C hP (hDD _ _ _ _) hS 40 38 mw_40 rfl g21 rfl d_MT_object_248 (fun H locs hP hS => ?_)
                refine lv_goto (tgt := 261) hx hb d_MT_object_249 (by decide) ?_
                exact f_MT_object_j261_a hE hKy C hDD d rec hrec n u50_x2 u50_x3 u50_Mm u50_M1 u50_rt x7_212 (MT_mk (MT_text q12.2) (MT_kind q12.2) (MT_place q12.2) (MT_many q12.2) (MT_parent q12.2) (MT_power q12.2) (upd (MT_first q12.2) u50_x3.toNatClampNeg x7_212) (MT_next q12.2) (upd (MT_name q12.2) x7_212.toNatClampNeg x6_107) (MT_from q12.2) (MT_characters q12.2) (MT_digits q12.2) (MT_minus q12.2) (MT_values q12.2) (MT_letters q12.2) (MT_at q12.2) (MT_wrong q12.2) (MT_used q12.2) (MT_written q12.2) (MT_left q12.2)) h h0 h1 _ _ _ hP hS (lv_sub hl [1, 2, 3, 0] rfl)
            · replace h := o_tt c13 h
              cases h
              exact h1 (Nat.succ_ne_zero 4) _ _ _ hP hS (lv_sub hl [] rfl)
          · replace h := o_ff c12 h
            cases h
            exact h1 (Nat.succ_ne_zero 3) _ _ _ hP hS (lv_sub hl [0] rfl)
        · replace h := o_tt c6 h
          cases h
          exact h1 (Nat.succ_ne_zero 1) _ _ _ hP hS (lv_sub hl [] rfl)
      · replace h := o_tt c5 h
        cases h
        exact h1 (Nat.succ_ne_zero 0) _ _ _ hP hS (lv_sub hl [0] rfl)
set_option maxHeartbeats 4000000 in
set_option maxRecDepth 100000 in
theorem f_MT_object_j88_a {E : (Nat → Prop) → State → Heap → Prop} {p : Program} {l : Launch} {e : Env} {s : State} {m : MethodId} {args : Array Value} {below : List Frame} {meth : Method} {c : Code} {D : va_G} {ad kd sd vd xd : Nat → Nat} {ca : Nat → ClassId} {A : Nat → Prop} {ky ty : Nat → Option Nat} (hE : o_EK E kd sd vd xd) (hKy : m_KY ky ty sd) (C : o_Cx E p s m args meth c D m_cls (m_tys ca) "SchemaJudgeModel$Text" b_MT_object (some .boolean) 8 cc_MT_object A) (hDD : ∀ (rt : Nat) (Mm : SMM) (M0 : SMT) (M1 : SMT), va_D A (m_cw ad ca ky ty rt Mm M0 M1)) (d : Nat) (rec : Int32 → Int32 → SMT → Option (Int32 × SMT)) (hrec : ∀ (x1 : Int32) (x2 : Int32) (a0 : SMT) (Mm : SMM) (M1 : SMT) (rt : Nat) (r : Int32 × SMT), rec x1 x2 a0 = some r → o_Cn E l D m_cls (m_tys ca) y_MT_value cc_MT_value (rm_MT_value d) [.ref (ad 33), .int x1, .int x2] (m_cw ad ca ky ty rt Mm a0 M1) (m_cw ad ca ky ty rt Mm r.2 M1) (some (.int r.1))) (n : Nat)  (a0 : SMT) (Mm : SMM) (M1 : SMT) (rt : Nat) {r : Int32 × SMT} (h : m_MT_object_j88 n rec a0 = some r) : o_At p l e (rm_MT_object d) s m args below meth c (MQ below (o_Qx D m_cls (some (.int r.1)) (m_cw ad ca ky ty rt Mm r.2 M1) A) args s 0 0 A) m_cls D A 8 88 [] (m_cw ad ca ky ty rt Mm a0 M1) [(0, .ref (ad 33))] := by
  unfold m_MT_object_j88 at h
  intro H locs ls hP hS hl
  have C0 := C
  obtain ⟨hx, hb, -, -, -, hown, hts, hK, -, -⟩ := C0
  refine lv_aload_n hx hb d_MT_object_88 rfl (lv_at hl 0 rfl) ?_
  refine lv_aload_n hx hb d_MT_object_89 rfl (lv_at hl 0 rfl) ?_
  refine o_get (v := .int (MT_at a0)) C in_MT hP 33 mw_33 rfl 15 (by decide) k_7_129 rfl rfl d_MT_object_90 ?_
  obtain ⟨q17, hq17, h⟩ := o_bd_some h
  refine o_V (st1 := [.int q17.1]) (w1 := (m_cw ad ca ky ty rt Mm q17.2 M1)) hE.1 C (e_MT_bad_a hE hKy l (MT_at a0) a0 Mm M1 rt hq17) hP (hDD _ _ _ _) hS hl.1 rfl mw_33 k_8_203 k_8_204 k_8_205 k_1_13 k_8_206 hv_MT_bad rfl rfl ⟨(by dsimp only [rm_MT_object, rm_MT_bad]; omega), (by dsimp only [rm_MT_object, rm_MT_bad]; omega)⟩ rfl (Nat.le_of_ble_eq_true rfl) ⟨Nat.zero_le _, Nat.zero_le _⟩ rfl d_MT_object_93 (fun H locs hP hS => ?_)
  obtain ⟨g23, h⟩ := o_gd_some h
  cases h
  exact o_rz C (o_zb_nar g23) hP hS d_MT_object_96
set_option maxHeartbeats 4000000 in
set_option maxRecDepth 100000 in
theorem e_MT_object_a {E : (Nat → Prop) → State → Heap → Prop} {D : va_G} {ad kd sd vd xd : Nat → Nat} {ca : Nat → ClassId} {ky ty : Nat → Option Nat} (hE : o_EK E kd sd vd xd) (hKy : m_KY ky ty sd) (l : Launch) (n : Nat) (d : Nat) (rec : Int32 → Int32 → SMT → Option (Int32 × SMT)) (hrec : ∀ (x1 : Int32) (x2 : Int32) (a0 : SMT) (Mm : SMM) (M1 : SMT) (rt : Nat) (r : Int32 × SMT), rec x1 x2 a0 = some r → o_Cn E l D m_cls (m_tys ca) y_MT_value cc_MT_value (rm_MT_value d) [.ref (ad 33), .int x1, .int x2] (m_cw ad ca ky ty rt Mm a0 M1) (m_cw ad ca ky ty rt Mm r.2 M1) (some (.int r.1))) (x1 : Int32) (x2 : Int32) (a0 : SMT) (Mm : SMM) (M1 : SMT) (rt : Nat) {r : Int32 × SMT} (h : m_MT_object n rec x1 x2 a0 = some r) : o_Cn E l D m_cls (m_tys ca) y_MT_object cc_MT_object (rm_MT_object d) [.ref (ad 33), .int x1, .int x2] (m_cw ad ca ky ty rt Mm a0 M1) (m_cw ad ca ky ty rt Mm r.2 M1) (some (.int r.1)) := by
  refine o_Cn_of (by decide) (Nat.le_of_ble_eq_true rfl) ?_
  intro p e s m below meth c A ls C hD hP hS hl
  have hDD : ∀ (rt : Nat) (Mm : SMM) (M0 : SMT) (M1 : SMT), va_D A (m_cw ad ca ky ty rt Mm M0 M1) := fun _ _ _ _ => o_D_map hD rfl
  have hl : lv_has ls 8 [(0, .ref (ad 33)), (1, .int x1), (2, .int x2)] := hl
  unfold m_MT_object at h
  have C0 := C
  obtain ⟨hx, hb, -, -, -, hown, hts, hK, -, -⟩ := C0
  refine lv_aload_n hx hb d_MT_object_0 rfl (lv_at hl 0 rfl) ?_
  refine lv_iload_n hx hb d_MT_object_1 rfl (lv_at hl 1 rfl) ?_
  refine lv_bipush (v := (6:Int32)) hx hb d_MT_object_2 (by decide) ?_
  obtain ⟨q1, hq1, h⟩ := o_bd_some h
  refine o_V (st1 := [.int q1.1]) (w1 := (m_cw ad ca ky ty rt Mm q1.2 M1)) hE.1 C (e_MT_fresh_a hE hKy l x1 (6:Int32) a0 Mm M1 rt hq1) hP (hDD _ _ _ _) hS hl.1 rfl mw_33 k_8_212 k_8_213 k_8_214 k_1_13 k_8_215 hv_MT_fresh rfl rfl ⟨(by dsimp only [rm_MT_object, rm_MT_fresh]; omega), (by dsimp only [rm_MT_object, rm_MT_fresh]; omega)⟩ rfl (Nat.le_of_ble_eq_true rfl) ⟨Nat.zero_le _, Nat.zero_le _⟩ rfl d_MT_object_4 (fun H locs hP hS => ?_)
  refine lv_istore_n (lv' := [(3, .int q1.1), (0, .ref (ad 33)), (1, .int x1), (2, .int x2)]) hx hb d_MT_object_7 rfl hl (by decide) rfl (fun ls hl => ?_)
  refine lv_iconst (v := (-1:Int32)) hx hb d_MT_object_8 (by decide) ?_
  refine lv_istore (lv' := [(4, .int (-1:Int32)), (3, .int q1.1), (0, .ref (ad 33)), (1, .int x1), (2, .int x2)]) hx hb d_MT_object_9 hl (by decide) rfl (fun ls hl => ?_)
  refine lv_aload_n hx hb d_MT_object_11 rfl (lv_at hl 2 rfl) ?_
  refine lv_dup hx hb d_MT_object_12 rfl ?_
  refine o_get (v := .int (MT_at q1.2)) C in_MT hP 33 mw_33 rfl 15 (by decide) k_7_129 rfl rfl d_MT_object_13 ?_
  refine lv_iconst (v := (1:Int32)) hx hb d_MT_object_16 (by decide) ?_
  refine lv_iadd hx hb d_MT_object_17 ?_
  refine o_put (v := .int ((MT_at q1.2) + (1:Int32))) (ty := .int) (w1 := (m_cw ad ca ky ty rt Mm (MT_mk (MT_text q1.2) (MT_kind q1.2) (MT_place q1.2) (MT_many q1.2) (MT_parent q1.2) (MT_power q1.2) (MT_first q1.2) (MT_next q1.2) (MT_name q1.2) (MT_from q1.2) (MT_characters q1.2) (MT_digits q1.2) (MT_minus q1.2) (MT_values q1.2) (MT_letters q1.2) ((MT_at q1.2) + (1:Int32)) (MT_wrong q1.2) (MT_used q1.2) (MT_written q1.2) (MT_left q1.2)) M1)) C in_MT t_MT t_MT_ok n_MT hP (hDD _ _ _ _) hS 33 mw_33 rfl 15 (by decide) k_7_129 rfl rfl (by decide +kernel) rfl rfl (Nat.le_of_ble_eq_true rfl) rfl d_MT_object_18 (fun H locs hP hS => ?_)
  refine lv_aload_n hx hb d_MT_object_21 rfl (lv_at hl 2 rfl) ?_
  obtain ⟨q2, hq2, h⟩ := o_bd_some h
  refine o_V (st1 := []) (w1 := (m_cw ad ca ky ty rt Mm q2 M1)) hE.1 C (e_MT_blanks_a hE hKy l n (MT_mk (MT_text q1.2) (MT_kind q1.2) (MT_place q1.2) (MT_many q1.2) (MT_parent q1.2) (MT_power q1.2) (MT_first q1.2) (MT_next q1.2) (MT_name q1.2) (MT_from q1.2) (MT_characters q1.2) (MT_digits q1.2) (MT_minus q1.2) (MT_values q1.2) (MT_letters q1.2) ((MT_at q1.2) + (1:Int32)) (MT_wrong q1.2) (MT_used q1.2) (MT_written q1.2) (MT_left q1.2)) Mm M1 rt hq2) hP (hDD _ _ _ _) hS hl.1 rfl mw_33 k_8_188 k_8_189 k_8_190 k_1_13 k_8_191 hv_MT_blanks rfl rfl ⟨(by dsimp only [rm_MT_object, rm_MT_blanks]; omega), (by dsimp only [rm_MT_object, rm_MT_blanks]; omega)⟩ rfl (Nat.le_of_ble_eq_true rfl) ⟨Nat.zero_le _, Nat.zero_le _⟩ rfl d_MT_object_22 (fun H locs hP hS => ?_)
  refine lv_aload_n hx hb d_MT_object_25 rfl (lv_at hl 2 rfl) ?_
  refine lv_aload_n hx hb d_MT_object_26 rfl (lv_at hl 2 rfl) ?_
  refine o_get (v := .int (MT_at q2)) C in_MT hP 33 mw_33 rfl 15 (by decide) k_7_129 rfl rfl d_MT_object_27 ?_
  obtain ⟨q3, hq3, h⟩ := o_bd_some h
  refine o_V (st1 := [.int q3]) (w1 := (m_cw ad ca ky ty rt Mm q2 M1)) hE.1 C (e_MT_c_a hE hKy l (MT_at q2) q2 Mm M1 rt hq3) hP (hDD _ _ _ _) hS hl.1 rfl mw_33 k_8_192 k_8_193 k_8_194 k_1_13 k_8_195 hv_MT_c rfl rfl ⟨(by dsimp only [rm_MT_object, rm_MT_c]; omega), (by dsimp only [rm_MT_object, rm_MT_c]; omega)⟩ rfl (Nat.le_of_ble_eq_true rfl) ⟨Nat.zero_le _, Nat.zero_le _⟩ rfl d_MT_object_30 (fun H locs hP hS => ?_)
  refine lv_bipush (v := (125:Int32)) hx hb d_MT_object_33 (by decide) ?_
  refine lv_icmp_ne (tgt := 50) hx hb d_MT_object_35 (by decide) (fun c1 => ?_) (fun c1 => ?_)
  · replace h := o_ff c1 h
    obtain ⟨q16, hq16, h⟩ := o_bd_some h
    refine o_sim2 (AH := fun zz => o_At p l e (rm_MT_object d) s m _ below meth c _ m_cls D A 8 50 [] (m_cw ad ca ky ty rt Mm zz.2.2 M1) [(0, .ref (ad 33)), (2, .int x2), (3, .int q1.1), (4, .int zz.1)]) (AX := fun qq => if qq.1 = 1 then o_At p l e (rm_MT_object d) s m _ below meth c _ m_cls D A 8 88 [] (m_cw ad ca ky ty rt Mm qq.2.2.2 M1) [(0, .ref (ad 33))] else if qq.1 = 2 then o_At p l e (rm_MT_object d) s m _ below meth c _ m_cls D A 8 117 [] (m_cw ad ca ky ty rt Mm qq.2.2.2 M1) [] else if qq.1 = 3 then o_At p l e (rm_MT_object d) s m _ below meth c _ m_cls D A 8 149 [] (m_cw ad ca ky ty rt Mm qq.2.2.2 M1) [(0, .ref (ad 33)), (5, .int qq.2.2.1)] else if qq.1 = 4 then o_At p l e (rm_MT_object d) s m _ below meth c _ m_cls D A 8 185 [] (m_cw ad ca ky ty rt Mm qq.2.2.2 M1) [(0, .ref (ad 33))] else if qq.1 = 5 then o_At p l e (rm_MT_object d) s m _ below meth c _ m_cls D A 8 225 [] (m_cw ad ca ky ty rt Mm qq.2.2.2 M1) [] else if qq.1 = 6 then o_At p l e (rm_MT_object d) s m _ below meth c _ m_cls D A 8 292 [] (m_cw ad ca ky ty rt Mm qq.2.2.2 M1) [(0, .ref (ad 33))] else o_At p l e (rm_MT_object d) s m _ below meth c _ m_cls D A 8 317 [] (m_cw ad ca ky ty rt Mm qq.2.2.2 M1) [(0, .ref (ad 33))]) (fun zz qq h h0 h1 => f_MT_object_b50_a hE hKy C hDD d rec hrec n x2 q1.1 Mm M1 rt zz qq h h0 h1) n _ q16 hq16 ?_ _ _ _ hP hS (lv_sub hl [2, 4, 1, 0] rfl)
    by_cases c27 : q16.1 = 1
    · replace h := o_tt c27 h
      refine o_ip c27 ?_
      intro H locs ls hP hS hl
      exact f_MT_object_j88_a hE hKy C hDD d rec hrec n q16.2.2.2 Mm M1 rt h _ _ _ hP hS (lv_sub hl [0] rfl)
    replace h := o_ff c27 h
    refine o_in_ c27 ?_
    by_cases c28 : q16.1 = 2
    · replace h := o_tt c28 h
      refine o_ip c28 ?_
      intro H locs ls hP hS hl
      refine lv_iconst (v := (0:Int32)) hx hb d_MT_object_117 (by decide) ?_
      cases h
      exact o_rz (v := (0:Int32)) C o_nar0 hP hS d_MT_object_118
    replace h := o_ff c28 h
    refine o_in_ c28 ?_
    by_cases c29 : q16.1 = 3
    · replace h := o_tt c29 h
      refine o_ip c29 ?_
      intro H locs ls hP hS hl
      refine lv_aload_n hx hb d_MT_object_149 rfl (lv_at hl 0 rfl) ?_
      refine lv_iload hx hb d_MT_object_150 (lv_at hl 1 rfl) ?_
      obtain ⟨q18, hq18, h⟩ := o_bd_some h
      refine o_V (st1 := [.int q18.1]) (w1 := (m_cw ad ca ky ty rt Mm q18.2 M1)) hE.1 C (e_MT_bad_a hE hKy l q16.2.2.1 q16.2.2.2 Mm M1 rt hq18) hP (hDD _ _ _ _) hS hl.1 rfl mw_33 k_8_203 k_8_204 k_8_205 k_1_13 k_8_206 hv_MT_bad rfl rfl ⟨(by dsimp only [rm_MT_object, rm_MT_bad]; omega), (by dsimp only [rm_MT_object, rm_MT_bad]; omega)⟩ rfl (Nat.le_of_ble_eq_true rfl) ⟨Nat.zero_le _, Nat.zero_le _⟩ rfl d_MT_object_152 (fun H locs hP hS => ?_)
      obtain ⟨g24, h⟩ := o_gd_some h
      cases h
      exact o_rz C (o_zb_nar g24) hP hS d_MT_object_155
    replace h := o_ff c29 h
    refine o_in_ c29 ?_
    by_cases c30 : q16.1 = 4
    · replace h := o_tt c30 h
      refine o_ip c30 ?_
      intro H locs ls hP hS hl
      refine lv_aload_n hx hb d_MT_object_185 rfl (lv_at hl 0 rfl) ?_
      refine lv_aload_n hx hb d_MT_object_186 rfl (lv_at hl 0 rfl) ?_
      refine o_get (v := .int (MT_at q16.2.2.2)) C in_MT hP 33 mw_33 rfl 15 (by decide) k_7_129 rfl rfl d_MT_object_187 ?_
      obtain ⟨q19, hq19, h⟩ := o_bd_some h
      refine o_V (st1 := [.int q19.1]) (w1 := (m_cw ad ca ky ty rt Mm q19.2 M1)) hE.1 C (e_MT_bad_a hE hKy l (MT_at q16.2.2.2) q16.2.2.2 Mm M1 rt hq19) hP (hDD _ _ _ _) hS hl.1 rfl mw_33 k_8_203 k_8_204 k_8_205 k_1_13 k_8_206 hv_MT_bad rfl rfl ⟨(by dsimp only [rm_MT_object, rm_MT_bad]; omega), (by dsimp only [rm_MT_object, rm_MT_bad]; omega)⟩ rfl (Nat.le_of_ble_eq_true rfl) ⟨Nat.zero_le _, Nat.zero_le _⟩ rfl d_MT_object_190 (fun H locs hP hS => ?_)
      obtain ⟨g25, h⟩ := o_gd_some h
      cases h
      exact o_rz C (o_zb_nar g25) hP hS d_MT_object_193
    replace h := o_ff c30 h
    refine o_in_ c30 ?_
    by_cases c31 : q16.1 = 5
    · replace h := o_tt c31 h
      refine o_ip c31 ?_
      intro H locs ls hP hS hl
      refine lv_iconst (v := (0:Int32)) hx hb d_MT_object_225 (by decide) ?_
      cases h
      exact o_rz (v := (0:Int32)) C o_nar0 hP hS d_MT_object_226
    replace h := o_ff c31 h
    refine o_in_ c31 ?_
    by_cases c32 : q16.1 = 6
    · replace h := o_tt c32 h
      refine o_ip c32 ?_
      intro H locs ls hP hS hl
      refine lv_aload_n hx hb d_MT_object_292 rfl (lv_at hl 0 rfl) ?_
      refine lv_dup hx hb d_MT_object_293 rfl ?_
      refine o_get (v := .int (MT_at q16.2.2.2)) C in_MT hP 33 mw_33 rfl 15 (by decide) k_7_129 rfl rfl d_MT_object_294 ?_
      refine lv_iconst (v := (1:Int32)) hx hb d_MT_object_297 (by decide) ?_
      refine lv_iadd hx hb d_MT_object_298 ?_
      refine o_put (v := .int ((MT_at q16.2.2.2) + (1:Int32))) (ty := .int) (w1 := (m_cw ad ca ky ty rt Mm (MT_mk (MT_text q16.2.2.2) (MT_kind q16.2.2.2) (MT_place q16.2.2.2) (MT_many q16.2.2.2) (MT_parent q16.2.2.2) (MT_power q16.2.2.2) (MT_first q16.2.2.2) (MT_next q16.2.2.2) (MT_name q16.2.2.2) (MT_from q16.2.2.2) (MT_characters q16.2.2.2) (MT_digits q16.2.2.2) (MT_minus q16.2.2.2) (MT_values q16.2.2.2) (MT_letters q16.2.2.2) ((MT_at q16.2.2.2) + (1:Int32)) (MT_wrong q16.2.2.2) (MT_used q16.2.2.2) (MT_written q16.2.2.2) (MT_left q16.2.2.2)) M1)) C in_MT t_MT t_MT_ok n_MT hP (hDD _ _ _ _) hS 33 mw_33 rfl 15 (by decide) k_7_129 rfl rfl (by decide +kernel) rfl rfl (Nat.le_of_ble_eq_true rfl) rfl d_MT_object_299 (fun H locs hP hS => ?_)
      refine lv_iconst (v := (1:Int32)) hx hb d_MT_object_302 (by decide) ?_
      cases h
      exact o_rz (v := (1:Int32)) C o_nar1 hP hS d_MT_object_303
    replace h := o_ff c32 h
    refine o_in_ c32 ?_
    intro H locs ls hP hS hl
    refine lv_aload_n hx hb d_MT_object_317 rfl (lv_at hl 0 rfl) ?_
    refine lv_aload_n hx hb d_MT_object_318 rfl (lv_at hl 0 rfl) ?_
    refine o_get (v := .int (MT_at q16.2.2.2)) C in_MT hP 33 mw_33 rfl 15 (by decide) k_7_129 rfl rfl d_MT_object_319 ?_
    obtain ⟨q20, hq20, h⟩ := o_bd_some h
    refine o_V (st1 := [.int q20.1]) (w1 := (m_cw ad ca ky ty rt Mm q20.2 M1)) hE.1 C (e_MT_bad_a hE hKy l (MT_at q16.2.2.2) q16.2.2.2 Mm M1 rt hq20) hP (hDD _ _ _ _) hS hl.1 rfl mw_33 k_8_203 k_8_204 k_8_205 k_1_13 k_8_206 hv_MT_bad rfl rfl ⟨(by dsimp only [rm_MT_object, rm_MT_bad]; omega), (by dsimp only [rm_MT_object, rm_MT_bad]; omega)⟩ rfl (Nat.le_of_ble_eq_true rfl) ⟨Nat.zero_le _, Nat.zero_le _⟩ rfl d_MT_object_322 (fun H locs hP hS => ?_)
    obtain ⟨g26, h⟩ := o_gd_some h
    cases h
    exact o_rz C (o_zb_nar g26) hP hS d_MT_object_325
  · replace h := o_tt c1 h
    refine lv_aload_n hx hb d_MT_object_38 rfl (lv_at hl 2 rfl) ?_
    refine lv_dup hx hb d_MT_object_39 rfl ?_
    refine o_get (v := .int (MT_at q2)) C in_MT hP 33 mw_33 rfl 15 (by decide) k_7_129 rfl rfl d_MT_object_40 ?_
    refine lv_iconst (v := (1:Int32)) hx hb d_MT_object_43 (by decide) ?_
    refine lv_iadd hx hb d_MT_object_44 ?_
    refine o_put (v := .int ((MT_at q2) + (1:Int32))) (ty := .int) (w1 := (m_cw ad ca ky ty rt Mm (MT_mk (MT_text q2) (MT_kind q2) (MT_place q2) (MT_many q2) (MT_parent q2) (MT_power q2) (MT_first q2) (MT_next q2) (MT_name q2) (MT_from q2) (MT_characters q2) (MT_digits q2) (MT_minus q2) (MT_values q2) (MT_letters q2) ((MT_at q2) + (1:Int32)) (MT_wrong q2) (MT_used q2) (MT_written q2) (MT_left q2)) M1)) C in_MT t_MT t_MT_ok n_MT hP (hDD _ _ _ _) hS 33 mw_33 rfl 15 (by decide) k_7_129 rfl rfl (by decide +kernel) rfl rfl (Nat.le_of_ble_eq_true rfl) rfl d_MT_object_45 (fun H locs hP hS => ?_)
    refine lv_iconst (v := (1:Int32)) hx hb d_MT_object_48 (by decide) ?_
    cases h
    exact o_rz (v := (1:Int32)) C o_nar1 hP hS d_MT_object_49
set_option maxHeartbeats 4000000 in
set_option maxRecDepth 100000 in
theorem f_MT_same_b20_bb {E : (Nat → Prop) → State → Heap → Prop} {p : Program} {l : Launch} {e : Env} {s : State} {m : MethodId} {args : Array Value} {below : List Frame} {meth : Method} {c : Code} {D : va_G} {ad kd sd vd xd : Nat → Nat} {ca : Nat → ClassId} {A : Nat → Prop} {ky ty : Nat → Option Nat} {Q : State → Prop} (hE : o_EK E kd sd vd xd) (hKy : m_KY ky ty sd) (C : o_Cx E p s m args meth c D m_cls (m_tys ca) "SchemaJudgeModel$Text" b_MT_same (some .boolean) 5 cc_MT_same A) (hDD : ∀ (rt : Nat) (Mm : SMM) (M0 : SMT) (M1 : SMT), va_D A (m_cw ad ca ky ty rt Mm M0 M1)) (n : Nat) (u20_x1 : Int32) (u20_x3 : Int32) (u20_a0 : SMT) (u20_Mm : SMM) (u20_M0 : SMT) (u20_rt : Nat) (z : Int32) (q : Nat × Int32) (h : m_MT_same_b20 n u20_x1 u20_x3 u20_a0 u20_a0 z = some q) (h0 : q.1 = 0 → o_At p l e rm_MT_same s m args below meth c Q m_cls D A 5 20 [] (m_cw ad ca ky ty u20_rt u20_Mm u20_M0 u20_a0) [(0, .ref (ad 48)), (1, .int u20_x1), (2, .ref (ad 48)), (3, .int u20_x3), (4, .int q.2)]) (h1 : q.1 ≠ 0 → (if q.1 = 1 then o_At p l e rm_MT_same s m args below meth c Q m_cls D A 5 62 [] (m_cw ad ca ky ty u20_rt u20_Mm u20_M0 u20_a0) [] else o_At p l e rm_MT_same s m args below meth c Q m_cls D A 5 70 [] (m_cw ad ca ky ty u20_rt u20_Mm u20_M0 u20_a0) [])) : o_At p l e rm_MT_same s m args below meth c Q m_cls D A 5 20 [] (m_cw ad ca ky ty u20_rt u20_Mm u20_M0 u20_a0) [(0, .ref (ad 48)), (1, .int u20_x1), (2, .ref (ad 48)), (3, .int u20_x3), (4, .int z)] := by
  unfold m_MT_same_b20 at h
  intro H locs ls hP hS hl
  have C0 := C
  obtain ⟨hx, hb, -, -, -, hown, hts, hK, -, -⟩ := C0
  refine lv_iload hx hb d_MT_same_20 (lv_at hl 4 rfl) ?_
  refine lv_aload_n hx hb d_MT_same_22 rfl (lv_at hl 0 rfl) ?_
  refine o_get (v := .ref (ad 52)) C in_MT hP 48 mw_48 rfl 3 (by decide) k_7_106 rfl rfl d_MT_same_23 ?_
  refine lv_iload_n hx hb d_MT_same_26 rfl (lv_at hl 1 rfl) ?_
  obtain ⟨g4, h⟩ := o_gd_some h
  refine o_iald (f := (MT_many u20_a0)) C hP 52 49 mw_52 rfl g4 d_MT_same_27 ?_
  refine lv_icmp_ge (tgt := 70) hx hb d_MT_same_28 (by decide) (fun c5 => ?_) (fun c5 => ?_)
  · replace h := o_tt c5 h
    cases h
    exact h1 (Nat.succ_ne_zero 1) _ _ _ hP hS (lv_sub hl [] rfl)
  · replace h := o_ff c5 h
    refine lv_aload_n hx hb d_MT_same_31 rfl (lv_at hl 0 rfl) ?_
    refine o_get (v := .ref (ad 59)) C in_MT hP 48 mw_48 rfl 10 (by decide) k_7_120 rfl rfl d_MT_same_32 ?_
    refine lv_aload_n hx hb d_MT_same_35 rfl (lv_at hl 0 rfl) ?_
    refine o_get (v := .ref (ad 58)) C in_MT hP 48 mw_48 rfl 9 (by decide) k_7_118 rfl rfl d_MT_same_36 ?_
    refine lv_iload_n hx hb d_MT_same_39 rfl (lv_at hl 1 rfl) ?_
    obtain ⟨g6, h⟩ := o_gd_some h
    refine o_iald (f := (MT_from u20_a0)) C hP 58 55 mw_58 rfl g6 d_MT_same_40 ?_
    refine lv_iload hx hb d_MT_same_41 (lv_at hl 4 rfl) ?_
    refine lv_iadd hx hb d_MT_same_43 ?_
    obtain ⟨g7, h⟩ := o_gd_some h
    refine o_iald (f := (MT_characters u20_a0)) C hP 59 56 mw_59 rfl g7 d_MT_same_44 ?_
    refine lv_aload_n hx hb d_MT_same_45 rfl (lv_at hl 2 rfl) ?_
    refine o_get (v := .ref (ad 59)) C in_MT hP 48 mw_48 rfl 10 (by decide) k_7_120 rfl rfl d_MT_same_46 ?_
    refine lv_aload_n hx hb d_MT_same_49 rfl (lv_at hl 2 rfl) ?_
    refine o_get (v := .ref (ad 58)) C in_MT hP 48 mw_48 rfl 9 (by decide) k_7_118 rfl rfl d_MT_same_50 ?_
    refine lv_iload_n hx hb d_MT_same_53 rfl (lv_at hl 3 rfl) ?_
    obtain ⟨g8, h⟩ := o_gd_some h
    refine o_iald (f := (MT_from u20_a0)) C hP 58 55 mw_58 rfl g8 d_MT_same_54 ?_
    refine lv_iload hx hb d_MT_same_55 (lv_at hl 4 rfl) ?_
    refine lv_iadd hx hb d_MT_same_57 ?_
    obtain ⟨g9, h⟩ := o_gd_some h
    refine o_iald (f := (MT_characters u20_a0)) C hP 59 56 mw_59 rfl g9 d_MT_same_58 ?_
    refine lv_icmp_eq (tgt := 64) hx hb d_MT_same_59 (by decide) (fun c10 => ?_) (fun c10 => ?_)
    · replace h := o_tt c10 h
      obtain ⟨x4_64, ex4_64⟩ : ∃ y : Int32, y = z + (1:Int32) := ⟨_, rfl⟩
      replace h := o_nm_at ex4_64 h
      refine lv_iinc (v := x4_64) (lv' := [(4, .int x4_64), (0, .ref (ad 48)), (1, .int u20_x1), (2, .ref (ad 48)), (3, .int u20_x3)]) hx hb d_MT_same_64 hl (k := 4) rfl (by rw [ex4_64]; rfl) (by decide) rfl (fun ls hl => ?_)
      refine lv_goto (tgt := 20) hx hb d_MT_same_67 (by decide) ?_
      cases h
      exact h0 rfl _ _ _ hP hS (lv_sub hl [1, 2, 3, 4, 0] rfl)
    · replace h := o_ff c10 h
      cases h
      exact h1 (Nat.succ_ne_zero 0) _ _ _ hP hS (lv_sub hl [] rfl)
set_option maxHeartbeats 4000000 in
set_option maxRecDepth 100000 in
theorem e_MT_same_bb {E : (Nat → Prop) → State → Heap → Prop} {D : va_G} {ad kd sd vd xd : Nat → Nat} {ca : Nat → ClassId} {ky ty : Nat → Option Nat} (hE : o_EK E kd sd vd xd) (hKy : m_KY ky ty sd) (l : Launch) (n : Nat) (x1 : Int32) (x3 : Int32) (a0 : SMT) (Mm : SMM) (M0 : SMT) (rt : Nat) {r : Int32} (h : m_MT_same n x1 x3 a0 a0 = some r) : o_Cn E l D m_cls (m_tys ca) y_MT_same cc_MT_same rm_MT_same [.ref (ad 48), .int x1, .ref (ad 48), .int x3] (m_cw ad ca ky ty rt Mm M0 a0) (m_cw ad ca ky ty rt Mm M0 a0) (some (.int r)) := by
  refine o_Cn_of (by decide) (Nat.le_of_ble_eq_true rfl) ?_
  intro p e s m below meth c A ls C hD hP hS hl
  have hDD : ∀ (rt : Nat) (Mm : SMM) (M0 : SMT) (M1 : SMT), va_D A (m_cw ad ca ky ty rt Mm M0 M1) := fun _ _ _ _ => o_D_map hD rfl
  have hl : lv_has ls 5 [(0, .ref (ad 48)), (1, .int x1), (2, .ref (ad 48)), (3, .int x3)] := hl
  unfold m_MT_same at h
  have C0 := C
  obtain ⟨hx, hb, -, -, -, hown, hts, hK, -, -⟩ := C0
  refine lv_aload_n hx hb d_MT_same_0 rfl (lv_at hl 0 rfl) ?_
  refine o_get (v := .ref (ad 52)) C in_MT hP 48 mw_48 rfl 3 (by decide) k_7_106 rfl rfl d_MT_same_1 ?_
  refine lv_iload_n hx hb d_MT_same_4 rfl (lv_at hl 1 rfl) ?_
  obtain ⟨g1, h⟩ := o_gd_some h
  refine o_iald (f := (MT_many a0)) C hP 52 49 mw_52 rfl g1 d_MT_same_5 ?_
  refine lv_aload_n hx hb d_MT_same_6 rfl (lv_at hl 2 rfl) ?_
  refine o_get (v := .ref (ad 52)) C in_MT hP 48 mw_48 rfl 3 (by decide) k_7_106 rfl rfl d_MT_same_7 ?_
  refine lv_iload_n hx hb d_MT_same_10 rfl (lv_at hl 3 rfl) ?_
  obtain ⟨g2, h⟩ := o_gd_some h
  refine o_iald (f := (MT_many a0)) C hP 52 49 mw_52 rfl g2 d_MT_same_11 ?_
  refine lv_icmp_eq (tgt := 17) hx hb d_MT_same_12 (by decide) (fun c3 => ?_) (fun c3 => ?_)
  · replace h := o_tt c3 h
    refine lv_iconst (v := (0:Int32)) hx hb d_MT_same_17 (by decide) ?_
    refine lv_istore (lv' := [(4, .int (0:Int32)), (0, .ref (ad 48)), (1, .int x1), (2, .ref (ad 48)), (3, .int x3)]) hx hb d_MT_same_18 hl (by decide) rfl (fun ls hl => ?_)
    obtain ⟨q1, hq1, h⟩ := o_bd_some h
    refine o_sim2 (AH := fun zz => o_At p l e rm_MT_same s m _ below meth c _ m_cls D A 5 20 [] (m_cw ad ca ky ty rt Mm M0 a0) [(0, .ref (ad 48)), (1, .int x1), (2, .ref (ad 48)), (3, .int x3), (4, .int zz)]) (AX := fun qq => if qq.1 = 1 then o_At p l e rm_MT_same s m _ below meth c _ m_cls D A 5 62 [] (m_cw ad ca ky ty rt Mm M0 a0) [] else o_At p l e rm_MT_same s m _ below meth c _ m_cls D A 5 70 [] (m_cw ad ca ky ty rt Mm M0 a0) []) (fun zz qq h h0 h1 => f_MT_same_b20_bb hE hKy C hDD n x1 x3 a0 Mm M0 rt zz qq h h0 h1) n _ q1 hq1 ?_ _ _ _ hP hS (lv_sub hl [1, 2, 3, 4, 0] rfl)
    by_cases c11 : q1.1 = 1
    · replace h := o_tt c11 h
      refine o_ip c11 ?_
      intro H locs ls hP hS hl
      refine lv_iconst (v := (0:Int32)) hx hb d_MT_same_62 (by decide) ?_
      cases h
      exact o_rz (v := (0:Int32)) C o_nar0 hP hS d_MT_same_63
    replace h := o_ff c11 h
    refine o_in_ c11 ?_
    intro H locs ls hP hS hl
    refine lv_iconst (v := (1:Int32)) hx hb d_MT_same_70 (by decide) ?_
    cases h
    exact o_rz (v := (1:Int32)) C o_nar1 hP hS d_MT_same_71
  · replace h := o_ff c3 h
    refine lv_iconst (v := (0:Int32)) hx hb d_MT_same_15 (by decide) ?_
    cases h
    exact o_rz (v := (0:Int32)) C o_nar0 hP hS d_MT_same_16
set_option maxHeartbeats 4000000 in
set_option maxRecDepth 100000 in
theorem f_MT_object_b127_b {E : (Nat → Prop) → State → Heap → Prop} {p : Program} {l : Launch} {e : Env} {s : State} {m : MethodId} {args : Array Value} {below : List Frame} {meth : Method} {c : Code} {D : va_G} {ad kd sd vd xd : Nat → Nat} {ca : Nat → ClassId} {A : Nat → Prop} {ky ty : Nat → Option Nat} {Q : State → Prop} (hE : o_EK E kd sd vd xd) (hKy : m_KY ky ty sd) (C : o_Cx E p s m args meth c D m_cls (m_tys ca) "SchemaJudgeModel$Text" b_MT_object (some .boolean) 8 cc_MT_object A) (hDD : ∀ (rt : Nat) (Mm : SMM) (M0 : SMT) (M1 : SMT), va_D A (m_cw ad ca ky ty rt Mm M0 M1)) (d : Nat) (rec : Int32 → Int32 → SMT → Option (Int32 × SMT)) (hrec : ∀ (x1 : Int32) (x2 : Int32) (a0 : SMT) (Mm : SMM) (M0 : SMT) (rt : Nat) (r : Int32 × SMT), rec x1 x2 a0 = some r → o_Cn E l D m_cls (m_tys ca) y_MT_value cc_MT_value (rm_MT_value d) [.ref (ad 48), .int x1, .int x2] (m_cw ad ca ky ty rt Mm M0 a0) (m_cw ad ca ky ty rt Mm M0 r.2) (some (.int r.1))) (n : Nat) (u127_x2 : Int32) (u127_x3 : Int32) (u127_x4 : Int32) (u127_x5 : Int32) (u127_x6 : Int32) (u127_a0 : SMT) (u127_Mm : SMM) (u127_M0 : SMT) (u127_rt : Nat) (z : Int32) (q : Nat × Int32) (h : m_MT_object_b127 n rec u127_x2 u127_x3 u127_x4 u127_x5 u127_x6 u127_a0 z = some q) (h0 : q.1 = 0 → o_At p l e (rm_MT_object d) s m args below meth c Q m_cls D A 8 127 [] (m_cw ad ca ky ty u127_rt u127_Mm u127_M0 u127_a0) [(0, .ref (ad 48)), (2, .int u127_x2), (3, .int u127_x3), (4, .int u127_x4), (5, .int u127_x5), (6, .int u127_x6), (7, .int q.2)]) (h1 : q.1 ≠ 0 → (if q.1 = 1 then o_At p l e (rm_MT_object d) s m args below meth c Q m_cls D A 8 149 [] (m_cw ad ca ky ty u127_rt u127_Mm u127_M0 u127_a0) [(0, .ref (ad 48)), (5, .int u127_x5)] else o_At p l e (rm_MT_object d) s m args below meth c Q m_cls D A 8 168 [] (m_cw ad ca ky ty u127_rt u127_Mm u127_M0 u127_a0) [(0, .ref (ad 48)), (2, .int u127_x2), (3, .int u127_x3), (4, .int u127_x4), (6, .int u127_x6)])) : o_At p l e (rm_MT_object d) s m args below meth c Q m_cls D A 8 127 [] (m_cw ad ca ky ty u127_rt u127_Mm u127_M0 u127_a0) [(0, .ref (ad 48)), (2, .int u127_x2), (3, .int u127_x3), (4, .int u127_x4), (5, .int u127_x5), (6, .int u127_x6), (7, .int z)] := by
  unfold m_MT_object_b127 at h
  intro H locs ls hP hS hl
  have C0 := C
  obtain ⟨hx, hb, -, -, -, hown, hts, hK, -, -⟩ := C0
  refine lv_iload hx hb d_MT_object_127 (lv_at hl 6 rfl) ?_
  refine lv_if_lt (tgt := 168) hx hb d_MT_object_129 (by decide) (fun c8 => ?_) (fun c8 => ?_)
  · replace h := o_tt c8 h
    cases h
    exact h1 (Nat.succ_ne_zero 1) _ _ _ hP hS (lv_sub hl [0, 1, 2, 3, 5] rfl)
  · replace h := o_ff c8 h
    refine lv_aload_n hx hb d_MT_object_132 rfl (lv_at hl 0 rfl) ?_
    refine lv_aload_n hx hb d_MT_object_133 rfl (lv_at hl 0 rfl) ?_
    refine o_get (v := .ref (ad 57)) C in_MT hP 48 mw_48 rfl 8 (by decide) k_7_116 rfl rfl d_MT_object_134 ?_
    refine lv_iload hx hb d_MT_object_137 (lv_at hl 6 rfl) ?_
    obtain ⟨g9, h⟩ := o_gd_some h
    refine o_iald (f := (MT_name u127_a0)) C hP 57 54 mw_57 rfl g9 d_MT_object_139 ?_
    refine lv_aload_n hx hb d_MT_object_140 rfl (lv_at hl 0 rfl) ?_
    refine lv_iload hx hb d_MT_object_141 (lv_at hl 5 rfl) ?_
    obtain ⟨q7, hq7, h⟩ := o_bd_some h
    refine o_V (st1 := [.int q7]) (w1 := (m_cw ad ca ky ty u127_rt u127_Mm u127_M0 u127_a0)) hE.1 C (e_MT_same_bb hE hKy l n ((MT_name u127_a0) z.toNatClampNeg) u127_x6 u127_a0 u127_Mm u127_M0 u127_rt hq7) hP (hDD _ _ _ _) hS hl.1 rfl mw_48 k_9_25 k_9_26 k_9_27 k_1_13 k_9_28 hv_MT_same rfl rfl ⟨(by dsimp only [rm_MT_object, rm_MT_same]; omega), (by dsimp only [rm_MT_object, rm_MT_same]; omega)⟩ rfl (Nat.le_of_ble_eq_true rfl) ⟨Nat.zero_le _, Nat.zero_le _⟩ rfl d_MT_object_143 (fun H locs hP hS => ?_)
    refine lv_if_eq (tgt := 156) hx hb d_MT_object_146 (by decide) (fun c10 => ?_) (fun c10 => ?_)
    · replace h := o_tt c10 h
      refine lv_aload_n hx hb d_MT_object_156 rfl (lv_at hl 0 rfl) ?_
      refine o_get (v := .ref (ad 56)) C in_MT hP 48 mw_48 rfl 7 (by decide) k_7_114 rfl rfl d_MT_object_157 ?_
      refine lv_iload hx hb d_MT_object_160 (lv_at hl 6 rfl) ?_
      obtain ⟨g11, h⟩ := o_gd_some h
      refine o_iald (f := (MT_next u127_a0)) C hP 56 53 mw_56 rfl g11 d_MT_object_162 ?_
      refine lv_topi (fun x7_163 ex7_163 => ?_)
      replace h := o_nm_at ex7_163 h
      refine lv_istore (lv' := [(7, .int x7_163), (0, .ref (ad 48)), (2, .int u127_x2), (3, .int u127_x3), (4, .int u127_x4), (5, .int u127_x5), (6, .int u127_x6)]) hx hb d_MT_object_163 hl (by decide) rfl (fun ls hl => ?_)
      refine lv_goto (tgt := 127) hx hb d_MT_object_165 (by decide) ?_
      cases h
      exact h0 rfl _ _ _ hP hS (lv_sub hl [1, 2, 3, 4, 5, 6, 0] rfl)
    · replace h := o_ff c10 h
      cases h
      exact h1 (Nat.succ_ne_zero 0) _ _ _ hP hS (lv_sub hl [0, 4] rfl)
set_option maxHeartbeats 4000000 in
set_option maxRecDepth 100000 in
theorem f_MT_object_j261_b {E : (Nat → Prop) → State → Heap → Prop} {p : Program} {l : Launch} {e : Env} {s : State} {m : MethodId} {args : Array Value} {below : List Frame} {meth : Method} {c : Code} {D : va_G} {ad kd sd vd xd : Nat → Nat} {ca : Nat → ClassId} {A : Nat → Prop} {ky ty : Nat → Option Nat} {Q : State → Prop} (hE : o_EK E kd sd vd xd) (hKy : m_KY ky ty sd) (C : o_Cx E p s m args meth c D m_cls (m_tys ca) "SchemaJudgeModel$Text" b_MT_object (some .boolean) 8 cc_MT_object A) (hDD : ∀ (rt : Nat) (Mm : SMM) (M0 : SMT) (M1 : SMT), va_D A (m_cw ad ca ky ty rt Mm M0 M1)) (d : Nat) (rec : Int32 → Int32 → SMT → Option (Int32 × SMT)) (hrec : ∀ (x1 : Int32) (x2 : Int32) (a0 : SMT) (Mm : SMM) (M0 : SMT) (rt : Nat) (r : Int32 × SMT), rec x1 x2 a0 = some r → o_Cn E l D m_cls (m_tys ca) y_MT_value cc_MT_value (rm_MT_value d) [.ref (ad 48), .int x1, .int x2] (m_cw ad ca ky ty rt Mm M0 a0) (m_cw ad ca ky ty rt Mm M0 r.2) (some (.int r.1))) (n : Nat) (u50_x2 : Int32) (u50_x3 : Int32) (u50_Mm : SMM) (u50_M0 : SMT) (u50_rt : Nat) (x7 : Int32) (a0 : SMT) {q : Nat × Int32 × Int32 × SMT} (h : m_MT_object_j261 n rec u50_x2 u50_x3 x7 a0 = some q) (h0 : q.1 = 0 → o_At p l e (rm_MT_object d) s m args below meth c Q m_cls D A 8 50 [] (m_cw ad ca ky ty u50_rt u50_Mm u50_M0 q.2.2.2) [(0, .ref (ad 48)), (2, .int u50_x2), (3, .int u50_x3), (4, .int q.2.1)]) (h1 : q.1 ≠ 0 → (if q.1 = 1 then o_At p l e (rm_MT_object d) s m args below meth c Q m_cls D A 8 88 [] (m_cw ad ca ky ty u50_rt u50_Mm u50_M0 q.2.2.2) [(0, .ref (ad 48))] else if q.1 = 2 then o_At p l e (rm_MT_object d) s m args below meth c Q m_cls D A 8 117 [] (m_cw ad ca ky ty u50_rt u50_Mm u50_M0 q.2.2.2) [] else if q.1 = 3 then o_At p l e (rm_MT_object d) s m args below meth c Q m_cls D A 8 149 [] (m_cw ad ca ky ty u50_rt u50_Mm u50_M0 q.2.2.2) [(0, .ref (ad 48)), (5, .int q.2.2.1)] else if q.1 = 4 then o_At p l e (rm_MT_object d) s m args below meth c Q m_cls D A 8 185 [] (m_cw ad ca ky ty u50_rt u50_Mm u50_M0 q.2.2.2) [(0, .ref (ad 48))] else if q.1 = 5 then o_At p l e (rm_MT_object d) s m args below meth c Q m_cls D A 8 225 [] (m_cw ad ca ky ty u50_rt u50_Mm u50_M0 q.2.2.2) [] else if q.1 = 6 then o_At p l e (rm_MT_object d) s m args below meth c Q m_cls D A 8 292 [] (m_cw ad ca ky ty u50_rt u50_Mm u50_M0 q.2.2.2) [(0, .ref (ad 48))] else o_At p l e (rm_MT_object d) s m args below meth c Q m_cls D A 8 317 [] (m_cw ad ca ky ty u50_rt u50_Mm u50_M0 q.2.2.2) [(0, .ref (ad 48))])) : o_At p l e (rm_MT_object d) s m args below meth c Q m_cls D A 8 261 [] (m_cw ad ca ky ty u50_rt u50_Mm u50_M0 a0) [(0, .ref (ad 48)), (2, .int u50_x2), (3, .int u50_x3), (7, .int x7)] := by
  unfold m_MT_object_j261 at h
  intro H locs ls hP hS hl
  have C0 := C
  obtain ⟨hx, hb, -, -, -, hown, hts, hK, -, -⟩ := C0
  refine lv_iload hx hb d_MT_object_261 (lv_at hl 3 rfl) ?_
  refine lv_istore (lv' := [(4, .int x7), (0, .ref (ad 48)), (2, .int u50_x2), (3, .int u50_x3), (7, .int x7)]) hx hb d_MT_object_263 hl (by decide) rfl (fun ls hl => ?_)
  refine lv_aload_n hx hb d_MT_object_265 rfl (lv_at hl 1 rfl) ?_
  refine o_get (v := .ref (ad 52)) C in_MT hP 48 mw_48 rfl 3 (by decide) k_7_106 rfl rfl d_MT_object_266 ?_
  refine lv_iload_n hx hb d_MT_object_269 rfl (lv_at hl 3 rfl) ?_
  refine lv_dup2_11 hx hb d_MT_object_270 rfl rfl ?_
  obtain ⟨g17, h⟩ := o_gd_some h
  refine o_iald (f := (MT_many a0)) C hP 52 49 mw_52 rfl g17 d_MT_object_271 ?_
  refine lv_iconst (v := (1:Int32)) hx hb d_MT_object_272 (by decide) ?_
  refine lv_iadd hx hb d_MT_object_273 ?_
  obtain ⟨g18, h⟩ := o_gd_some h
  refine o_iast (f := (MT_many a0)) (w1 := (m_cw ad ca ky ty u50_rt u50_Mm u50_M0 (MT_mk (MT_text a0) (MT_kind a0) (MT_place a0) (upd (MT_many a0) u50_x3.toNatClampNeg (((MT_many a0) u50_x3.toNatClampNeg) + (1:Int32))) (MT_parent a0) (MT_power a0) (MT_first a0) (MT_next a0) (MT_name a0) (MT_from a0) (MT_characters a0) (MT_digits a0) (MT_minus a0) (MT_values a0) (MT_letters a0) (MT_at a0) (MT_wrong a0) (MT_used a0) (MT_written a0) (MT_left a0)))) C hP (hDD _ _ _ _) hS 52 49 mw_52 rfl g18 rfl d_MT_object_274 (fun H locs hP hS => ?_)
  refine lv_aload_n hx hb d_MT_object_275 rfl (lv_at hl 1 rfl) ?_
  obtain ⟨q13, hq13, h⟩ := o_bd_some h
  refine o_V (st1 := []) (w1 := (m_cw ad ca ky ty u50_rt u50_Mm u50_M0 q13)) hE.1 C (e_MT_blanks_b hE hKy l n (MT_mk (MT_text a0) (MT_kind a0) (MT_place a0) (upd (MT_many a0) u50_x3.toNatClampNeg (((MT_many a0) u50_x3.toNatClampNeg) + (1:Int32))) (MT_parent a0) (MT_power a0) (MT_first a0) (MT_next a0) (MT_name a0) (MT_from a0) (MT_characters a0) (MT_digits a0) (MT_minus a0) (MT_values a0) (MT_letters a0) (MT_at a0) (MT_wrong a0) (MT_used a0) (MT_written a0) (MT_left a0)) u50_Mm u50_M0 u50_rt hq13) hP (hDD _ _ _ _) hS hl.1 rfl mw_48 k_8_188 k_8_189 k_8_190 k_1_13 k_8_191 hv_MT_blanks rfl rfl ⟨(by dsimp only [rm_MT_object, rm_MT_blanks]; omega), (by dsimp only [rm_MT_object, rm_MT_blanks]; omega)⟩ rfl (Nat.le_of_ble_eq_true rfl) ⟨Nat.zero_le _, Nat.zero_le _⟩ rfl d_MT_object_276 (fun H locs hP hS => ?_)
  refine lv_aload_n hx hb d_MT_object_279 rfl (lv_at hl 1 rfl) ?_
  refine lv_aload_n hx hb d_MT_object_280 rfl (lv_at hl 1 rfl) ?_
  refine o_get (v := .int (MT_at q13)) C in_MT hP 48 mw_48 rfl 15 (by decide) k_7_129 rfl rfl d_MT_object_281 ?_
  obtain ⟨q14, hq14, h⟩ := o_bd_some h
  refine o_V (st1 := [.int q14]) (w1 := (m_cw ad ca ky ty u50_rt u50_Mm u50_M0 q13)) hE.1 C (e_MT_c_b hE hKy l (MT_at q13) q13 u50_Mm u50_M0 u50_rt hq14) hP (hDD _ _ _ _) hS hl.1 rfl mw_48 k_8_192 k_8_193 k_8_194 k_1_13 k_8_195 hv_MT_c rfl rfl ⟨(by dsimp only [rm_MT_object, rm_MT_c]; omega), (by dsimp only [rm_MT_object, rm_MT_c]; omega)⟩ rfl (Nat.le_of_ble_eq_true rfl) ⟨Nat.zero_le _, Nat.zero_le _⟩ rfl d_MT_object_284 (fun H locs hP hS => ?_)
  refine lv_bipush (v := (125:Int32)) hx hb d_MT_object_287 (by decide) ?_
  refine lv_icmp_ne (tgt := 304) hx hb d_MT_object_289 (by decide) (fun c19 => ?_) (fun c19 => ?_)
  · replace h := o_ff c19 h
    refine lv_aload_n hx hb d_MT_object_304 rfl (lv_at hl 1 rfl) ?_
    refine lv_aload_n hx hb d_MT_object_305 rfl (lv_at hl 1 rfl) ?_
    refine o_get (v := .int (MT_at q13)) C in_MT hP 48 mw_48 rfl 15 (by decide) k_7_129 rfl rfl d_MT_object_306 ?_
    obtain ⟨q15, hq15, h⟩ := o_bd_some h
    refine o_V (st1 := [.int q15]) (w1 := (m_cw ad ca ky ty u50_rt u50_Mm u50_M0 q13)) hE.1 C (e_MT_c_b hE hKy l (MT_at q13) q13 u50_Mm u50_M0 u50_rt hq15) hP (hDD _ _ _ _) hS hl.1 rfl mw_48 k_8_192 k_8_193 k_8_194 k_1_13 k_8_195 hv_MT_c rfl rfl ⟨(by dsimp only [rm_MT_object, rm_MT_c]; omega), (by dsimp only [rm_MT_object, rm_MT_c]; omega)⟩ rfl (Nat.le_of_ble_eq_true rfl) ⟨Nat.zero_le _, Nat.zero_le _⟩ rfl d_MT_object_309 (fun H locs hP hS => ?_)
    refine lv_bipush (v := (44:Int32)) hx hb d_MT_object_312 (by decide) ?_
    refine lv_icmp_eq (tgt := 326) hx hb d_MT_object_314 (by decide) (fun c20 => ?_) (fun c20 => ?_)
    · replace h := o_tt c20 h
      refine lv_aload_n hx hb d_MT_object_326 rfl (lv_at hl 1 rfl) ?_
      refine lv_dup hx hb d_MT_object_327 rfl ?_
      refine o_get (v := .int (MT_at q13)) C in_MT hP 48 mw_48 rfl 15 (by decide) k_7_129 rfl rfl d_MT_object_328 ?_
      refine lv_iconst (v := (1:Int32)) hx hb d_MT_object_331 (by decide) ?_
      refine lv_iadd hx hb d_MT_object_332 ?_
      refine o_put (v := .int ((MT_at q13) + (1:Int32))) (ty := .int) (w1 := (m_cw ad ca ky ty u50_rt u50_Mm u50_M0 (MT_mk (MT_text q13) (MT_kind q13) (MT_place q13) (MT_many q13) (MT_parent q13) (MT_power q13) (MT_first q13) (MT_next q13) (MT_name q13) (MT_from q13) (MT_characters q13) (MT_digits q13) (MT_minus q13) (MT_values q13) (MT_letters q13) ((MT_at q13) + (1:Int32)) (MT_wrong q13) (MT_used q13) (MT_written q13) (MT_left q13)))) C in_MT t_MT t_MT_ok n_MT hP (hDD _ _ _ _) hS 48 mw_48 rfl 15 (by decide) k_7_129 rfl rfl (by decide +kernel) rfl rfl (Nat.le_of_ble_eq_true rfl) rfl d_MT_object_333 (fun H locs hP hS => ?_)
      refine lv_goto (tgt := 50) hx hb d_MT_object_336 (by decide) ?_
      cases h
      exact h0 rfl _ _ _ hP hS (lv_sub hl [1, 2, 3, 0] rfl)
    · replace h := o_ff c20 h
      cases h
      exact h1 (Nat.succ_ne_zero 6) _ _ _ hP hS (lv_sub hl [1] rfl)
  · replace h := o_tt c19 h
    cases h
    exact h1 (Nat.succ_ne_zero 5) _ _ _ hP hS (lv_sub hl [1] rfl)
set_option maxHeartbeats 4000000 in
set_option maxRecDepth 100000 in
theorem f_MT_object_b50_b {E : (Nat → Prop) → State → Heap → Prop} {p : Program} {l : Launch} {e : Env} {s : State} {m : MethodId} {args : Array Value} {below : List Frame} {meth : Method} {c : Code} {D : va_G} {ad kd sd vd xd : Nat → Nat} {ca : Nat → ClassId} {A : Nat → Prop} {ky ty : Nat → Option Nat} {Q : State → Prop} (hE : o_EK E kd sd vd xd) (hKy : m_KY ky ty sd) (C : o_Cx E p s m args meth c D m_cls (m_tys ca) "SchemaJudgeModel$Text" b_MT_object (some .boolean) 8 cc_MT_object A) (hDD : ∀ (rt : Nat) (Mm : SMM) (M0 : SMT) (M1 : SMT), va_D A (m_cw ad ca ky ty rt Mm M0 M1)) (d : Nat) (rec : Int32 → Int32 → SMT → Option (Int32 × SMT)) (hrec : ∀ (x1 : Int32) (x2 : Int32) (a0 : SMT) (Mm : SMM) (M0 : SMT) (rt : Nat) (r : Int32 × SMT), rec x1 x2 a0 = some r → o_Cn E l D m_cls (m_tys ca) y_MT_value cc_MT_value (rm_MT_value d) [.ref (ad 48), .int x1, .int x2] (m_cw ad ca ky ty rt Mm M0 a0) (m_cw ad ca ky ty rt Mm M0 r.2) (some (.int r.1))) (n : Nat) (u50_x2 : Int32) (u50_x3 : Int32) (u50_Mm : SMM) (u50_M0 : SMT) (u50_rt : Nat) (z : Int32 × Int32 × SMT) (q : Nat × Int32 × Int32 × SMT) (h : m_MT_object_b50 n rec u50_x2 u50_x3 z = some q) (h0 : q.1 = 0 → o_At p l e (rm_MT_object d) s m args below meth c Q m_cls D A 8 50 [] (m_cw ad ca ky ty u50_rt u50_Mm u50_M0 q.2.2.2) [(0, .ref (ad 48)), (2, .int u50_x2), (3, .int u50_x3), (4, .int q.2.1)]) (h1 : q.1 ≠ 0 → (if q.1 = 1 then o_At p l e (rm_MT_object d) s m args below meth c Q m_cls D A 8 88 [] (m_cw ad ca ky ty u50_rt u50_Mm u50_M0 q.2.2.2) [(0, .ref (ad 48))] else if q.1 = 2 then o_At p l e (rm_MT_object d) s m args below meth c Q m_cls D A 8 117 [] (m_cw ad ca ky ty u50_rt u50_Mm u50_M0 q.2.2.2) [] else if q.1 = 3 then o_At p l e (rm_MT_object d) s m args below meth c Q m_cls D A 8 149 [] (m_cw ad ca ky ty u50_rt u50_Mm u50_M0 q.2.2.2) [(0, .ref (ad 48)), (5, .int q.2.2.1)] else if q.1 = 4 then o_At p l e (rm_MT_object d) s m args below meth c Q m_cls D A 8 185 [] (m_cw ad ca ky ty u50_rt u50_Mm u50_M0 q.2.2.2) [(0, .ref (ad 48))] else if q.1 = 5 then o_At p l e (rm_MT_object d) s m args below meth c Q m_cls D A 8 225 [] (m_cw ad ca ky ty u50_rt u50_Mm u50_M0 q.2.2.2) [] else if q.1 = 6 then o_At p l e (rm_MT_object d) s m args below meth c Q m_cls D A 8 292 [] (m_cw ad ca ky ty u50_rt u50_Mm u50_M0 q.2.2.2) [(0, .ref (ad 48))] else o_At p l e (rm_MT_object d) s m args below meth c Q m_cls D A 8 317 [] (m_cw ad ca ky ty u50_rt u50_Mm u50_M0 q.2.2.2) [(0, .ref (ad 48))])) : o_At p l e (rm_MT_object d) s m args below meth c Q m_cls D A 8 50 [] (m_cw ad ca ky ty u50_rt u50_Mm u50_M0 z.2.2) [(0, .ref (ad 48)), (2, .int u50_x2), (3, .int u50_x3), (4, .int z.1)] := by
  unfold m_MT_object_b50 at h
  intro H locs ls hP hS hl
  have C0 := C
  obtain ⟨hx, hb, -, -, -, hown, hts, hK, -, -⟩ := C0
  refine lv_aload_n hx hb d_MT_object_50 rfl (lv_at hl 0 rfl) ?_
  obtain ⟨q4, hq4, h⟩ := o_bd_some h
  refine o_V (st1 := []) (w1 := (m_cw ad ca ky ty u50_rt u50_Mm u50_M0 q4)) hE.1 C (e_MT_blanks_b hE hKy l n z.2.2 u50_Mm u50_M0 u50_rt hq4) hP (hDD _ _ _ _) hS hl.1 rfl mw_48 k_8_188 k_8_189 k_8_190 k_1_13 k_8_191 hv_MT_blanks rfl rfl ⟨(by dsimp only [rm_MT_object, rm_MT_blanks]; omega), (by dsimp only [rm_MT_object, rm_MT_blanks]; omega)⟩ rfl (Nat.le_of_ble_eq_true rfl) ⟨Nat.zero_le _, Nat.zero_le _⟩ rfl d_MT_object_51 (fun H locs hP hS => ?_)
  refine lv_aload_n hx hb d_MT_object_54 rfl (lv_at hl 0 rfl) ?_
  refine lv_aload_n hx hb d_MT_object_55 rfl (lv_at hl 0 rfl) ?_
  refine o_get (v := .int (MT_at q4)) C in_MT hP 48 mw_48 rfl 15 (by decide) k_7_129 rfl rfl d_MT_object_56 ?_
  obtain ⟨q5, hq5, h⟩ := o_bd_some h
  refine o_V (st1 := [.int q5]) (w1 := (m_cw ad ca ky ty u50_rt u50_Mm u50_M0 q4)) hE.1 C (e_MT_c_b hE hKy l (MT_at q4) q4 u50_Mm u50_M0 u50_rt hq5) hP (hDD _ _ _ _) hS hl.1 rfl mw_48 k_8_192 k_8_193 k_8_194 k_1_13 k_8_195 hv_MT_c rfl rfl ⟨(by dsimp only [rm_MT_object, rm_MT_c]; omega), (by dsimp only [rm_MT_object, rm_MT_c]; omega)⟩ rfl (Nat.le_of_ble_eq_true rfl) ⟨Nat.zero_le _, Nat.zero_le _⟩ rfl d_MT_object_59 (fun H locs hP hS => ?_)
  refine lv_bipush (v := (34:Int32)) hx hb d_MT_object_62 (by decide) ?_
  refine lv_icmp_ne (tgt := 88) hx hb d_MT_object_64 (by decide) (fun c2 => ?_) (fun c2 => ?_)
  · replace h := o_ff c2 h
    cases h
    exact h1 (Nat.succ_ne_zero 0) _ _ _ hP hS (lv_sub hl [0] rfl)
  · replace h := o_tt c2 h
    refine lv_aload_n hx hb d_MT_object_67 rfl (lv_at hl 0 rfl) ?_
    refine o_get (v := .ref (ad 52)) C in_MT hP 48 mw_48 rfl 3 (by decide) k_7_106 rfl rfl d_MT_object_68 ?_
    refine lv_iload_n hx hb d_MT_object_71 rfl (lv_at hl 2 rfl) ?_
    obtain ⟨g3, h⟩ := o_gd_some h
    refine o_iald (f := (MT_many q4)) C hP 52 49 mw_52 rfl g3 d_MT_object_72 ?_
    refine lv_bipush (v := (60:Int32)) hx hb d_MT_object_73 (by decide) ?_
    refine lv_icmp_eq (tgt := 88) hx hb d_MT_object_75 (by decide) (fun c4 => ?_) (fun c4 => ?_)
    · replace h := o_tt c4 h
      cases h
      exact h1 (Nat.succ_ne_zero 0) _ _ _ hP hS (lv_sub hl [0] rfl)
    · replace h := o_ff c4 h
      refine lv_aload_n hx hb d_MT_object_78 rfl (lv_at hl 0 rfl) ?_
      refine o_get (v := .int (MT_values q4)) C in_MT hP 48 mw_48 rfl 13 (by decide) k_7_126 rfl rfl d_MT_object_79 ?_
      refine lv_sipush (v := (1000:Int32)) hx hb d_MT_object_82 (by decide) ?_
      refine lv_icmp_ne (tgt := 97) hx hb d_MT_object_85 (by decide) (fun c5 => ?_) (fun c5 => ?_)
      · replace h := o_ff c5 h
        refine lv_aload_n hx hb d_MT_object_97 rfl (lv_at hl 0 rfl) ?_
        refine o_get (v := .int (MT_at q4)) C in_MT hP 48 mw_48 rfl 15 (by decide) k_7_129 rfl rfl d_MT_object_98 ?_
        refine lv_topi (fun x5_101 ex5_101 => ?_)
        replace h := o_nm_at ex5_101 h
        refine lv_istore (lv' := [(5, .int x5_101), (0, .ref (ad 48)), (2, .int u50_x2), (3, .int u50_x3), (4, .int z.1)]) hx hb d_MT_object_101 hl (by decide) rfl (fun ls hl => ?_)
        refine lv_aload_n hx hb d_MT_object_103 rfl (lv_at hl 1 rfl) ?_
        refine o_get (v := .int (MT_values q4)) C in_MT hP 48 mw_48 rfl 13 (by decide) k_7_126 rfl rfl d_MT_object_104 ?_
        refine lv_topi (fun x6_107 ex6_107 => ?_)
        replace h := o_nm_at ex6_107 h
        refine lv_istore (lv' := [(6, .int x6_107), (5, .int x5_101), (0, .ref (ad 48)), (2, .int u50_x2), (3, .int u50_x3), (4, .int z.1)]) hx hb d_MT_object_107 hl (by decide) rfl (fun ls hl => ?_)
        refine lv_aload_n hx hb d_MT_object_109 rfl (lv_at hl 2 rfl) ?_
        refine lv_iload_n hx hb d_MT_object_110 rfl (lv_at hl 4 rfl) ?_
        obtain ⟨q6, hq6, h⟩ := o_bd_some h
        refine o_V (st1 := [.int q6.1]) (w1 := (m_cw ad ca ky ty u50_rt u50_Mm u50_M0 q6.2)) hE.1 C (e_MT_string_b hE hKy l n u50_x3 q4 u50_Mm u50_M0 u50_rt hq6) hP (hDD _ _ _ _) hS hl.1 rfl mw_48 k_8_220 k_8_221 k_8_222 k_1_13 k_8_223 hv_MT_string rfl rfl ⟨(by dsimp only [rm_MT_object, rm_MT_string]; omega), (by dsimp only [rm_MT_object, rm_MT_string]; omega)⟩ rfl (Nat.le_of_ble_eq_true rfl) ⟨Nat.zero_le _, Nat.zero_le _⟩ rfl d_MT_object_111 (fun H locs hP hS => ?_)
        refine lv_if_ne (tgt := 119) hx hb d_MT_object_114 (by decide) (fun c6 => ?_) (fun c6 => ?_)
        · replace h := o_ff c6 h
          refine lv_aload_n hx hb d_MT_object_119 rfl (lv_at hl 2 rfl) ?_
          refine o_get (v := .ref (ad 55)) C in_MT hP 48 mw_48 rfl 6 (by decide) k_7_112 rfl rfl d_MT_object_120 ?_
          refine lv_iload_n hx hb d_MT_object_123 rfl (lv_at hl 4 rfl) ?_
          obtain ⟨g7, h⟩ := o_gd_some h
          refine o_iald (f := (MT_first q6.2)) C hP 55 52 mw_55 rfl g7 d_MT_object_124 ?_
          refine lv_topi (fun x7_125 ex7_125 => ?_)
          replace h := o_nm_at ex7_125 h
          refine lv_istore (lv' := [(7, .int x7_125), (6, .int x6_107), (5, .int x5_101), (0, .ref (ad 48)), (2, .int u50_x2), (3, .int u50_x3), (4, .int z.1)]) hx hb d_MT_object_125 hl (by decide) rfl (fun ls hl => ?_)
          obtain ⟨q8, hq8, h⟩ := o_bd_some h
          refine o_sim2 (AH := fun zz => o_At p l e (rm_MT_object d) s m args below meth c _ m_cls D A 8 127 [] (m_cw ad ca ky ty u50_rt u50_Mm u50_M0 q6.2) [(0, .ref (ad 48)), (2, .int u50_x2), (3, .int u50_x3), (4, .int z.1), (5, .int x5_101), (6, .int x6_107), (7, .int zz)]) (AX := fun qq => if qq.1 = 1 then o_At p l e (rm_MT_object d) s m args below meth c _ m_cls D A 8 149 [] (m_cw ad ca ky ty u50_rt u50_Mm u50_M0 q6.2) [(0, .ref (ad 48)), (5, .int x5_101)] else o_At p l e (rm_MT_object d) s m args below meth c _ m_cls D A 8 168 [] (m_cw ad ca ky ty u50_rt u50_Mm u50_M0 q6.2) [(0, .ref (ad 48)), (2, .int u50_x2), (3, .int u50_x3), (4, .int z.1), (6, .int x6_107)]) (fun zz qq h h0 h1 => f_MT_object_b127_b hE hKy C hDD d rec hrec n u50_x2 u50_x3 z.1 x5_101 x6_107 q6.2 u50_Mm u50_M0 u50_rt zz qq h h0 h1) n _ q8 hq8 ?_ _ _ _ hP hS (lv_sub hl [3, 4, 5, 6, 2, 1, 0] rfl)
          by_cases c22 : q8.1 = 1
          · replace h := o_tt c22 h
            refine o_ip c22 ?_
            intro H locs ls hP hS hl
            cases h
            exact h1 (Nat.succ_ne_zero 2) _ _ _ hP hS (lv_sub hl [0, 1] rfl)
          replace h := o_ff c22 h
          refine o_in_ c22 ?_
          intro H locs ls hP hS hl
          refine lv_aload_n hx hb d_MT_object_168 rfl (lv_at hl 0 rfl) ?_
          obtain ⟨q9, hq9, h⟩ := o_bd_some h
          refine o_V (st1 := []) (w1 := (m_cw ad ca ky ty u50_rt u50_Mm u50_M0 q9)) hE.1 C (e_MT_blanks_b hE hKy l n q6.2 u50_Mm u50_M0 u50_rt hq9) hP (hDD _ _ _ _) hS hl.1 rfl mw_48 k_8_188 k_8_189 k_8_190 k_1_13 k_8_191 hv_MT_blanks rfl rfl ⟨(by dsimp only [rm_MT_object, rm_MT_blanks]; omega), (by dsimp only [rm_MT_object, rm_MT_blanks]; omega)⟩ rfl (Nat.le_of_ble_eq_true rfl) ⟨Nat.zero_le _, Nat.zero_le _⟩ rfl d_MT_object_169 (fun H locs hP hS => ?_)
          refine lv_aload_n hx hb d_MT_object_172 rfl (lv_at hl 0 rfl) ?_
          refine lv_aload_n hx hb d_MT_object_173 rfl (lv_at hl 0 rfl) ?_
          refine o_get (v := .int (MT_at q9)) C in_MT hP 48 mw_48 rfl 15 (by decide) k_7_129 rfl rfl d_MT_object_174 ?_
          obtain ⟨q10, hq10, h⟩ := o_bd_some h
          refine o_V (st1 := [.int q10]) (w1 := (m_cw ad ca ky ty u50_rt u50_Mm u50_M0 q9)) hE.1 C (e_MT_c_b hE hKy l (MT_at q9) q9 u50_Mm u50_M0 u50_rt hq10) hP (hDD _ _ _ _) hS hl.1 rfl mw_48 k_8_192 k_8_193 k_8_194 k_1_13 k_8_195 hv_MT_c rfl rfl ⟨(by dsimp only [rm_MT_object, rm_MT_c]; omega), (by dsimp only [rm_MT_object, rm_MT_c]; omega)⟩ rfl (Nat.le_of_ble_eq_true rfl) ⟨Nat.zero_le _, Nat.zero_le _⟩ rfl d_MT_object_177 (fun H locs hP hS => ?_)
          refine lv_bipush (v := (58:Int32)) hx hb d_MT_object_180 (by decide) ?_
          refine lv_icmp_eq (tgt := 194) hx hb d_MT_object_182 (by decide) (fun c12 => ?_) (fun c12 => ?_)
          · replace h := o_tt c12 h
            refine lv_aload_n hx hb d_MT_object_194 rfl (lv_at hl 0 rfl) ?_
            refine lv_dup hx hb d_MT_object_195 rfl ?_
            refine o_get (v := .int (MT_at q9)) C in_MT hP 48 mw_48 rfl 15 (by decide) k_7_129 rfl rfl d_MT_object_196 ?_
            refine lv_iconst (v := (1:Int32)) hx hb d_MT_object_199 (by decide) ?_
            refine lv_iadd hx hb d_MT_object_200 ?_
            refine o_put (v := .int ((MT_at q9) + (1:Int32))) (ty := .int) (w1 := (m_cw ad ca ky ty u50_rt u50_Mm u50_M0 (MT_mk (MT_text q9) (MT_kind q9) (MT_place q9) (MT_many q9) (MT_parent q9) (MT_power q9) (MT_first q9) (MT_next q9) (MT_name q9) (MT_from q9) (MT_characters q9) (MT_digits q9) (MT_minus q9) (MT_values q9) (MT_letters q9) ((MT_at q9) + (1:Int32)) (MT_wrong q9) (MT_used q9) (MT_written q9) (MT_left q9)))) C in_MT t_MT t_MT_ok n_MT hP (hDD _ _ _ _) hS 48 mw_48 rfl 15 (by decide) k_7_129 rfl rfl (by decide +kernel) rfl rfl (Nat.le_of_ble_eq_true rfl) rfl d_MT_object_201 (fun H locs hP hS => ?_)
            refine lv_aload_n hx hb d_MT_object_204 rfl (lv_at hl 0 rfl) ?_
            obtain ⟨q11, hq11, h⟩ := o_bd_some h
            refine o_V (st1 := []) (w1 := (m_cw ad ca ky ty u50_rt u50_Mm u50_M0 q11)) hE.1 C (e_MT_blanks_b hE hKy l n (MT_mk (MT_text q9) (MT_kind q9) (MT_place q9) (MT_many q9) (MT_parent q9) (MT_power q9) (MT_first q9) (MT_next q9) (MT_name q9) (MT_from q9) (MT_characters q9) (MT_digits q9) (MT_minus q9) (MT_values q9) (MT_letters q9) ((MT_at q9) + (1:Int32)) (MT_wrong q9) (MT_used q9) (MT_written q9) (MT_left q9)) u50_Mm u50_M0 u50_rt hq11) hP (hDD _ _ _ _) hS hl.1 rfl mw_48 k_8_188 k_8_189 k_8_190 k_1_13 k_8_191 hv_MT_blanks rfl rfl ⟨(by dsimp only [rm_MT_object, rm_MT_blanks]; omega), (by dsimp only [rm_MT_object, rm_MT_blanks]; omega)⟩ rfl (Nat.le_of_ble_eq_true rfl) ⟨Nat.zero_le _, Nat.zero_le _⟩ rfl d_MT_object_205 (fun H locs hP hS => ?_)
            refine lv_aload_n hx hb d_MT_object_208 rfl (lv_at hl 0 rfl) ?_
            refine o_get (v := .int (MT_values q11)) C in_MT hP 48 mw_48 rfl 13 (by decide) k_7_126 rfl rfl d_MT_object_209 ?_
            refine lv_topi (fun x7_212 ex7_212 => ?_)
            replace h := o_nm_at ex7_212 h
            refine lv_istore (lv' := [(7, .int x7_212), (0, .ref (ad 48)), (2, .int u50_x2), (3, .int u50_x3), (4, .int z.1), (6, .int x6_107)]) hx hb d_MT_object_212 hl (by decide) rfl (fun ls hl => ?_)
            refine lv_aload_n hx hb d_MT_object_214 rfl (lv_at hl 1 rfl) ?_
            refine lv_iload_n hx hb d_MT_object_215 rfl (lv_at hl 3 rfl) ?_
            refine lv_iload_n hx hb d_MT_object_216 rfl (lv_at hl 2 rfl) ?_
            refine lv_iconst (v := (1:Int32)) hx hb d_MT_object_217 (by decide) ?_
            refine lv_iadd hx hb d_MT_object_218 ?_
            obtain ⟨q12, hq12, h⟩ := o_bd_some h
            refine o_V (st1 := [.int q12.1]) (w1 := (m_cw ad ca ky ty u50_rt u50_Mm u50_M0 q12.2)) hE.1 C (hrec u50_x3 (u50_x2 + (1:Int32)) q11 u50_Mm u50_M0 u50_rt _ hq12) hP (hDD _ _ _ _) hS hl.1 rfl mw_48 k_8_196 k_8_197 k_8_198 k_1_13 k_8_199 hv_MT_value rfl rfl ⟨(by dsimp only [rm_MT_object, rm_MT_value]; omega), (by dsimp only [rm_MT_object, rm_MT_value]; omega)⟩ rfl (Nat.le_of_ble_eq_true rfl) ⟨Nat.zero_le _, Nat.zero_le _⟩ rfl d_MT_object_219 (fun H locs hP hS => ?_)
            refine lv_if_ne (tgt := 227) hx hb d_MT_object_222 (by decide) (fun c13 => ?_) (fun c13 => ?_)
            · replace h := o_ff c13 h
              refine lv_aload_n hx hb d_MT_object_227 rfl (lv_at hl 1 rfl) ?_
              refine o_get (v := .ref (ad 57)) C in_MT hP 48 mw_48 rfl 8 (by decide) k_7_116 rfl rfl d_MT_object_228 ?_
              refine lv_iload hx hb d_MT_object_231 (lv_at hl 0 rfl) ?_
              refine lv_iload hx hb d_MT_object_233 (lv_at hl 5 rfl) ?_
              obtain ⟨g14, h⟩ := o_gd_some h
              refine o_iast (f := (MT_name q12.2)) (w1 := (m_cw ad ca ky ty u50_rt u50_Mm u50_M0 (MT_mk (MT_text q12.2) (MT_kind q12.2) (MT_place q12.2) (MT_many q12.2) (MT_parent q12.2) (MT_power q12.2) (MT_first q12.2) (MT_next q12.2) (upd (MT_name q12.2) x7_212.toNatClampNeg x6_107) (MT_from q12.2) (MT_characters q12.2) (MT_digits q12.2) (MT_minus q12.2) (MT_values q12.2) (MT_letters q12.2) (MT_at q12.2) (MT_wrong q12.2) (MT_used q12.2) (MT_written q12.2) (MT_left q12.2)))) C hP (hDD _ _ _ _) hS 57 54 mw_57 rfl g14 rfl d_MT_object_235 (fun H locs hP hS => ?_)
              refine lv_iload hx hb d_MT_object_236 (lv_at hl 4 rfl) ?_
              refine lv_if_ge (tgt := 252) hx hb d_MT_object_238 (by decide) (fun c15 => ?_) (fun c15 => ?_)
              · replace h := o_tt c15 h
                refine lv_aload_n hx hb d_MT_object_252 rfl (lv_at hl 1 rfl) ?_
                refine o_get (v := .ref (ad 56)) C in_MT hP 48 mw_48 rfl 7 (by decide) k_7_114 rfl rfl d_MT_object_253 ?_
                refine lv_iload hx hb d_MT_object_256 (lv_at hl 4 rfl) ?_
                refine lv_iload hx hb d_MT_object_258 (lv_at hl 0 rfl) ?_
                obtain ⟨g16, h⟩ := o_gd_some h
                refine o_iast (f := (MT_next q12.2)) (w1 := (m_cw ad ca ky ty u50_rt u50_Mm u50_M0 (MT_mk (MT_text q12.2) (MT_kind q12.2) (MT_place q12.2) (MT_many q12.2) (MT_parent q12.2) (MT_power q12.2) (MT_first q12.2) (upd (MT_next q12.2) z.1.toNatClampNeg x7_212) (upd (MT_name q12.2) x7_212.toNatClampNeg x6_107) (MT_from q12.2) (MT_characters q12.2) (MT_digits q12.2) (MT_minus q12.2) (MT_values q12.2) (MT_letters q12.2) (MT_at q12.2) (MT_wrong q12.2) (MT_used q12.2) (MT_written q12.2) (MT_left q12.2)))) C hP (hDD _ _ _ _) hS 56 53 mw_56 rfl g16 rfl d_MT_object_260 (fun H locs hP hS => ?_)
                exact f_MT_object_j261_b hE hKy C hDD d rec hrec n u50_x2 u50_x3 u50_Mm u50_M0 u50_rt x7_212 (MT_mk (MT_text q12.2) (MT_kind q12.2) (MT_place q12.2) (MT_many q12.2) (MT_parent q12.2) (MT_power q12.2) (MT_first q12.2) (upd (MT_next q12.2) z.1.toNatClampNeg x7_212) (upd (MT_name q12.2) x7_212.toNatClampNeg x6_107) (MT_from q12.2) (MT_characters q12.2) (MT_digits q12.2) (MT_minus q12.2) (MT_values q12.2) (MT_letters q12.2) (MT_at q12.2) (MT_wrong q12.2) (MT_used q12.2) (MT_written q12.2) (MT_left q12.2)) h h0 h1 _ _ _ hP hS (lv_sub hl [1, 2, 3, 0] rfl)
              · replace h := o_ff c15 h
                refine lv_aload_n hx hb d_MT_object_241 rfl (lv_at hl 1 rfl) ?_
                refine o_get (v := .ref (ad 55)) C in_MT hP 48 mw_48 rfl 6 (by decide) k_7_112 rfl rfl d_MT_object_242 ?_
                refine lv_iload_n hx hb d_MT_object_245 rfl (lv_at hl 3 rfl) ?_
                refine lv_iload hx hb d_MT_object_246 (lv_at hl 0 rfl) ?_
                obtain ⟨g21, h⟩ := o_gd_some h
                refine o_iast (f := (MT_first q12.2)) (w1 := (m_cw ad ca ky ty u50_rt u50_Mm u50_M0 (MT_mk (MT_text q12.2) (MT_kind q12.2) (MT_place q12.2) (MT_many q12.2) (MT_parent q12.2) (MT_power q12.2) (upd (MT_first q12.2) u50_x3.toNatClampNeg x7_212) (MT_next q12.2) (upd (MT_name q12.2) x7_212.toNatClampNeg x6_107) (MT_from q12.2) (MT_characters q12.2) (MT_digits q12.2) (MT_minus q12.2) (MT_values q12.2) (MT_letters q12.2) (MT_at q12.2) (MT_wrong q12.2) (MT_used q12.2) (MT_written q12.2) (MT_left q12.2)))) C hP (hDD _ _ _ _) hS 55 52 mw_55 rfl g21 rfl d_MT_object_248 (fun H locs hP hS => ?_)
                refine lv_goto (tgt := 261) hx hb d_MT_object_249 (by decide) ?_
                exact f_MT_object_j261_b hE hKy C hDD d rec hrec n u50_x2 u50_x3 u50_Mm u50_M0 u50_rt x7_212 (MT_mk (MT_text q12.2) (MT_kind q12.2) (MT_place q12.2) (MT_many q12.2) (MT_parent q12.2) (MT_power q12.2) (upd (MT_first q12.2) u50_x3.toNatClampNeg x7_212) (MT_next q12.2) (upd (MT_name q12.2) x7_212.toNatClampNeg x6_107) (MT_from q12.2) (MT_characters q12.2) (MT_digits q12.2) (MT_minus q12.2) (MT_values q12.2) (MT_letters q12.2) (MT_at q12.2) (MT_wrong q12.2) (MT_used q12.2) (MT_written q12.2) (MT_left q12.2)) h h0 h1 _ _ _ hP hS (lv_sub hl [1, 2, 3, 0] rfl)
            · replace h := o_tt c13 h
              cases h
              exact h1 (Nat.succ_ne_zero 4) _ _ _ hP hS (lv_sub hl [] rfl)
          · replace h := o_ff c12 h
            cases h
            exact h1 (Nat.succ_ne_zero 3) _ _ _ hP hS (lv_sub hl [0] rfl)
        · replace h := o_tt c6 h
          cases h
          exact h1 (Nat.succ_ne_zero 1) _ _ _ hP hS (lv_sub hl [] rfl)
      · replace h := o_tt c5 h
        cases h
        exact h1 (Nat.succ_ne_zero 0) _ _ _ hP hS (lv_sub hl [0] rfl)
set_option maxHeartbeats 4000000 in
set_option maxRecDepth 100000 in
theorem f_MT_object_j88_b {E : (Nat → Prop) → State → Heap → Prop} {p : Program} {l : Launch} {e : Env} {s : State} {m : MethodId} {args : Array Value} {below : List Frame} {meth : Method} {c : Code} {D : va_G} {ad kd sd vd xd : Nat → Nat} {ca : Nat → ClassId} {A : Nat → Prop} {ky ty : Nat → Option Nat} (hE : o_EK E kd sd vd xd) (hKy : m_KY ky ty sd) (C : o_Cx E p s m args meth c D m_cls (m_tys ca) "SchemaJudgeModel$Text" b_MT_object (some .boolean) 8 cc_MT_object A) (hDD : ∀ (rt : Nat) (Mm : SMM) (M0 : SMT) (M1 : SMT), va_D A (m_cw ad ca ky ty rt Mm M0 M1)) (d : Nat) (rec : Int32 → Int32 → SMT → Option (Int32 × SMT)) (hrec : ∀ (x1 : Int32) (x2 : Int32) (a0 : SMT) (Mm : SMM) (M0 : SMT) (rt : Nat) (r : Int32 × SMT), rec x1 x2 a0 = some r → o_Cn E l D m_cls (m_tys ca) y_MT_value cc_MT_value (rm_MT_value d) [.ref (ad 48), .int x1, .int x2] (m_cw ad ca ky ty rt Mm M0 a0) (m_cw ad ca ky ty rt Mm M0 r.2) (some (.int r.1))) (n : Nat)  (a0 : SMT) (Mm : SMM) (M0 : SMT) (rt : Nat) {r : Int32 × SMT} (h : m_MT_object_j88 n rec a0 = some r) : o_At p l e (rm_MT_object d) s m args below meth c (MQ below (o_Qx D m_cls (some (.int r.1)) (m_cw ad ca ky ty rt Mm M0 r.2) A) args s 0 0 A) m_cls D A 8 88 [] (m_cw ad ca ky ty rt Mm M0 a0) [(0, .ref (ad 48))] := by
  unfold m_MT_object_j88 at h
  intro H locs ls hP hS hl
  have C0 := C
  obtain ⟨hx, hb, -, -, -, hown, hts, hK, -, -⟩ := C0
  refine lv_aload_n hx hb d_MT_object_88 rfl (lv_at hl 0 rfl) ?_
  refine lv_aload_n hx hb d_MT_object_89 rfl (lv_at hl 0 rfl) ?_
  refine o_get (v := .int (MT_at a0)) C in_MT hP 48 mw_48 rfl 15 (by decide) k_7_129 rfl rfl d_MT_object_90 ?_
  obtain ⟨q17, hq17, h⟩ := o_bd_some h
  refine o_V (st1 := [.int q17.1]) (w1 := (m_cw ad ca ky ty rt Mm M0 q17.2)) hE.1 C (e_MT_bad_b hE hKy l (MT_at a0) a0 Mm M0 rt hq17) hP (hDD _ _ _ _) hS hl.1 rfl mw_48 k_8_203 k_8_204 k_8_205 k_1_13 k_8_206 hv_MT_bad rfl rfl ⟨(by dsimp only [rm_MT_object, rm_MT_bad]; omega), (by dsimp only [rm_MT_object, rm_MT_bad]; omega)⟩ rfl (Nat.le_of_ble_eq_true rfl) ⟨Nat.zero_le _, Nat.zero_le _⟩ rfl d_MT_object_93 (fun H locs hP hS => ?_)
  obtain ⟨g23, h⟩ := o_gd_some h
  cases h
  exact o_rz C (o_zb_nar g23) hP hS d_MT_object_96
set_option maxHeartbeats 4000000 in
set_option maxRecDepth 100000 in
theorem e_MT_object_b {E : (Nat → Prop) → State → Heap → Prop} {D : va_G} {ad kd sd vd xd : Nat → Nat} {ca : Nat → ClassId} {ky ty : Nat → Option Nat} (hE : o_EK E kd sd vd xd) (hKy : m_KY ky ty sd) (l : Launch) (n : Nat) (d : Nat) (rec : Int32 → Int32 → SMT → Option (Int32 × SMT)) (hrec : ∀ (x1 : Int32) (x2 : Int32) (a0 : SMT) (Mm : SMM) (M0 : SMT) (rt : Nat) (r : Int32 × SMT), rec x1 x2 a0 = some r → o_Cn E l D m_cls (m_tys ca) y_MT_value cc_MT_value (rm_MT_value d) [.ref (ad 48), .int x1, .int x2] (m_cw ad ca ky ty rt Mm M0 a0) (m_cw ad ca ky ty rt Mm M0 r.2) (some (.int r.1))) (x1 : Int32) (x2 : Int32) (a0 : SMT) (Mm : SMM) (M0 : SMT) (rt : Nat) {r : Int32 × SMT} (h : m_MT_object n rec x1 x2 a0 = some r) : o_Cn E l D m_cls (m_tys ca) y_MT_object cc_MT_object (rm_MT_object d) [.ref (ad 48), .int x1, .int x2] (m_cw ad ca ky ty rt Mm M0 a0) (m_cw ad ca ky ty rt Mm M0 r.2) (some (.int r.1)) := by
  refine o_Cn_of (by decide) (Nat.le_of_ble_eq_true rfl) ?_
  intro p e s m below meth c A ls C hD hP hS hl
  have hDD : ∀ (rt : Nat) (Mm : SMM) (M0 : SMT) (M1 : SMT), va_D A (m_cw ad ca ky ty rt Mm M0 M1) := fun _ _ _ _ => o_D_map hD rfl
  have hl : lv_has ls 8 [(0, .ref (ad 48)), (1, .int x1), (2, .int x2)] := hl
  unfold m_MT_object at h
  have C0 := C
  obtain ⟨hx, hb, -, -, -, hown, hts, hK, -, -⟩ := C0
  refine lv_aload_n hx hb d_MT_object_0 rfl (lv_at hl 0 rfl) ?_
  refine lv_iload_n hx hb d_MT_object_1 rfl (lv_at hl 1 rfl) ?_
  refine lv_bipush (v := (6:Int32)) hx hb d_MT_object_2 (by decide) ?_
  obtain ⟨q1, hq1, h⟩ := o_bd_some h
  refine o_V (st1 := [.int q1.1]) (w1 := (m_cw ad ca ky ty rt Mm M0 q1.2)) hE.1 C (e_MT_fresh_b hE hKy l x1 (6:Int32) a0 Mm M0 rt hq1) hP (hDD _ _ _ _) hS hl.1 rfl mw_48 k_8_212 k_8_213 k_8_214 k_1_13 k_8_215 hv_MT_fresh rfl rfl ⟨(by dsimp only [rm_MT_object, rm_MT_fresh]; omega), (by dsimp only [rm_MT_object, rm_MT_fresh]; omega)⟩ rfl (Nat.le_of_ble_eq_true rfl) ⟨Nat.zero_le _, Nat.zero_le _⟩ rfl d_MT_object_4 (fun H locs hP hS => ?_)
  refine lv_istore_n (lv' := [(3, .int q1.1), (0, .ref (ad 48)), (1, .int x1), (2, .int x2)]) hx hb d_MT_object_7 rfl hl (by decide) rfl (fun ls hl => ?_)
  refine lv_iconst (v := (-1:Int32)) hx hb d_MT_object_8 (by decide) ?_
  refine lv_istore (lv' := [(4, .int (-1:Int32)), (3, .int q1.1), (0, .ref (ad 48)), (1, .int x1), (2, .int x2)]) hx hb d_MT_object_9 hl (by decide) rfl (fun ls hl => ?_)
  refine lv_aload_n hx hb d_MT_object_11 rfl (lv_at hl 2 rfl) ?_
  refine lv_dup hx hb d_MT_object_12 rfl ?_
  refine o_get (v := .int (MT_at q1.2)) C in_MT hP 48 mw_48 rfl 15 (by decide) k_7_129 rfl rfl d_MT_object_13 ?_
  refine lv_iconst (v := (1:Int32)) hx hb d_MT_object_16 (by decide) ?_
  refine lv_iadd hx hb d_MT_object_17 ?_
  refine o_put (v := .int ((MT_at q1.2) + (1:Int32))) (ty := .int) (w1 := (m_cw ad ca ky ty rt Mm M0 (MT_mk (MT_text q1.2) (MT_kind q1.2) (MT_place q1.2) (MT_many q1.2) (MT_parent q1.2) (MT_power q1.2) (MT_first q1.2) (MT_next q1.2) (MT_name q1.2) (MT_from q1.2) (MT_characters q1.2) (MT_digits q1.2) (MT_minus q1.2) (MT_values q1.2) (MT_letters q1.2) ((MT_at q1.2) + (1:Int32)) (MT_wrong q1.2) (MT_used q1.2) (MT_written q1.2) (MT_left q1.2)))) C in_MT t_MT t_MT_ok n_MT hP (hDD _ _ _ _) hS 48 mw_48 rfl 15 (by decide) k_7_129 rfl rfl (by decide +kernel) rfl rfl (Nat.le_of_ble_eq_true rfl) rfl d_MT_object_18 (fun H locs hP hS => ?_)
  refine lv_aload_n hx hb d_MT_object_21 rfl (lv_at hl 2 rfl) ?_
  obtain ⟨q2, hq2, h⟩ := o_bd_some h
  refine o_V (st1 := []) (w1 := (m_cw ad ca ky ty rt Mm M0 q2)) hE.1 C (e_MT_blanks_b hE hKy l n (MT_mk (MT_text q1.2) (MT_kind q1.2) (MT_place q1.2) (MT_many q1.2) (MT_parent q1.2) (MT_power q1.2) (MT_first q1.2) (MT_next q1.2) (MT_name q1.2) (MT_from q1.2) (MT_characters q1.2) (MT_digits q1.2) (MT_minus q1.2) (MT_values q1.2) (MT_letters q1.2) ((MT_at q1.2) + (1:Int32)) (MT_wrong q1.2) (MT_used q1.2) (MT_written q1.2) (MT_left q1.2)) Mm M0 rt hq2) hP (hDD _ _ _ _) hS hl.1 rfl mw_48 k_8_188 k_8_189 k_8_190 k_1_13 k_8_191 hv_MT_blanks rfl rfl ⟨(by dsimp only [rm_MT_object, rm_MT_blanks]; omega), (by dsimp only [rm_MT_object, rm_MT_blanks]; omega)⟩ rfl (Nat.le_of_ble_eq_true rfl) ⟨Nat.zero_le _, Nat.zero_le _⟩ rfl d_MT_object_22 (fun H locs hP hS => ?_)
  refine lv_aload_n hx hb d_MT_object_25 rfl (lv_at hl 2 rfl) ?_
  refine lv_aload_n hx hb d_MT_object_26 rfl (lv_at hl 2 rfl) ?_
  refine o_get (v := .int (MT_at q2)) C in_MT hP 48 mw_48 rfl 15 (by decide) k_7_129 rfl rfl d_MT_object_27 ?_
  obtain ⟨q3, hq3, h⟩ := o_bd_some h
  refine o_V (st1 := [.int q3]) (w1 := (m_cw ad ca ky ty rt Mm M0 q2)) hE.1 C (e_MT_c_b hE hKy l (MT_at q2) q2 Mm M0 rt hq3) hP (hDD _ _ _ _) hS hl.1 rfl mw_48 k_8_192 k_8_193 k_8_194 k_1_13 k_8_195 hv_MT_c rfl rfl ⟨(by dsimp only [rm_MT_object, rm_MT_c]; omega), (by dsimp only [rm_MT_object, rm_MT_c]; omega)⟩ rfl (Nat.le_of_ble_eq_true rfl) ⟨Nat.zero_le _, Nat.zero_le _⟩ rfl d_MT_object_30 (fun H locs hP hS => ?_)
  refine lv_bipush (v := (125:Int32)) hx hb d_MT_object_33 (by decide) ?_
  refine lv_icmp_ne (tgt := 50) hx hb d_MT_object_35 (by decide) (fun c1 => ?_) (fun c1 => ?_)
  · replace h := o_ff c1 h
    obtain ⟨q16, hq16, h⟩ := o_bd_some h
    refine o_sim2 (AH := fun zz => o_At p l e (rm_MT_object d) s m _ below meth c _ m_cls D A 8 50 [] (m_cw ad ca ky ty rt Mm M0 zz.2.2) [(0, .ref (ad 48)), (2, .int x2), (3, .int q1.1), (4, .int zz.1)]) (AX := fun qq => if qq.1 = 1 then o_At p l e (rm_MT_object d) s m _ below meth c _ m_cls D A 8 88 [] (m_cw ad ca ky ty rt Mm M0 qq.2.2.2) [(0, .ref (ad 48))] else if qq.1 = 2 then o_At p l e (rm_MT_object d) s m _ below meth c _ m_cls D A 8 117 [] (m_cw ad ca ky ty rt Mm M0 qq.2.2.2) [] else if qq.1 = 3 then o_At p l e (rm_MT_object d) s m _ below meth c _ m_cls D A 8 149 [] (m_cw ad ca ky ty rt Mm M0 qq.2.2.2) [(0, .ref (ad 48)), (5, .int qq.2.2.1)] else if qq.1 = 4 then o_At p l e (rm_MT_object d) s m _ below meth c _ m_cls D A 8 185 [] (m_cw ad ca ky ty rt Mm M0 qq.2.2.2) [(0, .ref (ad 48))] else if qq.1 = 5 then o_At p l e (rm_MT_object d) s m _ below meth c _ m_cls D A 8 225 [] (m_cw ad ca ky ty rt Mm M0 qq.2.2.2) [] else if qq.1 = 6 then o_At p l e (rm_MT_object d) s m _ below meth c _ m_cls D A 8 292 [] (m_cw ad ca ky ty rt Mm M0 qq.2.2.2) [(0, .ref (ad 48))] else o_At p l e (rm_MT_object d) s m _ below meth c _ m_cls D A 8 317 [] (m_cw ad ca ky ty rt Mm M0 qq.2.2.2) [(0, .ref (ad 48))]) (fun zz qq h h0 h1 => f_MT_object_b50_b hE hKy C hDD d rec hrec n x2 q1.1 Mm M0 rt zz qq h h0 h1) n _ q16 hq16 ?_ _ _ _ hP hS (lv_sub hl [2, 4, 1, 0] rfl)
    by_cases c27 : q16.1 = 1
    · replace h := o_tt c27 h
      refine o_ip c27 ?_
      intro H locs ls hP hS hl
      exact f_MT_object_j88_b hE hKy C hDD d rec hrec n q16.2.2.2 Mm M0 rt h _ _ _ hP hS (lv_sub hl [0] rfl)
    replace h := o_ff c27 h
    refine o_in_ c27 ?_
    by_cases c28 : q16.1 = 2
    · replace h := o_tt c28 h
      refine o_ip c28 ?_
      intro H locs ls hP hS hl
      refine lv_iconst (v := (0:Int32)) hx hb d_MT_object_117 (by decide) ?_
      cases h
      exact o_rz (v := (0:Int32)) C o_nar0 hP hS d_MT_object_118
    replace h := o_ff c28 h
    refine o_in_ c28 ?_
    by_cases c29 : q16.1 = 3
    · replace h := o_tt c29 h
      refine o_ip c29 ?_
      intro H locs ls hP hS hl
      refine lv_aload_n hx hb d_MT_object_149 rfl (lv_at hl 0 rfl) ?_
      refine lv_iload hx hb d_MT_object_150 (lv_at hl 1 rfl) ?_
      obtain ⟨q18, hq18, h⟩ := o_bd_some h
      refine o_V (st1 := [.int q18.1]) (w1 := (m_cw ad ca ky ty rt Mm M0 q18.2)) hE.1 C (e_MT_bad_b hE hKy l q16.2.2.1 q16.2.2.2 Mm M0 rt hq18) hP (hDD _ _ _ _) hS hl.1 rfl mw_48 k_8_203 k_8_204 k_8_205 k_1_13 k_8_206 hv_MT_bad rfl rfl ⟨(by dsimp only [rm_MT_object, rm_MT_bad]; omega), (by dsimp only [rm_MT_object, rm_MT_bad]; omega)⟩ rfl (Nat.le_of_ble_eq_true rfl) ⟨Nat.zero_le _, Nat.zero_le _⟩ rfl d_MT_object_152 (fun H locs hP hS => ?_)
      obtain ⟨g24, h⟩ := o_gd_some h
      cases h
      exact o_rz C (o_zb_nar g24) hP hS d_MT_object_155
    replace h := o_ff c29 h
    refine o_in_ c29 ?_
    by_cases c30 : q16.1 = 4
    · replace h := o_tt c30 h
      refine o_ip c30 ?_
      intro H locs ls hP hS hl
      refine lv_aload_n hx hb d_MT_object_185 rfl (lv_at hl 0 rfl) ?_
      refine lv_aload_n hx hb d_MT_object_186 rfl (lv_at hl 0 rfl) ?_
      refine o_get (v := .int (MT_at q16.2.2.2)) C in_MT hP 48 mw_48 rfl 15 (by decide) k_7_129 rfl rfl d_MT_object_187 ?_
      obtain ⟨q19, hq19, h⟩ := o_bd_some h
      refine o_V (st1 := [.int q19.1]) (w1 := (m_cw ad ca ky ty rt Mm M0 q19.2)) hE.1 C (e_MT_bad_b hE hKy l (MT_at q16.2.2.2) q16.2.2.2 Mm M0 rt hq19) hP (hDD _ _ _ _) hS hl.1 rfl mw_48 k_8_203 k_8_204 k_8_205 k_1_13 k_8_206 hv_MT_bad rfl rfl ⟨(by dsimp only [rm_MT_object, rm_MT_bad]; omega), (by dsimp only [rm_MT_object, rm_MT_bad]; omega)⟩ rfl (Nat.le_of_ble_eq_true rfl) ⟨Nat.zero_le _, Nat.zero_le _⟩ rfl d_MT_object_190 (fun H locs hP hS => ?_)
      obtain ⟨g25, h⟩ := o_gd_some h
      cases h
      exact o_rz C (o_zb_nar g25) hP hS d_MT_object_193
    replace h := o_ff c30 h
    refine o_in_ c30 ?_
    by_cases c31 : q16.1 = 5
    · replace h := o_tt c31 h
      refine o_ip c31 ?_
      intro H locs ls hP hS hl
      refine lv_iconst (v := (0:Int32)) hx hb d_MT_object_225 (by decide) ?_
      cases h
      exact o_rz (v := (0:Int32)) C o_nar0 hP hS d_MT_object_226
    replace h := o_ff c31 h
    refine o_in_ c31 ?_
    by_cases c32 : q16.1 = 6
    · replace h := o_tt c32 h
      refine o_ip c32 ?_
      intro H locs ls hP hS hl
      refine lv_aload_n hx hb d_MT_object_292 rfl (lv_at hl 0 rfl) ?_
      refine lv_dup hx hb d_MT_object_293 rfl ?_
      refine o_get (v := .int (MT_at q16.2.2.2)) C in_MT hP 48 mw_48 rfl 15 (by decide) k_7_129 rfl rfl d_MT_object_294 ?_
      refine lv_iconst (v := (1:Int32)) hx hb d_MT_object_297 (by decide) ?_
      refine lv_iadd hx hb d_MT_object_298 ?_
      refine o_put (v := .int ((MT_at q16.2.2.2) + (1:Int32))) (ty := .int) (w1 := (m_cw ad ca ky ty rt Mm M0 (MT_mk (MT_text q16.2.2.2) (MT_kind q16.2.2.2) (MT_place q16.2.2.2) (MT_many q16.2.2.2) (MT_parent q16.2.2.2) (MT_power q16.2.2.2) (MT_first q16.2.2.2) (MT_next q16.2.2.2) (MT_name q16.2.2.2) (MT_from q16.2.2.2) (MT_characters q16.2.2.2) (MT_digits q16.2.2.2) (MT_minus q16.2.2.2) (MT_values q16.2.2.2) (MT_letters q16.2.2.2) ((MT_at q16.2.2.2) + (1:Int32)) (MT_wrong q16.2.2.2) (MT_used q16.2.2.2) (MT_written q16.2.2.2) (MT_left q16.2.2.2)))) C in_MT t_MT t_MT_ok n_MT hP (hDD _ _ _ _) hS 48 mw_48 rfl 15 (by decide) k_7_129 rfl rfl (by decide +kernel) rfl rfl (Nat.le_of_ble_eq_true rfl) rfl d_MT_object_299 (fun H locs hP hS => ?_)
      refine lv_iconst (v := (1:Int32)) hx hb d_MT_object_302 (by decide) ?_
      cases h
      exact o_rz (v := (1:Int32)) C o_nar1 hP hS d_MT_object_303
    replace h := o_ff c32 h
    refine o_in_ c32 ?_
    intro H locs ls hP hS hl
    refine lv_aload_n hx hb d_MT_object_317 rfl (lv_at hl 0 rfl) ?_
    refine lv_aload_n hx hb d_MT_object_318 rfl (lv_at hl 0 rfl) ?_
    refine o_get (v := .int (MT_at q16.2.2.2)) C in_MT hP 48 mw_48 rfl 15 (by decide) k_7_129 rfl rfl d_MT_object_319 ?_
    obtain ⟨q20, hq20, h⟩ := o_bd_some h
    refine o_V (st1 := [.int q20.1]) (w1 := (m_cw ad ca ky ty rt Mm M0 q20.2)) hE.1 C (e_MT_bad_b hE hKy l (MT_at q16.2.2.2) q16.2.2.2 Mm M0 rt hq20) hP (hDD _ _ _ _) hS hl.1 rfl mw_48 k_8_203 k_8_204 k_8_205 k_1_13 k_8_206 hv_MT_bad rfl rfl ⟨(by dsimp only [rm_MT_object, rm_MT_bad]; omega), (by dsimp only [rm_MT_object, rm_MT_bad]; omega)⟩ rfl (Nat.le_of_ble_eq_true rfl) ⟨Nat.zero_le _, Nat.zero_le _⟩ rfl d_MT_object_322 (fun H locs hP hS => ?_)
    obtain ⟨g26, h⟩ := o_gd_some h
    cases h
    exact o_rz C (o_zb_nar g26) hP hS d_MT_object_325
  · replace h := o_tt c1 h
    refine lv_aload_n hx hb d_MT_object_38 rfl (lv_at hl 2 rfl) ?_
    refine lv_dup hx hb d_MT_object_39 rfl ?_
    refine o_get (v := .int (MT_at q2)) C in_MT hP 48 mw_48 rfl 15 (by decide) k_7_129 rfl rfl d_MT_object_40 ?_
    refine lv_iconst (v := (1:Int32)) hx hb d_MT_object_43 (by decide) ?_
    refine lv_iadd hx hb d_MT_object_44 ?_
    refine o_put (v := .int ((MT_at q2) + (1:Int32))) (ty := .int) (w1 := (m_cw ad ca ky ty rt Mm M0 (MT_mk (MT_text q2) (MT_kind q2) (MT_place q2) (MT_many q2) (MT_parent q2) (MT_power q2) (MT_first q2) (MT_next q2) (MT_name q2) (MT_from q2) (MT_characters q2) (MT_digits q2) (MT_minus q2) (MT_values q2) (MT_letters q2) ((MT_at q2) + (1:Int32)) (MT_wrong q2) (MT_used q2) (MT_written q2) (MT_left q2)))) C in_MT t_MT t_MT_ok n_MT hP (hDD _ _ _ _) hS 48 mw_48 rfl 15 (by decide) k_7_129 rfl rfl (by decide +kernel) rfl rfl (Nat.le_of_ble_eq_true rfl) rfl d_MT_object_45 (fun H locs hP hS => ?_)
    refine lv_iconst (v := (1:Int32)) hx hb d_MT_object_48 (by decide) ?_
    cases h
    exact o_rz (v := (1:Int32)) C o_nar1 hP hS d_MT_object_49
