set_option maxHeartbeats 4000000 in
set_option maxRecDepth 100000 in
theorem f_MT_array_j131_a {E : (Nat → Prop) → State → Heap → Prop} {p : Program} {l : Launch} {e : Env} {s : State} {m : MethodId} {args : Array Value} {below : List Frame} {meth : Method} {c : Code} {D : va_G} {ad kd sd vd xd : Nat → Nat} {ca : Nat → ClassId} {A : Nat → Prop} {ky ty : Nat → Option Nat} {Q : State → Prop} (hE : o_EK E kd sd vd xd) (hKy : m_KY ky ty sd) (C : o_Cx E p s m args meth c D m_cls (m_tys ca) "SchemaJudgeModel$Text" b_MT_array (some .boolean) 6 cc_MT_array A) (hDD : ∀ (rt : Nat) (Mm : SMM) (M0 : SMT) (M1 : SMT), va_D A (m_cw ad ca ky ty rt Mm M0 M1)) (d : Nat) (rec : Int32 → Int32 → SMT → Option (Int32 × SMT)) (hrec : ∀ (x1 : Int32) (x2 : Int32) (a0 : SMT) (Mm : SMM) (M1 : SMT) (rt : Nat) (r : Int32 × SMT), rec x1 x2 a0 = some r → o_Cn E l D m_cls (m_tys ca) y_MT_value cc_MT_value (rm_MT_value d) [.ref (ad 33), .int x1, .int x2] (m_cw ad ca ky ty rt Mm a0 M1) (m_cw ad ca ky ty rt Mm r.2 M1) (some (.int r.1))) (n : Nat) (u49_x2 : Int32) (u49_x3 : Int32) (u49_Mm : SMM) (u49_M1 : SMT) (u49_rt : Nat) (x5 : Int32) (a0 : SMT) {q : Nat × Int32 × SMT} (h : m_MT_array_j131 n rec u49_x2 u49_x3 x5 a0 = some q) (h0 : q.1 = 0 → o_At p l e (rm_MT_array d) s m args below meth c Q m_cls D A 6 49 [] (m_cw ad ca ky ty u49_rt u49_Mm q.2.2 u49_M1) [(0, .ref (ad 33)), (2, .int u49_x2), (3, .int u49_x3), (4, .int q.2.1)]) (h1 : q.1 ≠ 0 → (if q.1 = 1 then o_At p l e (rm_MT_array d) s m args below meth c Q m_cls D A 6 78 [] (m_cw ad ca ky ty u49_rt u49_Mm q.2.2 u49_M1) [(0, .ref (ad 33))] else if q.1 = 2 then o_At p l e (rm_MT_array d) s m args below meth c Q m_cls D A 6 104 [] (m_cw ad ca ky ty u49_rt u49_Mm q.2.2 u49_M1) [] else if q.1 = 3 then o_At p l e (rm_MT_array d) s m args below meth c Q m_cls D A 6 162 [] (m_cw ad ca ky ty u49_rt u49_Mm q.2.2 u49_M1) [(0, .ref (ad 33))] else o_At p l e (rm_MT_array d) s m args below meth c Q m_cls D A 6 187 [] (m_cw ad ca ky ty u49_rt u49_Mm q.2.2 u49_M1) [(0, .ref (ad 33))])) : o_At p l e (rm_MT_array d) s m args below meth c Q m_cls D A 6 131 [] (m_cw ad ca ky ty u49_rt u49_Mm a0 u49_M1) [(0, .ref (ad 33)), (2, .int u49_x2), (3, .int u49_x3), (5, .int x5)] := by
  unfold m_MT_array_j131 at h
  intro H locs ls hP hS hl
  have C0 := C
  obtain ⟨hx, hb, -, -, -, hown, hts, hK, -, -⟩ := C0
  refine lv_iload hx hb d_MT_array_131 (lv_at hl 3 rfl) ?_
  refine lv_istore (lv' := [(4, .int x5), (0, .ref (ad 33)), (2, .int u49_x2), (3, .int u49_x3), (5, .int x5)]) hx hb d_MT_array_133 hl (by decide) rfl (fun ls hl => ?_)
  refine lv_aload_n hx hb d_MT_array_135 rfl (lv_at hl 1 rfl) ?_
  refine o_get (v := .ref (ad 37)) C in_MT hP 33 mw_33 rfl 3 (by decide) k_7_106 rfl rfl d_MT_array_136 ?_
  refine lv_iload_n hx hb d_MT_array_139 rfl (lv_at hl 3 rfl) ?_
  refine lv_dup2_11 hx hb d_MT_array_140 rfl rfl ?_
  obtain ⟨g7, h⟩ := o_gd_some h
  refine o_iald (f := (MT_many a0)) C hP 37 35 mw_37 rfl g7 d_MT_array_141 ?_
  refine lv_iconst (v := (1:Int32)) hx hb d_MT_array_142 (by decide) ?_
  refine lv_iadd hx hb d_MT_array_143 ?_
  obtain ⟨g8, h⟩ := o_gd_some h
  refine o_iast (f := (MT_many a0)) (w1 := (m_cw ad ca ky ty u49_rt u49_Mm (MT_mk (MT_text a0) (MT_kind a0) (MT_place a0) (upd (MT_many a0) u49_x3.toNatClampNeg (((MT_many a0) u49_x3.toNatClampNeg) + (1:Int32))) (MT_parent a0) (MT_power a0) (MT_first a0) (MT_next a0) (MT_name a0) (MT_from a0) (MT_characters a0) (MT_digits a0) (MT_minus a0) (MT_values a0) (MT_letters a0) (MT_at a0) (MT_wrong a0) (MT_used a0) (MT_written a0) (MT_left a0)) u49_M1)) C hP (hDD _ _ _ _) hS 37 35 mw_37 rfl g8 rfl d_MT_array_144 (fun H locs hP hS => ?_)
  refine lv_aload_n hx hb d_MT_array_145 rfl (lv_at hl 1 rfl) ?_
  obtain ⟨q6, hq6, h⟩ := o_bd_some h
  refine o_V (st1 := []) (w1 := (m_cw ad ca ky ty u49_rt u49_Mm q6 u49_M1)) hE.1 C (e_MT_blanks_a hE hKy l n (MT_mk (MT_text a0) (MT_kind a0) (MT_place a0) (upd (MT_many a0) u49_x3.toNatClampNeg (((MT_many a0) u49_x3.toNatClampNeg) + (1:Int32))) (MT_parent a0) (MT_power a0) (MT_first a0) (MT_next a0) (MT_name a0) (MT_from a0) (MT_characters a0) (MT_digits a0) (MT_minus a0) (MT_values a0) (MT_letters a0) (MT_at a0) (MT_wrong a0) (MT_used a0) (MT_written a0) (MT_left a0)) u49_Mm u49_M1 u49_rt hq6) hP (hDD _ _ _ _) hS hl.1 rfl mw_33 k_8_188 k_8_189 k_8_190 k_1_13 k_8_191 hv_MT_blanks rfl rfl ⟨(by dsimp only [rm_MT_array, rm_MT_blanks]; omega), (by dsimp only [rm_MT_array, rm_MT_blanks]; omega)⟩ rfl (Nat.le_of_ble_eq_true rfl) ⟨Nat.zero_le _, Nat.zero_le _⟩ rfl d_MT_array_146 (fun H locs hP hS => ?_)
  refine lv_aload_n hx hb d_MT_array_149 rfl (lv_at hl 1 rfl) ?_
  refine lv_aload_n hx hb d_MT_array_150 rfl (lv_at hl 1 rfl) ?_
  refine o_get (v := .int (MT_at q6)) C in_MT hP 33 mw_33 rfl 15 (by decide) k_7_129 rfl rfl d_MT_array_151 ?_
  obtain ⟨q7, hq7, h⟩ := o_bd_some h
  refine o_V (st1 := [.int q7]) (w1 := (m_cw ad ca ky ty u49_rt u49_Mm q6 u49_M1)) hE.1 C (e_MT_c_a hE hKy l (MT_at q6) q6 u49_Mm u49_M1 u49_rt hq7) hP (hDD _ _ _ _) hS hl.1 rfl mw_33 k_8_192 k_8_193 k_8_194 k_1_13 k_8_195 hv_MT_c rfl rfl ⟨(by dsimp only [rm_MT_array, rm_MT_c]; omega), (by dsimp only [rm_MT_array, rm_MT_c]; omega)⟩ rfl (Nat.le_of_ble_eq_true rfl) ⟨Nat.zero_le _, Nat.zero_le _⟩ rfl d_MT_array_154 (fun H locs hP hS => ?_)
  refine lv_bipush (v := (93:Int32)) hx hb d_MT_array_157 (by decide) ?_
  refine lv_icmp_ne (tgt := 174) hx hb d_MT_array_159 (by decide) (fun c9 => ?_) (fun c9 => ?_)
  · replace h := o_ff c9 h
    refine lv_aload_n hx hb d_MT_array_174 rfl (lv_at hl 1 rfl) ?_
    refine lv_aload_n hx hb d_MT_array_175 rfl (lv_at hl 1 rfl) ?_
    refine o_get (v := .int (MT_at q6)) C in_MT hP 33 mw_33 rfl 15 (by decide) k_7_129 rfl rfl d_MT_array_176 ?_
    obtain ⟨q8, hq8, h⟩ := o_bd_some h
    refine o_V (st1 := [.int q8]) (w1 := (m_cw ad ca ky ty u49_rt u49_Mm q6 u49_M1)) hE.1 C (e_MT_c_a hE hKy l (MT_at q6) q6 u49_Mm u49_M1 u49_rt hq8) hP (hDD _ _ _ _) hS hl.1 rfl mw_33 k_8_192 k_8_193 k_8_194 k_1_13 k_8_195 hv_MT_c rfl rfl ⟨(by dsimp only [rm_MT_array, rm_MT_c]; omega), (by dsimp only [rm_MT_array, rm_MT_c]; omega)⟩ rfl (Nat.le_of_ble_eq_true rfl) ⟨Nat.zero_le _, Nat.zero_le _⟩ rfl d_MT_array_179 (fun H locs hP hS => ?_)
    refine lv_bipush (v := (44:Int32)) hx hb d_MT_array_182 (by decide) ?_
    refine lv_icmp_eq (tgt := 196) hx hb d_MT_array_184 (by decide) (fun c10 => ?_) (fun c10 => ?_)
    · replace h := o_tt c10 h
      refine lv_aload_n hx hb d_MT_array_196 rfl (lv_at hl 1 rfl) ?_
      refine lv_dup hx hb d_MT_array_197 rfl ?_
      refine o_get (v := .int (MT_at q6)) C in_MT hP 33 mw_33 rfl 15 (by decide) k_7_129 rfl rfl d_MT_array_198 ?_
      refine lv_iconst (v := (1:Int32)) hx hb d_MT_array_201 (by decide) ?_
      refine lv_iadd hx hb d_MT_array_202 ?_
      refine o_put (v := .int ((MT_at q6) + (1:Int32))) (ty := .int) (w1 := (m_cw ad ca ky ty u49_rt u49_Mm (MT_mk (MT_text q6) (MT_kind q6) (MT_place q6) (MT_many q6) (MT_parent q6) (MT_power q6) (MT_first q6) (MT_next q6) (MT_name q6) (MT_from q6) (MT_characters q6) (MT_digits q6) (MT_minus q6) (MT_values q6) (MT_letters q6) ((MT_at q6) + (1:Int32)) (MT_wrong q6) (MT_used q6) (MT_written q6) (MT_left q6)) u49_M1)) C in_MT t_MT t_MT_ok n_MT hP (hDD _ _ _ _) hS 33 mw_33 rfl 15 (by decide) k_7_129 rfl rfl (by decide +kernel) rfl rfl (Nat.le_of_ble_eq_true rfl) rfl d_MT_array_203 (fun H locs hP hS => ?_)
      refine lv_goto (tgt := 49) hx hb d_MT_array_206 (by decide) ?_
      cases h
      exact h0 rfl _ _ _ hP hS (lv_sub hl [1, 2, 3, 0] rfl)
    · replace h := o_ff c10 h
      cases h
      exact h1 (Nat.succ_ne_zero 3) _ _ _ hP hS (lv_sub hl [1] rfl)
  · replace h := o_tt c9 h
    cases h
    exact h1 (Nat.succ_ne_zero 2) _ _ _ hP hS (lv_sub hl [1] rfl)
set_option maxHeartbeats 4000000 in
set_option maxRecDepth 100000 in
theorem f_MT_array_j87_a {E : (Nat → Prop) → State → Heap → Prop} {p : Program} {l : Launch} {e : Env} {s : State} {m : MethodId} {args : Array Value} {below : List Frame} {meth : Method} {c : Code} {D : va_G} {ad kd sd vd xd : Nat → Nat} {ca : Nat → ClassId} {A : Nat → Prop} {ky ty : Nat → Option Nat} {Q : State → Prop} (hE : o_EK E kd sd vd xd) (hKy : m_KY ky ty sd) (C : o_Cx E p s m args meth c D m_cls (m_tys ca) "SchemaJudgeModel$Text" b_MT_array (some .boolean) 6 cc_MT_array A) (hDD : ∀ (rt : Nat) (Mm : SMM) (M0 : SMT) (M1 : SMT), va_D A (m_cw ad ca ky ty rt Mm M0 M1)) (d : Nat) (rec : Int32 → Int32 → SMT → Option (Int32 × SMT)) (hrec : ∀ (x1 : Int32) (x2 : Int32) (a0 : SMT) (Mm : SMM) (M1 : SMT) (rt : Nat) (r : Int32 × SMT), rec x1 x2 a0 = some r → o_Cn E l D m_cls (m_tys ca) y_MT_value cc_MT_value (rm_MT_value d) [.ref (ad 33), .int x1, .int x2] (m_cw ad ca ky ty rt Mm a0 M1) (m_cw ad ca ky ty rt Mm r.2 M1) (some (.int r.1))) (n : Nat) (u49_x2 : Int32) (u49_x3 : Int32) (u49_Mm : SMM) (u49_M1 : SMT) (u49_rt : Nat) (x4 : Int32) (a0 : SMT) {q : Nat × Int32 × SMT} (h : m_MT_array_j87 n rec u49_x2 u49_x3 x4 a0 = some q) (h0 : q.1 = 0 → o_At p l e (rm_MT_array d) s m args below meth c Q m_cls D A 6 49 [] (m_cw ad ca ky ty u49_rt u49_Mm q.2.2 u49_M1) [(0, .ref (ad 33)), (2, .int u49_x2), (3, .int u49_x3), (4, .int q.2.1)]) (h1 : q.1 ≠ 0 → (if q.1 = 1 then o_At p l e (rm_MT_array d) s m args below meth c Q m_cls D A 6 78 [] (m_cw ad ca ky ty u49_rt u49_Mm q.2.2 u49_M1) [(0, .ref (ad 33))] else if q.1 = 2 then o_At p l e (rm_MT_array d) s m args below meth c Q m_cls D A 6 104 [] (m_cw ad ca ky ty u49_rt u49_Mm q.2.2 u49_M1) [] else if q.1 = 3 then o_At p l e (rm_MT_array d) s m args below meth c Q m_cls D A 6 162 [] (m_cw ad ca ky ty u49_rt u49_Mm q.2.2 u49_M1) [(0, .ref (ad 33))] else o_At p l e (rm_MT_array d) s m args below meth c Q m_cls D A 6 187 [] (m_cw ad ca ky ty u49_rt u49_Mm q.2.2 u49_M1) [(0, .ref (ad 33))])) : o_At p l e (rm_MT_array d) s m args below meth c Q m_cls D A 6 87 [] (m_cw ad ca ky ty u49_rt u49_Mm a0 u49_M1) [(0, .ref (ad 33)), (2, .int u49_x2), (3, .int u49_x3), (4, .int x4)] := by
  unfold m_MT_array_j87 at h
  intro H locs ls hP hS hl
  have C0 := C
  obtain ⟨hx, hb, -, -, -, hown, hts, hK, -, -⟩ := C0
  refine lv_aload_n hx hb d_MT_array_87 rfl (lv_at hl 0 rfl) ?_
  refine o_get (v := .int (MT_values a0)) C in_MT hP 33 mw_33 rfl 13 (by decide) k_7_126 rfl rfl d_MT_array_88 ?_
  refine lv_topi (fun x5_91 ex5_91 => ?_)
  replace h := o_nm_at ex5_91 h
  refine lv_istore (lv' := [(5, .int x5_91), (0, .ref (ad 33)), (2, .int u49_x2), (3, .int u49_x3), (4, .int x4)]) hx hb d_MT_array_91 hl (by decide) rfl (fun ls hl => ?_)
  refine lv_aload_n hx hb d_MT_array_93 rfl (lv_at hl 1 rfl) ?_
  refine lv_iload_n hx hb d_MT_array_94 rfl (lv_at hl 3 rfl) ?_
  refine lv_iload_n hx hb d_MT_array_95 rfl (lv_at hl 2 rfl) ?_
  refine lv_iconst (v := (1:Int32)) hx hb d_MT_array_96 (by decide) ?_
  refine lv_iadd hx hb d_MT_array_97 ?_
  obtain ⟨q5, hq5, h⟩ := o_bd_some h
  refine o_V (st1 := [.int q5.1]) (w1 := (m_cw ad ca ky ty u49_rt u49_Mm q5.2 u49_M1)) hE.1 C (hrec u49_x3 (u49_x2 + (1:Int32)) a0 u49_Mm u49_M1 u49_rt _ hq5) hP (hDD _ _ _ _) hS hl.1 rfl mw_33 k_8_196 k_8_197 k_8_198 k_1_13 k_8_199 hv_MT_value rfl rfl ⟨(by dsimp only [rm_MT_array, rm_MT_value]; omega), (by dsimp only [rm_MT_array, rm_MT_value]; omega)⟩ rfl (Nat.le_of_ble_eq_true rfl) ⟨Nat.zero_le _, Nat.zero_le _⟩ rfl d_MT_array_98 (fun H locs hP hS => ?_)
  refine lv_if_ne (tgt := 106) hx hb d_MT_array_101 (by decide) (fun c4 => ?_) (fun c4 => ?_)
  · replace h := o_ff c4 h
    refine lv_iload hx hb d_MT_array_106 (lv_at hl 4 rfl) ?_
    refine lv_if_ge (tgt := 122) hx hb d_MT_array_108 (by decide) (fun c5 => ?_) (fun c5 => ?_)
    · replace h := o_tt c5 h
      refine lv_aload_n hx hb d_MT_array_122 rfl (lv_at hl 1 rfl) ?_
      refine o_get (v := .ref (ad 41)) C in_MT hP 33 mw_33 rfl 7 (by decide) k_7_114 rfl rfl d_MT_array_123 ?_
      refine lv_iload hx hb d_MT_array_126 (lv_at hl 4 rfl) ?_
      refine lv_iload hx hb d_MT_array_128 (lv_at hl 0 rfl) ?_
      obtain ⟨g6, h⟩ := o_gd_some h
      refine o_iast (f := (MT_next q5.2)) (w1 := (m_cw ad ca ky ty u49_rt u49_Mm (MT_mk (MT_text q5.2) (MT_kind q5.2) (MT_place q5.2) (MT_many q5.2) (MT_parent q5.2) (MT_power q5.2) (MT_first q5.2) (upd (MT_next q5.2) x4.toNatClampNeg x5_91) (MT_name q5.2) (MT_from q5.2) (MT_characters q5.2) (MT_digits q5.2) (MT_minus q5.2) (MT_values q5.2) (MT_letters q5.2) (MT_at q5.2) (MT_wrong q5.2) (MT_used q5.2) (MT_written q5.2) (MT_left q5.2)) u49_M1)) C hP (hDD _ _ _ _) hS 41 39 mw_41 rfl g6 rfl d_MT_array_130 (fun H locs hP hS => ?_)
      exact f_MT_array_j131_a hE hKy C hDD d rec hrec n u49_x2 u49_x3 u49_Mm u49_M1 u49_rt x5_91 (MT_mk (MT_text q5.2) (MT_kind q5.2) (MT_place q5.2) (MT_many q5.2) (MT_parent q5.2) (MT_power q5.2) (MT_first q5.2) (upd (MT_next q5.2) x4.toNatClampNeg x5_91) (MT_name q5.2) (MT_from q5.2) (MT_characters q5.2) (MT_digits q5.2) (MT_minus q5.2) (MT_values q5.2) (MT_letters q5.2) (MT_at q5.2) (MT_wrong q5.2) (MT_used q5.2) (MT_written q5.2) (MT_left q5.2)) h h0 h1 _ _ _ hP hS (lv_sub hl [1, 2, 3, 0] rfl)
    · replace h := o_ff c5 h
      refine lv_aload_n hx hb d_MT_array_111 rfl (lv_at hl 1 rfl) ?_
      refine o_get (v := .ref (ad 40)) C in_MT hP 33 mw_33 rfl 6 (by decide) k_7_112 rfl rfl d_MT_array_112 ?_
      refine lv_iload_n hx hb d_MT_array_115 rfl (lv_at hl 3 rfl) ?_
      refine lv_iload hx hb d_MT_array_116 (lv_at hl 0 rfl) ?_
      obtain ⟨g11, h⟩ := o_gd_some h
      refine o_iast (f := (MT_first q5.2)) (w1 := (m_cw ad ca ky ty u49_rt u49_Mm (MT_mk (MT_text q5.2) (MT_kind q5.2) (MT_place q5.2) (MT_many q5.2) (MT_parent q5.2) (MT_power q5.2) (upd (MT_first q5.2) u49_x3.toNatClampNeg x5_91) (MT_next q5.2) (MT_name q5.2) (MT_from q5.2) (MT_characters q5.2) (MT_digits q5.2) (MT_minus q5.2) (MT_values q5.2) (MT_letters q5.2) (MT_at q5.2) (MT_wrong q5.2) (MT_used q5.2) (MT_written q5.2) (MT_left q5.2)) u49_M1)) C hP (hDD _ _ _ _) hS 40 38 mw_40 rfl g11 rfl d_MT_array_118 (fun H locs hP hS => ?_)
      refine lv_goto (tgt := 131) hx hb d_MT_array_119 (by decide) ?_
      exact f_MT_array_j131_a hE hKy C hDD d rec hrec n u49_x2 u49_x3 u49_Mm u49_M1 u49_rt x5_91 (MT_mk (MT_text q5.2) (MT_kind q5.2) (MT_place q5.2) (MT_many q5.2) (MT_parent q5.2) (MT_power q5.2) (upd (MT_first q5.2) u49_x3.toNatClampNeg x5_91) (MT_next q5.2) (MT_name q5.2) (MT_from q5.2) (MT_characters q5.2) (MT_digits q5.2) (MT_minus q5.2) (MT_values q5.2) (MT_letters q5.2) (MT_at q5.2) (MT_wrong q5.2) (MT_used q5.2) (MT_written q5.2) (MT_left q5.2)) h h0 h1 _ _ _ hP hS (lv_sub hl [1, 2, 3, 0] rfl)
  · replace h := o_tt c4 h
    cases h
    exact h1 (Nat.succ_ne_zero 1) _ _ _ hP hS (lv_sub hl [] rfl)
set_option maxHeartbeats 4000000 in
set_option maxRecDepth 100000 in
theorem f_MT_array_b49_a {E : (Nat → Prop) → State → Heap → Prop} {p : Program} {l : Launch} {e : Env} {s : State} {m : MethodId} {args : Array Value} {below : List Frame} {meth : Method} {c : Code} {D : va_G} {ad kd sd vd xd : Nat → Nat} {ca : Nat → ClassId} {A : Nat → Prop} {ky ty : Nat → Option Nat} {Q : State → Prop} (hE : o_EK E kd sd vd xd) (hKy : m_KY ky ty sd) (C : o_Cx E p s m args meth c D m_cls (m_tys ca) "SchemaJudgeModel$Text" b_MT_array (some .boolean) 6 cc_MT_array A) (hDD : ∀ (rt : Nat) (Mm : SMM) (M0 : SMT) (M1 : SMT), va_D A (m_cw ad ca ky ty rt Mm M0 M1)) (d : Nat) (rec : Int32 → Int32 → SMT → Option (Int32 × SMT)) (hrec : ∀ (x1 : Int32) (x2 : Int32) (a0 : SMT) (Mm : SMM) (M1 : SMT) (rt : Nat) (r : Int32 × SMT), rec x1 x2 a0 = some r → o_Cn E l D m_cls (m_tys ca) y_MT_value cc_MT_value (rm_MT_value d) [.ref (ad 33), .int x1, .int x2] (m_cw ad ca ky ty rt Mm a0 M1) (m_cw ad ca ky ty rt Mm r.2 M1) (some (.int r.1))) (n : Nat) (u49_x2 : Int32) (u49_x3 : Int32) (u49_Mm : SMM) (u49_M1 : SMT) (u49_rt : Nat) (z : Int32 × SMT) (q : Nat × Int32 × SMT) (h : m_MT_array_b49 n rec u49_x2 u49_x3 z = some q) (h0 : q.1 = 0 → o_At p l e (rm_MT_array d) s m args below meth c Q m_cls D A 6 49 [] (m_cw ad ca ky ty u49_rt u49_Mm q.2.2 u49_M1) [(0, .ref (ad 33)), (2, .int u49_x2), (3, .int u49_x3), (4, .int q.2.1)]) (h1 : q.1 ≠ 0 → (if q.1 = 1 then o_At p l e (rm_MT_array d) s m args below meth c Q m_cls D A 6 78 [] (m_cw ad ca ky ty u49_rt u49_Mm q.2.2 u49_M1) [(0, .ref (ad 33))] else if q.1 = 2 then o_At p l e (rm_MT_array d) s m args below meth c Q m_cls D A 6 104 [] (m_cw ad ca ky ty u49_rt u49_Mm q.2.2 u49_M1) [] else if q.1 = 3 then o_At p l e (rm_MT_array d) s m args below meth c Q m_cls D A 6 162 [] (m_cw ad ca ky ty u49_rt u49_Mm q.2.2 u49_M1) [(0, .ref (ad 33))] else o_At p l e (rm_MT_array d) s m args below meth c Q m_cls D A 6 187 [] (m_cw ad ca ky ty u49_rt u49_Mm q.2.2 u49_M1) [(0, .ref (ad 33))])) : o_At p l e (rm_MT_array d) s m args below meth c Q m_cls D A 6 49 [] (m_cw ad ca ky ty u49_rt u49_Mm z.2 u49_M1) [(0, .ref (ad 33)), (2, .int u49_x2), (3, .int u49_x3), (4, .int z.1)] := by
  unfold m_MT_array_b49 at h
  intro H locs ls hP hS hl
  have C0 := C
  obtain ⟨hx, hb, -, -, -, hown, hts, hK, -, -⟩ := C0
  refine lv_aload_n hx hb d_MT_array_49 rfl (lv_at hl 0 rfl) ?_
  obtain ⟨q4, hq4, h⟩ := o_bd_some h
  refine o_V (st1 := []) (w1 := (m_cw ad ca ky ty u49_rt u49_Mm q4 u49_M1)) hE.1 C (e_MT_blanks_a hE hKy l n z.2 u49_Mm u49_M1 u49_rt hq4) hP (hDD _ _ _ _) hS hl.1 rfl mw_33 k_8_188 k_8_189 k_8_190 k_1_13 k_8_191 hv_MT_blanks rfl rfl ⟨(by dsimp only [rm_MT_array, rm_MT_blanks]; omega), (by dsimp only [rm_MT_array, rm_MT_blanks]; omega)⟩ rfl (Nat.le_of_ble_eq_true rfl) ⟨Nat.zero_le _, Nat.zero_le _⟩ rfl d_MT_array_50 (fun H locs hP hS => ?_)
  refine lv_aload_n hx hb d_MT_array_53 rfl (lv_at hl 0 rfl) ?_
  refine o_get (v := .ref (ad 37)) C in_MT hP 33 mw_33 rfl 3 (by decide) k_7_106 rfl rfl d_MT_array_54 ?_
  refine lv_iload_n hx hb d_MT_array_57 rfl (lv_at hl 2 rfl) ?_
  obtain ⟨g2, h⟩ := o_gd_some h
  refine o_iald (f := (MT_many q4)) C hP 37 35 mw_37 rfl g2 d_MT_array_58 ?_
  refine lv_bipush (v := (60:Int32)) hx hb d_MT_array_59 (by decide) ?_
  refine lv_icmp_ne (tgt := 87) hx hb d_MT_array_61 (by decide) (fun c3 => ?_) (fun c3 => ?_)
  · replace h := o_ff c3 h
    exact f_MT_array_j87_a hE hKy C hDD d rec hrec n u49_x2 u49_x3 u49_Mm u49_M1 u49_rt z.1 q4 h h0 h1 _ _ _ hP hS (lv_sub hl [0, 1, 2, 3] rfl)
  · replace h := o_tt c3 h
    refine lv_aload_n hx hb d_MT_array_64 rfl (lv_at hl 0 rfl) ?_
    refine lv_aload_n hx hb d_MT_array_65 rfl (lv_at hl 0 rfl) ?_
    refine o_get (v := .int (MT_at q4)) C in_MT hP 33 mw_33 rfl 15 (by decide) k_7_129 rfl rfl d_MT_array_66 ?_
    obtain ⟨q9, hq9, h⟩ := o_bd_some h
    refine o_V (st1 := [.int q9]) (w1 := (m_cw ad ca ky ty u49_rt u49_Mm q4 u49_M1)) hE.1 C (e_MT_c_a hE hKy l (MT_at q4) q4 u49_Mm u49_M1 u49_rt hq9) hP (hDD _ _ _ _) hS hl.1 rfl mw_33 k_8_192 k_8_193 k_8_194 k_1_13 k_8_195 hv_MT_c rfl rfl ⟨(by dsimp only [rm_MT_array, rm_MT_c]; omega), (by dsimp only [rm_MT_array, rm_MT_c]; omega)⟩ rfl (Nat.le_of_ble_eq_true rfl) ⟨Nat.zero_le _, Nat.zero_le _⟩ rfl d_MT_array_69 (fun H locs hP hS => ?_)
    obtain ⟨q10, hq10, h⟩ := o_bd_some h
    refine o_S (st1 := [.int q10]) (w1 := (m_cw ad ca ky ty u49_rt u49_Mm q4 u49_M1)) hE.1 C (e_MT_begins hE hKy l q9 u49_Mm q4 u49_M1 u49_rt hq10) hP (hDD _ _ _ _) hS hl.1 k_9_18 k_9_19 k_1_13 k_9_20 hs_MT_begins rfl rfl ⟨(by dsimp only [rm_MT_array, rm_MT_begins]; omega), (by dsimp only [rm_MT_array, rm_MT_begins]; omega)⟩ rfl (Nat.le_of_ble_eq_true rfl) ⟨Nat.zero_le _, Nat.zero_le _⟩ rfl d_MT_array_72 (fun H locs hP hS => ?_)
    refine lv_if_eq (tgt := 87) hx hb d_MT_array_75 (by decide) (fun c12 => ?_) (fun c12 => ?_)
    · replace h := o_tt c12 h
      exact f_MT_array_j87_a hE hKy C hDD d rec hrec n u49_x2 u49_x3 u49_Mm u49_M1 u49_rt z.1 q4 h h0 h1 _ _ _ hP hS (lv_sub hl [0, 1, 2, 3] rfl)
    · replace h := o_ff c12 h
      cases h
      exact h1 (Nat.succ_ne_zero 0) _ _ _ hP hS (lv_sub hl [0] rfl)
set_option maxHeartbeats 4000000 in
set_option maxRecDepth 100000 in
theorem e_MT_array_a {E : (Nat → Prop) → State → Heap → Prop} {D : va_G} {ad kd sd vd xd : Nat → Nat} {ca : Nat → ClassId} {ky ty : Nat → Option Nat} (hE : o_EK E kd sd vd xd) (hKy : m_KY ky ty sd) (l : Launch) (n : Nat) (d : Nat) (rec : Int32 → Int32 → SMT → Option (Int32 × SMT)) (hrec : ∀ (x1 : Int32) (x2 : Int32) (a0 : SMT) (Mm : SMM) (M1 : SMT) (rt : Nat) (r : Int32 × SMT), rec x1 x2 a0 = some r → o_Cn E l D m_cls (m_tys ca) y_MT_value cc_MT_value (rm_MT_value d) [.ref (ad 33), .int x1, .int x2] (m_cw ad ca ky ty rt Mm a0 M1) (m_cw ad ca ky ty rt Mm r.2 M1) (some (.int r.1))) (x1 : Int32) (x2 : Int32) (a0 : SMT) (Mm : SMM) (M1 : SMT) (rt : Nat) {r : Int32 × SMT} (h : m_MT_array n rec x1 x2 a0 = some r) : o_Cn E l D m_cls (m_tys ca) y_MT_array cc_MT_array (rm_MT_array d) [.ref (ad 33), .int x1, .int x2] (m_cw ad ca ky ty rt Mm a0 M1) (m_cw ad ca ky ty rt Mm r.2 M1) (some (.int r.1)) := by
  refine o_Cn_of (by decide) (Nat.le_of_ble_eq_true rfl) ?_
  intro p e s m below meth c A ls C hD hP hS hl
  have hDD : ∀ (rt : Nat) (Mm : SMM) (M0 : SMT) (M1 : SMT), va_D A (m_cw ad ca ky ty rt Mm M0 M1) := fun _ _ _ _ => o_D_map hD rfl
  have hl : lv_has ls 6 [(0, .ref (ad 33)), (1, .int x1), (2, .int x2)] := hl
  unfold m_MT_array at h
  have C0 := C
  obtain ⟨hx, hb, -, -, -, hown, hts, hK, -, -⟩ := C0
  refine lv_aload_n hx hb d_MT_array_0 rfl (lv_at hl 0 rfl) ?_
  refine lv_iload_n hx hb d_MT_array_1 rfl (lv_at hl 1 rfl) ?_
  refine lv_iconst (v := (5:Int32)) hx hb d_MT_array_2 (by decide) ?_
  obtain ⟨q1, hq1, h⟩ := o_bd_some h
  refine o_V (st1 := [.int q1.1]) (w1 := (m_cw ad ca ky ty rt Mm q1.2 M1)) hE.1 C (e_MT_fresh_a hE hKy l x1 (5:Int32) a0 Mm M1 rt hq1) hP (hDD _ _ _ _) hS hl.1 rfl mw_33 k_8_212 k_8_213 k_8_214 k_1_13 k_8_215 hv_MT_fresh rfl rfl ⟨(by dsimp only [rm_MT_array, rm_MT_fresh]; omega), (by dsimp only [rm_MT_array, rm_MT_fresh]; omega)⟩ rfl (Nat.le_of_ble_eq_true rfl) ⟨Nat.zero_le _, Nat.zero_le _⟩ rfl d_MT_array_3 (fun H locs hP hS => ?_)
  refine lv_istore_n (lv' := [(3, .int q1.1), (0, .ref (ad 33)), (1, .int x1), (2, .int x2)]) hx hb d_MT_array_6 rfl hl (by decide) rfl (fun ls hl => ?_)
  refine lv_iconst (v := (-1:Int32)) hx hb d_MT_array_7 (by decide) ?_
  refine lv_istore (lv' := [(4, .int (-1:Int32)), (3, .int q1.1), (0, .ref (ad 33)), (1, .int x1), (2, .int x2)]) hx hb d_MT_array_8 hl (by decide) rfl (fun ls hl => ?_)
  refine lv_aload_n hx hb d_MT_array_10 rfl (lv_at hl 2 rfl) ?_
  refine lv_dup hx hb d_MT_array_11 rfl ?_
  refine o_get (v := .int (MT_at q1.2)) C in_MT hP 33 mw_33 rfl 15 (by decide) k_7_129 rfl rfl d_MT_array_12 ?_
  refine lv_iconst (v := (1:Int32)) hx hb d_MT_array_15 (by decide) ?_
  refine lv_iadd hx hb d_MT_array_16 ?_
  refine o_put (v := .int ((MT_at q1.2) + (1:Int32))) (ty := .int) (w1 := (m_cw ad ca ky ty rt Mm (MT_mk (MT_text q1.2) (MT_kind q1.2) (MT_place q1.2) (MT_many q1.2) (MT_parent q1.2) (MT_power q1.2) (MT_first q1.2) (MT_next q1.2) (MT_name q1.2) (MT_from q1.2) (MT_characters q1.2) (MT_digits q1.2) (MT_minus q1.2) (MT_values q1.2) (MT_letters q1.2) ((MT_at q1.2) + (1:Int32)) (MT_wrong q1.2) (MT_used q1.2) (MT_written q1.2) (MT_left q1.2)) M1)) C in_MT t_MT t_MT_ok n_MT hP (hDD _ _ _ _) hS 33 mw_33 rfl 15 (by decide) k_7_129 rfl rfl (by decide +kernel) rfl rfl (Nat.le_of_ble_eq_true rfl) rfl d_MT_array_17 (fun H locs hP hS => ?_)
  refine lv_aload_n hx hb d_MT_array_20 rfl (lv_at hl 2 rfl) ?_
  obtain ⟨q2, hq2, h⟩ := o_bd_some h
  refine o_V (st1 := []) (w1 := (m_cw ad ca ky ty rt Mm q2 M1)) hE.1 C (e_MT_blanks_a hE hKy l n (MT_mk (MT_text q1.2) (MT_kind q1.2) (MT_place q1.2) (MT_many q1.2) (MT_parent q1.2) (MT_power q1.2) (MT_first q1.2) (MT_next q1.2) (MT_name q1.2) (MT_from q1.2) (MT_characters q1.2) (MT_digits q1.2) (MT_minus q1.2) (MT_values q1.2) (MT_letters q1.2) ((MT_at q1.2) + (1:Int32)) (MT_wrong q1.2) (MT_used q1.2) (MT_written q1.2) (MT_left q1.2)) Mm M1 rt hq2) hP (hDD _ _ _ _) hS hl.1 rfl mw_33 k_8_188 k_8_189 k_8_190 k_1_13 k_8_191 hv_MT_blanks rfl rfl ⟨(by dsimp only [rm_MT_array, rm_MT_blanks]; omega), (by dsimp only [rm_MT_array, rm_MT_blanks]; omega)⟩ rfl (Nat.le_of_ble_eq_true rfl) ⟨Nat.zero_le _, Nat.zero_le _⟩ rfl d_MT_array_21 (fun H locs hP hS => ?_)
  refine lv_aload_n hx hb d_MT_array_24 rfl (lv_at hl 2 rfl) ?_
  refine lv_aload_n hx hb d_MT_array_25 rfl (lv_at hl 2 rfl) ?_
  refine o_get (v := .int (MT_at q2)) C in_MT hP 33 mw_33 rfl 15 (by decide) k_7_129 rfl rfl d_MT_array_26 ?_
  obtain ⟨q3, hq3, h⟩ := o_bd_some h
  refine o_V (st1 := [.int q3]) (w1 := (m_cw ad ca ky ty rt Mm q2 M1)) hE.1 C (e_MT_c_a hE hKy l (MT_at q2) q2 Mm M1 rt hq3) hP (hDD _ _ _ _) hS hl.1 rfl mw_33 k_8_192 k_8_193 k_8_194 k_1_13 k_8_195 hv_MT_c rfl rfl ⟨(by dsimp only [rm_MT_array, rm_MT_c]; omega), (by dsimp only [rm_MT_array, rm_MT_c]; omega)⟩ rfl (Nat.le_of_ble_eq_true rfl) ⟨Nat.zero_le _, Nat.zero_le _⟩ rfl d_MT_array_29 (fun H locs hP hS => ?_)
  refine lv_bipush (v := (93:Int32)) hx hb d_MT_array_32 (by decide) ?_
  refine lv_icmp_ne (tgt := 49) hx hb d_MT_array_34 (by decide) (fun c1 => ?_) (fun c1 => ?_)
  · replace h := o_ff c1 h
    obtain ⟨q11, hq11, h⟩ := o_bd_some h
    refine o_sim2 (AH := fun zz => o_At p l e (rm_MT_array d) s m _ below meth c _ m_cls D A 6 49 [] (m_cw ad ca ky ty rt Mm zz.2 M1) [(0, .ref (ad 33)), (2, .int x2), (3, .int q1.1), (4, .int zz.1)]) (AX := fun qq => if qq.1 = 1 then o_At p l e (rm_MT_array d) s m _ below meth c _ m_cls D A 6 78 [] (m_cw ad ca ky ty rt Mm qq.2.2 M1) [(0, .ref (ad 33))] else if qq.1 = 2 then o_At p l e (rm_MT_array d) s m _ below meth c _ m_cls D A 6 104 [] (m_cw ad ca ky ty rt Mm qq.2.2 M1) [] else if qq.1 = 3 then o_At p l e (rm_MT_array d) s m _ below meth c _ m_cls D A 6 162 [] (m_cw ad ca ky ty rt Mm qq.2.2 M1) [(0, .ref (ad 33))] else o_At p l e (rm_MT_array d) s m _ below meth c _ m_cls D A 6 187 [] (m_cw ad ca ky ty rt Mm qq.2.2 M1) [(0, .ref (ad 33))]) (fun zz qq h h0 h1 => f_MT_array_b49_a hE hKy C hDD d rec hrec n x2 q1.1 Mm M1 rt zz qq h h0 h1) n _ q11 hq11 ?_ _ _ _ hP hS (lv_sub hl [2, 4, 1, 0] rfl)
    by_cases c15 : q11.1 = 1
    · replace h := o_tt c15 h
      refine o_ip c15 ?_
      intro H locs ls hP hS hl
      refine lv_aload_n hx hb d_MT_array_78 rfl (lv_at hl 0 rfl) ?_
      refine lv_aload_n hx hb d_MT_array_79 rfl (lv_at hl 0 rfl) ?_
      refine o_get (v := .int (MT_at q11.2.2)) C in_MT hP 33 mw_33 rfl 15 (by decide) k_7_129 rfl rfl d_MT_array_80 ?_
      obtain ⟨q12, hq12, h⟩ := o_bd_some h
      refine o_V (st1 := [.int q12.1]) (w1 := (m_cw ad ca ky ty rt Mm q12.2 M1)) hE.1 C (e_MT_bad_a hE hKy l (MT_at q11.2.2) q11.2.2 Mm M1 rt hq12) hP (hDD _ _ _ _) hS hl.1 rfl mw_33 k_8_203 k_8_204 k_8_205 k_1_13 k_8_206 hv_MT_bad rfl rfl ⟨(by dsimp only [rm_MT_array, rm_MT_bad]; omega), (by dsimp only [rm_MT_array, rm_MT_bad]; omega)⟩ rfl (Nat.le_of_ble_eq_true rfl) ⟨Nat.zero_le _, Nat.zero_le _⟩ rfl d_MT_array_83 (fun H locs hP hS => ?_)
      obtain ⟨g13, h⟩ := o_gd_some h
      cases h
      exact o_rz C (o_zb_nar g13) hP hS d_MT_array_86
    replace h := o_ff c15 h
    refine o_in_ c15 ?_
    by_cases c16 : q11.1 = 2
    · replace h := o_tt c16 h
      refine o_ip c16 ?_
      intro H locs ls hP hS hl
      refine lv_iconst (v := (0:Int32)) hx hb d_MT_array_104 (by decide) ?_
      cases h
      exact o_rz (v := (0:Int32)) C o_nar0 hP hS d_MT_array_105
    replace h := o_ff c16 h
    refine o_in_ c16 ?_
    by_cases c17 : q11.1 = 3
    · replace h := o_tt c17 h
      refine o_ip c17 ?_
      intro H locs ls hP hS hl
      refine lv_aload_n hx hb d_MT_array_162 rfl (lv_at hl 0 rfl) ?_
      refine lv_dup hx hb d_MT_array_163 rfl ?_
      refine o_get (v := .int (MT_at q11.2.2)) C in_MT hP 33 mw_33 rfl 15 (by decide) k_7_129 rfl rfl d_MT_array_164 ?_
      refine lv_iconst (v := (1:Int32)) hx hb d_MT_array_167 (by decide) ?_
      refine lv_iadd hx hb d_MT_array_168 ?_
      refine o_put (v := .int ((MT_at q11.2.2) + (1:Int32))) (ty := .int) (w1 := (m_cw ad ca ky ty rt Mm (MT_mk (MT_text q11.2.2) (MT_kind q11.2.2) (MT_place q11.2.2) (MT_many q11.2.2) (MT_parent q11.2.2) (MT_power q11.2.2) (MT_first q11.2.2) (MT_next q11.2.2) (MT_name q11.2.2) (MT_from q11.2.2) (MT_characters q11.2.2) (MT_digits q11.2.2) (MT_minus q11.2.2) (MT_values q11.2.2) (MT_letters q11.2.2) ((MT_at q11.2.2) + (1:Int32)) (MT_wrong q11.2.2) (MT_used q11.2.2) (MT_written q11.2.2) (MT_left q11.2.2)) M1)) C in_MT t_MT t_MT_ok n_MT hP (hDD _ _ _ _) hS 33 mw_33 rfl 15 (by decide) k_7_129 rfl rfl (by decide +kernel) rfl rfl (Nat.le_of_ble_eq_true rfl) rfl d_MT_array_169 (fun H locs hP hS => ?_)
      refine lv_iconst (v := (1:Int32)) hx hb d_MT_array_172 (by decide) ?_
      cases h
      exact o_rz (v := (1:Int32)) C o_nar1 hP hS d_MT_array_173
    replace h := o_ff c17 h
    refine o_in_ c17 ?_
    intro H locs ls hP hS hl
    refine lv_aload_n hx hb d_MT_array_187 rfl (lv_at hl 0 rfl) ?_
    refine lv_aload_n hx hb d_MT_array_188 rfl (lv_at hl 0 rfl) ?_
    refine o_get (v := .int (MT_at q11.2.2)) C in_MT hP 33 mw_33 rfl 15 (by decide) k_7_129 rfl rfl d_MT_array_189 ?_
    obtain ⟨q13, hq13, h⟩ := o_bd_some h
    refine o_V (st1 := [.int q13.1]) (w1 := (m_cw ad ca ky ty rt Mm q13.2 M1)) hE.1 C (e_MT_bad_a hE hKy l (MT_at q11.2.2) q11.2.2 Mm M1 rt hq13) hP (hDD _ _ _ _) hS hl.1 rfl mw_33 k_8_203 k_8_204 k_8_205 k_1_13 k_8_206 hv_MT_bad rfl rfl ⟨(by dsimp only [rm_MT_array, rm_MT_bad]; omega), (by dsimp only [rm_MT_array, rm_MT_bad]; omega)⟩ rfl (Nat.le_of_ble_eq_true rfl) ⟨Nat.zero_le _, Nat.zero_le _⟩ rfl d_MT_array_192 (fun H locs hP hS => ?_)
    obtain ⟨g14, h⟩ := o_gd_some h
    cases h
    exact o_rz C (o_zb_nar g14) hP hS d_MT_array_195
  · replace h := o_tt c1 h
    refine lv_aload_n hx hb d_MT_array_37 rfl (lv_at hl 2 rfl) ?_
    refine lv_dup hx hb d_MT_array_38 rfl ?_
    refine o_get (v := .int (MT_at q2)) C in_MT hP 33 mw_33 rfl 15 (by decide) k_7_129 rfl rfl d_MT_array_39 ?_
    refine lv_iconst (v := (1:Int32)) hx hb d_MT_array_42 (by decide) ?_
    refine lv_iadd hx hb d_MT_array_43 ?_
    refine o_put (v := .int ((MT_at q2) + (1:Int32))) (ty := .int) (w1 := (m_cw ad ca ky ty rt Mm (MT_mk (MT_text q2) (MT_kind q2) (MT_place q2) (MT_many q2) (MT_parent q2) (MT_power q2) (MT_first q2) (MT_next q2) (MT_name q2) (MT_from q2) (MT_characters q2) (MT_digits q2) (MT_minus q2) (MT_values q2) (MT_letters q2) ((MT_at q2) + (1:Int32)) (MT_wrong q2) (MT_used q2) (MT_written q2) (MT_left q2)) M1)) C in_MT t_MT t_MT_ok n_MT hP (hDD _ _ _ _) hS 33 mw_33 rfl 15 (by decide) k_7_129 rfl rfl (by decide +kernel) rfl rfl (Nat.le_of_ble_eq_true rfl) rfl d_MT_array_44 (fun H locs hP hS => ?_)
    refine lv_iconst (v := (1:Int32)) hx hb d_MT_array_47 (by decide) ?_
    cases h
    exact o_rz (v := (1:Int32)) C o_nar1 hP hS d_MT_array_48
set_option maxHeartbeats 4000000 in
set_option maxRecDepth 100000 in
theorem f_MT_array_j131_b {E : (Nat → Prop) → State → Heap → Prop} {p : Program} {l : Launch} {e : Env} {s : State} {m : MethodId} {args : Array Value} {below : List Frame} {meth : Method} {c : Code} {D : va_G} {ad kd sd vd xd : Nat → Nat} {ca : Nat → ClassId} {A : Nat → Prop} {ky ty : Nat → Option Nat} {Q : State → Prop} (hE : o_EK E kd sd vd xd) (hKy : m_KY ky ty sd) (C : o_Cx E p s m args meth c D m_cls (m_tys ca) "SchemaJudgeModel$Text" b_MT_array (some .boolean) 6 cc_MT_array A) (hDD : ∀ (rt : Nat) (Mm : SMM) (M0 : SMT) (M1 : SMT), va_D A (m_cw ad ca ky ty rt Mm M0 M1)) (d : Nat) (rec : Int32 → Int32 → SMT → Option (Int32 × SMT)) (hrec : ∀ (x1 : Int32) (x2 : Int32) (a0 : SMT) (Mm : SMM) (M0 : SMT) (rt : Nat) (r : Int32 × SMT), rec x1 x2 a0 = some r → o_Cn E l D m_cls (m_tys ca) y_MT_value cc_MT_value (rm_MT_value d) [.ref (ad 48), .int x1, .int x2] (m_cw ad ca ky ty rt Mm M0 a0) (m_cw ad ca ky ty rt Mm M0 r.2) (some (.int r.1))) (n : Nat) (u49_x2 : Int32) (u49_x3 : Int32) (u49_Mm : SMM) (u49_M0 : SMT) (u49_rt : Nat) (x5 : Int32) (a0 : SMT) {q : Nat × Int32 × SMT} (h : m_MT_array_j131 n rec u49_x2 u49_x3 x5 a0 = some q) (h0 : q.1 = 0 → o_At p l e (rm_MT_array d) s m args below meth c Q m_cls D A 6 49 [] (m_cw ad ca ky ty u49_rt u49_Mm u49_M0 q.2.2) [(0, .ref (ad 48)), (2, .int u49_x2), (3, .int u49_x3), (4, .int q.2.1)]) (h1 : q.1 ≠ 0 → (if q.1 = 1 then o_At p l e (rm_MT_array d) s m args below meth c Q m_cls D A 6 78 [] (m_cw ad ca ky ty u49_rt u49_Mm u49_M0 q.2.2) [(0, .ref (ad 48))] else if q.1 = 2 then o_At p l e (rm_MT_array d) s m args below meth c Q m_cls D A 6 104 [] (m_cw ad ca ky ty u49_rt u49_Mm u49_M0 q.2.2) [] else if q.1 = 3 then o_At p l e (rm_MT_array d) s m args below meth c Q m_cls D A 6 162 [] (m_cw ad ca ky ty u49_rt u49_Mm u49_M0 q.2.2) [(0, .ref (ad 48))] else o_At p l e (rm_MT_array d) s m args below meth c Q m_cls D A 6 187 [] (m_cw ad ca ky ty u49_rt u49_Mm u49_M0 q.2.2) [(0, .ref (ad 48))])) : o_At p l e (rm_MT_array d) s m args below meth c Q m_cls D A 6 131 [] (m_cw ad ca ky ty u49_rt u49_Mm u49_M0 a0) [(0, .ref (ad 48)), (2, .int u49_x2), (3, .int u49_x3), (5, .int x5)] := by
  unfold m_MT_array_j131 at h
  intro H locs ls hP hS hl
  have C0 := C
  obtain ⟨hx, hb, -, -, -, hown, hts, hK, -, -⟩ := C0
  refine lv_iload hx hb d_MT_array_131 (lv_at hl 3 rfl) ?_
  refine lv_istore (lv' := [(4, .int x5), (0, .ref (ad 48)), (2, .int u49_x2), (3, .int u49_x3), (5, .int x5)]) hx hb d_MT_array_133 hl (by decide) rfl (fun ls hl => ?_)
  refine lv_aload_n hx hb d_MT_array_135 rfl (lv_at hl 1 rfl) ?_
  refine o_get (v := .ref (ad 52)) C in_MT hP 48 mw_48 rfl 3 (by decide) k_7_106 rfl rfl d_MT_array_136 ?_
  refine lv_iload_n hx hb d_MT_array_139 rfl (lv_at hl 3 rfl) ?_
  refine lv_dup2_11 hx hb d_MT_array_140 rfl rfl ?_
  obtain ⟨g7, h⟩ := o_gd_some h
  refine o_iald (f := (MT_many a0)) C hP 52 49 mw_52 rfl g7 d_MT_array_141 ?_
  refine lv_iconst (v := (1:Int32)) hx hb d_MT_array_142 (by decide) ?_
  refine lv_iadd hx hb d_MT_array_143 ?_
  obtain ⟨g8, h⟩ := o_gd_some h
  refine o_iast (f := (MT_many a0)) (w1 := (m_cw ad ca ky ty u49_rt u49_Mm u49_M0 (MT_mk (MT_text a0) (MT_kind a0) (MT_place a0) (upd (MT_many a0) u49_x3.toNatClampNeg (((MT_many a0) u49_x3.toNatClampNeg) + (1:Int32))) (MT_parent a0) (MT_power a0) (MT_first a0) (MT_next a0) (MT_name a0) (MT_from a0) (MT_characters a0) (MT_digits a0) (MT_minus a0) (MT_values a0) (MT_letters a0) (MT_at a0) (MT_wrong a0) (MT_used a0) (MT_written a0) (MT_left a0)))) C hP (hDD _ _ _ _) hS 52 49 mw_52 rfl g8 rfl d_MT_array_144 (fun H locs hP hS => ?_)
  refine lv_aload_n hx hb d_MT_array_145 rfl (lv_at hl 1 rfl) ?_
  obtain ⟨q6, hq6, h⟩ := o_bd_some h
  refine o_V (st1 := []) (w1 := (m_cw ad ca ky ty u49_rt u49_Mm u49_M0 q6)) hE.1 C (e_MT_blanks_b hE hKy l n (MT_mk (MT_text a0) (MT_kind a0) (MT_place a0) (upd (MT_many a0) u49_x3.toNatClampNeg (((MT_many a0) u49_x3.toNatClampNeg) + (1:Int32))) (MT_parent a0) (MT_power a0) (MT_first a0) (MT_next a0) (MT_name a0) (MT_from a0) (MT_characters a0) (MT_digits a0) (MT_minus a0) (MT_values a0) (MT_letters a0) (MT_at a0) (MT_wrong a0) (MT_used a0) (MT_written a0) (MT_left a0)) u49_Mm u49_M0 u49_rt hq6) hP (hDD _ _ _ _) hS hl.1 rfl mw_48 k_8_188 k_8_189 k_8_190 k_1_13 k_8_191 hv_MT_blanks rfl rfl ⟨(by dsimp only [rm_MT_array, rm_MT_blanks]; omega), (by dsimp only [rm_MT_array, rm_MT_blanks]; omega)⟩ rfl (Nat.le_of_ble_eq_true rfl) ⟨Nat.zero_le _, Nat.zero_le _⟩ rfl d_MT_array_146 (fun H locs hP hS => ?_)
  refine lv_aload_n hx hb d_MT_array_149 rfl (lv_at hl 1 rfl) ?_
  refine lv_aload_n hx hb d_MT_array_150 rfl (lv_at hl 1 rfl) ?_
  refine o_get (v := .int (MT_at q6)) C in_MT hP 48 mw_48 rfl 15 (by decide) k_7_129 rfl rfl d_MT_array_151 ?_
  obtain ⟨q7, hq7, h⟩ := o_bd_some h
  refine o_V (st1 := [.int q7]) (w1 := (m_cw ad ca ky ty u49_rt u49_Mm u49_M0 q6)) hE.1 C (e_MT_c_b hE hKy l (MT_at q6) q6 u49_Mm u49_M0 u49_rt hq7) hP (hDD _ _ _ _) hS hl.1 rfl mw_48 k_8_192 k_8_193 k_8_194 k_1_13 k_8_195 hv_MT_c rfl rfl ⟨(by dsimp only [rm_MT_array, rm_MT_c]; omega), (by dsimp only [rm_MT_array, rm_MT_c]; omega)⟩ rfl (Nat.le_of_ble_eq_true rfl) ⟨Nat.zero_le _, Nat.zero_le _⟩ rfl d_MT_array_154 (fun H locs hP hS => ?_)
  refine lv_bipush (v := (93:Int32)) hx hb d_MT_array_157 (by decide) ?_
  refine lv_icmp_ne (tgt := 174) hx hb d_MT_array_159 (by decide) (fun c9 => ?_) (fun c9 => ?_)
  · replace h := o_ff c9 h
    refine lv_aload_n hx hb d_MT_array_174 rfl (lv_at hl 1 rfl) ?_
    refine lv_aload_n hx hb d_MT_array_175 rfl (lv_at hl 1 rfl) ?_
    refine o_get (v := .int (MT_at q6)) C in_MT hP 48 mw_48 rfl 15 (by decide) k_7_129 rfl rfl d_MT_array_176 ?_
    obtain ⟨q8, hq8, h⟩ := o_bd_some h
    refine o_V (st1 := [.int q8]) (w1 := (m_cw ad ca ky ty u49_rt u49_Mm u49_M0 q6)) hE.1 C (e_MT_c_b hE hKy l (MT_at q6) q6 u49_Mm u49_M0 u49_rt hq8) hP (hDD _ _ _ _) hS hl.1 rfl mw_48 k_8_192 k_8_193 k_8_194 k_1_13 k_8_195 hv_MT_c rfl rfl ⟨(by dsimp only [rm_MT_array, rm_MT_c]; omega), (by dsimp only [rm_MT_array, rm_MT_c]; omega)⟩ rfl (Nat.le_of_ble_eq_true rfl) ⟨Nat.zero_le _, Nat.zero_le _⟩ rfl d_MT_array_179 (fun H locs hP hS => ?_)
    refine lv_bipush (v := (44:Int32)) hx hb d_MT_array_182 (by decide) ?_
    refine lv_icmp_eq (tgt := 196) hx hb d_MT_array_184 (by decide) (fun c10 => ?_) (fun c10 => ?_)
    · replace h := o_tt c10 h
      refine lv_aload_n hx hb d_MT_array_196 rfl (lv_at hl 1 rfl) ?_
      refine lv_dup hx hb d_MT_array_197 rfl ?_
      refine o_get (v := .int (MT_at q6)) C in_MT hP 48 mw_48 rfl 15 (by decide) k_7_129 rfl rfl d_MT_array_198 ?_
      refine lv_iconst (v := (1:Int32)) hx hb d_MT_array_201 (by decide) ?_
      refine lv_iadd hx hb d_MT_array_202 ?_
      refine o_put (v := .int ((MT_at q6) + (1:Int32))) (ty := .int) (w1 := (m_cw ad ca ky ty u49_rt u49_Mm u49_M0 (MT_mk (MT_text q6) (MT_kind q6) (MT_place q6) (MT_many q6) (MT_parent q6) (MT_power q6) (MT_first q6) (MT_next q6) (MT_name q6) (MT_from q6) (MT_characters q6) (MT_digits q6) (MT_minus q6) (MT_values q6) (MT_letters q6) ((MT_at q6) + (1:Int32)) (MT_wrong q6) (MT_used q6) (MT_written q6) (MT_left q6)))) C in_MT t_MT t_MT_ok n_MT hP (hDD _ _ _ _) hS 48 mw_48 rfl 15 (by decide) k_7_129 rfl rfl (by decide +kernel) rfl rfl (Nat.le_of_ble_eq_true rfl) rfl d_MT_array_203 (fun H locs hP hS => ?_)
      refine lv_goto (tgt := 49) hx hb d_MT_array_206 (by decide) ?_
      cases h
      exact h0 rfl _ _ _ hP hS (lv_sub hl [1, 2, 3, 0] rfl)
    · replace h := o_ff c10 h
      cases h
      exact h1 (Nat.succ_ne_zero 3) _ _ _ hP hS (lv_sub hl [1] rfl)
  · replace h := o_tt c9 h
    cases h
    exact h1 (Nat.succ_ne_zero 2) _ _ _ hP hS (lv_sub hl [1] rfl)
set_option maxHeartbeats 4000000 in
set_option maxRecDepth 100000 in
theorem f_MT_array_j87_b {E : (Nat → Prop) → State → Heap → Prop} {p : Program} {l : Launch} {e : Env} {s : State} {m : MethodId} {args : Array Value} {below : List Frame} {meth : Method} {c : Code} {D : va_G} {ad kd sd vd xd : Nat → Nat} {ca : Nat → ClassId} {A : Nat → Prop} {ky ty : Nat → Option Nat} {Q : State → Prop} (hE : o_EK E kd sd vd xd) (hKy : m_KY ky ty sd) (C : o_Cx E p s m args meth c D m_cls (m_tys ca) "SchemaJudgeModel$Text" b_MT_array (some .boolean) 6 cc_MT_array A) (hDD : ∀ (rt : Nat) (Mm : SMM) (M0 : SMT) (M1 : SMT), va_D A (m_cw ad ca ky ty rt Mm M0 M1)) (d : Nat) (rec : Int32 → Int32 → SMT → Option (Int32 × SMT)) (hrec : ∀ (x1 : Int32) (x2 : Int32) (a0 : SMT) (Mm : SMM) (M0 : SMT) (rt : Nat) (r : Int32 × SMT), rec x1 x2 a0 = some r → o_Cn E l D m_cls (m_tys ca) y_MT_value cc_MT_value (rm_MT_value d) [.ref (ad 48), .int x1, .int x2] (m_cw ad ca ky ty rt Mm M0 a0) (m_cw ad ca ky ty rt Mm M0 r.2) (some (.int r.1))) (n : Nat) (u49_x2 : Int32) (u49_x3 : Int32) (u49_Mm : SMM) (u49_M0 : SMT) (u49_rt : Nat) (x4 : Int32) (a0 : SMT) {q : Nat × Int32 × SMT} (h : m_MT_array_j87 n rec u49_x2 u49_x3 x4 a0 = some q) (h0 : q.1 = 0 → o_At p l e (rm_MT_array d) s m args below meth c Q m_cls D A 6 49 [] (m_cw ad ca ky ty u49_rt u49_Mm u49_M0 q.2.2) [(0, .ref (ad 48)), (2, .int u49_x2), (3, .int u49_x3), (4, .int q.2.1)]) (h1 : q.1 ≠ 0 → (if q.1 = 1 then o_At p l e (rm_MT_array d) s m args below meth c Q m_cls D A 6 78 [] (m_cw ad ca ky ty u49_rt u49_Mm u49_M0 q.2.2) [(0, .ref (ad 48))] else if q.1 = 2 then o_At p l e (rm_MT_array d) s m args below meth c Q m_cls D A 6 104 [] (m_cw ad ca ky ty u49_rt u49_Mm u49_M0 q.2.2) [] else if q.1 = 3 then o_At p l e (rm_MT_array d) s m args below meth c Q m_cls D A 6 162 [] (m_cw ad ca ky ty u49_rt u49_Mm u49_M0 q.2.2) [(0, .ref (ad 48))] else o_At p l e (rm_MT_array d) s m args below meth c Q m_cls D A 6 187 [] (m_cw ad ca ky ty u49_rt u49_Mm u49_M0 q.2.2) [(0, .ref (ad 48))])) : o_At p l e (rm_MT_array d) s m args below meth c Q m_cls D A 6 87 [] (m_cw ad ca ky ty u49_rt u49_Mm u49_M0 a0) [(0, .ref (ad 48)), (2, .int u49_x2), (3, .int u49_x3), (4, .int x4)] := by
  unfold m_MT_array_j87 at h
  intro H locs ls hP hS hl
  have C0 := C
  obtain ⟨hx, hb, -, -, -, hown, hts, hK, -, -⟩ := C0
  refine lv_aload_n hx hb d_MT_array_87 rfl (lv_at hl 0 rfl) ?_
  refine o_get (v := .int (MT_values a0)) C in_MT hP 48 mw_48 rfl 13 (by decide) k_7_126 rfl rfl d_MT_array_88 ?_
  refine lv_topi (fun x5_91 ex5_91 => ?_)
  replace h := o_nm_at ex5_91 h
  refine lv_istore (lv' := [(5, .int x5_91), (0, .ref (ad 48)), (2, .int u49_x2), (3, .int u49_x3), (4, .int x4)]) hx hb d_MT_array_91 hl (by decide) rfl (fun ls hl => ?_)
  refine lv_aload_n hx hb d_MT_array_93 rfl (lv_at hl 1 rfl) ?_
  refine lv_iload_n hx hb d_MT_array_94 rfl (lv_at hl 3 rfl) ?_
  refine lv_iload_n hx hb d_MT_array_95 rfl (lv_at hl 2 rfl) ?_
  refine lv_iconst (v := (1:Int32)) hx hb d_MT_array_96 (by decide) ?_
  refine lv_iadd hx hb d_MT_array_97 ?_
  obtain ⟨q5, hq5, h⟩ := o_bd_some h
  refine o_V (st1 := [.int q5.1]) (w1 := (m_cw ad ca ky ty u49_rt u49_Mm u49_M0 q5.2)) hE.1 C (hrec u49_x3 (u49_x2 + (1:Int32)) a0 u49_Mm u49_M0 u49_rt _ hq5) hP (hDD _ _ _ _) hS hl.1 rfl mw_48 k_8_196 k_8_197 k_8_198 k_1_13 k_8_199 hv_MT_value rfl rfl ⟨(by dsimp only [rm_MT_array, rm_MT_value]; omega), (by dsimp only [rm_MT_array, rm_MT_value]; omega)⟩ rfl (Nat.le_of_ble_eq_true rfl) ⟨Nat.zero_le _, Nat.zero_le _⟩ rfl d_MT_array_98 (fun H locs hP hS => ?_)
  refine lv_if_ne (tgt := 106) hx hb d_MT_array_101 (by decide) (fun c4 => ?_) (fun c4 => ?_)
  · replace h := o_ff c4 h
    refine lv_iload hx hb d_MT_array_106 (lv_at hl 4 rfl) ?_
    refine lv_if_ge (tgt := 122) hx hb d_MT_array_108 (by decide) (fun c5 => ?_) (fun c5 => ?_)
    · replace h := o_tt c5 h
      refine lv_aload_n hx hb d_MT_array_122 rfl (lv_at hl 1 rfl) ?_
      refine o_get (v := .ref (ad 56)) C in_MT hP 48 mw_48 rfl 7 (by decide) k_7_114 rfl rfl d_MT_array_123 ?_
      refine lv_iload hx hb d_MT_array_126 (lv_at hl 4 rfl) ?_
      refine lv_iload hx hb d_MT_array_128 (lv_at hl 0 rfl) ?_
      obtain ⟨g6, h⟩ := o_gd_some h
      refine o_iast (f := (MT_next q5.2)) (w1 := (m_cw ad ca ky ty u49_rt u49_Mm u49_M0 (MT_mk (MT_text q5.2) (MT_kind q5.2) (MT_place q5.2) (MT_many q5.2) (MT_parent q5.2) (MT_power q5.2) (MT_first q5.2) (upd (MT_next q5.2) x4.toNatClampNeg x5_91) (MT_name q5.2) (MT_from q5.2) (MT_characters q5.2) (MT_digits q5.2) (MT_minus q5.2) (MT_values q5.2) (MT_letters q5.2) (MT_at q5.2) (MT_wrong q5.2) (MT_used q5.2) (MT_written q5.2) (MT_left q5.2)))) C hP (hDD _ _ _ _) hS 56 53 mw_56 rfl g6 rfl d_MT_array_130 (fun H locs hP hS => ?_)
      exact f_MT_array_j131_b hE hKy C hDD d rec hrec n u49_x2 u49_x3 u49_Mm u49_M0 u49_rt x5_91 (MT_mk (MT_text q5.2) (MT_kind q5.2) (MT_place q5.2) (MT_many q5.2) (MT_parent q5.2) (MT_power q5.2) (MT_first q5.2) (upd (MT_next q5.2) x4.toNatClampNeg x5_91) (MT_name q5.2) (MT_from q5.2) (MT_characters q5.2) (MT_digits q5.2) (MT_minus q5.2) (MT_values q5.2) (MT_letters q5.2) (MT_at q5.2) (MT_wrong q5.2) (MT_used q5.2) (MT_written q5.2) (MT_left q5.2)) h h0 h1 _ _ _ hP hS (lv_sub hl [1, 2, 3, 0] rfl)
    · replace h := o_ff c5 h
      refine lv_aload_n hx hb d_MT_array_111 rfl (lv_at hl 1 rfl) ?_
      refine o_get (v := .ref (ad 55)) C in_MT hP 48 mw_48 rfl 6 (by decide) k_7_112 rfl rfl d_MT_array_112 ?_
      refine lv_iload_n hx hb d_MT_array_115 rfl (lv_at hl 3 rfl) ?_
      refine lv_iload hx hb d_MT_array_116 (lv_at hl 0 rfl) ?_
      obtain ⟨g11, h⟩ := o_gd_some h
      refine o_iast (f := (MT_first q5.2)) (w1 := (m_cw ad ca ky ty u49_rt u49_Mm u49_M0 (MT_mk (MT_text q5.2) (MT_kind q5.2) (MT_place q5.2) (MT_many q5.2) (MT_parent q5.2) (MT_power q5.2) (upd (MT_first q5.2) u49_x3.toNatClampNeg x5_91) (MT_next q5.2) (MT_name q5.2) (MT_from q5.2) (MT_characters q5.2) (MT_digits q5.2) (MT_minus q5.2) (MT_values q5.2) (MT_letters q5.2) (MT_at q5.2) (MT_wrong q5.2) (MT_used q5.2) (MT_written q5.2) (MT_left q5.2)))) C hP (hDD _ _ _ _) hS 55 52 mw_55 rfl g11 rfl d_MT_array_118 (fun H locs hP hS => ?_)
      refine lv_goto (tgt := 131) hx hb d_MT_array_119 (by decide) ?_
      exact f_MT_array_j131_b hE hKy C hDD d rec hrec n u49_x2 u49_x3 u49_Mm u49_M0 u49_rt x5_91 (MT_mk (MT_text q5.2) (MT_kind q5.2) (MT_place q5.2) (MT_many q5.2) (MT_parent q5.2) (MT_power q5.2) (upd (MT_first q5.2) u49_x3.toNatClampNeg x5_91) (MT_next q5.2) (MT_name q5.2) (MT_from q5.2) (MT_characters q5.2) (MT_digits q5.2) (MT_minus q5.2) (MT_values q5.2) (MT_letters q5.2) (MT_at q5.2) (MT_wrong q5.2) (MT_used q5.2) (MT_written q5.2) (MT_left q5.2)) h h0 h1 _ _ _ hP hS (lv_sub hl [1, 2, 3, 0] rfl)
  · replace h := o_tt c4 h
    cases h
    exact h1 (Nat.succ_ne_zero 1) _ _ _ hP hS (lv_sub hl [] rfl)
set_option maxHeartbeats 4000000 in
set_option maxRecDepth 100000 in
theorem f_MT_array_b49_b {E : (Nat → Prop) → State → Heap → Prop} {p : Program} {l : Launch} {e : Env} {s : State} {m : MethodId} {args : Array Value} {below : List Frame} {meth : Method} {c : Code} {D : va_G} {ad kd sd vd xd : Nat → Nat} {ca : Nat → ClassId} {A : Nat → Prop} {ky ty : Nat → Option Nat} {Q : State → Prop} (hE : o_EK E kd sd vd xd) (hKy : m_KY ky ty sd) (C : o_Cx E p s m args meth c D m_cls (m_tys ca) "SchemaJudgeModel$Text" b_MT_array (some .boolean) 6 cc_MT_array A) (hDD : ∀ (rt : Nat) (Mm : SMM) (M0 : SMT) (M1 : SMT), va_D A (m_cw ad ca ky ty rt Mm M0 M1)) (d : Nat) (rec : Int32 → Int32 → SMT → Option (Int32 × SMT)) (hrec : ∀ (x1 : Int32) (x2 : Int32) (a0 : SMT) (Mm : SMM) (M0 : SMT) (rt : Nat) (r : Int32 × SMT), rec x1 x2 a0 = some r → o_Cn E l D m_cls (m_tys ca) y_MT_value cc_MT_value (rm_MT_value d) [.ref (ad 48), .int x1, .int x2] (m_cw ad ca ky ty rt Mm M0 a0) (m_cw ad ca ky ty rt Mm M0 r.2) (some (.int r.1))) (n : Nat) (u49_x2 : Int32) (u49_x3 : Int32) (u49_Mm : SMM) (u49_M0 : SMT) (u49_rt : Nat) (z : Int32 × SMT) (q : Nat × Int32 × SMT) (h : m_MT_array_b49 n rec u49_x2 u49_x3 z = some q) (h0 : q.1 = 0 → o_At p l e (rm_MT_array d) s m args below meth c Q m_cls D A 6 49 [] (m_cw ad ca ky ty u49_rt u49_Mm u49_M0 q.2.2) [(0, .ref (ad 48)), (2, .int u49_x2), (3, .int u49_x3), (4, .int q.2.1)]) (h1 : q.1 ≠ 0 → (if q.1 = 1 then o_At p l e (rm_MT_array d) s m args below meth c Q m_cls D A 6 78 [] (m_cw ad ca ky ty u49_rt u49_Mm u49_M0 q.2.2) [(0, .ref (ad 48))] else if q.1 = 2 then o_At p l e (rm_MT_array d) s m args below meth c Q m_cls D A 6 104 [] (m_cw ad ca ky ty u49_rt u49_Mm u49_M0 q.2.2) [] else if q.1 = 3 then o_At p l e (rm_MT_array d) s m args below meth c Q m_cls D A 6 162 [] (m_cw ad ca ky ty u49_rt u49_Mm u49_M0 q.2.2) [(0, .ref (ad 48))] else o_At p l e (rm_MT_array d) s m args below meth c Q m_cls D A 6 187 [] (m_cw ad ca ky ty u49_rt u49_Mm u49_M0 q.2.2) [(0, .ref (ad 48))])) : o_At p l e (rm_MT_array d) s m args below meth c Q m_cls D A 6 49 [] (m_cw ad ca ky ty u49_rt u49_Mm u49_M0 z.2) [(0, .ref (ad 48)), (2, .int u49_x2), (3, .int u49_x3), (4, .int z.1)] := by
  unfold m_MT_array_b49 at h
  intro H locs ls hP hS hl
  have C0 := C
  obtain ⟨hx, hb, -, -, -, hown, hts, hK, -, -⟩ := C0
  refine lv_aload_n hx hb d_MT_array_49 rfl (lv_at hl 0 rfl) ?_
  obtain ⟨q4, hq4, h⟩ := o_bd_some h
  refine o_V (st1 := []) (w1 := (m_cw ad ca ky ty u49_rt u49_Mm u49_M0 q4)) hE.1 C (e_MT_blanks_b hE hKy l n z.2 u49_Mm u49_M0 u49_rt hq4) hP (hDD _ _ _ _) hS hl.1 rfl mw_48 k_8_188 k_8_189 k_8_190 k_1_13 k_8_191 hv_MT_blanks rfl rfl ⟨(by dsimp only [rm_MT_array, rm_MT_blanks]; omega), (by dsimp only [rm_MT_array, rm_MT_blanks]; omega)⟩ rfl (Nat.le_of_ble_eq_true rfl) ⟨Nat.zero_le _, Nat.zero_le _⟩ rfl d_MT_array_50 (fun H locs hP hS => ?_)
  refine lv_aload_n hx hb d_MT_array_53 rfl (lv_at hl 0 rfl) ?_
  refine o_get (v := .ref (ad 52)) C in_MT hP 48 mw_48 rfl 3 (by decide) k_7_106 rfl rfl d_MT_array_54 ?_
  refine lv_iload_n hx hb d_MT_array_57 rfl (lv_at hl 2 rfl) ?_
  obtain ⟨g2, h⟩ := o_gd_some h
  refine o_iald (f := (MT_many q4)) C hP 52 49 mw_52 rfl g2 d_MT_array_58 ?_
  refine lv_bipush (v := (60:Int32)) hx hb d_MT_array_59 (by decide) ?_
  refine lv_icmp_ne (tgt := 87) hx hb d_MT_array_61 (by decide) (fun c3 => ?_) (fun c3 => ?_)
  · replace h := o_ff c3 h
    exact f_MT_array_j87_b hE hKy C hDD d rec hrec n u49_x2 u49_x3 u49_Mm u49_M0 u49_rt z.1 q4 h h0 h1 _ _ _ hP hS (lv_sub hl [0, 1, 2, 3] rfl)
  · replace h := o_tt c3 h
    refine lv_aload_n hx hb d_MT_array_64 rfl (lv_at hl 0 rfl) ?_
    refine lv_aload_n hx hb d_MT_array_65 rfl (lv_at hl 0 rfl) ?_
    refine o_get (v := .int (MT_at q4)) C in_MT hP 48 mw_48 rfl 15 (by decide) k_7_129 rfl rfl d_MT_array_66 ?_
    obtain ⟨q9, hq9, h⟩ := o_bd_some h
    refine o_V (st1 := [.int q9]) (w1 := (m_cw ad ca ky ty u49_rt u49_Mm u49_M0 q4)) hE.1 C (e_MT_c_b hE hKy l (MT_at q4) q4 u49_Mm u49_M0 u49_rt hq9) hP (hDD _ _ _ _) hS hl.1 rfl mw_48 k_8_192 k_8_193 k_8_194 k_1_13 k_8_195 hv_MT_c rfl rfl ⟨(by dsimp only [rm_MT_array, rm_MT_c]; omega), (by dsimp only [rm_MT_array, rm_MT_c]; omega)⟩ rfl (Nat.le_of_ble_eq_true rfl) ⟨Nat.zero_le _, Nat.zero_le _⟩ rfl d_MT_array_69 (fun H locs hP hS => ?_)
    obtain ⟨q10, hq10, h⟩ := o_bd_some h
    refine o_S (st1 := [.int q10]) (w1 := (m_cw ad ca ky ty u49_rt u49_Mm u49_M0 q4)) hE.1 C (e_MT_begins hE hKy l q9 u49_Mm u49_M0 q4 u49_rt hq10) hP (hDD _ _ _ _) hS hl.1 k_9_18 k_9_19 k_1_13 k_9_20 hs_MT_begins rfl rfl ⟨(by dsimp only [rm_MT_array, rm_MT_begins]; omega), (by dsimp only [rm_MT_array, rm_MT_begins]; omega)⟩ rfl (Nat.le_of_ble_eq_true rfl) ⟨Nat.zero_le _, Nat.zero_le _⟩ rfl d_MT_array_72 (fun H locs hP hS => ?_)
    refine lv_if_eq (tgt := 87) hx hb d_MT_array_75 (by decide) (fun c12 => ?_) (fun c12 => ?_)
    · replace h := o_tt c12 h
      exact f_MT_array_j87_b hE hKy C hDD d rec hrec n u49_x2 u49_x3 u49_Mm u49_M0 u49_rt z.1 q4 h h0 h1 _ _ _ hP hS (lv_sub hl [0, 1, 2, 3] rfl)
    · replace h := o_ff c12 h
      cases h
      exact h1 (Nat.succ_ne_zero 0) _ _ _ hP hS (lv_sub hl [0] rfl)
set_option maxHeartbeats 4000000 in
set_option maxRecDepth 100000 in
theorem e_MT_array_b {E : (Nat → Prop) → State → Heap → Prop} {D : va_G} {ad kd sd vd xd : Nat → Nat} {ca : Nat → ClassId} {ky ty : Nat → Option Nat} (hE : o_EK E kd sd vd xd) (hKy : m_KY ky ty sd) (l : Launch) (n : Nat) (d : Nat) (rec : Int32 → Int32 → SMT → Option (Int32 × SMT)) (hrec : ∀ (x1 : Int32) (x2 : Int32) (a0 : SMT) (Mm : SMM) (M0 : SMT) (rt : Nat) (r : Int32 × SMT), rec x1 x2 a0 = some r → o_Cn E l D m_cls (m_tys ca) y_MT_value cc_MT_value (rm_MT_value d) [.ref (ad 48), .int x1, .int x2] (m_cw ad ca ky ty rt Mm M0 a0) (m_cw ad ca ky ty rt Mm M0 r.2) (some (.int r.1))) (x1 : Int32) (x2 : Int32) (a0 : SMT) (Mm : SMM) (M0 : SMT) (rt : Nat) {r : Int32 × SMT} (h : m_MT_array n rec x1 x2 a0 = some r) : o_Cn E l D m_cls (m_tys ca) y_MT_array cc_MT_array (rm_MT_array d) [.ref (ad 48), .int x1, .int x2] (m_cw ad ca ky ty rt Mm M0 a0) (m_cw ad ca ky ty rt Mm M0 r.2) (some (.int r.1)) := by
  refine o_Cn_of (by decide) (Nat.le_of_ble_eq_true rfl) ?_
  intro p e s m below meth c A ls C hD hP hS hl
  have hDD : ∀ (rt : Nat) (Mm : SMM) (M0 : SMT) (M1 : SMT), va_D A (m_cw ad ca ky ty rt Mm M0 M1) := fun _ _ _ _ => o_D_map hD rfl
  have hl : lv_has ls 6 [(0, .ref (ad 48)), (1, .int x1), (2, .int x2)] := hl
  unfold m_MT_array at h
  have C0 := C
  obtain ⟨hx, hb, -, -, -, hown, hts, hK, -, -⟩ := C0
  refine lv_aload_n hx hb d_MT_array_0 rfl (lv_at hl 0 rfl) ?_
  refine lv_iload_n hx hb d_MT_array_1 rfl (lv_at hl 1 rfl) ?_
  refine lv_iconst (v := (5:Int32)) hx hb d_MT_array_2 (by decide) ?_
  obtain ⟨q1, hq1, h⟩ := o_bd_some h
  refine o_V (st1 := [.int q1.1]) (w1 := (m_cw ad ca ky ty rt Mm M0 q1.2)) hE.1 C (e_MT_fresh_b hE hKy l x1 (5:Int32) a0 Mm M0 rt hq1) hP (hDD _ _ _ _) hS hl.1 rfl mw_48 k_8_212 k_8_213 k_8_214 k_1_13 k_8_215 hv_MT_fresh rfl rfl ⟨(by dsimp only [rm_MT_array, rm_MT_fresh]; omega), (by dsimp only [rm_MT_array, rm_MT_fresh]; omega)⟩ rfl (Nat.le_of_ble_eq_true rfl) ⟨Nat.zero_le _, Nat.zero_le _⟩ rfl d_MT_array_3 (fun H locs hP hS => ?_)
  refine lv_istore_n (lv' := [(3, .int q1.1), (0, .ref (ad 48)), (1, .int x1), (2, .int x2)]) hx hb d_MT_array_6 rfl hl (by decide) rfl (fun ls hl => ?_)
  refine lv_iconst (v := (-1:Int32)) hx hb d_MT_array_7 (by decide) ?_
  refine lv_istore (lv' := [(4, .int (-1:Int32)), (3, .int q1.1), (0, .ref (ad 48)), (1, .int x1), (2, .int x2)]) hx hb d_MT_array_8 hl (by decide) rfl (fun ls hl => ?_)
  refine lv_aload_n hx hb d_MT_array_10 rfl (lv_at hl 2 rfl) ?_
  refine lv_dup hx hb d_MT_array_11 rfl ?_
  refine o_get (v := .int (MT_at q1.2)) C in_MT hP 48 mw_48 rfl 15 (by decide) k_7_129 rfl rfl d_MT_array_12 ?_
  refine lv_iconst (v := (1:Int32)) hx hb d_MT_array_15 (by decide) ?_
  refine lv_iadd hx hb d_MT_array_16 ?_
  refine o_put (v := .int ((MT_at q1.2) + (1:Int32))) (ty := .int) (w1 := (m_cw ad ca ky ty rt Mm M0 (MT_mk (MT_text q1.2) (MT_kind q1.2) (MT_place q1.2) (MT_many q1.2) (MT_parent q1.2) (MT_power q1.2) (MT_first q1.2) (MT_next q1.2) (MT_name q1.2) (MT_from q1.2) (MT_characters q1.2) (MT_digits q1.2) (MT_minus q1.2) (MT_values q1.2) (MT_letters q1.2) ((MT_at q1.2) + (1:Int32)) (MT_wrong q1.2) (MT_used q1.2) (MT_written q1.2) (MT_left q1.2)))) C in_MT t_MT t_MT_ok n_MT hP (hDD _ _ _ _) hS 48 mw_48 rfl 15 (by decide) k_7_129 rfl rfl (by decide +kernel) rfl rfl (Nat.le_of_ble_eq_true rfl) rfl d_MT_array_17 (fun H locs hP hS => ?_)
  refine lv_aload_n hx hb d_MT_array_20 rfl (lv_at hl 2 rfl) ?_
  obtain ⟨q2, hq2, h⟩ := o_bd_some h
  refine o_V (st1 := []) (w1 := (m_cw ad ca ky ty rt Mm M0 q2)) hE.1 C (e_MT_blanks_b hE hKy l n (MT_mk (MT_text q1.2) (MT_kind q1.2) (MT_place q1.2) (MT_many q1.2) (MT_parent q1.2) (MT_power q1.2) (MT_first q1.2) (MT_next q1.2) (MT_name q1.2) (MT_from q1.2) (MT_characters q1.2) (MT_digits q1.2) (MT_minus q1.2) (MT_values q1.2) (MT_letters q1.2) ((MT_at q1.2) + (1:Int32)) (MT_wrong q1.2) (MT_used q1.2) (MT_written q1.2) (MT_left q1.2)) Mm M0 rt hq2) hP (hDD _ _ _ _) hS hl.1 rfl mw_48 k_8_188 k_8_189 k_8_190 k_1_13 k_8_191 hv_MT_blanks rfl rfl ⟨(by dsimp only [rm_MT_array, rm_MT_blanks]; omega), (by dsimp only [rm_MT_array, rm_MT_blanks]; omega)⟩ rfl (Nat.le_of_ble_eq_true rfl) ⟨Nat.zero_le _, Nat.zero_le _⟩ rfl d_MT_array_21 (fun H locs hP hS => ?_)
  refine lv_aload_n hx hb d_MT_array_24 rfl (lv_at hl 2 rfl) ?_
  refine lv_aload_n hx hb d_MT_array_25 rfl (lv_at hl 2 rfl) ?_
  refine o_get (v := .int (MT_at q2)) C in_MT hP 48 mw_48 rfl 15 (by decide) k_7_129 rfl rfl d_MT_array_26 ?_
  obtain ⟨q3, hq3, h⟩ := o_bd_some h
  refine o_V (st1 := [.int q3]) (w1 := (m_cw ad ca ky ty rt Mm M0 q2)) hE.1 C (e_MT_c_b hE hKy l (MT_at q2) q2 Mm M0 rt hq3) hP (hDD _ _ _ _) hS hl.1 rfl mw_48 k_8_192 k_8_193 k_8_194 k_1_13 k_8_195 hv_MT_c rfl rfl ⟨(by dsimp only [rm_MT_array, rm_MT_c]; omega), (by dsimp only [rm_MT_array, rm_MT_c]; omega)⟩ rfl (Nat.le_of_ble_eq_true rfl) ⟨Nat.zero_le _, Nat.zero_le _⟩ rfl d_MT_array_29 (fun H locs hP hS => ?_)
  refine lv_bipush (v := (93:Int32)) hx hb d_MT_array_32 (by decide) ?_
  refine lv_icmp_ne (tgt := 49) hx hb d_MT_array_34 (by decide) (fun c1 => ?_) (fun c1 => ?_)
  · replace h := o_ff c1 h
    obtain ⟨q11, hq11, h⟩ := o_bd_some h
    refine o_sim2 (AH := fun zz => o_At p l e (rm_MT_array d) s m _ below meth c _ m_cls D A 6 49 [] (m_cw ad ca ky ty rt Mm M0 zz.2) [(0, .ref (ad 48)), (2, .int x2), (3, .int q1.1), (4, .int zz.1)]) (AX := fun qq => if qq.1 = 1 then o_At p l e (rm_MT_array d) s m _ below meth c _ m_cls D A 6 78 [] (m_cw ad ca ky ty rt Mm M0 qq.2.2) [(0, .ref (ad 48))] else if qq.1 = 2 then o_At p l e (rm_MT_array d) s m _ below meth c _ m_cls D A 6 104 [] (m_cw ad ca ky ty rt Mm M0 qq.2.2) [] else if qq.1 = 3 then o_At p l e (rm_MT_array d) s m _ below meth c _ m_cls D A 6 162 [] (m_cw ad ca ky ty rt Mm M0 qq.2.2) [(0, .ref (ad 48))] else o_At p l e (rm_MT_array d) s m _ below meth c _ m_cls D A 6 187 [] (m_cw ad ca ky ty rt Mm M0 qq.2.2) [(0, .ref (ad 48))]) (fun zz qq h h0 h1 => f_MT_array_b49_b hE hKy C hDD d rec hrec n x2 q1.1 Mm M0 rt zz qq h h0 h1) n _ q11 hq11 ?_ _ _ _ hP hS (lv_sub hl [2, 4, 1, 0] rfl)
    by_cases c15 : q11.1 = 1
    · replace h := o_tt c15 h
      refine o_ip c15 ?_
      intro H locs ls hP hS hl
      refine lv_aload_n hx hb d_MT_array_78 rfl (lv_at hl 0 rfl) ?_
      refine lv_aload_n hx hb d_MT_array_79 rfl (lv_at hl 0 rfl) ?_
      refine o_get (v := .int (MT_at q11.2.2)) C in_MT hP 48 mw_48 rfl 15 (by decide) k_7_129 rfl rfl d_MT_array_80 ?_
      obtain ⟨q12, hq12, h⟩ := o_bd_some h
      refine o_V (st1 := [.int q12.1]) (w1 := (m_cw ad ca ky ty rt Mm M0 q12.2)) hE.1 C (e_MT_bad_b hE hKy l (MT_at q11.2.2) q11.2.2 Mm M0 rt hq12) hP (hDD _ _ _ _) hS hl.1 rfl mw_48 k_8_203 k_8_204 k_8_205 k_1_13 k_8_206 hv_MT_bad rfl rfl ⟨(by dsimp only [rm_MT_array, rm_MT_bad]; omega), (by dsimp only [rm_MT_array, rm_MT_bad]; omega)⟩ rfl (Nat.le_of_ble_eq_true rfl) ⟨Nat.zero_le _, Nat.zero_le _⟩ rfl d_MT_array_83 (fun H locs hP hS => ?_)
      obtain ⟨g13, h⟩ := o_gd_some h
      cases h
      exact o_rz C (o_zb_nar g13) hP hS d_MT_array_86
    replace h := o_ff c15 h
    refine o_in_ c15 ?_
    by_cases c16 : q11.1 = 2
    · replace h := o_tt c16 h
      refine o_ip c16 ?_
      intro H locs ls hP hS hl
      refine lv_iconst (v := (0:Int32)) hx hb d_MT_array_104 (by decide) ?_
      cases h
      exact o_rz (v := (0:Int32)) C o_nar0 hP hS d_MT_array_105
    replace h := o_ff c16 h
    refine o_in_ c16 ?_
    by_cases c17 : q11.1 = 3
    · replace h := o_tt c17 h
      refine o_ip c17 ?_
      intro H locs ls hP hS hl
      refine lv_aload_n hx hb d_MT_array_162 rfl (lv_at hl 0 rfl) ?_
      refine lv_dup hx hb d_MT_array_163 rfl ?_
      refine o_get (v := .int (MT_at q11.2.2)) C in_MT hP 48 mw_48 rfl 15 (by decide) k_7_129 rfl rfl d_MT_array_164 ?_
      refine lv_iconst (v := (1:Int32)) hx hb d_MT_array_167 (by decide) ?_
      refine lv_iadd hx hb d_MT_array_168 ?_
      refine o_put (v := .int ((MT_at q11.2.2) + (1:Int32))) (ty := .int) (w1 := (m_cw ad ca ky ty rt Mm M0 (MT_mk (MT_text q11.2.2) (MT_kind q11.2.2) (MT_place q11.2.2) (MT_many q11.2.2) (MT_parent q11.2.2) (MT_power q11.2.2) (MT_first q11.2.2) (MT_next q11.2.2) (MT_name q11.2.2) (MT_from q11.2.2) (MT_characters q11.2.2) (MT_digits q11.2.2) (MT_minus q11.2.2) (MT_values q11.2.2) (MT_letters q11.2.2) ((MT_at q11.2.2) + (1:Int32)) (MT_wrong q11.2.2) (MT_used q11.2.2) (MT_written q11.2.2) (MT_left q11.2.2)))) C in_MT t_MT t_MT_ok n_MT hP (hDD _ _ _ _) hS 48 mw_48 rfl 15 (by decide) k_7_129 rfl rfl (by decide +kernel) rfl rfl (Nat.le_of_ble_eq_true rfl) rfl d_MT_array_169 (fun H locs hP hS => ?_)
      refine lv_iconst (v := (1:Int32)) hx hb d_MT_array_172 (by decide) ?_
      cases h
      exact o_rz (v := (1:Int32)) C o_nar1 hP hS d_MT_array_173
    replace h := o_ff c17 h
    refine o_in_ c17 ?_
    intro H locs ls hP hS hl
    refine lv_aload_n hx hb d_MT_array_187 rfl (lv_at hl 0 rfl) ?_
    refine lv_aload_n hx hb d_MT_array_188 rfl (lv_at hl 0 rfl) ?_
    refine o_get (v := .int (MT_at q11.2.2)) C in_MT hP 48 mw_48 rfl 15 (by decide) k_7_129 rfl rfl d_MT_array_189 ?_
    obtain ⟨q13, hq13, h⟩ := o_bd_some h
    refine o_V (st1 := [.int q13.1]) (w1 := (m_cw ad ca ky ty rt Mm M0 q13.2)) hE.1 C (e_MT_bad_b hE hKy l (MT_at q11.2.2) q11.2.2 Mm M0 rt hq13) hP (hDD _ _ _ _) hS hl.1 rfl mw_48 k_8_203 k_8_204 k_8_205 k_1_13 k_8_206 hv_MT_bad rfl rfl ⟨(by dsimp only [rm_MT_array, rm_MT_bad]; omega), (by dsimp only [rm_MT_array, rm_MT_bad]; omega)⟩ rfl (Nat.le_of_ble_eq_true rfl) ⟨Nat.zero_le _, Nat.zero_le _⟩ rfl d_MT_array_192 (fun H locs hP hS => ?_)
    obtain ⟨g14, h⟩ := o_gd_some h
    cases h
    exact o_rz C (o_zb_nar g14) hP hS d_MT_array_195
  · replace h := o_tt c1 h
    refine lv_aload_n hx hb d_MT_array_37 rfl (lv_at hl 2 rfl) ?_
    refine lv_dup hx hb d_MT_array_38 rfl ?_
    refine o_get (v := .int (MT_at q2)) C in_MT hP 48 mw_48 rfl 15 (by decide) k_7_129 rfl rfl d_MT_array_39 ?_
    refine lv_iconst (v := (1:Int32)) hx hb d_MT_array_42 (by decide) ?_
    refine lv_iadd hx hb d_MT_array_43 ?_
    refine o_put (v := .int ((MT_at q2) + (1:Int32))) (ty := .int) (w1 := (m_cw ad ca ky ty rt Mm M0 (MT_mk (MT_text q2) (MT_kind q2) (MT_place q2) (MT_many q2) (MT_parent q2) (MT_power q2) (MT_first q2) (MT_next q2) (MT_name q2) (MT_from q2) (MT_characters q2) (MT_digits q2) (MT_minus q2) (MT_values q2) (MT_letters q2) ((MT_at q2) + (1:Int32)) (MT_wrong q2) (MT_used q2) (MT_written q2) (MT_left q2)))) C in_MT t_MT t_MT_ok n_MT hP (hDD _ _ _ _) hS 48 mw_48 rfl 15 (by decide) k_7_129 rfl rfl (by decide +kernel) rfl rfl (Nat.le_of_ble_eq_true rfl) rfl d_MT_array_44 (fun H locs hP hS => ?_)
    refine lv_iconst (v := (1:Int32)) hx hb d_MT_array_47 (by decide) ?_
    cases h
    exact o_rz (v := (1:Int32)) C o_nar1 hP hS d_MT_array_48
set_option maxHeartbeats 4000000 in
set_option maxRecDepth 100000 in
theorem f_MT_value_j83_a {E : (Nat → Prop) → State → Heap → Prop} {p : Program} {l : Launch} {e : Env} {s : State} {m : MethodId} {args : Array Value} {below : List Frame} {meth : Method} {c : Code} {D : va_G} {ad kd sd vd xd : Nat → Nat} {ca : Nat → ClassId} {A : Nat → Prop} {ky ty : Nat → Option Nat} (hE : o_EK E kd sd vd xd) (hKy : m_KY ky ty sd) (C : o_Cx E p s m args meth c D m_cls (m_tys ca) "SchemaJudgeModel$Text" b_MT_value (some .boolean) 5 cc_MT_value A) (hDD : ∀ (rt : Nat) (Mm : SMM) (M0 : SMT) (M1 : SMT), va_D A (m_cw ad ca ky ty rt Mm M0 M1)) (d : Nat) (rec : Int32 → Int32 → SMT → Option (Int32 × SMT)) (hrec : ∀ (x1 : Int32) (x2 : Int32) (a0 : SMT) (Mm : SMM) (M1 : SMT) (rt : Nat) (r : Int32 × SMT), rec x1 x2 a0 = some r → o_Cn E l D m_cls (m_tys ca) y_MT_value cc_MT_value (rm_MT_value d) [.ref (ad 33), .int x1, .int x2] (m_cw ad ca ky ty rt Mm a0 M1) (m_cw ad ca ky ty rt Mm r.2 M1) (some (.int r.1))) (n : Nat) (x1 : Int32) (x2 : Int32) (x3 : Int32) (x4 : Int32) (a0 : SMT) (Mm : SMM) (M1 : SMT) (rt : Nat) {r : Int32 × SMT} (h : m_MT_value_j83 n rec x1 x2 x3 x4 a0 = some r) : o_At p l e (rm_MT_value (d + 1)) s m args below meth c (MQ below (o_Qx D m_cls (some (.int r.1)) (m_cw ad ca ky ty rt Mm r.2 M1) A) args s 0 0 A) m_cls D A 5 83 [] (m_cw ad ca ky ty rt Mm a0 M1) [(0, .ref (ad 33)), (1, .int x1), (2, .int x2), (3, .int x3), (4, .int x4)] := by
  unfold m_MT_value_j83 at h
  intro H locs ls hP hS hl
  have C0 := C
  obtain ⟨hx, hb, -, -, -, hown, hts, hK, -, -⟩ := C0
  refine lv_aload_n hx hb d_MT_value_83 rfl (lv_at hl 0 rfl) ?_
  refine o_get (v := .int (MT_values a0)) C in_MT hP 33 mw_33 rfl 13 (by decide) k_7_126 rfl rfl d_MT_value_84 ?_
  refine lv_sipush (v := (1000:Int32)) hx hb d_MT_value_87 (by decide) ?_
  refine lv_icmp_ne (tgt := 102) hx hb d_MT_value_90 (by decide) (fun c3 => ?_) (fun c3 => ?_)
  · replace h := o_ff c3 h
    refine lv_iload_n hx hb d_MT_value_102 rfl (lv_at hl 3 rfl) ?_
    refine lv_bipush (v := (110:Int32)) hx hb d_MT_value_103 (by decide) ?_
    refine lv_icmp_ne (tgt := 117) hx hb d_MT_value_105 (by decide) (fun c4 => ?_) (fun c4 => ?_)
    · replace h := o_ff c4 h
      refine lv_iload_n hx hb d_MT_value_117 rfl (lv_at hl 3 rfl) ?_
      refine lv_bipush (v := (116:Int32)) hx hb d_MT_value_118 (by decide) ?_
      refine lv_icmp_ne (tgt := 132) hx hb d_MT_value_120 (by decide) (fun c5 => ?_) (fun c5 => ?_)
      · replace h := o_ff c5 h
        refine lv_iload_n hx hb d_MT_value_132 rfl (lv_at hl 3 rfl) ?_
        refine lv_bipush (v := (102:Int32)) hx hb d_MT_value_133 (by decide) ?_
        refine lv_icmp_ne (tgt := 147) hx hb d_MT_value_135 (by decide) (fun c6 => ?_) (fun c6 => ?_)
        · replace h := o_ff c6 h
          refine lv_iload_n hx hb d_MT_value_147 rfl (lv_at hl 3 rfl) ?_
          refine lv_bipush (v := (34:Int32)) hx hb d_MT_value_148 (by decide) ?_
          refine lv_icmp_ne (tgt := 159) hx hb d_MT_value_150 (by decide) (fun c7 => ?_) (fun c7 => ?_)
          · replace h := o_ff c7 h
            refine lv_iload hx hb d_MT_value_159 (lv_at hl 4 rfl) ?_
            refine lv_if_eq (tgt := 170) hx hb d_MT_value_161 (by decide) (fun c8 => ?_) (fun c8 => ?_)
            · replace h := o_tt c8 h
              refine lv_iload_n hx hb d_MT_value_170 rfl (lv_at hl 2 rfl) ?_
              refine lv_bipush (v := (40:Int32)) hx hb d_MT_value_171 (by decide) ?_
              refine lv_icmp_ne (tgt := 185) hx hb d_MT_value_173 (by decide) (fun c9 => ?_) (fun c9 => ?_)
              · replace h := o_ff c9 h
                refine lv_iload_n hx hb d_MT_value_185 rfl (lv_at hl 3 rfl) ?_
                refine lv_bipush (v := (91:Int32)) hx hb d_MT_value_186 (by decide) ?_
                refine lv_icmp_ne (tgt := 200) hx hb d_MT_value_188 (by decide) (fun c10 => ?_) (fun c10 => ?_)
                · replace h := o_ff c10 h
                  refine lv_aload_n hx hb d_MT_value_200 rfl (lv_at hl 0 rfl) ?_
                  refine lv_iload_n hx hb d_MT_value_201 rfl (lv_at hl 1 rfl) ?_
                  refine lv_iload_n hx hb d_MT_value_202 rfl (lv_at hl 2 rfl) ?_
                  obtain ⟨q3, hq3, h⟩ := o_bd_some h
                  refine o_V (st1 := [.int q3.1]) (w1 := (m_cw ad ca ky ty rt Mm q3.2 M1)) hE.1 C (e_MT_object_a hE hKy l n d rec hrec x1 x2 a0 Mm M1 rt hq3) hP (hDD _ _ _ _) hS hl.1 rfl mw_33 k_9_21 k_9_22 k_9_23 k_1_13 k_9_24 hv_MT_object rfl rfl ⟨(by dsimp only [rm_MT_value, rm_MT_object]; omega), (by dsimp only [rm_MT_value, rm_MT_object]; omega)⟩ rfl (Nat.le_of_ble_eq_true rfl) ⟨Nat.zero_le _, Nat.zero_le _⟩ rfl d_MT_value_203 (fun H locs hP hS => ?_)
                  obtain ⟨g11, h⟩ := o_gd_some h
                  cases h
                  exact o_rz C (o_zb_nar g11) hP hS d_MT_value_206
                · replace h := o_tt c10 h
                  refine lv_aload_n hx hb d_MT_value_191 rfl (lv_at hl 0 rfl) ?_
                  refine lv_iload_n hx hb d_MT_value_192 rfl (lv_at hl 1 rfl) ?_
                  refine lv_iload_n hx hb d_MT_value_193 rfl (lv_at hl 2 rfl) ?_
                  obtain ⟨q4, hq4, h⟩ := o_bd_some h
                  refine o_V (st1 := [.int q4.1]) (w1 := (m_cw ad ca ky ty rt Mm q4.2 M1)) hE.1 C (e_MT_array_a hE hKy l n d rec hrec x1 x2 a0 Mm M1 rt hq4) hP (hDD _ _ _ _) hS hl.1 rfl mw_33 k_9_14 k_9_15 k_9_16 k_1_13 k_9_17 hv_MT_array rfl rfl ⟨(by dsimp only [rm_MT_value, rm_MT_array]; omega), (by dsimp only [rm_MT_value, rm_MT_array]; omega)⟩ rfl (Nat.le_of_ble_eq_true rfl) ⟨Nat.zero_le _, Nat.zero_le _⟩ rfl d_MT_value_194 (fun H locs hP hS => ?_)
                  refine lv_goto (tgt := 206) hx hb d_MT_value_197 (by decide) ?_
                  obtain ⟨g12, h⟩ := o_gd_some h
                  cases h
                  exact o_rz C (o_zb_nar g12) hP hS d_MT_value_206
              · replace h := o_tt c9 h
                refine lv_aload_n hx hb d_MT_value_176 rfl (lv_at hl 0 rfl) ?_
                refine lv_aload_n hx hb d_MT_value_177 rfl (lv_at hl 0 rfl) ?_
                refine o_get (v := .int (MT_at a0)) C in_MT hP 33 mw_33 rfl 15 (by decide) k_7_129 rfl rfl d_MT_value_178 ?_
                obtain ⟨q5, hq5, h⟩ := o_bd_some h
                refine o_V (st1 := [.int q5.1]) (w1 := (m_cw ad ca ky ty rt Mm q5.2 M1)) hE.1 C (e_MT_bad_a hE hKy l (MT_at a0) a0 Mm M1 rt hq5) hP (hDD _ _ _ _) hS hl.1 rfl mw_33 k_8_203 k_8_204 k_8_205 k_1_13 k_8_206 hv_MT_bad rfl rfl ⟨(by dsimp only [rm_MT_value, rm_MT_bad]; omega), (by dsimp only [rm_MT_value, rm_MT_bad]; omega)⟩ rfl (Nat.le_of_ble_eq_true rfl) ⟨Nat.zero_le _, Nat.zero_le _⟩ rfl d_MT_value_181 (fun H locs hP hS => ?_)
                obtain ⟨g13, h⟩ := o_gd_some h
                cases h
                exact o_rz C (o_zb_nar g13) hP hS d_MT_value_184
            · replace h := o_ff c8 h
              refine lv_aload_n hx hb d_MT_value_164 rfl (lv_at hl 0 rfl) ?_
              refine lv_iload_n hx hb d_MT_value_165 rfl (lv_at hl 1 rfl) ?_
              obtain ⟨q6, hq6, h⟩ := o_bd_some h
              refine o_V (st1 := [.int q6.1]) (w1 := (m_cw ad ca ky ty rt Mm q6.2 M1)) hE.1 C (e_MT_number_a hE hKy l n x1 a0 Mm M1 rt hq6) hP (hDD _ _ _ _) hS hl.1 rfl mw_33 k_9_9 k_9_10 k_9_11 k_1_13 k_9_12 hv_MT_number rfl rfl ⟨(by dsimp only [rm_MT_value, rm_MT_number]; omega), (by dsimp only [rm_MT_value, rm_MT_number]; omega)⟩ rfl (Nat.le_of_ble_eq_true rfl) ⟨Nat.zero_le _, Nat.zero_le _⟩ rfl d_MT_value_166 (fun H locs hP hS => ?_)
              obtain ⟨g14, h⟩ := o_gd_some h
              cases h
              exact o_rz C (o_zb_nar g14) hP hS d_MT_value_169
          · replace h := o_tt c7 h
            refine lv_aload_n hx hb d_MT_value_153 rfl (lv_at hl 0 rfl) ?_
            refine lv_iload_n hx hb d_MT_value_154 rfl (lv_at hl 1 rfl) ?_
            obtain ⟨q7, hq7, h⟩ := o_bd_some h
            refine o_V (st1 := [.int q7.1]) (w1 := (m_cw ad ca ky ty rt Mm q7.2 M1)) hE.1 C (e_MT_string_a hE hKy l n x1 a0 Mm M1 rt hq7) hP (hDD _ _ _ _) hS hl.1 rfl mw_33 k_8_220 k_8_221 k_8_222 k_1_13 k_8_223 hv_MT_string rfl rfl ⟨(by dsimp only [rm_MT_value, rm_MT_string]; omega), (by dsimp only [rm_MT_value, rm_MT_string]; omega)⟩ rfl (Nat.le_of_ble_eq_true rfl) ⟨Nat.zero_le _, Nat.zero_le _⟩ rfl d_MT_value_155 (fun H locs hP hS => ?_)
            obtain ⟨g15, h⟩ := o_gd_some h
            cases h
            exact o_rz C (o_zb_nar g15) hP hS d_MT_value_158
        · replace h := o_tt c6 h
          refine lv_aload_n hx hb d_MT_value_138 rfl (lv_at hl 0 rfl) ?_
          refine va_ldcS (q := sd 3) hx hb hown (hE.2.2.2.2.2.1 _ _ _ C.2.2.2.2.2.2.2.2.2 ("SchemaJudgeModel$Text", 115, "false", 3) (List.mem_of_getElem? (i := 86) rfl)) d_MT_value_139 ?_
          refine lv_iload_n hx hb d_MT_value_141 rfl (lv_at hl 1 rfl) ?_
          refine lv_iconst (v := (1:Int32)) hx hb d_MT_value_142 (by decide) ?_
          obtain ⟨q8, hq8, h⟩ := o_bd_some h
          refine o_V (st1 := [.int q8.1]) (w1 := (m_cw ad ca ky ty rt Mm q8.2 M1)) hE.1 C (e_MT_word_a hE hKy l n 3 rfl x1 (1:Int32) a0 Mm M1 rt hq8) hP (hDD _ _ _ _) hS hl.1 rfl mw_33 k_8_208 k_8_209 k_8_210 k_1_13 k_8_211 hv_MT_word rfl rfl ⟨(by dsimp only [rm_MT_value, rm_MT_word]; omega), (by dsimp only [rm_MT_value, rm_MT_word]; omega)⟩ rfl (Nat.le_of_ble_eq_true rfl) ⟨Nat.zero_le _, Nat.zero_le _⟩ rfl d_MT_value_143 (fun H locs hP hS => ?_)
          obtain ⟨g16, h⟩ := o_gd_some h
          cases h
          exact o_rz C (o_zb_nar g16) hP hS d_MT_value_146
      · replace h := o_tt c5 h
        refine lv_aload_n hx hb d_MT_value_123 rfl (lv_at hl 0 rfl) ?_
        refine va_ldcS (q := sd 4) hx hb hown (hE.2.2.2.2.2.1 _ _ _ C.2.2.2.2.2.2.2.2.2 ("SchemaJudgeModel$Text", 113, "true", 4) (List.mem_of_getElem? (i := 85) rfl)) d_MT_value_124 ?_
        refine lv_iload_n hx hb d_MT_value_126 rfl (lv_at hl 1 rfl) ?_
        refine lv_iconst (v := (2:Int32)) hx hb d_MT_value_127 (by decide) ?_
        obtain ⟨q9, hq9, h⟩ := o_bd_some h
        refine o_V (st1 := [.int q9.1]) (w1 := (m_cw ad ca ky ty rt Mm q9.2 M1)) hE.1 C (e_MT_word_a hE hKy l n 4 rfl x1 (2:Int32) a0 Mm M1 rt hq9) hP (hDD _ _ _ _) hS hl.1 rfl mw_33 k_8_208 k_8_209 k_8_210 k_1_13 k_8_211 hv_MT_word rfl rfl ⟨(by dsimp only [rm_MT_value, rm_MT_word]; omega), (by dsimp only [rm_MT_value, rm_MT_word]; omega)⟩ rfl (Nat.le_of_ble_eq_true rfl) ⟨Nat.zero_le _, Nat.zero_le _⟩ rfl d_MT_value_128 (fun H locs hP hS => ?_)
        obtain ⟨g17, h⟩ := o_gd_some h
        cases h
        exact o_rz C (o_zb_nar g17) hP hS d_MT_value_131
    · replace h := o_tt c4 h
      refine lv_aload_n hx hb d_MT_value_108 rfl (lv_at hl 0 rfl) ?_
      refine va_ldcS (q := sd 2) hx hb hown (hE.2.2.2.2.2.1 _ _ _ C.2.2.2.2.2.2.2.2.2 ("SchemaJudgeModel$Text", 107, "null", 2) (List.mem_of_getElem? (i := 84) rfl)) d_MT_value_109 ?_
      refine lv_iload_n hx hb d_MT_value_111 rfl (lv_at hl 1 rfl) ?_
      refine lv_iconst (v := (0:Int32)) hx hb d_MT_value_112 (by decide) ?_
      obtain ⟨q10, hq10, h⟩ := o_bd_some h
      refine o_V (st1 := [.int q10.1]) (w1 := (m_cw ad ca ky ty rt Mm q10.2 M1)) hE.1 C (e_MT_word_a hE hKy l n 2 rfl x1 (0:Int32) a0 Mm M1 rt hq10) hP (hDD _ _ _ _) hS hl.1 rfl mw_33 k_8_208 k_8_209 k_8_210 k_1_13 k_8_211 hv_MT_word rfl rfl ⟨(by dsimp only [rm_MT_value, rm_MT_word]; omega), (by dsimp only [rm_MT_value, rm_MT_word]; omega)⟩ rfl (Nat.le_of_ble_eq_true rfl) ⟨Nat.zero_le _, Nat.zero_le _⟩ rfl d_MT_value_113 (fun H locs hP hS => ?_)
      obtain ⟨g18, h⟩ := o_gd_some h
      cases h
      exact o_rz C (o_zb_nar g18) hP hS d_MT_value_116
  · replace h := o_tt c3 h
    refine lv_aload_n hx hb d_MT_value_93 rfl (lv_at hl 0 rfl) ?_
    refine lv_aload_n hx hb d_MT_value_94 rfl (lv_at hl 0 rfl) ?_
    refine o_get (v := .int (MT_at a0)) C in_MT hP 33 mw_33 rfl 15 (by decide) k_7_129 rfl rfl d_MT_value_95 ?_
    obtain ⟨q11, hq11, h⟩ := o_bd_some h
    refine o_V (st1 := [.int q11.1]) (w1 := (m_cw ad ca ky ty rt Mm q11.2 M1)) hE.1 C (e_MT_bad_a hE hKy l (MT_at a0) a0 Mm M1 rt hq11) hP (hDD _ _ _ _) hS hl.1 rfl mw_33 k_8_203 k_8_204 k_8_205 k_1_13 k_8_206 hv_MT_bad rfl rfl ⟨(by dsimp only [rm_MT_value, rm_MT_bad]; omega), (by dsimp only [rm_MT_value, rm_MT_bad]; omega)⟩ rfl (Nat.le_of_ble_eq_true rfl) ⟨Nat.zero_le _, Nat.zero_le _⟩ rfl d_MT_value_98 (fun H locs hP hS => ?_)
    obtain ⟨g19, h⟩ := o_gd_some h
    cases h
    exact o_rz C (o_zb_nar g19) hP hS d_MT_value_101
set_option maxHeartbeats 4000000 in
set_option maxRecDepth 100000 in
theorem f_MT_value_j31_a {E : (Nat → Prop) → State → Heap → Prop} {p : Program} {l : Launch} {e : Env} {s : State} {m : MethodId} {args : Array Value} {below : List Frame} {meth : Method} {c : Code} {D : va_G} {ad kd sd vd xd : Nat → Nat} {ca : Nat → ClassId} {A : Nat → Prop} {ky ty : Nat → Option Nat} (hE : o_EK E kd sd vd xd) (hKy : m_KY ky ty sd) (C : o_Cx E p s m args meth c D m_cls (m_tys ca) "SchemaJudgeModel$Text" b_MT_value (some .boolean) 5 cc_MT_value A) (hDD : ∀ (rt : Nat) (Mm : SMM) (M0 : SMT) (M1 : SMT), va_D A (m_cw ad ca ky ty rt Mm M0 M1)) (d : Nat) (rec : Int32 → Int32 → SMT → Option (Int32 × SMT)) (hrec : ∀ (x1 : Int32) (x2 : Int32) (a0 : SMT) (Mm : SMM) (M1 : SMT) (rt : Nat) (r : Int32 × SMT), rec x1 x2 a0 = some r → o_Cn E l D m_cls (m_tys ca) y_MT_value cc_MT_value (rm_MT_value d) [.ref (ad 33), .int x1, .int x2] (m_cw ad ca ky ty rt Mm a0 M1) (m_cw ad ca ky ty rt Mm r.2 M1) (some (.int r.1))) (n : Nat) (x1 : Int32) (x2 : Int32) (x3 : Int32) (y0 : Int32) (a0 : SMT) (Mm : SMM) (M1 : SMT) (rt : Nat) {r : Int32 × SMT} (h : m_MT_value_j31 n rec x1 x2 x3 y0 a0 = some r) : o_At p l e (rm_MT_value (d + 1)) s m args below meth c (MQ below (o_Qx D m_cls (some (.int r.1)) (m_cw ad ca ky ty rt Mm r.2 M1) A) args s 0 0 A) m_cls D A 5 31 [.int y0] (m_cw ad ca ky ty rt Mm a0 M1) [(0, .ref (ad 33)), (1, .int x1), (2, .int x2), (3, .int x3)] := by
  unfold m_MT_value_j31 at h
  intro H locs ls hP hS hl
  have C0 := C
  obtain ⟨hx, hb, -, -, -, hown, hts, hK, -, -⟩ := C0
  refine lv_istore (lv' := [(4, .int y0), (0, .ref (ad 33)), (1, .int x1), (2, .int x2), (3, .int x3)]) hx hb d_MT_value_31 hl (by decide) rfl (fun ls hl => ?_)
  refine lv_iload_n hx hb d_MT_value_33 rfl (lv_at hl 4 rfl) ?_
  refine lv_bipush (v := (110:Int32)) hx hb d_MT_value_34 (by decide) ?_
  refine lv_icmp_eq (tgt := 83) hx hb d_MT_value_36 (by decide) (fun c2 => ?_) (fun c2 => ?_)
  · replace h := o_tt c2 h
    exact f_MT_value_j83_a hE hKy C hDD d rec hrec n x1 x2 x3 y0 a0 Mm M1 rt h _ _ _ hP hS (lv_sub hl [1, 2, 3, 4, 0] rfl)
  · replace h := o_ff c2 h
    refine lv_iload_n hx hb d_MT_value_39 rfl (lv_at hl 4 rfl) ?_
    refine lv_bipush (v := (116:Int32)) hx hb d_MT_value_40 (by decide) ?_
    refine lv_icmp_eq (tgt := 83) hx hb d_MT_value_42 (by decide) (fun c20 => ?_) (fun c20 => ?_)
    · replace h := o_tt c20 h
      exact f_MT_value_j83_a hE hKy C hDD d rec hrec n x1 x2 x3 y0 a0 Mm M1 rt h _ _ _ hP hS (lv_sub hl [1, 2, 3, 4, 0] rfl)
    · replace h := o_ff c20 h
      refine lv_iload_n hx hb d_MT_value_45 rfl (lv_at hl 4 rfl) ?_
      refine lv_bipush (v := (102:Int32)) hx hb d_MT_value_46 (by decide) ?_
      refine lv_icmp_eq (tgt := 83) hx hb d_MT_value_48 (by decide) (fun c21 => ?_) (fun c21 => ?_)
      · replace h := o_tt c21 h
        exact f_MT_value_j83_a hE hKy C hDD d rec hrec n x1 x2 x3 y0 a0 Mm M1 rt h _ _ _ hP hS (lv_sub hl [1, 2, 3, 4, 0] rfl)
      · replace h := o_ff c21 h
        refine lv_iload_n hx hb d_MT_value_51 rfl (lv_at hl 4 rfl) ?_
        refine lv_bipush (v := (34:Int32)) hx hb d_MT_value_52 (by decide) ?_
        refine lv_icmp_eq (tgt := 83) hx hb d_MT_value_54 (by decide) (fun c22 => ?_) (fun c22 => ?_)
        · replace h := o_tt c22 h
          exact f_MT_value_j83_a hE hKy C hDD d rec hrec n x1 x2 x3 y0 a0 Mm M1 rt h _ _ _ hP hS (lv_sub hl [1, 2, 3, 4, 0] rfl)
        · replace h := o_ff c22 h
          refine lv_iload_n hx hb d_MT_value_57 rfl (lv_at hl 4 rfl) ?_
          refine lv_bipush (v := (91:Int32)) hx hb d_MT_value_58 (by decide) ?_
          refine lv_icmp_eq (tgt := 83) hx hb d_MT_value_60 (by decide) (fun c23 => ?_) (fun c23 => ?_)
          · replace h := o_tt c23 h
            exact f_MT_value_j83_a hE hKy C hDD d rec hrec n x1 x2 x3 y0 a0 Mm M1 rt h _ _ _ hP hS (lv_sub hl [1, 2, 3, 4, 0] rfl)
          · replace h := o_ff c23 h
            refine lv_iload_n hx hb d_MT_value_63 rfl (lv_at hl 4 rfl) ?_
            refine lv_bipush (v := (123:Int32)) hx hb d_MT_value_64 (by decide) ?_
            refine lv_icmp_eq (tgt := 83) hx hb d_MT_value_66 (by decide) (fun c24 => ?_) (fun c24 => ?_)
            · replace h := o_tt c24 h
              exact f_MT_value_j83_a hE hKy C hDD d rec hrec n x1 x2 x3 y0 a0 Mm M1 rt h _ _ _ hP hS (lv_sub hl [1, 2, 3, 4, 0] rfl)
            · replace h := o_ff c24 h
              refine lv_iload hx hb d_MT_value_69 (lv_at hl 0 rfl) ?_
              refine lv_if_ne (tgt := 83) hx hb d_MT_value_71 (by decide) (fun c25 => ?_) (fun c25 => ?_)
              · replace h := o_ff c25 h
                exact f_MT_value_j83_a hE hKy C hDD d rec hrec n x1 x2 x3 y0 a0 Mm M1 rt h _ _ _ hP hS (lv_sub hl [1, 2, 3, 4, 0] rfl)
              · replace h := o_tt c25 h
                refine lv_aload_n hx hb d_MT_value_74 rfl (lv_at hl 1 rfl) ?_
                refine lv_aload_n hx hb d_MT_value_75 rfl (lv_at hl 1 rfl) ?_
                refine o_get (v := .int (MT_at a0)) C in_MT hP 33 mw_33 rfl 15 (by decide) k_7_129 rfl rfl d_MT_value_76 ?_
                obtain ⟨q12, hq12, h⟩ := o_bd_some h
                refine o_V (st1 := [.int q12.1]) (w1 := (m_cw ad ca ky ty rt Mm q12.2 M1)) hE.1 C (e_MT_bad_a hE hKy l (MT_at a0) a0 Mm M1 rt hq12) hP (hDD _ _ _ _) hS hl.1 rfl mw_33 k_8_203 k_8_204 k_8_205 k_1_13 k_8_206 hv_MT_bad rfl rfl ⟨(by dsimp only [rm_MT_value, rm_MT_bad]; omega), (by dsimp only [rm_MT_value, rm_MT_bad]; omega)⟩ rfl (Nat.le_of_ble_eq_true rfl) ⟨Nat.zero_le _, Nat.zero_le _⟩ rfl d_MT_value_79 (fun H locs hP hS => ?_)
                obtain ⟨g26, h⟩ := o_gd_some h
                cases h
                exact o_rz C (o_zb_nar g26) hP hS d_MT_value_82
set_option maxHeartbeats 4000000 in
set_option maxRecDepth 100000 in
theorem e_MT_value_a_F {E : (Nat → Prop) → State → Heap → Prop} {D : va_G} {ad kd sd vd xd : Nat → Nat} {ca : Nat → ClassId} {ky ty : Nat → Option Nat} (hE : o_EK E kd sd vd xd) (hKy : m_KY ky ty sd) (l : Launch) (n : Nat) (d : Nat) (rec : Int32 → Int32 → SMT → Option (Int32 × SMT)) (hrec : ∀ (x1 : Int32) (x2 : Int32) (a0 : SMT) (Mm : SMM) (M1 : SMT) (rt : Nat) (r : Int32 × SMT), rec x1 x2 a0 = some r → o_Cn E l D m_cls (m_tys ca) y_MT_value cc_MT_value (rm_MT_value d) [.ref (ad 33), .int x1, .int x2] (m_cw ad ca ky ty rt Mm a0 M1) (m_cw ad ca ky ty rt Mm r.2 M1) (some (.int r.1))) (x1 : Int32) (x2 : Int32) (a0 : SMT) (Mm : SMM) (M1 : SMT) (rt : Nat) {r : Int32 × SMT} (h : m_MT_value_F n rec x1 x2 a0 = some r) : o_Cn E l D m_cls (m_tys ca) y_MT_value cc_MT_value (rm_MT_value (d + 1)) [.ref (ad 33), .int x1, .int x2] (m_cw ad ca ky ty rt Mm a0 M1) (m_cw ad ca ky ty rt Mm r.2 M1) (some (.int r.1)) := by
  refine o_Cn_of (by decide) (Nat.le_of_ble_eq_true rfl) ?_
  intro p e s m below meth c A ls C hD hP hS hl
  have hDD : ∀ (rt : Nat) (Mm : SMM) (M0 : SMT) (M1 : SMT), va_D A (m_cw ad ca ky ty rt Mm M0 M1) := fun _ _ _ _ => o_D_map hD rfl
  have hl : lv_has ls 5 [(0, .ref (ad 33)), (1, .int x1), (2, .int x2)] := hl
  unfold m_MT_value_F at h
  have C0 := C
  obtain ⟨hx, hb, -, -, -, hown, hts, hK, -, -⟩ := C0
  refine lv_aload_n hx hb d_MT_value_0 rfl (lv_at hl 0 rfl) ?_
  refine lv_aload_n hx hb d_MT_value_1 rfl (lv_at hl 0 rfl) ?_
  refine o_get (v := .int (MT_at a0)) C in_MT hP 33 mw_33 rfl 15 (by decide) k_7_129 rfl rfl d_MT_value_2 ?_
  obtain ⟨q1, hq1, h⟩ := o_bd_some h
  refine o_V (st1 := [.int q1]) (w1 := (m_cw ad ca ky ty rt Mm a0 M1)) hE.1 C (e_MT_c_a hE hKy l (MT_at a0) a0 Mm M1 rt hq1) hP (hDD _ _ _ _) hS hl.1 rfl mw_33 k_8_192 k_8_193 k_8_194 k_1_13 k_8_195 hv_MT_c rfl rfl ⟨(by dsimp only [rm_MT_value, rm_MT_c]; omega), (by dsimp only [rm_MT_value, rm_MT_c]; omega)⟩ rfl (Nat.le_of_ble_eq_true rfl) ⟨Nat.zero_le _, Nat.zero_le _⟩ rfl d_MT_value_5 (fun H locs hP hS => ?_)
  refine lv_istore_n (lv' := [(3, .int q1), (0, .ref (ad 33)), (1, .int x1), (2, .int x2)]) hx hb d_MT_value_8 rfl hl (by decide) rfl (fun ls hl => ?_)
  refine lv_iload_n hx hb d_MT_value_9 rfl (lv_at hl 0 rfl) ?_
  refine lv_bipush (v := (48:Int32)) hx hb d_MT_value_10 (by decide) ?_
  refine lv_bipush (v := (57:Int32)) hx hb d_MT_value_12 (by decide) ?_
  obtain ⟨q2, hq2, h⟩ := o_bd_some h
  refine o_SN (st1 := [.int q2]) (w1 := (m_cw ad ca ky ty rt Mm a0 M1)) hE.1 C (e_MM_in hE hKy l q1 (48:Int32) (57:Int32) Mm a0 M1 rt hq2) hP (hDD _ _ _ _) hS hl.1 (hE.2.1 _ _ _ C.2.2.2.2.2.2.2.2.2 _ nw_21) k_8_201 k_1_12 k_8_202 hs_MM_in rfl rfl ⟨(by dsimp only [rm_MT_value, rm_MM_in]; omega), (by dsimp only [rm_MT_value, rm_MM_in]; omega)⟩ rfl (Nat.le_of_ble_eq_true rfl) ⟨Nat.zero_le _, Nat.zero_le _⟩ rfl d_MT_value_14 (fun H locs hP hS => ?_)
  refine lv_if_ne (tgt := 26) hx hb d_MT_value_17 (by decide) (fun c1 => ?_) (fun c1 => ?_)
  · replace h := o_ff c1 h
    refine lv_iconst (v := (1:Int32)) hx hb d_MT_value_26 (by decide) ?_
    refine lv_goto (tgt := 31) hx hb d_MT_value_27 (by decide) ?_
    exact f_MT_value_j31_a hE hKy C hDD d rec hrec n x1 x2 q1 (1:Int32) a0 Mm M1 rt h _ _ _ hP hS (lv_sub hl [1, 2, 3, 0] rfl)
  · replace h := o_tt c1 h
    refine lv_iload_n hx hb d_MT_value_20 rfl (lv_at hl 0 rfl) ?_
    refine lv_bipush (v := (45:Int32)) hx hb d_MT_value_21 (by decide) ?_
    refine lv_icmp_ne (tgt := 30) hx hb d_MT_value_23 (by decide) (fun c27 => ?_) (fun c27 => ?_)
    · replace h := o_ff c27 h
      refine lv_iconst (v := (0:Int32)) hx hb d_MT_value_30 (by decide) ?_
      exact f_MT_value_j31_a hE hKy C hDD d rec hrec n x1 x2 q1 (0:Int32) a0 Mm M1 rt h _ _ _ hP hS (lv_sub hl [1, 2, 3, 0] rfl)
    · replace h := o_tt c27 h
      refine lv_iconst (v := (1:Int32)) hx hb d_MT_value_26 (by decide) ?_
      refine lv_goto (tgt := 31) hx hb d_MT_value_27 (by decide) ?_
      exact f_MT_value_j31_a hE hKy C hDD d rec hrec n x1 x2 q1 (1:Int32) a0 Mm M1 rt h _ _ _ hP hS (lv_sub hl [1, 2, 3, 0] rfl)
set_option maxHeartbeats 4000000 in
set_option maxRecDepth 100000 in
theorem e_MT_value_a {E : (Nat → Prop) → State → Heap → Prop} {D : va_G} {ad kd sd vd xd : Nat → Nat} {ca : Nat → ClassId} {ky ty : Nat → Option Nat} (hE : o_EK E kd sd vd xd) (hKy : m_KY ky ty sd) (l : Launch) (n : Nat) (d : Nat) (x1 : Int32) (x2 : Int32) (a0 : SMT) (Mm : SMM) (M1 : SMT) (rt : Nat) {r : Int32 × SMT} (h : m_MT_value n d x1 x2 a0 = some r) : o_Cn E l D m_cls (m_tys ca) y_MT_value cc_MT_value (rm_MT_value d) [.ref (ad 33), .int x1, .int x2] (m_cw ad ca ky ty rt Mm a0 M1) (m_cw ad ca ky ty rt Mm r.2 M1) (some (.int r.1)) := by
  induction d generalizing x1 x2 a0 Mm M1 rt r with
  | zero => cases h
  | succ d ih =>
    exact e_MT_value_a_F hE hKy l n d (m_MT_value n d) (fun x1 x2 a0 Mm M1 rt r h => ih x1 x2 a0 Mm M1 rt h) _ _ _ _ _ _ h
set_option maxHeartbeats 4000000 in
set_option maxRecDepth 100000 in
theorem f_MT_value_j83_b {E : (Nat → Prop) → State → Heap → Prop} {p : Program} {l : Launch} {e : Env} {s : State} {m : MethodId} {args : Array Value} {below : List Frame} {meth : Method} {c : Code} {D : va_G} {ad kd sd vd xd : Nat → Nat} {ca : Nat → ClassId} {A : Nat → Prop} {ky ty : Nat → Option Nat} (hE : o_EK E kd sd vd xd) (hKy : m_KY ky ty sd) (C : o_Cx E p s m args meth c D m_cls (m_tys ca) "SchemaJudgeModel$Text" b_MT_value (some .boolean) 5 cc_MT_value A) (hDD : ∀ (rt : Nat) (Mm : SMM) (M0 : SMT) (M1 : SMT), va_D A (m_cw ad ca ky ty rt Mm M0 M1)) (d : Nat) (rec : Int32 → Int32 → SMT → Option (Int32 × SMT)) (hrec : ∀ (x1 : Int32) (x2 : Int32) (a0 : SMT) (Mm : SMM) (M0 : SMT) (rt : Nat) (r : Int32 × SMT), rec x1 x2 a0 = some r → o_Cn E l D m_cls (m_tys ca) y_MT_value cc_MT_value (rm_MT_value d) [.ref (ad 48), .int x1, .int x2] (m_cw ad ca ky ty rt Mm M0 a0) (m_cw ad ca ky ty rt Mm M0 r.2) (some (.int r.1))) (n : Nat) (x1 : Int32) (x2 : Int32) (x3 : Int32) (x4 : Int32) (a0 : SMT) (Mm : SMM) (M0 : SMT) (rt : Nat) {r : Int32 × SMT} (h : m_MT_value_j83 n rec x1 x2 x3 x4 a0 = some r) : o_At p l e (rm_MT_value (d + 1)) s m args below meth c (MQ below (o_Qx D m_cls (some (.int r.1)) (m_cw ad ca ky ty rt Mm M0 r.2) A) args s 0 0 A) m_cls D A 5 83 [] (m_cw ad ca ky ty rt Mm M0 a0) [(0, .ref (ad 48)), (1, .int x1), (2, .int x2), (3, .int x3), (4, .int x4)] := by
  unfold m_MT_value_j83 at h
  intro H locs ls hP hS hl
  have C0 := C
  obtain ⟨hx, hb, -, -, -, hown, hts, hK, -, -⟩ := C0
  refine lv_aload_n hx hb d_MT_value_83 rfl (lv_at hl 0 rfl) ?_
  refine o_get (v := .int (MT_values a0)) C in_MT hP 48 mw_48 rfl 13 (by decide) k_7_126 rfl rfl d_MT_value_84 ?_
  refine lv_sipush (v := (1000:Int32)) hx hb d_MT_value_87 (by decide) ?_
  refine lv_icmp_ne (tgt := 102) hx hb d_MT_value_90 (by decide) (fun c3 => ?_) (fun c3 => ?_)
  · replace h := o_ff c3 h
    refine lv_iload_n hx hb d_MT_value_102 rfl (lv_at hl 3 rfl) ?_
    refine lv_bipush (v := (110:Int32)) hx hb d_MT_value_103 (by decide) ?_
    refine lv_icmp_ne (tgt := 117) hx hb d_MT_value_105 (by decide) (fun c4 => ?_) (fun c4 => ?_)
    · replace h := o_ff c4 h
      refine lv_iload_n hx hb d_MT_value_117 rfl (lv_at hl 3 rfl) ?_
      refine lv_bipush (v := (116:Int32)) hx hb d_MT_value_118 (by decide) ?_
      refine lv_icmp_ne (tgt := 132) hx hb d_MT_value_120 (by decide) (fun c5 => ?_) (fun c5 => ?_)
      · replace h := o_ff c5 h
        refine lv_iload_n hx hb d_MT_value_132 rfl (lv_at hl 3 rfl) ?_
        refine lv_bipush (v := (102:Int32)) hx hb d_MT_value_133 (by decide) ?_
        refine lv_icmp_ne (tgt := 147) hx hb d_MT_value_135 (by decide) (fun c6 => ?_) (fun c6 => ?_)
        · replace h := o_ff c6 h
          refine lv_iload_n hx hb d_MT_value_147 rfl (lv_at hl 3 rfl) ?_
          refine lv_bipush (v := (34:Int32)) hx hb d_MT_value_148 (by decide) ?_
          refine lv_icmp_ne (tgt := 159) hx hb d_MT_value_150 (by decide) (fun c7 => ?_) (fun c7 => ?_)
          · replace h := o_ff c7 h
            refine lv_iload hx hb d_MT_value_159 (lv_at hl 4 rfl) ?_
            refine lv_if_eq (tgt := 170) hx hb d_MT_value_161 (by decide) (fun c8 => ?_) (fun c8 => ?_)
            · replace h := o_tt c8 h
              refine lv_iload_n hx hb d_MT_value_170 rfl (lv_at hl 2 rfl) ?_
              refine lv_bipush (v := (40:Int32)) hx hb d_MT_value_171 (by decide) ?_
              refine lv_icmp_ne (tgt := 185) hx hb d_MT_value_173 (by decide) (fun c9 => ?_) (fun c9 => ?_)
              · replace h := o_ff c9 h
                refine lv_iload_n hx hb d_MT_value_185 rfl (lv_at hl 3 rfl) ?_
                refine lv_bipush (v := (91:Int32)) hx hb d_MT_value_186 (by decide) ?_
                refine lv_icmp_ne (tgt := 200) hx hb d_MT_value_188 (by decide) (fun c10 => ?_) (fun c10 => ?_)
                · replace h := o_ff c10 h
                  refine lv_aload_n hx hb d_MT_value_200 rfl (lv_at hl 0 rfl) ?_
                  refine lv_iload_n hx hb d_MT_value_201 rfl (lv_at hl 1 rfl) ?_
                  refine lv_iload_n hx hb d_MT_value_202 rfl (lv_at hl 2 rfl) ?_
                  obtain ⟨q3, hq3, h⟩ := o_bd_some h
                  refine o_V (st1 := [.int q3.1]) (w1 := (m_cw ad ca ky ty rt Mm M0 q3.2)) hE.1 C (e_MT_object_b hE hKy l n d rec hrec x1 x2 a0 Mm M0 rt hq3) hP (hDD _ _ _ _) hS hl.1 rfl mw_48 k_9_21 k_9_22 k_9_23 k_1_13 k_9_24 hv_MT_object rfl rfl ⟨(by dsimp only [rm_MT_value, rm_MT_object]; omega), (by dsimp only [rm_MT_value, rm_MT_object]; omega)⟩ rfl (Nat.le_of_ble_eq_true rfl) ⟨Nat.zero_le _, Nat.zero_le _⟩ rfl d_MT_value_203 (fun H locs hP hS => ?_)
                  obtain ⟨g11, h⟩ := o_gd_some h
                  cases h
                  exact o_rz C (o_zb_nar g11) hP hS d_MT_value_206
                · replace h := o_tt c10 h
                  refine lv_aload_n hx hb d_MT_value_191 rfl (lv_at hl 0 rfl) ?_
                  refine lv_iload_n hx hb d_MT_value_192 rfl (lv_at hl 1 rfl) ?_
                  refine lv_iload_n hx hb d_MT_value_193 rfl (lv_at hl 2 rfl) ?_
                  obtain ⟨q4, hq4, h⟩ := o_bd_some h
                  refine o_V (st1 := [.int q4.1]) (w1 := (m_cw ad ca ky ty rt Mm M0 q4.2)) hE.1 C (e_MT_array_b hE hKy l n d rec hrec x1 x2 a0 Mm M0 rt hq4) hP (hDD _ _ _ _) hS hl.1 rfl mw_48 k_9_14 k_9_15 k_9_16 k_1_13 k_9_17 hv_MT_array rfl rfl ⟨(by dsimp only [rm_MT_value, rm_MT_array]; omega), (by dsimp only [rm_MT_value, rm_MT_array]; omega)⟩ rfl (Nat.le_of_ble_eq_true rfl) ⟨Nat.zero_le _, Nat.zero_le _⟩ rfl d_MT_value_194 (fun H locs hP hS => ?_)
                  refine lv_goto (tgt := 206) hx hb d_MT_value_197 (by decide) ?_
                  obtain ⟨g12, h⟩ := o_gd_some h
                  cases h
                  exact o_rz C (o_zb_nar g12) hP hS d_MT_value_206
              · replace h := o_tt c9 h
                refine lv_aload_n hx hb d_MT_value_176 rfl (lv_at hl 0 rfl) ?_
                refine lv_aload_n hx hb d_MT_value_177 rfl (lv_at hl 0 rfl) ?_
                refine o_get (v := .int (MT_at a0)) C in_MT hP 48 mw_48 rfl 15 (by decide) k_7_129 rfl rfl d_MT_value_178 ?_
                obtain ⟨q5, hq5, h⟩ := o_bd_some h
                refine o_V (st1 := [.int q5.1]) (w1 := (m_cw ad ca ky ty rt Mm M0 q5.2)) hE.1 C (e_MT_bad_b hE hKy l (MT_at a0) a0 Mm M0 rt hq5) hP (hDD _ _ _ _) hS hl.1 rfl mw_48 k_8_203 k_8_204 k_8_205 k_1_13 k_8_206 hv_MT_bad rfl rfl ⟨(by dsimp only [rm_MT_value, rm_MT_bad]; omega), (by dsimp only [rm_MT_value, rm_MT_bad]; omega)⟩ rfl (Nat.le_of_ble_eq_true rfl) ⟨Nat.zero_le _, Nat.zero_le _⟩ rfl d_MT_value_181 (fun H locs hP hS => ?_)
                obtain ⟨g13, h⟩ := o_gd_some h
                cases h
                exact o_rz C (o_zb_nar g13) hP hS d_MT_value_184
            · replace h := o_ff c8 h
              refine lv_aload_n hx hb d_MT_value_164 rfl (lv_at hl 0 rfl) ?_
              refine lv_iload_n hx hb d_MT_value_165 rfl (lv_at hl 1 rfl) ?_
              obtain ⟨q6, hq6, h⟩ := o_bd_some h
              refine o_V (st1 := [.int q6.1]) (w1 := (m_cw ad ca ky ty rt Mm M0 q6.2)) hE.1 C (e_MT_number_b hE hKy l n x1 a0 Mm M0 rt hq6) hP (hDD _ _ _ _) hS hl.1 rfl mw_48 k_9_9 k_9_10 k_9_11 k_1_13 k_9_12 hv_MT_number rfl rfl ⟨(by dsimp only [rm_MT_value, rm_MT_number]; omega), (by dsimp only [rm_MT_value, rm_MT_number]; omega)⟩ rfl (Nat.le_of_ble_eq_true rfl) ⟨Nat.zero_le _, Nat.zero_le _⟩ rfl d_MT_value_166 (fun H locs hP hS => ?_)
              obtain ⟨g14, h⟩ := o_gd_some h
              cases h
              exact o_rz C (o_zb_nar g14) hP hS d_MT_value_169
          · replace h := o_tt c7 h
            refine lv_aload_n hx hb d_MT_value_153 rfl (lv_at hl 0 rfl) ?_
            refine lv_iload_n hx hb d_MT_value_154 rfl (lv_at hl 1 rfl) ?_
            obtain ⟨q7, hq7, h⟩ := o_bd_some h
            refine o_V (st1 := [.int q7.1]) (w1 := (m_cw ad ca ky ty rt Mm M0 q7.2)) hE.1 C (e_MT_string_b hE hKy l n x1 a0 Mm M0 rt hq7) hP (hDD _ _ _ _) hS hl.1 rfl mw_48 k_8_220 k_8_221 k_8_222 k_1_13 k_8_223 hv_MT_string rfl rfl ⟨(by dsimp only [rm_MT_value, rm_MT_string]; omega), (by dsimp only [rm_MT_value, rm_MT_string]; omega)⟩ rfl (Nat.le_of_ble_eq_true rfl) ⟨Nat.zero_le _, Nat.zero_le _⟩ rfl d_MT_value_155 (fun H locs hP hS => ?_)
            obtain ⟨g15, h⟩ := o_gd_some h
            cases h
            exact o_rz C (o_zb_nar g15) hP hS d_MT_value_158
        · replace h := o_tt c6 h
          refine lv_aload_n hx hb d_MT_value_138 rfl (lv_at hl 0 rfl) ?_
          refine va_ldcS (q := sd 3) hx hb hown (hE.2.2.2.2.2.1 _ _ _ C.2.2.2.2.2.2.2.2.2 ("SchemaJudgeModel$Text", 115, "false", 3) (List.mem_of_getElem? (i := 86) rfl)) d_MT_value_139 ?_
          refine lv_iload_n hx hb d_MT_value_141 rfl (lv_at hl 1 rfl) ?_
          refine lv_iconst (v := (1:Int32)) hx hb d_MT_value_142 (by decide) ?_
          obtain ⟨q8, hq8, h⟩ := o_bd_some h
          refine o_V (st1 := [.int q8.1]) (w1 := (m_cw ad ca ky ty rt Mm M0 q8.2)) hE.1 C (e_MT_word_b hE hKy l n 3 rfl x1 (1:Int32) a0 Mm M0 rt hq8) hP (hDD _ _ _ _) hS hl.1 rfl mw_48 k_8_208 k_8_209 k_8_210 k_1_13 k_8_211 hv_MT_word rfl rfl ⟨(by dsimp only [rm_MT_value, rm_MT_word]; omega), (by dsimp only [rm_MT_value, rm_MT_word]; omega)⟩ rfl (Nat.le_of_ble_eq_true rfl) ⟨Nat.zero_le _, Nat.zero_le _⟩ rfl d_MT_value_143 (fun H locs hP hS => ?_)
          obtain ⟨g16, h⟩ := o_gd_some h
          cases h
          exact o_rz C (o_zb_nar g16) hP hS d_MT_value_146
      · replace h := o_tt c5 h
        refine lv_aload_n hx hb d_MT_value_123 rfl (lv_at hl 0 rfl) ?_
        refine va_ldcS (q := sd 4) hx hb hown (hE.2.2.2.2.2.1 _ _ _ C.2.2.2.2.2.2.2.2.2 ("SchemaJudgeModel$Text", 113, "true", 4) (List.mem_of_getElem? (i := 85) rfl)) d_MT_value_124 ?_
        refine lv_iload_n hx hb d_MT_value_126 rfl (lv_at hl 1 rfl) ?_
        refine lv_iconst (v := (2:Int32)) hx hb d_MT_value_127 (by decide) ?_
        obtain ⟨q9, hq9, h⟩ := o_bd_some h
        refine o_V (st1 := [.int q9.1]) (w1 := (m_cw ad ca ky ty rt Mm M0 q9.2)) hE.1 C (e_MT_word_b hE hKy l n 4 rfl x1 (2:Int32) a0 Mm M0 rt hq9) hP (hDD _ _ _ _) hS hl.1 rfl mw_48 k_8_208 k_8_209 k_8_210 k_1_13 k_8_211 hv_MT_word rfl rfl ⟨(by dsimp only [rm_MT_value, rm_MT_word]; omega), (by dsimp only [rm_MT_value, rm_MT_word]; omega)⟩ rfl (Nat.le_of_ble_eq_true rfl) ⟨Nat.zero_le _, Nat.zero_le _⟩ rfl d_MT_value_128 (fun H locs hP hS => ?_)
        obtain ⟨g17, h⟩ := o_gd_some h
        cases h
        exact o_rz C (o_zb_nar g17) hP hS d_MT_value_131
    · replace h := o_tt c4 h
      refine lv_aload_n hx hb d_MT_value_108 rfl (lv_at hl 0 rfl) ?_
      refine va_ldcS (q := sd 2) hx hb hown (hE.2.2.2.2.2.1 _ _ _ C.2.2.2.2.2.2.2.2.2 ("SchemaJudgeModel$Text", 107, "null", 2) (List.mem_of_getElem? (i := 84) rfl)) d_MT_value_109 ?_
      refine lv_iload_n hx hb d_MT_value_111 rfl (lv_at hl 1 rfl) ?_
      refine lv_iconst (v := (0:Int32)) hx hb d_MT_value_112 (by decide) ?_
      obtain ⟨q10, hq10, h⟩ := o_bd_some h
      refine o_V (st1 := [.int q10.1]) (w1 := (m_cw ad ca ky ty rt Mm M0 q10.2)) hE.1 C (e_MT_word_b hE hKy l n 2 rfl x1 (0:Int32) a0 Mm M0 rt hq10) hP (hDD _ _ _ _) hS hl.1 rfl mw_48 k_8_208 k_8_209 k_8_210 k_1_13 k_8_211 hv_MT_word rfl rfl ⟨(by dsimp only [rm_MT_value, rm_MT_word]; omega), (by dsimp only [rm_MT_value, rm_MT_word]; omega)⟩ rfl (Nat.le_of_ble_eq_true rfl) ⟨Nat.zero_le _, Nat.zero_le _⟩ rfl d_MT_value_113 (fun H locs hP hS => ?_)
      obtain ⟨g18, h⟩ := o_gd_some h
      cases h
      exact o_rz C (o_zb_nar g18) hP hS d_MT_value_116
  · replace h := o_tt c3 h
    refine lv_aload_n hx hb d_MT_value_93 rfl (lv_at hl 0 rfl) ?_
    refine lv_aload_n hx hb d_MT_value_94 rfl (lv_at hl 0 rfl) ?_
    refine o_get (v := .int (MT_at a0)) C in_MT hP 48 mw_48 rfl 15 (by decide) k_7_129 rfl rfl d_MT_value_95 ?_
    obtain ⟨q11, hq11, h⟩ := o_bd_some h
    refine o_V (st1 := [.int q11.1]) (w1 := (m_cw ad ca ky ty rt Mm M0 q11.2)) hE.1 C (e_MT_bad_b hE hKy l (MT_at a0) a0 Mm M0 rt hq11) hP (hDD _ _ _ _) hS hl.1 rfl mw_48 k_8_203 k_8_204 k_8_205 k_1_13 k_8_206 hv_MT_bad rfl rfl ⟨(by dsimp only [rm_MT_value, rm_MT_bad]; omega), (by dsimp only [rm_MT_value, rm_MT_bad]; omega)⟩ rfl (Nat.le_of_ble_eq_true rfl) ⟨Nat.zero_le _, Nat.zero_le _⟩ rfl d_MT_value_98 (fun H locs hP hS => ?_)
    obtain ⟨g19, h⟩ := o_gd_some h
    cases h
    exact o_rz C (o_zb_nar g19) hP hS d_MT_value_101
set_option maxHeartbeats 4000000 in
set_option maxRecDepth 100000 in
theorem f_MT_value_j31_b {E : (Nat → Prop) → State → Heap → Prop} {p : Program} {l : Launch} {e : Env} {s : State} {m : MethodId} {args : Array Value} {below : List Frame} {meth : Method} {c : Code} {D : va_G} {ad kd sd vd xd : Nat → Nat} {ca : Nat → ClassId} {A : Nat → Prop} {ky ty : Nat → Option Nat} (hE : o_EK E kd sd vd xd) (hKy : m_KY ky ty sd) (C : o_Cx E p s m args meth c D m_cls (m_tys ca) "SchemaJudgeModel$Text" b_MT_value (some .boolean) 5 cc_MT_value A) (hDD : ∀ (rt : Nat) (Mm : SMM) (M0 : SMT) (M1 : SMT), va_D A (m_cw ad ca ky ty rt Mm M0 M1)) (d : Nat) (rec : Int32 → Int32 → SMT → Option (Int32 × SMT)) (hrec : ∀ (x1 : Int32) (x2 : Int32) (a0 : SMT) (Mm : SMM) (M0 : SMT) (rt : Nat) (r : Int32 × SMT), rec x1 x2 a0 = some r → o_Cn E l D m_cls (m_tys ca) y_MT_value cc_MT_value (rm_MT_value d) [.ref (ad 48), .int x1, .int x2] (m_cw ad ca ky ty rt Mm M0 a0) (m_cw ad ca ky ty rt Mm M0 r.2) (some (.int r.1))) (n : Nat) (x1 : Int32) (x2 : Int32) (x3 : Int32) (y0 : Int32) (a0 : SMT) (Mm : SMM) (M0 : SMT) (rt : Nat) {r : Int32 × SMT} (h : m_MT_value_j31 n rec x1 x2 x3 y0 a0 = some r) : o_At p l e (rm_MT_value (d + 1)) s m args below meth c (MQ below (o_Qx D m_cls (some (.int r.1)) (m_cw ad ca ky ty rt Mm M0 r.2) A) args s 0 0 A) m_cls D A 5 31 [.int y0] (m_cw ad ca ky ty rt Mm M0 a0) [(0, .ref (ad 48)), (1, .int x1), (2, .int x2), (3, .int x3)] := by
  unfold m_MT_value_j31 at h
  intro H locs ls hP hS hl
  have C0 := C
  obtain ⟨hx, hb, -, -, -, hown, hts, hK, -, -⟩ := C0
  refine lv_istore (lv' := [(4, .int y0), (0, .ref (ad 48)), (1, .int x1), (2, .int x2), (3, .int x3)]) hx hb d_MT_value_31 hl (by decide) rfl (fun ls hl => ?_)
  refine lv_iload_n hx hb d_MT_value_33 rfl (lv_at hl 4 rfl) ?_
  refine lv_bipush (v := (110:Int32)) hx hb d_MT_value_34 (by decide) ?_
  refine lv_icmp_eq (tgt := 83) hx hb d_MT_value_36 (by decide) (fun c2 => ?_) (fun c2 => ?_)
  · replace h := o_tt c2 h
    exact f_MT_value_j83_b hE hKy C hDD d rec hrec n x1 x2 x3 y0 a0 Mm M0 rt h _ _ _ hP hS (lv_sub hl [1, 2, 3, 4, 0] rfl)
  · replace h := o_ff c2 h
    refine lv_iload_n hx hb d_MT_value_39 rfl (lv_at hl 4 rfl) ?_
    refine lv_bipush (v := (116:Int32)) hx hb d_MT_value_40 (by decide) ?_
    refine lv_icmp_eq (tgt := 83) hx hb d_MT_value_42 (by decide) (fun c20 => ?_) (fun c20 => ?_)
    · replace h := o_tt c20 h
      exact f_MT_value_j83_b hE hKy C hDD d rec hrec n x1 x2 x3 y0 a0 Mm M0 rt h _ _ _ hP hS (lv_sub hl [1, 2, 3, 4, 0] rfl)
    · replace h := o_ff c20 h
      refine lv_iload_n hx hb d_MT_value_45 rfl (lv_at hl 4 rfl) ?_
      refine lv_bipush (v := (102:Int32)) hx hb d_MT_value_46 (by decide) ?_
      refine lv_icmp_eq (tgt := 83) hx hb d_MT_value_48 (by decide) (fun c21 => ?_) (fun c21 => ?_)
      · replace h := o_tt c21 h
        exact f_MT_value_j83_b hE hKy C hDD d rec hrec n x1 x2 x3 y0 a0 Mm M0 rt h _ _ _ hP hS (lv_sub hl [1, 2, 3, 4, 0] rfl)
      · replace h := o_ff c21 h
        refine lv_iload_n hx hb d_MT_value_51 rfl (lv_at hl 4 rfl) ?_
        refine lv_bipush (v := (34:Int32)) hx hb d_MT_value_52 (by decide) ?_
        refine lv_icmp_eq (tgt := 83) hx hb d_MT_value_54 (by decide) (fun c22 => ?_) (fun c22 => ?_)
        · replace h := o_tt c22 h
          exact f_MT_value_j83_b hE hKy C hDD d rec hrec n x1 x2 x3 y0 a0 Mm M0 rt h _ _ _ hP hS (lv_sub hl [1, 2, 3, 4, 0] rfl)
        · replace h := o_ff c22 h
          refine lv_iload_n hx hb d_MT_value_57 rfl (lv_at hl 4 rfl) ?_
          refine lv_bipush (v := (91:Int32)) hx hb d_MT_value_58 (by decide) ?_
          refine lv_icmp_eq (tgt := 83) hx hb d_MT_value_60 (by decide) (fun c23 => ?_) (fun c23 => ?_)
          · replace h := o_tt c23 h
            exact f_MT_value_j83_b hE hKy C hDD d rec hrec n x1 x2 x3 y0 a0 Mm M0 rt h _ _ _ hP hS (lv_sub hl [1, 2, 3, 4, 0] rfl)
          · replace h := o_ff c23 h
            refine lv_iload_n hx hb d_MT_value_63 rfl (lv_at hl 4 rfl) ?_
            refine lv_bipush (v := (123:Int32)) hx hb d_MT_value_64 (by decide) ?_
            refine lv_icmp_eq (tgt := 83) hx hb d_MT_value_66 (by decide) (fun c24 => ?_) (fun c24 => ?_)
            · replace h := o_tt c24 h
              exact f_MT_value_j83_b hE hKy C hDD d rec hrec n x1 x2 x3 y0 a0 Mm M0 rt h _ _ _ hP hS (lv_sub hl [1, 2, 3, 4, 0] rfl)
            · replace h := o_ff c24 h
              refine lv_iload hx hb d_MT_value_69 (lv_at hl 0 rfl) ?_
              refine lv_if_ne (tgt := 83) hx hb d_MT_value_71 (by decide) (fun c25 => ?_) (fun c25 => ?_)
              · replace h := o_ff c25 h
                exact f_MT_value_j83_b hE hKy C hDD d rec hrec n x1 x2 x3 y0 a0 Mm M0 rt h _ _ _ hP hS (lv_sub hl [1, 2, 3, 4, 0] rfl)
              · replace h := o_tt c25 h
                refine lv_aload_n hx hb d_MT_value_74 rfl (lv_at hl 1 rfl) ?_
                refine lv_aload_n hx hb d_MT_value_75 rfl (lv_at hl 1 rfl) ?_
                refine o_get (v := .int (MT_at a0)) C in_MT hP 48 mw_48 rfl 15 (by decide) k_7_129 rfl rfl d_MT_value_76 ?_
                obtain ⟨q12, hq12, h⟩ := o_bd_some h
                refine o_V (st1 := [.int q12.1]) (w1 := (m_cw ad ca ky ty rt Mm M0 q12.2)) hE.1 C (e_MT_bad_b hE hKy l (MT_at a0) a0 Mm M0 rt hq12) hP (hDD _ _ _ _) hS hl.1 rfl mw_48 k_8_203 k_8_204 k_8_205 k_1_13 k_8_206 hv_MT_bad rfl rfl ⟨(by dsimp only [rm_MT_value, rm_MT_bad]; omega), (by dsimp only [rm_MT_value, rm_MT_bad]; omega)⟩ rfl (Nat.le_of_ble_eq_true rfl) ⟨Nat.zero_le _, Nat.zero_le _⟩ rfl d_MT_value_79 (fun H locs hP hS => ?_)
                obtain ⟨g26, h⟩ := o_gd_some h
                cases h
                exact o_rz C (o_zb_nar g26) hP hS d_MT_value_82
set_option maxHeartbeats 4000000 in
set_option maxRecDepth 100000 in
theorem e_MT_value_b_F {E : (Nat → Prop) → State → Heap → Prop} {D : va_G} {ad kd sd vd xd : Nat → Nat} {ca : Nat → ClassId} {ky ty : Nat → Option Nat} (hE : o_EK E kd sd vd xd) (hKy : m_KY ky ty sd) (l : Launch) (n : Nat) (d : Nat) (rec : Int32 → Int32 → SMT → Option (Int32 × SMT)) (hrec : ∀ (x1 : Int32) (x2 : Int32) (a0 : SMT) (Mm : SMM) (M0 : SMT) (rt : Nat) (r : Int32 × SMT), rec x1 x2 a0 = some r → o_Cn E l D m_cls (m_tys ca) y_MT_value cc_MT_value (rm_MT_value d) [.ref (ad 48), .int x1, .int x2] (m_cw ad ca ky ty rt Mm M0 a0) (m_cw ad ca ky ty rt Mm M0 r.2) (some (.int r.1))) (x1 : Int32) (x2 : Int32) (a0 : SMT) (Mm : SMM) (M0 : SMT) (rt : Nat) {r : Int32 × SMT} (h : m_MT_value_F n rec x1 x2 a0 = some r) : o_Cn E l D m_cls (m_tys ca) y_MT_value cc_MT_value (rm_MT_value (d + 1)) [.ref (ad 48), .int x1, .int x2] (m_cw ad ca ky ty rt Mm M0 a0) (m_cw ad ca ky ty rt Mm M0 r.2) (some (.int r.1)) := by
  refine o_Cn_of (by decide) (Nat.le_of_ble_eq_true rfl) ?_
  intro p e s m below meth c A ls C hD hP hS hl
  have hDD : ∀ (rt : Nat) (Mm : SMM) (M0 : SMT) (M1 : SMT), va_D A (m_cw ad ca ky ty rt Mm M0 M1) := fun _ _ _ _ => o_D_map hD rfl
  have hl : lv_has ls 5 [(0, .ref (ad 48)), (1, .int x1), (2, .int x2)] := hl
  unfold m_MT_value_F at h
  have C0 := C
  obtain ⟨hx, hb, -, -, -, hown, hts, hK, -, -⟩ := C0
  refine lv_aload_n hx hb d_MT_value_0 rfl (lv_at hl 0 rfl) ?_
  refine lv_aload_n hx hb d_MT_value_1 rfl (lv_at hl 0 rfl) ?_
  refine o_get (v := .int (MT_at a0)) C in_MT hP 48 mw_48 rfl 15 (by decide) k_7_129 rfl rfl d_MT_value_2 ?_
  obtain ⟨q1, hq1, h⟩ := o_bd_some h
  refine o_V (st1 := [.int q1]) (w1 := (m_cw ad ca ky ty rt Mm M0 a0)) hE.1 C (e_MT_c_b hE hKy l (MT_at a0) a0 Mm M0 rt hq1) hP (hDD _ _ _ _) hS hl.1 rfl mw_48 k_8_192 k_8_193 k_8_194 k_1_13 k_8_195 hv_MT_c rfl rfl ⟨(by dsimp only [rm_MT_value, rm_MT_c]; omega), (by dsimp only [rm_MT_value, rm_MT_c]; omega)⟩ rfl (Nat.le_of_ble_eq_true rfl) ⟨Nat.zero_le _, Nat.zero_le _⟩ rfl d_MT_value_5 (fun H locs hP hS => ?_)
  refine lv_istore_n (lv' := [(3, .int q1), (0, .ref (ad 48)), (1, .int x1), (2, .int x2)]) hx hb d_MT_value_8 rfl hl (by decide) rfl (fun ls hl => ?_)
  refine lv_iload_n hx hb d_MT_value_9 rfl (lv_at hl 0 rfl) ?_
  refine lv_bipush (v := (48:Int32)) hx hb d_MT_value_10 (by decide) ?_
  refine lv_bipush (v := (57:Int32)) hx hb d_MT_value_12 (by decide) ?_
  obtain ⟨q2, hq2, h⟩ := o_bd_some h
  refine o_SN (st1 := [.int q2]) (w1 := (m_cw ad ca ky ty rt Mm M0 a0)) hE.1 C (e_MM_in hE hKy l q1 (48:Int32) (57:Int32) Mm M0 a0 rt hq2) hP (hDD _ _ _ _) hS hl.1 (hE.2.1 _ _ _ C.2.2.2.2.2.2.2.2.2 _ nw_21) k_8_201 k_1_12 k_8_202 hs_MM_in rfl rfl ⟨(by dsimp only [rm_MT_value, rm_MM_in]; omega), (by dsimp only [rm_MT_value, rm_MM_in]; omega)⟩ rfl (Nat.le_of_ble_eq_true rfl) ⟨Nat.zero_le _, Nat.zero_le _⟩ rfl d_MT_value_14 (fun H locs hP hS => ?_)
  refine lv_if_ne (tgt := 26) hx hb d_MT_value_17 (by decide) (fun c1 => ?_) (fun c1 => ?_)
  · replace h := o_ff c1 h
    refine lv_iconst (v := (1:Int32)) hx hb d_MT_value_26 (by decide) ?_
    refine lv_goto (tgt := 31) hx hb d_MT_value_27 (by decide) ?_
    exact f_MT_value_j31_b hE hKy C hDD d rec hrec n x1 x2 q1 (1:Int32) a0 Mm M0 rt h _ _ _ hP hS (lv_sub hl [1, 2, 3, 0] rfl)
  · replace h := o_tt c1 h
    refine lv_iload_n hx hb d_MT_value_20 rfl (lv_at hl 0 rfl) ?_
    refine lv_bipush (v := (45:Int32)) hx hb d_MT_value_21 (by decide) ?_
    refine lv_icmp_ne (tgt := 30) hx hb d_MT_value_23 (by decide) (fun c27 => ?_) (fun c27 => ?_)
    · replace h := o_ff c27 h
      refine lv_iconst (v := (0:Int32)) hx hb d_MT_value_30 (by decide) ?_
      exact f_MT_value_j31_b hE hKy C hDD d rec hrec n x1 x2 q1 (0:Int32) a0 Mm M0 rt h _ _ _ hP hS (lv_sub hl [1, 2, 3, 0] rfl)
    · replace h := o_tt c27 h
      refine lv_iconst (v := (1:Int32)) hx hb d_MT_value_26 (by decide) ?_
      refine lv_goto (tgt := 31) hx hb d_MT_value_27 (by decide) ?_
      exact f_MT_value_j31_b hE hKy C hDD d rec hrec n x1 x2 q1 (1:Int32) a0 Mm M0 rt h _ _ _ hP hS (lv_sub hl [1, 2, 3, 0] rfl)
set_option maxHeartbeats 4000000 in
set_option maxRecDepth 100000 in
theorem e_MT_value_b {E : (Nat → Prop) → State → Heap → Prop} {D : va_G} {ad kd sd vd xd : Nat → Nat} {ca : Nat → ClassId} {ky ty : Nat → Option Nat} (hE : o_EK E kd sd vd xd) (hKy : m_KY ky ty sd) (l : Launch) (n : Nat) (d : Nat) (x1 : Int32) (x2 : Int32) (a0 : SMT) (Mm : SMM) (M0 : SMT) (rt : Nat) {r : Int32 × SMT} (h : m_MT_value n d x1 x2 a0 = some r) : o_Cn E l D m_cls (m_tys ca) y_MT_value cc_MT_value (rm_MT_value d) [.ref (ad 48), .int x1, .int x2] (m_cw ad ca ky ty rt Mm M0 a0) (m_cw ad ca ky ty rt Mm M0 r.2) (some (.int r.1)) := by
  induction d generalizing x1 x2 a0 Mm M0 rt r with
  | zero => cases h
  | succ d ih =>
    exact e_MT_value_b_F hE hKy l n d (m_MT_value n d) (fun x1 x2 a0 Mm M0 rt r h => ih x1 x2 a0 Mm M0 rt h) _ _ _ _ _ _ h
set_option maxHeartbeats 4000000 in
set_option maxRecDepth 100000 in
theorem f_MT_read_j67_a {E : (Nat → Prop) → State → Heap → Prop} {p : Program} {l : Launch} {e : Env} {s : State} {m : MethodId} {args : Array Value} {below : List Frame} {meth : Method} {c : Code} {D : va_G} {ad kd sd vd xd : Nat → Nat} {ca : Nat → ClassId} {A : Nat → Prop} {ky ty : Nat → Option Nat} (hE : o_EK E kd sd vd xd) (hKy : m_KY ky ty sd) (C : o_Cx E p s m args meth c D m_cls (m_tys ca) "SchemaJudgeModel$Text" b_MT_read (some .int) 2 cc_MT_read A) (hDD : ∀ (rt : Nat) (Mm : SMM) (M0 : SMT) (M1 : SMT), va_D A (m_cw ad ca ky ty rt Mm M0 M1)) (n : Nat)  (a0 : SMT) (Mm : SMM) (M1 : SMT) (rt : Nat) {r : Int32 × SMT} (h : m_MT_read_j67 n a0 = some r) : o_At p l e rm_MT_read s m args below meth c (MQ below (o_Qx D m_cls (some (.int r.1)) (m_cw ad ca ky ty rt Mm r.2 M1) A) args s 0 0 A) m_cls D A 2 67 [] (m_cw ad ca ky ty rt Mm a0 M1) [(0, .ref (ad 33))] := by
  unfold m_MT_read_j67 at h
  intro H locs ls hP hS hl
  have C0 := C
  obtain ⟨hx, hb, -, -, -, hown, hts, hK, -, -⟩ := C0
  refine lv_aload_n hx hb d_MT_read_67 rfl (lv_at hl 0 rfl) ?_
  refine o_get (v := .int (MT_wrong a0)) C in_MT hP 33 mw_33 rfl 16 (by decide) k_7_130 rfl rfl d_MT_read_68 ?_
  refine lv_if_lt (tgt := 79) hx hb d_MT_read_71 (by decide) (fun c2 => ?_) (fun c2 => ?_)
  · replace h := o_tt c2 h
    refine lv_aload_n hx hb d_MT_read_79 rfl (lv_at hl 0 rfl) ?_
    refine o_get (v := .int (MT_wrong a0)) C in_MT hP 33 mw_33 rfl 16 (by decide) k_7_130 rfl rfl d_MT_read_80 ?_
    cases h
    exact o_ri (v := (MT_wrong a0)) C hP hS d_MT_read_83
  · replace h := o_ff c2 h
    refine lv_aload_n hx hb d_MT_read_74 rfl (lv_at hl 0 rfl) ?_
    refine lv_iconst (v := (0:Int32)) hx hb d_MT_read_75 (by decide) ?_
    refine o_put (v := .int (0:Int32)) (ty := .int) (w1 := (m_cw ad ca ky ty rt Mm (MT_mk (MT_text a0) (MT_kind a0) (MT_place a0) (MT_many a0) (MT_parent a0) (MT_power a0) (MT_first a0) (MT_next a0) (MT_name a0) (MT_from a0) (MT_characters a0) (MT_digits a0) (MT_minus a0) (0:Int32) (MT_letters a0) (MT_at a0) (MT_wrong a0) (MT_used a0) (MT_written a0) (MT_left a0)) M1)) C in_MT t_MT t_MT_ok n_MT hP (hDD _ _ _ _) hS 33 mw_33 rfl 13 (by decide) k_7_126 rfl rfl (by decide +kernel) rfl rfl (Nat.le_of_ble_eq_true rfl) rfl d_MT_read_76 (fun H locs hP hS => ?_)
    refine lv_aload_n hx hb d_MT_read_79 rfl (lv_at hl 0 rfl) ?_
    refine o_get (v := .int (MT_wrong a0)) C in_MT hP 33 mw_33 rfl 16 (by decide) k_7_130 rfl rfl d_MT_read_80 ?_
    cases h
    exact o_ri (v := (MT_wrong a0)) C hP hS d_MT_read_83
set_option maxHeartbeats 4000000 in
set_option maxRecDepth 100000 in
theorem e_MT_read_a {E : (Nat → Prop) → State → Heap → Prop} {D : va_G} {ad kd sd vd xd : Nat → Nat} {ca : Nat → ClassId} {ky ty : Nat → Option Nat} (hE : o_EK E kd sd vd xd) (hKy : m_KY ky ty sd) (l : Launch) (n : Nat) (x1 : Int32) (a0 : SMT) (Mm : SMM) (M1 : SMT) (rt : Nat) {r : Int32 × SMT} (h : m_MT_read n x1 a0 = some r) : o_Cn E l D m_cls (m_tys ca) y_MT_read cc_MT_read rm_MT_read [.ref (ad 33), .int x1] (m_cw ad ca ky ty rt Mm a0 M1) (m_cw ad ca ky ty rt Mm r.2 M1) (some (.int r.1)) := by
  refine o_Cn_of (by decide) (Nat.le_of_ble_eq_true rfl) ?_
  intro p e s m below meth c A ls C hD hP hS hl
  have hDD : ∀ (rt : Nat) (Mm : SMM) (M0 : SMT) (M1 : SMT), va_D A (m_cw ad ca ky ty rt Mm M0 M1) := fun _ _ _ _ => o_D_map hD rfl
  have hl : lv_has ls 2 [(0, .ref (ad 33)), (1, .int x1)] := hl
  unfold m_MT_read at h
  have C0 := C
  obtain ⟨hx, hb, -, -, -, hown, hts, hK, -, -⟩ := C0
  refine lv_aload_n hx hb d_MT_read_0 rfl (lv_at hl 0 rfl) ?_
  refine lv_iload_n hx hb d_MT_read_1 rfl (lv_at hl 1 rfl) ?_
  refine o_put (v := .int x1) (ty := .int) (w1 := (m_cw ad ca ky ty rt Mm (MT_mk (MT_text a0) (MT_kind a0) (MT_place a0) (MT_many a0) (MT_parent a0) (MT_power a0) (MT_first a0) (MT_next a0) (MT_name a0) (MT_from a0) (MT_characters a0) (MT_digits a0) (MT_minus a0) (MT_values a0) x1 (MT_at a0) (MT_wrong a0) (MT_used a0) (MT_written a0) (MT_left a0)) M1)) C in_MT t_MT t_MT_ok n_MT hP (hDD _ _ _ _) hS 33 mw_33 rfl 14 (by decide) k_7_128 rfl rfl (by decide +kernel) rfl rfl (Nat.le_of_ble_eq_true rfl) rfl d_MT_read_2 (fun H locs hP hS => ?_)
  refine lv_aload_n hx hb d_MT_read_5 rfl (lv_at hl 0 rfl) ?_
  refine lv_iconst (v := (0:Int32)) hx hb d_MT_read_6 (by decide) ?_
  refine o_put (v := .int (0:Int32)) (ty := .int) (w1 := (m_cw ad ca ky ty rt Mm (MT_mk (MT_text a0) (MT_kind a0) (MT_place a0) (MT_many a0) (MT_parent a0) (MT_power a0) (MT_first a0) (MT_next a0) (MT_name a0) (MT_from a0) (MT_characters a0) (MT_digits a0) (MT_minus a0) (MT_values a0) x1 (0:Int32) (MT_wrong a0) (MT_used a0) (MT_written a0) (MT_left a0)) M1)) C in_MT t_MT t_MT_ok n_MT hP (hDD _ _ _ _) hS 33 mw_33 rfl 15 (by decide) k_7_129 rfl rfl (by decide +kernel) rfl rfl (Nat.le_of_ble_eq_true rfl) rfl d_MT_read_7 (fun H locs hP hS => ?_)
  refine lv_aload_n hx hb d_MT_read_10 rfl (lv_at hl 0 rfl) ?_
  refine lv_iconst (v := (-1:Int32)) hx hb d_MT_read_11 (by decide) ?_
  refine o_put (v := .int (-1:Int32)) (ty := .int) (w1 := (m_cw ad ca ky ty rt Mm (MT_mk (MT_text a0) (MT_kind a0) (MT_place a0) (MT_many a0) (MT_parent a0) (MT_power a0) (MT_first a0) (MT_next a0) (MT_name a0) (MT_from a0) (MT_characters a0) (MT_digits a0) (MT_minus a0) (MT_values a0) x1 (0:Int32) (-1:Int32) (MT_used a0) (MT_written a0) (MT_left a0)) M1)) C in_MT t_MT t_MT_ok n_MT hP (hDD _ _ _ _) hS 33 mw_33 rfl 16 (by decide) k_7_130 rfl rfl (by decide +kernel) rfl rfl (Nat.le_of_ble_eq_true rfl) rfl d_MT_read_12 (fun H locs hP hS => ?_)
  refine lv_aload_n hx hb d_MT_read_15 rfl (lv_at hl 0 rfl) ?_
  refine lv_iconst (v := (0:Int32)) hx hb d_MT_read_16 (by decide) ?_
  refine o_put (v := .int (0:Int32)) (ty := .int) (w1 := (m_cw ad ca ky ty rt Mm (MT_mk (MT_text a0) (MT_kind a0) (MT_place a0) (MT_many a0) (MT_parent a0) (MT_power a0) (MT_first a0) (MT_next a0) (MT_name a0) (MT_from a0) (MT_characters a0) (MT_digits a0) (MT_minus a0) (0:Int32) x1 (0:Int32) (-1:Int32) (MT_used a0) (MT_written a0) (MT_left a0)) M1)) C in_MT t_MT t_MT_ok n_MT hP (hDD _ _ _ _) hS 33 mw_33 rfl 13 (by decide) k_7_126 rfl rfl (by decide +kernel) rfl rfl (Nat.le_of_ble_eq_true rfl) rfl d_MT_read_17 (fun H locs hP hS => ?_)
  refine lv_aload_n hx hb d_MT_read_20 rfl (lv_at hl 0 rfl) ?_
  refine lv_iconst (v := (0:Int32)) hx hb d_MT_read_21 (by decide) ?_
  refine o_put (v := .int (0:Int32)) (ty := .int) (w1 := (m_cw ad ca ky ty rt Mm (MT_mk (MT_text a0) (MT_kind a0) (MT_place a0) (MT_many a0) (MT_parent a0) (MT_power a0) (MT_first a0) (MT_next a0) (MT_name a0) (MT_from a0) (MT_characters a0) (MT_digits a0) (MT_minus a0) (0:Int32) x1 (0:Int32) (-1:Int32) (0:Int32) (MT_written a0) (MT_left a0)) M1)) C in_MT t_MT t_MT_ok n_MT hP (hDD _ _ _ _) hS 33 mw_33 rfl 17 (by decide) k_7_131 rfl rfl (by decide +kernel) rfl rfl (Nat.le_of_ble_eq_true rfl) rfl d_MT_read_22 (fun H locs hP hS => ?_)
  refine lv_aload_n hx hb d_MT_read_25 rfl (lv_at hl 0 rfl) ?_
  refine lv_iconst (v := (0:Int32)) hx hb d_MT_read_26 (by decide) ?_
  refine o_put (v := .int (0:Int32)) (ty := .int) (w1 := (m_cw ad ca ky ty rt Mm (MT_mk (MT_text a0) (MT_kind a0) (MT_place a0) (MT_many a0) (MT_parent a0) (MT_power a0) (MT_first a0) (MT_next a0) (MT_name a0) (MT_from a0) (MT_characters a0) (MT_digits a0) (MT_minus a0) (0:Int32) x1 (0:Int32) (-1:Int32) (0:Int32) (0:Int32) (MT_left a0)) M1)) C in_MT t_MT t_MT_ok n_MT hP (hDD _ _ _ _) hS 33 mw_33 rfl 18 (by decide) k_7_132 rfl rfl (by decide +kernel) rfl rfl (Nat.le_of_ble_eq_true rfl) rfl d_MT_read_27 (fun H locs hP hS => ?_)
  refine lv_aload_n hx hb d_MT_read_30 rfl (lv_at hl 0 rfl) ?_
  obtain ⟨q1, hq1, h⟩ := o_bd_some h
  refine o_V (st1 := []) (w1 := (m_cw ad ca ky ty rt Mm q1 M1)) hE.1 C (e_MT_blanks_a hE hKy l n (MT_mk (MT_text a0) (MT_kind a0) (MT_place a0) (MT_many a0) (MT_parent a0) (MT_power a0) (MT_first a0) (MT_next a0) (MT_name a0) (MT_from a0) (MT_characters a0) (MT_digits a0) (MT_minus a0) (0:Int32) x1 (0:Int32) (-1:Int32) (0:Int32) (0:Int32) (MT_left a0)) Mm M1 rt hq1) hP (hDD _ _ _ _) hS hl.1 rfl mw_33 k_8_188 k_8_189 k_8_190 k_1_13 k_8_191 hv_MT_blanks rfl rfl ⟨(Nat.le_of_ble_eq_true rfl), (Nat.le_of_ble_eq_true rfl)⟩ rfl (Nat.le_of_ble_eq_true rfl) ⟨Nat.zero_le _, Nat.zero_le _⟩ rfl d_MT_read_31 (fun H locs hP hS => ?_)
  refine lv_aload_n hx hb d_MT_read_34 rfl (lv_at hl 0 rfl) ?_
  refine lv_iconst (v := (-1:Int32)) hx hb d_MT_read_35 (by decide) ?_
  refine lv_iconst (v := (0:Int32)) hx hb d_MT_read_36 (by decide) ?_
  obtain ⟨q2, hq2, h⟩ := o_bd_some h
  refine o_V (st1 := [.int q2.1]) (w1 := (m_cw ad ca ky ty rt Mm q2.2 M1)) hE.1 C (e_MT_value_a hE hKy l n 43 (-1:Int32) (0:Int32) q1 Mm M1 rt hq2) hP (hDD _ _ _ _) hS hl.1 rfl mw_33 k_8_196 k_8_197 k_8_198 k_1_13 k_8_199 hv_MT_value rfl rfl ⟨(Nat.le_of_ble_eq_true rfl), (Nat.le_of_ble_eq_true rfl)⟩ rfl (Nat.le_of_ble_eq_true rfl) ⟨Nat.zero_le _, Nat.zero_le _⟩ rfl d_MT_read_37 (fun H locs hP hS => ?_)
  refine lv_if_eq (tgt := 67) hx hb d_MT_read_40 (by decide) (fun c1 => ?_) (fun c1 => ?_)
  · replace h := o_tt c1 h
    exact f_MT_read_j67_a hE hKy C hDD n q2.2 Mm M1 rt h _ _ _ hP hS (lv_sub hl [0] rfl)
  · replace h := o_ff c1 h
    refine lv_aload_n hx hb d_MT_read_43 rfl (lv_at hl 0 rfl) ?_
    obtain ⟨q3, hq3, h⟩ := o_bd_some h
    refine o_V (st1 := []) (w1 := (m_cw ad ca ky ty rt Mm q3 M1)) hE.1 C (e_MT_blanks_a hE hKy l n q2.2 Mm M1 rt hq3) hP (hDD _ _ _ _) hS hl.1 rfl mw_33 k_8_188 k_8_189 k_8_190 k_1_13 k_8_191 hv_MT_blanks rfl rfl ⟨(Nat.le_of_ble_eq_true rfl), (Nat.le_of_ble_eq_true rfl)⟩ rfl (Nat.le_of_ble_eq_true rfl) ⟨Nat.zero_le _, Nat.zero_le _⟩ rfl d_MT_read_44 (fun H locs hP hS => ?_)
    refine lv_aload_n hx hb d_MT_read_47 rfl (lv_at hl 0 rfl) ?_
    refine o_get (v := .int (MT_at q3)) C in_MT hP 33 mw_33 rfl 15 (by decide) k_7_129 rfl rfl d_MT_read_48 ?_
    refine lv_aload_n hx hb d_MT_read_51 rfl (lv_at hl 0 rfl) ?_
    refine o_get (v := .int (MT_letters q3)) C in_MT hP 33 mw_33 rfl 14 (by decide) k_7_128 rfl rfl d_MT_read_52 ?_
    refine lv_icmp_ge (tgt := 67) hx hb d_MT_read_55 (by decide) (fun c3 => ?_) (fun c3 => ?_)
    · replace h := o_tt c3 h
      exact f_MT_read_j67_a hE hKy C hDD n q3 Mm M1 rt h _ _ _ hP hS (lv_sub hl [0] rfl)
    · replace h := o_ff c3 h
      refine lv_aload_n hx hb d_MT_read_58 rfl (lv_at hl 0 rfl) ?_
      refine lv_aload_n hx hb d_MT_read_59 rfl (lv_at hl 0 rfl) ?_
      refine o_get (v := .int (MT_at q3)) C in_MT hP 33 mw_33 rfl 15 (by decide) k_7_129 rfl rfl d_MT_read_60 ?_
      obtain ⟨q4, hq4, h⟩ := o_bd_some h
      refine o_V (st1 := [.int q4.1]) (w1 := (m_cw ad ca ky ty rt Mm q4.2 M1)) hE.1 C (e_MT_bad_a hE hKy l (MT_at q3) q3 Mm M1 rt hq4) hP (hDD _ _ _ _) hS hl.1 rfl mw_33 k_8_203 k_8_204 k_8_205 k_1_13 k_8_206 hv_MT_bad rfl rfl ⟨(Nat.le_of_ble_eq_true rfl), (Nat.le_of_ble_eq_true rfl)⟩ rfl (Nat.le_of_ble_eq_true rfl) ⟨Nat.zero_le _, Nat.zero_le _⟩ rfl d_MT_read_63 (fun H locs hP hS => ?_)
      refine lv_pop hx hb d_MT_read_66 rfl ?_
      exact f_MT_read_j67_a hE hKy C hDD n q4.2 Mm M1 rt h _ _ _ hP hS (lv_sub hl [0] rfl)
set_option maxHeartbeats 4000000 in
set_option maxRecDepth 100000 in
theorem f_MT_read_j67_b {E : (Nat → Prop) → State → Heap → Prop} {p : Program} {l : Launch} {e : Env} {s : State} {m : MethodId} {args : Array Value} {below : List Frame} {meth : Method} {c : Code} {D : va_G} {ad kd sd vd xd : Nat → Nat} {ca : Nat → ClassId} {A : Nat → Prop} {ky ty : Nat → Option Nat} (hE : o_EK E kd sd vd xd) (hKy : m_KY ky ty sd) (C : o_Cx E p s m args meth c D m_cls (m_tys ca) "SchemaJudgeModel$Text" b_MT_read (some .int) 2 cc_MT_read A) (hDD : ∀ (rt : Nat) (Mm : SMM) (M0 : SMT) (M1 : SMT), va_D A (m_cw ad ca ky ty rt Mm M0 M1)) (n : Nat)  (a0 : SMT) (Mm : SMM) (M0 : SMT) (rt : Nat) {r : Int32 × SMT} (h : m_MT_read_j67 n a0 = some r) : o_At p l e rm_MT_read s m args below meth c (MQ below (o_Qx D m_cls (some (.int r.1)) (m_cw ad ca ky ty rt Mm M0 r.2) A) args s 0 0 A) m_cls D A 2 67 [] (m_cw ad ca ky ty rt Mm M0 a0) [(0, .ref (ad 48))] := by
  unfold m_MT_read_j67 at h
  intro H locs ls hP hS hl
  have C0 := C
  obtain ⟨hx, hb, -, -, -, hown, hts, hK, -, -⟩ := C0
  refine lv_aload_n hx hb d_MT_read_67 rfl (lv_at hl 0 rfl) ?_
  refine o_get (v := .int (MT_wrong a0)) C in_MT hP 48 mw_48 rfl 16 (by decide) k_7_130 rfl rfl d_MT_read_68 ?_
  refine lv_if_lt (tgt := 79) hx hb d_MT_read_71 (by decide) (fun c2 => ?_) (fun c2 => ?_)
  · replace h := o_tt c2 h
    refine lv_aload_n hx hb d_MT_read_79 rfl (lv_at hl 0 rfl) ?_
    refine o_get (v := .int (MT_wrong a0)) C in_MT hP 48 mw_48 rfl 16 (by decide) k_7_130 rfl rfl d_MT_read_80 ?_
    cases h
    exact o_ri (v := (MT_wrong a0)) C hP hS d_MT_read_83
  · replace h := o_ff c2 h
    refine lv_aload_n hx hb d_MT_read_74 rfl (lv_at hl 0 rfl) ?_
    refine lv_iconst (v := (0:Int32)) hx hb d_MT_read_75 (by decide) ?_
    refine o_put (v := .int (0:Int32)) (ty := .int) (w1 := (m_cw ad ca ky ty rt Mm M0 (MT_mk (MT_text a0) (MT_kind a0) (MT_place a0) (MT_many a0) (MT_parent a0) (MT_power a0) (MT_first a0) (MT_next a0) (MT_name a0) (MT_from a0) (MT_characters a0) (MT_digits a0) (MT_minus a0) (0:Int32) (MT_letters a0) (MT_at a0) (MT_wrong a0) (MT_used a0) (MT_written a0) (MT_left a0)))) C in_MT t_MT t_MT_ok n_MT hP (hDD _ _ _ _) hS 48 mw_48 rfl 13 (by decide) k_7_126 rfl rfl (by decide +kernel) rfl rfl (Nat.le_of_ble_eq_true rfl) rfl d_MT_read_76 (fun H locs hP hS => ?_)
    refine lv_aload_n hx hb d_MT_read_79 rfl (lv_at hl 0 rfl) ?_
    refine o_get (v := .int (MT_wrong a0)) C in_MT hP 48 mw_48 rfl 16 (by decide) k_7_130 rfl rfl d_MT_read_80 ?_
    cases h
    exact o_ri (v := (MT_wrong a0)) C hP hS d_MT_read_83
set_option maxHeartbeats 4000000 in
set_option maxRecDepth 100000 in
theorem e_MT_read_b {E : (Nat → Prop) → State → Heap → Prop} {D : va_G} {ad kd sd vd xd : Nat → Nat} {ca : Nat → ClassId} {ky ty : Nat → Option Nat} (hE : o_EK E kd sd vd xd) (hKy : m_KY ky ty sd) (l : Launch) (n : Nat) (x1 : Int32) (a0 : SMT) (Mm : SMM) (M0 : SMT) (rt : Nat) {r : Int32 × SMT} (h : m_MT_read n x1 a0 = some r) : o_Cn E l D m_cls (m_tys ca) y_MT_read cc_MT_read rm_MT_read [.ref (ad 48), .int x1] (m_cw ad ca ky ty rt Mm M0 a0) (m_cw ad ca ky ty rt Mm M0 r.2) (some (.int r.1)) := by
  refine o_Cn_of (by decide) (Nat.le_of_ble_eq_true rfl) ?_
  intro p e s m below meth c A ls C hD hP hS hl
  have hDD : ∀ (rt : Nat) (Mm : SMM) (M0 : SMT) (M1 : SMT), va_D A (m_cw ad ca ky ty rt Mm M0 M1) := fun _ _ _ _ => o_D_map hD rfl
  have hl : lv_has ls 2 [(0, .ref (ad 48)), (1, .int x1)] := hl
  unfold m_MT_read at h
  have C0 := C
  obtain ⟨hx, hb, -, -, -, hown, hts, hK, -, -⟩ := C0
  refine lv_aload_n hx hb d_MT_read_0 rfl (lv_at hl 0 rfl) ?_
  refine lv_iload_n hx hb d_MT_read_1 rfl (lv_at hl 1 rfl) ?_
  refine o_put (v := .int x1) (ty := .int) (w1 := (m_cw ad ca ky ty rt Mm M0 (MT_mk (MT_text a0) (MT_kind a0) (MT_place a0) (MT_many a0) (MT_parent a0) (MT_power a0) (MT_first a0) (MT_next a0) (MT_name a0) (MT_from a0) (MT_characters a0) (MT_digits a0) (MT_minus a0) (MT_values a0) x1 (MT_at a0) (MT_wrong a0) (MT_used a0) (MT_written a0) (MT_left a0)))) C in_MT t_MT t_MT_ok n_MT hP (hDD _ _ _ _) hS 48 mw_48 rfl 14 (by decide) k_7_128 rfl rfl (by decide +kernel) rfl rfl (Nat.le_of_ble_eq_true rfl) rfl d_MT_read_2 (fun H locs hP hS => ?_)
  refine lv_aload_n hx hb d_MT_read_5 rfl (lv_at hl 0 rfl) ?_
  refine lv_iconst (v := (0:Int32)) hx hb d_MT_read_6 (by decide) ?_
  refine o_put (v := .int (0:Int32)) (ty := .int) (w1 := (m_cw ad ca ky ty rt Mm M0 (MT_mk (MT_text a0) (MT_kind a0) (MT_place a0) (MT_many a0) (MT_parent a0) (MT_power a0) (MT_first a0) (MT_next a0) (MT_name a0) (MT_from a0) (MT_characters a0) (MT_digits a0) (MT_minus a0) (MT_values a0) x1 (0:Int32) (MT_wrong a0) (MT_used a0) (MT_written a0) (MT_left a0)))) C in_MT t_MT t_MT_ok n_MT hP (hDD _ _ _ _) hS 48 mw_48 rfl 15 (by decide) k_7_129 rfl rfl (by decide +kernel) rfl rfl (Nat.le_of_ble_eq_true rfl) rfl d_MT_read_7 (fun H locs hP hS => ?_)
  refine lv_aload_n hx hb d_MT_read_10 rfl (lv_at hl 0 rfl) ?_
  refine lv_iconst (v := (-1:Int32)) hx hb d_MT_read_11 (by decide) ?_
  refine o_put (v := .int (-1:Int32)) (ty := .int) (w1 := (m_cw ad ca ky ty rt Mm M0 (MT_mk (MT_text a0) (MT_kind a0) (MT_place a0) (MT_many a0) (MT_parent a0) (MT_power a0) (MT_first a0) (MT_next a0) (MT_name a0) (MT_from a0) (MT_characters a0) (MT_digits a0) (MT_minus a0) (MT_values a0) x1 (0:Int32) (-1:Int32) (MT_used a0) (MT_written a0) (MT_left a0)))) C in_MT t_MT t_MT_ok n_MT hP (hDD _ _ _ _) hS 48 mw_48 rfl 16 (by decide) k_7_130 rfl rfl (by decide +kernel) rfl rfl (Nat.le_of_ble_eq_true rfl) rfl d_MT_read_12 (fun H locs hP hS => ?_)
  refine lv_aload_n hx hb d_MT_read_15 rfl (lv_at hl 0 rfl) ?_
  refine lv_iconst (v := (0:Int32)) hx hb d_MT_read_16 (by decide) ?_
  refine o_put (v := .int (0:Int32)) (ty := .int) (w1 := (m_cw ad ca ky ty rt Mm M0 (MT_mk (MT_text a0) (MT_kind a0) (MT_place a0) (MT_many a0) (MT_parent a0) (MT_power a0) (MT_first a0) (MT_next a0) (MT_name a0) (MT_from a0) (MT_characters a0) (MT_digits a0) (MT_minus a0) (0:Int32) x1 (0:Int32) (-1:Int32) (MT_used a0) (MT_written a0) (MT_left a0)))) C in_MT t_MT t_MT_ok n_MT hP (hDD _ _ _ _) hS 48 mw_48 rfl 13 (by decide) k_7_126 rfl rfl (by decide +kernel) rfl rfl (Nat.le_of_ble_eq_true rfl) rfl d_MT_read_17 (fun H locs hP hS => ?_)
  refine lv_aload_n hx hb d_MT_read_20 rfl (lv_at hl 0 rfl) ?_
  refine lv_iconst (v := (0:Int32)) hx hb d_MT_read_21 (by decide) ?_
  refine o_put (v := .int (0:Int32)) (ty := .int) (w1 := (m_cw ad ca ky ty rt Mm M0 (MT_mk (MT_text a0) (MT_kind a0) (MT_place a0) (MT_many a0) (MT_parent a0) (MT_power a0) (MT_first a0) (MT_next a0) (MT_name a0) (MT_from a0) (MT_characters a0) (MT_digits a0) (MT_minus a0) (0:Int32) x1 (0:Int32) (-1:Int32) (0:Int32) (MT_written a0) (MT_left a0)))) C in_MT t_MT t_MT_ok n_MT hP (hDD _ _ _ _) hS 48 mw_48 rfl 17 (by decide) k_7_131 rfl rfl (by decide +kernel) rfl rfl (Nat.le_of_ble_eq_true rfl) rfl d_MT_read_22 (fun H locs hP hS => ?_)
  refine lv_aload_n hx hb d_MT_read_25 rfl (lv_at hl 0 rfl) ?_
  refine lv_iconst (v := (0:Int32)) hx hb d_MT_read_26 (by decide) ?_
  refine o_put (v := .int (0:Int32)) (ty := .int) (w1 := (m_cw ad ca ky ty rt Mm M0 (MT_mk (MT_text a0) (MT_kind a0) (MT_place a0) (MT_many a0) (MT_parent a0) (MT_power a0) (MT_first a0) (MT_next a0) (MT_name a0) (MT_from a0) (MT_characters a0) (MT_digits a0) (MT_minus a0) (0:Int32) x1 (0:Int32) (-1:Int32) (0:Int32) (0:Int32) (MT_left a0)))) C in_MT t_MT t_MT_ok n_MT hP (hDD _ _ _ _) hS 48 mw_48 rfl 18 (by decide) k_7_132 rfl rfl (by decide +kernel) rfl rfl (Nat.le_of_ble_eq_true rfl) rfl d_MT_read_27 (fun H locs hP hS => ?_)
  refine lv_aload_n hx hb d_MT_read_30 rfl (lv_at hl 0 rfl) ?_
  obtain ⟨q1, hq1, h⟩ := o_bd_some h
  refine o_V (st1 := []) (w1 := (m_cw ad ca ky ty rt Mm M0 q1)) hE.1 C (e_MT_blanks_b hE hKy l n (MT_mk (MT_text a0) (MT_kind a0) (MT_place a0) (MT_many a0) (MT_parent a0) (MT_power a0) (MT_first a0) (MT_next a0) (MT_name a0) (MT_from a0) (MT_characters a0) (MT_digits a0) (MT_minus a0) (0:Int32) x1 (0:Int32) (-1:Int32) (0:Int32) (0:Int32) (MT_left a0)) Mm M0 rt hq1) hP (hDD _ _ _ _) hS hl.1 rfl mw_48 k_8_188 k_8_189 k_8_190 k_1_13 k_8_191 hv_MT_blanks rfl rfl ⟨(Nat.le_of_ble_eq_true rfl), (Nat.le_of_ble_eq_true rfl)⟩ rfl (Nat.le_of_ble_eq_true rfl) ⟨Nat.zero_le _, Nat.zero_le _⟩ rfl d_MT_read_31 (fun H locs hP hS => ?_)
  refine lv_aload_n hx hb d_MT_read_34 rfl (lv_at hl 0 rfl) ?_
  refine lv_iconst (v := (-1:Int32)) hx hb d_MT_read_35 (by decide) ?_
  refine lv_iconst (v := (0:Int32)) hx hb d_MT_read_36 (by decide) ?_
  obtain ⟨q2, hq2, h⟩ := o_bd_some h
  refine o_V (st1 := [.int q2.1]) (w1 := (m_cw ad ca ky ty rt Mm M0 q2.2)) hE.1 C (e_MT_value_b hE hKy l n 43 (-1:Int32) (0:Int32) q1 Mm M0 rt hq2) hP (hDD _ _ _ _) hS hl.1 rfl mw_48 k_8_196 k_8_197 k_8_198 k_1_13 k_8_199 hv_MT_value rfl rfl ⟨(Nat.le_of_ble_eq_true rfl), (Nat.le_of_ble_eq_true rfl)⟩ rfl (Nat.le_of_ble_eq_true rfl) ⟨Nat.zero_le _, Nat.zero_le _⟩ rfl d_MT_read_37 (fun H locs hP hS => ?_)
  refine lv_if_eq (tgt := 67) hx hb d_MT_read_40 (by decide) (fun c1 => ?_) (fun c1 => ?_)
  · replace h := o_tt c1 h
    exact f_MT_read_j67_b hE hKy C hDD n q2.2 Mm M0 rt h _ _ _ hP hS (lv_sub hl [0] rfl)
  · replace h := o_ff c1 h
    refine lv_aload_n hx hb d_MT_read_43 rfl (lv_at hl 0 rfl) ?_
    obtain ⟨q3, hq3, h⟩ := o_bd_some h
    refine o_V (st1 := []) (w1 := (m_cw ad ca ky ty rt Mm M0 q3)) hE.1 C (e_MT_blanks_b hE hKy l n q2.2 Mm M0 rt hq3) hP (hDD _ _ _ _) hS hl.1 rfl mw_48 k_8_188 k_8_189 k_8_190 k_1_13 k_8_191 hv_MT_blanks rfl rfl ⟨(Nat.le_of_ble_eq_true rfl), (Nat.le_of_ble_eq_true rfl)⟩ rfl (Nat.le_of_ble_eq_true rfl) ⟨Nat.zero_le _, Nat.zero_le _⟩ rfl d_MT_read_44 (fun H locs hP hS => ?_)
    refine lv_aload_n hx hb d_MT_read_47 rfl (lv_at hl 0 rfl) ?_
    refine o_get (v := .int (MT_at q3)) C in_MT hP 48 mw_48 rfl 15 (by decide) k_7_129 rfl rfl d_MT_read_48 ?_
    refine lv_aload_n hx hb d_MT_read_51 rfl (lv_at hl 0 rfl) ?_
    refine o_get (v := .int (MT_letters q3)) C in_MT hP 48 mw_48 rfl 14 (by decide) k_7_128 rfl rfl d_MT_read_52 ?_
    refine lv_icmp_ge (tgt := 67) hx hb d_MT_read_55 (by decide) (fun c3 => ?_) (fun c3 => ?_)
    · replace h := o_tt c3 h
      exact f_MT_read_j67_b hE hKy C hDD n q3 Mm M0 rt h _ _ _ hP hS (lv_sub hl [0] rfl)
    · replace h := o_ff c3 h
      refine lv_aload_n hx hb d_MT_read_58 rfl (lv_at hl 0 rfl) ?_
      refine lv_aload_n hx hb d_MT_read_59 rfl (lv_at hl 0 rfl) ?_
      refine o_get (v := .int (MT_at q3)) C in_MT hP 48 mw_48 rfl 15 (by decide) k_7_129 rfl rfl d_MT_read_60 ?_
      obtain ⟨q4, hq4, h⟩ := o_bd_some h
      refine o_V (st1 := [.int q4.1]) (w1 := (m_cw ad ca ky ty rt Mm M0 q4.2)) hE.1 C (e_MT_bad_b hE hKy l (MT_at q3) q3 Mm M0 rt hq4) hP (hDD _ _ _ _) hS hl.1 rfl mw_48 k_8_203 k_8_204 k_8_205 k_1_13 k_8_206 hv_MT_bad rfl rfl ⟨(Nat.le_of_ble_eq_true rfl), (Nat.le_of_ble_eq_true rfl)⟩ rfl (Nat.le_of_ble_eq_true rfl) ⟨Nat.zero_le _, Nat.zero_le _⟩ rfl d_MT_read_63 (fun H locs hP hS => ?_)
      refine lv_pop hx hb d_MT_read_66 rfl ?_
      exact f_MT_read_j67_b hE hKy C hDD n q4.2 Mm M0 rt h _ _ _ hP hS (lv_sub hl [0] rfl)
set_option maxHeartbeats 4000000 in
set_option maxRecDepth 100000 in
theorem f_MM_end_b63 {E : (Nat → Prop) → State → Heap → Prop} {p : Program} {l : Launch} {e : Env} {s : State} {m : MethodId} {args : Array Value} {below : List Frame} {meth : Method} {c : Code} {D : va_G} {ad kd sd vd xd : Nat → Nat} {ca : Nat → ClassId} {A : Nat → Prop} {ky ty : Nat → Option Nat} {Q : State → Prop} (hE : o_EK E kd sd vd xd) (hKy : m_KY ky ty sd) (C : o_Cx E p s m args meth c D m_cls (m_tys ca) "SchemaJudgeModel" b_MM_end (some .int) 5 cc_MM_end A) (hDD : ∀ (rt : Nat) (Mm : SMM) (M0 : SMT) (M1 : SMT), va_D A (m_cw ad ca ky ty rt Mm M0 M1)) (n : Nat) (u63_x1 : Int32) (u63_x2 : Int32) (u63_Mm : SMM) (u63_rt : Nat) (z : Int32 × SMT × SMT) (q : Nat × Int32 × SMT × SMT) (h : m_MM_end_b63 n u63_x1 u63_x2 u63_Mm z = some q) (h0 : q.1 = 0 → o_At p l e rm_MM_end s m args below meth c Q m_cls D A 5 63 [] (m_cw ad ca ky ty u63_rt u63_Mm q.2.2.1 q.2.2.2) [(0, .ref (ad 0)), (1, .int u63_x1), (2, .int u63_x2), (3, .ref (ad 48)), (4, .int q.2.1)]) (h1 : q.1 ≠ 0 → (o_At p l e rm_MM_end s m args below meth c Q m_cls D A 5 89 [] (m_cw ad ca ky ty u63_rt u63_Mm q.2.2.1 q.2.2.2) [(0, .ref (ad 0)), (1, .int u63_x1), (2, .int u63_x2), (3, .ref (ad 48))])) : o_At p l e rm_MM_end s m args below meth c Q m_cls D A 5 63 [] (m_cw ad ca ky ty u63_rt u63_Mm z.2.1 z.2.2) [(0, .ref (ad 0)), (1, .int u63_x1), (2, .int u63_x2), (3, .ref (ad 48)), (4, .int z.1)] := by
  unfold m_MM_end_b63 at h
  intro H locs ls hP hS hl
  have C0 := C
  obtain ⟨hx, hb, -, -, -, hown, hts, hK, -, -⟩ := C0
  refine lv_iload hx hb d_MM_end_63 (lv_at hl 4 rfl) ?_
  refine lv_iload_n hx hb d_MM_end_65 rfl (lv_at hl 2 rfl) ?_
  refine lv_icmp_ge (tgt := 89) hx hb d_MM_end_66 (by decide) (fun c4 => ?_) (fun c4 => ?_)
  · replace h := o_tt c4 h
    cases h
    exact h1 (Nat.succ_ne_zero 0) _ _ _ hP hS (lv_sub hl [0, 1, 2, 3] rfl)
  · replace h := o_ff c4 h
    refine lv_aload_n hx hb d_MM_end_69 rfl (lv_at hl 3 rfl) ?_
    refine o_get (v := .ref (ad 49)) C in_MT hP 48 mw_48 rfl 0 (by decide) k_7_101 rfl rfl d_MM_end_70 ?_
    refine lv_iload hx hb d_MM_end_73 (lv_at hl 4 rfl) ?_
    refine lv_aload_n hx hb d_MM_end_75 rfl (lv_at hl 0 rfl) ?_
    refine o_get (v := .ref (ad 1)) C in_MM hP 0 mw_0 rfl 3 (by decide) k_7_233 rfl rfl d_MM_end_76 ?_
    refine lv_iload hx hb d_MM_end_79 (lv_at hl 4 rfl) ?_
    obtain ⟨g5, h⟩ := o_gd_some h
    refine o_iald (f := (MM_octets u63_Mm)) C hP 1 0 mw_1 rfl g5 d_MM_end_81 ?_
    obtain ⟨g6, h⟩ := o_gd_some h
    refine o_iast (f := (MT_text z.2.2)) (w1 := (m_cw ad ca ky ty u63_rt u63_Mm z.2.1 (MT_mk (upd (MT_text z.2.2) z.1.toNatClampNeg ((MM_octets u63_Mm) z.1.toNatClampNeg)) (MT_kind z.2.2) (MT_place z.2.2) (MT_many z.2.2) (MT_parent z.2.2) (MT_power z.2.2) (MT_first z.2.2) (MT_next z.2.2) (MT_name z.2.2) (MT_from z.2.2) (MT_characters z.2.2) (MT_digits z.2.2) (MT_minus z.2.2) (MT_values z.2.2) (MT_letters z.2.2) (MT_at z.2.2) (MT_wrong z.2.2) (MT_used z.2.2) (MT_written z.2.2) (MT_left z.2.2)))) C hP (hDD _ _ _ _) hS 49 46 mw_49 rfl g6 rfl d_MM_end_82 (fun H locs hP hS => ?_)
    obtain ⟨x4_83, ex4_83⟩ : ∃ y : Int32, y = z.1 + (1:Int32) := ⟨_, rfl⟩
    replace h := o_nm_at ex4_83 h
    refine lv_iinc (v := x4_83) (lv' := [(4, .int x4_83), (0, .ref (ad 0)), (1, .int u63_x1), (2, .int u63_x2), (3, .ref (ad 48))]) hx hb d_MM_end_83 hl (k := 4) rfl (by rw [ex4_83]; rfl) (by decide) rfl (fun ls hl => ?_)
    refine lv_goto (tgt := 63) hx hb d_MM_end_86 (by decide) ?_
    cases h
    exact h0 rfl _ _ _ hP hS (lv_sub hl [1, 2, 3, 4, 0] rfl)
set_option maxHeartbeats 4000000 in
set_option maxRecDepth 100000 in
theorem f_MM_end_j125 {E : (Nat → Prop) → State → Heap → Prop} {p : Program} {l : Launch} {e : Env} {s : State} {m : MethodId} {args : Array Value} {below : List Frame} {meth : Method} {c : Code} {D : va_G} {ad kd sd vd xd : Nat → Nat} {ca : Nat → ClassId} {A : Nat → Prop} {ky ty : Nat → Option Nat} (hE : o_EK E kd sd vd xd) (hKy : m_KY ky ty sd) (C : o_Cx E p s m args meth c D m_cls (m_tys ca) "SchemaJudgeModel" b_MM_end (some .int) 5 cc_MM_end A) (hDD : ∀ (rt : Nat) (Mm : SMM) (M0 : SMT) (M1 : SMT), va_D A (m_cw ad ca ky ty rt Mm M0 M1)) (n : Nat) (y1 : Int32) (M0 : SMT) (M1 : SMT) (Mm : SMM) (rt : Nat) {r : Int32 × SMT × SMT × SMM} (h : m_MM_end_j125 n y1 M0 M1 Mm = some r) : o_At p l e rm_MM_end s m args below meth c (MQ below (o_Qx D m_cls (some (.int r.1)) (m_cw ad ca ky ty rt r.2.2.2 r.2.1 r.2.2.1) A) args s 0 0 A) m_cls D A 5 125 [.int y1, .ref (ad 0)] (m_cw ad ca ky ty rt Mm M0 M1) [(3, .ref (ad 48))] := by
  unfold m_MM_end_j125 at h
  intro H locs ls hP hS hl
  have C0 := C
  obtain ⟨hx, hb, -, -, -, hown, hts, hK, -, -⟩ := C0
  refine lv_iconst (v := (2:Int32)) hx hb d_MM_end_125 (by decide) ?_
  obtain ⟨q4, hq4, h⟩ := o_bd_some h
  refine o_V (st1 := [.int q4.1]) (w1 := (m_cw ad ca ky ty rt q4.2 M0 M1)) hE.1 C (e_MM_fails hE hKy l y1 (2:Int32) Mm M0 M1 rt hq4) hP (hDD _ _ _ _) hS hl.1 rfl mw_0 k_8_176 k_8_178 k_s_81 k_1_12 k_8_179 hv_MM_fails rfl rfl ⟨(Nat.le_of_ble_eq_true rfl), (Nat.le_of_ble_eq_true rfl)⟩ rfl (Nat.le_of_ble_eq_true rfl) ⟨Nat.zero_le _, Nat.zero_le _⟩ rfl d_MM_end_126 (fun H locs hP hS => ?_)
  refine lv_if_eq (tgt := 136) hx hb d_MM_end_129 (by decide) (fun c9 => ?_) (fun c9 => ?_)
  · replace h := o_tt c9 h
    refine lv_aload_n hx hb d_MM_end_136 rfl (lv_at hl 0 rfl) ?_
    refine o_get (v := .int (MT_values M1)) C in_MT hP 48 mw_48 rfl 13 (by decide) k_7_127 rfl rfl d_MM_end_137 ?_
    cases h
    exact o_ri (v := (MT_values M1)) C hP hS d_MM_end_140
  · replace h := o_ff c9 h
    refine lv_iconst (v := (0:Int32)) hx hb d_MM_end_132 (by decide) ?_
    refine lv_goto (tgt := 140) hx hb d_MM_end_133 (by decide) ?_
    cases h
    exact o_ri (v := (0:Int32)) C hP hS d_MM_end_140
set_option maxHeartbeats 4000000 in
set_option maxRecDepth 100000 in
theorem f_MM_end_j103 {E : (Nat → Prop) → State → Heap → Prop} {p : Program} {l : Launch} {e : Env} {s : State} {m : MethodId} {args : Array Value} {below : List Frame} {meth : Method} {c : Code} {D : va_G} {ad kd sd vd xd : Nat → Nat} {ca : Nat → ClassId} {A : Nat → Prop} {ky ty : Nat → Option Nat} (hE : o_EK E kd sd vd xd) (hKy : m_KY ky ty sd) (C : o_Cx E p s m args meth c D m_cls (m_tys ca) "SchemaJudgeModel" b_MM_end (some .int) 5 cc_MM_end A) (hDD : ∀ (rt : Nat) (Mm : SMM) (M0 : SMT) (M1 : SMT), va_D A (m_cw ad ca ky ty rt Mm M0 M1)) (n : Nat) (x2 : Int32) (M0 : SMT) (M1 : SMT) (Mm : SMM) (rt : Nat) {r : Int32 × SMT × SMT × SMM} (h : m_MM_end_j103 n x2 M0 M1 Mm = some r) : o_At p l e rm_MM_end s m args below meth c (MQ below (o_Qx D m_cls (some (.int r.1)) (m_cw ad ca ky ty rt r.2.2.2 r.2.1 r.2.2.1) A) args s 0 0 A) m_cls D A 5 103 [] (m_cw ad ca ky ty rt Mm M0 M1) [(0, .ref (ad 0)), (2, .int x2), (3, .ref (ad 48))] := by
  unfold m_MM_end_j103 at h
  intro H locs ls hP hS hl
  have C0 := C
  obtain ⟨hx, hb, -, -, -, hown, hts, hK, -, -⟩ := C0
  refine lv_aload_n hx hb d_MM_end_103 rfl (lv_at hl 0 rfl) ?_
  refine lv_aload_n hx hb d_MM_end_104 rfl (lv_at hl 2 rfl) ?_
  refine lv_iload_n hx hb d_MM_end_105 rfl (lv_at hl 1 rfl) ?_
  obtain ⟨q3, hq3, h⟩ := o_bd_some h
  refine o_V (st1 := [.int q3.1, .ref (ad 0)]) (w1 := (m_cw ad ca ky ty rt Mm M0 q3.2)) hE.1 C (e_MT_read_b hE hKy l n x2 M1 Mm M0 rt hq3) hP (hDD _ _ _ _) hS hl.1 rfl mw_48 k_8_184 k_8_185 k_8_186 k_1_13 k_8_187 hv_MT_read rfl rfl ⟨(Nat.le_of_ble_eq_true rfl), (Nat.le_of_ble_eq_true rfl)⟩ rfl (Nat.le_of_ble_eq_true rfl) ⟨Nat.zero_le _, Nat.zero_le _⟩ rfl d_MM_end_106 (fun H locs hP hS => ?_)
  refine o_put (v := .int q3.1) (ty := .int) (w1 := (m_cw ad ca ky ty rt (MM_mk (MM_err Mm) (MM_fed Mm) q3.1 (MM_octets Mm) (MM_nodeKind Mm) (MM_nodeA Mm) (MM_nodeB Mm) (MM_nodeC Mm) (MM_nodeNext Mm) (MM_low Mm) (MM_high Mm) (MM_setFrom Mm) (MM_setTo Mm) (MM_setNot Mm) (MM_op Mm) (MM_opA Mm) (MM_opB Mm) (MM_mark Mm) (MM_now Mm) (MM_then Mm) (MM_todo Mm) (MM_nodes Mm) (MM_sets Mm) (MM_ranges Mm) (MM_steps Mm) (MM_pat Mm) (MM_patEnd Mm) (MM_round Mm) (MM_many1 Mm) (MM_broken Mm) (MM_checked Mm) (MM_faultKind Mm) (MM_faultValue Mm) (MM_latestFault Mm) (MM_anchors Mm) (MM_key Mm) (MM_target Mm) (MM_anchorValue Mm) (MM_anchorSchema Mm) (MM_path Mm) (MM_route Mm) (MM_isSchema Mm) (MM_seen1 Mm) (MM_pathSize Mm) (MM_octetRow Mm) (MM_partRow Mm) (MM_pairValue Mm) (MM_pairKey Mm) (MM_pairs Mm) (MM_judged Mm) (MM_deepest Mm) (MM_depth Mm) (MM_over Mm) (MM_seen Mm)) M0 q3.2)) C in_MM t_MM t_MM_ok n_MM hP (hDD _ _ _ _) hS 0 mw_0 rfl 2 (by decide) k_7_232 rfl rfl (by decide +kernel) rfl rfl (Nat.le_of_ble_eq_true rfl) rfl d_MM_end_109 (fun H locs hP hS => ?_)
  refine lv_aload_n hx hb d_MM_end_112 rfl (lv_at hl 0 rfl) ?_
  refine lv_aload_n hx hb d_MM_end_113 rfl (lv_at hl 0 rfl) ?_
  refine o_get (v := .int q3.1) C in_MM hP 0 mw_0 rfl 2 (by decide) k_7_232 rfl rfl d_MM_end_114 ?_
  refine lv_if_lt (tgt := 124) hx hb d_MM_end_117 (by decide) (fun c8 => ?_) (fun c8 => ?_)
  · replace h := o_tt c8 h
    refine lv_iconst (v := (0:Int32)) hx hb d_MM_end_124 (by decide) ?_
    exact f_MM_end_j125 hE hKy C hDD n (0:Int32) M0 q3.2 (MM_mk (MM_err Mm) (MM_fed Mm) q3.1 (MM_octets Mm) (MM_nodeKind Mm) (MM_nodeA Mm) (MM_nodeB Mm) (MM_nodeC Mm) (MM_nodeNext Mm) (MM_low Mm) (MM_high Mm) (MM_setFrom Mm) (MM_setTo Mm) (MM_setNot Mm) (MM_op Mm) (MM_opA Mm) (MM_opB Mm) (MM_mark Mm) (MM_now Mm) (MM_then Mm) (MM_todo Mm) (MM_nodes Mm) (MM_sets Mm) (MM_ranges Mm) (MM_steps Mm) (MM_pat Mm) (MM_patEnd Mm) (MM_round Mm) (MM_many1 Mm) (MM_broken Mm) (MM_checked Mm) (MM_faultKind Mm) (MM_faultValue Mm) (MM_latestFault Mm) (MM_anchors Mm) (MM_key Mm) (MM_target Mm) (MM_anchorValue Mm) (MM_anchorSchema Mm) (MM_path Mm) (MM_route Mm) (MM_isSchema Mm) (MM_seen1 Mm) (MM_pathSize Mm) (MM_octetRow Mm) (MM_partRow Mm) (MM_pairValue Mm) (MM_pairKey Mm) (MM_pairs Mm) (MM_judged Mm) (MM_deepest Mm) (MM_depth Mm) (MM_over Mm) (MM_seen Mm)) rt h _ _ _ hP hS (lv_sub hl [2] rfl)
  · replace h := o_ff c8 h
    refine lv_iconst (v := (1:Int32)) hx hb d_MM_end_120 (by decide) ?_
    refine lv_goto (tgt := 125) hx hb d_MM_end_121 (by decide) ?_
    exact f_MM_end_j125 hE hKy C hDD n (1:Int32) M0 q3.2 (MM_mk (MM_err Mm) (MM_fed Mm) q3.1 (MM_octets Mm) (MM_nodeKind Mm) (MM_nodeA Mm) (MM_nodeB Mm) (MM_nodeC Mm) (MM_nodeNext Mm) (MM_low Mm) (MM_high Mm) (MM_setFrom Mm) (MM_setTo Mm) (MM_setNot Mm) (MM_op Mm) (MM_opA Mm) (MM_opB Mm) (MM_mark Mm) (MM_now Mm) (MM_then Mm) (MM_todo Mm) (MM_nodes Mm) (MM_sets Mm) (MM_ranges Mm) (MM_steps Mm) (MM_pat Mm) (MM_patEnd Mm) (MM_round Mm) (MM_many1 Mm) (MM_broken Mm) (MM_checked Mm) (MM_faultKind Mm) (MM_faultValue Mm) (MM_latestFault Mm) (MM_anchors Mm) (MM_key Mm) (MM_target Mm) (MM_anchorValue Mm) (MM_anchorSchema Mm) (MM_path Mm) (MM_route Mm) (MM_isSchema Mm) (MM_seen1 Mm) (MM_pathSize Mm) (MM_octetRow Mm) (MM_partRow Mm) (MM_pairValue Mm) (MM_pairKey Mm) (MM_pairs Mm) (MM_judged Mm) (MM_deepest Mm) (MM_depth Mm) (MM_over Mm) (MM_seen Mm)) rt h _ _ _ hP hS (lv_sub hl [2] rfl)
set_option maxHeartbeats 4000000 in
set_option maxRecDepth 100000 in
theorem f_MM_end_b63v5 {E : (Nat → Prop) → State → Heap → Prop} {p : Program} {l : Launch} {e : Env} {s : State} {m : MethodId} {args : Array Value} {below : List Frame} {meth : Method} {c : Code} {D : va_G} {ad kd sd vd xd : Nat → Nat} {ca : Nat → ClassId} {A : Nat → Prop} {ky ty : Nat → Option Nat} {Q : State → Prop} (hE : o_EK E kd sd vd xd) (hKy : m_KY ky ty sd) (C : o_Cx E p s m args meth c D m_cls (m_tys ca) "SchemaJudgeModel" b_MM_end (some .int) 5 cc_MM_end A) (hDD : ∀ (rt : Nat) (Mm : SMM) (M0 : SMT) (M1 : SMT), va_D A (m_cw ad ca ky ty rt Mm M0 M1)) (n : Nat) (u63_x1 : Int32) (u63_x2 : Int32) (u63_Mm : SMM) (u63_rt : Nat) (z : Int32 × SMT × SMT) (q : Nat × Int32 × SMT × SMT) (h : m_MM_end_b63v5 n u63_x1 u63_x2 u63_Mm z = some q) (h0 : q.1 = 0 → o_At p l e rm_MM_end s m args below meth c Q m_cls D A 5 63 [] (m_cw ad ca ky ty u63_rt u63_Mm q.2.2.1 q.2.2.2) [(0, .ref (ad 0)), (1, .int u63_x1), (2, .int u63_x2), (3, .ref (ad 33)), (4, .int q.2.1)]) (h1 : q.1 ≠ 0 → (o_At p l e rm_MM_end s m args below meth c Q m_cls D A 5 89 [] (m_cw ad ca ky ty u63_rt u63_Mm q.2.2.1 q.2.2.2) [(0, .ref (ad 0)), (1, .int u63_x1), (2, .int u63_x2), (3, .ref (ad 33))])) : o_At p l e rm_MM_end s m args below meth c Q m_cls D A 5 63 [] (m_cw ad ca ky ty u63_rt u63_Mm z.2.1 z.2.2) [(0, .ref (ad 0)), (1, .int u63_x1), (2, .int u63_x2), (3, .ref (ad 33)), (4, .int z.1)] := by
  unfold m_MM_end_b63v5 at h
  intro H locs ls hP hS hl
  have C0 := C
  obtain ⟨hx, hb, -, -, -, hown, hts, hK, -, -⟩ := C0
  refine lv_iload hx hb d_MM_end_63 (lv_at hl 4 rfl) ?_
  refine lv_iload_n hx hb d_MM_end_65 rfl (lv_at hl 2 rfl) ?_
  refine lv_icmp_ge (tgt := 89) hx hb d_MM_end_66 (by decide) (fun c10 => ?_) (fun c10 => ?_)
  · replace h := o_tt c10 h
    cases h
    exact h1 (Nat.succ_ne_zero 0) _ _ _ hP hS (lv_sub hl [0, 1, 2, 3] rfl)
  · replace h := o_ff c10 h
    refine lv_aload_n hx hb d_MM_end_69 rfl (lv_at hl 3 rfl) ?_
    refine o_get (v := .ref (ad 34)) C in_MT hP 33 mw_33 rfl 0 (by decide) k_7_101 rfl rfl d_MM_end_70 ?_
    refine lv_iload hx hb d_MM_end_73 (lv_at hl 4 rfl) ?_
    refine lv_aload_n hx hb d_MM_end_75 rfl (lv_at hl 0 rfl) ?_
    refine o_get (v := .ref (ad 1)) C in_MM hP 0 mw_0 rfl 3 (by decide) k_7_233 rfl rfl d_MM_end_76 ?_
    refine lv_iload hx hb d_MM_end_79 (lv_at hl 4 rfl) ?_
    obtain ⟨g11, h⟩ := o_gd_some h
    refine o_iald (f := (MM_octets u63_Mm)) C hP 1 0 mw_1 rfl g11 d_MM_end_81 ?_
    obtain ⟨g12, h⟩ := o_gd_some h
    refine o_iast (f := (MT_text z.2.1)) (w1 := (m_cw ad ca ky ty u63_rt u63_Mm (MT_mk (upd (MT_text z.2.1) z.1.toNatClampNeg ((MM_octets u63_Mm) z.1.toNatClampNeg)) (MT_kind z.2.1) (MT_place z.2.1) (MT_many z.2.1) (MT_parent z.2.1) (MT_power z.2.1) (MT_first z.2.1) (MT_next z.2.1) (MT_name z.2.1) (MT_from z.2.1) (MT_characters z.2.1) (MT_digits z.2.1) (MT_minus z.2.1) (MT_values z.2.1) (MT_letters z.2.1) (MT_at z.2.1) (MT_wrong z.2.1) (MT_used z.2.1) (MT_written z.2.1) (MT_left z.2.1)) z.2.2)) C hP (hDD _ _ _ _) hS 34 32 mw_34 rfl g12 rfl d_MM_end_82 (fun H locs hP hS => ?_)
    obtain ⟨x4_83, ex4_83⟩ : ∃ y : Int32, y = z.1 + (1:Int32) := ⟨_, rfl⟩
    replace h := o_nm_at ex4_83 h
    refine lv_iinc (v := x4_83) (lv' := [(4, .int x4_83), (0, .ref (ad 0)), (1, .int u63_x1), (2, .int u63_x2), (3, .ref (ad 33))]) hx hb d_MM_end_83 hl (k := 4) rfl (by rw [ex4_83]; rfl) (by decide) rfl (fun ls hl => ?_)
    refine lv_goto (tgt := 63) hx hb d_MM_end_86 (by decide) ?_
    cases h
    exact h0 rfl _ _ _ hP hS (lv_sub hl [1, 2, 3, 4, 0] rfl)
set_option maxHeartbeats 4000000 in
set_option maxRecDepth 100000 in
theorem f_MM_end_j125v9 {E : (Nat → Prop) → State → Heap → Prop} {p : Program} {l : Launch} {e : Env} {s : State} {m : MethodId} {args : Array Value} {below : List Frame} {meth : Method} {c : Code} {D : va_G} {ad kd sd vd xd : Nat → Nat} {ca : Nat → ClassId} {A : Nat → Prop} {ky ty : Nat → Option Nat} (hE : o_EK E kd sd vd xd) (hKy : m_KY ky ty sd) (C : o_Cx E p s m args meth c D m_cls (m_tys ca) "SchemaJudgeModel" b_MM_end (some .int) 5 cc_MM_end A) (hDD : ∀ (rt : Nat) (Mm : SMM) (M0 : SMT) (M1 : SMT), va_D A (m_cw ad ca ky ty rt Mm M0 M1)) (n : Nat) (y1 : Int32) (M0 : SMT) (M1 : SMT) (Mm : SMM) (rt : Nat) {r : Int32 × SMT × SMT × SMM} (h : m_MM_end_j125v9 n y1 M0 M1 Mm = some r) : o_At p l e rm_MM_end s m args below meth c (MQ below (o_Qx D m_cls (some (.int r.1)) (m_cw ad ca ky ty rt r.2.2.2 r.2.1 r.2.2.1) A) args s 0 0 A) m_cls D A 5 125 [.int y1, .ref (ad 0)] (m_cw ad ca ky ty rt Mm M0 M1) [(3, .ref (ad 33))] := by
  unfold m_MM_end_j125v9 at h
  intro H locs ls hP hS hl
  have C0 := C
  obtain ⟨hx, hb, -, -, -, hown, hts, hK, -, -⟩ := C0
  refine lv_iconst (v := (2:Int32)) hx hb d_MM_end_125 (by decide) ?_
  obtain ⟨q7, hq7, h⟩ := o_bd_some h
  refine o_V (st1 := [.int q7.1]) (w1 := (m_cw ad ca ky ty rt q7.2 M0 M1)) hE.1 C (e_MM_fails hE hKy l y1 (2:Int32) Mm M0 M1 rt hq7) hP (hDD _ _ _ _) hS hl.1 rfl mw_0 k_8_176 k_8_178 k_s_81 k_1_12 k_8_179 hv_MM_fails rfl rfl ⟨(Nat.le_of_ble_eq_true rfl), (Nat.le_of_ble_eq_true rfl)⟩ rfl (Nat.le_of_ble_eq_true rfl) ⟨Nat.zero_le _, Nat.zero_le _⟩ rfl d_MM_end_126 (fun H locs hP hS => ?_)
  refine lv_if_eq (tgt := 136) hx hb d_MM_end_129 (by decide) (fun c15 => ?_) (fun c15 => ?_)
  · replace h := o_tt c15 h
    refine lv_aload_n hx hb d_MM_end_136 rfl (lv_at hl 0 rfl) ?_
    refine o_get (v := .int (MT_values M0)) C in_MT hP 33 mw_33 rfl 13 (by decide) k_7_127 rfl rfl d_MM_end_137 ?_
    cases h
    exact o_ri (v := (MT_values M0)) C hP hS d_MM_end_140
  · replace h := o_ff c15 h
    refine lv_iconst (v := (0:Int32)) hx hb d_MM_end_132 (by decide) ?_
    refine lv_goto (tgt := 140) hx hb d_MM_end_133 (by decide) ?_
    cases h
    exact o_ri (v := (0:Int32)) C hP hS d_MM_end_140
set_option maxHeartbeats 4000000 in
set_option maxRecDepth 100000 in
theorem f_MM_end_j103v7 {E : (Nat → Prop) → State → Heap → Prop} {p : Program} {l : Launch} {e : Env} {s : State} {m : MethodId} {args : Array Value} {below : List Frame} {meth : Method} {c : Code} {D : va_G} {ad kd sd vd xd : Nat → Nat} {ca : Nat → ClassId} {A : Nat → Prop} {ky ty : Nat → Option Nat} (hE : o_EK E kd sd vd xd) (hKy : m_KY ky ty sd) (C : o_Cx E p s m args meth c D m_cls (m_tys ca) "SchemaJudgeModel" b_MM_end (some .int) 5 cc_MM_end A) (hDD : ∀ (rt : Nat) (Mm : SMM) (M0 : SMT) (M1 : SMT), va_D A (m_cw ad ca ky ty rt Mm M0 M1)) (n : Nat) (x2 : Int32) (M0 : SMT) (M1 : SMT) (Mm : SMM) (rt : Nat) {r : Int32 × SMT × SMT × SMM} (h : m_MM_end_j103v7 n x2 M0 M1 Mm = some r) : o_At p l e rm_MM_end s m args below meth c (MQ below (o_Qx D m_cls (some (.int r.1)) (m_cw ad ca ky ty rt r.2.2.2 r.2.1 r.2.2.1) A) args s 0 0 A) m_cls D A 5 103 [] (m_cw ad ca ky ty rt Mm M0 M1) [(0, .ref (ad 0)), (2, .int x2), (3, .ref (ad 33))] := by
  unfold m_MM_end_j103v7 at h
  intro H locs ls hP hS hl
  have C0 := C
  obtain ⟨hx, hb, -, -, -, hown, hts, hK, -, -⟩ := C0
  refine lv_aload_n hx hb d_MM_end_103 rfl (lv_at hl 0 rfl) ?_
  refine lv_aload_n hx hb d_MM_end_104 rfl (lv_at hl 2 rfl) ?_
  refine lv_iload_n hx hb d_MM_end_105 rfl (lv_at hl 1 rfl) ?_
  obtain ⟨q6, hq6, h⟩ := o_bd_some h
  refine o_V (st1 := [.int q6.1, .ref (ad 0)]) (w1 := (m_cw ad ca ky ty rt Mm q6.2 M1)) hE.1 C (e_MT_read_a hE hKy l n x2 M0 Mm M1 rt hq6) hP (hDD _ _ _ _) hS hl.1 rfl mw_33 k_8_184 k_8_185 k_8_186 k_1_13 k_8_187 hv_MT_read rfl rfl ⟨(Nat.le_of_ble_eq_true rfl), (Nat.le_of_ble_eq_true rfl)⟩ rfl (Nat.le_of_ble_eq_true rfl) ⟨Nat.zero_le _, Nat.zero_le _⟩ rfl d_MM_end_106 (fun H locs hP hS => ?_)
  refine o_put (v := .int q6.1) (ty := .int) (w1 := (m_cw ad ca ky ty rt (MM_mk (MM_err Mm) (MM_fed Mm) q6.1 (MM_octets Mm) (MM_nodeKind Mm) (MM_nodeA Mm) (MM_nodeB Mm) (MM_nodeC Mm) (MM_nodeNext Mm) (MM_low Mm) (MM_high Mm) (MM_setFrom Mm) (MM_setTo Mm) (MM_setNot Mm) (MM_op Mm) (MM_opA Mm) (MM_opB Mm) (MM_mark Mm) (MM_now Mm) (MM_then Mm) (MM_todo Mm) (MM_nodes Mm) (MM_sets Mm) (MM_ranges Mm) (MM_steps Mm) (MM_pat Mm) (MM_patEnd Mm) (MM_round Mm) (MM_many1 Mm) (MM_broken Mm) (MM_checked Mm) (MM_faultKind Mm) (MM_faultValue Mm) (MM_latestFault Mm) (MM_anchors Mm) (MM_key Mm) (MM_target Mm) (MM_anchorValue Mm) (MM_anchorSchema Mm) (MM_path Mm) (MM_route Mm) (MM_isSchema Mm) (MM_seen1 Mm) (MM_pathSize Mm) (MM_octetRow Mm) (MM_partRow Mm) (MM_pairValue Mm) (MM_pairKey Mm) (MM_pairs Mm) (MM_judged Mm) (MM_deepest Mm) (MM_depth Mm) (MM_over Mm) (MM_seen Mm)) q6.2 M1)) C in_MM t_MM t_MM_ok n_MM hP (hDD _ _ _ _) hS 0 mw_0 rfl 2 (by decide) k_7_232 rfl rfl (by decide +kernel) rfl rfl (Nat.le_of_ble_eq_true rfl) rfl d_MM_end_109 (fun H locs hP hS => ?_)
  refine lv_aload_n hx hb d_MM_end_112 rfl (lv_at hl 0 rfl) ?_
  refine lv_aload_n hx hb d_MM_end_113 rfl (lv_at hl 0 rfl) ?_
  refine o_get (v := .int q6.1) C in_MM hP 0 mw_0 rfl 2 (by decide) k_7_232 rfl rfl d_MM_end_114 ?_
  refine lv_if_lt (tgt := 124) hx hb d_MM_end_117 (by decide) (fun c14 => ?_) (fun c14 => ?_)
  · replace h := o_tt c14 h
    refine lv_iconst (v := (0:Int32)) hx hb d_MM_end_124 (by decide) ?_
    exact f_MM_end_j125v9 hE hKy C hDD n (0:Int32) q6.2 M1 (MM_mk (MM_err Mm) (MM_fed Mm) q6.1 (MM_octets Mm) (MM_nodeKind Mm) (MM_nodeA Mm) (MM_nodeB Mm) (MM_nodeC Mm) (MM_nodeNext Mm) (MM_low Mm) (MM_high Mm) (MM_setFrom Mm) (MM_setTo Mm) (MM_setNot Mm) (MM_op Mm) (MM_opA Mm) (MM_opB Mm) (MM_mark Mm) (MM_now Mm) (MM_then Mm) (MM_todo Mm) (MM_nodes Mm) (MM_sets Mm) (MM_ranges Mm) (MM_steps Mm) (MM_pat Mm) (MM_patEnd Mm) (MM_round Mm) (MM_many1 Mm) (MM_broken Mm) (MM_checked Mm) (MM_faultKind Mm) (MM_faultValue Mm) (MM_latestFault Mm) (MM_anchors Mm) (MM_key Mm) (MM_target Mm) (MM_anchorValue Mm) (MM_anchorSchema Mm) (MM_path Mm) (MM_route Mm) (MM_isSchema Mm) (MM_seen1 Mm) (MM_pathSize Mm) (MM_octetRow Mm) (MM_partRow Mm) (MM_pairValue Mm) (MM_pairKey Mm) (MM_pairs Mm) (MM_judged Mm) (MM_deepest Mm) (MM_depth Mm) (MM_over Mm) (MM_seen Mm)) rt h _ _ _ hP hS (lv_sub hl [2] rfl)
  · replace h := o_ff c14 h
    refine lv_iconst (v := (1:Int32)) hx hb d_MM_end_120 (by decide) ?_
    refine lv_goto (tgt := 125) hx hb d_MM_end_121 (by decide) ?_
    exact f_MM_end_j125v9 hE hKy C hDD n (1:Int32) q6.2 M1 (MM_mk (MM_err Mm) (MM_fed Mm) q6.1 (MM_octets Mm) (MM_nodeKind Mm) (MM_nodeA Mm) (MM_nodeB Mm) (MM_nodeC Mm) (MM_nodeNext Mm) (MM_low Mm) (MM_high Mm) (MM_setFrom Mm) (MM_setTo Mm) (MM_setNot Mm) (MM_op Mm) (MM_opA Mm) (MM_opB Mm) (MM_mark Mm) (MM_now Mm) (MM_then Mm) (MM_todo Mm) (MM_nodes Mm) (MM_sets Mm) (MM_ranges Mm) (MM_steps Mm) (MM_pat Mm) (MM_patEnd Mm) (MM_round Mm) (MM_many1 Mm) (MM_broken Mm) (MM_checked Mm) (MM_faultKind Mm) (MM_faultValue Mm) (MM_latestFault Mm) (MM_anchors Mm) (MM_key Mm) (MM_target Mm) (MM_anchorValue Mm) (MM_anchorSchema Mm) (MM_path Mm) (MM_route Mm) (MM_isSchema Mm) (MM_seen1 Mm) (MM_pathSize Mm) (MM_octetRow Mm) (MM_partRow Mm) (MM_pairValue Mm) (MM_pairKey Mm) (MM_pairs Mm) (MM_judged Mm) (MM_deepest Mm) (MM_depth Mm) (MM_over Mm) (MM_seen Mm)) rt h _ _ _ hP hS (lv_sub hl [2] rfl)
set_option maxHeartbeats 4000000 in
set_option maxRecDepth 100000 in
theorem f_MM_end_j30 {E : (Nat → Prop) → State → Heap → Prop} {p : Program} {l : Launch} {e : Env} {s : State} {m : MethodId} {args : Array Value} {below : List Frame} {meth : Method} {c : Code} {D : va_G} {ad kd sd vd xd : Nat → Nat} {ca : Nat → ClassId} {A : Nat → Prop} {ky ty : Nat → Option Nat} (hE : o_EK E kd sd vd xd) (hKy : m_KY ky ty sd) (C : o_Cx E p s m args meth c D m_cls (m_tys ca) "SchemaJudgeModel" b_MM_end (some .int) 5 cc_MM_end A) (hDD : ∀ (rt : Nat) (Mm : SMM) (M0 : SMT) (M1 : SMT), va_D A (m_cw ad ca ky ty rt Mm M0 M1)) (n : Nat) (x1 : Int32) (x2 : Int32) (y1 : Int32) (M0 : SMT) (M1 : SMT) (Mm : SMM) (rt : Nat) {r : Int32 × SMT × SMT × SMM} (h : m_MM_end_j30 n x1 x2 y1 M0 M1 Mm = some r) : o_At p l e rm_MM_end s m args below meth c (MQ below (o_Qx D m_cls (some (.int r.1)) (m_cw ad ca ky ty rt r.2.2.2 r.2.1 r.2.2.1) A) args s 0 0 A) m_cls D A 5 30 [.int y1, .ref (ad 0)] (m_cw ad ca ky ty rt Mm M0 M1) [(0, .ref (ad 0)), (1, .int x1), (2, .int x2)] := by
  unfold m_MM_end_j30 at h
  intro H locs ls hP hS hl
  have C0 := C
  obtain ⟨hx, hb, -, -, -, hown, hts, hK, -, -⟩ := C0
  refine lv_iconst (v := (1:Int32)) hx hb d_MM_end_30 (by decide) ?_
  obtain ⟨q1, hq1, h⟩ := o_bd_some h
  refine o_V (st1 := [.int q1.1]) (w1 := (m_cw ad ca ky ty rt q1.2 M0 M1)) hE.1 C (e_MM_fails hE hKy l y1 (1:Int32) Mm M0 M1 rt hq1) hP (hDD _ _ _ _) hS hl.1 rfl mw_0 k_8_176 k_8_178 k_s_81 k_1_12 k_8_179 hv_MM_fails rfl rfl ⟨(Nat.le_of_ble_eq_true rfl), (Nat.le_of_ble_eq_true rfl)⟩ rfl (Nat.le_of_ble_eq_true rfl) ⟨Nat.zero_le _, Nat.zero_le _⟩ rfl d_MM_end_31 (fun H locs hP hS => ?_)
  refine lv_if_eq (tgt := 39) hx hb d_MM_end_34 (by decide) (fun c2 => ?_) (fun c2 => ?_)
  · replace h := o_tt c2 h
    refine lv_aload_n hx hb d_MM_end_39 rfl (lv_at hl 0 rfl) ?_
    refine lv_iconst (v := (0:Int32)) hx hb d_MM_end_40 (by decide) ?_
    refine o_put (v := .int (0:Int32)) (ty := .int) (w1 := (m_cw ad ca ky ty rt (MM_mk (MM_err q1.2) (0:Int32) (MM_wrong q1.2) (MM_octets q1.2) (MM_nodeKind q1.2) (MM_nodeA q1.2) (MM_nodeB q1.2) (MM_nodeC q1.2) (MM_nodeNext q1.2) (MM_low q1.2) (MM_high q1.2) (MM_setFrom q1.2) (MM_setTo q1.2) (MM_setNot q1.2) (MM_op q1.2) (MM_opA q1.2) (MM_opB q1.2) (MM_mark q1.2) (MM_now q1.2) (MM_then q1.2) (MM_todo q1.2) (MM_nodes q1.2) (MM_sets q1.2) (MM_ranges q1.2) (MM_steps q1.2) (MM_pat q1.2) (MM_patEnd q1.2) (MM_round q1.2) (MM_many1 q1.2) (MM_broken q1.2) (MM_checked q1.2) (MM_faultKind q1.2) (MM_faultValue q1.2) (MM_latestFault q1.2) (MM_anchors q1.2) (MM_key q1.2) (MM_target q1.2) (MM_anchorValue q1.2) (MM_anchorSchema q1.2) (MM_path q1.2) (MM_route q1.2) (MM_isSchema q1.2) (MM_seen1 q1.2) (MM_pathSize q1.2) (MM_octetRow q1.2) (MM_partRow q1.2) (MM_pairValue q1.2) (MM_pairKey q1.2) (MM_pairs q1.2) (MM_judged q1.2) (MM_deepest q1.2) (MM_depth q1.2) (MM_over q1.2) (MM_seen q1.2)) M0 M1)) C in_MM t_MM t_MM_ok n_MM hP (hDD _ _ _ _) hS 0 mw_0 rfl 1 (by decide) k_7_231 rfl rfl (by decide +kernel) rfl rfl (Nat.le_of_ble_eq_true rfl) rfl d_MM_end_41 (fun H locs hP hS => ?_)
    refine lv_iload_n hx hb d_MM_end_44 rfl (lv_at hl 1 rfl) ?_
    refine lv_if_eq (tgt := 55) hx hb d_MM_end_45 (by decide) (fun c3 => ?_) (fun c3 => ?_)
    · replace h := o_tt c3 h
      refine lv_aload_n hx hb d_MM_end_55 rfl (lv_at hl 0 rfl) ?_
      refine o_get (v := .ref (ad 48)) C in_MM hP 0 mw_0 rfl 5 (by decide) k_7_235 rfl rfl d_MM_end_56 ?_
      refine lv_astore_n (lv' := [(3, .ref (ad 48)), (0, .ref (ad 0)), (1, .int x1), (2, .int x2)]) hx hb d_MM_end_59 rfl hl (by decide) rfl (fun ls hl => ?_)
      refine lv_iconst (v := (0:Int32)) hx hb d_MM_end_60 (by decide) ?_
      refine lv_istore (lv' := [(4, .int (0:Int32)), (3, .ref (ad 48)), (0, .ref (ad 0)), (1, .int x1), (2, .int x2)]) hx hb d_MM_end_61 hl (by decide) rfl (fun ls hl => ?_)
      obtain ⟨q2, hq2, h⟩ := o_bd_some h
      refine o_sim2 (AH := fun zz => o_At p l e rm_MM_end s m args below meth c _ m_cls D A 5 63 [] (m_cw ad ca ky ty rt (MM_mk (MM_err q1.2) (0:Int32) (MM_wrong q1.2) (MM_octets q1.2) (MM_nodeKind q1.2) (MM_nodeA q1.2) (MM_nodeB q1.2) (MM_nodeC q1.2) (MM_nodeNext q1.2) (MM_low q1.2) (MM_high q1.2) (MM_setFrom q1.2) (MM_setTo q1.2) (MM_setNot q1.2) (MM_op q1.2) (MM_opA q1.2) (MM_opB q1.2) (MM_mark q1.2) (MM_now q1.2) (MM_then q1.2) (MM_todo q1.2) (MM_nodes q1.2) (MM_sets q1.2) (MM_ranges q1.2) (MM_steps q1.2) (MM_pat q1.2) (MM_patEnd q1.2) (MM_round q1.2) (MM_many1 q1.2) (MM_broken q1.2) (MM_checked q1.2) (MM_faultKind q1.2) (MM_faultValue q1.2) (MM_latestFault q1.2) (MM_anchors q1.2) (MM_key q1.2) (MM_target q1.2) (MM_anchorValue q1.2) (MM_anchorSchema q1.2) (MM_path q1.2) (MM_route q1.2) (MM_isSchema q1.2) (MM_seen1 q1.2) (MM_pathSize q1.2) (MM_octetRow q1.2) (MM_partRow q1.2) (MM_pairValue q1.2) (MM_pairKey q1.2) (MM_pairs q1.2) (MM_judged q1.2) (MM_deepest q1.2) (MM_depth q1.2) (MM_over q1.2) (MM_seen q1.2)) zz.2.1 zz.2.2) [(0, .ref (ad 0)), (1, .int x1), (2, .int x2), (3, .ref (ad 48)), (4, .int zz.1)]) (AX := fun qq => o_At p l e rm_MM_end s m args below meth c _ m_cls D A 5 89 [] (m_cw ad ca ky ty rt (MM_mk (MM_err q1.2) (0:Int32) (MM_wrong q1.2) (MM_octets q1.2) (MM_nodeKind q1.2) (MM_nodeA q1.2) (MM_nodeB q1.2) (MM_nodeC q1.2) (MM_nodeNext q1.2) (MM_low q1.2) (MM_high q1.2) (MM_setFrom q1.2) (MM_setTo q1.2) (MM_setNot q1.2) (MM_op q1.2) (MM_opA q1.2) (MM_opB q1.2) (MM_mark q1.2) (MM_now q1.2) (MM_then q1.2) (MM_todo q1.2) (MM_nodes q1.2) (MM_sets q1.2) (MM_ranges q1.2) (MM_steps q1.2) (MM_pat q1.2) (MM_patEnd q1.2) (MM_round q1.2) (MM_many1 q1.2) (MM_broken q1.2) (MM_checked q1.2) (MM_faultKind q1.2) (MM_faultValue q1.2) (MM_latestFault q1.2) (MM_anchors q1.2) (MM_key q1.2) (MM_target q1.2) (MM_anchorValue q1.2) (MM_anchorSchema q1.2) (MM_path q1.2) (MM_route q1.2) (MM_isSchema q1.2) (MM_seen1 q1.2) (MM_pathSize q1.2) (MM_octetRow q1.2) (MM_partRow q1.2) (MM_pairValue q1.2) (MM_pairKey q1.2) (MM_pairs q1.2) (MM_judged q1.2) (MM_deepest q1.2) (MM_depth q1.2) (MM_over q1.2) (MM_seen q1.2)) qq.2.2.1 qq.2.2.2) [(0, .ref (ad 0)), (1, .int x1), (2, .int x2), (3, .ref (ad 48))]) (fun zz qq h h0 h1 => f_MM_end_b63 hE hKy C hDD n x1 x2 (MM_mk (MM_err q1.2) (0:Int32) (MM_wrong q1.2) (MM_octets q1.2) (MM_nodeKind q1.2) (MM_nodeA q1.2) (MM_nodeB q1.2) (MM_nodeC q1.2) (MM_nodeNext q1.2) (MM_low q1.2) (MM_high q1.2) (MM_setFrom q1.2) (MM_setTo q1.2) (MM_setNot q1.2) (MM_op q1.2) (MM_opA q1.2) (MM_opB q1.2) (MM_mark q1.2) (MM_now q1.2) (MM_then q1.2) (MM_todo q1.2) (MM_nodes q1.2) (MM_sets q1.2) (MM_ranges q1.2) (MM_steps q1.2) (MM_pat q1.2) (MM_patEnd q1.2) (MM_round q1.2) (MM_many1 q1.2) (MM_broken q1.2) (MM_checked q1.2) (MM_faultKind q1.2) (MM_faultValue q1.2) (MM_latestFault q1.2) (MM_anchors q1.2) (MM_key q1.2) (MM_target q1.2) (MM_anchorValue q1.2) (MM_anchorSchema q1.2) (MM_path q1.2) (MM_route q1.2) (MM_isSchema q1.2) (MM_seen1 q1.2) (MM_pathSize q1.2) (MM_octetRow q1.2) (MM_partRow q1.2) (MM_pairValue q1.2) (MM_pairKey q1.2) (MM_pairs q1.2) (MM_judged q1.2) (MM_deepest q1.2) (MM_depth q1.2) (MM_over q1.2) (MM_seen q1.2)) rt zz qq h h0 h1) n _ q2 hq2 ?_ _ _ _ hP hS (lv_sub hl [2, 3, 4, 1, 0] rfl)
      intro H locs ls hP hS hl
      refine lv_iload_n hx hb d_MM_end_89 rfl (lv_at hl 1 rfl) ?_
      refine lv_if_eq (tgt := 103) hx hb d_MM_end_90 (by decide) (fun c7 => ?_) (fun c7 => ?_)
      · replace h := o_tt c7 h
        exact f_MM_end_j103 hE hKy C hDD n x2 q2.2.2.1 q2.2.2.2 (MM_mk (MM_err q1.2) (0:Int32) (MM_wrong q1.2) (MM_octets q1.2) (MM_nodeKind q1.2) (MM_nodeA q1.2) (MM_nodeB q1.2) (MM_nodeC q1.2) (MM_nodeNext q1.2) (MM_low q1.2) (MM_high q1.2) (MM_setFrom q1.2) (MM_setTo q1.2) (MM_setNot q1.2) (MM_op q1.2) (MM_opA q1.2) (MM_opB q1.2) (MM_mark q1.2) (MM_now q1.2) (MM_then q1.2) (MM_todo q1.2) (MM_nodes q1.2) (MM_sets q1.2) (MM_ranges q1.2) (MM_steps q1.2) (MM_pat q1.2) (MM_patEnd q1.2) (MM_round q1.2) (MM_many1 q1.2) (MM_broken q1.2) (MM_checked q1.2) (MM_faultKind q1.2) (MM_faultValue q1.2) (MM_latestFault q1.2) (MM_anchors q1.2) (MM_key q1.2) (MM_target q1.2) (MM_anchorValue q1.2) (MM_anchorSchema q1.2) (MM_path q1.2) (MM_route q1.2) (MM_isSchema q1.2) (MM_seen1 q1.2) (MM_pathSize q1.2) (MM_octetRow q1.2) (MM_partRow q1.2) (MM_pairValue q1.2) (MM_pairKey q1.2) (MM_pairs q1.2) (MM_judged q1.2) (MM_deepest q1.2) (MM_depth q1.2) (MM_over q1.2) (MM_seen q1.2)) rt h _ _ _ hP hS (lv_sub hl [0, 2, 3] rfl)
      · replace h := o_ff c7 h
        refine lv_aload_n hx hb d_MM_end_93 rfl (lv_at hl 0 rfl) ?_
        refine lv_iconst (v := (0:Int32)) hx hb d_MM_end_94 (by decide) ?_
        refine o_put (v := .int (0:Int32)) (ty := .boolean) (w1 := (m_cw ad ca ky ty rt (MM_mk (MM_err q1.2) (0:Int32) (MM_wrong q1.2) (MM_octets q1.2) (MM_nodeKind q1.2) (MM_nodeA q1.2) (MM_nodeB q1.2) (MM_nodeC q1.2) (MM_nodeNext q1.2) (MM_low q1.2) (MM_high q1.2) (MM_setFrom q1.2) (MM_setTo q1.2) (MM_setNot q1.2) (MM_op q1.2) (MM_opA q1.2) (MM_opB q1.2) (MM_mark q1.2) (MM_now q1.2) (MM_then q1.2) (MM_todo q1.2) (MM_nodes q1.2) (MM_sets q1.2) (MM_ranges q1.2) (MM_steps q1.2) (MM_pat q1.2) (MM_patEnd q1.2) (MM_round q1.2) (MM_many1 q1.2) (MM_broken q1.2) (0:Int32) (MM_faultKind q1.2) (MM_faultValue q1.2) (MM_latestFault q1.2) (MM_anchors q1.2) (MM_key q1.2) (MM_target q1.2) (MM_anchorValue q1.2) (MM_anchorSchema q1.2) (MM_path q1.2) (MM_route q1.2) (MM_isSchema q1.2) (MM_seen1 q1.2) (MM_pathSize q1.2) (MM_octetRow q1.2) (MM_partRow q1.2) (MM_pairValue q1.2) (MM_pairKey q1.2) (MM_pairs q1.2) (MM_judged q1.2) (MM_deepest q1.2) (MM_depth q1.2) (MM_over q1.2) (MM_seen q1.2)) q2.2.2.1 q2.2.2.2)) C in_MM t_MM t_MM_ok n_MM hP (hDD _ _ _ _) hS 0 mw_0 rfl 35 (by decide) k_8_25 rfl rfl (by decide +kernel) rfl rfl (Nat.le_of_ble_eq_true rfl) rfl d_MM_end_95 (fun H locs hP hS => ?_)
        refine lv_aload_n hx hb d_MM_end_98 rfl (lv_at hl 0 rfl) ?_
        refine lv_iconst (v := (-1:Int32)) hx hb d_MM_end_99 (by decide) ?_
        refine o_put (v := .int (-1:Int32)) (ty := .int) (w1 := (m_cw ad ca ky ty rt (MM_mk (MM_err q1.2) (0:Int32) (MM_wrong q1.2) (MM_octets q1.2) (MM_nodeKind q1.2) (MM_nodeA q1.2) (MM_nodeB q1.2) (MM_nodeC q1.2) (MM_nodeNext q1.2) (MM_low q1.2) (MM_high q1.2) (MM_setFrom q1.2) (MM_setTo q1.2) (MM_setNot q1.2) (MM_op q1.2) (MM_opA q1.2) (MM_opB q1.2) (MM_mark q1.2) (MM_now q1.2) (MM_then q1.2) (MM_todo q1.2) (MM_nodes q1.2) (MM_sets q1.2) (MM_ranges q1.2) (MM_steps q1.2) (MM_pat q1.2) (MM_patEnd q1.2) (MM_round q1.2) (MM_many1 q1.2) (MM_broken q1.2) (0:Int32) (MM_faultKind q1.2) (MM_faultValue q1.2) (-1:Int32) (MM_anchors q1.2) (MM_key q1.2) (MM_target q1.2) (MM_anchorValue q1.2) (MM_anchorSchema q1.2) (MM_path q1.2) (MM_route q1.2) (MM_isSchema q1.2) (MM_seen1 q1.2) (MM_pathSize q1.2) (MM_octetRow q1.2) (MM_partRow q1.2) (MM_pairValue q1.2) (MM_pairKey q1.2) (MM_pairs q1.2) (MM_judged q1.2) (MM_deepest q1.2) (MM_depth q1.2) (MM_over q1.2) (MM_seen q1.2)) q2.2.2.1 q2.2.2.2)) C in_MM t_MM t_MM_ok n_MM hP (hDD _ _ _ _) hS 0 mw_0 rfl 38 (by decide) k_8_28 rfl rfl (by decide +kernel) rfl rfl (Nat.le_of_ble_eq_true rfl) rfl d_MM_end_100 (fun H locs hP hS => ?_)
        exact f_MM_end_j103 hE hKy C hDD n x2 q2.2.2.1 q2.2.2.2 (MM_mk (MM_err q1.2) (0:Int32) (MM_wrong q1.2) (MM_octets q1.2) (MM_nodeKind q1.2) (MM_nodeA q1.2) (MM_nodeB q1.2) (MM_nodeC q1.2) (MM_nodeNext q1.2) (MM_low q1.2) (MM_high q1.2) (MM_setFrom q1.2) (MM_setTo q1.2) (MM_setNot q1.2) (MM_op q1.2) (MM_opA q1.2) (MM_opB q1.2) (MM_mark q1.2) (MM_now q1.2) (MM_then q1.2) (MM_todo q1.2) (MM_nodes q1.2) (MM_sets q1.2) (MM_ranges q1.2) (MM_steps q1.2) (MM_pat q1.2) (MM_patEnd q1.2) (MM_round q1.2) (MM_many1 q1.2) (MM_broken q1.2) (0:Int32) (MM_faultKind q1.2) (MM_faultValue q1.2) (-1:Int32) (MM_anchors q1.2) (MM_key q1.2) (MM_target q1.2) (MM_anchorValue q1.2) (MM_anchorSchema q1.2) (MM_path q1.2) (MM_route q1.2) (MM_isSchema q1.2) (MM_seen1 q1.2) (MM_pathSize q1.2) (MM_octetRow q1.2) (MM_partRow q1.2) (MM_pairValue q1.2) (MM_pairKey q1.2) (MM_pairs q1.2) (MM_judged q1.2) (MM_deepest q1.2) (MM_depth q1.2) (MM_over q1.2) (MM_seen q1.2)) rt h _ _ _ hP hS (lv_sub hl [0, 2, 3] rfl)
    · replace h := o_ff c3 h
      refine lv_aload_n hx hb d_MM_end_48 rfl (lv_at hl 0 rfl) ?_
      refine o_get (v := .ref (ad 33)) C in_MM hP 0 mw_0 rfl 4 (by decide) k_7_234 rfl rfl d_MM_end_49 ?_
      refine lv_goto (tgt := 59) hx hb d_MM_end_52 (by decide) ?_
      refine lv_astore_n (lv' := [(3, .ref (ad 33)), (0, .ref (ad 0)), (1, .int x1), (2, .int x2)]) hx hb d_MM_end_59 rfl hl (by decide) rfl (fun ls hl => ?_)
      refine lv_iconst (v := (0:Int32)) hx hb d_MM_end_60 (by decide) ?_
      refine lv_istore (lv' := [(4, .int (0:Int32)), (3, .ref (ad 33)), (0, .ref (ad 0)), (1, .int x1), (2, .int x2)]) hx hb d_MM_end_61 hl (by decide) rfl (fun ls hl => ?_)
      obtain ⟨q5, hq5, h⟩ := o_bd_some h
      refine o_sim2 (AH := fun zz => o_At p l e rm_MM_end s m args below meth c _ m_cls D A 5 63 [] (m_cw ad ca ky ty rt (MM_mk (MM_err q1.2) (0:Int32) (MM_wrong q1.2) (MM_octets q1.2) (MM_nodeKind q1.2) (MM_nodeA q1.2) (MM_nodeB q1.2) (MM_nodeC q1.2) (MM_nodeNext q1.2) (MM_low q1.2) (MM_high q1.2) (MM_setFrom q1.2) (MM_setTo q1.2) (MM_setNot q1.2) (MM_op q1.2) (MM_opA q1.2) (MM_opB q1.2) (MM_mark q1.2) (MM_now q1.2) (MM_then q1.2) (MM_todo q1.2) (MM_nodes q1.2) (MM_sets q1.2) (MM_ranges q1.2) (MM_steps q1.2) (MM_pat q1.2) (MM_patEnd q1.2) (MM_round q1.2) (MM_many1 q1.2) (MM_broken q1.2) (MM_checked q1.2) (MM_faultKind q1.2) (MM_faultValue q1.2) (MM_latestFault q1.2) (MM_anchors q1.2) (MM_key q1.2) (MM_target q1.2) (MM_anchorValue q1.2) (MM_anchorSchema q1.2) (MM_path q1.2) (MM_route q1.2) (MM_isSchema q1.2) (MM_seen1 q1.2) (MM_pathSize q1.2) (MM_octetRow q1.2) (MM_partRow q1.2) (MM_pairValue q1.2) (MM_pairKey q1.2) (MM_pairs q1.2) (MM_judged q1.2) (MM_deepest q1.2) (MM_depth q1.2) (MM_over q1.2) (MM_seen q1.2)) zz.2.1 zz.2.2) [(0, .ref (ad 0)), (1, .int x1), (2, .int x2), (3, .ref (ad 33)), (4, .int zz.1)]) (AX := fun qq => o_At p l e rm_MM_end s m args below meth c _ m_cls D A 5 89 [] (m_cw ad ca ky ty rt (MM_mk (MM_err q1.2) (0:Int32) (MM_wrong q1.2) (MM_octets q1.2) (MM_nodeKind q1.2) (MM_nodeA q1.2) (MM_nodeB q1.2) (MM_nodeC q1.2) (MM_nodeNext q1.2) (MM_low q1.2) (MM_high q1.2) (MM_setFrom q1.2) (MM_setTo q1.2) (MM_setNot q1.2) (MM_op q1.2) (MM_opA q1.2) (MM_opB q1.2) (MM_mark q1.2) (MM_now q1.2) (MM_then q1.2) (MM_todo q1.2) (MM_nodes q1.2) (MM_sets q1.2) (MM_ranges q1.2) (MM_steps q1.2) (MM_pat q1.2) (MM_patEnd q1.2) (MM_round q1.2) (MM_many1 q1.2) (MM_broken q1.2) (MM_checked q1.2) (MM_faultKind q1.2) (MM_faultValue q1.2) (MM_latestFault q1.2) (MM_anchors q1.2) (MM_key q1.2) (MM_target q1.2) (MM_anchorValue q1.2) (MM_anchorSchema q1.2) (MM_path q1.2) (MM_route q1.2) (MM_isSchema q1.2) (MM_seen1 q1.2) (MM_pathSize q1.2) (MM_octetRow q1.2) (MM_partRow q1.2) (MM_pairValue q1.2) (MM_pairKey q1.2) (MM_pairs q1.2) (MM_judged q1.2) (MM_deepest q1.2) (MM_depth q1.2) (MM_over q1.2) (MM_seen q1.2)) qq.2.2.1 qq.2.2.2) [(0, .ref (ad 0)), (1, .int x1), (2, .int x2), (3, .ref (ad 33))]) (fun zz qq h h0 h1 => f_MM_end_b63v5 hE hKy C hDD n x1 x2 (MM_mk (MM_err q1.2) (0:Int32) (MM_wrong q1.2) (MM_octets q1.2) (MM_nodeKind q1.2) (MM_nodeA q1.2) (MM_nodeB q1.2) (MM_nodeC q1.2) (MM_nodeNext q1.2) (MM_low q1.2) (MM_high q1.2) (MM_setFrom q1.2) (MM_setTo q1.2) (MM_setNot q1.2) (MM_op q1.2) (MM_opA q1.2) (MM_opB q1.2) (MM_mark q1.2) (MM_now q1.2) (MM_then q1.2) (MM_todo q1.2) (MM_nodes q1.2) (MM_sets q1.2) (MM_ranges q1.2) (MM_steps q1.2) (MM_pat q1.2) (MM_patEnd q1.2) (MM_round q1.2) (MM_many1 q1.2) (MM_broken q1.2) (MM_checked q1.2) (MM_faultKind q1.2) (MM_faultValue q1.2) (MM_latestFault q1.2) (MM_anchors q1.2) (MM_key q1.2) (MM_target q1.2) (MM_anchorValue q1.2) (MM_anchorSchema q1.2) (MM_path q1.2) (MM_route q1.2) (MM_isSchema q1.2) (MM_seen1 q1.2) (MM_pathSize q1.2) (MM_octetRow q1.2) (MM_partRow q1.2) (MM_pairValue q1.2) (MM_pairKey q1.2) (MM_pairs q1.2) (MM_judged q1.2) (MM_deepest q1.2) (MM_depth q1.2) (MM_over q1.2) (MM_seen q1.2)) rt zz qq h h0 h1) n _ q5 hq5 ?_ _ _ _ hP hS (lv_sub hl [2, 3, 4, 1, 0] rfl)
      intro H locs ls hP hS hl
      refine lv_iload_n hx hb d_MM_end_89 rfl (lv_at hl 1 rfl) ?_
      refine lv_if_eq (tgt := 103) hx hb d_MM_end_90 (by decide) (fun c13 => ?_) (fun c13 => ?_)
      · replace h := o_tt c13 h
        exact f_MM_end_j103v7 hE hKy C hDD n x2 q5.2.2.1 q5.2.2.2 (MM_mk (MM_err q1.2) (0:Int32) (MM_wrong q1.2) (MM_octets q1.2) (MM_nodeKind q1.2) (MM_nodeA q1.2) (MM_nodeB q1.2) (MM_nodeC q1.2) (MM_nodeNext q1.2) (MM_low q1.2) (MM_high q1.2) (MM_setFrom q1.2) (MM_setTo q1.2) (MM_setNot q1.2) (MM_op q1.2) (MM_opA q1.2) (MM_opB q1.2) (MM_mark q1.2) (MM_now q1.2) (MM_then q1.2) (MM_todo q1.2) (MM_nodes q1.2) (MM_sets q1.2) (MM_ranges q1.2) (MM_steps q1.2) (MM_pat q1.2) (MM_patEnd q1.2) (MM_round q1.2) (MM_many1 q1.2) (MM_broken q1.2) (MM_checked q1.2) (MM_faultKind q1.2) (MM_faultValue q1.2) (MM_latestFault q1.2) (MM_anchors q1.2) (MM_key q1.2) (MM_target q1.2) (MM_anchorValue q1.2) (MM_anchorSchema q1.2) (MM_path q1.2) (MM_route q1.2) (MM_isSchema q1.2) (MM_seen1 q1.2) (MM_pathSize q1.2) (MM_octetRow q1.2) (MM_partRow q1.2) (MM_pairValue q1.2) (MM_pairKey q1.2) (MM_pairs q1.2) (MM_judged q1.2) (MM_deepest q1.2) (MM_depth q1.2) (MM_over q1.2) (MM_seen q1.2)) rt h _ _ _ hP hS (lv_sub hl [0, 2, 3] rfl)
      · replace h := o_ff c13 h
        refine lv_aload_n hx hb d_MM_end_93 rfl (lv_at hl 0 rfl) ?_
        refine lv_iconst (v := (0:Int32)) hx hb d_MM_end_94 (by decide) ?_
        refine o_put (v := .int (0:Int32)) (ty := .boolean) (w1 := (m_cw ad ca ky ty rt (MM_mk (MM_err q1.2) (0:Int32) (MM_wrong q1.2) (MM_octets q1.2) (MM_nodeKind q1.2) (MM_nodeA q1.2) (MM_nodeB q1.2) (MM_nodeC q1.2) (MM_nodeNext q1.2) (MM_low q1.2) (MM_high q1.2) (MM_setFrom q1.2) (MM_setTo q1.2) (MM_setNot q1.2) (MM_op q1.2) (MM_opA q1.2) (MM_opB q1.2) (MM_mark q1.2) (MM_now q1.2) (MM_then q1.2) (MM_todo q1.2) (MM_nodes q1.2) (MM_sets q1.2) (MM_ranges q1.2) (MM_steps q1.2) (MM_pat q1.2) (MM_patEnd q1.2) (MM_round q1.2) (MM_many1 q1.2) (MM_broken q1.2) (0:Int32) (MM_faultKind q1.2) (MM_faultValue q1.2) (MM_latestFault q1.2) (MM_anchors q1.2) (MM_key q1.2) (MM_target q1.2) (MM_anchorValue q1.2) (MM_anchorSchema q1.2) (MM_path q1.2) (MM_route q1.2) (MM_isSchema q1.2) (MM_seen1 q1.2) (MM_pathSize q1.2) (MM_octetRow q1.2) (MM_partRow q1.2) (MM_pairValue q1.2) (MM_pairKey q1.2) (MM_pairs q1.2) (MM_judged q1.2) (MM_deepest q1.2) (MM_depth q1.2) (MM_over q1.2) (MM_seen q1.2)) q5.2.2.1 q5.2.2.2)) C in_MM t_MM t_MM_ok n_MM hP (hDD _ _ _ _) hS 0 mw_0 rfl 35 (by decide) k_8_25 rfl rfl (by decide +kernel) rfl rfl (Nat.le_of_ble_eq_true rfl) rfl d_MM_end_95 (fun H locs hP hS => ?_)
        refine lv_aload_n hx hb d_MM_end_98 rfl (lv_at hl 0 rfl) ?_
        refine lv_iconst (v := (-1:Int32)) hx hb d_MM_end_99 (by decide) ?_
        refine o_put (v := .int (-1:Int32)) (ty := .int) (w1 := (m_cw ad ca ky ty rt (MM_mk (MM_err q1.2) (0:Int32) (MM_wrong q1.2) (MM_octets q1.2) (MM_nodeKind q1.2) (MM_nodeA q1.2) (MM_nodeB q1.2) (MM_nodeC q1.2) (MM_nodeNext q1.2) (MM_low q1.2) (MM_high q1.2) (MM_setFrom q1.2) (MM_setTo q1.2) (MM_setNot q1.2) (MM_op q1.2) (MM_opA q1.2) (MM_opB q1.2) (MM_mark q1.2) (MM_now q1.2) (MM_then q1.2) (MM_todo q1.2) (MM_nodes q1.2) (MM_sets q1.2) (MM_ranges q1.2) (MM_steps q1.2) (MM_pat q1.2) (MM_patEnd q1.2) (MM_round q1.2) (MM_many1 q1.2) (MM_broken q1.2) (0:Int32) (MM_faultKind q1.2) (MM_faultValue q1.2) (-1:Int32) (MM_anchors q1.2) (MM_key q1.2) (MM_target q1.2) (MM_anchorValue q1.2) (MM_anchorSchema q1.2) (MM_path q1.2) (MM_route q1.2) (MM_isSchema q1.2) (MM_seen1 q1.2) (MM_pathSize q1.2) (MM_octetRow q1.2) (MM_partRow q1.2) (MM_pairValue q1.2) (MM_pairKey q1.2) (MM_pairs q1.2) (MM_judged q1.2) (MM_deepest q1.2) (MM_depth q1.2) (MM_over q1.2) (MM_seen q1.2)) q5.2.2.1 q5.2.2.2)) C in_MM t_MM t_MM_ok n_MM hP (hDD _ _ _ _) hS 0 mw_0 rfl 38 (by decide) k_8_28 rfl rfl (by decide +kernel) rfl rfl (Nat.le_of_ble_eq_true rfl) rfl d_MM_end_100 (fun H locs hP hS => ?_)
        exact f_MM_end_j103v7 hE hKy C hDD n x2 q5.2.2.1 q5.2.2.2 (MM_mk (MM_err q1.2) (0:Int32) (MM_wrong q1.2) (MM_octets q1.2) (MM_nodeKind q1.2) (MM_nodeA q1.2) (MM_nodeB q1.2) (MM_nodeC q1.2) (MM_nodeNext q1.2) (MM_low q1.2) (MM_high q1.2) (MM_setFrom q1.2) (MM_setTo q1.2) (MM_setNot q1.2) (MM_op q1.2) (MM_opA q1.2) (MM_opB q1.2) (MM_mark q1.2) (MM_now q1.2) (MM_then q1.2) (MM_todo q1.2) (MM_nodes q1.2) (MM_sets q1.2) (MM_ranges q1.2) (MM_steps q1.2) (MM_pat q1.2) (MM_patEnd q1.2) (MM_round q1.2) (MM_many1 q1.2) (MM_broken q1.2) (0:Int32) (MM_faultKind q1.2) (MM_faultValue q1.2) (-1:Int32) (MM_anchors q1.2) (MM_key q1.2) (MM_target q1.2) (MM_anchorValue q1.2) (MM_anchorSchema q1.2) (MM_path q1.2) (MM_route q1.2) (MM_isSchema q1.2) (MM_seen1 q1.2) (MM_pathSize q1.2) (MM_octetRow q1.2) (MM_partRow q1.2) (MM_pairValue q1.2) (MM_pairKey q1.2) (MM_pairs q1.2) (MM_judged q1.2) (MM_deepest q1.2) (MM_depth q1.2) (MM_over q1.2) (MM_seen q1.2)) rt h _ _ _ hP hS (lv_sub hl [0, 2, 3] rfl)
  · replace h := o_ff c2 h
    refine lv_iconst (v := (0:Int32)) hx hb d_MM_end_37 (by decide) ?_
    cases h
    exact o_ri (v := (0:Int32)) C hP hS d_MM_end_38
set_option maxHeartbeats 4000000 in
set_option maxRecDepth 100000 in
theorem e_MM_end {E : (Nat → Prop) → State → Heap → Prop} {D : va_G} {ad kd sd vd xd : Nat → Nat} {ca : Nat → ClassId} {ky ty : Nat → Option Nat} (hE : o_EK E kd sd vd xd) (hKy : m_KY ky ty sd) (l : Launch) (n : Nat) (x1 : Int32) (x2 : Int32) (M0 : SMT) (M1 : SMT) (Mm : SMM) (rt : Nat) {r : Int32 × SMT × SMT × SMM} (h : m_MM_end n x1 x2 M0 M1 Mm = some r) : o_Cn E l D m_cls (m_tys ca) y_MM_end cc_MM_end rm_MM_end [.ref (ad 0), .int x1, .int x2] (m_cw ad ca ky ty rt Mm M0 M1) (m_cw ad ca ky ty rt r.2.2.2 r.2.1 r.2.2.1) (some (.int r.1)) := by
  refine o_Cn_of (by decide) (Nat.le_of_ble_eq_true rfl) ?_
  intro p e s m below meth c A ls C hD hP hS hl
  have hDD : ∀ (rt : Nat) (Mm : SMM) (M0 : SMT) (M1 : SMT), va_D A (m_cw ad ca ky ty rt Mm M0 M1) := fun _ _ _ _ => o_D_map hD rfl
  have hl : lv_has ls 5 [(0, .ref (ad 0)), (1, .int x1), (2, .int x2)] := hl
  unfold m_MM_end at h
  have C0 := C
  obtain ⟨hx, hb, -, -, -, hown, hts, hK, -, -⟩ := C0
  refine lv_aload_n hx hb d_MM_end_0 rfl (lv_at hl 0 rfl) ?_
  refine lv_iconst (v := (0:Int32)) hx hb d_MM_end_1 (by decide) ?_
  refine o_put (v := .int (0:Int32)) (ty := .int) (w1 := (m_cw ad ca ky ty rt (MM_mk (0:Int32) (MM_fed Mm) (MM_wrong Mm) (MM_octets Mm) (MM_nodeKind Mm) (MM_nodeA Mm) (MM_nodeB Mm) (MM_nodeC Mm) (MM_nodeNext Mm) (MM_low Mm) (MM_high Mm) (MM_setFrom Mm) (MM_setTo Mm) (MM_setNot Mm) (MM_op Mm) (MM_opA Mm) (MM_opB Mm) (MM_mark Mm) (MM_now Mm) (MM_then Mm) (MM_todo Mm) (MM_nodes Mm) (MM_sets Mm) (MM_ranges Mm) (MM_steps Mm) (MM_pat Mm) (MM_patEnd Mm) (MM_round Mm) (MM_many1 Mm) (MM_broken Mm) (MM_checked Mm) (MM_faultKind Mm) (MM_faultValue Mm) (MM_latestFault Mm) (MM_anchors Mm) (MM_key Mm) (MM_target Mm) (MM_anchorValue Mm) (MM_anchorSchema Mm) (MM_path Mm) (MM_route Mm) (MM_isSchema Mm) (MM_seen1 Mm) (MM_pathSize Mm) (MM_octetRow Mm) (MM_partRow Mm) (MM_pairValue Mm) (MM_pairKey Mm) (MM_pairs Mm) (MM_judged Mm) (MM_deepest Mm) (MM_depth Mm) (MM_over Mm) (MM_seen Mm)) M0 M1)) C in_MM t_MM t_MM_ok n_MM hP (hDD _ _ _ _) hS 0 mw_0 rfl 0 (by decide) k_7_230 rfl rfl (by decide +kernel) rfl rfl (Nat.le_of_ble_eq_true rfl) rfl d_MM_end_2 (fun H locs hP hS => ?_)
  refine lv_aload_n hx hb d_MM_end_5 rfl (lv_at hl 0 rfl) ?_
  refine lv_iload_n hx hb d_MM_end_6 rfl (lv_at hl 2 rfl) ?_
  refine lv_if_lt (tgt := 25) hx hb d_MM_end_7 (by decide) (fun c1 => ?_) (fun c1 => ?_)
  · replace h := o_tt c1 h
    refine lv_iconst (v := (1:Int32)) hx hb d_MM_end_25 (by decide) ?_
    refine lv_goto (tgt := 30) hx hb d_MM_end_26 (by decide) ?_
    exact f_MM_end_j30 hE hKy C hDD n x1 x2 (1:Int32) M0 M1 (MM_mk (0:Int32) (MM_fed Mm) (MM_wrong Mm) (MM_octets Mm) (MM_nodeKind Mm) (MM_nodeA Mm) (MM_nodeB Mm) (MM_nodeC Mm) (MM_nodeNext Mm) (MM_low Mm) (MM_high Mm) (MM_setFrom Mm) (MM_setTo Mm) (MM_setNot Mm) (MM_op Mm) (MM_opA Mm) (MM_opB Mm) (MM_mark Mm) (MM_now Mm) (MM_then Mm) (MM_todo Mm) (MM_nodes Mm) (MM_sets Mm) (MM_ranges Mm) (MM_steps Mm) (MM_pat Mm) (MM_patEnd Mm) (MM_round Mm) (MM_many1 Mm) (MM_broken Mm) (MM_checked Mm) (MM_faultKind Mm) (MM_faultValue Mm) (MM_latestFault Mm) (MM_anchors Mm) (MM_key Mm) (MM_target Mm) (MM_anchorValue Mm) (MM_anchorSchema Mm) (MM_path Mm) (MM_route Mm) (MM_isSchema Mm) (MM_seen1 Mm) (MM_pathSize Mm) (MM_octetRow Mm) (MM_partRow Mm) (MM_pairValue Mm) (MM_pairKey Mm) (MM_pairs Mm) (MM_judged Mm) (MM_deepest Mm) (MM_depth Mm) (MM_over Mm) (MM_seen Mm)) rt h _ _ _ hP hS (lv_sub hl [0, 1, 2] rfl)
  · replace h := o_ff c1 h
    refine lv_iload_n hx hb d_MM_end_10 rfl (lv_at hl 2 rfl) ?_
    refine lv_sipush (v := (8192:Int32)) hx hb d_MM_end_11 (by decide) ?_
    refine lv_icmp_gt (tgt := 25) hx hb d_MM_end_14 (by decide) (fun c16 => ?_) (fun c16 => ?_)
    · replace h := o_tt c16 h
      refine lv_iconst (v := (1:Int32)) hx hb d_MM_end_25 (by decide) ?_
      refine lv_goto (tgt := 30) hx hb d_MM_end_26 (by decide) ?_
      exact f_MM_end_j30 hE hKy C hDD n x1 x2 (1:Int32) M0 M1 (MM_mk (0:Int32) (MM_fed Mm) (MM_wrong Mm) (MM_octets Mm) (MM_nodeKind Mm) (MM_nodeA Mm) (MM_nodeB Mm) (MM_nodeC Mm) (MM_nodeNext Mm) (MM_low Mm) (MM_high Mm) (MM_setFrom Mm) (MM_setTo Mm) (MM_setNot Mm) (MM_op Mm) (MM_opA Mm) (MM_opB Mm) (MM_mark Mm) (MM_now Mm) (MM_then Mm) (MM_todo Mm) (MM_nodes Mm) (MM_sets Mm) (MM_ranges Mm) (MM_steps Mm) (MM_pat Mm) (MM_patEnd Mm) (MM_round Mm) (MM_many1 Mm) (MM_broken Mm) (MM_checked Mm) (MM_faultKind Mm) (MM_faultValue Mm) (MM_latestFault Mm) (MM_anchors Mm) (MM_key Mm) (MM_target Mm) (MM_anchorValue Mm) (MM_anchorSchema Mm) (MM_path Mm) (MM_route Mm) (MM_isSchema Mm) (MM_seen1 Mm) (MM_pathSize Mm) (MM_octetRow Mm) (MM_partRow Mm) (MM_pairValue Mm) (MM_pairKey Mm) (MM_pairs Mm) (MM_judged Mm) (MM_deepest Mm) (MM_depth Mm) (MM_over Mm) (MM_seen Mm)) rt h _ _ _ hP hS (lv_sub hl [0, 1, 2] rfl)
    · replace h := o_ff c16 h
      refine lv_iload_n hx hb d_MM_end_17 rfl (lv_at hl 2 rfl) ?_
      refine lv_aload_n hx hb d_MM_end_18 rfl (lv_at hl 0 rfl) ?_
      refine o_get (v := .int (MM_fed Mm)) C in_MM hP 0 mw_0 rfl 1 (by decide) k_7_231 rfl rfl d_MM_end_19 ?_
      refine lv_icmp_le (tgt := 29) hx hb d_MM_end_22 (by decide) (fun c17 => ?_) (fun c17 => ?_)
      · replace h := o_tt c17 h
        refine lv_iconst (v := (0:Int32)) hx hb d_MM_end_29 (by decide) ?_
        exact f_MM_end_j30 hE hKy C hDD n x1 x2 (0:Int32) M0 M1 (MM_mk (0:Int32) (MM_fed Mm) (MM_wrong Mm) (MM_octets Mm) (MM_nodeKind Mm) (MM_nodeA Mm) (MM_nodeB Mm) (MM_nodeC Mm) (MM_nodeNext Mm) (MM_low Mm) (MM_high Mm) (MM_setFrom Mm) (MM_setTo Mm) (MM_setNot Mm) (MM_op Mm) (MM_opA Mm) (MM_opB Mm) (MM_mark Mm) (MM_now Mm) (MM_then Mm) (MM_todo Mm) (MM_nodes Mm) (MM_sets Mm) (MM_ranges Mm) (MM_steps Mm) (MM_pat Mm) (MM_patEnd Mm) (MM_round Mm) (MM_many1 Mm) (MM_broken Mm) (MM_checked Mm) (MM_faultKind Mm) (MM_faultValue Mm) (MM_latestFault Mm) (MM_anchors Mm) (MM_key Mm) (MM_target Mm) (MM_anchorValue Mm) (MM_anchorSchema Mm) (MM_path Mm) (MM_route Mm) (MM_isSchema Mm) (MM_seen1 Mm) (MM_pathSize Mm) (MM_octetRow Mm) (MM_partRow Mm) (MM_pairValue Mm) (MM_pairKey Mm) (MM_pairs Mm) (MM_judged Mm) (MM_deepest Mm) (MM_depth Mm) (MM_over Mm) (MM_seen Mm)) rt h _ _ _ hP hS (lv_sub hl [0, 1, 2] rfl)
      · replace h := o_ff c17 h
        refine lv_iconst (v := (1:Int32)) hx hb d_MM_end_25 (by decide) ?_
        refine lv_goto (tgt := 30) hx hb d_MM_end_26 (by decide) ?_
        exact f_MM_end_j30 hE hKy C hDD n x1 x2 (1:Int32) M0 M1 (MM_mk (0:Int32) (MM_fed Mm) (MM_wrong Mm) (MM_octets Mm) (MM_nodeKind Mm) (MM_nodeA Mm) (MM_nodeB Mm) (MM_nodeC Mm) (MM_nodeNext Mm) (MM_low Mm) (MM_high Mm) (MM_setFrom Mm) (MM_setTo Mm) (MM_setNot Mm) (MM_op Mm) (MM_opA Mm) (MM_opB Mm) (MM_mark Mm) (MM_now Mm) (MM_then Mm) (MM_todo Mm) (MM_nodes Mm) (MM_sets Mm) (MM_ranges Mm) (MM_steps Mm) (MM_pat Mm) (MM_patEnd Mm) (MM_round Mm) (MM_many1 Mm) (MM_broken Mm) (MM_checked Mm) (MM_faultKind Mm) (MM_faultValue Mm) (MM_latestFault Mm) (MM_anchors Mm) (MM_key Mm) (MM_target Mm) (MM_anchorValue Mm) (MM_anchorSchema Mm) (MM_path Mm) (MM_route Mm) (MM_isSchema Mm) (MM_seen1 Mm) (MM_pathSize Mm) (MM_octetRow Mm) (MM_partRow Mm) (MM_pairValue Mm) (MM_pairKey Mm) (MM_pairs Mm) (MM_judged Mm) (MM_deepest Mm) (MM_depth Mm) (MM_over Mm) (MM_seen Mm)) rt h _ _ _ hP hS (lv_sub hl [0, 1, 2] rfl)
set_option maxHeartbeats 4000000 in
set_option maxRecDepth 100000 in
theorem e_MM_wrong {E : (Nat → Prop) → State → Heap → Prop} {D : va_G} {ad kd sd vd xd : Nat → Nat} {ca : Nat → ClassId} {ky ty : Nat → Option Nat} (hE : o_EK E kd sd vd xd) (hKy : m_KY ky ty sd) (l : Launch)  (Mm : SMM) (M0 : SMT) (M1 : SMT) (rt : Nat) {r : Int32 × SMM} (h : m_MM_wrong Mm = some r) : o_Cn E l D m_cls (m_tys ca) y_MM_wrong cc_MM_wrong rm_MM_wrong [.ref (ad 0)] (m_cw ad ca ky ty rt Mm M0 M1) (m_cw ad ca ky ty rt r.2 M0 M1) (some (.int r.1)) := by
  refine o_Cn_of (by decide) (Nat.le_of_ble_eq_true rfl) ?_
  intro p e s m below meth c A ls C hD hP hS hl
  have hDD : ∀ (rt : Nat) (Mm : SMM) (M0 : SMT) (M1 : SMT), va_D A (m_cw ad ca ky ty rt Mm M0 M1) := fun _ _ _ _ => o_D_map hD rfl
  have hl : lv_has ls 1 [(0, .ref (ad 0))] := hl
  unfold m_MM_wrong at h
  have C0 := C
  obtain ⟨hx, hb, -, -, -, hown, hts, hK, -, -⟩ := C0
  refine lv_aload_n hx hb d_MM_wrong_0 rfl (lv_at hl 0 rfl) ?_
  refine lv_iconst (v := (0:Int32)) hx hb d_MM_wrong_1 (by decide) ?_
  refine o_put (v := .int (0:Int32)) (ty := .int) (w1 := (m_cw ad ca ky ty rt (MM_mk (0:Int32) (MM_fed Mm) (MM_wrong Mm) (MM_octets Mm) (MM_nodeKind Mm) (MM_nodeA Mm) (MM_nodeB Mm) (MM_nodeC Mm) (MM_nodeNext Mm) (MM_low Mm) (MM_high Mm) (MM_setFrom Mm) (MM_setTo Mm) (MM_setNot Mm) (MM_op Mm) (MM_opA Mm) (MM_opB Mm) (MM_mark Mm) (MM_now Mm) (MM_then Mm) (MM_todo Mm) (MM_nodes Mm) (MM_sets Mm) (MM_ranges Mm) (MM_steps Mm) (MM_pat Mm) (MM_patEnd Mm) (MM_round Mm) (MM_many1 Mm) (MM_broken Mm) (MM_checked Mm) (MM_faultKind Mm) (MM_faultValue Mm) (MM_latestFault Mm) (MM_anchors Mm) (MM_key Mm) (MM_target Mm) (MM_anchorValue Mm) (MM_anchorSchema Mm) (MM_path Mm) (MM_route Mm) (MM_isSchema Mm) (MM_seen1 Mm) (MM_pathSize Mm) (MM_octetRow Mm) (MM_partRow Mm) (MM_pairValue Mm) (MM_pairKey Mm) (MM_pairs Mm) (MM_judged Mm) (MM_deepest Mm) (MM_depth Mm) (MM_over Mm) (MM_seen Mm)) M0 M1)) C in_MM t_MM t_MM_ok n_MM hP (hDD _ _ _ _) hS 0 mw_0 rfl 0 (by decide) k_7_230 rfl rfl (by decide +kernel) rfl rfl (Nat.le_of_ble_eq_true rfl) rfl d_MM_wrong_2 (fun H locs hP hS => ?_)
  refine lv_aload_n hx hb d_MM_wrong_5 rfl (lv_at hl 0 rfl) ?_
  refine o_get (v := .int (MM_wrong Mm)) C in_MM hP 0 mw_0 rfl 2 (by decide) k_7_232 rfl rfl d_MM_wrong_6 ?_
  cases h
  exact o_ri (v := (MM_wrong Mm)) C hP hS d_MM_wrong_9
set_option maxHeartbeats 4000000 in
set_option maxRecDepth 100000 in
theorem e_MM_p_a {E : (Nat → Prop) → State → Heap → Prop} {D : va_G} {ad kd sd vd xd : Nat → Nat} {ca : Nat → ClassId} {ky ty : Nat → Option Nat} (hE : o_EK E kd sd vd xd) (hKy : m_KY ky ty sd) (l : Launch) (x1 : Int32) (tc : SMT) (Mm : SMM) (M1 : SMT) {r : Int32} (h : m_MM_p x1 tc Mm = some r) : o_Cn E l D m_cls (m_tys ca) y_MM_p cc_MM_p rm_MM_p [.ref (ad 0), .int x1] (m_cw ad ca ky ty 33 Mm tc M1) (m_cw ad ca ky ty 33 Mm tc M1) (some (.int r)) := by
  refine o_Cn_of (by decide) (Nat.le_of_ble_eq_true rfl) ?_
  intro p e s m below meth c A ls C hD hP hS hl
  have hDD : ∀ (rt : Nat) (Mm : SMM) (M0 : SMT) (M1 : SMT), va_D A (m_cw ad ca ky ty rt Mm M0 M1) := fun _ _ _ _ => o_D_map hD rfl
  have hl : lv_has ls 2 [(0, .ref (ad 0)), (1, .int x1)] := hl
  unfold m_MM_p at h
  have C0 := C
  obtain ⟨hx, hb, -, -, -, hown, hts, hK, -, -⟩ := C0
  refine lv_aload_n hx hb d_MM_p_0 rfl (lv_at hl 0 rfl) ?_
  refine o_get (v := .int (MM_pat Mm)) C in_MM hP 0 mw_0 rfl 27 (by decide) k_8_17 rfl rfl d_MM_p_1 ?_
  refine lv_iload_n hx hb d_MM_p_4 rfl (lv_at hl 1 rfl) ?_
  refine lv_iadd hx hb d_MM_p_5 ?_
  refine lv_aload_n hx hb d_MM_p_6 rfl (lv_at hl 0 rfl) ?_
  refine o_get (v := .int (MM_patEnd Mm)) C in_MM hP 0 mw_0 rfl 28 (by decide) k_8_18 rfl rfl d_MM_p_7 ?_
  refine lv_icmp_ge (tgt := 30) hx hb d_MM_p_10 (by decide) (fun c1 => ?_) (fun c1 => ?_)
  · replace h := o_tt c1 h
    refine lv_iconst (v := (-1:Int32)) hx hb d_MM_p_30 (by decide) ?_
    cases h
    exact o_ri (v := (-1:Int32)) C hP hS d_MM_p_31
  · replace h := o_ff c1 h
    refine lv_aload_n hx hb d_MM_p_13 rfl (lv_at hl 0 rfl) ?_
    refine o_get (v := .ref (ad 33)) C in_MM hP 0 mw_0 rfl 31 (by decide) k_8_21 rfl rfl d_MM_p_14 ?_
    refine o_get (v := .ref (ad 44)) C in_MT hP 33 mw_33 rfl 10 (by decide) k_7_121 rfl rfl d_MM_p_17 ?_
    refine lv_aload_n hx hb d_MM_p_20 rfl (lv_at hl 0 rfl) ?_
    refine o_get (v := .int (MM_pat Mm)) C in_MM hP 0 mw_0 rfl 27 (by decide) k_8_17 rfl rfl d_MM_p_21 ?_
    refine lv_iload_n hx hb d_MM_p_24 rfl (lv_at hl 1 rfl) ?_
    refine lv_iadd hx hb d_MM_p_25 ?_
    obtain ⟨g2, h⟩ := o_gd_some h
    refine o_iald (f := (MT_characters tc)) C hP 44 42 mw_44 rfl g2 d_MM_p_26 ?_
    refine lv_goto (tgt := 31) hx hb d_MM_p_27 (by decide) ?_
    cases h
    exact o_ri (v := ((MT_characters tc) ((MM_pat Mm) + x1).toNatClampNeg)) C hP hS d_MM_p_31
set_option maxHeartbeats 4000000 in
set_option maxRecDepth 100000 in
theorem e_MM_p_b {E : (Nat → Prop) → State → Heap → Prop} {D : va_G} {ad kd sd vd xd : Nat → Nat} {ca : Nat → ClassId} {ky ty : Nat → Option Nat} (hE : o_EK E kd sd vd xd) (hKy : m_KY ky ty sd) (l : Launch) (x1 : Int32) (tc : SMT) (Mm : SMM) (M0 : SMT) {r : Int32} (h : m_MM_p x1 tc Mm = some r) : o_Cn E l D m_cls (m_tys ca) y_MM_p cc_MM_p rm_MM_p [.ref (ad 0), .int x1] (m_cw ad ca ky ty 48 Mm M0 tc) (m_cw ad ca ky ty 48 Mm M0 tc) (some (.int r)) := by
  refine o_Cn_of (by decide) (Nat.le_of_ble_eq_true rfl) ?_
  intro p e s m below meth c A ls C hD hP hS hl
  have hDD : ∀ (rt : Nat) (Mm : SMM) (M0 : SMT) (M1 : SMT), va_D A (m_cw ad ca ky ty rt Mm M0 M1) := fun _ _ _ _ => o_D_map hD rfl
  have hl : lv_has ls 2 [(0, .ref (ad 0)), (1, .int x1)] := hl
  unfold m_MM_p at h
  have C0 := C
  obtain ⟨hx, hb, -, -, -, hown, hts, hK, -, -⟩ := C0
  refine lv_aload_n hx hb d_MM_p_0 rfl (lv_at hl 0 rfl) ?_
  refine o_get (v := .int (MM_pat Mm)) C in_MM hP 0 mw_0 rfl 27 (by decide) k_8_17 rfl rfl d_MM_p_1 ?_
  refine lv_iload_n hx hb d_MM_p_4 rfl (lv_at hl 1 rfl) ?_
  refine lv_iadd hx hb d_MM_p_5 ?_
  refine lv_aload_n hx hb d_MM_p_6 rfl (lv_at hl 0 rfl) ?_
  refine o_get (v := .int (MM_patEnd Mm)) C in_MM hP 0 mw_0 rfl 28 (by decide) k_8_18 rfl rfl d_MM_p_7 ?_
  refine lv_icmp_ge (tgt := 30) hx hb d_MM_p_10 (by decide) (fun c1 => ?_) (fun c1 => ?_)
  · replace h := o_tt c1 h
    refine lv_iconst (v := (-1:Int32)) hx hb d_MM_p_30 (by decide) ?_
    cases h
    exact o_ri (v := (-1:Int32)) C hP hS d_MM_p_31
  · replace h := o_ff c1 h
    refine lv_aload_n hx hb d_MM_p_13 rfl (lv_at hl 0 rfl) ?_
    refine o_get (v := .ref (ad 48)) C in_MM hP 0 mw_0 rfl 31 (by decide) k_8_21 rfl rfl d_MM_p_14 ?_
    refine o_get (v := .ref (ad 59)) C in_MT hP 48 mw_48 rfl 10 (by decide) k_7_121 rfl rfl d_MM_p_17 ?_
    refine lv_aload_n hx hb d_MM_p_20 rfl (lv_at hl 0 rfl) ?_
    refine o_get (v := .int (MM_pat Mm)) C in_MM hP 0 mw_0 rfl 27 (by decide) k_8_17 rfl rfl d_MM_p_21 ?_
    refine lv_iload_n hx hb d_MM_p_24 rfl (lv_at hl 1 rfl) ?_
    refine lv_iadd hx hb d_MM_p_25 ?_
    obtain ⟨g2, h⟩ := o_gd_some h
    refine o_iald (f := (MT_characters tc)) C hP 59 56 mw_59 rfl g2 d_MM_p_26 ?_
    refine lv_goto (tgt := 31) hx hb d_MM_p_27 (by decide) ?_
    cases h
    exact o_ri (v := ((MT_characters tc) ((MM_pat Mm) + x1).toNatClampNeg)) C hP hS d_MM_p_31
set_option maxHeartbeats 4000000 in
set_option maxRecDepth 100000 in
theorem e_MM_node {E : (Nat → Prop) → State → Heap → Prop} {D : va_G} {ad kd sd vd xd : Nat → Nat} {ca : Nat → ClassId} {ky ty : Nat → Option Nat} (hE : o_EK E kd sd vd xd) (hKy : m_KY ky ty sd) (l : Launch) (x1 : Int32) (x2 : Int32) (Mm : SMM) (M0 : SMT) (M1 : SMT) (rt : Nat) {r : Int32 × SMM} (h : m_MM_node x1 x2 Mm = some r) : o_Cn E l D m_cls (m_tys ca) y_MM_node cc_MM_node rm_MM_node [.ref (ad 0), .int x1, .int x2] (m_cw ad ca ky ty rt Mm M0 M1) (m_cw ad ca ky ty rt r.2 M0 M1) (some (.int r.1)) := by
  refine o_Cn_of (by decide) (Nat.le_of_ble_eq_true rfl) ?_
  intro p e s m below meth c A ls C hD hP hS hl
  have hDD : ∀ (rt : Nat) (Mm : SMM) (M0 : SMT) (M1 : SMT), va_D A (m_cw ad ca ky ty rt Mm M0 M1) := fun _ _ _ _ => o_D_map hD rfl
  have hl : lv_has ls 3 [(0, .ref (ad 0)), (1, .int x1), (2, .int x2)] := hl
  unfold m_MM_node at h
  have C0 := C
  obtain ⟨hx, hb, -, -, -, hown, hts, hK, -, -⟩ := C0
  refine lv_aload_n hx hb d_MM_node_0 rfl (lv_at hl 0 rfl) ?_
  refine o_get (v := .ref (ad 2)) C in_MM hP 0 mw_0 rfl 6 (by decide) k_7_236 rfl rfl d_MM_node_1 ?_
  refine lv_aload_n hx hb d_MM_node_4 rfl (lv_at hl 0 rfl) ?_
  refine o_get (v := .int (MM_nodes Mm)) C in_MM hP 0 mw_0 rfl 23 (by decide) k_8_13 rfl rfl d_MM_node_5 ?_
  refine lv_iload_n hx hb d_MM_node_8 rfl (lv_at hl 1 rfl) ?_
  obtain ⟨g1, h⟩ := o_gd_some h
  refine o_iast (f := (MM_nodeKind Mm)) (w1 := (m_cw ad ca ky ty rt (MM_mk (MM_err Mm) (MM_fed Mm) (MM_wrong Mm) (MM_octets Mm) (upd (MM_nodeKind Mm) (MM_nodes Mm).toNatClampNeg x1) (MM_nodeA Mm) (MM_nodeB Mm) (MM_nodeC Mm) (MM_nodeNext Mm) (MM_low Mm) (MM_high Mm) (MM_setFrom Mm) (MM_setTo Mm) (MM_setNot Mm) (MM_op Mm) (MM_opA Mm) (MM_opB Mm) (MM_mark Mm) (MM_now Mm) (MM_then Mm) (MM_todo Mm) (MM_nodes Mm) (MM_sets Mm) (MM_ranges Mm) (MM_steps Mm) (MM_pat Mm) (MM_patEnd Mm) (MM_round Mm) (MM_many1 Mm) (MM_broken Mm) (MM_checked Mm) (MM_faultKind Mm) (MM_faultValue Mm) (MM_latestFault Mm) (MM_anchors Mm) (MM_key Mm) (MM_target Mm) (MM_anchorValue Mm) (MM_anchorSchema Mm) (MM_path Mm) (MM_route Mm) (MM_isSchema Mm) (MM_seen1 Mm) (MM_pathSize Mm) (MM_octetRow Mm) (MM_partRow Mm) (MM_pairValue Mm) (MM_pairKey Mm) (MM_pairs Mm) (MM_judged Mm) (MM_deepest Mm) (MM_depth Mm) (MM_over Mm) (MM_seen Mm)) M0 M1)) C hP (hDD _ _ _ _) hS 2 1 mw_2 rfl g1 rfl d_MM_node_9 (fun H locs hP hS => ?_)
  refine lv_aload_n hx hb d_MM_node_10 rfl (lv_at hl 0 rfl) ?_
  refine o_get (v := .ref (ad 3)) C in_MM hP 0 mw_0 rfl 7 (by decide) k_7_237 rfl rfl d_MM_node_11 ?_
  refine lv_aload_n hx hb d_MM_node_14 rfl (lv_at hl 0 rfl) ?_
  refine o_get (v := .int (MM_nodes Mm)) C in_MM hP 0 mw_0 rfl 23 (by decide) k_8_13 rfl rfl d_MM_node_15 ?_
  refine lv_iload_n hx hb d_MM_node_18 rfl (lv_at hl 2 rfl) ?_
  obtain ⟨g2, h⟩ := o_gd_some h
  refine o_iast (f := (MM_nodeA Mm)) (w1 := (m_cw ad ca ky ty rt (MM_mk (MM_err Mm) (MM_fed Mm) (MM_wrong Mm) (MM_octets Mm) (upd (MM_nodeKind Mm) (MM_nodes Mm).toNatClampNeg x1) (upd (MM_nodeA Mm) (MM_nodes Mm).toNatClampNeg x2) (MM_nodeB Mm) (MM_nodeC Mm) (MM_nodeNext Mm) (MM_low Mm) (MM_high Mm) (MM_setFrom Mm) (MM_setTo Mm) (MM_setNot Mm) (MM_op Mm) (MM_opA Mm) (MM_opB Mm) (MM_mark Mm) (MM_now Mm) (MM_then Mm) (MM_todo Mm) (MM_nodes Mm) (MM_sets Mm) (MM_ranges Mm) (MM_steps Mm) (MM_pat Mm) (MM_patEnd Mm) (MM_round Mm) (MM_many1 Mm) (MM_broken Mm) (MM_checked Mm) (MM_faultKind Mm) (MM_faultValue Mm) (MM_latestFault Mm) (MM_anchors Mm) (MM_key Mm) (MM_target Mm) (MM_anchorValue Mm) (MM_anchorSchema Mm) (MM_path Mm) (MM_route Mm) (MM_isSchema Mm) (MM_seen1 Mm) (MM_pathSize Mm) (MM_octetRow Mm) (MM_partRow Mm) (MM_pairValue Mm) (MM_pairKey Mm) (MM_pairs Mm) (MM_judged Mm) (MM_deepest Mm) (MM_depth Mm) (MM_over Mm) (MM_seen Mm)) M0 M1)) C hP (hDD _ _ _ _) hS 3 2 mw_3 rfl g2 rfl d_MM_node_19 (fun H locs hP hS => ?_)
  refine lv_aload_n hx hb d_MM_node_20 rfl (lv_at hl 0 rfl) ?_
  refine o_get (v := .ref (ad 4)) C in_MM hP 0 mw_0 rfl 8 (by decide) k_7_238 rfl rfl d_MM_node_21 ?_
  refine lv_aload_n hx hb d_MM_node_24 rfl (lv_at hl 0 rfl) ?_
  refine o_get (v := .int (MM_nodes Mm)) C in_MM hP 0 mw_0 rfl 23 (by decide) k_8_13 rfl rfl d_MM_node_25 ?_
  refine lv_iconst (v := (0:Int32)) hx hb d_MM_node_28 (by decide) ?_
  obtain ⟨g3, h⟩ := o_gd_some h
  refine o_iast (f := (MM_nodeB Mm)) (w1 := (m_cw ad ca ky ty rt (MM_mk (MM_err Mm) (MM_fed Mm) (MM_wrong Mm) (MM_octets Mm) (upd (MM_nodeKind Mm) (MM_nodes Mm).toNatClampNeg x1) (upd (MM_nodeA Mm) (MM_nodes Mm).toNatClampNeg x2) (upd (MM_nodeB Mm) (MM_nodes Mm).toNatClampNeg (0:Int32)) (MM_nodeC Mm) (MM_nodeNext Mm) (MM_low Mm) (MM_high Mm) (MM_setFrom Mm) (MM_setTo Mm) (MM_setNot Mm) (MM_op Mm) (MM_opA Mm) (MM_opB Mm) (MM_mark Mm) (MM_now Mm) (MM_then Mm) (MM_todo Mm) (MM_nodes Mm) (MM_sets Mm) (MM_ranges Mm) (MM_steps Mm) (MM_pat Mm) (MM_patEnd Mm) (MM_round Mm) (MM_many1 Mm) (MM_broken Mm) (MM_checked Mm) (MM_faultKind Mm) (MM_faultValue Mm) (MM_latestFault Mm) (MM_anchors Mm) (MM_key Mm) (MM_target Mm) (MM_anchorValue Mm) (MM_anchorSchema Mm) (MM_path Mm) (MM_route Mm) (MM_isSchema Mm) (MM_seen1 Mm) (MM_pathSize Mm) (MM_octetRow Mm) (MM_partRow Mm) (MM_pairValue Mm) (MM_pairKey Mm) (MM_pairs Mm) (MM_judged Mm) (MM_deepest Mm) (MM_depth Mm) (MM_over Mm) (MM_seen Mm)) M0 M1)) C hP (hDD _ _ _ _) hS 4 3 mw_4 rfl g3 rfl d_MM_node_29 (fun H locs hP hS => ?_)
  refine lv_aload_n hx hb d_MM_node_30 rfl (lv_at hl 0 rfl) ?_
  refine o_get (v := .ref (ad 5)) C in_MM hP 0 mw_0 rfl 9 (by decide) k_7_239 rfl rfl d_MM_node_31 ?_
  refine lv_aload_n hx hb d_MM_node_34 rfl (lv_at hl 0 rfl) ?_
  refine o_get (v := .int (MM_nodes Mm)) C in_MM hP 0 mw_0 rfl 23 (by decide) k_8_13 rfl rfl d_MM_node_35 ?_
  refine lv_iconst (v := (0:Int32)) hx hb d_MM_node_38 (by decide) ?_
  obtain ⟨g4, h⟩ := o_gd_some h
  refine o_iast (f := (MM_nodeC Mm)) (w1 := (m_cw ad ca ky ty rt (MM_mk (MM_err Mm) (MM_fed Mm) (MM_wrong Mm) (MM_octets Mm) (upd (MM_nodeKind Mm) (MM_nodes Mm).toNatClampNeg x1) (upd (MM_nodeA Mm) (MM_nodes Mm).toNatClampNeg x2) (upd (MM_nodeB Mm) (MM_nodes Mm).toNatClampNeg (0:Int32)) (upd (MM_nodeC Mm) (MM_nodes Mm).toNatClampNeg (0:Int32)) (MM_nodeNext Mm) (MM_low Mm) (MM_high Mm) (MM_setFrom Mm) (MM_setTo Mm) (MM_setNot Mm) (MM_op Mm) (MM_opA Mm) (MM_opB Mm) (MM_mark Mm) (MM_now Mm) (MM_then Mm) (MM_todo Mm) (MM_nodes Mm) (MM_sets Mm) (MM_ranges Mm) (MM_steps Mm) (MM_pat Mm) (MM_patEnd Mm) (MM_round Mm) (MM_many1 Mm) (MM_broken Mm) (MM_checked Mm) (MM_faultKind Mm) (MM_faultValue Mm) (MM_latestFault Mm) (MM_anchors Mm) (MM_key Mm) (MM_target Mm) (MM_anchorValue Mm) (MM_anchorSchema Mm) (MM_path Mm) (MM_route Mm) (MM_isSchema Mm) (MM_seen1 Mm) (MM_pathSize Mm) (MM_octetRow Mm) (MM_partRow Mm) (MM_pairValue Mm) (MM_pairKey Mm) (MM_pairs Mm) (MM_judged Mm) (MM_deepest Mm) (MM_depth Mm) (MM_over Mm) (MM_seen Mm)) M0 M1)) C hP (hDD _ _ _ _) hS 5 4 mw_5 rfl g4 rfl d_MM_node_39 (fun H locs hP hS => ?_)
  refine lv_aload_n hx hb d_MM_node_40 rfl (lv_at hl 0 rfl) ?_
  refine o_get (v := .ref (ad 6)) C in_MM hP 0 mw_0 rfl 10 (by decide) k_8_0 rfl rfl d_MM_node_41 ?_
  refine lv_aload_n hx hb d_MM_node_44 rfl (lv_at hl 0 rfl) ?_
  refine o_get (v := .int (MM_nodes Mm)) C in_MM hP 0 mw_0 rfl 23 (by decide) k_8_13 rfl rfl d_MM_node_45 ?_
  refine lv_iconst (v := (-1:Int32)) hx hb d_MM_node_48 (by decide) ?_
  obtain ⟨g5, h⟩ := o_gd_some h
  refine o_iast (f := (MM_nodeNext Mm)) (w1 := (m_cw ad ca ky ty rt (MM_mk (MM_err Mm) (MM_fed Mm) (MM_wrong Mm) (MM_octets Mm) (upd (MM_nodeKind Mm) (MM_nodes Mm).toNatClampNeg x1) (upd (MM_nodeA Mm) (MM_nodes Mm).toNatClampNeg x2) (upd (MM_nodeB Mm) (MM_nodes Mm).toNatClampNeg (0:Int32)) (upd (MM_nodeC Mm) (MM_nodes Mm).toNatClampNeg (0:Int32)) (upd (MM_nodeNext Mm) (MM_nodes Mm).toNatClampNeg (-1:Int32)) (MM_low Mm) (MM_high Mm) (MM_setFrom Mm) (MM_setTo Mm) (MM_setNot Mm) (MM_op Mm) (MM_opA Mm) (MM_opB Mm) (MM_mark Mm) (MM_now Mm) (MM_then Mm) (MM_todo Mm) (MM_nodes Mm) (MM_sets Mm) (MM_ranges Mm) (MM_steps Mm) (MM_pat Mm) (MM_patEnd Mm) (MM_round Mm) (MM_many1 Mm) (MM_broken Mm) (MM_checked Mm) (MM_faultKind Mm) (MM_faultValue Mm) (MM_latestFault Mm) (MM_anchors Mm) (MM_key Mm) (MM_target Mm) (MM_anchorValue Mm) (MM_anchorSchema Mm) (MM_path Mm) (MM_route Mm) (MM_isSchema Mm) (MM_seen1 Mm) (MM_pathSize Mm) (MM_octetRow Mm) (MM_partRow Mm) (MM_pairValue Mm) (MM_pairKey Mm) (MM_pairs Mm) (MM_judged Mm) (MM_deepest Mm) (MM_depth Mm) (MM_over Mm) (MM_seen Mm)) M0 M1)) C hP (hDD _ _ _ _) hS 6 5 mw_6 rfl g5 rfl d_MM_node_49 (fun H locs hP hS => ?_)
  refine lv_aload_n hx hb d_MM_node_50 rfl (lv_at hl 0 rfl) ?_
  refine lv_dup hx hb d_MM_node_51 rfl ?_
  refine o_get (v := .int (MM_nodes Mm)) C in_MM hP 0 mw_0 rfl 23 (by decide) k_8_13 rfl rfl d_MM_node_52 ?_
  refine lv_dup_x1 hx hb d_MM_node_55 rfl rfl ?_
  refine lv_iconst (v := (1:Int32)) hx hb d_MM_node_56 (by decide) ?_
  refine lv_iadd hx hb d_MM_node_57 ?_
  refine o_put (v := .int ((MM_nodes Mm) + (1:Int32))) (ty := .int) (w1 := (m_cw ad ca ky ty rt (MM_mk (MM_err Mm) (MM_fed Mm) (MM_wrong Mm) (MM_octets Mm) (upd (MM_nodeKind Mm) (MM_nodes Mm).toNatClampNeg x1) (upd (MM_nodeA Mm) (MM_nodes Mm).toNatClampNeg x2) (upd (MM_nodeB Mm) (MM_nodes Mm).toNatClampNeg (0:Int32)) (upd (MM_nodeC Mm) (MM_nodes Mm).toNatClampNeg (0:Int32)) (upd (MM_nodeNext Mm) (MM_nodes Mm).toNatClampNeg (-1:Int32)) (MM_low Mm) (MM_high Mm) (MM_setFrom Mm) (MM_setTo Mm) (MM_setNot Mm) (MM_op Mm) (MM_opA Mm) (MM_opB Mm) (MM_mark Mm) (MM_now Mm) (MM_then Mm) (MM_todo Mm) ((MM_nodes Mm) + (1:Int32)) (MM_sets Mm) (MM_ranges Mm) (MM_steps Mm) (MM_pat Mm) (MM_patEnd Mm) (MM_round Mm) (MM_many1 Mm) (MM_broken Mm) (MM_checked Mm) (MM_faultKind Mm) (MM_faultValue Mm) (MM_latestFault Mm) (MM_anchors Mm) (MM_key Mm) (MM_target Mm) (MM_anchorValue Mm) (MM_anchorSchema Mm) (MM_path Mm) (MM_route Mm) (MM_isSchema Mm) (MM_seen1 Mm) (MM_pathSize Mm) (MM_octetRow Mm) (MM_partRow Mm) (MM_pairValue Mm) (MM_pairKey Mm) (MM_pairs Mm) (MM_judged Mm) (MM_deepest Mm) (MM_depth Mm) (MM_over Mm) (MM_seen Mm)) M0 M1)) C in_MM t_MM t_MM_ok n_MM hP (hDD _ _ _ _) hS 0 mw_0 rfl 23 (by decide) k_8_13 rfl rfl (by decide +kernel) rfl rfl (Nat.le_of_ble_eq_true rfl) rfl d_MM_node_58 (fun H locs hP hS => ?_)
  cases h
  exact o_ri (v := (MM_nodes Mm)) C hP hS d_MM_node_61
set_option maxHeartbeats 4000000 in
set_option maxRecDepth 100000 in
theorem e_MM_no {E : (Nat → Prop) → State → Heap → Prop} {D : va_G} {ad kd sd vd xd : Nat → Nat} {ca : Nat → ClassId} {ky ty : Nat → Option Nat} (hE : o_EK E kd sd vd xd) (hKy : m_KY ky ty sd) (l : Launch)  (Mm : SMM) (M0 : SMT) (M1 : SMT) (rt : Nat) {r : Int32 × SMM} (h : m_MM_no Mm = some r) : o_Cn E l D m_cls (m_tys ca) y_MM_no cc_MM_no rm_MM_no [.ref (ad 0)] (m_cw ad ca ky ty rt Mm M0 M1) (m_cw ad ca ky ty rt r.2 M0 M1) (some (.int r.1)) := by
  refine o_Cn_of (by decide) (Nat.le_of_ble_eq_true rfl) ?_
  intro p e s m below meth c A ls C hD hP hS hl
  have hDD : ∀ (rt : Nat) (Mm : SMM) (M0 : SMT) (M1 : SMT), va_D A (m_cw ad ca ky ty rt Mm M0 M1) := fun _ _ _ _ => o_D_map hD rfl
  have hl : lv_has ls 1 [(0, .ref (ad 0))] := hl
  unfold m_MM_no at h
  have C0 := C
  obtain ⟨hx, hb, -, -, -, hown, hts, hK, -, -⟩ := C0
  refine lv_aload_n hx hb d_MM_no_0 rfl (lv_at hl 0 rfl) ?_
  refine lv_iconst (v := (1:Int32)) hx hb d_MM_no_1 (by decide) ?_
  refine o_put (v := .int (1:Int32)) (ty := .boolean) (w1 := (m_cw ad ca ky ty rt (MM_mk (MM_err Mm) (MM_fed Mm) (MM_wrong Mm) (MM_octets Mm) (MM_nodeKind Mm) (MM_nodeA Mm) (MM_nodeB Mm) (MM_nodeC Mm) (MM_nodeNext Mm) (MM_low Mm) (MM_high Mm) (MM_setFrom Mm) (MM_setTo Mm) (MM_setNot Mm) (MM_op Mm) (MM_opA Mm) (MM_opB Mm) (MM_mark Mm) (MM_now Mm) (MM_then Mm) (MM_todo Mm) (MM_nodes Mm) (MM_sets Mm) (MM_ranges Mm) (MM_steps Mm) (MM_pat Mm) (MM_patEnd Mm) (MM_round Mm) (MM_many1 Mm) (1:Int32) (MM_checked Mm) (MM_faultKind Mm) (MM_faultValue Mm) (MM_latestFault Mm) (MM_anchors Mm) (MM_key Mm) (MM_target Mm) (MM_anchorValue Mm) (MM_anchorSchema Mm) (MM_path Mm) (MM_route Mm) (MM_isSchema Mm) (MM_seen1 Mm) (MM_pathSize Mm) (MM_octetRow Mm) (MM_partRow Mm) (MM_pairValue Mm) (MM_pairKey Mm) (MM_pairs Mm) (MM_judged Mm) (MM_deepest Mm) (MM_depth Mm) (MM_over Mm) (MM_seen Mm)) M0 M1)) C in_MM t_MM t_MM_ok n_MM hP (hDD _ _ _ _) hS 0 mw_0 rfl 32 (by decide) k_8_22 rfl rfl (by decide +kernel) rfl rfl (Nat.le_of_ble_eq_true rfl) rfl d_MM_no_2 (fun H locs hP hS => ?_)
  refine lv_aload_n hx hb d_MM_no_5 rfl (lv_at hl 0 rfl) ?_
  refine lv_iconst (v := (0:Int32)) hx hb d_MM_no_6 (by decide) ?_
  refine lv_iconst (v := (0:Int32)) hx hb d_MM_no_7 (by decide) ?_
  obtain ⟨q1, hq1, h⟩ := o_bd_some h
  refine o_V (st1 := [.int q1.1]) (w1 := (m_cw ad ca ky ty rt q1.2 M0 M1)) hE.1 C (e_MM_node hE hKy l (0:Int32) (0:Int32) (MM_mk (MM_err Mm) (MM_fed Mm) (MM_wrong Mm) (MM_octets Mm) (MM_nodeKind Mm) (MM_nodeA Mm) (MM_nodeB Mm) (MM_nodeC Mm) (MM_nodeNext Mm) (MM_low Mm) (MM_high Mm) (MM_setFrom Mm) (MM_setTo Mm) (MM_setNot Mm) (MM_op Mm) (MM_opA Mm) (MM_opB Mm) (MM_mark Mm) (MM_now Mm) (MM_then Mm) (MM_todo Mm) (MM_nodes Mm) (MM_sets Mm) (MM_ranges Mm) (MM_steps Mm) (MM_pat Mm) (MM_patEnd Mm) (MM_round Mm) (MM_many1 Mm) (1:Int32) (MM_checked Mm) (MM_faultKind Mm) (MM_faultValue Mm) (MM_latestFault Mm) (MM_anchors Mm) (MM_key Mm) (MM_target Mm) (MM_anchorValue Mm) (MM_anchorSchema Mm) (MM_path Mm) (MM_route Mm) (MM_isSchema Mm) (MM_seen1 Mm) (MM_pathSize Mm) (MM_octetRow Mm) (MM_partRow Mm) (MM_pairValue Mm) (MM_pairKey Mm) (MM_pairs Mm) (MM_judged Mm) (MM_deepest Mm) (MM_depth Mm) (MM_over Mm) (MM_seen Mm)) M0 M1 rt hq1) hP (hDD _ _ _ _) hS hl.1 rfl mw_0 k_9_62 k_9_64 k_s_87 k_1_12 k_9_65 hv_MM_node rfl rfl ⟨(Nat.le_of_ble_eq_true rfl), (Nat.le_of_ble_eq_true rfl)⟩ rfl (Nat.le_of_ble_eq_true rfl) ⟨Nat.zero_le _, Nat.zero_le _⟩ rfl d_MM_no_8 (fun H locs hP hS => ?_)
  cases h
  exact o_ri C hP hS d_MM_no_11
