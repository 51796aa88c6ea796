set_option maxHeartbeats 4000000 in
set_option maxRecDepth 100000 in
theorem w_Rd_readNumber_j275_1 {E : (Nat → Prop) → State → Heap → Prop} {p : Program} {l : Launch} {e : Env} {s : State} {m : MethodId} {args : Array Value} {below : List Frame} {meth : Method} {c : Code} {D : va_G} {ad kd sd vd xd : Nat → Nat} {ca : Nat → ClassId} {A : Nat → Prop} (hE : o_EK E kd sd vd xd) (C : o_Cx E p s m args meth c D o_cls (o_tys ca) "SchemaJudge$Reader" b_Rd_readNumber (some .boolean) 10 cc_Rd_readNumber A) (hDD : ∀ (rt : Nat) (Sj : SSJ) (T0 : STx) (T1 : STx) (Rd : SRd) (Pg : SPg) (Pt : SPt) (Mk : SMk) (Lk : SLk) (Ck : SCk) (Jd : SJd) (Ld : SLd) (Pr : SPr), va_D A (o_cw ad ca rt Sj T0 T1 Rd Pg Pt Mk Lk Ck Jd Ld Pr)) (n : Nat) (x1 : Int32) (x2 : Int32) (x3 : Int32) (x5 : Int32) (x6 : Int32) (x7 : Int32) (tc : STx) (Rd : SRd) (Sj : SSJ) (T0 : STx) (Pg : SPg) (Pt : SPt) (Mk : SMk) (Lk : SLk) (Ck : SCk) (Jd : SJd) (Ld : SLd) (Pr : SPr) {r : Int32 × STx × SRd} (h : m_Rd_readNumber_j275 n x1 x2 x3 x5 x6 x7 tc Rd = some r) : o_At p l e rm_Rd_readNumber s m args below meth c (MQ below (o_Qx D o_cls (some (.int r.1)) (o_cw ad ca 12 Sj T0 r.2.1 r.2.2 Pg Pt Mk Lk Ck Jd Ld Pr) A) args s 0 0 A) o_cls D A 10 275 [] (o_cw ad ca 12 Sj T0 tc Rd Pg Pt Mk Lk Ck Jd Ld Pr) [(0, .ref (ad 23)), (1, .int x1), (2, .int x2), (3, .int x3), (5, .int x5), (6, .int x6), (7, .int x7)] := by
  unfold m_Rd_readNumber_j275 at h
  intro H locs ls hP hS hl
  have C0 := C
  obtain ⟨hx, hb, -, -, -, hown, hts, hK, -, -⟩ := C0
  refine lv_iload hx hb d_Rd_readNumber_275 (lv_at hl 5 rfl) ?_
  refine lv_if_ne (tgt := 286) hx hb d_Rd_readNumber_277 (by decide) (fun c13 => ?_) (fun c13 => ?_)
  · replace h := o_ff c13 h
    refine lv_aload_n hx hb d_Rd_readNumber_286 rfl (lv_at hl 0 rfl) ?_
    refine o_get (v := .ref (ad 12)) C in_Rd hP 23 cw_23 rfl 2 (by decide) k_1_96 rfl rfl d_Rd_readNumber_287 ?_
    refine lv_iload_n hx hb d_Rd_readNumber_290 rfl (lv_at hl 1 rfl) ?_
    refine lv_iload_n hx hb d_Rd_readNumber_291 rfl (lv_at hl 3 rfl) ?_
    refine lv_iload hx hb d_Rd_readNumber_292 (lv_at hl 6 rfl) ?_
    refine lv_iload hx hb d_Rd_readNumber_294 (lv_at hl 4 rfl) ?_
    refine lv_isub hx hb d_Rd_readNumber_296 ?_
    obtain ⟨q8, hq8, h⟩ := o_bd_some h
    refine o_V (st1 := []) (w1 := (o_cw ad ca 12 Sj T0 q8 Rd Pg Pt Mk Lk Ck Jd Ld Pr)) hE.1 C (c_Tx_endNumber_1 hE l n x1 x3 (x7 - x5) tc Sj T0 Rd Pg Pt Mk Lk Ck Jd Ld Pr 12 hq8) hP (hDD _ _ _ _ _ _ _ _ _ _ _ _ _) hS hl.1 rfl cw_12 k_3_127 k_3_128 k_3_129 k_1_2 k_3_130 hv_Tx_endNumber rfl rfl ⟨(Nat.le_of_ble_eq_true rfl), (Nat.le_of_ble_eq_true rfl)⟩ rfl (Nat.le_of_ble_eq_true rfl) ⟨Nat.zero_le _, Nat.zero_le _⟩ rfl d_Rd_readNumber_297 (fun H locs hP hS => ?_)
    refine lv_iconst (v := (1:Int32)) hx hb d_Rd_readNumber_300 (by decide) ?_
    cases h
    exact o_rz (v := (1:Int32)) C o_nar1 hP hS d_Rd_readNumber_301
  · replace h := o_tt c13 h
    refine lv_aload_n hx hb d_Rd_readNumber_280 rfl (lv_at hl 0 rfl) ?_
    refine lv_iload_n hx hb d_Rd_readNumber_281 rfl (lv_at hl 2 rfl) ?_
    obtain ⟨q9, hq9, h⟩ := o_bd_some h
    refine o_V (st1 := [.int q9.1]) (w1 := (o_cw ad ca 12 Sj T0 tc q9.2 Pg Pt Mk Lk Ck Jd Ld Pr)) hE.1 C (c_Rd_refuse hE l x2 Rd Sj T0 tc Pg Pt Mk Lk Ck Jd Ld Pr 12 hq9) hP (hDD _ _ _ _ _ _ _ _ _ _ _ _ _) hS hl.1 rfl cw_23 k_3_48 k_3_50 k_s_4 k_1_3 k_3_51 hv_Rd_refuse rfl rfl ⟨(Nat.le_of_ble_eq_true rfl), (Nat.le_of_ble_eq_true rfl)⟩ rfl (Nat.le_of_ble_eq_true rfl) ⟨Nat.zero_le _, Nat.zero_le _⟩ rfl d_Rd_readNumber_282 (fun H locs hP hS => ?_)
    obtain ⟨g14, h⟩ := o_gd_some h
    cases h
    exact o_rz C (o_zb_nar g14) hP hS d_Rd_readNumber_285
set_option maxHeartbeats 4000000 in
set_option maxRecDepth 100000 in
theorem w_Rd_readNumber_j258_1 {E : (Nat → Prop) → State → Heap → Prop} {p : Program} {l : Launch} {e : Env} {s : State} {m : MethodId} {args : Array Value} {below : List Frame} {meth : Method} {c : Code} {D : va_G} {ad kd sd vd xd : Nat → Nat} {ca : Nat → ClassId} {A : Nat → Prop} (hE : o_EK E kd sd vd xd) (C : o_Cx E p s m args meth c D o_cls (o_tys ca) "SchemaJudge$Reader" b_Rd_readNumber (some .boolean) 10 cc_Rd_readNumber A) (hDD : ∀ (rt : Nat) (Sj : SSJ) (T0 : STx) (T1 : STx) (Rd : SRd) (Pg : SPg) (Pt : SPt) (Mk : SMk) (Lk : SLk) (Ck : SCk) (Jd : SJd) (Ld : SLd) (Pr : SPr), va_D A (o_cw ad ca rt Sj T0 T1 Rd Pg Pt Mk Lk Ck Jd Ld Pr)) (n : Nat) (x1 : Int32) (x2 : Int32) (x3 : Int32) (x5 : Int32) (x7 : Int32) (x8 : Int32) (y0 : Int32) (tc : STx) (Rd : SRd) (Sj : SSJ) (T0 : STx) (Pg : SPg) (Pt : SPt) (Mk : SMk) (Lk : SLk) (Ck : SCk) (Jd : SJd) (Ld : SLd) (Pr : SPr) {r : Int32 × STx × SRd} (h : m_Rd_readNumber_j258 n x1 x2 x3 x5 x7 x8 y0 tc Rd = some r) : o_At p l e rm_Rd_readNumber s m args below meth c (MQ below (o_Qx D o_cls (some (.int r.1)) (o_cw ad ca 12 Sj T0 r.2.1 r.2.2 Pg Pt Mk Lk Ck Jd Ld Pr) A) args s 0 0 A) o_cls D A 10 258 [.int y0] (o_cw ad ca 12 Sj T0 tc Rd Pg Pt Mk Lk Ck Jd Ld Pr) [(0, .ref (ad 23)), (1, .int x1), (2, .int x2), (3, .int x3), (5, .int x5), (7, .int x7), (8, .int x8)] := by
  unfold m_Rd_readNumber_j258 at h
  intro H locs ls hP hS hl
  have C0 := C
  obtain ⟨hx, hb, -, -, -, hown, hts, hK, -, -⟩ := C0
  refine lv_istore (lv' := [(6, .int y0), (0, .ref (ad 23)), (1, .int x1), (2, .int x2), (3, .int x3), (5, .int x5), (7, .int x7), (8, .int x8)]) hx hb d_Rd_readNumber_258 hl (by decide) rfl (fun ls hl => ?_)
  refine lv_iload hx hb d_Rd_readNumber_260 (lv_at hl 7 rfl) ?_
  refine lv_if_eq (tgt := 271) hx hb d_Rd_readNumber_262 (by decide) (fun c12 => ?_) (fun c12 => ?_)
  · replace h := o_tt c12 h
    refine lv_iload hx hb d_Rd_readNumber_271 (lv_at hl 6 rfl) ?_
    refine lv_istore (lv' := [(7, .int x7), (6, .int y0), (0, .ref (ad 23)), (1, .int x1), (2, .int x2), (3, .int x3), (5, .int x5), (8, .int x8)]) hx hb d_Rd_readNumber_273 hl (by decide) rfl (fun ls hl => ?_)
    exact w_Rd_readNumber_j275_1 hE C hDD n x1 x2 x3 x5 y0 x7 tc Rd Sj T0 Pg Pt Mk Lk Ck Jd Ld Pr h _ _ _ hP hS (lv_sub hl [2, 3, 4, 5, 6, 1, 0] rfl)
  · replace h := o_ff c12 h
    refine lv_iload hx hb d_Rd_readNumber_265 (lv_at hl 6 rfl) ?_
    refine lv_ineg hx hb d_Rd_readNumber_267 ?_
    refine lv_goto (tgt := 273) hx hb d_Rd_readNumber_268 (by decide) ?_
    refine lv_topi (fun x7_273 ex7_273 => ?_)
    replace h := o_nm_at ex7_273 h
    refine lv_istore (lv' := [(7, .int x7_273), (6, .int y0), (0, .ref (ad 23)), (1, .int x1), (2, .int x2), (3, .int x3), (5, .int x5), (8, .int x8)]) hx hb d_Rd_readNumber_273 hl (by decide) rfl (fun ls hl => ?_)
    exact w_Rd_readNumber_j275_1 hE C hDD n x1 x2 x3 x5 y0 x7_273 tc Rd Sj T0 Pg Pt Mk Lk Ck Jd Ld Pr h _ _ _ hP hS (lv_sub hl [2, 3, 4, 5, 6, 1, 0] rfl)
set_option maxHeartbeats 4000000 in
set_option maxRecDepth 100000 in
theorem w_Rd_readNumber_j207_1 {E : (Nat → Prop) → State → Heap → Prop} {p : Program} {l : Launch} {e : Env} {s : State} {m : MethodId} {args : Array Value} {below : List Frame} {meth : Method} {c : Code} {D : va_G} {ad kd sd vd xd : Nat → Nat} {ca : Nat → ClassId} {A : Nat → Prop} (hE : o_EK E kd sd vd xd) (C : o_Cx E p s m args meth c D o_cls (o_tys ca) "SchemaJudge$Reader" b_Rd_readNumber (some .boolean) 10 cc_Rd_readNumber A) (hDD : ∀ (rt : Nat) (Sj : SSJ) (T0 : STx) (T1 : STx) (Rd : SRd) (Pg : SPg) (Pt : SPt) (Mk : SMk) (Lk : SLk) (Ck : SCk) (Jd : SJd) (Ld : SLd) (Pr : SPr), va_D A (o_cw ad ca rt Sj T0 T1 Rd Pg Pt Mk Lk Ck Jd Ld Pr)) (n : Nat) (x1 : Int32) (x2 : Int32) (x3 : Int32) (x5 : Int32) (x6 : Int32) (x8 : Int32) (tc : STx) (Rd : SRd) (Sj : SSJ) (T0 : STx) (Pg : SPg) (Pt : SPt) (Mk : SMk) (Lk : SLk) (Ck : SCk) (Jd : SJd) (Ld : SLd) (Pr : SPr) {r : Int32 × STx × SRd} (h : m_Rd_readNumber_j207 n x1 x2 x3 x5 x6 x8 tc Rd = some r) : o_At p l e rm_Rd_readNumber s m args below meth c (MQ below (o_Qx D o_cls (some (.int r.1)) (o_cw ad ca 12 Sj T0 r.2.1 r.2.2 Pg Pt Mk Lk Ck Jd Ld Pr) A) args s 0 0 A) o_cls D A 10 207 [] (o_cw ad ca 12 Sj T0 tc Rd Pg Pt Mk Lk Ck Jd Ld Pr) [(0, .ref (ad 23)), (1, .int x1), (2, .int x2), (3, .int x3), (5, .int x5), (6, .int x6), (8, .int x8)] := by
  unfold m_Rd_readNumber_j207 at h
  intro H locs ls hP hS hl
  have C0 := C
  obtain ⟨hx, hb, -, -, -, hown, hts, hK, -, -⟩ := C0
  refine lv_aload_n hx hb d_Rd_readNumber_207 rfl (lv_at hl 0 rfl) ?_
  refine o_get (v := .int (Rd_position Rd)) C in_Rd hP 23 cw_23 rfl 3 (by decide) k_1_97 rfl rfl d_Rd_readNumber_208 ?_
  refine lv_topi (fun x9_211 ex9_211 => ?_)
  replace h := o_nm_at ex9_211 h
  refine lv_istore (lv' := [(9, .int x9_211), (0, .ref (ad 23)), (1, .int x1), (2, .int x2), (3, .int x3), (5, .int x5), (6, .int x6), (8, .int x8)]) hx hb d_Rd_readNumber_211 hl (by decide) rfl (fun ls hl => ?_)
  refine lv_aload_n hx hb d_Rd_readNumber_213 rfl (lv_at hl 1 rfl) ?_
  obtain ⟨q7, hq7, h⟩ := o_bd_some h
  refine o_V (st1 := [.int q7.1]) (w1 := (o_cw ad ca 12 Sj T0 tc q7.2 Pg Pt Mk Lk Ck Jd Ld Pr)) hE.1 C (c_Rd_readExponent hE l n Rd Sj T0 tc Pg Pt Mk Lk Ck Jd Ld Pr 12 hq7) hP (hDD _ _ _ _ _ _ _ _ _ _ _ _ _) hS hl.1 rfl cw_23 k_3_123 k_3_125 k_s_8 k_1_3 k_3_126 hv_Rd_readExponent rfl rfl ⟨(Nat.le_of_ble_eq_true rfl), (Nat.le_of_ble_eq_true rfl)⟩ rfl (Nat.le_of_ble_eq_true rfl) ⟨Nat.zero_le _, Nat.zero_le _⟩ rfl d_Rd_readNumber_214 (fun H locs hP hS => ?_)
  refine lv_istore (lv' := [(7, .int q7.1), (9, .int x9_211), (0, .ref (ad 23)), (1, .int x1), (2, .int x2), (3, .int x3), (5, .int x5), (6, .int x6), (8, .int x8)]) hx hb d_Rd_readNumber_217 hl (by decide) rfl (fun ls hl => ?_)
  refine lv_aload_n hx hb d_Rd_readNumber_219 rfl (lv_at hl 2 rfl) ?_
  refine o_get (v := .int (Rd_position q7.2)) C in_Rd hP 23 cw_23 rfl 3 (by decide) k_1_97 rfl rfl d_Rd_readNumber_220 ?_
  refine lv_iload hx hb d_Rd_readNumber_223 (lv_at hl 1 rfl) ?_
  refine lv_icmp_ne (tgt := 237) hx hb d_Rd_readNumber_225 (by decide) (fun c10 => ?_) (fun c10 => ?_)
  · replace h := o_ff c10 h
    refine lv_iload hx hb d_Rd_readNumber_237 (lv_at hl 7 rfl) ?_
    refine lv_if_eq (tgt := 257) hx hb d_Rd_readNumber_239 (by decide) (fun c11 => ?_) (fun c11 => ?_)
    · replace h := o_tt c11 h
      refine lv_iconst (v := (0:Int32)) hx hb d_Rd_readNumber_257 (by decide) ?_
      exact w_Rd_readNumber_j258_1 hE C hDD n x1 x2 x3 x5 q7.1 x8 (0:Int32) tc q7.2 Sj T0 Pg Pt Mk Lk Ck Jd Ld Pr h _ _ _ hP hS (lv_sub hl [2, 3, 4, 5, 6, 0, 8] rfl)
    · replace h := o_ff c11 h
      refine lv_aload_n hx hb d_Rd_readNumber_242 rfl (lv_at hl 2 rfl) ?_
      refine o_get (v := .int (Rd_position q7.2)) C in_Rd hP 23 cw_23 rfl 3 (by decide) k_1_97 rfl rfl d_Rd_readNumber_243 ?_
      refine lv_iload hx hb d_Rd_readNumber_246 (lv_at hl 1 rfl) ?_
      refine lv_isub hx hb d_Rd_readNumber_248 ?_
      refine lv_iconst (v := (3:Int32)) hx hb d_Rd_readNumber_249 (by decide) ?_
      refine lv_icmp_gt (tgt := 257) hx hb d_Rd_readNumber_250 (by decide) (fun c15 => ?_) (fun c15 => ?_)
      · replace h := o_tt c15 h
        refine lv_iconst (v := (0:Int32)) hx hb d_Rd_readNumber_257 (by decide) ?_
        exact w_Rd_readNumber_j258_1 hE C hDD n x1 x2 x3 x5 q7.1 x8 (0:Int32) tc q7.2 Sj T0 Pg Pt Mk Lk Ck Jd Ld Pr h _ _ _ hP hS (lv_sub hl [2, 3, 4, 5, 6, 0, 8] rfl)
      · replace h := o_ff c15 h
        refine lv_iconst (v := (1:Int32)) hx hb d_Rd_readNumber_253 (by decide) ?_
        refine lv_goto (tgt := 258) hx hb d_Rd_readNumber_254 (by decide) ?_
        exact w_Rd_readNumber_j258_1 hE C hDD n x1 x2 x3 x5 q7.1 x8 (1:Int32) tc q7.2 Sj T0 Pg Pt Mk Lk Ck Jd Ld Pr h _ _ _ hP hS (lv_sub hl [2, 3, 4, 5, 6, 0, 8] rfl)
  · replace h := o_tt c10 h
    refine lv_aload_n hx hb d_Rd_readNumber_228 rfl (lv_at hl 2 rfl) ?_
    refine lv_aload_n hx hb d_Rd_readNumber_229 rfl (lv_at hl 2 rfl) ?_
    refine o_get (v := .int (Rd_position q7.2)) C in_Rd hP 23 cw_23 rfl 3 (by decide) k_1_97 rfl rfl d_Rd_readNumber_230 ?_
    obtain ⟨q10, hq10, h⟩ := o_bd_some h
    refine o_V (st1 := [.int q10.1]) (w1 := (o_cw ad ca 12 Sj T0 tc q10.2 Pg Pt Mk Lk Ck Jd Ld Pr)) hE.1 C (c_Rd_refuse hE l (Rd_position q7.2) q7.2 Sj T0 tc Pg Pt Mk Lk Ck Jd Ld Pr 12 hq10) hP (hDD _ _ _ _ _ _ _ _ _ _ _ _ _) hS hl.1 rfl cw_23 k_3_48 k_3_50 k_s_4 k_1_3 k_3_51 hv_Rd_refuse rfl rfl ⟨(Nat.le_of_ble_eq_true rfl), (Nat.le_of_ble_eq_true rfl)⟩ rfl (Nat.le_of_ble_eq_true rfl) ⟨Nat.zero_le _, Nat.zero_le _⟩ rfl d_Rd_readNumber_233 (fun H locs hP hS => ?_)
    obtain ⟨g16, h⟩ := o_gd_some h
    cases h
    exact o_rz C (o_zb_nar g16) hP hS d_Rd_readNumber_236
set_option maxHeartbeats 4000000 in
set_option maxRecDepth 100000 in
theorem w_Rd_readNumber_j197_1 {E : (Nat → Prop) → State → Heap → Prop} {p : Program} {l : Launch} {e : Env} {s : State} {m : MethodId} {args : Array Value} {below : List Frame} {meth : Method} {c : Code} {D : va_G} {ad kd sd vd xd : Nat → Nat} {ca : Nat → ClassId} {A : Nat → Prop} (hE : o_EK E kd sd vd xd) (C : o_Cx E p s m args meth c D o_cls (o_tys ca) "SchemaJudge$Reader" b_Rd_readNumber (some .boolean) 10 cc_Rd_readNumber A) (hDD : ∀ (rt : Nat) (Sj : SSJ) (T0 : STx) (T1 : STx) (Rd : SRd) (Pg : SPg) (Pt : SPt) (Mk : SMk) (Lk : SLk) (Ck : SCk) (Jd : SJd) (Ld : SLd) (Pr : SPr), va_D A (o_cw ad ca rt Sj T0 T1 Rd Pg Pt Mk Lk Ck Jd Ld Pr)) (n : Nat) (x1 : Int32) (x2 : Int32) (x3 : Int32) (x5 : Int32) (x6 : Int32) (x8 : Int32) (tc : STx) (Rd : SRd) (Sj : SSJ) (T0 : STx) (Pg : SPg) (Pt : SPt) (Mk : SMk) (Lk : SLk) (Ck : SCk) (Jd : SJd) (Ld : SLd) (Pr : SPr) {r : Int32 × STx × SRd} (h : m_Rd_readNumber_j197 n x1 x2 x3 x5 x6 x8 tc Rd = some r) : o_At p l e rm_Rd_readNumber s m args below meth c (MQ below (o_Qx D o_cls (some (.int r.1)) (o_cw ad ca 12 Sj T0 r.2.1 r.2.2 Pg Pt Mk Lk Ck Jd Ld Pr) A) args s 0 0 A) o_cls D A 10 197 [] (o_cw ad ca 12 Sj T0 tc Rd Pg Pt Mk Lk Ck Jd Ld Pr) [(0, .ref (ad 23)), (1, .int x1), (2, .int x2), (3, .int x3), (5, .int x5), (6, .int x6), (8, .int x8)] := by
  unfold m_Rd_readNumber_j197 at h
  intro H locs ls hP hS hl
  have C0 := C
  obtain ⟨hx, hb, -, -, -, hown, hts, hK, -, -⟩ := C0
  refine lv_aload_n hx hb d_Rd_readNumber_197 rfl (lv_at hl 0 rfl) ?_
  refine lv_dup hx hb d_Rd_readNumber_198 rfl ?_
  refine o_get (v := .int (Rd_position Rd)) C in_Rd hP 23 cw_23 rfl 3 (by decide) k_1_97 rfl rfl d_Rd_readNumber_199 ?_
  refine lv_iconst (v := (1:Int32)) hx hb d_Rd_readNumber_202 (by decide) ?_
  refine lv_iadd hx hb d_Rd_readNumber_203 ?_
  refine o_put (v := .int ((Rd_position Rd) + (1:Int32))) (ty := .int) (w1 := (o_cw ad ca 12 Sj T0 tc (Rd_mk (Rd_words Rd) (Rd_wordCount Rd) ((Rd_position Rd) + (1:Int32)) (Rd_limit Rd) (Rd_wrongPlace Rd)) Pg Pt Mk Lk Ck Jd Ld Pr)) C in_Rd t_Rd t_Rd_ok n_Rd hP (hDD _ _ _ _ _ _ _ _ _ _ _ _ _) hS 23 cw_23 rfl 3 (by decide) k_1_97 rfl rfl (by decide +kernel) rfl rfl (Nat.le_of_ble_eq_true rfl) rfl d_Rd_readNumber_204 (fun H locs hP hS => ?_)
  exact w_Rd_readNumber_j207_1 hE C hDD n x1 x2 x3 x5 x6 x8 tc (Rd_mk (Rd_words Rd) (Rd_wordCount Rd) ((Rd_position Rd) + (1:Int32)) (Rd_limit Rd) (Rd_wrongPlace Rd)) Sj T0 Pg Pt Mk Lk Ck Jd Ld Pr h _ _ _ hP hS (lv_sub hl [0, 1, 2, 3, 4, 5, 6] rfl)
set_option maxHeartbeats 4000000 in
set_option maxRecDepth 100000 in
theorem w_Rd_readNumber_j181_1 {E : (Nat → Prop) → State → Heap → Prop} {p : Program} {l : Launch} {e : Env} {s : State} {m : MethodId} {args : Array Value} {below : List Frame} {meth : Method} {c : Code} {D : va_G} {ad kd sd vd xd : Nat → Nat} {ca : Nat → ClassId} {A : Nat → Prop} (hE : o_EK E kd sd vd xd) (C : o_Cx E p s m args meth c D o_cls (o_tys ca) "SchemaJudge$Reader" b_Rd_readNumber (some .boolean) 10 cc_Rd_readNumber A) (hDD : ∀ (rt : Nat) (Sj : SSJ) (T0 : STx) (T1 : STx) (Rd : SRd) (Pg : SPg) (Pt : SPt) (Mk : SMk) (Lk : SLk) (Ck : SCk) (Jd : SJd) (Ld : SLd) (Pr : SPr), va_D A (o_cw ad ca rt Sj T0 T1 Rd Pg Pt Mk Lk Ck Jd Ld Pr)) (n : Nat) (x1 : Int32) (x2 : Int32) (x3 : Int32) (x5 : Int32) (x6 : Int32) (y0 : Int32) (tc : STx) (Rd : SRd) (Sj : SSJ) (T0 : STx) (Pg : SPg) (Pt : SPt) (Mk : SMk) (Lk : SLk) (Ck : SCk) (Jd : SJd) (Ld : SLd) (Pr : SPr) {r : Int32 × STx × SRd} (h : m_Rd_readNumber_j181 n x1 x2 x3 x5 x6 y0 tc Rd = some r) : o_At p l e rm_Rd_readNumber s m args below meth c (MQ below (o_Qx D o_cls (some (.int r.1)) (o_cw ad ca 12 Sj T0 r.2.1 r.2.2 Pg Pt Mk Lk Ck Jd Ld Pr) A) args s 0 0 A) o_cls D A 10 181 [.int y0] (o_cw ad ca 12 Sj T0 tc Rd Pg Pt Mk Lk Ck Jd Ld Pr) [(0, .ref (ad 23)), (1, .int x1), (2, .int x2), (3, .int x3), (5, .int x5), (6, .int x6)] := by
  unfold m_Rd_readNumber_j181 at h
  intro H locs ls hP hS hl
  have C0 := C
  obtain ⟨hx, hb, -, -, -, hown, hts, hK, -, -⟩ := C0
  refine lv_istore (lv' := [(8, .int y0), (0, .ref (ad 23)), (1, .int x1), (2, .int x2), (3, .int x3), (5, .int x5), (6, .int x6)]) hx hb d_Rd_readNumber_181 hl (by decide) rfl (fun ls hl => ?_)
  refine lv_iload hx hb d_Rd_readNumber_183 (lv_at hl 0 rfl) ?_
  refine lv_if_ne (tgt := 197) hx hb d_Rd_readNumber_185 (by decide) (fun c9 => ?_) (fun c9 => ?_)
  · replace h := o_ff c9 h
    exact w_Rd_readNumber_j197_1 hE C hDD n x1 x2 x3 x5 x6 y0 tc Rd Sj T0 Pg Pt Mk Lk Ck Jd Ld Pr h _ _ _ hP hS (lv_sub hl [1, 2, 3, 4, 5, 6, 0] rfl)
  · replace h := o_tt c9 h
    refine lv_aload_n hx hb d_Rd_readNumber_188 rfl (lv_at hl 1 rfl) ?_
    obtain ⟨q11, hq11, h⟩ := o_bd_some h
    refine o_V (st1 := [.int q11]) (w1 := (o_cw ad ca 12 Sj T0 tc Rd Pg Pt Mk Lk Ck Jd Ld Pr)) hE.1 C (c_Rd_peek hE l Rd Sj T0 tc Pg Pt Mk Lk Ck Jd Ld Pr 12 hq11) hP (hDD _ _ _ _ _ _ _ _ _ _ _ _ _) hS hl.1 rfl cw_23 k_3_38 k_3_40 k_s_3 k_1_3 k_3_41 hv_Rd_peek rfl rfl ⟨(Nat.le_of_ble_eq_true rfl), (Nat.le_of_ble_eq_true rfl)⟩ rfl (Nat.le_of_ble_eq_true rfl) ⟨Nat.zero_le _, Nat.zero_le _⟩ rfl d_Rd_readNumber_189 (fun H locs hP hS => ?_)
    refine lv_bipush (v := (43:Int32)) hx hb d_Rd_readNumber_192 (by decide) ?_
    refine lv_icmp_ne (tgt := 207) hx hb d_Rd_readNumber_194 (by decide) (fun c17 => ?_) (fun c17 => ?_)
    · replace h := o_ff c17 h
      exact w_Rd_readNumber_j207_1 hE C hDD n x1 x2 x3 x5 x6 y0 tc Rd Sj T0 Pg Pt Mk Lk Ck Jd Ld Pr h _ _ _ hP hS (lv_sub hl [1, 2, 3, 4, 5, 6, 0] rfl)
    · replace h := o_tt c17 h
      exact w_Rd_readNumber_j197_1 hE C hDD n x1 x2 x3 x5 x6 y0 tc Rd Sj T0 Pg Pt Mk Lk Ck Jd Ld Pr h _ _ _ hP hS (lv_sub hl [1, 2, 3, 4, 5, 6, 0] rfl)
set_option maxHeartbeats 4000000 in
set_option maxRecDepth 100000 in
theorem w_Rd_readNumber_j157_1 {E : (Nat → Prop) → State → Heap → Prop} {p : Program} {l : Launch} {e : Env} {s : State} {m : MethodId} {args : Array Value} {below : List Frame} {meth : Method} {c : Code} {D : va_G} {ad kd sd vd xd : Nat → Nat} {ca : Nat → ClassId} {A : Nat → Prop} (hE : o_EK E kd sd vd xd) (C : o_Cx E p s m args meth c D o_cls (o_tys ca) "SchemaJudge$Reader" b_Rd_readNumber (some .boolean) 10 cc_Rd_readNumber A) (hDD : ∀ (rt : Nat) (Sj : SSJ) (T0 : STx) (T1 : STx) (Rd : SRd) (Pg : SPg) (Pt : SPt) (Mk : SMk) (Lk : SLk) (Ck : SCk) (Jd : SJd) (Ld : SLd) (Pr : SPr), va_D A (o_cw ad ca rt Sj T0 T1 Rd Pg Pt Mk Lk Ck Jd Ld Pr)) (n : Nat) (x1 : Int32) (x2 : Int32) (x3 : Int32) (x5 : Int32) (x6 : Int32) (tc : STx) (Rd : SRd) (Sj : SSJ) (T0 : STx) (Pg : SPg) (Pt : SPt) (Mk : SMk) (Lk : SLk) (Ck : SCk) (Jd : SJd) (Ld : SLd) (Pr : SPr) {r : Int32 × STx × SRd} (h : m_Rd_readNumber_j157 n x1 x2 x3 x5 x6 tc Rd = some r) : o_At p l e rm_Rd_readNumber s m args below meth c (MQ below (o_Qx D o_cls (some (.int r.1)) (o_cw ad ca 12 Sj T0 r.2.1 r.2.2 Pg Pt Mk Lk Ck Jd Ld Pr) A) args s 0 0 A) o_cls D A 10 157 [] (o_cw ad ca 12 Sj T0 tc Rd Pg Pt Mk Lk Ck Jd Ld Pr) [(0, .ref (ad 23)), (1, .int x1), (2, .int x2), (3, .int x3), (5, .int x5), (6, .int x6)] := by
  unfold m_Rd_readNumber_j157 at h
  intro H locs ls hP hS hl
  have C0 := C
  obtain ⟨hx, hb, -, -, -, hown, hts, hK, -, -⟩ := C0
  refine lv_aload_n hx hb d_Rd_readNumber_157 rfl (lv_at hl 0 rfl) ?_
  refine lv_dup hx hb d_Rd_readNumber_158 rfl ?_
  refine o_get (v := .int (Rd_position Rd)) C in_Rd hP 23 cw_23 rfl 3 (by decide) k_1_97 rfl rfl d_Rd_readNumber_159 ?_
  refine lv_iconst (v := (1:Int32)) hx hb d_Rd_readNumber_162 (by decide) ?_
  refine lv_iadd hx hb d_Rd_readNumber_163 ?_
  refine o_put (v := .int ((Rd_position Rd) + (1:Int32))) (ty := .int) (w1 := (o_cw ad ca 12 Sj T0 tc (Rd_mk (Rd_words Rd) (Rd_wordCount Rd) ((Rd_position Rd) + (1:Int32)) (Rd_limit Rd) (Rd_wrongPlace Rd)) Pg Pt Mk Lk Ck Jd Ld Pr)) C in_Rd t_Rd t_Rd_ok n_Rd hP (hDD _ _ _ _ _ _ _ _ _ _ _ _ _) hS 23 cw_23 rfl 3 (by decide) k_1_97 rfl rfl (by decide +kernel) rfl rfl (Nat.le_of_ble_eq_true rfl) rfl d_Rd_readNumber_164 (fun H locs hP hS => ?_)
  refine lv_aload_n hx hb d_Rd_readNumber_167 rfl (lv_at hl 0 rfl) ?_
  obtain ⟨q6, hq6, h⟩ := o_bd_some h
  refine o_V (st1 := [.int q6]) (w1 := (o_cw ad ca 12 Sj T0 tc (Rd_mk (Rd_words Rd) (Rd_wordCount Rd) ((Rd_position Rd) + (1:Int32)) (Rd_limit Rd) (Rd_wrongPlace Rd)) Pg Pt Mk Lk Ck Jd Ld Pr)) hE.1 C (c_Rd_peek hE l (Rd_mk (Rd_words Rd) (Rd_wordCount Rd) ((Rd_position Rd) + (1:Int32)) (Rd_limit Rd) (Rd_wrongPlace Rd)) Sj T0 tc Pg Pt Mk Lk Ck Jd Ld Pr 12 hq6) hP (hDD _ _ _ _ _ _ _ _ _ _ _ _ _) hS hl.1 rfl cw_23 k_3_38 k_3_40 k_s_3 k_1_3 k_3_41 hv_Rd_peek rfl rfl ⟨(Nat.le_of_ble_eq_true rfl), (Nat.le_of_ble_eq_true rfl)⟩ rfl (Nat.le_of_ble_eq_true rfl) ⟨Nat.zero_le _, Nat.zero_le _⟩ rfl d_Rd_readNumber_168 (fun H locs hP hS => ?_)
  refine lv_bipush (v := (45:Int32)) hx hb d_Rd_readNumber_171 (by decide) ?_
  refine lv_icmp_ne (tgt := 180) hx hb d_Rd_readNumber_173 (by decide) (fun c8 => ?_) (fun c8 => ?_)
  · replace h := o_ff c8 h
    refine lv_iconst (v := (0:Int32)) hx hb d_Rd_readNumber_180 (by decide) ?_
    exact w_Rd_readNumber_j181_1 hE C hDD n x1 x2 x3 x5 x6 (0:Int32) tc (Rd_mk (Rd_words Rd) (Rd_wordCount Rd) ((Rd_position Rd) + (1:Int32)) (Rd_limit Rd) (Rd_wrongPlace Rd)) Sj T0 Pg Pt Mk Lk Ck Jd Ld Pr h _ _ _ hP hS (lv_sub hl [0, 1, 2, 3, 4, 5] rfl)
  · replace h := o_tt c8 h
    refine lv_iconst (v := (1:Int32)) hx hb d_Rd_readNumber_176 (by decide) ?_
    refine lv_goto (tgt := 181) hx hb d_Rd_readNumber_177 (by decide) ?_
    exact w_Rd_readNumber_j181_1 hE C hDD n x1 x2 x3 x5 x6 (1:Int32) tc (Rd_mk (Rd_words Rd) (Rd_wordCount Rd) ((Rd_position Rd) + (1:Int32)) (Rd_limit Rd) (Rd_wrongPlace Rd)) Sj T0 Pg Pt Mk Lk Ck Jd Ld Pr h _ _ _ hP hS (lv_sub hl [0, 1, 2, 3, 4, 5] rfl)
set_option maxHeartbeats 4000000 in
set_option maxRecDepth 100000 in
theorem w_Rd_readNumber_j134_1 {E : (Nat → Prop) → State → Heap → Prop} {p : Program} {l : Launch} {e : Env} {s : State} {m : MethodId} {args : Array Value} {below : List Frame} {meth : Method} {c : Code} {D : va_G} {ad kd sd vd xd : Nat → Nat} {ca : Nat → ClassId} {A : Nat → Prop} (hE : o_EK E kd sd vd xd) (C : o_Cx E p s m args meth c D o_cls (o_tys ca) "SchemaJudge$Reader" b_Rd_readNumber (some .boolean) 10 cc_Rd_readNumber A) (hDD : ∀ (rt : Nat) (Sj : SSJ) (T0 : STx) (T1 : STx) (Rd : SRd) (Pg : SPg) (Pt : SPt) (Mk : SMk) (Lk : SLk) (Ck : SCk) (Jd : SJd) (Ld : SLd) (Pr : SPr), va_D A (o_cw ad ca rt Sj T0 T1 Rd Pg Pt Mk Lk Ck Jd Ld Pr)) (n : Nat) (x1 : Int32) (x2 : Int32) (x3 : Int32) (x5 : Int32) (y0 : Int32) (tc : STx) (Rd : SRd) (Sj : SSJ) (T0 : STx) (Pg : SPg) (Pt : SPt) (Mk : SMk) (Lk : SLk) (Ck : SCk) (Jd : SJd) (Ld : SLd) (Pr : SPr) {r : Int32 × STx × SRd} (h : m_Rd_readNumber_j134 n x1 x2 x3 x5 y0 tc Rd = some r) : o_At p l e rm_Rd_readNumber s m args below meth c (MQ below (o_Qx D o_cls (some (.int r.1)) (o_cw ad ca 12 Sj T0 r.2.1 r.2.2 Pg Pt Mk Lk Ck Jd Ld Pr) A) args s 0 0 A) o_cls D A 10 134 [.int y0] (o_cw ad ca 12 Sj T0 tc Rd Pg Pt Mk Lk Ck Jd Ld Pr) [(0, .ref (ad 23)), (1, .int x1), (2, .int x2), (3, .int x3), (5, .int x5)] := by
  unfold m_Rd_readNumber_j134 at h
  intro H locs ls hP hS hl
  have C0 := C
  obtain ⟨hx, hb, -, -, -, hown, hts, hK, -, -⟩ := C0
  refine lv_istore (lv' := [(6, .int y0), (0, .ref (ad 23)), (1, .int x1), (2, .int x2), (3, .int x3), (5, .int x5)]) hx hb d_Rd_readNumber_134 hl (by decide) rfl (fun ls hl => ?_)
  refine lv_iconst (v := (0:Int32)) hx hb d_Rd_readNumber_136 (by decide) ?_
  refine lv_istore (lv' := [(7, .int (0:Int32)), (6, .int y0), (0, .ref (ad 23)), (1, .int x1), (2, .int x2), (3, .int x3), (5, .int x5)]) hx hb d_Rd_readNumber_137 hl (by decide) rfl (fun ls hl => ?_)
  refine lv_aload_n hx hb d_Rd_readNumber_139 rfl (lv_at hl 2 rfl) ?_
  obtain ⟨q5, hq5, h⟩ := o_bd_some h
  refine o_V (st1 := [.int q5]) (w1 := (o_cw ad ca 12 Sj T0 tc Rd Pg Pt Mk Lk Ck Jd Ld Pr)) hE.1 C (c_Rd_peek hE l Rd Sj T0 tc Pg Pt Mk Lk Ck Jd Ld Pr 12 hq5) hP (hDD _ _ _ _ _ _ _ _ _ _ _ _ _) hS hl.1 rfl cw_23 k_3_38 k_3_40 k_s_3 k_1_3 k_3_41 hv_Rd_peek rfl rfl ⟨(Nat.le_of_ble_eq_true rfl), (Nat.le_of_ble_eq_true rfl)⟩ rfl (Nat.le_of_ble_eq_true rfl) ⟨Nat.zero_le _, Nat.zero_le _⟩ rfl d_Rd_readNumber_140 (fun H locs hP hS => ?_)
  refine lv_bipush (v := (101:Int32)) hx hb d_Rd_readNumber_143 (by decide) ?_
  refine lv_icmp_eq (tgt := 157) hx hb d_Rd_readNumber_145 (by decide) (fun c7 => ?_) (fun c7 => ?_)
  · replace h := o_tt c7 h
    exact w_Rd_readNumber_j157_1 hE C hDD n x1 x2 x3 x5 y0 tc Rd Sj T0 Pg Pt Mk Lk Ck Jd Ld Pr h _ _ _ hP hS (lv_sub hl [2, 3, 4, 5, 6, 1] rfl)
  · replace h := o_ff c7 h
    refine lv_aload_n hx hb d_Rd_readNumber_148 rfl (lv_at hl 2 rfl) ?_
    obtain ⟨q12, hq12, h⟩ := o_bd_some h
    refine o_V (st1 := [.int q12]) (w1 := (o_cw ad ca 12 Sj T0 tc Rd Pg Pt Mk Lk Ck Jd Ld Pr)) hE.1 C (c_Rd_peek hE l Rd Sj T0 tc Pg Pt Mk Lk Ck Jd Ld Pr 12 hq12) hP (hDD _ _ _ _ _ _ _ _ _ _ _ _ _) hS hl.1 rfl cw_23 k_3_38 k_3_40 k_s_3 k_1_3 k_3_41 hv_Rd_peek rfl rfl ⟨(Nat.le_of_ble_eq_true rfl), (Nat.le_of_ble_eq_true rfl)⟩ rfl (Nat.le_of_ble_eq_true rfl) ⟨Nat.zero_le _, Nat.zero_le _⟩ rfl d_Rd_readNumber_149 (fun H locs hP hS => ?_)
    refine lv_bipush (v := (69:Int32)) hx hb d_Rd_readNumber_152 (by decide) ?_
    refine lv_icmp_ne (tgt := 275) hx hb d_Rd_readNumber_154 (by decide) (fun c18 => ?_) (fun c18 => ?_)
    · replace h := o_ff c18 h
      exact w_Rd_readNumber_j275_1 hE C hDD n x1 x2 x3 x5 y0 (0:Int32) tc Rd Sj T0 Pg Pt Mk Lk Ck Jd Ld Pr h _ _ _ hP hS (lv_sub hl [2, 3, 4, 5, 6, 1, 0] rfl)
    · replace h := o_tt c18 h
      exact w_Rd_readNumber_j157_1 hE C hDD n x1 x2 x3 x5 y0 tc Rd Sj T0 Pg Pt Mk Lk Ck Jd Ld Pr h _ _ _ hP hS (lv_sub hl [2, 3, 4, 5, 6, 1] rfl)
set_option maxHeartbeats 4000000 in
set_option maxRecDepth 100000 in
theorem w_Rd_readNumber_j119_1 {E : (Nat → Prop) → State → Heap → Prop} {p : Program} {l : Launch} {e : Env} {s : State} {m : MethodId} {args : Array Value} {below : List Frame} {meth : Method} {c : Code} {D : va_G} {ad kd sd vd xd : Nat → Nat} {ca : Nat → ClassId} {A : Nat → Prop} (hE : o_EK E kd sd vd xd) (C : o_Cx E p s m args meth c D o_cls (o_tys ca) "SchemaJudge$Reader" b_Rd_readNumber (some .boolean) 10 cc_Rd_readNumber A) (hDD : ∀ (rt : Nat) (Sj : SSJ) (T0 : STx) (T1 : STx) (Rd : SRd) (Pg : SPg) (Pt : SPt) (Mk : SMk) (Lk : SLk) (Ck : SCk) (Jd : SJd) (Ld : SLd) (Pr : SPr), va_D A (o_cw ad ca rt Sj T0 T1 Rd Pg Pt Mk Lk Ck Jd Ld Pr)) (n : Nat) (x1 : Int32) (x2 : Int32) (x3 : Int32) (x4 : Int32) (x5 : Int32) (tc : STx) (Rd : SRd) (Sj : SSJ) (T0 : STx) (Pg : SPg) (Pt : SPt) (Mk : SMk) (Lk : SLk) (Ck : SCk) (Jd : SJd) (Ld : SLd) (Pr : SPr) {r : Int32 × STx × SRd} (h : m_Rd_readNumber_j119 n x1 x2 x3 x4 x5 tc Rd = some r) : o_At p l e rm_Rd_readNumber s m args below meth c (MQ below (o_Qx D o_cls (some (.int r.1)) (o_cw ad ca 12 Sj T0 r.2.1 r.2.2 Pg Pt Mk Lk Ck Jd Ld Pr) A) args s 0 0 A) o_cls D A 10 119 [] (o_cw ad ca 12 Sj T0 tc Rd Pg Pt Mk Lk Ck Jd Ld Pr) [(0, .ref (ad 23)), (1, .int x1), (2, .int x2), (3, .int x3), (4, .int x4), (5, .int x5)] := by
  unfold m_Rd_readNumber_j119 at h
  intro H locs ls hP hS hl
  have C0 := C
  obtain ⟨hx, hb, -, -, -, hown, hts, hK, -, -⟩ := C0
  refine lv_iload hx hb d_Rd_readNumber_119 (lv_at hl 4 rfl) ?_
  refine lv_iload hx hb d_Rd_readNumber_121 (lv_at hl 5 rfl) ?_
  refine lv_iadd hx hb d_Rd_readNumber_123 ?_
  refine lv_bipush (v := (60:Int32)) hx hb d_Rd_readNumber_124 (by decide) ?_
  refine lv_icmp_gt (tgt := 133) hx hb d_Rd_readNumber_126 (by decide) (fun c6 => ?_) (fun c6 => ?_)
  · replace h := o_tt c6 h
    refine lv_iconst (v := (0:Int32)) hx hb d_Rd_readNumber_133 (by decide) ?_
    exact w_Rd_readNumber_j134_1 hE C hDD n x1 x2 x3 x5 (0:Int32) tc Rd Sj T0 Pg Pt Mk Lk Ck Jd Ld Pr h _ _ _ hP hS (lv_sub hl [0, 1, 2, 3, 5] rfl)
  · replace h := o_ff c6 h
    refine lv_iconst (v := (1:Int32)) hx hb d_Rd_readNumber_129 (by decide) ?_
    refine lv_goto (tgt := 134) hx hb d_Rd_readNumber_130 (by decide) ?_
    exact w_Rd_readNumber_j134_1 hE C hDD n x1 x2 x3 x5 (1:Int32) tc Rd Sj T0 Pg Pt Mk Lk Ck Jd Ld Pr h _ _ _ hP hS (lv_sub hl [0, 1, 2, 3, 5] rfl)
set_option maxHeartbeats 4000000 in
set_option maxRecDepth 100000 in
theorem w_Rd_readNumber_j58_1 {E : (Nat → Prop) → State → Heap → Prop} {p : Program} {l : Launch} {e : Env} {s : State} {m : MethodId} {args : Array Value} {below : List Frame} {meth : Method} {c : Code} {D : va_G} {ad kd sd vd xd : Nat → Nat} {ca : Nat → ClassId} {A : Nat → Prop} (hE : o_EK E kd sd vd xd) (C : o_Cx E p s m args meth c D o_cls (o_tys ca) "SchemaJudge$Reader" b_Rd_readNumber (some .boolean) 10 cc_Rd_readNumber A) (hDD : ∀ (rt : Nat) (Sj : SSJ) (T0 : STx) (T1 : STx) (Rd : SRd) (Pg : SPg) (Pt : SPt) (Mk : SMk) (Lk : SLk) (Ck : SCk) (Jd : SJd) (Ld : SLd) (Pr : SPr), va_D A (o_cw ad ca rt Sj T0 T1 Rd Pg Pt Mk Lk Ck Jd Ld Pr)) (n : Nat) (x1 : Int32) (x2 : Int32) (x3 : Int32) (y0 : Int32) (tc : STx) (Rd : SRd) (Sj : SSJ) (T0 : STx) (Pg : SPg) (Pt : SPt) (Mk : SMk) (Lk : SLk) (Ck : SCk) (Jd : SJd) (Ld : SLd) (Pr : SPr) {r : Int32 × STx × SRd} (h : m_Rd_readNumber_j58 n x1 x2 x3 y0 tc Rd = some r) : o_At p l e rm_Rd_readNumber s m args below meth c (MQ below (o_Qx D o_cls (some (.int r.1)) (o_cw ad ca 12 Sj T0 r.2.1 r.2.2 Pg Pt Mk Lk Ck Jd Ld Pr) A) args s 0 0 A) o_cls D A 10 58 [.int y0] (o_cw ad ca 12 Sj T0 tc Rd Pg Pt Mk Lk Ck Jd Ld Pr) [(0, .ref (ad 23)), (1, .int x1), (2, .int x2), (3, .int x3)] := by
  unfold m_Rd_readNumber_j58 at h
  intro H locs ls hP hS hl
  have C0 := C
  obtain ⟨hx, hb, -, -, -, hown, hts, hK, -, -⟩ := C0
  refine lv_istore (lv' := [(4, .int y0), (0, .ref (ad 23)), (1, .int x1), (2, .int x2), (3, .int x3)]) hx hb d_Rd_readNumber_58 hl (by decide) rfl (fun ls hl => ?_)
  refine lv_iload hx hb d_Rd_readNumber_60 (lv_at hl 0 rfl) ?_
  refine lv_if_ne (tgt := 74) hx hb d_Rd_readNumber_62 (by decide) (fun c4 => ?_) (fun c4 => ?_)
  · replace h := o_ff c4 h
    refine lv_iconst (v := (0:Int32)) hx hb d_Rd_readNumber_74 (by decide) ?_
    refine lv_istore (lv' := [(5, .int (0:Int32)), (4, .int y0), (0, .ref (ad 23)), (1, .int x1), (2, .int x2), (3, .int x3)]) hx hb d_Rd_readNumber_75 hl (by decide) rfl (fun ls hl => ?_)
    refine lv_aload_n hx hb d_Rd_readNumber_77 rfl (lv_at hl 2 rfl) ?_
    obtain ⟨q4, hq4, h⟩ := o_bd_some h
    refine o_V (st1 := [.int q4]) (w1 := (o_cw ad ca 12 Sj T0 tc Rd Pg Pt Mk Lk Ck Jd Ld Pr)) hE.1 C (c_Rd_peek hE l Rd Sj T0 tc Pg Pt Mk Lk Ck Jd Ld Pr 12 hq4) hP (hDD _ _ _ _ _ _ _ _ _ _ _ _ _) hS hl.1 rfl cw_23 k_3_38 k_3_40 k_s_3 k_1_3 k_3_41 hv_Rd_peek rfl rfl ⟨(Nat.le_of_ble_eq_true rfl), (Nat.le_of_ble_eq_true rfl)⟩ rfl (Nat.le_of_ble_eq_true rfl) ⟨Nat.zero_le _, Nat.zero_le _⟩ rfl d_Rd_readNumber_78 (fun H locs hP hS => ?_)
    refine lv_bipush (v := (46:Int32)) hx hb d_Rd_readNumber_81 (by decide) ?_
    refine lv_icmp_ne (tgt := 119) hx hb d_Rd_readNumber_83 (by decide) (fun c5 => ?_) (fun c5 => ?_)
    · replace h := o_ff c5 h
      exact w_Rd_readNumber_j119_1 hE C hDD n x1 x2 x3 y0 (0:Int32) tc Rd Sj T0 Pg Pt Mk Lk Ck Jd Ld Pr h _ _ _ hP hS (lv_sub hl [2, 3, 4, 5, 1, 0] rfl)
    · replace h := o_tt c5 h
      refine lv_aload_n hx hb d_Rd_readNumber_86 rfl (lv_at hl 2 rfl) ?_
      refine lv_dup hx hb d_Rd_readNumber_87 rfl ?_
      refine o_get (v := .int (Rd_position Rd)) C in_Rd hP 23 cw_23 rfl 3 (by decide) k_1_97 rfl rfl d_Rd_readNumber_88 ?_
      refine lv_iconst (v := (1:Int32)) hx hb d_Rd_readNumber_91 (by decide) ?_
      refine lv_iadd hx hb d_Rd_readNumber_92 ?_
      refine o_put (v := .int ((Rd_position Rd) + (1:Int32))) (ty := .int) (w1 := (o_cw ad ca 12 Sj T0 tc (Rd_mk (Rd_words Rd) (Rd_wordCount Rd) ((Rd_position Rd) + (1:Int32)) (Rd_limit Rd) (Rd_wrongPlace Rd)) Pg Pt Mk Lk Ck Jd Ld Pr)) C in_Rd t_Rd t_Rd_ok n_Rd hP (hDD _ _ _ _ _ _ _ _ _ _ _ _ _) hS 23 cw_23 rfl 3 (by decide) k_1_97 rfl rfl (by decide +kernel) rfl rfl (Nat.le_of_ble_eq_true rfl) rfl d_Rd_readNumber_93 (fun H locs hP hS => ?_)
      refine lv_aload_n hx hb d_Rd_readNumber_96 rfl (lv_at hl 2 rfl) ?_
      refine lv_sipush (v := (8192:Int32)) hx hb d_Rd_readNumber_97 (by decide) ?_
      obtain ⟨q13, hq13, h⟩ := o_bd_some h
      refine o_V (st1 := [.int q13.1]) (w1 := (o_cw ad ca 12 Sj T0 q13.2.1 q13.2.2 Pg Pt Mk Lk Ck Jd Ld Pr)) hE.1 C (c_Rd_readDigits_1 hE l n (8192:Int32) tc (Rd_mk (Rd_words Rd) (Rd_wordCount Rd) ((Rd_position Rd) + (1:Int32)) (Rd_limit Rd) (Rd_wrongPlace Rd)) Sj T0 Pg Pt Mk Lk Ck Jd Ld Pr hq13) hP (hDD _ _ _ _ _ _ _ _ _ _ _ _ _) hS hl.1 rfl cw_23 k_3_115 k_3_117 k_s_7 k_1_3 k_3_118 hv_Rd_readDigits rfl rfl ⟨(Nat.le_of_ble_eq_true rfl), (Nat.le_of_ble_eq_true rfl)⟩ rfl (Nat.le_of_ble_eq_true rfl) ⟨Nat.zero_le _, Nat.zero_le _⟩ rfl d_Rd_readNumber_100 (fun H locs hP hS => ?_)
      refine lv_istore (lv' := [(5, .int q13.1), (4, .int y0), (0, .ref (ad 23)), (1, .int x1), (2, .int x2), (3, .int x3)]) hx hb d_Rd_readNumber_103 hl (by decide) rfl (fun ls hl => ?_)
      refine lv_iload hx hb d_Rd_readNumber_105 (lv_at hl 0 rfl) ?_
      refine lv_if_ne (tgt := 119) hx hb d_Rd_readNumber_107 (by decide) (fun c19 => ?_) (fun c19 => ?_)
      · replace h := o_ff c19 h
        exact w_Rd_readNumber_j119_1 hE C hDD n x1 x2 x3 y0 q13.1 q13.2.1 q13.2.2 Sj T0 Pg Pt Mk Lk Ck Jd Ld Pr h _ _ _ hP hS (lv_sub hl [2, 3, 4, 5, 1, 0] rfl)
      · replace h := o_tt c19 h
        refine lv_aload_n hx hb d_Rd_readNumber_110 rfl (lv_at hl 2 rfl) ?_
        refine lv_aload_n hx hb d_Rd_readNumber_111 rfl (lv_at hl 2 rfl) ?_
        refine o_get (v := .int (Rd_position q13.2.2)) C in_Rd hP 23 cw_23 rfl 3 (by decide) k_1_97 rfl rfl d_Rd_readNumber_112 ?_
        obtain ⟨q14, hq14, h⟩ := o_bd_some h
        refine o_V (st1 := [.int q14.1]) (w1 := (o_cw ad ca 12 Sj T0 q13.2.1 q14.2 Pg Pt Mk Lk Ck Jd Ld Pr)) hE.1 C (c_Rd_refuse hE l (Rd_position q13.2.2) q13.2.2 Sj T0 q13.2.1 Pg Pt Mk Lk Ck Jd Ld Pr 12 hq14) hP (hDD _ _ _ _ _ _ _ _ _ _ _ _ _) hS hl.1 rfl cw_23 k_3_48 k_3_50 k_s_4 k_1_3 k_3_51 hv_Rd_refuse rfl rfl ⟨(Nat.le_of_ble_eq_true rfl), (Nat.le_of_ble_eq_true rfl)⟩ rfl (Nat.le_of_ble_eq_true rfl) ⟨Nat.zero_le _, Nat.zero_le _⟩ rfl d_Rd_readNumber_115 (fun H locs hP hS => ?_)
        obtain ⟨g20, h⟩ := o_gd_some h
        cases h
        exact o_rz C (o_zb_nar g20) hP hS d_Rd_readNumber_118
  · replace h := o_tt c4 h
    refine lv_aload_n hx hb d_Rd_readNumber_65 rfl (lv_at hl 1 rfl) ?_
    refine lv_aload_n hx hb d_Rd_readNumber_66 rfl (lv_at hl 1 rfl) ?_
    refine o_get (v := .int (Rd_position Rd)) C in_Rd hP 23 cw_23 rfl 3 (by decide) k_1_97 rfl rfl d_Rd_readNumber_67 ?_
    obtain ⟨q15, hq15, h⟩ := o_bd_some h
    refine o_V (st1 := [.int q15.1]) (w1 := (o_cw ad ca 12 Sj T0 tc q15.2 Pg Pt Mk Lk Ck Jd Ld Pr)) hE.1 C (c_Rd_refuse hE l (Rd_position Rd) Rd Sj T0 tc Pg Pt Mk Lk Ck Jd Ld Pr 12 hq15) hP (hDD _ _ _ _ _ _ _ _ _ _ _ _ _) hS hl.1 rfl cw_23 k_3_48 k_3_50 k_s_4 k_1_3 k_3_51 hv_Rd_refuse rfl rfl ⟨(Nat.le_of_ble_eq_true rfl), (Nat.le_of_ble_eq_true rfl)⟩ rfl (Nat.le_of_ble_eq_true rfl) ⟨Nat.zero_le _, Nat.zero_le _⟩ rfl d_Rd_readNumber_70 (fun H locs hP hS => ?_)
    obtain ⟨g21, h⟩ := o_gd_some h
    cases h
    exact o_rz C (o_zb_nar g21) hP hS d_Rd_readNumber_73
set_option maxHeartbeats 4000000 in
set_option maxRecDepth 100000 in
theorem w_Rd_readNumber_j34_1 {E : (Nat → Prop) → State → Heap → Prop} {p : Program} {l : Launch} {e : Env} {s : State} {m : MethodId} {args : Array Value} {below : List Frame} {meth : Method} {c : Code} {D : va_G} {ad kd sd vd xd : Nat → Nat} {ca : Nat → ClassId} {A : Nat → Prop} (hE : o_EK E kd sd vd xd) (C : o_Cx E p s m args meth c D o_cls (o_tys ca) "SchemaJudge$Reader" b_Rd_readNumber (some .boolean) 10 cc_Rd_readNumber A) (hDD : ∀ (rt : Nat) (Sj : SSJ) (T0 : STx) (T1 : STx) (Rd : SRd) (Pg : SPg) (Pt : SPt) (Mk : SMk) (Lk : SLk) (Ck : SCk) (Jd : SJd) (Ld : SLd) (Pr : SPr), va_D A (o_cw ad ca rt Sj T0 T1 Rd Pg Pt Mk Lk Ck Jd Ld Pr)) (n : Nat) (x1 : Int32) (x2 : Int32) (x3 : Int32) (tc : STx) (Rd : SRd) (Sj : SSJ) (T0 : STx) (Pg : SPg) (Pt : SPt) (Mk : SMk) (Lk : SLk) (Ck : SCk) (Jd : SJd) (Ld : SLd) (Pr : SPr) {r : Int32 × STx × SRd} (h : m_Rd_readNumber_j34 n x1 x2 x3 tc Rd = some r) : o_At p l e rm_Rd_readNumber s m args below meth c (MQ below (o_Qx D o_cls (some (.int r.1)) (o_cw ad ca 12 Sj T0 r.2.1 r.2.2 Pg Pt Mk Lk Ck Jd Ld Pr) A) args s 0 0 A) o_cls D A 10 34 [] (o_cw ad ca 12 Sj T0 tc Rd Pg Pt Mk Lk Ck Jd Ld Pr) [(0, .ref (ad 23)), (1, .int x1), (2, .int x2), (3, .int x3)] := by
  unfold m_Rd_readNumber_j34 at h
  intro H locs ls hP hS hl
  have C0 := C
  obtain ⟨hx, hb, -, -, -, hown, hts, hK, -, -⟩ := C0
  refine lv_aload_n hx hb d_Rd_readNumber_34 rfl (lv_at hl 0 rfl) ?_
  obtain ⟨q2, hq2, h⟩ := o_bd_some h
  refine o_V (st1 := [.int q2]) (w1 := (o_cw ad ca 12 Sj T0 tc Rd Pg Pt Mk Lk Ck Jd Ld Pr)) hE.1 C (c_Rd_peek hE l Rd Sj T0 tc Pg Pt Mk Lk Ck Jd Ld Pr 12 hq2) hP (hDD _ _ _ _ _ _ _ _ _ _ _ _ _) hS hl.1 rfl cw_23 k_3_38 k_3_40 k_s_3 k_1_3 k_3_41 hv_Rd_peek rfl rfl ⟨(Nat.le_of_ble_eq_true rfl), (Nat.le_of_ble_eq_true rfl)⟩ rfl (Nat.le_of_ble_eq_true rfl) ⟨Nat.zero_le _, Nat.zero_le _⟩ rfl d_Rd_readNumber_35 (fun H locs hP hS => ?_)
  refine lv_bipush (v := (48:Int32)) hx hb d_Rd_readNumber_38 (by decide) ?_
  refine lv_icmp_ne (tgt := 51) hx hb d_Rd_readNumber_40 (by decide) (fun c3 => ?_) (fun c3 => ?_)
  · replace h := o_ff c3 h
    refine lv_aload_n hx hb d_Rd_readNumber_51 rfl (lv_at hl 0 rfl) ?_
    refine lv_sipush (v := (8192:Int32)) hx hb d_Rd_readNumber_52 (by decide) ?_
    obtain ⟨q3, hq3, h⟩ := o_bd_some h
    refine o_V (st1 := [.int q3.1]) (w1 := (o_cw ad ca 12 Sj T0 q3.2.1 q3.2.2 Pg Pt Mk Lk Ck Jd Ld Pr)) hE.1 C (c_Rd_readDigits_1 hE l n (8192:Int32) tc Rd Sj T0 Pg Pt Mk Lk Ck Jd Ld Pr hq3) hP (hDD _ _ _ _ _ _ _ _ _ _ _ _ _) hS hl.1 rfl cw_23 k_3_115 k_3_117 k_s_7 k_1_3 k_3_118 hv_Rd_readDigits rfl rfl ⟨(Nat.le_of_ble_eq_true rfl), (Nat.le_of_ble_eq_true rfl)⟩ rfl (Nat.le_of_ble_eq_true rfl) ⟨Nat.zero_le _, Nat.zero_le _⟩ rfl d_Rd_readNumber_55 (fun H locs hP hS => ?_)
    exact w_Rd_readNumber_j58_1 hE C hDD n x1 x2 x3 q3.1 q3.2.1 q3.2.2 Sj T0 Pg Pt Mk Lk Ck Jd Ld Pr h _ _ _ hP hS (lv_sub hl [0, 1, 2, 3] rfl)
  · replace h := o_tt c3 h
    refine lv_aload_n hx hb d_Rd_readNumber_43 rfl (lv_at hl 0 rfl) ?_
    refine lv_iconst (v := (1:Int32)) hx hb d_Rd_readNumber_44 (by decide) ?_
    obtain ⟨q16, hq16, h⟩ := o_bd_some h
    refine o_V (st1 := [.int q16.1]) (w1 := (o_cw ad ca 12 Sj T0 q16.2.1 q16.2.2 Pg Pt Mk Lk Ck Jd Ld Pr)) hE.1 C (c_Rd_readDigits_1 hE l n (1:Int32) tc Rd Sj T0 Pg Pt Mk Lk Ck Jd Ld Pr hq16) hP (hDD _ _ _ _ _ _ _ _ _ _ _ _ _) hS hl.1 rfl cw_23 k_3_115 k_3_117 k_s_7 k_1_3 k_3_118 hv_Rd_readDigits rfl rfl ⟨(Nat.le_of_ble_eq_true rfl), (Nat.le_of_ble_eq_true rfl)⟩ rfl (Nat.le_of_ble_eq_true rfl) ⟨Nat.zero_le _, Nat.zero_le _⟩ rfl d_Rd_readNumber_45 (fun H locs hP hS => ?_)
    refine lv_goto (tgt := 58) hx hb d_Rd_readNumber_48 (by decide) ?_
    exact w_Rd_readNumber_j58_1 hE C hDD n x1 x2 x3 q16.1 q16.2.1 q16.2.2 Sj T0 Pg Pt Mk Lk Ck Jd Ld Pr h _ _ _ hP hS (lv_sub hl [0, 1, 2, 3] rfl)
set_option maxHeartbeats 4000000 in
set_option maxRecDepth 100000 in
theorem w_Rd_readNumber_j19_1 {E : (Nat → Prop) → State → Heap → Prop} {p : Program} {l : Launch} {e : Env} {s : State} {m : MethodId} {args : Array Value} {below : List Frame} {meth : Method} {c : Code} {D : va_G} {ad kd sd vd xd : Nat → Nat} {ca : Nat → ClassId} {A : Nat → Prop} (hE : o_EK E kd sd vd xd) (C : o_Cx E p s m args meth c D o_cls (o_tys ca) "SchemaJudge$Reader" b_Rd_readNumber (some .boolean) 10 cc_Rd_readNumber A) (hDD : ∀ (rt : Nat) (Sj : SSJ) (T0 : STx) (T1 : STx) (Rd : SRd) (Pg : SPg) (Pt : SPt) (Mk : SMk) (Lk : SLk) (Ck : SCk) (Jd : SJd) (Ld : SLd) (Pr : SPr), va_D A (o_cw ad ca rt Sj T0 T1 Rd Pg Pt Mk Lk Ck Jd Ld Pr)) (n : Nat) (x1 : Int32) (x2 : Int32) (y0 : Int32) (tc : STx) (Rd : SRd) (Sj : SSJ) (T0 : STx) (Pg : SPg) (Pt : SPt) (Mk : SMk) (Lk : SLk) (Ck : SCk) (Jd : SJd) (Ld : SLd) (Pr : SPr) {r : Int32 × STx × SRd} (h : m_Rd_readNumber_j19 n x1 x2 y0 tc Rd = some r) : o_At p l e rm_Rd_readNumber s m args below meth c (MQ below (o_Qx D o_cls (some (.int r.1)) (o_cw ad ca 12 Sj T0 r.2.1 r.2.2 Pg Pt Mk Lk Ck Jd Ld Pr) A) args s 0 0 A) o_cls D A 10 19 [.int y0] (o_cw ad ca 12 Sj T0 tc Rd Pg Pt Mk Lk Ck Jd Ld Pr) [(0, .ref (ad 23)), (1, .int x1), (2, .int x2)] := by
  unfold m_Rd_readNumber_j19 at h
  intro H locs ls hP hS hl
  have C0 := C
  obtain ⟨hx, hb, -, -, -, hown, hts, hK, -, -⟩ := C0
  refine lv_istore_n (lv' := [(3, .int y0), (0, .ref (ad 23)), (1, .int x1), (2, .int x2)]) hx hb d_Rd_readNumber_19 rfl hl (by decide) rfl (fun ls hl => ?_)
  refine lv_iload_n hx hb d_Rd_readNumber_20 rfl (lv_at hl 0 rfl) ?_
  refine lv_if_eq (tgt := 34) hx hb d_Rd_readNumber_21 (by decide) (fun c2 => ?_) (fun c2 => ?_)
  · replace h := o_tt c2 h
    exact w_Rd_readNumber_j34_1 hE C hDD n x1 x2 y0 tc Rd Sj T0 Pg Pt Mk Lk Ck Jd Ld Pr h _ _ _ hP hS (lv_sub hl [1, 2, 3, 0] rfl)
  · replace h := o_ff c2 h
    refine lv_aload_n hx hb d_Rd_readNumber_24 rfl (lv_at hl 1 rfl) ?_
    refine lv_dup hx hb d_Rd_readNumber_25 rfl ?_
    refine o_get (v := .int (Rd_position Rd)) C in_Rd hP 23 cw_23 rfl 3 (by decide) k_1_97 rfl rfl d_Rd_readNumber_26 ?_
    refine lv_iconst (v := (1:Int32)) hx hb d_Rd_readNumber_29 (by decide) ?_
    refine lv_iadd hx hb d_Rd_readNumber_30 ?_
    refine o_put (v := .int ((Rd_position Rd) + (1:Int32))) (ty := .int) (w1 := (o_cw ad ca 12 Sj T0 tc (Rd_mk (Rd_words Rd) (Rd_wordCount Rd) ((Rd_position Rd) + (1:Int32)) (Rd_limit Rd) (Rd_wrongPlace Rd)) Pg Pt Mk Lk Ck Jd Ld Pr)) C in_Rd t_Rd t_Rd_ok n_Rd hP (hDD _ _ _ _ _ _ _ _ _ _ _ _ _) hS 23 cw_23 rfl 3 (by decide) k_1_97 rfl rfl (by decide +kernel) rfl rfl (Nat.le_of_ble_eq_true rfl) rfl d_Rd_readNumber_31 (fun H locs hP hS => ?_)
    exact w_Rd_readNumber_j34_1 hE C hDD n x1 x2 y0 tc (Rd_mk (Rd_words Rd) (Rd_wordCount Rd) ((Rd_position Rd) + (1:Int32)) (Rd_limit Rd) (Rd_wrongPlace Rd)) Sj T0 Pg Pt Mk Lk Ck Jd Ld Pr h _ _ _ hP hS (lv_sub hl [1, 2, 3, 0] rfl)
set_option maxHeartbeats 4000000 in
set_option maxRecDepth 100000 in
theorem c_Rd_readNumber_1 {E : (Nat → Prop) → State → Heap → Prop} {D : va_G} {ad kd sd vd xd : Nat → Nat} {ca : Nat → ClassId} (hE : o_EK E kd sd vd xd) (l : Launch) (n : Nat) (x1 : Int32) (tc : STx) (Rd : SRd) (Sj : SSJ) (T0 : STx) (Pg : SPg) (Pt : SPt) (Mk : SMk) (Lk : SLk) (Ck : SCk) (Jd : SJd) (Ld : SLd) (Pr : SPr) {r : Int32 × STx × SRd} (h : m_Rd_readNumber n x1 tc Rd = some r) : o_Cn E l D o_cls (o_tys ca) y_Rd_readNumber cc_Rd_readNumber rm_Rd_readNumber [.ref (ad 23), .int x1] (o_cw ad ca 12 Sj T0 tc Rd Pg Pt Mk Lk Ck Jd Ld Pr) (o_cw ad ca 12 Sj T0 r.2.1 r.2.2 Pg Pt Mk Lk Ck Jd Ld Pr) (some (.int r.1)) := by
  refine o_Cn_of (by decide) (Nat.le_of_ble_eq_true rfl) ?_
  intro p e s m below meth c A ls C hD hP hS hl
  have hDD : ∀ (rt : Nat) (Sj : SSJ) (T0 : STx) (T1 : STx) (Rd : SRd) (Pg : SPg) (Pt : SPt) (Mk : SMk) (Lk : SLk) (Ck : SCk) (Jd : SJd) (Ld : SLd) (Pr : SPr), va_D A (o_cw ad ca rt Sj T0 T1 Rd Pg Pt Mk Lk Ck Jd Ld Pr) := fun _ _ _ _ _ _ _ _ _ _ _ _ _ => o_D_map hD rfl
  have hl : lv_has ls 10 [(0, .ref (ad 23)), (1, .int x1)] := hl
  unfold m_Rd_readNumber at h
  have C0 := C
  obtain ⟨hx, hb, -, -, -, hown, hts, hK, -, -⟩ := C0
  refine lv_aload_n hx hb d_Rd_readNumber_0 rfl (lv_at hl 0 rfl) ?_
  refine o_get (v := .int (Rd_position Rd)) C in_Rd hP 23 cw_23 rfl 3 (by decide) k_1_97 rfl rfl d_Rd_readNumber_1 ?_
  refine lv_topi (fun x2_4 ex2_4 => ?_)
  replace h := o_nm_at ex2_4 h
  refine lv_istore_n (lv' := [(2, .int x2_4), (0, .ref (ad 23)), (1, .int x1)]) hx hb d_Rd_readNumber_4 rfl hl (by decide) rfl (fun ls hl => ?_)
  refine lv_aload_n hx hb d_Rd_readNumber_5 rfl (lv_at hl 1 rfl) ?_
  obtain ⟨q1, hq1, h⟩ := o_bd_some h
  refine o_V (st1 := [.int q1]) (w1 := (o_cw ad ca 12 Sj T0 tc Rd Pg Pt Mk Lk Ck Jd Ld Pr)) hE.1 C (c_Rd_peek hE l Rd Sj T0 tc Pg Pt Mk Lk Ck Jd Ld Pr 12 hq1) hP (hDD _ _ _ _ _ _ _ _ _ _ _ _ _) hS hl.1 rfl cw_23 k_3_38 k_3_40 k_s_3 k_1_3 k_3_41 hv_Rd_peek rfl rfl ⟨(Nat.le_of_ble_eq_true rfl), (Nat.le_of_ble_eq_true rfl)⟩ rfl (Nat.le_of_ble_eq_true rfl) ⟨Nat.zero_le _, Nat.zero_le _⟩ rfl d_Rd_readNumber_6 (fun H locs hP hS => ?_)
  refine lv_bipush (v := (45:Int32)) hx hb d_Rd_readNumber_9 (by decide) ?_
  refine lv_icmp_ne (tgt := 18) hx hb d_Rd_readNumber_11 (by decide) (fun c1 => ?_) (fun c1 => ?_)
  · replace h := o_ff c1 h
    refine lv_iconst (v := (0:Int32)) hx hb d_Rd_readNumber_18 (by decide) ?_
    exact w_Rd_readNumber_j19_1 hE C hDD n x1 x2_4 (0:Int32) tc Rd Sj T0 Pg Pt Mk Lk Ck Jd Ld Pr h _ _ _ hP hS (lv_sub hl [1, 2, 0] rfl)
  · replace h := o_tt c1 h
    refine lv_iconst (v := (1:Int32)) hx hb d_Rd_readNumber_14 (by decide) ?_
    refine lv_goto (tgt := 19) hx hb d_Rd_readNumber_15 (by decide) ?_
    exact w_Rd_readNumber_j19_1 hE C hDD n x1 x2_4 (1:Int32) tc Rd Sj T0 Pg Pt Mk Lk Ck Jd Ld Pr h _ _ _ hP hS (lv_sub hl [1, 2, 0] rfl)
set_option maxHeartbeats 4000000 in
set_option maxRecDepth 100000 in
theorem c_Tx_endString_0 {E : (Nat → Prop) → State → Heap → Prop} {D : va_G} {ad kd sd vd xd : Nat → Nat} {ca : Nat → ClassId} (hE : o_EK E kd sd vd xd) (l : Launch) (x1 : Int32) (a0 : STx) (Sj : SSJ) (T1 : STx) (Rd : SRd) (Pg : SPg) (Pt : SPt) (Mk : SMk) (Lk : SLk) (Ck : SCk) (Jd : SJd) (Ld : SLd) (Pr : SPr) (rt : Nat) {r : STx} (h : m_Tx_endString x1 a0 = some r) : o_Cn E l D o_cls (o_tys ca) y_Tx_endString cc_Tx_endString rm_Tx_endString [.ref (ad 1), .int x1] (o_cw ad ca rt Sj a0 T1 Rd Pg Pt Mk Lk Ck Jd Ld Pr) (o_cw ad ca rt Sj r T1 Rd Pg Pt Mk Lk Ck Jd Ld Pr) none := by
  refine o_Cn_of (by decide) (Nat.le_of_ble_eq_true rfl) ?_
  intro p e s m below meth c A ls C hD hP hS hl
  have hDD : ∀ (rt : Nat) (Sj : SSJ) (T0 : STx) (T1 : STx) (Rd : SRd) (Pg : SPg) (Pt : SPt) (Mk : SMk) (Lk : SLk) (Ck : SCk) (Jd : SJd) (Ld : SLd) (Pr : SPr), va_D A (o_cw ad ca rt Sj T0 T1 Rd Pg Pt Mk Lk Ck Jd Ld Pr) := fun _ _ _ _ _ _ _ _ _ _ _ _ _ => o_D_map hD rfl
  have hl : lv_has ls 2 [(0, .ref (ad 1)), (1, .int x1)] := hl
  unfold m_Tx_endString at h
  have C0 := C
  obtain ⟨hx, hb, -, -, -, hown, hts, hK, -, -⟩ := C0
  refine lv_iload_n hx hb d_Tx_endString_0 rfl (lv_at hl 1 rfl) ?_
  refine lv_if_lt (tgt := 29) hx hb d_Tx_endString_1 (by decide) (fun c1 => ?_) (fun c1 => ?_)
  · replace h := o_tt c1 h
    cases h
    exact o_rv C hP hS d_Tx_endString_29
  · replace h := o_ff c1 h
    refine lv_iload_n hx hb d_Tx_endString_4 rfl (lv_at hl 1 rfl) ?_
    refine lv_aload_n hx hb d_Tx_endString_5 rfl (lv_at hl 0 rfl) ?_
    refine o_get (v := .int (Tx_total a0)) C in_Tx hP 1 cw_1 rfl 10 (by decide) k_1_56 rfl rfl d_Tx_endString_6 ?_
    refine lv_icmp_ge (tgt := 29) hx hb d_Tx_endString_9 (by decide) (fun c2 => ?_) (fun c2 => ?_)
    · replace h := o_tt c2 h
      cases h
      exact o_rv C hP hS d_Tx_endString_29
    · replace h := o_ff c2 h
      refine lv_aload_n hx hb d_Tx_endString_12 rfl (lv_at hl 0 rfl) ?_
      refine o_get (v := .ref (ad 4)) C in_Tx hP 1 cw_1 rfl 2 (by decide) k_1_48 rfl rfl d_Tx_endString_13 ?_
      refine lv_iload_n hx hb d_Tx_endString_16 rfl (lv_at hl 1 rfl) ?_
      refine lv_aload_n hx hb d_Tx_endString_17 rfl (lv_at hl 0 rfl) ?_
      refine o_get (v := .int (Tx_used a0)) C in_Tx hP 1 cw_1 rfl 11 (by decide) k_1_57 rfl rfl d_Tx_endString_18 ?_
      refine lv_aload_n hx hb d_Tx_endString_21 rfl (lv_at hl 0 rfl) ?_
      refine o_get (v := .ref (ad 7)) C in_Tx hP 1 cw_1 rfl 5 (by decide) k_1_51 rfl rfl d_Tx_endString_22 ?_
      refine lv_iload_n hx hb d_Tx_endString_25 rfl (lv_at hl 1 rfl) ?_
      obtain ⟨g3, h⟩ := o_gd_some h
      refine o_iald (f := (Tx_starts a0)) C hP 7 5 cw_7 rfl g3 d_Tx_endString_26 ?_
      refine lv_isub hx hb d_Tx_endString_27 ?_
      obtain ⟨g4, h⟩ := o_gd_some h
      refine o_iast (f := (Tx_sizes a0)) (w1 := (o_cw ad ca rt Sj (Tx_mk (Tx_kinds a0) (Tx_places a0) (upd (Tx_sizes a0) x1.toNatClampNeg ((Tx_used a0) - ((Tx_starts a0) x1.toNatClampNeg))) (Tx_parents a0) (Tx_exponents a0) (Tx_starts a0) (Tx_afters a0) (Tx_slots a0) (Tx_negatives a0) (Tx_cells a0) (Tx_total a0) (Tx_used a0) (Tx_characters a0)) T1 Rd Pg Pt Mk Lk Ck Jd Ld Pr)) C hP (hDD _ _ _ _ _ _ _ _ _ _ _ _ _) hS 4 2 cw_4 rfl g4 rfl d_Tx_endString_28 (fun H locs hP hS => ?_)
      cases h
      exact o_rv C hP hS d_Tx_endString_29
set_option maxHeartbeats 4000000 in
set_option maxRecDepth 100000 in
theorem c_Tx_endString_1 {E : (Nat → Prop) → State → Heap → Prop} {D : va_G} {ad kd sd vd xd : Nat → Nat} {ca : Nat → ClassId} (hE : o_EK E kd sd vd xd) (l : Launch) (x1 : Int32) (a0 : STx) (Sj : SSJ) (T0 : STx) (Rd : SRd) (Pg : SPg) (Pt : SPt) (Mk : SMk) (Lk : SLk) (Ck : SCk) (Jd : SJd) (Ld : SLd) (Pr : SPr) (rt : Nat) {r : STx} (h : m_Tx_endString x1 a0 = some r) : o_Cn E l D o_cls (o_tys ca) y_Tx_endString cc_Tx_endString rm_Tx_endString [.ref (ad 12), .int x1] (o_cw ad ca rt Sj T0 a0 Rd Pg Pt Mk Lk Ck Jd Ld Pr) (o_cw ad ca rt Sj T0 r Rd Pg Pt Mk Lk Ck Jd Ld Pr) none := by
  refine o_Cn_of (by decide) (Nat.le_of_ble_eq_true rfl) ?_
  intro p e s m below meth c A ls C hD hP hS hl
  have hDD : ∀ (rt : Nat) (Sj : SSJ) (T0 : STx) (T1 : STx) (Rd : SRd) (Pg : SPg) (Pt : SPt) (Mk : SMk) (Lk : SLk) (Ck : SCk) (Jd : SJd) (Ld : SLd) (Pr : SPr), va_D A (o_cw ad ca rt Sj T0 T1 Rd Pg Pt Mk Lk Ck Jd Ld Pr) := fun _ _ _ _ _ _ _ _ _ _ _ _ _ => o_D_map hD rfl
  have hl : lv_has ls 2 [(0, .ref (ad 12)), (1, .int x1)] := hl
  unfold m_Tx_endString at h
  have C0 := C
  obtain ⟨hx, hb, -, -, -, hown, hts, hK, -, -⟩ := C0
  refine lv_iload_n hx hb d_Tx_endString_0 rfl (lv_at hl 1 rfl) ?_
  refine lv_if_lt (tgt := 29) hx hb d_Tx_endString_1 (by decide) (fun c1 => ?_) (fun c1 => ?_)
  · replace h := o_tt c1 h
    cases h
    exact o_rv C hP hS d_Tx_endString_29
  · replace h := o_ff c1 h
    refine lv_iload_n hx hb d_Tx_endString_4 rfl (lv_at hl 1 rfl) ?_
    refine lv_aload_n hx hb d_Tx_endString_5 rfl (lv_at hl 0 rfl) ?_
    refine o_get (v := .int (Tx_total a0)) C in_Tx hP 12 cw_12 rfl 10 (by decide) k_1_56 rfl rfl d_Tx_endString_6 ?_
    refine lv_icmp_ge (tgt := 29) hx hb d_Tx_endString_9 (by decide) (fun c2 => ?_) (fun c2 => ?_)
    · replace h := o_tt c2 h
      cases h
      exact o_rv C hP hS d_Tx_endString_29
    · replace h := o_ff c2 h
      refine lv_aload_n hx hb d_Tx_endString_12 rfl (lv_at hl 0 rfl) ?_
      refine o_get (v := .ref (ad 15)) C in_Tx hP 12 cw_12 rfl 2 (by decide) k_1_48 rfl rfl d_Tx_endString_13 ?_
      refine lv_iload_n hx hb d_Tx_endString_16 rfl (lv_at hl 1 rfl) ?_
      refine lv_aload_n hx hb d_Tx_endString_17 rfl (lv_at hl 0 rfl) ?_
      refine o_get (v := .int (Tx_used a0)) C in_Tx hP 12 cw_12 rfl 11 (by decide) k_1_57 rfl rfl d_Tx_endString_18 ?_
      refine lv_aload_n hx hb d_Tx_endString_21 rfl (lv_at hl 0 rfl) ?_
      refine o_get (v := .ref (ad 18)) C in_Tx hP 12 cw_12 rfl 5 (by decide) k_1_51 rfl rfl d_Tx_endString_22 ?_
      refine lv_iload_n hx hb d_Tx_endString_25 rfl (lv_at hl 1 rfl) ?_
      obtain ⟨g3, h⟩ := o_gd_some h
      refine o_iald (f := (Tx_starts a0)) C hP 18 15 cw_18 rfl g3 d_Tx_endString_26 ?_
      refine lv_isub hx hb d_Tx_endString_27 ?_
      obtain ⟨g4, h⟩ := o_gd_some h
      refine o_iast (f := (Tx_sizes a0)) (w1 := (o_cw ad ca rt Sj T0 (Tx_mk (Tx_kinds a0) (Tx_places a0) (upd (Tx_sizes a0) x1.toNatClampNeg ((Tx_used a0) - ((Tx_starts a0) x1.toNatClampNeg))) (Tx_parents a0) (Tx_exponents a0) (Tx_starts a0) (Tx_afters a0) (Tx_slots a0) (Tx_negatives a0) (Tx_cells a0) (Tx_total a0) (Tx_used a0) (Tx_characters a0)) Rd Pg Pt Mk Lk Ck Jd Ld Pr)) C hP (hDD _ _ _ _ _ _ _ _ _ _ _ _ _) hS 15 12 cw_15 rfl g4 rfl d_Tx_endString_28 (fun H locs hP hS => ?_)
      cases h
      exact o_rv C hP hS d_Tx_endString_29
set_option maxHeartbeats 4000000 in
set_option maxRecDepth 100000 in
theorem c_Tx_addCharacter_0 {E : (Nat → Prop) → State → Heap → Prop} {D : va_G} {ad kd sd vd xd : Nat → Nat} {ca : Nat → ClassId} (hE : o_EK E kd sd vd xd) (l : Launch) (x1 : Int32) (a0 : STx) (Sj : SSJ) (T1 : STx) (Rd : SRd) (Pg : SPg) (Pt : SPt) (Mk : SMk) (Lk : SLk) (Ck : SCk) (Jd : SJd) (Ld : SLd) (Pr : SPr) (rt : Nat) {r : Int32 × STx} (h : m_Tx_addCharacter x1 a0 = some r) : o_Cn E l D o_cls (o_tys ca) y_Tx_addCharacter cc_Tx_addCharacter rm_Tx_addCharacter [.ref (ad 1), .int x1] (o_cw ad ca rt Sj a0 T1 Rd Pg Pt Mk Lk Ck Jd Ld Pr) (o_cw ad ca rt Sj r.2 T1 Rd Pg Pt Mk Lk Ck Jd Ld Pr) (some (.int r.1)) := by
  refine o_Cn_of (by decide) (Nat.le_of_ble_eq_true rfl) ?_
  intro p e s m below meth c A ls C hD hP hS hl
  have hDD : ∀ (rt : Nat) (Sj : SSJ) (T0 : STx) (T1 : STx) (Rd : SRd) (Pg : SPg) (Pt : SPt) (Mk : SMk) (Lk : SLk) (Ck : SCk) (Jd : SJd) (Ld : SLd) (Pr : SPr), va_D A (o_cw ad ca rt Sj T0 T1 Rd Pg Pt Mk Lk Ck Jd Ld Pr) := fun _ _ _ _ _ _ _ _ _ _ _ _ _ => o_D_map hD rfl
  have hl : lv_has ls 2 [(0, .ref (ad 1)), (1, .int x1)] := hl
  unfold m_Tx_addCharacter at h
  have C0 := C
  obtain ⟨hx, hb, -, -, -, hown, hts, hK, -, -⟩ := C0
  refine lv_aload_n hx hb d_Tx_addCharacter_0 rfl (lv_at hl 0 rfl) ?_
  refine o_get (v := .int (Tx_characters a0)) C in_Tx hP 1 cw_1 rfl 12 (by decide) k_1_58 rfl rfl d_Tx_addCharacter_1 ?_
  refine lv_sipush (v := (4000:Int32)) hx hb d_Tx_addCharacter_4 (by decide) ?_
  refine lv_icmp_ge (tgt := 22) hx hb d_Tx_addCharacter_7 (by decide) (fun c1 => ?_) (fun c1 => ?_)
  · replace h := o_tt c1 h
    refine lv_iconst (v := (0:Int32)) hx hb d_Tx_addCharacter_22 (by decide) ?_
    cases h
    exact o_rz (v := (0:Int32)) C o_nar0 hP hS d_Tx_addCharacter_23
  · replace h := o_ff c1 h
    refine lv_aload_n hx hb d_Tx_addCharacter_10 rfl (lv_at hl 0 rfl) ?_
    refine o_get (v := .int (Tx_used a0)) C in_Tx hP 1 cw_1 rfl 11 (by decide) k_1_57 rfl rfl d_Tx_addCharacter_11 ?_
    refine lv_aload_n hx hb d_Tx_addCharacter_14 rfl (lv_at hl 0 rfl) ?_
    refine o_get (v := .ref (ad 11)) C in_Tx hP 1 cw_1 rfl 9 (by decide) k_1_55 rfl rfl d_Tx_addCharacter_15 ?_
    refine va_alen (v := (8192:Int32)) hx hb hK hP 11 9 cw_11 rfl rfl d_Tx_addCharacter_18 ?_
    refine lv_icmp_lt (tgt := 24) hx hb d_Tx_addCharacter_19 (by decide) (fun c2 => ?_) (fun c2 => ?_)
    · replace h := o_tt c2 h
      refine lv_aload_n hx hb d_Tx_addCharacter_24 rfl (lv_at hl 0 rfl) ?_
      refine lv_dup hx hb d_Tx_addCharacter_25 rfl ?_
      refine o_get (v := .int (Tx_characters a0)) C in_Tx hP 1 cw_1 rfl 12 (by decide) k_1_58 rfl rfl d_Tx_addCharacter_26 ?_
      refine lv_iconst (v := (1:Int32)) hx hb d_Tx_addCharacter_29 (by decide) ?_
      refine lv_iadd hx hb d_Tx_addCharacter_30 ?_
      refine o_put (v := .int ((Tx_characters a0) + (1:Int32))) (ty := .int) (w1 := (o_cw ad ca rt Sj (Tx_mk (Tx_kinds a0) (Tx_places a0) (Tx_sizes a0) (Tx_parents a0) (Tx_exponents a0) (Tx_starts a0) (Tx_afters a0) (Tx_slots a0) (Tx_negatives a0) (Tx_cells a0) (Tx_total a0) (Tx_used a0) ((Tx_characters a0) + (1:Int32))) T1 Rd Pg Pt Mk Lk Ck Jd Ld Pr)) C in_Tx t_Tx t_Tx_ok n_Tx hP (hDD _ _ _ _ _ _ _ _ _ _ _ _ _) hS 1 cw_1 rfl 12 (by decide) k_1_58 rfl rfl (by decide +kernel) rfl rfl (Nat.le_of_ble_eq_true rfl) rfl d_Tx_addCharacter_31 (fun H locs hP hS => ?_)
      refine lv_aload_n hx hb d_Tx_addCharacter_34 rfl (lv_at hl 0 rfl) ?_
      refine o_get (v := .ref (ad 11)) C in_Tx hP 1 cw_1 rfl 9 (by decide) k_1_55 rfl rfl d_Tx_addCharacter_35 ?_
      refine lv_aload_n hx hb d_Tx_addCharacter_38 rfl (lv_at hl 0 rfl) ?_
      refine o_get (v := .int (Tx_used a0)) C in_Tx hP 1 cw_1 rfl 11 (by decide) k_1_57 rfl rfl d_Tx_addCharacter_39 ?_
      refine lv_iload_n hx hb d_Tx_addCharacter_42 rfl (lv_at hl 1 rfl) ?_
      obtain ⟨g3, h⟩ := o_gd_some h
      refine o_iast (f := (Tx_cells a0)) (w1 := (o_cw ad ca rt Sj (Tx_mk (Tx_kinds a0) (Tx_places a0) (Tx_sizes a0) (Tx_parents a0) (Tx_exponents a0) (Tx_starts a0) (Tx_afters a0) (Tx_slots a0) (Tx_negatives a0) (upd (Tx_cells a0) (Tx_used a0).toNatClampNeg x1) (Tx_total a0) (Tx_used a0) ((Tx_characters a0) + (1:Int32))) T1 Rd Pg Pt Mk Lk Ck Jd Ld Pr)) C hP (hDD _ _ _ _ _ _ _ _ _ _ _ _ _) hS 11 9 cw_11 rfl g3 rfl d_Tx_addCharacter_43 (fun H locs hP hS => ?_)
      refine lv_aload_n hx hb d_Tx_addCharacter_44 rfl (lv_at hl 0 rfl) ?_
      refine lv_dup hx hb d_Tx_addCharacter_45 rfl ?_
      refine o_get (v := .int (Tx_used a0)) C in_Tx hP 1 cw_1 rfl 11 (by decide) k_1_57 rfl rfl d_Tx_addCharacter_46 ?_
      refine lv_iconst (v := (1:Int32)) hx hb d_Tx_addCharacter_49 (by decide) ?_
      refine lv_iadd hx hb d_Tx_addCharacter_50 ?_
      refine o_put (v := .int ((Tx_used a0) + (1:Int32))) (ty := .int) (w1 := (o_cw ad ca rt Sj (Tx_mk (Tx_kinds a0) (Tx_places a0) (Tx_sizes a0) (Tx_parents a0) (Tx_exponents a0) (Tx_starts a0) (Tx_afters a0) (Tx_slots a0) (Tx_negatives a0) (upd (Tx_cells a0) (Tx_used a0).toNatClampNeg x1) (Tx_total a0) ((Tx_used a0) + (1:Int32)) ((Tx_characters a0) + (1:Int32))) T1 Rd Pg Pt Mk Lk Ck Jd Ld Pr)) C in_Tx t_Tx t_Tx_ok n_Tx hP (hDD _ _ _ _ _ _ _ _ _ _ _ _ _) hS 1 cw_1 rfl 11 (by decide) k_1_57 rfl rfl (by decide +kernel) rfl rfl (Nat.le_of_ble_eq_true rfl) rfl d_Tx_addCharacter_51 (fun H locs hP hS => ?_)
      refine lv_iconst (v := (1:Int32)) hx hb d_Tx_addCharacter_54 (by decide) ?_
      cases h
      exact o_rz (v := (1:Int32)) C o_nar1 hP hS d_Tx_addCharacter_55
    · replace h := o_ff c2 h
      refine lv_iconst (v := (0:Int32)) hx hb d_Tx_addCharacter_22 (by decide) ?_
      cases h
      exact o_rz (v := (0:Int32)) C o_nar0 hP hS d_Tx_addCharacter_23
set_option maxHeartbeats 4000000 in
set_option maxRecDepth 100000 in
theorem c_Tx_addCharacter_1 {E : (Nat → Prop) → State → Heap → Prop} {D : va_G} {ad kd sd vd xd : Nat → Nat} {ca : Nat → ClassId} (hE : o_EK E kd sd vd xd) (l : Launch) (x1 : Int32) (a0 : STx) (Sj : SSJ) (T0 : STx) (Rd : SRd) (Pg : SPg) (Pt : SPt) (Mk : SMk) (Lk : SLk) (Ck : SCk) (Jd : SJd) (Ld : SLd) (Pr : SPr) (rt : Nat) {r : Int32 × STx} (h : m_Tx_addCharacter x1 a0 = some r) : o_Cn E l D o_cls (o_tys ca) y_Tx_addCharacter cc_Tx_addCharacter rm_Tx_addCharacter [.ref (ad 12), .int x1] (o_cw ad ca rt Sj T0 a0 Rd Pg Pt Mk Lk Ck Jd Ld Pr) (o_cw ad ca rt Sj T0 r.2 Rd Pg Pt Mk Lk Ck Jd Ld Pr) (some (.int r.1)) := by
  refine o_Cn_of (by decide) (Nat.le_of_ble_eq_true rfl) ?_
  intro p e s m below meth c A ls C hD hP hS hl
  have hDD : ∀ (rt : Nat) (Sj : SSJ) (T0 : STx) (T1 : STx) (Rd : SRd) (Pg : SPg) (Pt : SPt) (Mk : SMk) (Lk : SLk) (Ck : SCk) (Jd : SJd) (Ld : SLd) (Pr : SPr), va_D A (o_cw ad ca rt Sj T0 T1 Rd Pg Pt Mk Lk Ck Jd Ld Pr) := fun _ _ _ _ _ _ _ _ _ _ _ _ _ => o_D_map hD rfl
  have hl : lv_has ls 2 [(0, .ref (ad 12)), (1, .int x1)] := hl
  unfold m_Tx_addCharacter at h
  have C0 := C
  obtain ⟨hx, hb, -, -, -, hown, hts, hK, -, -⟩ := C0
  refine lv_aload_n hx hb d_Tx_addCharacter_0 rfl (lv_at hl 0 rfl) ?_
  refine o_get (v := .int (Tx_characters a0)) C in_Tx hP 12 cw_12 rfl 12 (by decide) k_1_58 rfl rfl d_Tx_addCharacter_1 ?_
  refine lv_sipush (v := (4000:Int32)) hx hb d_Tx_addCharacter_4 (by decide) ?_
  refine lv_icmp_ge (tgt := 22) hx hb d_Tx_addCharacter_7 (by decide) (fun c1 => ?_) (fun c1 => ?_)
  · replace h := o_tt c1 h
    refine lv_iconst (v := (0:Int32)) hx hb d_Tx_addCharacter_22 (by decide) ?_
    cases h
    exact o_rz (v := (0:Int32)) C o_nar0 hP hS d_Tx_addCharacter_23
  · replace h := o_ff c1 h
    refine lv_aload_n hx hb d_Tx_addCharacter_10 rfl (lv_at hl 0 rfl) ?_
    refine o_get (v := .int (Tx_used a0)) C in_Tx hP 12 cw_12 rfl 11 (by decide) k_1_57 rfl rfl d_Tx_addCharacter_11 ?_
    refine lv_aload_n hx hb d_Tx_addCharacter_14 rfl (lv_at hl 0 rfl) ?_
    refine o_get (v := .ref (ad 22)) C in_Tx hP 12 cw_12 rfl 9 (by decide) k_1_55 rfl rfl d_Tx_addCharacter_15 ?_
    refine va_alen (v := (8192:Int32)) hx hb hK hP 22 19 cw_22 rfl rfl d_Tx_addCharacter_18 ?_
    refine lv_icmp_lt (tgt := 24) hx hb d_Tx_addCharacter_19 (by decide) (fun c2 => ?_) (fun c2 => ?_)
    · replace h := o_tt c2 h
      refine lv_aload_n hx hb d_Tx_addCharacter_24 rfl (lv_at hl 0 rfl) ?_
      refine lv_dup hx hb d_Tx_addCharacter_25 rfl ?_
      refine o_get (v := .int (Tx_characters a0)) C in_Tx hP 12 cw_12 rfl 12 (by decide) k_1_58 rfl rfl d_Tx_addCharacter_26 ?_
      refine lv_iconst (v := (1:Int32)) hx hb d_Tx_addCharacter_29 (by decide) ?_
      refine lv_iadd hx hb d_Tx_addCharacter_30 ?_
      refine o_put (v := .int ((Tx_characters a0) + (1:Int32))) (ty := .int) (w1 := (o_cw ad ca rt Sj T0 (Tx_mk (Tx_kinds a0) (Tx_places a0) (Tx_sizes a0) (Tx_parents a0) (Tx_exponents a0) (Tx_starts a0) (Tx_afters a0) (Tx_slots a0) (Tx_negatives a0) (Tx_cells a0) (Tx_total a0) (Tx_used a0) ((Tx_characters a0) + (1:Int32))) Rd Pg Pt Mk Lk Ck Jd Ld Pr)) C in_Tx t_Tx t_Tx_ok n_Tx hP (hDD _ _ _ _ _ _ _ _ _ _ _ _ _) hS 12 cw_12 rfl 12 (by decide) k_1_58 rfl rfl (by decide +kernel) rfl rfl (Nat.le_of_ble_eq_true rfl) rfl d_Tx_addCharacter_31 (fun H locs hP hS => ?_)
      refine lv_aload_n hx hb d_Tx_addCharacter_34 rfl (lv_at hl 0 rfl) ?_
      refine o_get (v := .ref (ad 22)) C in_Tx hP 12 cw_12 rfl 9 (by decide) k_1_55 rfl rfl d_Tx_addCharacter_35 ?_
      refine lv_aload_n hx hb d_Tx_addCharacter_38 rfl (lv_at hl 0 rfl) ?_
      refine o_get (v := .int (Tx_used a0)) C in_Tx hP 12 cw_12 rfl 11 (by decide) k_1_57 rfl rfl d_Tx_addCharacter_39 ?_
      refine lv_iload_n hx hb d_Tx_addCharacter_42 rfl (lv_at hl 1 rfl) ?_
      obtain ⟨g3, h⟩ := o_gd_some h
      refine o_iast (f := (Tx_cells a0)) (w1 := (o_cw ad ca rt Sj T0 (Tx_mk (Tx_kinds a0) (Tx_places a0) (Tx_sizes a0) (Tx_parents a0) (Tx_exponents a0) (Tx_starts a0) (Tx_afters a0) (Tx_slots a0) (Tx_negatives a0) (upd (Tx_cells a0) (Tx_used a0).toNatClampNeg x1) (Tx_total a0) (Tx_used a0) ((Tx_characters a0) + (1:Int32))) Rd Pg Pt Mk Lk Ck Jd Ld Pr)) C hP (hDD _ _ _ _ _ _ _ _ _ _ _ _ _) hS 22 19 cw_22 rfl g3 rfl d_Tx_addCharacter_43 (fun H locs hP hS => ?_)
      refine lv_aload_n hx hb d_Tx_addCharacter_44 rfl (lv_at hl 0 rfl) ?_
      refine lv_dup hx hb d_Tx_addCharacter_45 rfl ?_
      refine o_get (v := .int (Tx_used a0)) C in_Tx hP 12 cw_12 rfl 11 (by decide) k_1_57 rfl rfl d_Tx_addCharacter_46 ?_
      refine lv_iconst (v := (1:Int32)) hx hb d_Tx_addCharacter_49 (by decide) ?_
      refine lv_iadd hx hb d_Tx_addCharacter_50 ?_
      refine o_put (v := .int ((Tx_used a0) + (1:Int32))) (ty := .int) (w1 := (o_cw ad ca rt Sj T0 (Tx_mk (Tx_kinds a0) (Tx_places a0) (Tx_sizes a0) (Tx_parents a0) (Tx_exponents a0) (Tx_starts a0) (Tx_afters a0) (Tx_slots a0) (Tx_negatives a0) (upd (Tx_cells a0) (Tx_used a0).toNatClampNeg x1) (Tx_total a0) ((Tx_used a0) + (1:Int32)) ((Tx_characters a0) + (1:Int32))) Rd Pg Pt Mk Lk Ck Jd Ld Pr)) C in_Tx t_Tx t_Tx_ok n_Tx hP (hDD _ _ _ _ _ _ _ _ _ _ _ _ _) hS 12 cw_12 rfl 11 (by decide) k_1_57 rfl rfl (by decide +kernel) rfl rfl (Nat.le_of_ble_eq_true rfl) rfl d_Tx_addCharacter_51 (fun H locs hP hS => ?_)
      refine lv_iconst (v := (1:Int32)) hx hb d_Tx_addCharacter_54 (by decide) ?_
      cases h
      exact o_rz (v := (1:Int32)) C o_nar1 hP hS d_Tx_addCharacter_55
    · replace h := o_ff c2 h
      refine lv_iconst (v := (0:Int32)) hx hb d_Tx_addCharacter_22 (by decide) ?_
      cases h
      exact o_rz (v := (0:Int32)) C o_nar0 hP hS d_Tx_addCharacter_23
set_option maxHeartbeats 4000000 in
set_option maxRecDepth 100000 in
theorem w_Rd_readString_j73_0 {E : (Nat → Prop) → State → Heap → Prop} {p : Program} {l : Launch} {e : Env} {s : State} {m : MethodId} {args : Array Value} {below : List Frame} {meth : Method} {c : Code} {D : va_G} {ad kd sd vd xd : Nat → Nat} {ca : Nat → ClassId} {A : Nat → Prop} {Q : State → Prop} (hE : o_EK E kd sd vd xd) (C : o_Cx E p s m args meth c D o_cls (o_tys ca) "SchemaJudge$Reader" b_Rd_readString (some .boolean) 6 cc_Rd_readString A) (hDD : ∀ (rt : Nat) (Sj : SSJ) (T0 : STx) (T1 : STx) (Rd : SRd) (Pg : SPg) (Pt : SPt) (Mk : SMk) (Lk : SLk) (Ck : SCk) (Jd : SJd) (Ld : SLd) (Pr : SPr), va_D A (o_cw ad ca rt Sj T0 T1 Rd Pg Pt Mk Lk Ck Jd Ld Pr)) (n : Nat) (u12_x1 : Int32) (u12_Sj : SSJ) (u12_T1 : STx) (u12_Pg : SPg) (u12_Pt : SPt) (u12_Mk : SMk) (u12_Lk : SLk) (u12_Ck : SCk) (u12_Jd : SJd) (u12_Ld : SLd) (u12_Pr : SPr) (x2 : Int32) (x4 : Int32) (y0 : Int32) (tc : STx) (Rd : SRd) {q : Nat × Int32 × Int32 × STx × SRd} (h : m_Rd_readString_j73 n u12_x1 x2 x4 y0 tc Rd = some q) (h0 : q.1 = 0 → o_At p l e rm_Rd_readString s m args below meth c Q o_cls D A 6 12 [] (o_cw ad ca 1 u12_Sj q.2.2.2.1 u12_T1 q.2.2.2.2 u12_Pg u12_Pt u12_Mk u12_Lk u12_Ck u12_Jd u12_Ld u12_Pr) [(0, .ref (ad 23)), (1, .int u12_x1), (2, .int q.2.1)]) (h1 : q.1 ≠ 0 → (if q.1 = 1 then o_At p l e rm_Rd_readString s m args below meth c Q o_cls D A 6 30 [] (o_cw ad ca 1 u12_Sj q.2.2.2.1 u12_T1 q.2.2.2.2 u12_Pg u12_Pt u12_Mk u12_Lk u12_Ck u12_Jd u12_Ld u12_Pr) [(0, .ref (ad 23)), (1, .int u12_x1)] else if q.1 = 2 then o_At p l e rm_Rd_readString s m args below meth c Q o_cls D A 6 81 [] (o_cw ad ca 1 u12_Sj q.2.2.2.1 u12_T1 q.2.2.2.2 u12_Pg u12_Pt u12_Mk u12_Lk u12_Ck u12_Jd u12_Ld u12_Pr) [] else if q.1 = 3 then o_At p l e rm_Rd_readString s m args below meth c Q o_cls D A 6 95 [] (o_cw ad ca 1 u12_Sj q.2.2.2.1 u12_T1 q.2.2.2.2 u12_Pg u12_Pt u12_Mk u12_Lk u12_Ck u12_Jd u12_Ld u12_Pr) [(0, .ref (ad 23)), (4, .int q.2.2.1)] else o_At p l e rm_Rd_readString s m args below meth c Q o_cls D A 6 108 [] (o_cw ad ca 1 u12_Sj q.2.2.2.1 u12_T1 q.2.2.2.2 u12_Pg u12_Pt u12_Mk u12_Lk u12_Ck u12_Jd u12_Ld u12_Pr) [(0, .ref (ad 23))])) : o_At p l e rm_Rd_readString s m args below meth c Q o_cls D A 6 73 [.int y0] (o_cw ad ca 1 u12_Sj tc u12_T1 Rd u12_Pg u12_Pt u12_Mk u12_Lk u12_Ck u12_Jd u12_Ld u12_Pr) [(0, .ref (ad 23)), (1, .int u12_x1), (2, .int x2), (4, .int x4)] := by
  unfold m_Rd_readString_j73 at h
  intro H locs ls hP hS hl
  have C0 := C
  obtain ⟨hx, hb, -, -, -, hown, hts, hK, -, -⟩ := C0
  refine lv_istore (lv' := [(5, .int y0), (0, .ref (ad 23)), (1, .int u12_x1), (2, .int x2), (4, .int x4)]) hx hb d_Rd_readString_73 hl (by decide) rfl (fun ls hl => ?_)
  refine lv_iload hx hb d_Rd_readString_75 (lv_at hl 0 rfl) ?_
  refine lv_iconst (v := (-1:Int32)) hx hb d_Rd_readString_77 (by decide) ?_
  refine lv_icmp_ne (tgt := 83) hx hb d_Rd_readString_78 (by decide) (fun c4 => ?_) (fun c4 => ?_)
  · replace h := o_ff c4 h
    refine lv_aload_n hx hb d_Rd_readString_83 rfl (lv_at hl 1 rfl) ?_
    refine o_get (v := .ref (ad 1)) C in_Rd hP 23 cw_23 rfl 2 (by decide) k_1_96 rfl rfl d_Rd_readString_84 ?_
    refine lv_iload hx hb d_Rd_readString_87 (lv_at hl 0 rfl) ?_
    obtain ⟨q3, hq3, h⟩ := o_bd_some h
    refine o_V (st1 := [.int q3.1]) (w1 := (o_cw ad ca 1 u12_Sj q3.2 u12_T1 Rd u12_Pg u12_Pt u12_Mk u12_Lk u12_Ck u12_Jd u12_Ld u12_Pr)) hE.1 C (c_Tx_addCharacter_0 hE l y0 tc u12_Sj u12_T1 Rd u12_Pg u12_Pt u12_Mk u12_Lk u12_Ck u12_Jd u12_Ld u12_Pr 1 hq3) hP (hDD _ _ _ _ _ _ _ _ _ _ _ _ _) hS hl.1 rfl cw_1 k_3_182 k_3_183 k_3_184 k_1_2 k_3_185 hv_Tx_addCharacter rfl rfl ⟨(Nat.le_of_ble_eq_true rfl), (Nat.le_of_ble_eq_true rfl)⟩ rfl (Nat.le_of_ble_eq_true rfl) ⟨Nat.zero_le _, Nat.zero_le _⟩ rfl d_Rd_readString_89 (fun H locs hP hS => ?_)
    refine lv_if_ne (tgt := 102) hx hb d_Rd_readString_92 (by decide) (fun c5 => ?_) (fun c5 => ?_)
    · replace h := o_ff c5 h
      obtain ⟨x2_102, ex2_102⟩ : ∃ y : Int32, y = x2 + (1:Int32) := ⟨_, rfl⟩
      replace h := o_nm_at ex2_102 h
      refine lv_iinc (v := x2_102) (lv' := [(2, .int x2_102), (5, .int y0), (0, .ref (ad 23)), (1, .int u12_x1), (4, .int x4)]) hx hb d_Rd_readString_102 hl (k := 3) rfl (by rw [ex2_102]; rfl) (by decide) rfl (fun ls hl => ?_)
      refine lv_goto (tgt := 12) hx hb d_Rd_readString_105 (by decide) ?_
      cases h
      exact h0 rfl _ _ _ hP hS (lv_sub hl [2, 3, 0] rfl)
    · replace h := o_tt c5 h
      cases h
      exact h1 (Nat.succ_ne_zero 2) _ _ _ hP hS (lv_sub hl [1, 4] rfl)
  · replace h := o_tt c4 h
    cases h
    exact h1 (Nat.succ_ne_zero 1) _ _ _ hP hS (lv_sub hl [] rfl)
set_option maxHeartbeats 4000000 in
set_option maxRecDepth 100000 in
theorem w_Rd_readString_b12_0 {E : (Nat → Prop) → State → Heap → Prop} {p : Program} {l : Launch} {e : Env} {s : State} {m : MethodId} {args : Array Value} {below : List Frame} {meth : Method} {c : Code} {D : va_G} {ad kd sd vd xd : Nat → Nat} {ca : Nat → ClassId} {A : Nat → Prop} {Q : State → Prop} (hE : o_EK E kd sd vd xd) (C : o_Cx E p s m args meth c D o_cls (o_tys ca) "SchemaJudge$Reader" b_Rd_readString (some .boolean) 6 cc_Rd_readString A) (hDD : ∀ (rt : Nat) (Sj : SSJ) (T0 : STx) (T1 : STx) (Rd : SRd) (Pg : SPg) (Pt : SPt) (Mk : SMk) (Lk : SLk) (Ck : SCk) (Jd : SJd) (Ld : SLd) (Pr : SPr), va_D A (o_cw ad ca rt Sj T0 T1 Rd Pg Pt Mk Lk Ck Jd Ld Pr)) (n : Nat) (u12_x1 : Int32) (u12_Sj : SSJ) (u12_T1 : STx) (u12_Pg : SPg) (u12_Pt : SPt) (u12_Mk : SMk) (u12_Lk : SLk) (u12_Ck : SCk) (u12_Jd : SJd) (u12_Ld : SLd) (u12_Pr : SPr) (z : Int32 × Int32 × STx × SRd) (q : Nat × Int32 × Int32 × STx × SRd) (h : m_Rd_readString_b12 n u12_x1 z = some q) (h0 : q.1 = 0 → o_At p l e rm_Rd_readString s m args below meth c Q o_cls D A 6 12 [] (o_cw ad ca 1 u12_Sj q.2.2.2.1 u12_T1 q.2.2.2.2 u12_Pg u12_Pt u12_Mk u12_Lk u12_Ck u12_Jd u12_Ld u12_Pr) [(0, .ref (ad 23)), (1, .int u12_x1), (2, .int q.2.1)]) (h1 : q.1 ≠ 0 → (if q.1 = 1 then o_At p l e rm_Rd_readString s m args below meth c Q o_cls D A 6 30 [] (o_cw ad ca 1 u12_Sj q.2.2.2.1 u12_T1 q.2.2.2.2 u12_Pg u12_Pt u12_Mk u12_Lk u12_Ck u12_Jd u12_Ld u12_Pr) [(0, .ref (ad 23)), (1, .int u12_x1)] else if q.1 = 2 then o_At p l e rm_Rd_readString s m args below meth c Q o_cls D A 6 81 [] (o_cw ad ca 1 u12_Sj q.2.2.2.1 u12_T1 q.2.2.2.2 u12_Pg u12_Pt u12_Mk u12_Lk u12_Ck u12_Jd u12_Ld u12_Pr) [] else if q.1 = 3 then o_At p l e rm_Rd_readString s m args below meth c Q o_cls D A 6 95 [] (o_cw ad ca 1 u12_Sj q.2.2.2.1 u12_T1 q.2.2.2.2 u12_Pg u12_Pt u12_Mk u12_Lk u12_Ck u12_Jd u12_Ld u12_Pr) [(0, .ref (ad 23)), (4, .int q.2.2.1)] else o_At p l e rm_Rd_readString s m args below meth c Q o_cls D A 6 108 [] (o_cw ad ca 1 u12_Sj q.2.2.2.1 u12_T1 q.2.2.2.2 u12_Pg u12_Pt u12_Mk u12_Lk u12_Ck u12_Jd u12_Ld u12_Pr) [(0, .ref (ad 23))])) : o_At p l e rm_Rd_readString s m args below meth c Q o_cls D A 6 12 [] (o_cw ad ca 1 u12_Sj z.2.2.1 u12_T1 z.2.2.2 u12_Pg u12_Pt u12_Mk u12_Lk u12_Ck u12_Jd u12_Ld u12_Pr) [(0, .ref (ad 23)), (1, .int u12_x1), (2, .int z.1)] := by
  unfold m_Rd_readString_b12 at h
  intro H locs ls hP hS hl
  have C0 := C
  obtain ⟨hx, hb, -, -, -, hown, hts, hK, -, -⟩ := C0
  refine lv_iload_n hx hb d_Rd_readString_12 rfl (lv_at hl 2 rfl) ?_
  refine lv_sipush (v := (8192:Int32)) hx hb d_Rd_readString_13 (by decide) ?_
  refine lv_icmp_gt (tgt := 108) hx hb d_Rd_readString_16 (by decide) (fun c1 => ?_) (fun c1 => ?_)
  · replace h := o_tt c1 h
    cases h
    exact h1 (Nat.succ_ne_zero 3) _ _ _ hP hS (lv_sub hl [0] rfl)
  · replace h := o_ff c1 h
    refine lv_aload_n hx hb d_Rd_readString_19 rfl (lv_at hl 0 rfl) ?_
    obtain ⟨q1, hq1, h⟩ := o_bd_some h
    refine o_V (st1 := [.int q1]) (w1 := (o_cw ad ca 1 u12_Sj z.2.2.1 u12_T1 z.2.2.2 u12_Pg u12_Pt u12_Mk u12_Lk u12_Ck u12_Jd u12_Ld u12_Pr)) hE.1 C (c_Rd_peek hE l z.2.2.2 u12_Sj z.2.2.1 u12_T1 u12_Pg u12_Pt u12_Mk u12_Lk u12_Ck u12_Jd u12_Ld u12_Pr 1 hq1) hP (hDD _ _ _ _ _ _ _ _ _ _ _ _ _) hS hl.1 rfl cw_23 k_3_38 k_3_40 k_s_3 k_1_3 k_3_41 hv_Rd_peek rfl rfl ⟨(Nat.le_of_ble_eq_true rfl), (Nat.le_of_ble_eq_true rfl)⟩ rfl (Nat.le_of_ble_eq_true rfl) ⟨Nat.zero_le _, Nat.zero_le _⟩ rfl d_Rd_readString_20 (fun H locs hP hS => ?_)
    refine lv_istore_n (lv' := [(3, .int q1), (0, .ref (ad 23)), (1, .int u12_x1), (2, .int z.1)]) hx hb d_Rd_readString_23 rfl hl (by decide) rfl (fun ls hl => ?_)
    refine lv_iload_n hx hb d_Rd_readString_24 rfl (lv_at hl 0 rfl) ?_
    refine lv_bipush (v := (34:Int32)) hx hb d_Rd_readString_25 (by decide) ?_
    refine lv_icmp_ne (tgt := 50) hx hb d_Rd_readString_27 (by decide) (fun c2 => ?_) (fun c2 => ?_)
    · replace h := o_ff c2 h
      refine lv_aload_n hx hb d_Rd_readString_50 rfl (lv_at hl 1 rfl) ?_
      refine o_get (v := .int (Rd_position z.2.2.2)) C in_Rd hP 23 cw_23 rfl 3 (by decide) k_1_97 rfl rfl d_Rd_readString_51 ?_
      refine lv_topi (fun x4_54 ex4_54 => ?_)
      replace h := o_nm_at ex4_54 h
      refine lv_istore (lv' := [(4, .int x4_54), (3, .int q1), (0, .ref (ad 23)), (1, .int u12_x1), (2, .int z.1)]) hx hb d_Rd_readString_54 hl (by decide) rfl (fun ls hl => ?_)
      refine lv_iload_n hx hb d_Rd_readString_56 rfl (lv_at hl 1 rfl) ?_
      refine lv_bipush (v := (92:Int32)) hx hb d_Rd_readString_57 (by decide) ?_
      refine lv_icmp_ne (tgt := 69) hx hb d_Rd_readString_59 (by decide) (fun c3 => ?_) (fun c3 => ?_)
      · replace h := o_ff c3 h
        refine lv_aload_n hx hb d_Rd_readString_69 rfl (lv_at hl 2 rfl) ?_
        obtain ⟨q2, hq2, h⟩ := o_bd_some h
        refine o_V (st1 := [.int q2.1]) (w1 := (o_cw ad ca 1 u12_Sj z.2.2.1 u12_T1 q2.2 u12_Pg u12_Pt u12_Mk u12_Lk u12_Ck u12_Jd u12_Ld u12_Pr)) hE.1 C (c_Rd_readCharacter hE l n z.2.2.2 u12_Sj z.2.2.1 u12_T1 u12_Pg u12_Pt u12_Mk u12_Lk u12_Ck u12_Jd u12_Ld u12_Pr 1 hq2) hP (hDD _ _ _ _ _ _ _ _ _ _ _ _ _) hS hl.1 rfl cw_23 k_3_163 k_3_165 k_s_13 k_1_3 k_3_166 hv_Rd_readCharacter rfl rfl ⟨(Nat.le_of_ble_eq_true rfl), (Nat.le_of_ble_eq_true rfl)⟩ rfl (Nat.le_of_ble_eq_true rfl) ⟨Nat.zero_le _, Nat.zero_le _⟩ rfl d_Rd_readString_70 (fun H locs hP hS => ?_)
        exact w_Rd_readString_j73_0 hE C hDD n u12_x1 u12_Sj u12_T1 u12_Pg u12_Pt u12_Mk u12_Lk u12_Ck u12_Jd u12_Ld u12_Pr z.1 x4_54 q2.1 z.2.2.1 q2.2 h h0 h1 _ _ _ hP hS (lv_sub hl [2, 3, 4, 0] rfl)
      · replace h := o_tt c3 h
        refine lv_aload_n hx hb d_Rd_readString_62 rfl (lv_at hl 2 rfl) ?_
        obtain ⟨q4, hq4, h⟩ := o_bd_some h
        refine o_V (st1 := [.int q4.1]) (w1 := (o_cw ad ca 1 u12_Sj z.2.2.1 u12_T1 q4.2 u12_Pg u12_Pt u12_Mk u12_Lk u12_Ck u12_Jd u12_Ld u12_Pr)) hE.1 C (c_Rd_readEscape hE l n z.2.2.2 u12_Sj z.2.2.1 u12_T1 u12_Pg u12_Pt u12_Mk u12_Lk u12_Ck u12_Jd u12_Ld u12_Pr 1 hq4) hP (hDD _ _ _ _ _ _ _ _ _ _ _ _ _) hS hl.1 rfl cw_23 k_3_139 k_3_141 k_s_10 k_1_3 k_3_142 hv_Rd_readEscape rfl rfl ⟨(Nat.le_of_ble_eq_true rfl), (Nat.le_of_ble_eq_true rfl)⟩ rfl (Nat.le_of_ble_eq_true rfl) ⟨Nat.zero_le _, Nat.zero_le _⟩ rfl d_Rd_readString_63 (fun H locs hP hS => ?_)
        refine lv_goto (tgt := 73) hx hb d_Rd_readString_66 (by decide) ?_
        exact w_Rd_readString_j73_0 hE C hDD n u12_x1 u12_Sj u12_T1 u12_Pg u12_Pt u12_Mk u12_Lk u12_Ck u12_Jd u12_Ld u12_Pr z.1 x4_54 q4.1 z.2.2.1 q4.2 h h0 h1 _ _ _ hP hS (lv_sub hl [2, 3, 4, 0] rfl)
    · replace h := o_tt c2 h
      cases h
      exact h1 (Nat.succ_ne_zero 0) _ _ _ hP hS (lv_sub hl [1, 2] rfl)
set_option maxHeartbeats 4000000 in
set_option maxRecDepth 100000 in
theorem c_Rd_readString_0 {E : (Nat → Prop) → State → Heap → Prop} {D : va_G} {ad kd sd vd xd : Nat → Nat} {ca : Nat → ClassId} (hE : o_EK E kd sd vd xd) (l : Launch) (n : Nat) (x1 : Int32) (tc : STx) (Rd : SRd) (Sj : SSJ) (T1 : STx) (Pg : SPg) (Pt : SPt) (Mk : SMk) (Lk : SLk) (Ck : SCk) (Jd : SJd) (Ld : SLd) (Pr : SPr) {r : Int32 × STx × SRd} (h : m_Rd_readString n x1 tc Rd = some r) : o_Cn E l D o_cls (o_tys ca) y_Rd_readString cc_Rd_readString rm_Rd_readString [.ref (ad 23), .int x1] (o_cw ad ca 1 Sj tc T1 Rd Pg Pt Mk Lk Ck Jd Ld Pr) (o_cw ad ca 1 Sj r.2.1 T1 r.2.2 Pg Pt Mk Lk Ck Jd Ld Pr) (some (.int r.1)) := by
  refine o_Cn_of (by decide) (Nat.le_of_ble_eq_true rfl) ?_
  intro p e s m below meth c A ls C hD hP hS hl
  have hDD : ∀ (rt : Nat) (Sj : SSJ) (T0 : STx) (T1 : STx) (Rd : SRd) (Pg : SPg) (Pt : SPt) (Mk : SMk) (Lk : SLk) (Ck : SCk) (Jd : SJd) (Ld : SLd) (Pr : SPr), va_D A (o_cw ad ca rt Sj T0 T1 Rd Pg Pt Mk Lk Ck Jd Ld Pr) := fun _ _ _ _ _ _ _ _ _ _ _ _ _ => o_D_map hD rfl
  have hl : lv_has ls 6 [(0, .ref (ad 23)), (1, .int x1)] := hl
  unfold m_Rd_readString at h
  have C0 := C
  obtain ⟨hx, hb, -, -, -, hown, hts, hK, -, -⟩ := C0
  refine lv_aload_n hx hb d_Rd_readString_0 rfl (lv_at hl 0 rfl) ?_
  refine lv_dup hx hb d_Rd_readString_1 rfl ?_
  refine o_get (v := .int (Rd_position Rd)) C in_Rd hP 23 cw_23 rfl 3 (by decide) k_1_97 rfl rfl d_Rd_readString_2 ?_
  refine lv_iconst (v := (1:Int32)) hx hb d_Rd_readString_5 (by decide) ?_
  refine lv_iadd hx hb d_Rd_readString_6 ?_
  refine o_put (v := .int ((Rd_position Rd) + (1:Int32))) (ty := .int) (w1 := (o_cw ad ca 1 Sj tc T1 (Rd_mk (Rd_words Rd) (Rd_wordCount Rd) ((Rd_position Rd) + (1:Int32)) (Rd_limit Rd) (Rd_wrongPlace Rd)) Pg Pt Mk Lk Ck Jd Ld Pr)) C in_Rd t_Rd t_Rd_ok n_Rd hP (hDD _ _ _ _ _ _ _ _ _ _ _ _ _) hS 23 cw_23 rfl 3 (by decide) k_1_97 rfl rfl (by decide +kernel) rfl rfl (Nat.le_of_ble_eq_true rfl) rfl d_Rd_readString_7 (fun H locs hP hS => ?_)
  refine lv_iconst (v := (0:Int32)) hx hb d_Rd_readString_10 (by decide) ?_
  refine lv_istore_n (lv' := [(2, .int (0:Int32)), (0, .ref (ad 23)), (1, .int x1)]) hx hb d_Rd_readString_11 rfl hl (by decide) rfl (fun ls hl => ?_)
  obtain ⟨q5, hq5, h⟩ := o_bd_some h
  refine o_sim2 (AH := fun zz => o_At p l e rm_Rd_readString s m _ below meth c _ o_cls D A 6 12 [] (o_cw ad ca 1 Sj zz.2.2.1 T1 zz.2.2.2 Pg Pt Mk Lk Ck Jd Ld Pr) [(0, .ref (ad 23)), (1, .int x1), (2, .int zz.1)]) (AX := fun qq => if qq.1 = 1 then o_At p l e rm_Rd_readString s m _ below meth c _ o_cls D A 6 30 [] (o_cw ad ca 1 Sj qq.2.2.2.1 T1 qq.2.2.2.2 Pg Pt Mk Lk Ck Jd Ld Pr) [(0, .ref (ad 23)), (1, .int x1)] else if qq.1 = 2 then o_At p l e rm_Rd_readString s m _ below meth c _ o_cls D A 6 81 [] (o_cw ad ca 1 Sj qq.2.2.2.1 T1 qq.2.2.2.2 Pg Pt Mk Lk Ck Jd Ld Pr) [] else if qq.1 = 3 then o_At p l e rm_Rd_readString s m _ below meth c _ o_cls D A 6 95 [] (o_cw ad ca 1 Sj qq.2.2.2.1 T1 qq.2.2.2.2 Pg Pt Mk Lk Ck Jd Ld Pr) [(0, .ref (ad 23)), (4, .int qq.2.2.1)] else o_At p l e rm_Rd_readString s m _ below meth c _ o_cls D A 6 108 [] (o_cw ad ca 1 Sj qq.2.2.2.1 T1 qq.2.2.2.2 Pg Pt Mk Lk Ck Jd Ld Pr) [(0, .ref (ad 23))]) (fun zz qq h h0 h1 => w_Rd_readString_b12_0 hE C hDD n x1 Sj T1 Pg Pt Mk Lk Ck Jd Ld Pr zz qq h h0 h1) n _ q5 hq5 ?_ _ _ _ hP hS (lv_sub hl [1, 2, 0] rfl)
  by_cases c8 : q5.1 = 1
  · replace h := o_tt c8 h
    refine o_ip c8 ?_
    intro H locs ls hP hS hl
    refine lv_aload_n hx hb d_Rd_readString_30 rfl (lv_at hl 0 rfl) ?_
    refine lv_dup hx hb d_Rd_readString_31 rfl ?_
    refine o_get (v := .int (Rd_position q5.2.2.2.2)) C in_Rd hP 23 cw_23 rfl 3 (by decide) k_1_97 rfl rfl d_Rd_readString_32 ?_
    refine lv_iconst (v := (1:Int32)) hx hb d_Rd_readString_35 (by decide) ?_
    refine lv_iadd hx hb d_Rd_readString_36 ?_
    refine o_put (v := .int ((Rd_position q5.2.2.2.2) + (1:Int32))) (ty := .int) (w1 := (o_cw ad ca 1 Sj q5.2.2.2.1 T1 (Rd_mk (Rd_words q5.2.2.2.2) (Rd_wordCount q5.2.2.2.2) ((Rd_position q5.2.2.2.2) + (1:Int32)) (Rd_limit q5.2.2.2.2) (Rd_wrongPlace q5.2.2.2.2)) Pg Pt Mk Lk Ck Jd Ld Pr)) C in_Rd t_Rd t_Rd_ok n_Rd hP (hDD _ _ _ _ _ _ _ _ _ _ _ _ _) hS 23 cw_23 rfl 3 (by decide) k_1_97 rfl rfl (by decide +kernel) rfl rfl (Nat.le_of_ble_eq_true rfl) rfl d_Rd_readString_37 (fun H locs hP hS => ?_)
    refine lv_aload_n hx hb d_Rd_readString_40 rfl (lv_at hl 0 rfl) ?_
    refine o_get (v := .ref (ad 1)) C in_Rd hP 23 cw_23 rfl 2 (by decide) k_1_96 rfl rfl d_Rd_readString_41 ?_
    refine lv_iload_n hx hb d_Rd_readString_44 rfl (lv_at hl 1 rfl) ?_
    obtain ⟨q6, hq6, h⟩ := o_bd_some h
    refine o_V (st1 := []) (w1 := (o_cw ad ca 1 Sj q6 T1 (Rd_mk (Rd_words q5.2.2.2.2) (Rd_wordCount q5.2.2.2.2) ((Rd_position q5.2.2.2.2) + (1:Int32)) (Rd_limit q5.2.2.2.2) (Rd_wrongPlace q5.2.2.2.2)) Pg Pt Mk Lk Ck Jd Ld Pr)) hE.1 C (c_Tx_endString_0 hE l x1 q5.2.2.2.1 Sj T1 (Rd_mk (Rd_words q5.2.2.2.2) (Rd_wordCount q5.2.2.2.2) ((Rd_position q5.2.2.2.2) + (1:Int32)) (Rd_limit q5.2.2.2.2) (Rd_wrongPlace q5.2.2.2.2)) Pg Pt Mk Lk Ck Jd Ld Pr 1 hq6) hP (hDD _ _ _ _ _ _ _ _ _ _ _ _ _) hS hl.1 rfl cw_1 k_3_135 k_3_136 k_3_137 k_1_2 k_3_138 hv_Tx_endString rfl rfl ⟨(Nat.le_of_ble_eq_true rfl), (Nat.le_of_ble_eq_true rfl)⟩ rfl (Nat.le_of_ble_eq_true rfl) ⟨Nat.zero_le _, Nat.zero_le _⟩ rfl d_Rd_readString_45 (fun H locs hP hS => ?_)
    refine lv_iconst (v := (1:Int32)) hx hb d_Rd_readString_48 (by decide) ?_
    cases h
    exact o_rz (v := (1:Int32)) C o_nar1 hP hS d_Rd_readString_49
  replace h := o_ff c8 h
  refine o_in_ c8 ?_
  by_cases c9 : q5.1 = 2
  · replace h := o_tt c9 h
    refine o_ip c9 ?_
    intro H locs ls hP hS hl
    refine lv_iconst (v := (0:Int32)) hx hb d_Rd_readString_81 (by decide) ?_
    cases h
    exact o_rz (v := (0:Int32)) C o_nar0 hP hS d_Rd_readString_82
  replace h := o_ff c9 h
  refine o_in_ c9 ?_
  by_cases c10 : q5.1 = 3
  · replace h := o_tt c10 h
    refine o_ip c10 ?_
    intro H locs ls hP hS hl
    refine lv_aload_n hx hb d_Rd_readString_95 rfl (lv_at hl 0 rfl) ?_
    refine lv_iload hx hb d_Rd_readString_96 (lv_at hl 1 rfl) ?_
    obtain ⟨q7, hq7, h⟩ := o_bd_some h
    refine o_V (st1 := [.int q7.1]) (w1 := (o_cw ad ca 1 Sj q5.2.2.2.1 T1 q7.2 Pg Pt Mk Lk Ck Jd Ld Pr)) hE.1 C (c_Rd_refuse hE l q5.2.2.1 q5.2.2.2.2 Sj q5.2.2.2.1 T1 Pg Pt Mk Lk Ck Jd Ld Pr 1 hq7) hP (hDD _ _ _ _ _ _ _ _ _ _ _ _ _) hS hl.1 rfl cw_23 k_3_48 k_3_50 k_s_4 k_1_3 k_3_51 hv_Rd_refuse rfl rfl ⟨(Nat.le_of_ble_eq_true rfl), (Nat.le_of_ble_eq_true rfl)⟩ rfl (Nat.le_of_ble_eq_true rfl) ⟨Nat.zero_le _, Nat.zero_le _⟩ rfl d_Rd_readString_98 (fun H locs hP hS => ?_)
    obtain ⟨g6, h⟩ := o_gd_some h
    cases h
    exact o_rz C (o_zb_nar g6) hP hS d_Rd_readString_101
  replace h := o_ff c10 h
  refine o_in_ c10 ?_
  intro H locs ls hP hS hl
  refine lv_aload_n hx hb d_Rd_readString_108 rfl (lv_at hl 0 rfl) ?_
  refine lv_aload_n hx hb d_Rd_readString_109 rfl (lv_at hl 0 rfl) ?_
  refine o_get (v := .int (Rd_position q5.2.2.2.2)) C in_Rd hP 23 cw_23 rfl 3 (by decide) k_1_97 rfl rfl d_Rd_readString_110 ?_
  obtain ⟨q8, hq8, h⟩ := o_bd_some h
  refine o_V (st1 := [.int q8.1]) (w1 := (o_cw ad ca 1 Sj q5.2.2.2.1 T1 q8.2 Pg Pt Mk Lk Ck Jd Ld Pr)) hE.1 C (c_Rd_refuse hE l (Rd_position q5.2.2.2.2) q5.2.2.2.2 Sj q5.2.2.2.1 T1 Pg Pt Mk Lk Ck Jd Ld Pr 1 hq8) hP (hDD _ _ _ _ _ _ _ _ _ _ _ _ _) hS hl.1 rfl cw_23 k_3_48 k_3_50 k_s_4 k_1_3 k_3_51 hv_Rd_refuse rfl rfl ⟨(Nat.le_of_ble_eq_true rfl), (Nat.le_of_ble_eq_true rfl)⟩ rfl (Nat.le_of_ble_eq_true rfl) ⟨Nat.zero_le _, Nat.zero_le _⟩ rfl d_Rd_readString_113 (fun H locs hP hS => ?_)
  obtain ⟨g7, h⟩ := o_gd_some h
  cases h
  exact o_rz C (o_zb_nar g7) hP hS d_Rd_readString_116
set_option maxHeartbeats 4000000 in
set_option maxRecDepth 100000 in
theorem w_Rd_readString_j73_1 {E : (Nat → Prop) → State → Heap → Prop} {p : Program} {l : Launch} {e : Env} {s : State} {m : MethodId} {args : Array Value} {below : List Frame} {meth : Method} {c : Code} {D : va_G} {ad kd sd vd xd : Nat → Nat} {ca : Nat → ClassId} {A : Nat → Prop} {Q : State → Prop} (hE : o_EK E kd sd vd xd) (C : o_Cx E p s m args meth c D o_cls (o_tys ca) "SchemaJudge$Reader" b_Rd_readString (some .boolean) 6 cc_Rd_readString A) (hDD : ∀ (rt : Nat) (Sj : SSJ) (T0 : STx) (T1 : STx) (Rd : SRd) (Pg : SPg) (Pt : SPt) (Mk : SMk) (Lk : SLk) (Ck : SCk) (Jd : SJd) (Ld : SLd) (Pr : SPr), va_D A (o_cw ad ca rt Sj T0 T1 Rd Pg Pt Mk Lk Ck Jd Ld Pr)) (n : Nat) (u12_x1 : Int32) (u12_Sj : SSJ) (u12_T0 : STx) (u12_Pg : SPg) (u12_Pt : SPt) (u12_Mk : SMk) (u12_Lk : SLk) (u12_Ck : SCk) (u12_Jd : SJd) (u12_Ld : SLd) (u12_Pr : SPr) (x2 : Int32) (x4 : Int32) (y0 : Int32) (tc : STx) (Rd : SRd) {q : Nat × Int32 × Int32 × STx × SRd} (h : m_Rd_readString_j73 n u12_x1 x2 x4 y0 tc Rd = some q) (h0 : q.1 = 0 → o_At p l e rm_Rd_readString s m args below meth c Q o_cls D A 6 12 [] (o_cw ad ca 12 u12_Sj u12_T0 q.2.2.2.1 q.2.2.2.2 u12_Pg u12_Pt u12_Mk u12_Lk u12_Ck u12_Jd u12_Ld u12_Pr) [(0, .ref (ad 23)), (1, .int u12_x1), (2, .int q.2.1)]) (h1 : q.1 ≠ 0 → (if q.1 = 1 then o_At p l e rm_Rd_readString s m args below meth c Q o_cls D A 6 30 [] (o_cw ad ca 12 u12_Sj u12_T0 q.2.2.2.1 q.2.2.2.2 u12_Pg u12_Pt u12_Mk u12_Lk u12_Ck u12_Jd u12_Ld u12_Pr) [(0, .ref (ad 23)), (1, .int u12_x1)] else if q.1 = 2 then o_At p l e rm_Rd_readString s m args below meth c Q o_cls D A 6 81 [] (o_cw ad ca 12 u12_Sj u12_T0 q.2.2.2.1 q.2.2.2.2 u12_Pg u12_Pt u12_Mk u12_Lk u12_Ck u12_Jd u12_Ld u12_Pr) [] else if q.1 = 3 then o_At p l e rm_Rd_readString s m args below meth c Q o_cls D A 6 95 [] (o_cw ad ca 12 u12_Sj u12_T0 q.2.2.2.1 q.2.2.2.2 u12_Pg u12_Pt u12_Mk u12_Lk u12_Ck u12_Jd u12_Ld u12_Pr) [(0, .ref (ad 23)), (4, .int q.2.2.1)] else o_At p l e rm_Rd_readString s m args below meth c Q o_cls D A 6 108 [] (o_cw ad ca 12 u12_Sj u12_T0 q.2.2.2.1 q.2.2.2.2 u12_Pg u12_Pt u12_Mk u12_Lk u12_Ck u12_Jd u12_Ld u12_Pr) [(0, .ref (ad 23))])) : o_At p l e rm_Rd_readString s m args below meth c Q o_cls D A 6 73 [.int y0] (o_cw ad ca 12 u12_Sj u12_T0 tc Rd u12_Pg u12_Pt u12_Mk u12_Lk u12_Ck u12_Jd u12_Ld u12_Pr) [(0, .ref (ad 23)), (1, .int u12_x1), (2, .int x2), (4, .int x4)] := by
  unfold m_Rd_readString_j73 at h
  intro H locs ls hP hS hl
  have C0 := C
  obtain ⟨hx, hb, -, -, -, hown, hts, hK, -, -⟩ := C0
  refine lv_istore (lv' := [(5, .int y0), (0, .ref (ad 23)), (1, .int u12_x1), (2, .int x2), (4, .int x4)]) hx hb d_Rd_readString_73 hl (by decide) rfl (fun ls hl => ?_)
  refine lv_iload hx hb d_Rd_readString_75 (lv_at hl 0 rfl) ?_
  refine lv_iconst (v := (-1:Int32)) hx hb d_Rd_readString_77 (by decide) ?_
  refine lv_icmp_ne (tgt := 83) hx hb d_Rd_readString_78 (by decide) (fun c4 => ?_) (fun c4 => ?_)
  · replace h := o_ff c4 h
    refine lv_aload_n hx hb d_Rd_readString_83 rfl (lv_at hl 1 rfl) ?_
    refine o_get (v := .ref (ad 12)) C in_Rd hP 23 cw_23 rfl 2 (by decide) k_1_96 rfl rfl d_Rd_readString_84 ?_
    refine lv_iload hx hb d_Rd_readString_87 (lv_at hl 0 rfl) ?_
    obtain ⟨q3, hq3, h⟩ := o_bd_some h
    refine o_V (st1 := [.int q3.1]) (w1 := (o_cw ad ca 12 u12_Sj u12_T0 q3.2 Rd u12_Pg u12_Pt u12_Mk u12_Lk u12_Ck u12_Jd u12_Ld u12_Pr)) hE.1 C (c_Tx_addCharacter_1 hE l y0 tc u12_Sj u12_T0 Rd u12_Pg u12_Pt u12_Mk u12_Lk u12_Ck u12_Jd u12_Ld u12_Pr 12 hq3) hP (hDD _ _ _ _ _ _ _ _ _ _ _ _ _) hS hl.1 rfl cw_12 k_3_182 k_3_183 k_3_184 k_1_2 k_3_185 hv_Tx_addCharacter rfl rfl ⟨(Nat.le_of_ble_eq_true rfl), (Nat.le_of_ble_eq_true rfl)⟩ rfl (Nat.le_of_ble_eq_true rfl) ⟨Nat.zero_le _, Nat.zero_le _⟩ rfl d_Rd_readString_89 (fun H locs hP hS => ?_)
    refine lv_if_ne (tgt := 102) hx hb d_Rd_readString_92 (by decide) (fun c5 => ?_) (fun c5 => ?_)
    · replace h := o_ff c5 h
      obtain ⟨x2_102, ex2_102⟩ : ∃ y : Int32, y = x2 + (1:Int32) := ⟨_, rfl⟩
      replace h := o_nm_at ex2_102 h
      refine lv_iinc (v := x2_102) (lv' := [(2, .int x2_102), (5, .int y0), (0, .ref (ad 23)), (1, .int u12_x1), (4, .int x4)]) hx hb d_Rd_readString_102 hl (k := 3) rfl (by rw [ex2_102]; rfl) (by decide) rfl (fun ls hl => ?_)
      refine lv_goto (tgt := 12) hx hb d_Rd_readString_105 (by decide) ?_
      cases h
      exact h0 rfl _ _ _ hP hS (lv_sub hl [2, 3, 0] rfl)
    · replace h := o_tt c5 h
      cases h
      exact h1 (Nat.succ_ne_zero 2) _ _ _ hP hS (lv_sub hl [1, 4] rfl)
  · replace h := o_tt c4 h
    cases h
    exact h1 (Nat.succ_ne_zero 1) _ _ _ hP hS (lv_sub hl [] rfl)
set_option maxHeartbeats 4000000 in
set_option maxRecDepth 100000 in
theorem w_Rd_readString_b12_1 {E : (Nat → Prop) → State → Heap → Prop} {p : Program} {l : Launch} {e : Env} {s : State} {m : MethodId} {args : Array Value} {below : List Frame} {meth : Method} {c : Code} {D : va_G} {ad kd sd vd xd : Nat → Nat} {ca : Nat → ClassId} {A : Nat → Prop} {Q : State → Prop} (hE : o_EK E kd sd vd xd) (C : o_Cx E p s m args meth c D o_cls (o_tys ca) "SchemaJudge$Reader" b_Rd_readString (some .boolean) 6 cc_Rd_readString A) (hDD : ∀ (rt : Nat) (Sj : SSJ) (T0 : STx) (T1 : STx) (Rd : SRd) (Pg : SPg) (Pt : SPt) (Mk : SMk) (Lk : SLk) (Ck : SCk) (Jd : SJd) (Ld : SLd) (Pr : SPr), va_D A (o_cw ad ca rt Sj T0 T1 Rd Pg Pt Mk Lk Ck Jd Ld Pr)) (n : Nat) (u12_x1 : Int32) (u12_Sj : SSJ) (u12_T0 : STx) (u12_Pg : SPg) (u12_Pt : SPt) (u12_Mk : SMk) (u12_Lk : SLk) (u12_Ck : SCk) (u12_Jd : SJd) (u12_Ld : SLd) (u12_Pr : SPr) (z : Int32 × Int32 × STx × SRd) (q : Nat × Int32 × Int32 × STx × SRd) (h : m_Rd_readString_b12 n u12_x1 z = some q) (h0 : q.1 = 0 → o_At p l e rm_Rd_readString s m args below meth c Q o_cls D A 6 12 [] (o_cw ad ca 12 u12_Sj u12_T0 q.2.2.2.1 q.2.2.2.2 u12_Pg u12_Pt u12_Mk u12_Lk u12_Ck u12_Jd u12_Ld u12_Pr) [(0, .ref (ad 23)), (1, .int u12_x1), (2, .int q.2.1)]) (h1 : q.1 ≠ 0 → (if q.1 = 1 then o_At p l e rm_Rd_readString s m args below meth c Q o_cls D A 6 30 [] (o_cw ad ca 12 u12_Sj u12_T0 q.2.2.2.1 q.2.2.2.2 u12_Pg u12_Pt u12_Mk u12_Lk u12_Ck u12_Jd u12_Ld u12_Pr) [(0, .ref (ad 23)), (1, .int u12_x1)] else if q.1 = 2 then o_At p l e rm_Rd_readString s m args below meth c Q o_cls D A 6 81 [] (o_cw ad ca 12 u12_Sj u12_T0 q.2.2.2.1 q.2.2.2.2 u12_Pg u12_Pt u12_Mk u12_Lk u12_Ck u12_Jd u12_Ld u12_Pr) [] else if q.1 = 3 then o_At p l e rm_Rd_readString s m args below meth c Q o_cls D A 6 95 [] (o_cw ad ca 12 u12_Sj u12_T0 q.2.2.2.1 q.2.2.2.2 u12_Pg u12_Pt u12_Mk u12_Lk u12_Ck u12_Jd u12_Ld u12_Pr) [(0, .ref (ad 23)), (4, .int q.2.2.1)] else o_At p l e rm_Rd_readString s m args below meth c Q o_cls D A 6 108 [] (o_cw ad ca 12 u12_Sj u12_T0 q.2.2.2.1 q.2.2.2.2 u12_Pg u12_Pt u12_Mk u12_Lk u12_Ck u12_Jd u12_Ld u12_Pr) [(0, .ref (ad 23))])) : o_At p l e rm_Rd_readString s m args below meth c Q o_cls D A 6 12 [] (o_cw ad ca 12 u12_Sj u12_T0 z.2.2.1 z.2.2.2 u12_Pg u12_Pt u12_Mk u12_Lk u12_Ck u12_Jd u12_Ld u12_Pr) [(0, .ref (ad 23)), (1, .int u12_x1), (2, .int z.1)] := by
  unfold m_Rd_readString_b12 at h
  intro H locs ls hP hS hl
  have C0 := C
  obtain ⟨hx, hb, -, -, -, hown, hts, hK, -, -⟩ := C0
  refine lv_iload_n hx hb d_Rd_readString_12 rfl (lv_at hl 2 rfl) ?_
  refine lv_sipush (v := (8192:Int32)) hx hb d_Rd_readString_13 (by decide) ?_
  refine lv_icmp_gt (tgt := 108) hx hb d_Rd_readString_16 (by decide) (fun c1 => ?_) (fun c1 => ?_)
  · replace h := o_tt c1 h
    cases h
    exact h1 (Nat.succ_ne_zero 3) _ _ _ hP hS (lv_sub hl [0] rfl)
  · replace h := o_ff c1 h
    refine lv_aload_n hx hb d_Rd_readString_19 rfl (lv_at hl 0 rfl) ?_
    obtain ⟨q1, hq1, h⟩ := o_bd_some h
    refine o_V (st1 := [.int q1]) (w1 := (o_cw ad ca 12 u12_Sj u12_T0 z.2.2.1 z.2.2.2 u12_Pg u12_Pt u12_Mk u12_Lk u12_Ck u12_Jd u12_Ld u12_Pr)) hE.1 C (c_Rd_peek hE l z.2.2.2 u12_Sj u12_T0 z.2.2.1 u12_Pg u12_Pt u12_Mk u12_Lk u12_Ck u12_Jd u12_Ld u12_Pr 12 hq1) hP (hDD _ _ _ _ _ _ _ _ _ _ _ _ _) hS hl.1 rfl cw_23 k_3_38 k_3_40 k_s_3 k_1_3 k_3_41 hv_Rd_peek rfl rfl ⟨(Nat.le_of_ble_eq_true rfl), (Nat.le_of_ble_eq_true rfl)⟩ rfl (Nat.le_of_ble_eq_true rfl) ⟨Nat.zero_le _, Nat.zero_le _⟩ rfl d_Rd_readString_20 (fun H locs hP hS => ?_)
    refine lv_istore_n (lv' := [(3, .int q1), (0, .ref (ad 23)), (1, .int u12_x1), (2, .int z.1)]) hx hb d_Rd_readString_23 rfl hl (by decide) rfl (fun ls hl => ?_)
    refine lv_iload_n hx hb d_Rd_readString_24 rfl (lv_at hl 0 rfl) ?_
    refine lv_bipush (v := (34:Int32)) hx hb d_Rd_readString_25 (by decide) ?_
    refine lv_icmp_ne (tgt := 50) hx hb d_Rd_readString_27 (by decide) (fun c2 => ?_) (fun c2 => ?_)
    · replace h := o_ff c2 h
      refine lv_aload_n hx hb d_Rd_readString_50 rfl (lv_at hl 1 rfl) ?_
      refine o_get (v := .int (Rd_position z.2.2.2)) C in_Rd hP 23 cw_23 rfl 3 (by decide) k_1_97 rfl rfl d_Rd_readString_51 ?_
      refine lv_topi (fun x4_54 ex4_54 => ?_)
      replace h := o_nm_at ex4_54 h
      refine lv_istore (lv' := [(4, .int x4_54), (3, .int q1), (0, .ref (ad 23)), (1, .int u12_x1), (2, .int z.1)]) hx hb d_Rd_readString_54 hl (by decide) rfl (fun ls hl => ?_)
      refine lv_iload_n hx hb d_Rd_readString_56 rfl (lv_at hl 1 rfl) ?_
      refine lv_bipush (v := (92:Int32)) hx hb d_Rd_readString_57 (by decide) ?_
      refine lv_icmp_ne (tgt := 69) hx hb d_Rd_readString_59 (by decide) (fun c3 => ?_) (fun c3 => ?_)
      · replace h := o_ff c3 h
        refine lv_aload_n hx hb d_Rd_readString_69 rfl (lv_at hl 2 rfl) ?_
        obtain ⟨q2, hq2, h⟩ := o_bd_some h
        refine o_V (st1 := [.int q2.1]) (w1 := (o_cw ad ca 12 u12_Sj u12_T0 z.2.2.1 q2.2 u12_Pg u12_Pt u12_Mk u12_Lk u12_Ck u12_Jd u12_Ld u12_Pr)) hE.1 C (c_Rd_readCharacter hE l n z.2.2.2 u12_Sj u12_T0 z.2.2.1 u12_Pg u12_Pt u12_Mk u12_Lk u12_Ck u12_Jd u12_Ld u12_Pr 12 hq2) hP (hDD _ _ _ _ _ _ _ _ _ _ _ _ _) hS hl.1 rfl cw_23 k_3_163 k_3_165 k_s_13 k_1_3 k_3_166 hv_Rd_readCharacter rfl rfl ⟨(Nat.le_of_ble_eq_true rfl), (Nat.le_of_ble_eq_true rfl)⟩ rfl (Nat.le_of_ble_eq_true rfl) ⟨Nat.zero_le _, Nat.zero_le _⟩ rfl d_Rd_readString_70 (fun H locs hP hS => ?_)
        exact w_Rd_readString_j73_1 hE C hDD n u12_x1 u12_Sj u12_T0 u12_Pg u12_Pt u12_Mk u12_Lk u12_Ck u12_Jd u12_Ld u12_Pr z.1 x4_54 q2.1 z.2.2.1 q2.2 h h0 h1 _ _ _ hP hS (lv_sub hl [2, 3, 4, 0] rfl)
      · replace h := o_tt c3 h
        refine lv_aload_n hx hb d_Rd_readString_62 rfl (lv_at hl 2 rfl) ?_
        obtain ⟨q4, hq4, h⟩ := o_bd_some h
        refine o_V (st1 := [.int q4.1]) (w1 := (o_cw ad ca 12 u12_Sj u12_T0 z.2.2.1 q4.2 u12_Pg u12_Pt u12_Mk u12_Lk u12_Ck u12_Jd u12_Ld u12_Pr)) hE.1 C (c_Rd_readEscape hE l n z.2.2.2 u12_Sj u12_T0 z.2.2.1 u12_Pg u12_Pt u12_Mk u12_Lk u12_Ck u12_Jd u12_Ld u12_Pr 12 hq4) hP (hDD _ _ _ _ _ _ _ _ _ _ _ _ _) hS hl.1 rfl cw_23 k_3_139 k_3_141 k_s_10 k_1_3 k_3_142 hv_Rd_readEscape rfl rfl ⟨(Nat.le_of_ble_eq_true rfl), (Nat.le_of_ble_eq_true rfl)⟩ rfl (Nat.le_of_ble_eq_true rfl) ⟨Nat.zero_le _, Nat.zero_le _⟩ rfl d_Rd_readString_63 (fun H locs hP hS => ?_)
        refine lv_goto (tgt := 73) hx hb d_Rd_readString_66 (by decide) ?_
        exact w_Rd_readString_j73_1 hE C hDD n u12_x1 u12_Sj u12_T0 u12_Pg u12_Pt u12_Mk u12_Lk u12_Ck u12_Jd u12_Ld u12_Pr z.1 x4_54 q4.1 z.2.2.1 q4.2 h h0 h1 _ _ _ hP hS (lv_sub hl [2, 3, 4, 0] rfl)
    · replace h := o_tt c2 h
      cases h
      exact h1 (Nat.succ_ne_zero 0) _ _ _ hP hS (lv_sub hl [1, 2] rfl)
set_option maxHeartbeats 4000000 in
set_option maxRecDepth 100000 in
theorem c_Rd_readString_1 {E : (Nat → Prop) → State → Heap → Prop} {D : va_G} {ad kd sd vd xd : Nat → Nat} {ca : Nat → ClassId} (hE : o_EK E kd sd vd xd) (l : Launch) (n : Nat) (x1 : Int32) (tc : STx) (Rd : SRd) (Sj : SSJ) (T0 : STx) (Pg : SPg) (Pt : SPt) (Mk : SMk) (Lk : SLk) (Ck : SCk) (Jd : SJd) (Ld : SLd) (Pr : SPr) {r : Int32 × STx × SRd} (h : m_Rd_readString n x1 tc Rd = some r) : o_Cn E l D o_cls (o_tys ca) y_Rd_readString cc_Rd_readString rm_Rd_readString [.ref (ad 23), .int x1] (o_cw ad ca 12 Sj T0 tc Rd Pg Pt Mk Lk Ck Jd Ld Pr) (o_cw ad ca 12 Sj T0 r.2.1 r.2.2 Pg Pt Mk Lk Ck Jd Ld Pr) (some (.int r.1)) := by
  refine o_Cn_of (by decide) (Nat.le_of_ble_eq_true rfl) ?_
  intro p e s m below meth c A ls C hD hP hS hl
  have hDD : ∀ (rt : Nat) (Sj : SSJ) (T0 : STx) (T1 : STx) (Rd : SRd) (Pg : SPg) (Pt : SPt) (Mk : SMk) (Lk : SLk) (Ck : SCk) (Jd : SJd) (Ld : SLd) (Pr : SPr), va_D A (o_cw ad ca rt Sj T0 T1 Rd Pg Pt Mk Lk Ck Jd Ld Pr) := fun _ _ _ _ _ _ _ _ _ _ _ _ _ => o_D_map hD rfl
  have hl : lv_has ls 6 [(0, .ref (ad 23)), (1, .int x1)] := hl
  unfold m_Rd_readString at h
  have C0 := C
  obtain ⟨hx, hb, -, -, -, hown, hts, hK, -, -⟩ := C0
  refine lv_aload_n hx hb d_Rd_readString_0 rfl (lv_at hl 0 rfl) ?_
  refine lv_dup hx hb d_Rd_readString_1 rfl ?_
  refine o_get (v := .int (Rd_position Rd)) C in_Rd hP 23 cw_23 rfl 3 (by decide) k_1_97 rfl rfl d_Rd_readString_2 ?_
  refine lv_iconst (v := (1:Int32)) hx hb d_Rd_readString_5 (by decide) ?_
  refine lv_iadd hx hb d_Rd_readString_6 ?_
  refine o_put (v := .int ((Rd_position Rd) + (1:Int32))) (ty := .int) (w1 := (o_cw ad ca 12 Sj T0 tc (Rd_mk (Rd_words Rd) (Rd_wordCount Rd) ((Rd_position Rd) + (1:Int32)) (Rd_limit Rd) (Rd_wrongPlace Rd)) Pg Pt Mk Lk Ck Jd Ld Pr)) C in_Rd t_Rd t_Rd_ok n_Rd hP (hDD _ _ _ _ _ _ _ _ _ _ _ _ _) hS 23 cw_23 rfl 3 (by decide) k_1_97 rfl rfl (by decide +kernel) rfl rfl (Nat.le_of_ble_eq_true rfl) rfl d_Rd_readString_7 (fun H locs hP hS => ?_)
  refine lv_iconst (v := (0:Int32)) hx hb d_Rd_readString_10 (by decide) ?_
  refine lv_istore_n (lv' := [(2, .int (0:Int32)), (0, .ref (ad 23)), (1, .int x1)]) hx hb d_Rd_readString_11 rfl hl (by decide) rfl (fun ls hl => ?_)
  obtain ⟨q5, hq5, h⟩ := o_bd_some h
  refine o_sim2 (AH := fun zz => o_At p l e rm_Rd_readString s m _ below meth c _ o_cls D A 6 12 [] (o_cw ad ca 12 Sj T0 zz.2.2.1 zz.2.2.2 Pg Pt Mk Lk Ck Jd Ld Pr) [(0, .ref (ad 23)), (1, .int x1), (2, .int zz.1)]) (AX := fun qq => if qq.1 = 1 then o_At p l e rm_Rd_readString s m _ below meth c _ o_cls D A 6 30 [] (o_cw ad ca 12 Sj T0 qq.2.2.2.1 qq.2.2.2.2 Pg Pt Mk Lk Ck Jd Ld Pr) [(0, .ref (ad 23)), (1, .int x1)] else if qq.1 = 2 then o_At p l e rm_Rd_readString s m _ below meth c _ o_cls D A 6 81 [] (o_cw ad ca 12 Sj T0 qq.2.2.2.1 qq.2.2.2.2 Pg Pt Mk Lk Ck Jd Ld Pr) [] else if qq.1 = 3 then o_At p l e rm_Rd_readString s m _ below meth c _ o_cls D A 6 95 [] (o_cw ad ca 12 Sj T0 qq.2.2.2.1 qq.2.2.2.2 Pg Pt Mk Lk Ck Jd Ld Pr) [(0, .ref (ad 23)), (4, .int qq.2.2.1)] else o_At p l e rm_Rd_readString s m _ below meth c _ o_cls D A 6 108 [] (o_cw ad ca 12 Sj T0 qq.2.2.2.1 qq.2.2.2.2 Pg Pt Mk Lk Ck Jd Ld Pr) [(0, .ref (ad 23))]) (fun zz qq h h0 h1 => w_Rd_readString_b12_1 hE C hDD n x1 Sj T0 Pg Pt Mk Lk Ck Jd Ld Pr zz qq h h0 h1) n _ q5 hq5 ?_ _ _ _ hP hS (lv_sub hl [1, 2, 0] rfl)
  by_cases c8 : q5.1 = 1
  · replace h := o_tt c8 h
    refine o_ip c8 ?_
    intro H locs ls hP hS hl
    refine lv_aload_n hx hb d_Rd_readString_30 rfl (lv_at hl 0 rfl) ?_
    refine lv_dup hx hb d_Rd_readString_31 rfl ?_
    refine o_get (v := .int (Rd_position q5.2.2.2.2)) C in_Rd hP 23 cw_23 rfl 3 (by decide) k_1_97 rfl rfl d_Rd_readString_32 ?_
    refine lv_iconst (v := (1:Int32)) hx hb d_Rd_readString_35 (by decide) ?_
    refine lv_iadd hx hb d_Rd_readString_36 ?_
    refine o_put (v := .int ((Rd_position q5.2.2.2.2) + (1:Int32))) (ty := .int) (w1 := (o_cw ad ca 12 Sj T0 q5.2.2.2.1 (Rd_mk (Rd_words q5.2.2.2.2) (Rd_wordCount q5.2.2.2.2) ((Rd_position q5.2.2.2.2) + (1:Int32)) (Rd_limit q5.2.2.2.2) (Rd_wrongPlace q5.2.2.2.2)) Pg Pt Mk Lk Ck Jd Ld Pr)) C in_Rd t_Rd t_Rd_ok n_Rd hP (hDD _ _ _ _ _ _ _ _ _ _ _ _ _) hS 23 cw_23 rfl 3 (by decide) k_1_97 rfl rfl (by decide +kernel) rfl rfl (Nat.le_of_ble_eq_true rfl) rfl d_Rd_readString_37 (fun H locs hP hS => ?_)
    refine lv_aload_n hx hb d_Rd_readString_40 rfl (lv_at hl 0 rfl) ?_
    refine o_get (v := .ref (ad 12)) C in_Rd hP 23 cw_23 rfl 2 (by decide) k_1_96 rfl rfl d_Rd_readString_41 ?_
    refine lv_iload_n hx hb d_Rd_readString_44 rfl (lv_at hl 1 rfl) ?_
    obtain ⟨q6, hq6, h⟩ := o_bd_some h
    refine o_V (st1 := []) (w1 := (o_cw ad ca 12 Sj T0 q6 (Rd_mk (Rd_words q5.2.2.2.2) (Rd_wordCount q5.2.2.2.2) ((Rd_position q5.2.2.2.2) + (1:Int32)) (Rd_limit q5.2.2.2.2) (Rd_wrongPlace q5.2.2.2.2)) Pg Pt Mk Lk Ck Jd Ld Pr)) hE.1 C (c_Tx_endString_1 hE l x1 q5.2.2.2.1 Sj T0 (Rd_mk (Rd_words q5.2.2.2.2) (Rd_wordCount q5.2.2.2.2) ((Rd_position q5.2.2.2.2) + (1:Int32)) (Rd_limit q5.2.2.2.2) (Rd_wrongPlace q5.2.2.2.2)) Pg Pt Mk Lk Ck Jd Ld Pr 12 hq6) hP (hDD _ _ _ _ _ _ _ _ _ _ _ _ _) hS hl.1 rfl cw_12 k_3_135 k_3_136 k_3_137 k_1_2 k_3_138 hv_Tx_endString rfl rfl ⟨(Nat.le_of_ble_eq_true rfl), (Nat.le_of_ble_eq_true rfl)⟩ rfl (Nat.le_of_ble_eq_true rfl) ⟨Nat.zero_le _, Nat.zero_le _⟩ rfl d_Rd_readString_45 (fun H locs hP hS => ?_)
    refine lv_iconst (v := (1:Int32)) hx hb d_Rd_readString_48 (by decide) ?_
    cases h
    exact o_rz (v := (1:Int32)) C o_nar1 hP hS d_Rd_readString_49
  replace h := o_ff c8 h
  refine o_in_ c8 ?_
  by_cases c9 : q5.1 = 2
  · replace h := o_tt c9 h
    refine o_ip c9 ?_
    intro H locs ls hP hS hl
    refine lv_iconst (v := (0:Int32)) hx hb d_Rd_readString_81 (by decide) ?_
    cases h
    exact o_rz (v := (0:Int32)) C o_nar0 hP hS d_Rd_readString_82
  replace h := o_ff c9 h
  refine o_in_ c9 ?_
  by_cases c10 : q5.1 = 3
  · replace h := o_tt c10 h
    refine o_ip c10 ?_
    intro H locs ls hP hS hl
    refine lv_aload_n hx hb d_Rd_readString_95 rfl (lv_at hl 0 rfl) ?_
    refine lv_iload hx hb d_Rd_readString_96 (lv_at hl 1 rfl) ?_
    obtain ⟨q7, hq7, h⟩ := o_bd_some h
    refine o_V (st1 := [.int q7.1]) (w1 := (o_cw ad ca 12 Sj T0 q5.2.2.2.1 q7.2 Pg Pt Mk Lk Ck Jd Ld Pr)) hE.1 C (c_Rd_refuse hE l q5.2.2.1 q5.2.2.2.2 Sj T0 q5.2.2.2.1 Pg Pt Mk Lk Ck Jd Ld Pr 12 hq7) hP (hDD _ _ _ _ _ _ _ _ _ _ _ _ _) hS hl.1 rfl cw_23 k_3_48 k_3_50 k_s_4 k_1_3 k_3_51 hv_Rd_refuse rfl rfl ⟨(Nat.le_of_ble_eq_true rfl), (Nat.le_of_ble_eq_true rfl)⟩ rfl (Nat.le_of_ble_eq_true rfl) ⟨Nat.zero_le _, Nat.zero_le _⟩ rfl d_Rd_readString_98 (fun H locs hP hS => ?_)
    obtain ⟨g6, h⟩ := o_gd_some h
    cases h
    exact o_rz C (o_zb_nar g6) hP hS d_Rd_readString_101
  replace h := o_ff c10 h
  refine o_in_ c10 ?_
  intro H locs ls hP hS hl
  refine lv_aload_n hx hb d_Rd_readString_108 rfl (lv_at hl 0 rfl) ?_
  refine lv_aload_n hx hb d_Rd_readString_109 rfl (lv_at hl 0 rfl) ?_
  refine o_get (v := .int (Rd_position q5.2.2.2.2)) C in_Rd hP 23 cw_23 rfl 3 (by decide) k_1_97 rfl rfl d_Rd_readString_110 ?_
  obtain ⟨q8, hq8, h⟩ := o_bd_some h
  refine o_V (st1 := [.int q8.1]) (w1 := (o_cw ad ca 12 Sj T0 q5.2.2.2.1 q8.2 Pg Pt Mk Lk Ck Jd Ld Pr)) hE.1 C (c_Rd_refuse hE l (Rd_position q5.2.2.2.2) q5.2.2.2.2 Sj T0 q5.2.2.2.1 Pg Pt Mk Lk Ck Jd Ld Pr 12 hq8) hP (hDD _ _ _ _ _ _ _ _ _ _ _ _ _) hS hl.1 rfl cw_23 k_3_48 k_3_50 k_s_4 k_1_3 k_3_51 hv_Rd_refuse rfl rfl ⟨(Nat.le_of_ble_eq_true rfl), (Nat.le_of_ble_eq_true rfl)⟩ rfl (Nat.le_of_ble_eq_true rfl) ⟨Nat.zero_le _, Nat.zero_le _⟩ rfl d_Rd_readString_113 (fun H locs hP hS => ?_)
  obtain ⟨g7, h⟩ := o_gd_some h
  cases h
  exact o_rz C (o_zb_nar g7) hP hS d_Rd_readString_116
set_option maxHeartbeats 4000000 in
set_option maxRecDepth 100000 in
theorem c_Tx_endParent_0 {E : (Nat → Prop) → State → Heap → Prop} {D : va_G} {ad kd sd vd xd : Nat → Nat} {ca : Nat → ClassId} (hE : o_EK E kd sd vd xd) (l : Launch) (x1 : Int32) (x2 : Int32) (a0 : STx) (Sj : SSJ) (T1 : STx) (Rd : SRd) (Pg : SPg) (Pt : SPt) (Mk : SMk) (Lk : SLk) (Ck : SCk) (Jd : SJd) (Ld : SLd) (Pr : SPr) (rt : Nat) {r : STx} (h : m_Tx_endParent x1 x2 a0 = some r) : o_Cn E l D o_cls (o_tys ca) y_Tx_endParent cc_Tx_endParent rm_Tx_endParent [.ref (ad 1), .int x1, .int x2] (o_cw ad ca rt Sj a0 T1 Rd Pg Pt Mk Lk Ck Jd Ld Pr) (o_cw ad ca rt Sj r T1 Rd Pg Pt Mk Lk Ck Jd Ld Pr) none := by
  refine o_Cn_of (by decide) (Nat.le_of_ble_eq_true rfl) ?_
  intro p e s m below meth c A ls C hD hP hS hl
  have hDD : ∀ (rt : Nat) (Sj : SSJ) (T0 : STx) (T1 : STx) (Rd : SRd) (Pg : SPg) (Pt : SPt) (Mk : SMk) (Lk : SLk) (Ck : SCk) (Jd : SJd) (Ld : SLd) (Pr : SPr), va_D A (o_cw ad ca rt Sj T0 T1 Rd Pg Pt Mk Lk Ck Jd Ld Pr) := fun _ _ _ _ _ _ _ _ _ _ _ _ _ => o_D_map hD rfl
  have hl : lv_has ls 3 [(0, .ref (ad 1)), (1, .int x1), (2, .int x2)] := hl
  unfold m_Tx_endParent at h
  have C0 := C
  obtain ⟨hx, hb, -, -, -, hown, hts, hK, -, -⟩ := C0
  refine lv_iload_n hx hb d_Tx_endParent_0 rfl (lv_at hl 1 rfl) ?_
  refine lv_if_lt (tgt := 29) hx hb d_Tx_endParent_1 (by decide) (fun c1 => ?_) (fun c1 => ?_)
  · replace h := o_tt c1 h
    cases h
    exact o_rv C hP hS d_Tx_endParent_29
  · replace h := o_ff c1 h
    refine lv_iload_n hx hb d_Tx_endParent_4 rfl (lv_at hl 1 rfl) ?_
    refine lv_aload_n hx hb d_Tx_endParent_5 rfl (lv_at hl 0 rfl) ?_
    refine o_get (v := .int (Tx_total a0)) C in_Tx hP 1 cw_1 rfl 10 (by decide) k_1_56 rfl rfl d_Tx_endParent_6 ?_
    refine lv_icmp_ge (tgt := 29) hx hb d_Tx_endParent_9 (by decide) (fun c2 => ?_) (fun c2 => ?_)
    · replace h := o_tt c2 h
      cases h
      exact o_rv C hP hS d_Tx_endParent_29
    · replace h := o_ff c2 h
      refine lv_aload_n hx hb d_Tx_endParent_12 rfl (lv_at hl 0 rfl) ?_
      refine o_get (v := .ref (ad 4)) C in_Tx hP 1 cw_1 rfl 2 (by decide) k_1_48 rfl rfl d_Tx_endParent_13 ?_
      refine lv_iload_n hx hb d_Tx_endParent_16 rfl (lv_at hl 1 rfl) ?_
      refine lv_iload_n hx hb d_Tx_endParent_17 rfl (lv_at hl 2 rfl) ?_
      obtain ⟨g3, h⟩ := o_gd_some h
      refine o_iast (f := (Tx_sizes a0)) (w1 := (o_cw ad ca rt Sj (Tx_mk (Tx_kinds a0) (Tx_places a0) (upd (Tx_sizes a0) x1.toNatClampNeg x2) (Tx_parents a0) (Tx_exponents a0) (Tx_starts a0) (Tx_afters a0) (Tx_slots a0) (Tx_negatives a0) (Tx_cells a0) (Tx_total a0) (Tx_used a0) (Tx_characters a0)) T1 Rd Pg Pt Mk Lk Ck Jd Ld Pr)) C hP (hDD _ _ _ _ _ _ _ _ _ _ _ _ _) hS 4 2 cw_4 rfl g3 rfl d_Tx_endParent_18 (fun H locs hP hS => ?_)
      refine lv_aload_n hx hb d_Tx_endParent_19 rfl (lv_at hl 0 rfl) ?_
      refine o_get (v := .ref (ad 8)) C in_Tx hP 1 cw_1 rfl 6 (by decide) k_1_52 rfl rfl d_Tx_endParent_20 ?_
      refine lv_iload_n hx hb d_Tx_endParent_23 rfl (lv_at hl 1 rfl) ?_
      refine lv_aload_n hx hb d_Tx_endParent_24 rfl (lv_at hl 0 rfl) ?_
      refine o_get (v := .int (Tx_total a0)) C in_Tx hP 1 cw_1 rfl 10 (by decide) k_1_56 rfl rfl d_Tx_endParent_25 ?_
      obtain ⟨g4, h⟩ := o_gd_some h
      refine o_iast (f := (Tx_afters a0)) (w1 := (o_cw ad ca rt Sj (Tx_mk (Tx_kinds a0) (Tx_places a0) (upd (Tx_sizes a0) x1.toNatClampNeg x2) (Tx_parents a0) (Tx_exponents a0) (Tx_starts a0) (upd (Tx_afters a0) x1.toNatClampNeg (Tx_total a0)) (Tx_slots a0) (Tx_negatives a0) (Tx_cells a0) (Tx_total a0) (Tx_used a0) (Tx_characters a0)) T1 Rd Pg Pt Mk Lk Ck Jd Ld Pr)) C hP (hDD _ _ _ _ _ _ _ _ _ _ _ _ _) hS 8 6 cw_8 rfl g4 rfl d_Tx_endParent_28 (fun H locs hP hS => ?_)
      cases h
      exact o_rv C hP hS d_Tx_endParent_29
set_option maxHeartbeats 4000000 in
set_option maxRecDepth 100000 in
theorem c_Tx_endParent_1 {E : (Nat → Prop) → State → Heap → Prop} {D : va_G} {ad kd sd vd xd : Nat → Nat} {ca : Nat → ClassId} (hE : o_EK E kd sd vd xd) (l : Launch) (x1 : Int32) (x2 : Int32) (a0 : STx) (Sj : SSJ) (T0 : STx) (Rd : SRd) (Pg : SPg) (Pt : SPt) (Mk : SMk) (Lk : SLk) (Ck : SCk) (Jd : SJd) (Ld : SLd) (Pr : SPr) (rt : Nat) {r : STx} (h : m_Tx_endParent x1 x2 a0 = some r) : o_Cn E l D o_cls (o_tys ca) y_Tx_endParent cc_Tx_endParent rm_Tx_endParent [.ref (ad 12), .int x1, .int x2] (o_cw ad ca rt Sj T0 a0 Rd Pg Pt Mk Lk Ck Jd Ld Pr) (o_cw ad ca rt Sj T0 r Rd Pg Pt Mk Lk Ck Jd Ld Pr) none := by
  refine o_Cn_of (by decide) (Nat.le_of_ble_eq_true rfl) ?_
  intro p e s m below meth c A ls C hD hP hS hl
  have hDD : ∀ (rt : Nat) (Sj : SSJ) (T0 : STx) (T1 : STx) (Rd : SRd) (Pg : SPg) (Pt : SPt) (Mk : SMk) (Lk : SLk) (Ck : SCk) (Jd : SJd) (Ld : SLd) (Pr : SPr), va_D A (o_cw ad ca rt Sj T0 T1 Rd Pg Pt Mk Lk Ck Jd Ld Pr) := fun _ _ _ _ _ _ _ _ _ _ _ _ _ => o_D_map hD rfl
  have hl : lv_has ls 3 [(0, .ref (ad 12)), (1, .int x1), (2, .int x2)] := hl
  unfold m_Tx_endParent at h
  have C0 := C
  obtain ⟨hx, hb, -, -, -, hown, hts, hK, -, -⟩ := C0
  refine lv_iload_n hx hb d_Tx_endParent_0 rfl (lv_at hl 1 rfl) ?_
  refine lv_if_lt (tgt := 29) hx hb d_Tx_endParent_1 (by decide) (fun c1 => ?_) (fun c1 => ?_)
  · replace h := o_tt c1 h
    cases h
    exact o_rv C hP hS d_Tx_endParent_29
  · replace h := o_ff c1 h
    refine lv_iload_n hx hb d_Tx_endParent_4 rfl (lv_at hl 1 rfl) ?_
    refine lv_aload_n hx hb d_Tx_endParent_5 rfl (lv_at hl 0 rfl) ?_
    refine o_get (v := .int (Tx_total a0)) C in_Tx hP 12 cw_12 rfl 10 (by decide) k_1_56 rfl rfl d_Tx_endParent_6 ?_
    refine lv_icmp_ge (tgt := 29) hx hb d_Tx_endParent_9 (by decide) (fun c2 => ?_) (fun c2 => ?_)
    · replace h := o_tt c2 h
      cases h
      exact o_rv C hP hS d_Tx_endParent_29
    · replace h := o_ff c2 h
      refine lv_aload_n hx hb d_Tx_endParent_12 rfl (lv_at hl 0 rfl) ?_
      refine o_get (v := .ref (ad 15)) C in_Tx hP 12 cw_12 rfl 2 (by decide) k_1_48 rfl rfl d_Tx_endParent_13 ?_
      refine lv_iload_n hx hb d_Tx_endParent_16 rfl (lv_at hl 1 rfl) ?_
      refine lv_iload_n hx hb d_Tx_endParent_17 rfl (lv_at hl 2 rfl) ?_
      obtain ⟨g3, h⟩ := o_gd_some h
      refine o_iast (f := (Tx_sizes a0)) (w1 := (o_cw ad ca rt Sj T0 (Tx_mk (Tx_kinds a0) (Tx_places a0) (upd (Tx_sizes a0) x1.toNatClampNeg x2) (Tx_parents a0) (Tx_exponents a0) (Tx_starts a0) (Tx_afters a0) (Tx_slots a0) (Tx_negatives a0) (Tx_cells a0) (Tx_total a0) (Tx_used a0) (Tx_characters a0)) Rd Pg Pt Mk Lk Ck Jd Ld Pr)) C hP (hDD _ _ _ _ _ _ _ _ _ _ _ _ _) hS 15 12 cw_15 rfl g3 rfl d_Tx_endParent_18 (fun H locs hP hS => ?_)
      refine lv_aload_n hx hb d_Tx_endParent_19 rfl (lv_at hl 0 rfl) ?_
      refine o_get (v := .ref (ad 19)) C in_Tx hP 12 cw_12 rfl 6 (by decide) k_1_52 rfl rfl d_Tx_endParent_20 ?_
      refine lv_iload_n hx hb d_Tx_endParent_23 rfl (lv_at hl 1 rfl) ?_
      refine lv_aload_n hx hb d_Tx_endParent_24 rfl (lv_at hl 0 rfl) ?_
      refine o_get (v := .int (Tx_total a0)) C in_Tx hP 12 cw_12 rfl 10 (by decide) k_1_56 rfl rfl d_Tx_endParent_25 ?_
      obtain ⟨g4, h⟩ := o_gd_some h
      refine o_iast (f := (Tx_afters a0)) (w1 := (o_cw ad ca rt Sj T0 (Tx_mk (Tx_kinds a0) (Tx_places a0) (upd (Tx_sizes a0) x1.toNatClampNeg x2) (Tx_parents a0) (Tx_exponents a0) (Tx_starts a0) (upd (Tx_afters a0) x1.toNatClampNeg (Tx_total a0)) (Tx_slots a0) (Tx_negatives a0) (Tx_cells a0) (Tx_total a0) (Tx_used a0) (Tx_characters a0)) Rd Pg Pt Mk Lk Ck Jd Ld Pr)) C hP (hDD _ _ _ _ _ _ _ _ _ _ _ _ _) hS 19 16 cw_19 rfl g4 rfl d_Tx_endParent_28 (fun H locs hP hS => ?_)
      cases h
      exact o_rv C hP hS d_Tx_endParent_29
set_option maxHeartbeats 4000000 in
set_option maxRecDepth 100000 in
theorem w_Rd_beginName_j31_0 {E : (Nat → Prop) → State → Heap → Prop} {p : Program} {l : Launch} {e : Env} {s : State} {m : MethodId} {args : Array Value} {below : List Frame} {meth : Method} {c : Code} {D : va_G} {ad kd sd vd xd : Nat → Nat} {ca : Nat → ClassId} {A : Nat → Prop} (hE : o_EK E kd sd vd xd) (C : o_Cx E p s m args meth c D o_cls (o_tys ca) "SchemaJudge$Reader" b_Rd_beginName (some .int) 4 cc_Rd_beginName A) (hDD : ∀ (rt : Nat) (Sj : SSJ) (T0 : STx) (T1 : STx) (Rd : SRd) (Pg : SPg) (Pt : SPt) (Mk : SMk) (Lk : SLk) (Ck : SCk) (Jd : SJd) (Ld : SLd) (Pr : SPr), va_D A (o_cw ad ca rt Sj T0 T1 Rd Pg Pt Mk Lk Ck Jd Ld Pr)) (n : Nat) (y0 : Int32) (tc : STx) (Rd : SRd) (Sj : SSJ) (T1 : STx) (Pg : SPg) (Pt : SPt) (Mk : SMk) (Lk : SLk) (Ck : SCk) (Jd : SJd) (Ld : SLd) (Pr : SPr) {r : Int32 × STx × SRd} (h : m_Rd_beginName_j31 n y0 tc Rd = some r) : o_At p l e rm_Rd_beginName s m args below meth c (MQ below (o_Qx D o_cls (some (.int r.1)) (o_cw ad ca 1 Sj r.2.1 T1 r.2.2 Pg Pt Mk Lk Ck Jd Ld Pr) A) args s 0 0 A) o_cls D A 4 31 [.int y0] (o_cw ad ca 1 Sj tc T1 Rd Pg Pt Mk Lk Ck Jd Ld Pr) [(0, .ref (ad 23))] := by
  unfold m_Rd_beginName_j31 at h
  intro H locs ls hP hS hl
  have C0 := C
  obtain ⟨hx, hb, -, -, -, hown, hts, hK, -, -⟩ := C0
  refine lv_istore_n (lv' := [(3, .int y0), (0, .ref (ad 23))]) hx hb d_Rd_beginName_31 rfl hl (by decide) rfl (fun ls hl => ?_)
  refine lv_iload_n hx hb d_Rd_beginName_32 rfl (lv_at hl 0 rfl) ?_
  refine lv_iconst (v := (-1:Int32)) hx hb d_Rd_beginName_33 (by decide) ?_
  refine lv_icmp_ne (tgt := 46) hx hb d_Rd_beginName_34 (by decide) (fun c2 => ?_) (fun c2 => ?_)
  · replace h := o_ff c2 h
    refine lv_iload_n hx hb d_Rd_beginName_46 rfl (lv_at hl 0 rfl) ?_
    cases h
    exact o_ri C hP hS d_Rd_beginName_47
  · replace h := o_tt c2 h
    refine lv_aload_n hx hb d_Rd_beginName_37 rfl (lv_at hl 1 rfl) ?_
    refine lv_aload_n hx hb d_Rd_beginName_38 rfl (lv_at hl 1 rfl) ?_
    refine o_get (v := .int (Rd_position Rd)) C in_Rd hP 23 cw_23 rfl 3 (by decide) k_1_97 rfl rfl d_Rd_beginName_39 ?_
    obtain ⟨q3, hq3, h⟩ := o_bd_some h
    refine o_V (st1 := [.int q3.1]) (w1 := (o_cw ad ca 1 Sj tc T1 q3.2 Pg Pt Mk Lk Ck Jd Ld Pr)) hE.1 C (c_Rd_refuse hE l (Rd_position Rd) Rd Sj tc T1 Pg Pt Mk Lk Ck Jd Ld Pr 1 hq3) hP (hDD _ _ _ _ _ _ _ _ _ _ _ _ _) hS hl.1 rfl cw_23 k_3_48 k_3_50 k_s_4 k_1_3 k_3_51 hv_Rd_refuse rfl rfl ⟨(Nat.le_of_ble_eq_true rfl), (Nat.le_of_ble_eq_true rfl)⟩ rfl (Nat.le_of_ble_eq_true rfl) ⟨Nat.zero_le _, Nat.zero_le _⟩ rfl d_Rd_beginName_42 (fun H locs hP hS => ?_)
    refine lv_pop hx hb d_Rd_beginName_45 rfl ?_
    refine lv_iload_n hx hb d_Rd_beginName_46 rfl (lv_at hl 0 rfl) ?_
    cases h
    exact o_ri C hP hS d_Rd_beginName_47
set_option maxHeartbeats 4000000 in
set_option maxRecDepth 100000 in
theorem c_Rd_beginName_0 {E : (Nat → Prop) → State → Heap → Prop} {D : va_G} {ad kd sd vd xd : Nat → Nat} {ca : Nat → ClassId} (hE : o_EK E kd sd vd xd) (l : Launch) (n : Nat) (x1 : Int32) (x2 : Int32) (tc : STx) (Rd : SRd) (Sj : SSJ) (T1 : STx) (Pg : SPg) (Pt : SPt) (Mk : SMk) (Lk : SLk) (Ck : SCk) (Jd : SJd) (Ld : SLd) (Pr : SPr) {r : Int32 × STx × SRd} (h : m_Rd_beginName n x1 x2 tc Rd = some r) : o_Cn E l D o_cls (o_tys ca) y_Rd_beginName cc_Rd_beginName rm_Rd_beginName [.ref (ad 23), .int x1, .int x2] (o_cw ad ca 1 Sj tc T1 Rd Pg Pt Mk Lk Ck Jd Ld Pr) (o_cw ad ca 1 Sj r.2.1 T1 r.2.2 Pg Pt Mk Lk Ck Jd Ld Pr) (some (.int r.1)) := by
  refine o_Cn_of (by decide) (Nat.le_of_ble_eq_true rfl) ?_
  intro p e s m below meth c A ls C hD hP hS hl
  have hDD : ∀ (rt : Nat) (Sj : SSJ) (T0 : STx) (T1 : STx) (Rd : SRd) (Pg : SPg) (Pt : SPt) (Mk : SMk) (Lk : SLk) (Ck : SCk) (Jd : SJd) (Ld : SLd) (Pr : SPr), va_D A (o_cw ad ca rt Sj T0 T1 Rd Pg Pt Mk Lk Ck Jd Ld Pr) := fun _ _ _ _ _ _ _ _ _ _ _ _ _ => o_D_map hD rfl
  have hl : lv_has ls 4 [(0, .ref (ad 23)), (1, .int x1), (2, .int x2)] := hl
  unfold m_Rd_beginName at h
  have C0 := C
  obtain ⟨hx, hb, -, -, -, hown, hts, hK, -, -⟩ := C0
  refine lv_aload_n hx hb d_Rd_beginName_0 rfl (lv_at hl 0 rfl) ?_
  obtain ⟨q1, hq1, h⟩ := o_bd_some h
  refine o_V (st1 := []) (w1 := (o_cw ad ca 1 Sj tc T1 q1 Pg Pt Mk Lk Ck Jd Ld Pr)) hE.1 C (c_Rd_skipBlanks hE l n Rd Sj tc T1 Pg Pt Mk Lk Ck Jd Ld Pr 1 hq1) hP (hDD _ _ _ _ _ _ _ _ _ _ _ _ _) hS hl.1 rfl cw_23 k_3_34 k_3_36 k_s_2 k_1_3 k_3_37 hv_Rd_skipBlanks rfl rfl ⟨(Nat.le_of_ble_eq_true rfl), (Nat.le_of_ble_eq_true rfl)⟩ rfl (Nat.le_of_ble_eq_true rfl) ⟨Nat.zero_le _, Nat.zero_le _⟩ rfl d_Rd_beginName_1 (fun H locs hP hS => ?_)
  refine lv_aload_n hx hb d_Rd_beginName_4 rfl (lv_at hl 0 rfl) ?_
  obtain ⟨q2, hq2, h⟩ := o_bd_some h
  refine o_V (st1 := [.int q2]) (w1 := (o_cw ad ca 1 Sj tc T1 q1 Pg Pt Mk Lk Ck Jd Ld Pr)) hE.1 C (c_Rd_peek hE l q1 Sj tc T1 Pg Pt Mk Lk Ck Jd Ld Pr 1 hq2) hP (hDD _ _ _ _ _ _ _ _ _ _ _ _ _) hS hl.1 rfl cw_23 k_3_38 k_3_40 k_s_3 k_1_3 k_3_41 hv_Rd_peek rfl rfl ⟨(Nat.le_of_ble_eq_true rfl), (Nat.le_of_ble_eq_true rfl)⟩ rfl (Nat.le_of_ble_eq_true rfl) ⟨Nat.zero_le _, Nat.zero_le _⟩ rfl d_Rd_beginName_5 (fun H locs hP hS => ?_)
  refine lv_bipush (v := (34:Int32)) hx hb d_Rd_beginName_8 (by decide) ?_
  refine lv_icmp_ne (tgt := 30) hx hb d_Rd_beginName_10 (by decide) (fun c1 => ?_) (fun c1 => ?_)
  · replace h := o_ff c1 h
    refine lv_iconst (v := (-1:Int32)) hx hb d_Rd_beginName_30 (by decide) ?_
    exact w_Rd_beginName_j31_0 hE C hDD n (-1:Int32) tc q1 Sj T1 Pg Pt Mk Lk Ck Jd Ld Pr h _ _ _ hP hS (lv_sub hl [0] rfl)
  · replace h := o_tt c1 h
    refine lv_aload_n hx hb d_Rd_beginName_13 rfl (lv_at hl 0 rfl) ?_
    refine o_get (v := .ref (ad 1)) C in_Rd hP 23 cw_23 rfl 2 (by decide) k_1_96 rfl rfl d_Rd_beginName_14 ?_
    refine lv_iconst (v := (4:Int32)) hx hb d_Rd_beginName_17 (by decide) ?_
    refine lv_aload_n hx hb d_Rd_beginName_18 rfl (lv_at hl 0 rfl) ?_
    refine o_get (v := .int (Rd_position q1)) C in_Rd hP 23 cw_23 rfl 3 (by decide) k_1_97 rfl rfl d_Rd_beginName_19 ?_
    refine lv_iload_n hx hb d_Rd_beginName_22 rfl (lv_at hl 1 rfl) ?_
    refine lv_iload_n hx hb d_Rd_beginName_23 rfl (lv_at hl 2 rfl) ?_
    obtain ⟨q4, hq4, h⟩ := o_bd_some h
    refine o_V (st1 := [.int q4.1]) (w1 := (o_cw ad ca 1 Sj q4.2 T1 q1 Pg Pt Mk Lk Ck Jd Ld Pr)) hE.1 C (c_Tx_begin_0 hE l (4:Int32) (Rd_position q1) x1 x2 tc Sj T1 q1 Pg Pt Mk Lk Ck Jd Ld Pr 1 hq4) hP (hDD _ _ _ _ _ _ _ _ _ _ _ _ _) hS hl.1 rfl cw_1 k_3_52 k_3_53 k_3_54 k_1_2 k_3_55 hv_Tx_begin rfl rfl ⟨(Nat.le_of_ble_eq_true rfl), (Nat.le_of_ble_eq_true rfl)⟩ rfl (Nat.le_of_ble_eq_true rfl) ⟨Nat.zero_le _, Nat.zero_le _⟩ rfl d_Rd_beginName_24 (fun H locs hP hS => ?_)
    refine lv_goto (tgt := 31) hx hb d_Rd_beginName_27 (by decide) ?_
    exact w_Rd_beginName_j31_0 hE C hDD n q4.1 q4.2 q1 Sj T1 Pg Pt Mk Lk Ck Jd Ld Pr h _ _ _ hP hS (lv_sub hl [0] rfl)
set_option maxHeartbeats 4000000 in
set_option maxRecDepth 100000 in
theorem w_Rd_beginName_j31_1 {E : (Nat → Prop) → State → Heap → Prop} {p : Program} {l : Launch} {e : Env} {s : State} {m : MethodId} {args : Array Value} {below : List Frame} {meth : Method} {c : Code} {D : va_G} {ad kd sd vd xd : Nat → Nat} {ca : Nat → ClassId} {A : Nat → Prop} (hE : o_EK E kd sd vd xd) (C : o_Cx E p s m args meth c D o_cls (o_tys ca) "SchemaJudge$Reader" b_Rd_beginName (some .int) 4 cc_Rd_beginName A) (hDD : ∀ (rt : Nat) (Sj : SSJ) (T0 : STx) (T1 : STx) (Rd : SRd) (Pg : SPg) (Pt : SPt) (Mk : SMk) (Lk : SLk) (Ck : SCk) (Jd : SJd) (Ld : SLd) (Pr : SPr), va_D A (o_cw ad ca rt Sj T0 T1 Rd Pg Pt Mk Lk Ck Jd Ld Pr)) (n : Nat) (y0 : Int32) (tc : STx) (Rd : SRd) (Sj : SSJ) (T0 : STx) (Pg : SPg) (Pt : SPt) (Mk : SMk) (Lk : SLk) (Ck : SCk) (Jd : SJd) (Ld : SLd) (Pr : SPr) {r : Int32 × STx × SRd} (h : m_Rd_beginName_j31 n y0 tc Rd = some r) : o_At p l e rm_Rd_beginName s m args below meth c (MQ below (o_Qx D o_cls (some (.int r.1)) (o_cw ad ca 12 Sj T0 r.2.1 r.2.2 Pg Pt Mk Lk Ck Jd Ld Pr) A) args s 0 0 A) o_cls D A 4 31 [.int y0] (o_cw ad ca 12 Sj T0 tc Rd Pg Pt Mk Lk Ck Jd Ld Pr) [(0, .ref (ad 23))] := by
  unfold m_Rd_beginName_j31 at h
  intro H locs ls hP hS hl
  have C0 := C
  obtain ⟨hx, hb, -, -, -, hown, hts, hK, -, -⟩ := C0
  refine lv_istore_n (lv' := [(3, .int y0), (0, .ref (ad 23))]) hx hb d_Rd_beginName_31 rfl hl (by decide) rfl (fun ls hl => ?_)
  refine lv_iload_n hx hb d_Rd_beginName_32 rfl (lv_at hl 0 rfl) ?_
  refine lv_iconst (v := (-1:Int32)) hx hb d_Rd_beginName_33 (by decide) ?_
  refine lv_icmp_ne (tgt := 46) hx hb d_Rd_beginName_34 (by decide) (fun c2 => ?_) (fun c2 => ?_)
  · replace h := o_ff c2 h
    refine lv_iload_n hx hb d_Rd_beginName_46 rfl (lv_at hl 0 rfl) ?_
    cases h
    exact o_ri C hP hS d_Rd_beginName_47
  · replace h := o_tt c2 h
    refine lv_aload_n hx hb d_Rd_beginName_37 rfl (lv_at hl 1 rfl) ?_
    refine lv_aload_n hx hb d_Rd_beginName_38 rfl (lv_at hl 1 rfl) ?_
    refine o_get (v := .int (Rd_position Rd)) C in_Rd hP 23 cw_23 rfl 3 (by decide) k_1_97 rfl rfl d_Rd_beginName_39 ?_
    obtain ⟨q3, hq3, h⟩ := o_bd_some h
    refine o_V (st1 := [.int q3.1]) (w1 := (o_cw ad ca 12 Sj T0 tc q3.2 Pg Pt Mk Lk Ck Jd Ld Pr)) hE.1 C (c_Rd_refuse hE l (Rd_position Rd) Rd Sj T0 tc Pg Pt Mk Lk Ck Jd Ld Pr 12 hq3) hP (hDD _ _ _ _ _ _ _ _ _ _ _ _ _) hS hl.1 rfl cw_23 k_3_48 k_3_50 k_s_4 k_1_3 k_3_51 hv_Rd_refuse rfl rfl ⟨(Nat.le_of_ble_eq_true rfl), (Nat.le_of_ble_eq_true rfl)⟩ rfl (Nat.le_of_ble_eq_true rfl) ⟨Nat.zero_le _, Nat.zero_le _⟩ rfl d_Rd_beginName_42 (fun H locs hP hS => ?_)
    refine lv_pop hx hb d_Rd_beginName_45 rfl ?_
    refine lv_iload_n hx hb d_Rd_beginName_46 rfl (lv_at hl 0 rfl) ?_
    cases h
    exact o_ri C hP hS d_Rd_beginName_47
set_option maxHeartbeats 4000000 in
set_option maxRecDepth 100000 in
theorem c_Rd_beginName_1 {E : (Nat → Prop) → State → Heap → Prop} {D : va_G} {ad kd sd vd xd : Nat → Nat} {ca : Nat → ClassId} (hE : o_EK E kd sd vd xd) (l : Launch) (n : Nat) (x1 : Int32) (x2 : Int32) (tc : STx) (Rd : SRd) (Sj : SSJ) (T0 : STx) (Pg : SPg) (Pt : SPt) (Mk : SMk) (Lk : SLk) (Ck : SCk) (Jd : SJd) (Ld : SLd) (Pr : SPr) {r : Int32 × STx × SRd} (h : m_Rd_beginName n x1 x2 tc Rd = some r) : o_Cn E l D o_cls (o_tys ca) y_Rd_beginName cc_Rd_beginName rm_Rd_beginName [.ref (ad 23), .int x1, .int x2] (o_cw ad ca 12 Sj T0 tc Rd Pg Pt Mk Lk Ck Jd Ld Pr) (o_cw ad ca 12 Sj T0 r.2.1 r.2.2 Pg Pt Mk Lk Ck Jd Ld Pr) (some (.int r.1)) := by
  refine o_Cn_of (by decide) (Nat.le_of_ble_eq_true rfl) ?_
  intro p e s m below meth c A ls C hD hP hS hl
  have hDD : ∀ (rt : Nat) (Sj : SSJ) (T0 : STx) (T1 : STx) (Rd : SRd) (Pg : SPg) (Pt : SPt) (Mk : SMk) (Lk : SLk) (Ck : SCk) (Jd : SJd) (Ld : SLd) (Pr : SPr), va_D A (o_cw ad ca rt Sj T0 T1 Rd Pg Pt Mk Lk Ck Jd Ld Pr) := fun _ _ _ _ _ _ _ _ _ _ _ _ _ => o_D_map hD rfl
  have hl : lv_has ls 4 [(0, .ref (ad 23)), (1, .int x1), (2, .int x2)] := hl
  unfold m_Rd_beginName at h
  have C0 := C
  obtain ⟨hx, hb, -, -, -, hown, hts, hK, -, -⟩ := C0
  refine lv_aload_n hx hb d_Rd_beginName_0 rfl (lv_at hl 0 rfl) ?_
  obtain ⟨q1, hq1, h⟩ := o_bd_some h
  refine o_V (st1 := []) (w1 := (o_cw ad ca 12 Sj T0 tc q1 Pg Pt Mk Lk Ck Jd Ld Pr)) hE.1 C (c_Rd_skipBlanks hE l n Rd Sj T0 tc Pg Pt Mk Lk Ck Jd Ld Pr 12 hq1) hP (hDD _ _ _ _ _ _ _ _ _ _ _ _ _) hS hl.1 rfl cw_23 k_3_34 k_3_36 k_s_2 k_1_3 k_3_37 hv_Rd_skipBlanks rfl rfl ⟨(Nat.le_of_ble_eq_true rfl), (Nat.le_of_ble_eq_true rfl)⟩ rfl (Nat.le_of_ble_eq_true rfl) ⟨Nat.zero_le _, Nat.zero_le _⟩ rfl d_Rd_beginName_1 (fun H locs hP hS => ?_)
  refine lv_aload_n hx hb d_Rd_beginName_4 rfl (lv_at hl 0 rfl) ?_
  obtain ⟨q2, hq2, h⟩ := o_bd_some h
  refine o_V (st1 := [.int q2]) (w1 := (o_cw ad ca 12 Sj T0 tc q1 Pg Pt Mk Lk Ck Jd Ld Pr)) hE.1 C (c_Rd_peek hE l q1 Sj T0 tc Pg Pt Mk Lk Ck Jd Ld Pr 12 hq2) hP (hDD _ _ _ _ _ _ _ _ _ _ _ _ _) hS hl.1 rfl cw_23 k_3_38 k_3_40 k_s_3 k_1_3 k_3_41 hv_Rd_peek rfl rfl ⟨(Nat.le_of_ble_eq_true rfl), (Nat.le_of_ble_eq_true rfl)⟩ rfl (Nat.le_of_ble_eq_true rfl) ⟨Nat.zero_le _, Nat.zero_le _⟩ rfl d_Rd_beginName_5 (fun H locs hP hS => ?_)
  refine lv_bipush (v := (34:Int32)) hx hb d_Rd_beginName_8 (by decide) ?_
  refine lv_icmp_ne (tgt := 30) hx hb d_Rd_beginName_10 (by decide) (fun c1 => ?_) (fun c1 => ?_)
  · replace h := o_ff c1 h
    refine lv_iconst (v := (-1:Int32)) hx hb d_Rd_beginName_30 (by decide) ?_
    exact w_Rd_beginName_j31_1 hE C hDD n (-1:Int32) tc q1 Sj T0 Pg Pt Mk Lk Ck Jd Ld Pr h _ _ _ hP hS (lv_sub hl [0] rfl)
  · replace h := o_tt c1 h
    refine lv_aload_n hx hb d_Rd_beginName_13 rfl (lv_at hl 0 rfl) ?_
    refine o_get (v := .ref (ad 12)) C in_Rd hP 23 cw_23 rfl 2 (by decide) k_1_96 rfl rfl d_Rd_beginName_14 ?_
    refine lv_iconst (v := (4:Int32)) hx hb d_Rd_beginName_17 (by decide) ?_
    refine lv_aload_n hx hb d_Rd_beginName_18 rfl (lv_at hl 0 rfl) ?_
    refine o_get (v := .int (Rd_position q1)) C in_Rd hP 23 cw_23 rfl 3 (by decide) k_1_97 rfl rfl d_Rd_beginName_19 ?_
    refine lv_iload_n hx hb d_Rd_beginName_22 rfl (lv_at hl 1 rfl) ?_
    refine lv_iload_n hx hb d_Rd_beginName_23 rfl (lv_at hl 2 rfl) ?_
    obtain ⟨q4, hq4, h⟩ := o_bd_some h
    refine o_V (st1 := [.int q4.1]) (w1 := (o_cw ad ca 12 Sj T0 q4.2 q1 Pg Pt Mk Lk Ck Jd Ld Pr)) hE.1 C (c_Tx_begin_1 hE l (4:Int32) (Rd_position q1) x1 x2 tc Sj T0 q1 Pg Pt Mk Lk Ck Jd Ld Pr 12 hq4) hP (hDD _ _ _ _ _ _ _ _ _ _ _ _ _) hS hl.1 rfl cw_12 k_3_52 k_3_53 k_3_54 k_1_2 k_3_55 hv_Tx_begin rfl rfl ⟨(Nat.le_of_ble_eq_true rfl), (Nat.le_of_ble_eq_true rfl)⟩ rfl (Nat.le_of_ble_eq_true rfl) ⟨Nat.zero_le _, Nat.zero_le _⟩ rfl d_Rd_beginName_24 (fun H locs hP hS => ?_)
    refine lv_goto (tgt := 31) hx hb d_Rd_beginName_27 (by decide) ?_
    exact w_Rd_beginName_j31_1 hE C hDD n q4.1 q4.2 q1 Sj T0 Pg Pt Mk Lk Ck Jd Ld Pr h _ _ _ hP hS (lv_sub hl [0] rfl)
set_option maxHeartbeats 4000000 in
set_option maxRecDepth 100000 in
theorem c_Tx_place_0 {E : (Nat → Prop) → State → Heap → Prop} {D : va_G} {ad kd sd vd xd : Nat → Nat} {ca : Nat → ClassId} (hE : o_EK E kd sd vd xd) (l : Launch) (x1 : Int32) (a0 : STx) (Sj : SSJ) (T1 : STx) (Rd : SRd) (Pg : SPg) (Pt : SPt) (Mk : SMk) (Lk : SLk) (Ck : SCk) (Jd : SJd) (Ld : SLd) (Pr : SPr) (rt : Nat) {r : Int32} (h : m_Tx_place x1 a0 = some r) : o_Cn E l D o_cls (o_tys ca) y_Tx_place cc_Tx_place rm_Tx_place [.ref (ad 1), .int x1] (o_cw ad ca rt Sj a0 T1 Rd Pg Pt Mk Lk Ck Jd Ld Pr) (o_cw ad ca rt Sj a0 T1 Rd Pg Pt Mk Lk Ck Jd Ld Pr) (some (.int r)) := by
  refine o_Cn_of (by decide) (Nat.le_of_ble_eq_true rfl) ?_
  intro p e s m below meth c A ls C hD hP hS hl
  have hDD : ∀ (rt : Nat) (Sj : SSJ) (T0 : STx) (T1 : STx) (Rd : SRd) (Pg : SPg) (Pt : SPt) (Mk : SMk) (Lk : SLk) (Ck : SCk) (Jd : SJd) (Ld : SLd) (Pr : SPr), va_D A (o_cw ad ca rt Sj T0 T1 Rd Pg Pt Mk Lk Ck Jd Ld Pr) := fun _ _ _ _ _ _ _ _ _ _ _ _ _ => o_D_map hD rfl
  have hl : lv_has ls 2 [(0, .ref (ad 1)), (1, .int x1)] := hl
  unfold m_Tx_place at h
  have C0 := C
  obtain ⟨hx, hb, -, -, -, hown, hts, hK, -, -⟩ := C0
  refine lv_iload_n hx hb d_Tx_place_0 rfl (lv_at hl 1 rfl) ?_
  refine lv_if_lt (tgt := 21) hx hb d_Tx_place_1 (by decide) (fun c1 => ?_) (fun c1 => ?_)
  · replace h := o_tt c1 h
    refine lv_iconst (v := (-1:Int32)) hx hb d_Tx_place_21 (by decide) ?_
    cases h
    exact o_ri (v := (-1:Int32)) C hP hS d_Tx_place_22
  · replace h := o_ff c1 h
    refine lv_iload_n hx hb d_Tx_place_4 rfl (lv_at hl 1 rfl) ?_
    refine lv_aload_n hx hb d_Tx_place_5 rfl (lv_at hl 0 rfl) ?_
    refine o_get (v := .int (Tx_total a0)) C in_Tx hP 1 cw_1 rfl 10 (by decide) k_1_56 rfl rfl d_Tx_place_6 ?_
    refine lv_icmp_ge (tgt := 21) hx hb d_Tx_place_9 (by decide) (fun c2 => ?_) (fun c2 => ?_)
    · replace h := o_tt c2 h
      refine lv_iconst (v := (-1:Int32)) hx hb d_Tx_place_21 (by decide) ?_
      cases h
      exact o_ri (v := (-1:Int32)) C hP hS d_Tx_place_22
    · replace h := o_ff c2 h
      refine lv_aload_n hx hb d_Tx_place_12 rfl (lv_at hl 0 rfl) ?_
      refine o_get (v := .ref (ad 3)) C in_Tx hP 1 cw_1 rfl 1 (by decide) k_1_47 rfl rfl d_Tx_place_13 ?_
      refine lv_iload_n hx hb d_Tx_place_16 rfl (lv_at hl 1 rfl) ?_
      obtain ⟨g3, h⟩ := o_gd_some h
      refine o_iald (f := (Tx_places a0)) C hP 3 1 cw_3 rfl g3 d_Tx_place_17 ?_
      refine lv_goto (tgt := 22) hx hb d_Tx_place_18 (by decide) ?_
      cases h
      exact o_ri (v := ((Tx_places a0) x1.toNatClampNeg)) C hP hS d_Tx_place_22
set_option maxHeartbeats 4000000 in
set_option maxRecDepth 100000 in
theorem c_Tx_place_1 {E : (Nat → Prop) → State → Heap → Prop} {D : va_G} {ad kd sd vd xd : Nat → Nat} {ca : Nat → ClassId} (hE : o_EK E kd sd vd xd) (l : Launch) (x1 : Int32) (a0 : STx) (Sj : SSJ) (T0 : STx) (Rd : SRd) (Pg : SPg) (Pt : SPt) (Mk : SMk) (Lk : SLk) (Ck : SCk) (Jd : SJd) (Ld : SLd) (Pr : SPr) (rt : Nat) {r : Int32} (h : m_Tx_place x1 a0 = some r) : o_Cn E l D o_cls (o_tys ca) y_Tx_place cc_Tx_place rm_Tx_place [.ref (ad 12), .int x1] (o_cw ad ca rt Sj T0 a0 Rd Pg Pt Mk Lk Ck Jd Ld Pr) (o_cw ad ca rt Sj T0 a0 Rd Pg Pt Mk Lk Ck Jd Ld Pr) (some (.int r)) := by
  refine o_Cn_of (by decide) (Nat.le_of_ble_eq_true rfl) ?_
  intro p e s m below meth c A ls C hD hP hS hl
  have hDD : ∀ (rt : Nat) (Sj : SSJ) (T0 : STx) (T1 : STx) (Rd : SRd) (Pg : SPg) (Pt : SPt) (Mk : SMk) (Lk : SLk) (Ck : SCk) (Jd : SJd) (Ld : SLd) (Pr : SPr), va_D A (o_cw ad ca rt Sj T0 T1 Rd Pg Pt Mk Lk Ck Jd Ld Pr) := fun _ _ _ _ _ _ _ _ _ _ _ _ _ => o_D_map hD rfl
  have hl : lv_has ls 2 [(0, .ref (ad 12)), (1, .int x1)] := hl
  unfold m_Tx_place at h
  have C0 := C
  obtain ⟨hx, hb, -, -, -, hown, hts, hK, -, -⟩ := C0
  refine lv_iload_n hx hb d_Tx_place_0 rfl (lv_at hl 1 rfl) ?_
  refine lv_if_lt (tgt := 21) hx hb d_Tx_place_1 (by decide) (fun c1 => ?_) (fun c1 => ?_)
  · replace h := o_tt c1 h
    refine lv_iconst (v := (-1:Int32)) hx hb d_Tx_place_21 (by decide) ?_
    cases h
    exact o_ri (v := (-1:Int32)) C hP hS d_Tx_place_22
  · replace h := o_ff c1 h
    refine lv_iload_n hx hb d_Tx_place_4 rfl (lv_at hl 1 rfl) ?_
    refine lv_aload_n hx hb d_Tx_place_5 rfl (lv_at hl 0 rfl) ?_
    refine o_get (v := .int (Tx_total a0)) C in_Tx hP 12 cw_12 rfl 10 (by decide) k_1_56 rfl rfl d_Tx_place_6 ?_
    refine lv_icmp_ge (tgt := 21) hx hb d_Tx_place_9 (by decide) (fun c2 => ?_) (fun c2 => ?_)
    · replace h := o_tt c2 h
      refine lv_iconst (v := (-1:Int32)) hx hb d_Tx_place_21 (by decide) ?_
      cases h
      exact o_ri (v := (-1:Int32)) C hP hS d_Tx_place_22
    · replace h := o_ff c2 h
      refine lv_aload_n hx hb d_Tx_place_12 rfl (lv_at hl 0 rfl) ?_
      refine o_get (v := .ref (ad 14)) C in_Tx hP 12 cw_12 rfl 1 (by decide) k_1_47 rfl rfl d_Tx_place_13 ?_
      refine lv_iload_n hx hb d_Tx_place_16 rfl (lv_at hl 1 rfl) ?_
      obtain ⟨g3, h⟩ := o_gd_some h
      refine o_iald (f := (Tx_places a0)) C hP 14 11 cw_14 rfl g3 d_Tx_place_17 ?_
      refine lv_goto (tgt := 22) hx hb d_Tx_place_18 (by decide) ?_
      cases h
      exact o_ri (v := ((Tx_places a0) x1.toNatClampNeg)) C hP hS d_Tx_place_22
set_option maxHeartbeats 4000000 in
set_option maxRecDepth 100000 in
theorem w_Tx_member_b10_00 {E : (Nat → Prop) → State → Heap → Prop} {p : Program} {l : Launch} {e : Env} {s : State} {m : MethodId} {args : Array Value} {below : List Frame} {meth : Method} {c : Code} {D : va_G} {ad kd sd vd xd : Nat → Nat} {ca : Nat → ClassId} {A : Nat → Prop} {Q : State → Prop} (hE : o_EK E kd sd vd xd) (C : o_Cx E p s m args meth c D o_cls (o_tys ca) "SchemaJudge$Text" b_Tx_member (some .int) 6 cc_Tx_member A) (hDD : ∀ (rt : Nat) (Sj : SSJ) (T0 : STx) (T1 : STx) (Rd : SRd) (Pg : SPg) (Pt : SPt) (Mk : SMk) (Lk : SLk) (Ck : SCk) (Jd : SJd) (Ld : SLd) (Pr : SPr), va_D A (o_cw ad ca rt Sj T0 T1 Rd Pg Pt Mk Lk Ck Jd Ld Pr)) (n : Nat) (u10_x1 : Int32) (u10_x3 : Int32) (u10_a0 : STx) (u10_Sj : SSJ) (u10_T1 : STx) (u10_Rd : SRd) (u10_Pg : SPg) (u10_Pt : SPt) (u10_Mk : SMk) (u10_Lk : SLk) (u10_Ck : SCk) (u10_Jd : SJd) (u10_Ld : SLd) (u10_Pr : SPr) (u10_rt : Nat) (z : Int32 × Int32) (q : Nat × Int32 × Int32) (h : m_Tx_member_b10 n u10_x1 u10_x3 u10_a0 u10_a0 z = some q) (h0 : q.1 = 0 → o_At p l e rm_Tx_member s m args below meth c Q o_cls D A 6 10 [] (o_cw ad ca u10_rt u10_Sj u10_a0 u10_T1 u10_Rd u10_Pg u10_Pt u10_Mk u10_Lk u10_Ck u10_Jd u10_Ld u10_Pr) [(0, .ref (ad 1)), (1, .int u10_x1), (2, .ref (ad 1)), (3, .int u10_x3), (4, .int q.2.1), (5, .int q.2.2)]) (h1 : q.1 ≠ 0 → (if q.1 = 1 then o_At p l e rm_Tx_member s m args below meth c Q o_cls D A 6 33 [] (o_cw ad ca u10_rt u10_Sj u10_a0 u10_T1 u10_Rd u10_Pg u10_Pt u10_Mk u10_Lk u10_Ck u10_Jd u10_Ld u10_Pr) [(4, .int q.2.1)] else o_At p l e rm_Tx_member s m args below meth c Q o_cls D A 6 50 [] (o_cw ad ca u10_rt u10_Sj u10_a0 u10_T1 u10_Rd u10_Pg u10_Pt u10_Mk u10_Lk u10_Ck u10_Jd u10_Ld u10_Pr) [])) : o_At p l e rm_Tx_member s m args below meth c Q o_cls D A 6 10 [] (o_cw ad ca u10_rt u10_Sj u10_a0 u10_T1 u10_Rd u10_Pg u10_Pt u10_Mk u10_Lk u10_Ck u10_Jd u10_Ld u10_Pr) [(0, .ref (ad 1)), (1, .int u10_x1), (2, .ref (ad 1)), (3, .int u10_x3), (4, .int z.1), (5, .int z.2)] := by
  unfold m_Tx_member_b10 at h
  intro H locs ls hP hS hl
  have C0 := C
  obtain ⟨hx, hb, -, -, -, hown, hts, hK, -, -⟩ := C0
  refine lv_iload hx hb d_Tx_member_10 (lv_at hl 5 rfl) ?_
  refine lv_aload_n hx hb d_Tx_member_12 rfl (lv_at hl 0 rfl) ?_
  refine lv_iload_n hx hb d_Tx_member_13 rfl (lv_at hl 1 rfl) ?_
  obtain ⟨q2, hq2, h⟩ := o_bd_some h
  refine o_V (st1 := [.int q2, .int z.2]) (w1 := (o_cw ad ca u10_rt u10_Sj u10_a0 u10_T1 u10_Rd u10_Pg u10_Pt u10_Mk u10_Lk u10_Ck u10_Jd u10_Ld u10_Pr)) hE.1 C (c_Tx_size_0 hE l u10_x1 u10_a0 u10_Sj u10_T1 u10_Rd u10_Pg u10_Pt u10_Mk u10_Lk u10_Ck u10_Jd u10_Ld u10_Pr u10_rt hq2) hP (hDD _ _ _ _ _ _ _ _ _ _ _ _ _) hS hl.1 rfl cw_1 k_3_214 k_3_215 k_3_216 k_1_2 k_3_217 hv_Tx_size rfl rfl ⟨(Nat.le_of_ble_eq_true rfl), (Nat.le_of_ble_eq_true rfl)⟩ rfl (Nat.le_of_ble_eq_true rfl) ⟨Nat.zero_le _, Nat.zero_le _⟩ rfl d_Tx_member_14 (fun H locs hP hS => ?_)
  refine lv_icmp_ge (tgt := 50) hx hb d_Tx_member_17 (by decide) (fun c1 => ?_) (fun c1 => ?_)
  · replace h := o_tt c1 h
    cases h
    exact h1 (Nat.succ_ne_zero 1) _ _ _ hP hS (lv_sub hl [] rfl)
  · replace h := o_ff c1 h
    refine lv_aload_n hx hb d_Tx_member_20 rfl (lv_at hl 0 rfl) ?_
    refine lv_iload hx hb d_Tx_member_21 (lv_at hl 4 rfl) ?_
    refine lv_iconst (v := (1:Int32)) hx hb d_Tx_member_23 (by decide) ?_
    refine lv_isub hx hb d_Tx_member_24 ?_
    refine lv_aload_n hx hb d_Tx_member_25 rfl (lv_at hl 2 rfl) ?_
    refine lv_iload_n hx hb d_Tx_member_26 rfl (lv_at hl 3 rfl) ?_
    obtain ⟨q3, hq3, h⟩ := o_bd_some h
    refine o_S (st1 := [.int q3]) (w1 := (o_cw ad ca u10_rt u10_Sj u10_a0 u10_T1 u10_Rd u10_Pg u10_Pt u10_Mk u10_Lk u10_Ck u10_Jd u10_Ld u10_Pr)) hE.1 C (c_Tx_sameString_00 hE l n (z.1 - (1:Int32)) u10_x3 u10_a0 u10_Sj u10_T1 u10_Rd u10_Pg u10_Pt u10_Mk u10_Lk u10_Ck u10_Jd u10_Ld u10_Pr u10_rt hq3) hP (hDD _ _ _ _ _ _ _ _ _ _ _ _ _) hS hl.1 k_3_218 k_3_219 k_1_2 k_3_220 hs_Tx_sameString rfl rfl ⟨(Nat.le_of_ble_eq_true rfl), (Nat.le_of_ble_eq_true rfl)⟩ rfl (Nat.le_of_ble_eq_true rfl) ⟨Nat.zero_le _, Nat.zero_le _⟩ rfl d_Tx_member_27 (fun H locs hP hS => ?_)
    refine lv_if_eq (tgt := 36) hx hb d_Tx_member_30 (by decide) (fun c2 => ?_) (fun c2 => ?_)
    · replace h := o_tt c2 h
      refine lv_aload_n hx hb d_Tx_member_36 rfl (lv_at hl 0 rfl) ?_
      refine lv_iload hx hb d_Tx_member_37 (lv_at hl 4 rfl) ?_
      obtain ⟨q4, hq4, h⟩ := o_bd_some h
      refine o_V (st1 := [.int q4]) (w1 := (o_cw ad ca u10_rt u10_Sj u10_a0 u10_T1 u10_Rd u10_Pg u10_Pt u10_Mk u10_Lk u10_Ck u10_Jd u10_Ld u10_Pr)) hE.1 C (c_Tx_nextChild_0 hE l z.1 u10_a0 u10_Sj u10_T1 u10_Rd u10_Pg u10_Pt u10_Mk u10_Lk u10_Ck u10_Jd u10_Ld u10_Pr u10_rt hq4) hP (hDD _ _ _ _ _ _ _ _ _ _ _ _ _) hS hl.1 rfl cw_1 k_3_221 k_3_222 k_3_223 k_1_2 k_3_224 hv_Tx_nextChild rfl rfl ⟨(Nat.le_of_ble_eq_true rfl), (Nat.le_of_ble_eq_true rfl)⟩ rfl (Nat.le_of_ble_eq_true rfl) ⟨Nat.zero_le _, Nat.zero_le _⟩ rfl d_Tx_member_39 (fun H locs hP hS => ?_)
      refine lv_istore (lv' := [(4, .int q4), (0, .ref (ad 1)), (1, .int u10_x1), (2, .ref (ad 1)), (3, .int u10_x3), (5, .int z.2)]) hx hb d_Tx_member_42 hl (by decide) rfl (fun ls hl => ?_)
      obtain ⟨x5_44, ex5_44⟩ : ∃ y : Int32, y = z.2 + (1:Int32) := ⟨_, rfl⟩
      replace h := o_nm_at ex5_44 h
      refine lv_iinc (v := x5_44) (lv' := [(5, .int x5_44), (4, .int q4), (0, .ref (ad 1)), (1, .int u10_x1), (2, .ref (ad 1)), (3, .int u10_x3)]) hx hb d_Tx_member_44 hl (k := 5) rfl (by rw [ex5_44]; rfl) (by decide) rfl (fun ls hl => ?_)
      refine lv_goto (tgt := 10) hx hb d_Tx_member_47 (by decide) ?_
      cases h
      exact h0 rfl _ _ _ hP hS (lv_sub hl [2, 3, 4, 5, 1, 0] rfl)
    · replace h := o_ff c2 h
      cases h
      exact h1 (Nat.succ_ne_zero 0) _ _ _ hP hS (lv_sub hl [4] rfl)
set_option maxHeartbeats 4000000 in
set_option maxRecDepth 100000 in
theorem c_Tx_member_00 {E : (Nat → Prop) → State → Heap → Prop} {D : va_G} {ad kd sd vd xd : Nat → Nat} {ca : Nat → ClassId} (hE : o_EK E kd sd vd xd) (l : Launch) (n : Nat) (x1 : Int32) (x3 : Int32) (a0 : STx) (Sj : SSJ) (T1 : STx) (Rd : SRd) (Pg : SPg) (Pt : SPt) (Mk : SMk) (Lk : SLk) (Ck : SCk) (Jd : SJd) (Ld : SLd) (Pr : SPr) (rt : Nat) {r : Int32} (h : m_Tx_member n x1 x3 a0 a0 = some r) : o_Cn E l D o_cls (o_tys ca) y_Tx_member cc_Tx_member rm_Tx_member [.ref (ad 1), .int x1, .ref (ad 1), .int x3] (o_cw ad ca rt Sj a0 T1 Rd Pg Pt Mk Lk Ck Jd Ld Pr) (o_cw ad ca rt Sj a0 T1 Rd Pg Pt Mk Lk Ck Jd Ld Pr) (some (.int r)) := by
  refine o_Cn_of (by decide) (Nat.le_of_ble_eq_true rfl) ?_
  intro p e s m below meth c A ls C hD hP hS hl
  have hDD : ∀ (rt : Nat) (Sj : SSJ) (T0 : STx) (T1 : STx) (Rd : SRd) (Pg : SPg) (Pt : SPt) (Mk : SMk) (Lk : SLk) (Ck : SCk) (Jd : SJd) (Ld : SLd) (Pr : SPr), va_D A (o_cw ad ca rt Sj T0 T1 Rd Pg Pt Mk Lk Ck Jd Ld Pr) := fun _ _ _ _ _ _ _ _ _ _ _ _ _ => o_D_map hD rfl
  have hl : lv_has ls 6 [(0, .ref (ad 1)), (1, .int x1), (2, .ref (ad 1)), (3, .int x3)] := hl
  unfold m_Tx_member at h
  have C0 := C
  obtain ⟨hx, hb, -, -, -, hown, hts, hK, -, -⟩ := C0
  refine lv_aload_n hx hb d_Tx_member_0 rfl (lv_at hl 0 rfl) ?_
  refine lv_iload_n hx hb d_Tx_member_1 rfl (lv_at hl 1 rfl) ?_
  obtain ⟨q1, hq1, h⟩ := o_bd_some h
  refine o_V (st1 := [.int q1]) (w1 := (o_cw ad ca rt Sj a0 T1 Rd Pg Pt Mk Lk Ck Jd Ld Pr)) hE.1 C (c_Tx_firstChild_0 hE l x1 a0 Sj T1 Rd Pg Pt Mk Lk Ck Jd Ld Pr rt hq1) hP (hDD _ _ _ _ _ _ _ _ _ _ _ _ _) hS hl.1 rfl cw_1 k_3_210 k_3_211 k_3_212 k_1_2 k_3_213 hv_Tx_firstChild rfl rfl ⟨(Nat.le_of_ble_eq_true rfl), (Nat.le_of_ble_eq_true rfl)⟩ rfl (Nat.le_of_ble_eq_true rfl) ⟨Nat.zero_le _, Nat.zero_le _⟩ rfl d_Tx_member_2 (fun H locs hP hS => ?_)
  refine lv_istore (lv' := [(4, .int q1), (0, .ref (ad 1)), (1, .int x1), (2, .ref (ad 1)), (3, .int x3)]) hx hb d_Tx_member_5 hl (by decide) rfl (fun ls hl => ?_)
  refine lv_iconst (v := (0:Int32)) hx hb d_Tx_member_7 (by decide) ?_
  refine lv_istore (lv' := [(5, .int (0:Int32)), (4, .int q1), (0, .ref (ad 1)), (1, .int x1), (2, .ref (ad 1)), (3, .int x3)]) hx hb d_Tx_member_8 hl (by decide) rfl (fun ls hl => ?_)
  obtain ⟨q5, hq5, h⟩ := o_bd_some h
  refine o_sim2 (AH := fun zz => o_At p l e rm_Tx_member s m _ below meth c _ o_cls D A 6 10 [] (o_cw ad ca rt Sj a0 T1 Rd Pg Pt Mk Lk Ck Jd Ld Pr) [(0, .ref (ad 1)), (1, .int x1), (2, .ref (ad 1)), (3, .int x3), (4, .int zz.1), (5, .int zz.2)]) (AX := fun qq => if qq.1 = 1 then o_At p l e rm_Tx_member s m _ below meth c _ o_cls D A 6 33 [] (o_cw ad ca rt Sj a0 T1 Rd Pg Pt Mk Lk Ck Jd Ld Pr) [(4, .int qq.2.1)] else o_At p l e rm_Tx_member s m _ below meth c _ o_cls D A 6 50 [] (o_cw ad ca rt Sj a0 T1 Rd Pg Pt Mk Lk Ck Jd Ld Pr) []) (fun zz qq h h0 h1 => w_Tx_member_b10_00 hE C hDD n x1 x3 a0 Sj T1 Rd Pg Pt Mk Lk Ck Jd Ld Pr rt zz qq h h0 h1) n _ q5 hq5 ?_ _ _ _ hP hS (lv_sub hl [2, 3, 4, 5, 1, 0] rfl)
  by_cases c3 : q5.1 = 1
  · replace h := o_tt c3 h
    refine o_ip c3 ?_
    intro H locs ls hP hS hl
    refine lv_iload hx hb d_Tx_member_33 (lv_at hl 0 rfl) ?_
    cases h
    exact o_ri C hP hS d_Tx_member_35
  replace h := o_ff c3 h
  refine o_in_ c3 ?_
  intro H locs ls hP hS hl
  refine lv_iconst (v := (-1:Int32)) hx hb d_Tx_member_50 (by decide) ?_
  cases h
  exact o_ri (v := (-1:Int32)) C hP hS d_Tx_member_51
set_option maxHeartbeats 4000000 in
set_option maxRecDepth 100000 in
theorem c_Rd_endName_0 {E : (Nat → Prop) → State → Heap → Prop} {D : va_G} {ad kd sd vd xd : Nat → Nat} {ca : Nat → ClassId} (hE : o_EK E kd sd vd xd) (l : Launch) (n : Nat) (x1 : Int32) (x2 : Int32) (tc : STx) (Rd : SRd) (Sj : SSJ) (T1 : STx) (Pg : SPg) (Pt : SPt) (Mk : SMk) (Lk : SLk) (Ck : SCk) (Jd : SJd) (Ld : SLd) (Pr : SPr) {r : Int32 × SRd} (h : m_Rd_endName n x1 x2 tc Rd = some r) : o_Cn E l D o_cls (o_tys ca) y_Rd_endName cc_Rd_endName rm_Rd_endName [.ref (ad 23), .int x1, .int x2] (o_cw ad ca 1 Sj tc T1 Rd Pg Pt Mk Lk Ck Jd Ld Pr) (o_cw ad ca 1 Sj tc T1 r.2 Pg Pt Mk Lk Ck Jd Ld Pr) (some (.int r.1)) := by
  refine o_Cn_of (by decide) (Nat.le_of_ble_eq_true rfl) ?_
  intro p e s m below meth c A ls C hD hP hS hl
  have hDD : ∀ (rt : Nat) (Sj : SSJ) (T0 : STx) (T1 : STx) (Rd : SRd) (Pg : SPg) (Pt : SPt) (Mk : SMk) (Lk : SLk) (Ck : SCk) (Jd : SJd) (Ld : SLd) (Pr : SPr), va_D A (o_cw ad ca rt Sj T0 T1 Rd Pg Pt Mk Lk Ck Jd Ld Pr) := fun _ _ _ _ _ _ _ _ _ _ _ _ _ => o_D_map hD rfl
  have hl : lv_has ls 3 [(0, .ref (ad 23)), (1, .int x1), (2, .int x2)] := hl
  unfold m_Rd_endName at h
  have C0 := C
  obtain ⟨hx, hb, -, -, -, hown, hts, hK, -, -⟩ := C0
  refine lv_aload_n hx hb d_Rd_endName_0 rfl (lv_at hl 0 rfl) ?_
  refine o_get (v := .ref (ad 1)) C in_Rd hP 23 cw_23 rfl 2 (by decide) k_1_96 rfl rfl d_Rd_endName_1 ?_
  refine lv_iload_n hx hb d_Rd_endName_4 rfl (lv_at hl 1 rfl) ?_
  refine lv_aload_n hx hb d_Rd_endName_5 rfl (lv_at hl 0 rfl) ?_
  refine o_get (v := .ref (ad 1)) C in_Rd hP 23 cw_23 rfl 2 (by decide) k_1_96 rfl rfl d_Rd_endName_6 ?_
  refine lv_iload_n hx hb d_Rd_endName_9 rfl (lv_at hl 2 rfl) ?_
  obtain ⟨q1, hq1, h⟩ := o_bd_some h
  refine o_V (st1 := [.int q1]) (w1 := (o_cw ad ca 1 Sj tc T1 Rd Pg Pt Mk Lk Ck Jd Ld Pr)) hE.1 C (c_Tx_member_00 hE l n x1 x2 tc Sj T1 Rd Pg Pt Mk Lk Ck Jd Ld Pr 1 hq1) hP (hDD _ _ _ _ _ _ _ _ _ _ _ _ _) hS hl.1 rfl cw_1 k_3_206 k_3_207 k_3_208 k_1_2 k_3_209 hv_Tx_member rfl rfl ⟨(Nat.le_of_ble_eq_true rfl), (Nat.le_of_ble_eq_true rfl)⟩ rfl (Nat.le_of_ble_eq_true rfl) ⟨Nat.zero_le _, Nat.zero_le _⟩ rfl d_Rd_endName_10 (fun H locs hP hS => ?_)
  refine lv_iconst (v := (-1:Int32)) hx hb d_Rd_endName_13 (by decide) ?_
  refine lv_icmp_eq (tgt := 30) hx hb d_Rd_endName_14 (by decide) (fun c1 => ?_) (fun c1 => ?_)
  · replace h := o_tt c1 h
    refine lv_aload_n hx hb d_Rd_endName_30 rfl (lv_at hl 0 rfl) ?_
    obtain ⟨q2, hq2, h⟩ := o_bd_some h
    refine o_V (st1 := []) (w1 := (o_cw ad ca 1 Sj tc T1 q2 Pg Pt Mk Lk Ck Jd Ld Pr)) hE.1 C (c_Rd_skipBlanks hE l n Rd Sj tc T1 Pg Pt Mk Lk Ck Jd Ld Pr 1 hq2) hP (hDD _ _ _ _ _ _ _ _ _ _ _ _ _) hS hl.1 rfl cw_23 k_3_34 k_3_36 k_s_2 k_1_3 k_3_37 hv_Rd_skipBlanks rfl rfl ⟨(Nat.le_of_ble_eq_true rfl), (Nat.le_of_ble_eq_true rfl)⟩ rfl (Nat.le_of_ble_eq_true rfl) ⟨Nat.zero_le _, Nat.zero_le _⟩ rfl d_Rd_endName_31 (fun H locs hP hS => ?_)
    refine lv_aload_n hx hb d_Rd_endName_34 rfl (lv_at hl 0 rfl) ?_
    obtain ⟨q3, hq3, h⟩ := o_bd_some h
    refine o_V (st1 := [.int q3]) (w1 := (o_cw ad ca 1 Sj tc T1 q2 Pg Pt Mk Lk Ck Jd Ld Pr)) hE.1 C (c_Rd_peek hE l q2 Sj tc T1 Pg Pt Mk Lk Ck Jd Ld Pr 1 hq3) hP (hDD _ _ _ _ _ _ _ _ _ _ _ _ _) hS hl.1 rfl cw_23 k_3_38 k_3_40 k_s_3 k_1_3 k_3_41 hv_Rd_peek rfl rfl ⟨(Nat.le_of_ble_eq_true rfl), (Nat.le_of_ble_eq_true rfl)⟩ rfl (Nat.le_of_ble_eq_true rfl) ⟨Nat.zero_le _, Nat.zero_le _⟩ rfl d_Rd_endName_35 (fun H locs hP hS => ?_)
    refine lv_bipush (v := (58:Int32)) hx hb d_Rd_endName_38 (by decide) ?_
    refine lv_icmp_eq (tgt := 52) hx hb d_Rd_endName_40 (by decide) (fun c2 => ?_) (fun c2 => ?_)
    · replace h := o_tt c2 h
      refine lv_aload_n hx hb d_Rd_endName_52 rfl (lv_at hl 0 rfl) ?_
      refine lv_dup hx hb d_Rd_endName_53 rfl ?_
      refine o_get (v := .int (Rd_position q2)) C in_Rd hP 23 cw_23 rfl 3 (by decide) k_1_97 rfl rfl d_Rd_endName_54 ?_
      refine lv_iconst (v := (1:Int32)) hx hb d_Rd_endName_57 (by decide) ?_
      refine lv_iadd hx hb d_Rd_endName_58 ?_
      refine o_put (v := .int ((Rd_position q2) + (1:Int32))) (ty := .int) (w1 := (o_cw ad ca 1 Sj tc T1 (Rd_mk (Rd_words q2) (Rd_wordCount q2) ((Rd_position q2) + (1:Int32)) (Rd_limit q2) (Rd_wrongPlace q2)) Pg Pt Mk Lk Ck Jd Ld Pr)) C in_Rd t_Rd t_Rd_ok n_Rd hP (hDD _ _ _ _ _ _ _ _ _ _ _ _ _) hS 23 cw_23 rfl 3 (by decide) k_1_97 rfl rfl (by decide +kernel) rfl rfl (Nat.le_of_ble_eq_true rfl) rfl d_Rd_endName_59 (fun H locs hP hS => ?_)
      refine lv_iconst (v := (1:Int32)) hx hb d_Rd_endName_62 (by decide) ?_
      cases h
      exact o_rz (v := (1:Int32)) C o_nar1 hP hS d_Rd_endName_63
    · replace h := o_ff c2 h
      refine lv_aload_n hx hb d_Rd_endName_43 rfl (lv_at hl 0 rfl) ?_
      refine lv_aload_n hx hb d_Rd_endName_44 rfl (lv_at hl 0 rfl) ?_
      refine o_get (v := .int (Rd_position q2)) C in_Rd hP 23 cw_23 rfl 3 (by decide) k_1_97 rfl rfl d_Rd_endName_45 ?_
      obtain ⟨q4, hq4, h⟩ := o_bd_some h
      refine o_V (st1 := [.int q4.1]) (w1 := (o_cw ad ca 1 Sj tc T1 q4.2 Pg Pt Mk Lk Ck Jd Ld Pr)) hE.1 C (c_Rd_refuse hE l (Rd_position q2) q2 Sj tc T1 Pg Pt Mk Lk Ck Jd Ld Pr 1 hq4) hP (hDD _ _ _ _ _ _ _ _ _ _ _ _ _) hS hl.1 rfl cw_23 k_3_48 k_3_50 k_s_4 k_1_3 k_3_51 hv_Rd_refuse rfl rfl ⟨(Nat.le_of_ble_eq_true rfl), (Nat.le_of_ble_eq_true rfl)⟩ rfl (Nat.le_of_ble_eq_true rfl) ⟨Nat.zero_le _, Nat.zero_le _⟩ rfl d_Rd_endName_48 (fun H locs hP hS => ?_)
      obtain ⟨g3, h⟩ := o_gd_some h
      cases h
      exact o_rz C (o_zb_nar g3) hP hS d_Rd_endName_51
  · replace h := o_ff c1 h
    refine lv_aload_n hx hb d_Rd_endName_17 rfl (lv_at hl 0 rfl) ?_
    refine lv_aload_n hx hb d_Rd_endName_18 rfl (lv_at hl 0 rfl) ?_
    refine o_get (v := .ref (ad 1)) C in_Rd hP 23 cw_23 rfl 2 (by decide) k_1_96 rfl rfl d_Rd_endName_19 ?_
    refine lv_iload_n hx hb d_Rd_endName_22 rfl (lv_at hl 2 rfl) ?_
    obtain ⟨q5, hq5, h⟩ := o_bd_some h
    refine o_V (st1 := [.int q5, .ref (ad 23)]) (w1 := (o_cw ad ca 1 Sj tc T1 Rd Pg Pt Mk Lk Ck Jd Ld Pr)) hE.1 C (c_Tx_place_0 hE l x2 tc Sj T1 Rd Pg Pt Mk Lk Ck Jd Ld Pr 1 hq5) hP (hDD _ _ _ _ _ _ _ _ _ _ _ _ _) hS hl.1 rfl cw_1 k_3_225 k_3_226 k_3_227 k_1_2 k_3_228 hv_Tx_place rfl rfl ⟨(Nat.le_of_ble_eq_true rfl), (Nat.le_of_ble_eq_true rfl)⟩ rfl (Nat.le_of_ble_eq_true rfl) ⟨Nat.zero_le _, Nat.zero_le _⟩ rfl d_Rd_endName_23 (fun H locs hP hS => ?_)
    obtain ⟨q6, hq6, h⟩ := o_bd_some h
    refine o_V (st1 := [.int q6.1]) (w1 := (o_cw ad ca 1 Sj tc T1 q6.2 Pg Pt Mk Lk Ck Jd Ld Pr)) hE.1 C (c_Rd_refuse hE l q5 Rd Sj tc T1 Pg Pt Mk Lk Ck Jd Ld Pr 1 hq6) hP (hDD _ _ _ _ _ _ _ _ _ _ _ _ _) hS hl.1 rfl cw_23 k_3_48 k_3_50 k_s_4 k_1_3 k_3_51 hv_Rd_refuse rfl rfl ⟨(Nat.le_of_ble_eq_true rfl), (Nat.le_of_ble_eq_true rfl)⟩ rfl (Nat.le_of_ble_eq_true rfl) ⟨Nat.zero_le _, Nat.zero_le _⟩ rfl d_Rd_endName_26 (fun H locs hP hS => ?_)
    obtain ⟨g4, h⟩ := o_gd_some h
    cases h
    exact o_rz C (o_zb_nar g4) hP hS d_Rd_endName_29
set_option maxHeartbeats 4000000 in
set_option maxRecDepth 100000 in
theorem c_Rd_endName_1 {E : (Nat → Prop) → State → Heap → Prop} {D : va_G} {ad kd sd vd xd : Nat → Nat} {ca : Nat → ClassId} (hE : o_EK E kd sd vd xd) (l : Launch) (n : Nat) (x1 : Int32) (x2 : Int32) (tc : STx) (Rd : SRd) (Sj : SSJ) (T0 : STx) (Pg : SPg) (Pt : SPt) (Mk : SMk) (Lk : SLk) (Ck : SCk) (Jd : SJd) (Ld : SLd) (Pr : SPr) {r : Int32 × SRd} (h : m_Rd_endName n x1 x2 tc Rd = some r) : o_Cn E l D o_cls (o_tys ca) y_Rd_endName cc_Rd_endName rm_Rd_endName [.ref (ad 23), .int x1, .int x2] (o_cw ad ca 12 Sj T0 tc Rd Pg Pt Mk Lk Ck Jd Ld Pr) (o_cw ad ca 12 Sj T0 tc r.2 Pg Pt Mk Lk Ck Jd Ld Pr) (some (.int r.1)) := by
  refine o_Cn_of (by decide) (Nat.le_of_ble_eq_true rfl) ?_
  intro p e s m below meth c A ls C hD hP hS hl
  have hDD : ∀ (rt : Nat) (Sj : SSJ) (T0 : STx) (T1 : STx) (Rd : SRd) (Pg : SPg) (Pt : SPt) (Mk : SMk) (Lk : SLk) (Ck : SCk) (Jd : SJd) (Ld : SLd) (Pr : SPr), va_D A (o_cw ad ca rt Sj T0 T1 Rd Pg Pt Mk Lk Ck Jd Ld Pr) := fun _ _ _ _ _ _ _ _ _ _ _ _ _ => o_D_map hD rfl
  have hl : lv_has ls 3 [(0, .ref (ad 23)), (1, .int x1), (2, .int x2)] := hl
  unfold m_Rd_endName at h
  have C0 := C
  obtain ⟨hx, hb, -, -, -, hown, hts, hK, -, -⟩ := C0
  refine lv_aload_n hx hb d_Rd_endName_0 rfl (lv_at hl 0 rfl) ?_
  refine o_get (v := .ref (ad 12)) C in_Rd hP 23 cw_23 rfl 2 (by decide) k_1_96 rfl rfl d_Rd_endName_1 ?_
  refine lv_iload_n hx hb d_Rd_endName_4 rfl (lv_at hl 1 rfl) ?_
  refine lv_aload_n hx hb d_Rd_endName_5 rfl (lv_at hl 0 rfl) ?_
  refine o_get (v := .ref (ad 12)) C in_Rd hP 23 cw_23 rfl 2 (by decide) k_1_96 rfl rfl d_Rd_endName_6 ?_
  refine lv_iload_n hx hb d_Rd_endName_9 rfl (lv_at hl 2 rfl) ?_
  obtain ⟨q1, hq1, h⟩ := o_bd_some h
  refine o_V (st1 := [.int q1]) (w1 := (o_cw ad ca 12 Sj T0 tc Rd Pg Pt Mk Lk Ck Jd Ld Pr)) hE.1 C (c_Tx_member_11 hE l n x1 x2 tc Sj T0 Rd Pg Pt Mk Lk Ck Jd Ld Pr 12 hq1) hP (hDD _ _ _ _ _ _ _ _ _ _ _ _ _) hS hl.1 rfl cw_12 k_3_206 k_3_207 k_3_208 k_1_2 k_3_209 hv_Tx_member rfl rfl ⟨(Nat.le_of_ble_eq_true rfl), (Nat.le_of_ble_eq_true rfl)⟩ rfl (Nat.le_of_ble_eq_true rfl) ⟨Nat.zero_le _, Nat.zero_le _⟩ rfl d_Rd_endName_10 (fun H locs hP hS => ?_)
  refine lv_iconst (v := (-1:Int32)) hx hb d_Rd_endName_13 (by decide) ?_
  refine lv_icmp_eq (tgt := 30) hx hb d_Rd_endName_14 (by decide) (fun c1 => ?_) (fun c1 => ?_)
  · replace h := o_tt c1 h
    refine lv_aload_n hx hb d_Rd_endName_30 rfl (lv_at hl 0 rfl) ?_
    obtain ⟨q2, hq2, h⟩ := o_bd_some h
    refine o_V (st1 := []) (w1 := (o_cw ad ca 12 Sj T0 tc q2 Pg Pt Mk Lk Ck Jd Ld Pr)) hE.1 C (c_Rd_skipBlanks hE l n Rd Sj T0 tc Pg Pt Mk Lk Ck Jd Ld Pr 12 hq2) hP (hDD _ _ _ _ _ _ _ _ _ _ _ _ _) hS hl.1 rfl cw_23 k_3_34 k_3_36 k_s_2 k_1_3 k_3_37 hv_Rd_skipBlanks rfl rfl ⟨(Nat.le_of_ble_eq_true rfl), (Nat.le_of_ble_eq_true rfl)⟩ rfl (Nat.le_of_ble_eq_true rfl) ⟨Nat.zero_le _, Nat.zero_le _⟩ rfl d_Rd_endName_31 (fun H locs hP hS => ?_)
    refine lv_aload_n hx hb d_Rd_endName_34 rfl (lv_at hl 0 rfl) ?_
    obtain ⟨q3, hq3, h⟩ := o_bd_some h
    refine o_V (st1 := [.int q3]) (w1 := (o_cw ad ca 12 Sj T0 tc q2 Pg Pt Mk Lk Ck Jd Ld Pr)) hE.1 C (c_Rd_peek hE l q2 Sj T0 tc Pg Pt Mk Lk Ck Jd Ld Pr 12 hq3) hP (hDD _ _ _ _ _ _ _ _ _ _ _ _ _) hS hl.1 rfl cw_23 k_3_38 k_3_40 k_s_3 k_1_3 k_3_41 hv_Rd_peek rfl rfl ⟨(Nat.le_of_ble_eq_true rfl), (Nat.le_of_ble_eq_true rfl)⟩ rfl (Nat.le_of_ble_eq_true rfl) ⟨Nat.zero_le _, Nat.zero_le _⟩ rfl d_Rd_endName_35 (fun H locs hP hS => ?_)
    refine lv_bipush (v := (58:Int32)) hx hb d_Rd_endName_38 (by decide) ?_
    refine lv_icmp_eq (tgt := 52) hx hb d_Rd_endName_40 (by decide) (fun c2 => ?_) (fun c2 => ?_)
    · replace h := o_tt c2 h
      refine lv_aload_n hx hb d_Rd_endName_52 rfl (lv_at hl 0 rfl) ?_
      refine lv_dup hx hb d_Rd_endName_53 rfl ?_
      refine o_get (v := .int (Rd_position q2)) C in_Rd hP 23 cw_23 rfl 3 (by decide) k_1_97 rfl rfl d_Rd_endName_54 ?_
      refine lv_iconst (v := (1:Int32)) hx hb d_Rd_endName_57 (by decide) ?_
      refine lv_iadd hx hb d_Rd_endName_58 ?_
      refine o_put (v := .int ((Rd_position q2) + (1:Int32))) (ty := .int) (w1 := (o_cw ad ca 12 Sj T0 tc (Rd_mk (Rd_words q2) (Rd_wordCount q2) ((Rd_position q2) + (1:Int32)) (Rd_limit q2) (Rd_wrongPlace q2)) Pg Pt Mk Lk Ck Jd Ld Pr)) C in_Rd t_Rd t_Rd_ok n_Rd hP (hDD _ _ _ _ _ _ _ _ _ _ _ _ _) hS 23 cw_23 rfl 3 (by decide) k_1_97 rfl rfl (by decide +kernel) rfl rfl (Nat.le_of_ble_eq_true rfl) rfl d_Rd_endName_59 (fun H locs hP hS => ?_)
      refine lv_iconst (v := (1:Int32)) hx hb d_Rd_endName_62 (by decide) ?_
      cases h
      exact o_rz (v := (1:Int32)) C o_nar1 hP hS d_Rd_endName_63
    · replace h := o_ff c2 h
      refine lv_aload_n hx hb d_Rd_endName_43 rfl (lv_at hl 0 rfl) ?_
      refine lv_aload_n hx hb d_Rd_endName_44 rfl (lv_at hl 0 rfl) ?_
      refine o_get (v := .int (Rd_position q2)) C in_Rd hP 23 cw_23 rfl 3 (by decide) k_1_97 rfl rfl d_Rd_endName_45 ?_
      obtain ⟨q4, hq4, h⟩ := o_bd_some h
      refine o_V (st1 := [.int q4.1]) (w1 := (o_cw ad ca 12 Sj T0 tc q4.2 Pg Pt Mk Lk Ck Jd Ld Pr)) hE.1 C (c_Rd_refuse hE l (Rd_position q2) q2 Sj T0 tc Pg Pt Mk Lk Ck Jd Ld Pr 12 hq4) hP (hDD _ _ _ _ _ _ _ _ _ _ _ _ _) hS hl.1 rfl cw_23 k_3_48 k_3_50 k_s_4 k_1_3 k_3_51 hv_Rd_refuse rfl rfl ⟨(Nat.le_of_ble_eq_true rfl), (Nat.le_of_ble_eq_true rfl)⟩ rfl (Nat.le_of_ble_eq_true rfl) ⟨Nat.zero_le _, Nat.zero_le _⟩ rfl d_Rd_endName_48 (fun H locs hP hS => ?_)
      obtain ⟨g3, h⟩ := o_gd_some h
      cases h
      exact o_rz C (o_zb_nar g3) hP hS d_Rd_endName_51
  · replace h := o_ff c1 h
    refine lv_aload_n hx hb d_Rd_endName_17 rfl (lv_at hl 0 rfl) ?_
    refine lv_aload_n hx hb d_Rd_endName_18 rfl (lv_at hl 0 rfl) ?_
    refine o_get (v := .ref (ad 12)) C in_Rd hP 23 cw_23 rfl 2 (by decide) k_1_96 rfl rfl d_Rd_endName_19 ?_
    refine lv_iload_n hx hb d_Rd_endName_22 rfl (lv_at hl 2 rfl) ?_
    obtain ⟨q5, hq5, h⟩ := o_bd_some h
    refine o_V (st1 := [.int q5, .ref (ad 23)]) (w1 := (o_cw ad ca 12 Sj T0 tc Rd Pg Pt Mk Lk Ck Jd Ld Pr)) hE.1 C (c_Tx_place_1 hE l x2 tc Sj T0 Rd Pg Pt Mk Lk Ck Jd Ld Pr 12 hq5) hP (hDD _ _ _ _ _ _ _ _ _ _ _ _ _) hS hl.1 rfl cw_12 k_3_225 k_3_226 k_3_227 k_1_2 k_3_228 hv_Tx_place rfl rfl ⟨(Nat.le_of_ble_eq_true rfl), (Nat.le_of_ble_eq_true rfl)⟩ rfl (Nat.le_of_ble_eq_true rfl) ⟨Nat.zero_le _, Nat.zero_le _⟩ rfl d_Rd_endName_23 (fun H locs hP hS => ?_)
    obtain ⟨q6, hq6, h⟩ := o_bd_some h
    refine o_V (st1 := [.int q6.1]) (w1 := (o_cw ad ca 12 Sj T0 tc q6.2 Pg Pt Mk Lk Ck Jd Ld Pr)) hE.1 C (c_Rd_refuse hE l q5 Rd Sj T0 tc Pg Pt Mk Lk Ck Jd Ld Pr 12 hq6) hP (hDD _ _ _ _ _ _ _ _ _ _ _ _ _) hS hl.1 rfl cw_23 k_3_48 k_3_50 k_s_4 k_1_3 k_3_51 hv_Rd_refuse rfl rfl ⟨(Nat.le_of_ble_eq_true rfl), (Nat.le_of_ble_eq_true rfl)⟩ rfl (Nat.le_of_ble_eq_true rfl) ⟨Nat.zero_le _, Nat.zero_le _⟩ rfl d_Rd_endName_26 (fun H locs hP hS => ?_)
    obtain ⟨g4, h⟩ := o_gd_some h
    cases h
    exact o_rz C (o_zb_nar g4) hP hS d_Rd_endName_29
set_option maxHeartbeats 4000000 in
set_option maxRecDepth 100000 in
theorem w_Rd_readObject_j123_0 {E : (Nat → Prop) → State → Heap → Prop} {p : Program} {l : Launch} {e : Env} {s : State} {m : MethodId} {args : Array Value} {below : List Frame} {meth : Method} {c : Code} {D : va_G} {ad kd sd vd xd : Nat → Nat} {ca : Nat → ClassId} {A : Nat → Prop} {Q : State → Prop} (hE : o_EK E kd sd vd xd) (C : o_Cx E p s m args meth c D o_cls (o_tys ca) "SchemaJudge$Reader" b_Rd_readObject (some .boolean) 6 cc_Rd_readObject A) (hDD : ∀ (rt : Nat) (Sj : SSJ) (T0 : STx) (T1 : STx) (Rd : SRd) (Pg : SPg) (Pt : SPt) (Mk : SMk) (Lk : SLk) (Ck : SCk) (Jd : SJd) (Ld : SLd) (Pr : SPr), va_D A (o_cw ad ca rt Sj T0 T1 Rd Pg Pt Mk Lk Ck Jd Ld Pr)) (d : Nat) (rec : Int32 → Int32 → Int32 → STx → SRd → Option (Int32 × STx × SRd)) (hrec : ∀ (x1 : Int32) (x2 : Int32) (x3 : Int32) (tc : STx) (Rd : SRd) (Sj : SSJ) (T1 : STx) (Pg : SPg) (Pt : SPt) (Mk : SMk) (Lk : SLk) (Ck : SCk) (Jd : SJd) (Ld : SLd) (Pr : SPr) (r : Int32 × STx × SRd), rec x1 x2 x3 tc Rd = some r → o_Cn E l D o_cls (o_tys ca) y_Rd_readValue cc_Rd_readValue (rm_Rd_readValue d) [.ref (ad 23), .int x1, .int x2, .int x3] (o_cw ad ca 1 Sj tc T1 Rd Pg Pt Mk Lk Ck Jd Ld Pr) (o_cw ad ca 1 Sj r.2.1 T1 r.2.2 Pg Pt Mk Lk Ck Jd Ld Pr) (some (.int r.1))) (n : Nat) (u37_x1 : Int32) (u37_x2 : Int32) (u37_Sj : SSJ) (u37_T1 : STx) (u37_Pg : SPg) (u37_Pt : SPt) (u37_Mk : SMk) (u37_Lk : SLk) (u37_Ck : SCk) (u37_Jd : SJd) (u37_Ld : SLd) (u37_Pr : SPr) (x3 : Int32) (x5 : Int32) (tc : STx) (Rd : SRd) {q : Nat × Int32 × STx × SRd} (h : m_Rd_readObject_j123 n rec u37_x1 u37_x2 x3 x5 tc Rd = some q) (h0 : q.1 = 0 → o_At p l e (rm_Rd_readObject d) s m args below meth c Q o_cls D A 6 37 [] (o_cw ad ca 1 u37_Sj q.2.2.1 u37_T1 q.2.2.2 u37_Pg u37_Pt u37_Mk u37_Lk u37_Ck u37_Jd u37_Ld u37_Pr) [(0, .ref (ad 23)), (1, .int u37_x1), (2, .int u37_x2), (3, .int q.2.1)]) (h1 : q.1 ≠ 0 → (if q.1 = 1 then o_At p l e (rm_Rd_readObject d) s m args below meth c Q o_cls D A 6 88 [] (o_cw ad ca 1 u37_Sj q.2.2.1 u37_T1 q.2.2.2 u37_Pg u37_Pt u37_Mk u37_Lk u37_Ck u37_Jd u37_Ld u37_Pr) [] else if q.1 = 2 then o_At p l e (rm_Rd_readObject d) s m args below meth c Q o_cls D A 6 114 [] (o_cw ad ca 1 u37_Sj q.2.2.1 u37_T1 q.2.2.2 u37_Pg u37_Pt u37_Mk u37_Lk u37_Ck u37_Jd u37_Ld u37_Pr) [(0, .ref (ad 23))] else if q.1 = 3 then o_At p l e (rm_Rd_readObject d) s m args below meth c Q o_cls D A 6 151 [] (o_cw ad ca 1 u37_Sj q.2.2.1 u37_T1 q.2.2.2 u37_Pg u37_Pt u37_Mk u37_Lk u37_Ck u37_Jd u37_Ld u37_Pr) [] else o_At p l e (rm_Rd_readObject d) s m args below meth c Q o_cls D A 6 159 [] (o_cw ad ca 1 u37_Sj q.2.2.1 u37_T1 q.2.2.2 u37_Pg u37_Pt u37_Mk u37_Lk u37_Ck u37_Jd u37_Ld u37_Pr) [(0, .ref (ad 23))])) : o_At p l e (rm_Rd_readObject d) s m args below meth c Q o_cls D A 6 123 [] (o_cw ad ca 1 u37_Sj tc u37_T1 Rd u37_Pg u37_Pt u37_Mk u37_Lk u37_Ck u37_Jd u37_Ld u37_Pr) [(0, .ref (ad 23)), (1, .int u37_x1), (2, .int u37_x2), (3, .int x3), (5, .int x5)] := by
  unfold m_Rd_readObject_j123 at h
  intro H locs ls hP hS hl
  have C0 := C
  obtain ⟨hx, hb, -, -, -, hown, hts, hK, -, -⟩ := C0
  refine lv_aload_n hx hb d_Rd_readObject_123 rfl (lv_at hl 0 rfl) ?_
  refine lv_dup hx hb d_Rd_readObject_124 rfl ?_
  refine o_get (v := .int (Rd_position Rd)) C in_Rd hP 23 cw_23 rfl 3 (by decide) k_1_97 rfl rfl d_Rd_readObject_125 ?_
  refine lv_iconst (v := (1:Int32)) hx hb d_Rd_readObject_128 (by decide) ?_
  refine lv_iadd hx hb d_Rd_readObject_129 ?_
  refine o_put (v := .int ((Rd_position Rd) + (1:Int32))) (ty := .int) (w1 := (o_cw ad ca 1 u37_Sj tc u37_T1 (Rd_mk (Rd_words Rd) (Rd_wordCount Rd) ((Rd_position Rd) + (1:Int32)) (Rd_limit Rd) (Rd_wrongPlace Rd)) u37_Pg u37_Pt u37_Mk u37_Lk u37_Ck u37_Jd u37_Ld u37_Pr)) C in_Rd t_Rd t_Rd_ok n_Rd hP (hDD _ _ _ _ _ _ _ _ _ _ _ _ _) hS 23 cw_23 rfl 3 (by decide) k_1_97 rfl rfl (by decide +kernel) rfl rfl (Nat.le_of_ble_eq_true rfl) rfl d_Rd_readObject_130 (fun H locs hP hS => ?_)
  refine lv_aload_n hx hb d_Rd_readObject_133 rfl (lv_at hl 0 rfl) ?_
  refine o_get (v := .ref (ad 1)) C in_Rd hP 23 cw_23 rfl 2 (by decide) k_1_96 rfl rfl d_Rd_readObject_134 ?_
  refine lv_iload_n hx hb d_Rd_readObject_137 rfl (lv_at hl 1 rfl) ?_
  refine lv_iload_n hx hb d_Rd_readObject_138 rfl (lv_at hl 3 rfl) ?_
  refine lv_iconst (v := (1:Int32)) hx hb d_Rd_readObject_139 (by decide) ?_
  refine lv_iadd hx hb d_Rd_readObject_140 ?_
  obtain ⟨q9, hq9, h⟩ := o_bd_some h
  refine o_V (st1 := []) (w1 := (o_cw ad ca 1 u37_Sj q9 u37_T1 (Rd_mk (Rd_words Rd) (Rd_wordCount Rd) ((Rd_position Rd) + (1:Int32)) (Rd_limit Rd) (Rd_wrongPlace Rd)) u37_Pg u37_Pt u37_Mk u37_Lk u37_Ck u37_Jd u37_Ld u37_Pr)) hE.1 C (c_Tx_endParent_0 hE l u37_x1 (x3 + (1:Int32)) tc u37_Sj u37_T1 (Rd_mk (Rd_words Rd) (Rd_wordCount Rd) ((Rd_position Rd) + (1:Int32)) (Rd_limit Rd) (Rd_wrongPlace Rd)) u37_Pg u37_Pt u37_Mk u37_Lk u37_Ck u37_Jd u37_Ld u37_Pr 1 hq9) hP (hDD _ _ _ _ _ _ _ _ _ _ _ _ _) hS hl.1 rfl cw_1 k_3_190 k_3_191 k_3_192 k_1_2 k_3_193 hv_Tx_endParent rfl rfl ⟨(by dsimp only [rm_Rd_readObject, rm_Tx_endParent]; omega), (by dsimp only [rm_Rd_readObject, rm_Tx_endParent]; omega)⟩ rfl (Nat.le_of_ble_eq_true rfl) ⟨Nat.zero_le _, Nat.zero_le _⟩ rfl d_Rd_readObject_141 (fun H locs hP hS => ?_)
  refine lv_iload hx hb d_Rd_readObject_144 (lv_at hl 4 rfl) ?_
  refine lv_bipush (v := (125:Int32)) hx hb d_Rd_readObject_146 (by decide) ?_
  refine lv_icmp_ne (tgt := 153) hx hb d_Rd_readObject_148 (by decide) (fun c8 => ?_) (fun c8 => ?_)
  · replace h := o_ff c8 h
    obtain ⟨x3_153, ex3_153⟩ : ∃ y : Int32, y = x3 + (1:Int32) := ⟨_, rfl⟩
    replace h := o_nm_at ex3_153 h
    refine lv_iinc (v := x3_153) (lv' := [(3, .int x3_153), (0, .ref (ad 23)), (1, .int u37_x1), (2, .int u37_x2), (5, .int x5)]) hx hb d_Rd_readObject_153 hl (k := 3) rfl (by rw [ex3_153]; rfl) (by decide) rfl (fun ls hl => ?_)
    refine lv_goto (tgt := 37) hx hb d_Rd_readObject_156 (by decide) ?_
    cases h
    exact h0 rfl _ _ _ hP hS (lv_sub hl [1, 2, 3, 0] rfl)
  · replace h := o_tt c8 h
    cases h
    exact h1 (Nat.succ_ne_zero 2) _ _ _ hP hS (lv_sub hl [] rfl)
set_option maxHeartbeats 4000000 in
set_option maxRecDepth 100000 in
theorem w_Rd_readObject_b37_0 {E : (Nat → Prop) → State → Heap → Prop} {p : Program} {l : Launch} {e : Env} {s : State} {m : MethodId} {args : Array Value} {below : List Frame} {meth : Method} {c : Code} {D : va_G} {ad kd sd vd xd : Nat → Nat} {ca : Nat → ClassId} {A : Nat → Prop} {Q : State → Prop} (hE : o_EK E kd sd vd xd) (C : o_Cx E p s m args meth c D o_cls (o_tys ca) "SchemaJudge$Reader" b_Rd_readObject (some .boolean) 6 cc_Rd_readObject A) (hDD : ∀ (rt : Nat) (Sj : SSJ) (T0 : STx) (T1 : STx) (Rd : SRd) (Pg : SPg) (Pt : SPt) (Mk : SMk) (Lk : SLk) (Ck : SCk) (Jd : SJd) (Ld : SLd) (Pr : SPr), va_D A (o_cw ad ca rt Sj T0 T1 Rd Pg Pt Mk Lk Ck Jd Ld Pr)) (d : Nat) (rec : Int32 → Int32 → Int32 → STx → SRd → Option (Int32 × STx × SRd)) (hrec : ∀ (x1 : Int32) (x2 : Int32) (x3 : Int32) (tc : STx) (Rd : SRd) (Sj : SSJ) (T1 : STx) (Pg : SPg) (Pt : SPt) (Mk : SMk) (Lk : SLk) (Ck : SCk) (Jd : SJd) (Ld : SLd) (Pr : SPr) (r : Int32 × STx × SRd), rec x1 x2 x3 tc Rd = some r → o_Cn E l D o_cls (o_tys ca) y_Rd_readValue cc_Rd_readValue (rm_Rd_readValue d) [.ref (ad 23), .int x1, .int x2, .int x3] (o_cw ad ca 1 Sj tc T1 Rd Pg Pt Mk Lk Ck Jd Ld Pr) (o_cw ad ca 1 Sj r.2.1 T1 r.2.2 Pg Pt Mk Lk Ck Jd Ld Pr) (some (.int r.1))) (n : Nat) (u37_x1 : Int32) (u37_x2 : Int32) (u37_Sj : SSJ) (u37_T1 : STx) (u37_Pg : SPg) (u37_Pt : SPt) (u37_Mk : SMk) (u37_Lk : SLk) (u37_Ck : SCk) (u37_Jd : SJd) (u37_Ld : SLd) (u37_Pr : SPr) (z : Int32 × STx × SRd) (q : Nat × Int32 × STx × SRd) (h : m_Rd_readObject_b37 n rec u37_x1 u37_x2 z = some q) (h0 : q.1 = 0 → o_At p l e (rm_Rd_readObject d) s m args below meth c Q o_cls D A 6 37 [] (o_cw ad ca 1 u37_Sj q.2.2.1 u37_T1 q.2.2.2 u37_Pg u37_Pt u37_Mk u37_Lk u37_Ck u37_Jd u37_Ld u37_Pr) [(0, .ref (ad 23)), (1, .int u37_x1), (2, .int u37_x2), (3, .int q.2.1)]) (h1 : q.1 ≠ 0 → (if q.1 = 1 then o_At p l e (rm_Rd_readObject d) s m args below meth c Q o_cls D A 6 88 [] (o_cw ad ca 1 u37_Sj q.2.2.1 u37_T1 q.2.2.2 u37_Pg u37_Pt u37_Mk u37_Lk u37_Ck u37_Jd u37_Ld u37_Pr) [] else if q.1 = 2 then o_At p l e (rm_Rd_readObject d) s m args below meth c Q o_cls D A 6 114 [] (o_cw ad ca 1 u37_Sj q.2.2.1 u37_T1 q.2.2.2 u37_Pg u37_Pt u37_Mk u37_Lk u37_Ck u37_Jd u37_Ld u37_Pr) [(0, .ref (ad 23))] else if q.1 = 3 then o_At p l e (rm_Rd_readObject d) s m args below meth c Q o_cls D A 6 151 [] (o_cw ad ca 1 u37_Sj q.2.2.1 u37_T1 q.2.2.2 u37_Pg u37_Pt u37_Mk u37_Lk u37_Ck u37_Jd u37_Ld u37_Pr) [] else o_At p l e (rm_Rd_readObject d) s m args below meth c Q o_cls D A 6 159 [] (o_cw ad ca 1 u37_Sj q.2.2.1 u37_T1 q.2.2.2 u37_Pg u37_Pt u37_Mk u37_Lk u37_Ck u37_Jd u37_Ld u37_Pr) [(0, .ref (ad 23))])) : o_At p l e (rm_Rd_readObject d) s m args below meth c Q o_cls D A 6 37 [] (o_cw ad ca 1 u37_Sj z.2.1 u37_T1 z.2.2 u37_Pg u37_Pt u37_Mk u37_Lk u37_Ck u37_Jd u37_Ld u37_Pr) [(0, .ref (ad 23)), (1, .int u37_x1), (2, .int u37_x2), (3, .int z.1)] := by
  unfold m_Rd_readObject_b37 at h
  intro H locs ls hP hS hl
  have C0 := C
  obtain ⟨hx, hb, -, -, -, hown, hts, hK, -, -⟩ := C0
  refine lv_iload_n hx hb d_Rd_readObject_37 rfl (lv_at hl 3 rfl) ?_
  refine lv_bipush (v := (60:Int32)) hx hb d_Rd_readObject_38 (by decide) ?_
  refine lv_icmp_ge (tgt := 159) hx hb d_Rd_readObject_40 (by decide) (fun c2 => ?_) (fun c2 => ?_)
  · replace h := o_tt c2 h
    cases h
    exact h1 (Nat.succ_ne_zero 3) _ _ _ hP hS (lv_sub hl [0] rfl)
  · replace h := o_ff c2 h
    refine lv_aload_n hx hb d_Rd_readObject_43 rfl (lv_at hl 0 rfl) ?_
    refine lv_iload_n hx hb d_Rd_readObject_44 rfl (lv_at hl 1 rfl) ?_
    refine lv_iload_n hx hb d_Rd_readObject_45 rfl (lv_at hl 3 rfl) ?_
    obtain ⟨q3, hq3, h⟩ := o_bd_some h
    refine o_V (st1 := [.int q3.1]) (w1 := (o_cw ad ca 1 u37_Sj q3.2.1 u37_T1 q3.2.2 u37_Pg u37_Pt u37_Mk u37_Lk u37_Ck u37_Jd u37_Ld u37_Pr)) hE.1 C (c_Rd_beginName_0 hE l n u37_x1 z.1 z.2.1 z.2.2 u37_Sj u37_T1 u37_Pg u37_Pt u37_Mk u37_Lk u37_Ck u37_Jd u37_Ld u37_Pr hq3) hP (hDD _ _ _ _ _ _ _ _ _ _ _ _ _) hS hl.1 rfl cw_23 k_3_198 k_3_200 k_s_16 k_1_3 k_3_201 hv_Rd_beginName rfl rfl ⟨(by dsimp only [rm_Rd_readObject, rm_Rd_beginName]; omega), (by dsimp only [rm_Rd_readObject, rm_Rd_beginName]; omega)⟩ rfl (Nat.le_of_ble_eq_true rfl) ⟨Nat.zero_le _, Nat.zero_le _⟩ rfl d_Rd_readObject_46 (fun H locs hP hS => ?_)
    refine lv_istore (lv' := [(4, .int q3.1), (0, .ref (ad 23)), (1, .int u37_x1), (2, .int u37_x2), (3, .int z.1)]) hx hb d_Rd_readObject_49 hl (by decide) rfl (fun ls hl => ?_)
    refine lv_iload hx hb d_Rd_readObject_51 (lv_at hl 0 rfl) ?_
    refine lv_iconst (v := (-1:Int32)) hx hb d_Rd_readObject_53 (by decide) ?_
    refine lv_icmp_eq (tgt := 88) hx hb d_Rd_readObject_54 (by decide) (fun c3 => ?_) (fun c3 => ?_)
    · replace h := o_tt c3 h
      cases h
      exact h1 (Nat.succ_ne_zero 0) _ _ _ hP hS (lv_sub hl [] rfl)
    · replace h := o_ff c3 h
      refine lv_aload_n hx hb d_Rd_readObject_57 rfl (lv_at hl 1 rfl) ?_
      refine lv_iload hx hb d_Rd_readObject_58 (lv_at hl 0 rfl) ?_
      obtain ⟨q4, hq4, h⟩ := o_bd_some h
      refine o_V (st1 := [.int q4.1]) (w1 := (o_cw ad ca 1 u37_Sj q4.2.1 u37_T1 q4.2.2 u37_Pg u37_Pt u37_Mk u37_Lk u37_Ck u37_Jd u37_Ld u37_Pr)) hE.1 C (c_Rd_readString_0 hE l n q3.1 q3.2.1 q3.2.2 u37_Sj u37_T1 u37_Pg u37_Pt u37_Mk u37_Lk u37_Ck u37_Jd u37_Ld u37_Pr hq4) hP (hDD _ _ _ _ _ _ _ _ _ _ _ _ _) hS hl.1 rfl cw_23 k_3_131 k_3_133 k_s_9 k_1_3 k_3_134 hv_Rd_readString rfl rfl ⟨(by dsimp only [rm_Rd_readObject, rm_Rd_readString]; omega), (by dsimp only [rm_Rd_readObject, rm_Rd_readString]; omega)⟩ rfl (Nat.le_of_ble_eq_true rfl) ⟨Nat.zero_le _, Nat.zero_le _⟩ rfl d_Rd_readObject_60 (fun H locs hP hS => ?_)
      refine lv_if_eq (tgt := 88) hx hb d_Rd_readObject_63 (by decide) (fun c4 => ?_) (fun c4 => ?_)
      · replace h := o_tt c4 h
        cases h
        exact h1 (Nat.succ_ne_zero 0) _ _ _ hP hS (lv_sub hl [] rfl)
      · replace h := o_ff c4 h
        refine lv_aload_n hx hb d_Rd_readObject_66 rfl (lv_at hl 1 rfl) ?_
        refine lv_iload_n hx hb d_Rd_readObject_67 rfl (lv_at hl 2 rfl) ?_
        refine lv_iload hx hb d_Rd_readObject_68 (lv_at hl 0 rfl) ?_
        obtain ⟨q5, hq5, h⟩ := o_bd_some h
        refine o_V (st1 := [.int q5.1]) (w1 := (o_cw ad ca 1 u37_Sj q4.2.1 u37_T1 q5.2 u37_Pg u37_Pt u37_Mk u37_Lk u37_Ck u37_Jd u37_Ld u37_Pr)) hE.1 C (c_Rd_endName_0 hE l n u37_x1 q3.1 q4.2.1 q4.2.2 u37_Sj u37_T1 u37_Pg u37_Pt u37_Mk u37_Lk u37_Ck u37_Jd u37_Ld u37_Pr hq5) hP (hDD _ _ _ _ _ _ _ _ _ _ _ _ _) hS hl.1 rfl cw_23 k_3_202 k_3_204 k_s_17 k_1_3 k_3_205 hv_Rd_endName rfl rfl ⟨(by dsimp only [rm_Rd_readObject, rm_Rd_endName]; omega), (by dsimp only [rm_Rd_readObject, rm_Rd_endName]; omega)⟩ rfl (Nat.le_of_ble_eq_true rfl) ⟨Nat.zero_le _, Nat.zero_le _⟩ rfl d_Rd_readObject_70 (fun H locs hP hS => ?_)
        refine lv_if_eq (tgt := 88) hx hb d_Rd_readObject_73 (by decide) (fun c5 => ?_) (fun c5 => ?_)
        · replace h := o_tt c5 h
          cases h
          exact h1 (Nat.succ_ne_zero 0) _ _ _ hP hS (lv_sub hl [] rfl)
        · replace h := o_ff c5 h
          refine lv_aload_n hx hb d_Rd_readObject_76 rfl (lv_at hl 1 rfl) ?_
          refine lv_iload_n hx hb d_Rd_readObject_77 rfl (lv_at hl 2 rfl) ?_
          refine lv_iload_n hx hb d_Rd_readObject_78 rfl (lv_at hl 4 rfl) ?_
          refine lv_iload_n hx hb d_Rd_readObject_79 rfl (lv_at hl 3 rfl) ?_
          refine lv_iconst (v := (1:Int32)) hx hb d_Rd_readObject_80 (by decide) ?_
          refine lv_iadd hx hb d_Rd_readObject_81 ?_
          obtain ⟨q6, hq6, h⟩ := o_bd_some h
          refine o_V (st1 := [.int q6.1]) (w1 := (o_cw ad ca 1 u37_Sj q6.2.1 u37_T1 q6.2.2 u37_Pg u37_Pt u37_Mk u37_Lk u37_Ck u37_Jd u37_Ld u37_Pr)) hE.1 C (hrec u37_x1 z.1 (u37_x2 + (1:Int32)) q4.2.1 q5.2 u37_Sj u37_T1 u37_Pg u37_Pt u37_Mk u37_Lk u37_Ck u37_Jd u37_Ld u37_Pr _ hq6) hP (hDD _ _ _ _ _ _ _ _ _ _ _ _ _) hS hl.1 rfl cw_23 k_3_30 k_3_32 k_s_1 k_1_3 k_3_33 hv_Rd_readValue rfl rfl ⟨(by dsimp only [rm_Rd_readObject, rm_Rd_readValue]; omega), (by dsimp only [rm_Rd_readObject, rm_Rd_readValue]; omega)⟩ rfl (Nat.le_of_ble_eq_true rfl) ⟨Nat.zero_le _, Nat.zero_le _⟩ rfl d_Rd_readObject_82 (fun H locs hP hS => ?_)
          refine lv_if_ne (tgt := 90) hx hb d_Rd_readObject_85 (by decide) (fun c6 => ?_) (fun c6 => ?_)
          · replace h := o_ff c6 h
            refine lv_aload_n hx hb d_Rd_readObject_90 rfl (lv_at hl 1 rfl) ?_
            obtain ⟨q7, hq7, h⟩ := o_bd_some h
            refine o_V (st1 := []) (w1 := (o_cw ad ca 1 u37_Sj q6.2.1 u37_T1 q7 u37_Pg u37_Pt u37_Mk u37_Lk u37_Ck u37_Jd u37_Ld u37_Pr)) hE.1 C (c_Rd_skipBlanks hE l n q6.2.2 u37_Sj q6.2.1 u37_T1 u37_Pg u37_Pt u37_Mk u37_Lk u37_Ck u37_Jd u37_Ld u37_Pr 1 hq7) hP (hDD _ _ _ _ _ _ _ _ _ _ _ _ _) hS hl.1 rfl cw_23 k_3_34 k_3_36 k_s_2 k_1_3 k_3_37 hv_Rd_skipBlanks rfl rfl ⟨(by dsimp only [rm_Rd_readObject, rm_Rd_skipBlanks]; omega), (by dsimp only [rm_Rd_readObject, rm_Rd_skipBlanks]; omega)⟩ rfl (Nat.le_of_ble_eq_true rfl) ⟨Nat.zero_le _, Nat.zero_le _⟩ rfl d_Rd_readObject_91 (fun H locs hP hS => ?_)
            refine lv_aload_n hx hb d_Rd_readObject_94 rfl (lv_at hl 1 rfl) ?_
            obtain ⟨q8, hq8, h⟩ := o_bd_some h
            refine o_V (st1 := [.int q8]) (w1 := (o_cw ad ca 1 u37_Sj q6.2.1 u37_T1 q7 u37_Pg u37_Pt u37_Mk u37_Lk u37_Ck u37_Jd u37_Ld u37_Pr)) hE.1 C (c_Rd_peek hE l q7 u37_Sj q6.2.1 u37_T1 u37_Pg u37_Pt u37_Mk u37_Lk u37_Ck u37_Jd u37_Ld u37_Pr 1 hq8) hP (hDD _ _ _ _ _ _ _ _ _ _ _ _ _) hS hl.1 rfl cw_23 k_3_38 k_3_40 k_s_3 k_1_3 k_3_41 hv_Rd_peek rfl rfl ⟨(by dsimp only [rm_Rd_readObject, rm_Rd_peek]; omega), (by dsimp only [rm_Rd_readObject, rm_Rd_peek]; omega)⟩ rfl (Nat.le_of_ble_eq_true rfl) ⟨Nat.zero_le _, Nat.zero_le _⟩ rfl d_Rd_readObject_95 (fun H locs hP hS => ?_)
            refine lv_istore (lv' := [(5, .int q8), (4, .int q3.1), (0, .ref (ad 23)), (1, .int u37_x1), (2, .int u37_x2), (3, .int z.1)]) hx hb d_Rd_readObject_98 hl (by decide) rfl (fun ls hl => ?_)
            refine lv_iload hx hb d_Rd_readObject_100 (lv_at hl 0 rfl) ?_
            refine lv_bipush (v := (44:Int32)) hx hb d_Rd_readObject_102 (by decide) ?_
            refine lv_icmp_eq (tgt := 123) hx hb d_Rd_readObject_104 (by decide) (fun c7 => ?_) (fun c7 => ?_)
            · replace h := o_tt c7 h
              exact w_Rd_readObject_j123_0 hE C hDD d rec hrec n u37_x1 u37_x2 u37_Sj u37_T1 u37_Pg u37_Pt u37_Mk u37_Lk u37_Ck u37_Jd u37_Ld u37_Pr z.1 q8 q6.2.1 q7 h h0 h1 _ _ _ hP hS (lv_sub hl [2, 3, 4, 5, 0] rfl)
            · replace h := o_ff c7 h
              refine lv_iload hx hb d_Rd_readObject_107 (lv_at hl 0 rfl) ?_
              refine lv_bipush (v := (125:Int32)) hx hb d_Rd_readObject_109 (by decide) ?_
              refine lv_icmp_eq (tgt := 123) hx hb d_Rd_readObject_111 (by decide) (fun c9 => ?_) (fun c9 => ?_)
              · replace h := o_tt c9 h
                exact w_Rd_readObject_j123_0 hE C hDD d rec hrec n u37_x1 u37_x2 u37_Sj u37_T1 u37_Pg u37_Pt u37_Mk u37_Lk u37_Ck u37_Jd u37_Ld u37_Pr z.1 q8 q6.2.1 q7 h h0 h1 _ _ _ hP hS (lv_sub hl [2, 3, 4, 5, 0] rfl)
              · replace h := o_ff c9 h
                cases h
                exact h1 (Nat.succ_ne_zero 1) _ _ _ hP hS (lv_sub hl [2] rfl)
          · replace h := o_tt c6 h
            cases h
            exact h1 (Nat.succ_ne_zero 0) _ _ _ hP hS (lv_sub hl [] rfl)
set_option maxHeartbeats 4000000 in
set_option maxRecDepth 100000 in
theorem c_Rd_readObject_0 {E : (Nat → Prop) → State → Heap → Prop} {D : va_G} {ad kd sd vd xd : Nat → Nat} {ca : Nat → ClassId} (hE : o_EK E kd sd vd xd) (l : Launch) (n : Nat) (d : Nat) (rec : Int32 → Int32 → Int32 → STx → SRd → Option (Int32 × STx × SRd)) (hrec : ∀ (x1 : Int32) (x2 : Int32) (x3 : Int32) (tc : STx) (Rd : SRd) (Sj : SSJ) (T1 : STx) (Pg : SPg) (Pt : SPt) (Mk : SMk) (Lk : SLk) (Ck : SCk) (Jd : SJd) (Ld : SLd) (Pr : SPr) (r : Int32 × STx × SRd), rec x1 x2 x3 tc Rd = some r → o_Cn E l D o_cls (o_tys ca) y_Rd_readValue cc_Rd_readValue (rm_Rd_readValue d) [.ref (ad 23), .int x1, .int x2, .int x3] (o_cw ad ca 1 Sj tc T1 Rd Pg Pt Mk Lk Ck Jd Ld Pr) (o_cw ad ca 1 Sj r.2.1 T1 r.2.2 Pg Pt Mk Lk Ck Jd Ld Pr) (some (.int r.1))) (x1 : Int32) (x2 : Int32) (tc : STx) (Rd : SRd) (Sj : SSJ) (T1 : STx) (Pg : SPg) (Pt : SPt) (Mk : SMk) (Lk : SLk) (Ck : SCk) (Jd : SJd) (Ld : SLd) (Pr : SPr) {r : Int32 × STx × SRd} (h : m_Rd_readObject n rec x1 x2 tc Rd = some r) : o_Cn E l D o_cls (o_tys ca) y_Rd_readObject cc_Rd_readObject (rm_Rd_readObject d) [.ref (ad 23), .int x1, .int x2] (o_cw ad ca 1 Sj tc T1 Rd Pg Pt Mk Lk Ck Jd Ld Pr) (o_cw ad ca 1 Sj r.2.1 T1 r.2.2 Pg Pt Mk Lk Ck Jd Ld Pr) (some (.int r.1)) := by
  refine o_Cn_of (by decide) (Nat.le_of_ble_eq_true rfl) ?_
  intro p e s m below meth c A ls C hD hP hS hl
  have hDD : ∀ (rt : Nat) (Sj : SSJ) (T0 : STx) (T1 : STx) (Rd : SRd) (Pg : SPg) (Pt : SPt) (Mk : SMk) (Lk : SLk) (Ck : SCk) (Jd : SJd) (Ld : SLd) (Pr : SPr), va_D A (o_cw ad ca rt Sj T0 T1 Rd Pg Pt Mk Lk Ck Jd Ld Pr) := fun _ _ _ _ _ _ _ _ _ _ _ _ _ => o_D_map hD rfl
  have hl : lv_has ls 6 [(0, .ref (ad 23)), (1, .int x1), (2, .int x2)] := hl
  unfold m_Rd_readObject at h
  have C0 := C
  obtain ⟨hx, hb, -, -, -, hown, hts, hK, -, -⟩ := C0
  refine lv_aload_n hx hb d_Rd_readObject_0 rfl (lv_at hl 0 rfl) ?_
  refine lv_dup hx hb d_Rd_readObject_1 rfl ?_
  refine o_get (v := .int (Rd_position Rd)) C in_Rd hP 23 cw_23 rfl 3 (by decide) k_1_97 rfl rfl d_Rd_readObject_2 ?_
  refine lv_iconst (v := (1:Int32)) hx hb d_Rd_readObject_5 (by decide) ?_
  refine lv_iadd hx hb d_Rd_readObject_6 ?_
  refine o_put (v := .int ((Rd_position Rd) + (1:Int32))) (ty := .int) (w1 := (o_cw ad ca 1 Sj tc T1 (Rd_mk (Rd_words Rd) (Rd_wordCount Rd) ((Rd_position Rd) + (1:Int32)) (Rd_limit Rd) (Rd_wrongPlace Rd)) Pg Pt Mk Lk Ck Jd Ld Pr)) C in_Rd t_Rd t_Rd_ok n_Rd hP (hDD _ _ _ _ _ _ _ _ _ _ _ _ _) hS 23 cw_23 rfl 3 (by decide) k_1_97 rfl rfl (by decide +kernel) rfl rfl (Nat.le_of_ble_eq_true rfl) rfl d_Rd_readObject_7 (fun H locs hP hS => ?_)
  refine lv_aload_n hx hb d_Rd_readObject_10 rfl (lv_at hl 0 rfl) ?_
  obtain ⟨q1, hq1, h⟩ := o_bd_some h
  refine o_V (st1 := []) (w1 := (o_cw ad ca 1 Sj tc T1 q1 Pg Pt Mk Lk Ck Jd Ld Pr)) hE.1 C (c_Rd_skipBlanks hE l n (Rd_mk (Rd_words Rd) (Rd_wordCount Rd) ((Rd_position Rd) + (1:Int32)) (Rd_limit Rd) (Rd_wrongPlace Rd)) Sj tc T1 Pg Pt Mk Lk Ck Jd Ld Pr 1 hq1) hP (hDD _ _ _ _ _ _ _ _ _ _ _ _ _) hS hl.1 rfl cw_23 k_3_34 k_3_36 k_s_2 k_1_3 k_3_37 hv_Rd_skipBlanks rfl rfl ⟨(by dsimp only [rm_Rd_readObject, rm_Rd_skipBlanks]; omega), (by dsimp only [rm_Rd_readObject, rm_Rd_skipBlanks]; omega)⟩ rfl (Nat.le_of_ble_eq_true rfl) ⟨Nat.zero_le _, Nat.zero_le _⟩ rfl d_Rd_readObject_11 (fun H locs hP hS => ?_)
  refine lv_aload_n hx hb d_Rd_readObject_14 rfl (lv_at hl 0 rfl) ?_
  obtain ⟨q2, hq2, h⟩ := o_bd_some h
  refine o_V (st1 := [.int q2]) (w1 := (o_cw ad ca 1 Sj tc T1 q1 Pg Pt Mk Lk Ck Jd Ld Pr)) hE.1 C (c_Rd_peek hE l q1 Sj tc T1 Pg Pt Mk Lk Ck Jd Ld Pr 1 hq2) hP (hDD _ _ _ _ _ _ _ _ _ _ _ _ _) hS hl.1 rfl cw_23 k_3_38 k_3_40 k_s_3 k_1_3 k_3_41 hv_Rd_peek rfl rfl ⟨(by dsimp only [rm_Rd_readObject, rm_Rd_peek]; omega), (by dsimp only [rm_Rd_readObject, rm_Rd_peek]; omega)⟩ rfl (Nat.le_of_ble_eq_true rfl) ⟨Nat.zero_le _, Nat.zero_le _⟩ rfl d_Rd_readObject_15 (fun H locs hP hS => ?_)
  refine lv_bipush (v := (125:Int32)) hx hb d_Rd_readObject_18 (by decide) ?_
  refine lv_icmp_ne (tgt := 35) hx hb d_Rd_readObject_20 (by decide) (fun c1 => ?_) (fun c1 => ?_)
  · replace h := o_ff c1 h
    refine lv_iconst (v := (0:Int32)) hx hb d_Rd_readObject_35 (by decide) ?_
    refine lv_istore_n (lv' := [(3, .int (0:Int32)), (0, .ref (ad 23)), (1, .int x1), (2, .int x2)]) hx hb d_Rd_readObject_36 rfl hl (by decide) rfl (fun ls hl => ?_)
    obtain ⟨q10, hq10, h⟩ := o_bd_some h
    refine o_sim2 (AH := fun zz => o_At p l e (rm_Rd_readObject d) s m _ below meth c _ o_cls D A 6 37 [] (o_cw ad ca 1 Sj zz.2.1 T1 zz.2.2 Pg Pt Mk Lk Ck Jd Ld Pr) [(0, .ref (ad 23)), (1, .int x1), (2, .int x2), (3, .int zz.1)]) (AX := fun qq => if qq.1 = 1 then o_At p l e (rm_Rd_readObject d) s m _ below meth c _ o_cls D A 6 88 [] (o_cw ad ca 1 Sj qq.2.2.1 T1 qq.2.2.2 Pg Pt Mk Lk Ck Jd Ld Pr) [] else if qq.1 = 2 then o_At p l e (rm_Rd_readObject d) s m _ below meth c _ o_cls D A 6 114 [] (o_cw ad ca 1 Sj qq.2.2.1 T1 qq.2.2.2 Pg Pt Mk Lk Ck Jd Ld Pr) [(0, .ref (ad 23))] else if qq.1 = 3 then o_At p l e (rm_Rd_readObject d) s m _ below meth c _ o_cls D A 6 151 [] (o_cw ad ca 1 Sj qq.2.2.1 T1 qq.2.2.2 Pg Pt Mk Lk Ck Jd Ld Pr) [] else o_At p l e (rm_Rd_readObject d) s m _ below meth c _ o_cls D A 6 159 [] (o_cw ad ca 1 Sj qq.2.2.1 T1 qq.2.2.2 Pg Pt Mk Lk Ck Jd Ld Pr) [(0, .ref (ad 23))]) (fun zz qq h h0 h1 => w_Rd_readObject_b37_0 hE C hDD d rec hrec n x1 x2 Sj T1 Pg Pt Mk Lk Ck Jd Ld Pr zz qq h h0 h1) n _ q10 hq10 ?_ _ _ _ hP hS (lv_sub hl [1, 2, 3, 0] rfl)
    by_cases c12 : q10.1 = 1
    · replace h := o_tt c12 h
      refine o_ip c12 ?_
      intro H locs ls hP hS hl
      refine lv_iconst (v := (0:Int32)) hx hb d_Rd_readObject_88 (by decide) ?_
      cases h
      exact o_rz (v := (0:Int32)) C o_nar0 hP hS d_Rd_readObject_89
    replace h := o_ff c12 h
    refine o_in_ c12 ?_
    by_cases c13 : q10.1 = 2
    · replace h := o_tt c13 h
      refine o_ip c13 ?_
      intro H locs ls hP hS hl
      refine lv_aload_n hx hb d_Rd_readObject_114 rfl (lv_at hl 0 rfl) ?_
      refine lv_aload_n hx hb d_Rd_readObject_115 rfl (lv_at hl 0 rfl) ?_
      refine o_get (v := .int (Rd_position q10.2.2.2)) C in_Rd hP 23 cw_23 rfl 3 (by decide) k_1_97 rfl rfl d_Rd_readObject_116 ?_
      obtain ⟨q11, hq11, h⟩ := o_bd_some h
      refine o_V (st1 := [.int q11.1]) (w1 := (o_cw ad ca 1 Sj q10.2.2.1 T1 q11.2 Pg Pt Mk Lk Ck Jd Ld Pr)) hE.1 C (c_Rd_refuse hE l (Rd_position q10.2.2.2) q10.2.2.2 Sj q10.2.2.1 T1 Pg Pt Mk Lk Ck Jd Ld Pr 1 hq11) hP (hDD _ _ _ _ _ _ _ _ _ _ _ _ _) hS hl.1 rfl cw_23 k_3_48 k_3_50 k_s_4 k_1_3 k_3_51 hv_Rd_refuse rfl rfl ⟨(by dsimp only [rm_Rd_readObject, rm_Rd_refuse]; omega), (by dsimp only [rm_Rd_readObject, rm_Rd_refuse]; omega)⟩ rfl (Nat.le_of_ble_eq_true rfl) ⟨Nat.zero_le _, Nat.zero_le _⟩ rfl d_Rd_readObject_119 (fun H locs hP hS => ?_)
      obtain ⟨g10, h⟩ := o_gd_some h
      cases h
      exact o_rz C (o_zb_nar g10) hP hS d_Rd_readObject_122
    replace h := o_ff c13 h
    refine o_in_ c13 ?_
    by_cases c14 : q10.1 = 3
    · replace h := o_tt c14 h
      refine o_ip c14 ?_
      intro H locs ls hP hS hl
      refine lv_iconst (v := (1:Int32)) hx hb d_Rd_readObject_151 (by decide) ?_
      cases h
      exact o_rz (v := (1:Int32)) C o_nar1 hP hS d_Rd_readObject_152
    replace h := o_ff c14 h
    refine o_in_ c14 ?_
    intro H locs ls hP hS hl
    refine lv_aload_n hx hb d_Rd_readObject_159 rfl (lv_at hl 0 rfl) ?_
    obtain ⟨q12, hq12, h⟩ := o_bd_some h
    refine o_V (st1 := []) (w1 := (o_cw ad ca 1 Sj q10.2.2.1 T1 q12 Pg Pt Mk Lk Ck Jd Ld Pr)) hE.1 C (c_Rd_skipBlanks hE l n q10.2.2.2 Sj q10.2.2.1 T1 Pg Pt Mk Lk Ck Jd Ld Pr 1 hq12) hP (hDD _ _ _ _ _ _ _ _ _ _ _ _ _) hS hl.1 rfl cw_23 k_3_34 k_3_36 k_s_2 k_1_3 k_3_37 hv_Rd_skipBlanks rfl rfl ⟨(by dsimp only [rm_Rd_readObject, rm_Rd_skipBlanks]; omega), (by dsimp only [rm_Rd_readObject, rm_Rd_skipBlanks]; omega)⟩ rfl (Nat.le_of_ble_eq_true rfl) ⟨Nat.zero_le _, Nat.zero_le _⟩ rfl d_Rd_readObject_160 (fun H locs hP hS => ?_)
    refine lv_aload_n hx hb d_Rd_readObject_163 rfl (lv_at hl 0 rfl) ?_
    refine lv_aload_n hx hb d_Rd_readObject_164 rfl (lv_at hl 0 rfl) ?_
    refine o_get (v := .int (Rd_position q12)) C in_Rd hP 23 cw_23 rfl 3 (by decide) k_1_97 rfl rfl d_Rd_readObject_165 ?_
    obtain ⟨q13, hq13, h⟩ := o_bd_some h
    refine o_V (st1 := [.int q13.1]) (w1 := (o_cw ad ca 1 Sj q10.2.2.1 T1 q13.2 Pg Pt Mk Lk Ck Jd Ld Pr)) hE.1 C (c_Rd_refuse hE l (Rd_position q12) q12 Sj q10.2.2.1 T1 Pg Pt Mk Lk Ck Jd Ld Pr 1 hq13) hP (hDD _ _ _ _ _ _ _ _ _ _ _ _ _) hS hl.1 rfl cw_23 k_3_48 k_3_50 k_s_4 k_1_3 k_3_51 hv_Rd_refuse rfl rfl ⟨(by dsimp only [rm_Rd_readObject, rm_Rd_refuse]; omega), (by dsimp only [rm_Rd_readObject, rm_Rd_refuse]; omega)⟩ rfl (Nat.le_of_ble_eq_true rfl) ⟨Nat.zero_le _, Nat.zero_le _⟩ rfl d_Rd_readObject_168 (fun H locs hP hS => ?_)
    obtain ⟨g11, h⟩ := o_gd_some h
    cases h
    exact o_rz C (o_zb_nar g11) hP hS d_Rd_readObject_171
  · replace h := o_tt c1 h
    refine lv_aload_n hx hb d_Rd_readObject_23 rfl (lv_at hl 0 rfl) ?_
    refine lv_dup hx hb d_Rd_readObject_24 rfl ?_
    refine o_get (v := .int (Rd_position q1)) C in_Rd hP 23 cw_23 rfl 3 (by decide) k_1_97 rfl rfl d_Rd_readObject_25 ?_
    refine lv_iconst (v := (1:Int32)) hx hb d_Rd_readObject_28 (by decide) ?_
    refine lv_iadd hx hb d_Rd_readObject_29 ?_
    refine o_put (v := .int ((Rd_position q1) + (1:Int32))) (ty := .int) (w1 := (o_cw ad ca 1 Sj tc T1 (Rd_mk (Rd_words q1) (Rd_wordCount q1) ((Rd_position q1) + (1:Int32)) (Rd_limit q1) (Rd_wrongPlace q1)) Pg Pt Mk Lk Ck Jd Ld Pr)) C in_Rd t_Rd t_Rd_ok n_Rd hP (hDD _ _ _ _ _ _ _ _ _ _ _ _ _) hS 23 cw_23 rfl 3 (by decide) k_1_97 rfl rfl (by decide +kernel) rfl rfl (Nat.le_of_ble_eq_true rfl) rfl d_Rd_readObject_30 (fun H locs hP hS => ?_)
    refine lv_iconst (v := (1:Int32)) hx hb d_Rd_readObject_33 (by decide) ?_
    cases h
    exact o_rz (v := (1:Int32)) C o_nar1 hP hS d_Rd_readObject_34
set_option maxHeartbeats 4000000 in
set_option maxRecDepth 100000 in
theorem w_Rd_readObject_j123_1 {E : (Nat → Prop) → State → Heap → Prop} {p : Program} {l : Launch} {e : Env} {s : State} {m : MethodId} {args : Array Value} {below : List Frame} {meth : Method} {c : Code} {D : va_G} {ad kd sd vd xd : Nat → Nat} {ca : Nat → ClassId} {A : Nat → Prop} {Q : State → Prop} (hE : o_EK E kd sd vd xd) (C : o_Cx E p s m args meth c D o_cls (o_tys ca) "SchemaJudge$Reader" b_Rd_readObject (some .boolean) 6 cc_Rd_readObject A) (hDD : ∀ (rt : Nat) (Sj : SSJ) (T0 : STx) (T1 : STx) (Rd : SRd) (Pg : SPg) (Pt : SPt) (Mk : SMk) (Lk : SLk) (Ck : SCk) (Jd : SJd) (Ld : SLd) (Pr : SPr), va_D A (o_cw ad ca rt Sj T0 T1 Rd Pg Pt Mk Lk Ck Jd Ld Pr)) (d : Nat) (rec : Int32 → Int32 → Int32 → STx → SRd → Option (Int32 × STx × SRd)) (hrec : ∀ (x1 : Int32) (x2 : Int32) (x3 : Int32) (tc : STx) (Rd : SRd) (Sj : SSJ) (T0 : STx) (Pg : SPg) (Pt : SPt) (Mk : SMk) (Lk : SLk) (Ck : SCk) (Jd : SJd) (Ld : SLd) (Pr : SPr) (r : Int32 × STx × SRd), rec x1 x2 x3 tc Rd = some r → o_Cn E l D o_cls (o_tys ca) y_Rd_readValue cc_Rd_readValue (rm_Rd_readValue d) [.ref (ad 23), .int x1, .int x2, .int x3] (o_cw ad ca 12 Sj T0 tc Rd Pg Pt Mk Lk Ck Jd Ld Pr) (o_cw ad ca 12 Sj T0 r.2.1 r.2.2 Pg Pt Mk Lk Ck Jd Ld Pr) (some (.int r.1))) (n : Nat) (u37_x1 : Int32) (u37_x2 : Int32) (u37_Sj : SSJ) (u37_T0 : STx) (u37_Pg : SPg) (u37_Pt : SPt) (u37_Mk : SMk) (u37_Lk : SLk) (u37_Ck : SCk) (u37_Jd : SJd) (u37_Ld : SLd) (u37_Pr : SPr) (x3 : Int32) (x5 : Int32) (tc : STx) (Rd : SRd) {q : Nat × Int32 × STx × SRd} (h : m_Rd_readObject_j123 n rec u37_x1 u37_x2 x3 x5 tc Rd = some q) (h0 : q.1 = 0 → o_At p l e (rm_Rd_readObject d) s m args below meth c Q o_cls D A 6 37 [] (o_cw ad ca 12 u37_Sj u37_T0 q.2.2.1 q.2.2.2 u37_Pg u37_Pt u37_Mk u37_Lk u37_Ck u37_Jd u37_Ld u37_Pr) [(0, .ref (ad 23)), (1, .int u37_x1), (2, .int u37_x2), (3, .int q.2.1)]) (h1 : q.1 ≠ 0 → (if q.1 = 1 then o_At p l e (rm_Rd_readObject d) s m args below meth c Q o_cls D A 6 88 [] (o_cw ad ca 12 u37_Sj u37_T0 q.2.2.1 q.2.2.2 u37_Pg u37_Pt u37_Mk u37_Lk u37_Ck u37_Jd u37_Ld u37_Pr) [] else if q.1 = 2 then o_At p l e (rm_Rd_readObject d) s m args below meth c Q o_cls D A 6 114 [] (o_cw ad ca 12 u37_Sj u37_T0 q.2.2.1 q.2.2.2 u37_Pg u37_Pt u37_Mk u37_Lk u37_Ck u37_Jd u37_Ld u37_Pr) [(0, .ref (ad 23))] else if q.1 = 3 then o_At p l e (rm_Rd_readObject d) s m args below meth c Q o_cls D A 6 151 [] (o_cw ad ca 12 u37_Sj u37_T0 q.2.2.1 q.2.2.2 u37_Pg u37_Pt u37_Mk u37_Lk u37_Ck u37_Jd u37_Ld u37_Pr) [] else o_At p l e (rm_Rd_readObject d) s m args below meth c Q o_cls D A 6 159 [] (o_cw ad ca 12 u37_Sj u37_T0 q.2.2.1 q.2.2.2 u37_Pg u37_Pt u37_Mk u37_Lk u37_Ck u37_Jd u37_Ld u37_Pr) [(0, .ref (ad 23))])) : o_At p l e (rm_Rd_readObject d) s m args below meth c Q o_cls D A 6 123 [] (o_cw ad ca 12 u37_Sj u37_T0 tc Rd u37_Pg u37_Pt u37_Mk u37_Lk u37_Ck u37_Jd u37_Ld u37_Pr) [(0, .ref (ad 23)), (1, .int u37_x1), (2, .int u37_x2), (3, .int x3), (5, .int x5)] := by
  unfold m_Rd_readObject_j123 at h
  intro H locs ls hP hS hl
  have C0 := C
  obtain ⟨hx, hb, -, -, -, hown, hts, hK, -, -⟩ := C0
  refine lv_aload_n hx hb d_Rd_readObject_123 rfl (lv_at hl 0 rfl) ?_
  refine lv_dup hx hb d_Rd_readObject_124 rfl ?_
  refine o_get (v := .int (Rd_position Rd)) C in_Rd hP 23 cw_23 rfl 3 (by decide) k_1_97 rfl rfl d_Rd_readObject_125 ?_
  refine lv_iconst (v := (1:Int32)) hx hb d_Rd_readObject_128 (by decide) ?_
  refine lv_iadd hx hb d_Rd_readObject_129 ?_
  refine o_put (v := .int ((Rd_position Rd) + (1:Int32))) (ty := .int) (w1 := (o_cw ad ca 12 u37_Sj u37_T0 tc (Rd_mk (Rd_words Rd) (Rd_wordCount Rd) ((Rd_position Rd) + (1:Int32)) (Rd_limit Rd) (Rd_wrongPlace Rd)) u37_Pg u37_Pt u37_Mk u37_Lk u37_Ck u37_Jd u37_Ld u37_Pr)) C in_Rd t_Rd t_Rd_ok n_Rd hP (hDD _ _ _ _ _ _ _ _ _ _ _ _ _) hS 23 cw_23 rfl 3 (by decide) k_1_97 rfl rfl (by decide +kernel) rfl rfl (Nat.le_of_ble_eq_true rfl) rfl d_Rd_readObject_130 (fun H locs hP hS => ?_)
  refine lv_aload_n hx hb d_Rd_readObject_133 rfl (lv_at hl 0 rfl) ?_
  refine o_get (v := .ref (ad 12)) C in_Rd hP 23 cw_23 rfl 2 (by decide) k_1_96 rfl rfl d_Rd_readObject_134 ?_
  refine lv_iload_n hx hb d_Rd_readObject_137 rfl (lv_at hl 1 rfl) ?_
  refine lv_iload_n hx hb d_Rd_readObject_138 rfl (lv_at hl 3 rfl) ?_
  refine lv_iconst (v := (1:Int32)) hx hb d_Rd_readObject_139 (by decide) ?_
  refine lv_iadd hx hb d_Rd_readObject_140 ?_
  obtain ⟨q9, hq9, h⟩ := o_bd_some h
  refine o_V (st1 := []) (w1 := (o_cw ad ca 12 u37_Sj u37_T0 q9 (Rd_mk (Rd_words Rd) (Rd_wordCount Rd) ((Rd_position Rd) + (1:Int32)) (Rd_limit Rd) (Rd_wrongPlace Rd)) u37_Pg u37_Pt u37_Mk u37_Lk u37_Ck u37_Jd u37_Ld u37_Pr)) hE.1 C (c_Tx_endParent_1 hE l u37_x1 (x3 + (1:Int32)) tc u37_Sj u37_T0 (Rd_mk (Rd_words Rd) (Rd_wordCount Rd) ((Rd_position Rd) + (1:Int32)) (Rd_limit Rd) (Rd_wrongPlace Rd)) u37_Pg u37_Pt u37_Mk u37_Lk u37_Ck u37_Jd u37_Ld u37_Pr 12 hq9) hP (hDD _ _ _ _ _ _ _ _ _ _ _ _ _) hS hl.1 rfl cw_12 k_3_190 k_3_191 k_3_192 k_1_2 k_3_193 hv_Tx_endParent rfl rfl ⟨(by dsimp only [rm_Rd_readObject, rm_Tx_endParent]; omega), (by dsimp only [rm_Rd_readObject, rm_Tx_endParent]; omega)⟩ rfl (Nat.le_of_ble_eq_true rfl) ⟨Nat.zero_le _, Nat.zero_le _⟩ rfl d_Rd_readObject_141 (fun H locs hP hS => ?_)
  refine lv_iload hx hb d_Rd_readObject_144 (lv_at hl 4 rfl) ?_
  refine lv_bipush (v := (125:Int32)) hx hb d_Rd_readObject_146 (by decide) ?_
  refine lv_icmp_ne (tgt := 153) hx hb d_Rd_readObject_148 (by decide) (fun c8 => ?_) (fun c8 => ?_)
  · replace h := o_ff c8 h
    obtain ⟨x3_153, ex3_153⟩ : ∃ y : Int32, y = x3 + (1:Int32) := ⟨_, rfl⟩
    replace h := o_nm_at ex3_153 h
    refine lv_iinc (v := x3_153) (lv' := [(3, .int x3_153), (0, .ref (ad 23)), (1, .int u37_x1), (2, .int u37_x2), (5, .int x5)]) hx hb d_Rd_readObject_153 hl (k := 3) rfl (by rw [ex3_153]; rfl) (by decide) rfl (fun ls hl => ?_)
    refine lv_goto (tgt := 37) hx hb d_Rd_readObject_156 (by decide) ?_
    cases h
    exact h0 rfl _ _ _ hP hS (lv_sub hl [1, 2, 3, 0] rfl)
  · replace h := o_tt c8 h
    cases h
    exact h1 (Nat.succ_ne_zero 2) _ _ _ hP hS (lv_sub hl [] rfl)
set_option maxHeartbeats 4000000 in
set_option maxRecDepth 100000 in
theorem w_Rd_readObject_b37_1 {E : (Nat → Prop) → State → Heap → Prop} {p : Program} {l : Launch} {e : Env} {s : State} {m : MethodId} {args : Array Value} {below : List Frame} {meth : Method} {c : Code} {D : va_G} {ad kd sd vd xd : Nat → Nat} {ca : Nat → ClassId} {A : Nat → Prop} {Q : State → Prop} (hE : o_EK E kd sd vd xd) (C : o_Cx E p s m args meth c D o_cls (o_tys ca) "SchemaJudge$Reader" b_Rd_readObject (some .boolean) 6 cc_Rd_readObject A) (hDD : ∀ (rt : Nat) (Sj : SSJ) (T0 : STx) (T1 : STx) (Rd : SRd) (Pg : SPg) (Pt : SPt) (Mk : SMk) (Lk : SLk) (Ck : SCk) (Jd : SJd) (Ld : SLd) (Pr : SPr), va_D A (o_cw ad ca rt Sj T0 T1 Rd Pg Pt Mk Lk Ck Jd Ld Pr)) (d : Nat) (rec : Int32 → Int32 → Int32 → STx → SRd → Option (Int32 × STx × SRd)) (hrec : ∀ (x1 : Int32) (x2 : Int32) (x3 : Int32) (tc : STx) (Rd : SRd) (Sj : SSJ) (T0 : STx) (Pg : SPg) (Pt : SPt) (Mk : SMk) (Lk : SLk) (Ck : SCk) (Jd : SJd) (Ld : SLd) (Pr : SPr) (r : Int32 × STx × SRd), rec x1 x2 x3 tc Rd = some r → o_Cn E l D o_cls (o_tys ca) y_Rd_readValue cc_Rd_readValue (rm_Rd_readValue d) [.ref (ad 23), .int x1, .int x2, .int x3] (o_cw ad ca 12 Sj T0 tc Rd Pg Pt Mk Lk Ck Jd Ld Pr) (o_cw ad ca 12 Sj T0 r.2.1 r.2.2 Pg Pt Mk Lk Ck Jd Ld Pr) (some (.int r.1))) (n : Nat) (u37_x1 : Int32) (u37_x2 : Int32) (u37_Sj : SSJ) (u37_T0 : STx) (u37_Pg : SPg) (u37_Pt : SPt) (u37_Mk : SMk) (u37_Lk : SLk) (u37_Ck : SCk) (u37_Jd : SJd) (u37_Ld : SLd) (u37_Pr : SPr) (z : Int32 × STx × SRd) (q : Nat × Int32 × STx × SRd) (h : m_Rd_readObject_b37 n rec u37_x1 u37_x2 z = some q) (h0 : q.1 = 0 → o_At p l e (rm_Rd_readObject d) s m args below meth c Q o_cls D A 6 37 [] (o_cw ad ca 12 u37_Sj u37_T0 q.2.2.1 q.2.2.2 u37_Pg u37_Pt u37_Mk u37_Lk u37_Ck u37_Jd u37_Ld u37_Pr) [(0, .ref (ad 23)), (1, .int u37_x1), (2, .int u37_x2), (3, .int q.2.1)]) (h1 : q.1 ≠ 0 → (if q.1 = 1 then o_At p l e (rm_Rd_readObject d) s m args below meth c Q o_cls D A 6 88 [] (o_cw ad ca 12 u37_Sj u37_T0 q.2.2.1 q.2.2.2 u37_Pg u37_Pt u37_Mk u37_Lk u37_Ck u37_Jd u37_Ld u37_Pr) [] else if q.1 = 2 then o_At p l e (rm_Rd_readObject d) s m args below meth c Q o_cls D A 6 114 [] (o_cw ad ca 12 u37_Sj u37_T0 q.2.2.1 q.2.2.2 u37_Pg u37_Pt u37_Mk u37_Lk u37_Ck u37_Jd u37_Ld u37_Pr) [(0, .ref (ad 23))] else if q.1 = 3 then o_At p l e (rm_Rd_readObject d) s m args below meth c Q o_cls D A 6 151 [] (o_cw ad ca 12 u37_Sj u37_T0 q.2.2.1 q.2.2.2 u37_Pg u37_Pt u37_Mk u37_Lk u37_Ck u37_Jd u37_Ld u37_Pr) [] else o_At p l e (rm_Rd_readObject d) s m args below meth c Q o_cls D A 6 159 [] (o_cw ad ca 12 u37_Sj u37_T0 q.2.2.1 q.2.2.2 u37_Pg u37_Pt u37_Mk u37_Lk u37_Ck u37_Jd u37_Ld u37_Pr) [(0, .ref (ad 23))])) : o_At p l e (rm_Rd_readObject d) s m args below meth c Q o_cls D A 6 37 [] (o_cw ad ca 12 u37_Sj u37_T0 z.2.1 z.2.2 u37_Pg u37_Pt u37_Mk u37_Lk u37_Ck u37_Jd u37_Ld u37_Pr) [(0, .ref (ad 23)), (1, .int u37_x1), (2, .int u37_x2), (3, .int z.1)] := by
  unfold m_Rd_readObject_b37 at h
  intro H locs ls hP hS hl
  have C0 := C
  obtain ⟨hx, hb, -, -, -, hown, hts, hK, -, -⟩ := C0
  refine lv_iload_n hx hb d_Rd_readObject_37 rfl (lv_at hl 3 rfl) ?_
  refine lv_bipush (v := (60:Int32)) hx hb d_Rd_readObject_38 (by decide) ?_
  refine lv_icmp_ge (tgt := 159) hx hb d_Rd_readObject_40 (by decide) (fun c2 => ?_) (fun c2 => ?_)
  · replace h := o_tt c2 h
    cases h
    exact h1 (Nat.succ_ne_zero 3) _ _ _ hP hS (lv_sub hl [0] rfl)
  · replace h := o_ff c2 h
    refine lv_aload_n hx hb d_Rd_readObject_43 rfl (lv_at hl 0 rfl) ?_
    refine lv_iload_n hx hb d_Rd_readObject_44 rfl (lv_at hl 1 rfl) ?_
    refine lv_iload_n hx hb d_Rd_readObject_45 rfl (lv_at hl 3 rfl) ?_
    obtain ⟨q3, hq3, h⟩ := o_bd_some h
    refine o_V (st1 := [.int q3.1]) (w1 := (o_cw ad ca 12 u37_Sj u37_T0 q3.2.1 q3.2.2 u37_Pg u37_Pt u37_Mk u37_Lk u37_Ck u37_Jd u37_Ld u37_Pr)) hE.1 C (c_Rd_beginName_1 hE l n u37_x1 z.1 z.2.1 z.2.2 u37_Sj u37_T0 u37_Pg u37_Pt u37_Mk u37_Lk u37_Ck u37_Jd u37_Ld u37_Pr hq3) hP (hDD _ _ _ _ _ _ _ _ _ _ _ _ _) hS hl.1 rfl cw_23 k_3_198 k_3_200 k_s_16 k_1_3 k_3_201 hv_Rd_beginName rfl rfl ⟨(by dsimp only [rm_Rd_readObject, rm_Rd_beginName]; omega), (by dsimp only [rm_Rd_readObject, rm_Rd_beginName]; omega)⟩ rfl (Nat.le_of_ble_eq_true rfl) ⟨Nat.zero_le _, Nat.zero_le _⟩ rfl d_Rd_readObject_46 (fun H locs hP hS => ?_)
    refine lv_istore (lv' := [(4, .int q3.1), (0, .ref (ad 23)), (1, .int u37_x1), (2, .int u37_x2), (3, .int z.1)]) hx hb d_Rd_readObject_49 hl (by decide) rfl (fun ls hl => ?_)
    refine lv_iload hx hb d_Rd_readObject_51 (lv_at hl 0 rfl) ?_
    refine lv_iconst (v := (-1:Int32)) hx hb d_Rd_readObject_53 (by decide) ?_
    refine lv_icmp_eq (tgt := 88) hx hb d_Rd_readObject_54 (by decide) (fun c3 => ?_) (fun c3 => ?_)
    · replace h := o_tt c3 h
      cases h
      exact h1 (Nat.succ_ne_zero 0) _ _ _ hP hS (lv_sub hl [] rfl)
    · replace h := o_ff c3 h
      refine lv_aload_n hx hb d_Rd_readObject_57 rfl (lv_at hl 1 rfl) ?_
      refine lv_iload hx hb d_Rd_readObject_58 (lv_at hl 0 rfl) ?_
      obtain ⟨q4, hq4, h⟩ := o_bd_some h
      refine o_V (st1 := [.int q4.1]) (w1 := (o_cw ad ca 12 u37_Sj u37_T0 q4.2.1 q4.2.2 u37_Pg u37_Pt u37_Mk u37_Lk u37_Ck u37_Jd u37_Ld u37_Pr)) hE.1 C (c_Rd_readString_1 hE l n q3.1 q3.2.1 q3.2.2 u37_Sj u37_T0 u37_Pg u37_Pt u37_Mk u37_Lk u37_Ck u37_Jd u37_Ld u37_Pr hq4) hP (hDD _ _ _ _ _ _ _ _ _ _ _ _ _) hS hl.1 rfl cw_23 k_3_131 k_3_133 k_s_9 k_1_3 k_3_134 hv_Rd_readString rfl rfl ⟨(by dsimp only [rm_Rd_readObject, rm_Rd_readString]; omega), (by dsimp only [rm_Rd_readObject, rm_Rd_readString]; omega)⟩ rfl (Nat.le_of_ble_eq_true rfl) ⟨Nat.zero_le _, Nat.zero_le _⟩ rfl d_Rd_readObject_60 (fun H locs hP hS => ?_)
      refine lv_if_eq (tgt := 88) hx hb d_Rd_readObject_63 (by decide) (fun c4 => ?_) (fun c4 => ?_)
      · replace h := o_tt c4 h
        cases h
        exact h1 (Nat.succ_ne_zero 0) _ _ _ hP hS (lv_sub hl [] rfl)
      · replace h := o_ff c4 h
        refine lv_aload_n hx hb d_Rd_readObject_66 rfl (lv_at hl 1 rfl) ?_
        refine lv_iload_n hx hb d_Rd_readObject_67 rfl (lv_at hl 2 rfl) ?_
        refine lv_iload hx hb d_Rd_readObject_68 (lv_at hl 0 rfl) ?_
        obtain ⟨q5, hq5, h⟩ := o_bd_some h
        refine o_V (st1 := [.int q5.1]) (w1 := (o_cw ad ca 12 u37_Sj u37_T0 q4.2.1 q5.2 u37_Pg u37_Pt u37_Mk u37_Lk u37_Ck u37_Jd u37_Ld u37_Pr)) hE.1 C (c_Rd_endName_1 hE l n u37_x1 q3.1 q4.2.1 q4.2.2 u37_Sj u37_T0 u37_Pg u37_Pt u37_Mk u37_Lk u37_Ck u37_Jd u37_Ld u37_Pr hq5) hP (hDD _ _ _ _ _ _ _ _ _ _ _ _ _) hS hl.1 rfl cw_23 k_3_202 k_3_204 k_s_17 k_1_3 k_3_205 hv_Rd_endName rfl rfl ⟨(by dsimp only [rm_Rd_readObject, rm_Rd_endName]; omega), (by dsimp only [rm_Rd_readObject, rm_Rd_endName]; omega)⟩ rfl (Nat.le_of_ble_eq_true rfl) ⟨Nat.zero_le _, Nat.zero_le _⟩ rfl d_Rd_readObject_70 (fun H locs hP hS => ?_)
        refine lv_if_eq (tgt := 88) hx hb d_Rd_readObject_73 (by decide) (fun c5 => ?_) (fun c5 => ?_)
        · replace h := o_tt c5 h
          cases h
          exact h1 (Nat.succ_ne_zero 0) _ _ _ hP hS (lv_sub hl [] rfl)
        · replace h := o_ff c5 h
          refine lv_aload_n hx hb d_Rd_readObject_76 rfl (lv_at hl 1 rfl) ?_
          refine lv_iload_n hx hb d_Rd_readObject_77 rfl (lv_at hl 2 rfl) ?_
          refine lv_iload_n hx hb d_Rd_readObject_78 rfl (lv_at hl 4 rfl) ?_
          refine lv_iload_n hx hb d_Rd_readObject_79 rfl (lv_at hl 3 rfl) ?_
          refine lv_iconst (v := (1:Int32)) hx hb d_Rd_readObject_80 (by decide) ?_
          refine lv_iadd hx hb d_Rd_readObject_81 ?_
          obtain ⟨q6, hq6, h⟩ := o_bd_some h
          refine o_V (st1 := [.int q6.1]) (w1 := (o_cw ad ca 12 u37_Sj u37_T0 q6.2.1 q6.2.2 u37_Pg u37_Pt u37_Mk u37_Lk u37_Ck u37_Jd u37_Ld u37_Pr)) hE.1 C (hrec u37_x1 z.1 (u37_x2 + (1:Int32)) q4.2.1 q5.2 u37_Sj u37_T0 u37_Pg u37_Pt u37_Mk u37_Lk u37_Ck u37_Jd u37_Ld u37_Pr _ hq6) hP (hDD _ _ _ _ _ _ _ _ _ _ _ _ _) hS hl.1 rfl cw_23 k_3_30 k_3_32 k_s_1 k_1_3 k_3_33 hv_Rd_readValue rfl rfl ⟨(by dsimp only [rm_Rd_readObject, rm_Rd_readValue]; omega), (by dsimp only [rm_Rd_readObject, rm_Rd_readValue]; omega)⟩ rfl (Nat.le_of_ble_eq_true rfl) ⟨Nat.zero_le _, Nat.zero_le _⟩ rfl d_Rd_readObject_82 (fun H locs hP hS => ?_)
          refine lv_if_ne (tgt := 90) hx hb d_Rd_readObject_85 (by decide) (fun c6 => ?_) (fun c6 => ?_)
          · replace h := o_ff c6 h
            refine lv_aload_n hx hb d_Rd_readObject_90 rfl (lv_at hl 1 rfl) ?_
            obtain ⟨q7, hq7, h⟩ := o_bd_some h
            refine o_V (st1 := []) (w1 := (o_cw ad ca 12 u37_Sj u37_T0 q6.2.1 q7 u37_Pg u37_Pt u37_Mk u37_Lk u37_Ck u37_Jd u37_Ld u37_Pr)) hE.1 C (c_Rd_skipBlanks hE l n q6.2.2 u37_Sj u37_T0 q6.2.1 u37_Pg u37_Pt u37_Mk u37_Lk u37_Ck u37_Jd u37_Ld u37_Pr 12 hq7) hP (hDD _ _ _ _ _ _ _ _ _ _ _ _ _) hS hl.1 rfl cw_23 k_3_34 k_3_36 k_s_2 k_1_3 k_3_37 hv_Rd_skipBlanks rfl rfl ⟨(by dsimp only [rm_Rd_readObject, rm_Rd_skipBlanks]; omega), (by dsimp only [rm_Rd_readObject, rm_Rd_skipBlanks]; omega)⟩ rfl (Nat.le_of_ble_eq_true rfl) ⟨Nat.zero_le _, Nat.zero_le _⟩ rfl d_Rd_readObject_91 (fun H locs hP hS => ?_)
            refine lv_aload_n hx hb d_Rd_readObject_94 rfl (lv_at hl 1 rfl) ?_
            obtain ⟨q8, hq8, h⟩ := o_bd_some h
            refine o_V (st1 := [.int q8]) (w1 := (o_cw ad ca 12 u37_Sj u37_T0 q6.2.1 q7 u37_Pg u37_Pt u37_Mk u37_Lk u37_Ck u37_Jd u37_Ld u37_Pr)) hE.1 C (c_Rd_peek hE l q7 u37_Sj u37_T0 q6.2.1 u37_Pg u37_Pt u37_Mk u37_Lk u37_Ck u37_Jd u37_Ld u37_Pr 12 hq8) hP (hDD _ _ _ _ _ _ _ _ _ _ _ _ _) hS hl.1 rfl cw_23 k_3_38 k_3_40 k_s_3 k_1_3 k_3_41 hv_Rd_peek rfl rfl ⟨(by dsimp only [rm_Rd_readObject, rm_Rd_peek]; omega), (by dsimp only [rm_Rd_readObject, rm_Rd_peek]; omega)⟩ rfl (Nat.le_of_ble_eq_true rfl) ⟨Nat.zero_le _, Nat.zero_le _⟩ rfl d_Rd_readObject_95 (fun H locs hP hS => ?_)
            refine lv_istore (lv' := [(5, .int q8), (4, .int q3.1), (0, .ref (ad 23)), (1, .int u37_x1), (2, .int u37_x2), (3, .int z.1)]) hx hb d_Rd_readObject_98 hl (by decide) rfl (fun ls hl => ?_)
            refine lv_iload hx hb d_Rd_readObject_100 (lv_at hl 0 rfl) ?_
            refine lv_bipush (v := (44:Int32)) hx hb d_Rd_readObject_102 (by decide) ?_
            refine lv_icmp_eq (tgt := 123) hx hb d_Rd_readObject_104 (by decide) (fun c7 => ?_) (fun c7 => ?_)
            · replace h := o_tt c7 h
              exact w_Rd_readObject_j123_1 hE C hDD d rec hrec n u37_x1 u37_x2 u37_Sj u37_T0 u37_Pg u37_Pt u37_Mk u37_Lk u37_Ck u37_Jd u37_Ld u37_Pr z.1 q8 q6.2.1 q7 h h0 h1 _ _ _ hP hS (lv_sub hl [2, 3, 4, 5, 0] rfl)
            · replace h := o_ff c7 h
              refine lv_iload hx hb d_Rd_readObject_107 (lv_at hl 0 rfl) ?_
              refine lv_bipush (v := (125:Int32)) hx hb d_Rd_readObject_109 (by decide) ?_
              refine lv_icmp_eq (tgt := 123) hx hb d_Rd_readObject_111 (by decide) (fun c9 => ?_) (fun c9 => ?_)
              · replace h := o_tt c9 h
                exact w_Rd_readObject_j123_1 hE C hDD d rec hrec n u37_x1 u37_x2 u37_Sj u37_T0 u37_Pg u37_Pt u37_Mk u37_Lk u37_Ck u37_Jd u37_Ld u37_Pr z.1 q8 q6.2.1 q7 h h0 h1 _ _ _ hP hS (lv_sub hl [2, 3, 4, 5, 0] rfl)
              · replace h := o_ff c9 h
                cases h
                exact h1 (Nat.succ_ne_zero 1) _ _ _ hP hS (lv_sub hl [2] rfl)
          · replace h := o_tt c6 h
            cases h
            exact h1 (Nat.succ_ne_zero 0) _ _ _ hP hS (lv_sub hl [] rfl)
set_option maxHeartbeats 4000000 in
set_option maxRecDepth 100000 in
theorem c_Rd_readObject_1 {E : (Nat → Prop) → State → Heap → Prop} {D : va_G} {ad kd sd vd xd : Nat → Nat} {ca : Nat → ClassId} (hE : o_EK E kd sd vd xd) (l : Launch) (n : Nat) (d : Nat) (rec : Int32 → Int32 → Int32 → STx → SRd → Option (Int32 × STx × SRd)) (hrec : ∀ (x1 : Int32) (x2 : Int32) (x3 : Int32) (tc : STx) (Rd : SRd) (Sj : SSJ) (T0 : STx) (Pg : SPg) (Pt : SPt) (Mk : SMk) (Lk : SLk) (Ck : SCk) (Jd : SJd) (Ld : SLd) (Pr : SPr) (r : Int32 × STx × SRd), rec x1 x2 x3 tc Rd = some r → o_Cn E l D o_cls (o_tys ca) y_Rd_readValue cc_Rd_readValue (rm_Rd_readValue d) [.ref (ad 23), .int x1, .int x2, .int x3] (o_cw ad ca 12 Sj T0 tc Rd Pg Pt Mk Lk Ck Jd Ld Pr) (o_cw ad ca 12 Sj T0 r.2.1 r.2.2 Pg Pt Mk Lk Ck Jd Ld Pr) (some (.int r.1))) (x1 : Int32) (x2 : Int32) (tc : STx) (Rd : SRd) (Sj : SSJ) (T0 : STx) (Pg : SPg) (Pt : SPt) (Mk : SMk) (Lk : SLk) (Ck : SCk) (Jd : SJd) (Ld : SLd) (Pr : SPr) {r : Int32 × STx × SRd} (h : m_Rd_readObject n rec x1 x2 tc Rd = some r) : o_Cn E l D o_cls (o_tys ca) y_Rd_readObject cc_Rd_readObject (rm_Rd_readObject d) [.ref (ad 23), .int x1, .int x2] (o_cw ad ca 12 Sj T0 tc Rd Pg Pt Mk Lk Ck Jd Ld Pr) (o_cw ad ca 12 Sj T0 r.2.1 r.2.2 Pg Pt Mk Lk Ck Jd Ld Pr) (some (.int r.1)) := by
  refine o_Cn_of (by decide) (Nat.le_of_ble_eq_true rfl) ?_
  intro p e s m below meth c A ls C hD hP hS hl
  have hDD : ∀ (rt : Nat) (Sj : SSJ) (T0 : STx) (T1 : STx) (Rd : SRd) (Pg : SPg) (Pt : SPt) (Mk : SMk) (Lk : SLk) (Ck : SCk) (Jd : SJd) (Ld : SLd) (Pr : SPr), va_D A (o_cw ad ca rt Sj T0 T1 Rd Pg Pt Mk Lk Ck Jd Ld Pr) := fun _ _ _ _ _ _ _ _ _ _ _ _ _ => o_D_map hD rfl
  have hl : lv_has ls 6 [(0, .ref (ad 23)), (1, .int x1), (2, .int x2)] := hl
  unfold m_Rd_readObject at h
  have C0 := C
  obtain ⟨hx, hb, -, -, -, hown, hts, hK, -, -⟩ := C0
  refine lv_aload_n hx hb d_Rd_readObject_0 rfl (lv_at hl 0 rfl) ?_
  refine lv_dup hx hb d_Rd_readObject_1 rfl ?_
  refine o_get (v := .int (Rd_position Rd)) C in_Rd hP 23 cw_23 rfl 3 (by decide) k_1_97 rfl rfl d_Rd_readObject_2 ?_
  refine lv_iconst (v := (1:Int32)) hx hb d_Rd_readObject_5 (by decide) ?_
  refine lv_iadd hx hb d_Rd_readObject_6 ?_
  refine o_put (v := .int ((Rd_position Rd) + (1:Int32))) (ty := .int) (w1 := (o_cw ad ca 12 Sj T0 tc (Rd_mk (Rd_words Rd) (Rd_wordCount Rd) ((Rd_position Rd) + (1:Int32)) (Rd_limit Rd) (Rd_wrongPlace Rd)) Pg Pt Mk Lk Ck Jd Ld Pr)) C in_Rd t_Rd t_Rd_ok n_Rd hP (hDD _ _ _ _ _ _ _ _ _ _ _ _ _) hS 23 cw_23 rfl 3 (by decide) k_1_97 rfl rfl (by decide +kernel) rfl rfl (Nat.le_of_ble_eq_true rfl) rfl d_Rd_readObject_7 (fun H locs hP hS => ?_)
  refine lv_aload_n hx hb d_Rd_readObject_10 rfl (lv_at hl 0 rfl) ?_
  obtain ⟨q1, hq1, h⟩ := o_bd_some h
  refine o_V (st1 := []) (w1 := (o_cw ad ca 12 Sj T0 tc q1 Pg Pt Mk Lk Ck Jd Ld Pr)) hE.1 C (c_Rd_skipBlanks hE l n (Rd_mk (Rd_words Rd) (Rd_wordCount Rd) ((Rd_position Rd) + (1:Int32)) (Rd_limit Rd) (Rd_wrongPlace Rd)) Sj T0 tc Pg Pt Mk Lk Ck Jd Ld Pr 12 hq1) hP (hDD _ _ _ _ _ _ _ _ _ _ _ _ _) hS hl.1 rfl cw_23 k_3_34 k_3_36 k_s_2 k_1_3 k_3_37 hv_Rd_skipBlanks rfl rfl ⟨(by dsimp only [rm_Rd_readObject, rm_Rd_skipBlanks]; omega), (by dsimp only [rm_Rd_readObject, rm_Rd_skipBlanks]; omega)⟩ rfl (Nat.le_of_ble_eq_true rfl) ⟨Nat.zero_le _, Nat.zero_le _⟩ rfl d_Rd_readObject_11 (fun H locs hP hS => ?_)
  refine lv_aload_n hx hb d_Rd_readObject_14 rfl (lv_at hl 0 rfl) ?_
  obtain ⟨q2, hq2, h⟩ := o_bd_some h
  refine o_V (st1 := [.int q2]) (w1 := (o_cw ad ca 12 Sj T0 tc q1 Pg Pt Mk Lk Ck Jd Ld Pr)) hE.1 C (c_Rd_peek hE l q1 Sj T0 tc Pg Pt Mk Lk Ck Jd Ld Pr 12 hq2) hP (hDD _ _ _ _ _ _ _ _ _ _ _ _ _) hS hl.1 rfl cw_23 k_3_38 k_3_40 k_s_3 k_1_3 k_3_41 hv_Rd_peek rfl rfl ⟨(by dsimp only [rm_Rd_readObject, rm_Rd_peek]; omega), (by dsimp only [rm_Rd_readObject, rm_Rd_peek]; omega)⟩ rfl (Nat.le_of_ble_eq_true rfl) ⟨Nat.zero_le _, Nat.zero_le _⟩ rfl d_Rd_readObject_15 (fun H locs hP hS => ?_)
  refine lv_bipush (v := (125:Int32)) hx hb d_Rd_readObject_18 (by decide) ?_
  refine lv_icmp_ne (tgt := 35) hx hb d_Rd_readObject_20 (by decide) (fun c1 => ?_) (fun c1 => ?_)
  · replace h := o_ff c1 h
    refine lv_iconst (v := (0:Int32)) hx hb d_Rd_readObject_35 (by decide) ?_
    refine lv_istore_n (lv' := [(3, .int (0:Int32)), (0, .ref (ad 23)), (1, .int x1), (2, .int x2)]) hx hb d_Rd_readObject_36 rfl hl (by decide) rfl (fun ls hl => ?_)
    obtain ⟨q10, hq10, h⟩ := o_bd_some h
    refine o_sim2 (AH := fun zz => o_At p l e (rm_Rd_readObject d) s m _ below meth c _ o_cls D A 6 37 [] (o_cw ad ca 12 Sj T0 zz.2.1 zz.2.2 Pg Pt Mk Lk Ck Jd Ld Pr) [(0, .ref (ad 23)), (1, .int x1), (2, .int x2), (3, .int zz.1)]) (AX := fun qq => if qq.1 = 1 then o_At p l e (rm_Rd_readObject d) s m _ below meth c _ o_cls D A 6 88 [] (o_cw ad ca 12 Sj T0 qq.2.2.1 qq.2.2.2 Pg Pt Mk Lk Ck Jd Ld Pr) [] else if qq.1 = 2 then o_At p l e (rm_Rd_readObject d) s m _ below meth c _ o_cls D A 6 114 [] (o_cw ad ca 12 Sj T0 qq.2.2.1 qq.2.2.2 Pg Pt Mk Lk Ck Jd Ld Pr) [(0, .ref (ad 23))] else if qq.1 = 3 then o_At p l e (rm_Rd_readObject d) s m _ below meth c _ o_cls D A 6 151 [] (o_cw ad ca 12 Sj T0 qq.2.2.1 qq.2.2.2 Pg Pt Mk Lk Ck Jd Ld Pr) [] else o_At p l e (rm_Rd_readObject d) s m _ below meth c _ o_cls D A 6 159 [] (o_cw ad ca 12 Sj T0 qq.2.2.1 qq.2.2.2 Pg Pt Mk Lk Ck Jd Ld Pr) [(0, .ref (ad 23))]) (fun zz qq h h0 h1 => w_Rd_readObject_b37_1 hE C hDD d rec hrec n x1 x2 Sj T0 Pg Pt Mk Lk Ck Jd Ld Pr zz qq h h0 h1) n _ q10 hq10 ?_ _ _ _ hP hS (lv_sub hl [1, 2, 3, 0] rfl)
    by_cases c12 : q10.1 = 1
    · replace h := o_tt c12 h
      refine o_ip c12 ?_
      intro H locs ls hP hS hl
      refine lv_iconst (v := (0:Int32)) hx hb d_Rd_readObject_88 (by decide) ?_
      cases h
      exact o_rz (v := (0:Int32)) C o_nar0 hP hS d_Rd_readObject_89
    replace h := o_ff c12 h
    refine o_in_ c12 ?_
    by_cases c13 : q10.1 = 2
    · replace h := o_tt c13 h
      refine o_ip c13 ?_
      intro H locs ls hP hS hl
      refine lv_aload_n hx hb d_Rd_readObject_114 rfl (lv_at hl 0 rfl) ?_
      refine lv_aload_n hx hb d_Rd_readObject_115 rfl (lv_at hl 0 rfl) ?_
      refine o_get (v := .int (Rd_position q10.2.2.2)) C in_Rd hP 23 cw_23 rfl 3 (by decide) k_1_97 rfl rfl d_Rd_readObject_116 ?_
      obtain ⟨q11, hq11, h⟩ := o_bd_some h
      refine o_V (st1 := [.int q11.1]) (w1 := (o_cw ad ca 12 Sj T0 q10.2.2.1 q11.2 Pg Pt Mk Lk Ck Jd Ld Pr)) hE.1 C (c_Rd_refuse hE l (Rd_position q10.2.2.2) q10.2.2.2 Sj T0 q10.2.2.1 Pg Pt Mk Lk Ck Jd Ld Pr 12 hq11) hP (hDD _ _ _ _ _ _ _ _ _ _ _ _ _) hS hl.1 rfl cw_23 k_3_48 k_3_50 k_s_4 k_1_3 k_3_51 hv_Rd_refuse rfl rfl ⟨(by dsimp only [rm_Rd_readObject, rm_Rd_refuse]; omega), (by dsimp only [rm_Rd_readObject, rm_Rd_refuse]; omega)⟩ rfl (Nat.le_of_ble_eq_true rfl) ⟨Nat.zero_le _, Nat.zero_le _⟩ rfl d_Rd_readObject_119 (fun H locs hP hS => ?_)
      obtain ⟨g10, h⟩ := o_gd_some h
      cases h
      exact o_rz C (o_zb_nar g10) hP hS d_Rd_readObject_122
    replace h := o_ff c13 h
    refine o_in_ c13 ?_
    by_cases c14 : q10.1 = 3
    · replace h := o_tt c14 h
      refine o_ip c14 ?_
      intro H locs ls hP hS hl
      refine lv_iconst (v := (1:Int32)) hx hb d_Rd_readObject_151 (by decide) ?_
      cases h
      exact o_rz (v := (1:Int32)) C o_nar1 hP hS d_Rd_readObject_152
    replace h := o_ff c14 h
    refine o_in_ c14 ?_
    intro H locs ls hP hS hl
    refine lv_aload_n hx hb d_Rd_readObject_159 rfl (lv_at hl 0 rfl) ?_
    obtain ⟨q12, hq12, h⟩ := o_bd_some h
    refine o_V (st1 := []) (w1 := (o_cw ad ca 12 Sj T0 q10.2.2.1 q12 Pg Pt Mk Lk Ck Jd Ld Pr)) hE.1 C (c_Rd_skipBlanks hE l n q10.2.2.2 Sj T0 q10.2.2.1 Pg Pt Mk Lk Ck Jd Ld Pr 12 hq12) hP (hDD _ _ _ _ _ _ _ _ _ _ _ _ _) hS hl.1 rfl cw_23 k_3_34 k_3_36 k_s_2 k_1_3 k_3_37 hv_Rd_skipBlanks rfl rfl ⟨(by dsimp only [rm_Rd_readObject, rm_Rd_skipBlanks]; omega), (by dsimp only [rm_Rd_readObject, rm_Rd_skipBlanks]; omega)⟩ rfl (Nat.le_of_ble_eq_true rfl) ⟨Nat.zero_le _, Nat.zero_le _⟩ rfl d_Rd_readObject_160 (fun H locs hP hS => ?_)
    refine lv_aload_n hx hb d_Rd_readObject_163 rfl (lv_at hl 0 rfl) ?_
    refine lv_aload_n hx hb d_Rd_readObject_164 rfl (lv_at hl 0 rfl) ?_
    refine o_get (v := .int (Rd_position q12)) C in_Rd hP 23 cw_23 rfl 3 (by decide) k_1_97 rfl rfl d_Rd_readObject_165 ?_
    obtain ⟨q13, hq13, h⟩ := o_bd_some h
    refine o_V (st1 := [.int q13.1]) (w1 := (o_cw ad ca 12 Sj T0 q10.2.2.1 q13.2 Pg Pt Mk Lk Ck Jd Ld Pr)) hE.1 C (c_Rd_refuse hE l (Rd_position q12) q12 Sj T0 q10.2.2.1 Pg Pt Mk Lk Ck Jd Ld Pr 12 hq13) hP (hDD _ _ _ _ _ _ _ _ _ _ _ _ _) hS hl.1 rfl cw_23 k_3_48 k_3_50 k_s_4 k_1_3 k_3_51 hv_Rd_refuse rfl rfl ⟨(by dsimp only [rm_Rd_readObject, rm_Rd_refuse]; omega), (by dsimp only [rm_Rd_readObject, rm_Rd_refuse]; omega)⟩ rfl (Nat.le_of_ble_eq_true rfl) ⟨Nat.zero_le _, Nat.zero_le _⟩ rfl d_Rd_readObject_168 (fun H locs hP hS => ?_)
    obtain ⟨g11, h⟩ := o_gd_some h
    cases h
    exact o_rz C (o_zb_nar g11) hP hS d_Rd_readObject_171
  · replace h := o_tt c1 h
    refine lv_aload_n hx hb d_Rd_readObject_23 rfl (lv_at hl 0 rfl) ?_
    refine lv_dup hx hb d_Rd_readObject_24 rfl ?_
    refine o_get (v := .int (Rd_position q1)) C in_Rd hP 23 cw_23 rfl 3 (by decide) k_1_97 rfl rfl d_Rd_readObject_25 ?_
    refine lv_iconst (v := (1:Int32)) hx hb d_Rd_readObject_28 (by decide) ?_
    refine lv_iadd hx hb d_Rd_readObject_29 ?_
    refine o_put (v := .int ((Rd_position q1) + (1:Int32))) (ty := .int) (w1 := (o_cw ad ca 12 Sj T0 tc (Rd_mk (Rd_words q1) (Rd_wordCount q1) ((Rd_position q1) + (1:Int32)) (Rd_limit q1) (Rd_wrongPlace q1)) Pg Pt Mk Lk Ck Jd Ld Pr)) C in_Rd t_Rd t_Rd_ok n_Rd hP (hDD _ _ _ _ _ _ _ _ _ _ _ _ _) hS 23 cw_23 rfl 3 (by decide) k_1_97 rfl rfl (by decide +kernel) rfl rfl (Nat.le_of_ble_eq_true rfl) rfl d_Rd_readObject_30 (fun H locs hP hS => ?_)
    refine lv_iconst (v := (1:Int32)) hx hb d_Rd_readObject_33 (by decide) ?_
    cases h
    exact o_rz (v := (1:Int32)) C o_nar1 hP hS d_Rd_readObject_34
set_option maxHeartbeats 4000000 in
set_option maxRecDepth 100000 in
theorem w_Rd_readArray_j90_0 {E : (Nat → Prop) → State → Heap → Prop} {p : Program} {l : Launch} {e : Env} {s : State} {m : MethodId} {args : Array Value} {below : List Frame} {meth : Method} {c : Code} {D : va_G} {ad kd sd vd xd : Nat → Nat} {ca : Nat → ClassId} {A : Nat → Prop} {Q : State → Prop} (hE : o_EK E kd sd vd xd) (C : o_Cx E p s m args meth c D o_cls (o_tys ca) "SchemaJudge$Reader" b_Rd_readArray (some .boolean) 5 cc_Rd_readArray A) (hDD : ∀ (rt : Nat) (Sj : SSJ) (T0 : STx) (T1 : STx) (Rd : SRd) (Pg : SPg) (Pt : SPt) (Mk : SMk) (Lk : SLk) (Ck : SCk) (Jd : SJd) (Ld : SLd) (Pr : SPr), va_D A (o_cw ad ca rt Sj T0 T1 Rd Pg Pt Mk Lk Ck Jd Ld Pr)) (d : Nat) (rec : Int32 → Int32 → Int32 → STx → SRd → Option (Int32 × STx × SRd)) (hrec : ∀ (x1 : Int32) (x2 : Int32) (x3 : Int32) (tc : STx) (Rd : SRd) (Sj : SSJ) (T1 : STx) (Pg : SPg) (Pt : SPt) (Mk : SMk) (Lk : SLk) (Ck : SCk) (Jd : SJd) (Ld : SLd) (Pr : SPr) (r : Int32 × STx × SRd), rec x1 x2 x3 tc Rd = some r → o_Cn E l D o_cls (o_tys ca) y_Rd_readValue cc_Rd_readValue (rm_Rd_readValue d) [.ref (ad 23), .int x1, .int x2, .int x3] (o_cw ad ca 1 Sj tc T1 Rd Pg Pt Mk Lk Ck Jd Ld Pr) (o_cw ad ca 1 Sj r.2.1 T1 r.2.2 Pg Pt Mk Lk Ck Jd Ld Pr) (some (.int r.1))) (n : Nat) (u37_x1 : Int32) (u37_x2 : Int32) (u37_Sj : SSJ) (u37_T1 : STx) (u37_Pg : SPg) (u37_Pt : SPt) (u37_Mk : SMk) (u37_Lk : SLk) (u37_Ck : SCk) (u37_Jd : SJd) (u37_Ld : SLd) (u37_Pr : SPr) (x3 : Int32) (x4 : Int32) (tc : STx) (Rd : SRd) {q : Nat × Int32 × STx × SRd} (h : m_Rd_readArray_j90 n rec u37_x1 u37_x2 x3 x4 tc Rd = some q) (h0 : q.1 = 0 → o_At p l e (rm_Rd_readArray d) s m args below meth c Q o_cls D A 5 37 [] (o_cw ad ca 1 u37_Sj q.2.2.1 u37_T1 q.2.2.2 u37_Pg u37_Pt u37_Mk u37_Lk u37_Ck u37_Jd u37_Ld u37_Pr) [(0, .ref (ad 23)), (1, .int u37_x1), (2, .int u37_x2), (3, .int q.2.1)]) (h1 : q.1 ≠ 0 → (if q.1 = 1 then o_At p l e (rm_Rd_readArray d) s m args below meth c Q o_cls D A 5 55 [] (o_cw ad ca 1 u37_Sj q.2.2.1 u37_T1 q.2.2.2 u37_Pg u37_Pt u37_Mk u37_Lk u37_Ck u37_Jd u37_Ld u37_Pr) [] else if q.1 = 2 then o_At p l e (rm_Rd_readArray d) s m args below meth c Q o_cls D A 5 81 [] (o_cw ad ca 1 u37_Sj q.2.2.1 u37_T1 q.2.2.2 u37_Pg u37_Pt u37_Mk u37_Lk u37_Ck u37_Jd u37_Ld u37_Pr) [(0, .ref (ad 23))] else if q.1 = 3 then o_At p l e (rm_Rd_readArray d) s m args below meth c Q o_cls D A 5 107 [] (o_cw ad ca 1 u37_Sj q.2.2.1 u37_T1 q.2.2.2 u37_Pg u37_Pt u37_Mk u37_Lk u37_Ck u37_Jd u37_Ld u37_Pr) [(0, .ref (ad 23)), (1, .int u37_x1), (3, .int q.2.1)] else o_At p l e (rm_Rd_readArray d) s m args below meth c Q o_cls D A 5 126 [] (o_cw ad ca 1 u37_Sj q.2.2.1 u37_T1 q.2.2.2 u37_Pg u37_Pt u37_Mk u37_Lk u37_Ck u37_Jd u37_Ld u37_Pr) [(0, .ref (ad 23))])) : o_At p l e (rm_Rd_readArray d) s m args below meth c Q o_cls D A 5 90 [] (o_cw ad ca 1 u37_Sj tc u37_T1 Rd u37_Pg u37_Pt u37_Mk u37_Lk u37_Ck u37_Jd u37_Ld u37_Pr) [(0, .ref (ad 23)), (1, .int u37_x1), (2, .int u37_x2), (3, .int x3), (4, .int x4)] := by
  unfold m_Rd_readArray_j90 at h
  intro H locs ls hP hS hl
  have C0 := C
  obtain ⟨hx, hb, -, -, -, hown, hts, hK, -, -⟩ := C0
  refine lv_aload_n hx hb d_Rd_readArray_90 rfl (lv_at hl 0 rfl) ?_
  refine lv_dup hx hb d_Rd_readArray_91 rfl ?_
  refine o_get (v := .int (Rd_position Rd)) C in_Rd hP 23 cw_23 rfl 3 (by decide) k_1_97 rfl rfl d_Rd_readArray_92 ?_
  refine lv_iconst (v := (1:Int32)) hx hb d_Rd_readArray_95 (by decide) ?_
  refine lv_iadd hx hb d_Rd_readArray_96 ?_
  refine o_put (v := .int ((Rd_position Rd) + (1:Int32))) (ty := .int) (w1 := (o_cw ad ca 1 u37_Sj tc u37_T1 (Rd_mk (Rd_words Rd) (Rd_wordCount Rd) ((Rd_position Rd) + (1:Int32)) (Rd_limit Rd) (Rd_wrongPlace Rd)) u37_Pg u37_Pt u37_Mk u37_Lk u37_Ck u37_Jd u37_Ld u37_Pr)) C in_Rd t_Rd t_Rd_ok n_Rd hP (hDD _ _ _ _ _ _ _ _ _ _ _ _ _) hS 23 cw_23 rfl 3 (by decide) k_1_97 rfl rfl (by decide +kernel) rfl rfl (Nat.le_of_ble_eq_true rfl) rfl d_Rd_readArray_97 (fun H locs hP hS => ?_)
  refine lv_iload hx hb d_Rd_readArray_100 (lv_at hl 4 rfl) ?_
  refine lv_bipush (v := (93:Int32)) hx hb d_Rd_readArray_102 (by decide) ?_
  refine lv_icmp_ne (tgt := 120) hx hb d_Rd_readArray_104 (by decide) (fun c5 => ?_) (fun c5 => ?_)
  · replace h := o_ff c5 h
    obtain ⟨x3_120, ex3_120⟩ : ∃ y : Int32, y = x3 + (1:Int32) := ⟨_, rfl⟩
    replace h := o_nm_at ex3_120 h
    refine lv_iinc (v := x3_120) (lv' := [(3, .int x3_120), (0, .ref (ad 23)), (1, .int u37_x1), (2, .int u37_x2), (4, .int x4)]) hx hb d_Rd_readArray_120 hl (k := 3) rfl (by rw [ex3_120]; rfl) (by decide) rfl (fun ls hl => ?_)
    refine lv_goto (tgt := 37) hx hb d_Rd_readArray_123 (by decide) ?_
    cases h
    exact h0 rfl _ _ _ hP hS (lv_sub hl [1, 2, 3, 0] rfl)
  · replace h := o_tt c5 h
    cases h
    exact h1 (Nat.succ_ne_zero 2) _ _ _ hP hS (lv_sub hl [0, 1, 3] rfl)
set_option maxHeartbeats 4000000 in
set_option maxRecDepth 100000 in
theorem w_Rd_readArray_b37_0 {E : (Nat → Prop) → State → Heap → Prop} {p : Program} {l : Launch} {e : Env} {s : State} {m : MethodId} {args : Array Value} {below : List Frame} {meth : Method} {c : Code} {D : va_G} {ad kd sd vd xd : Nat → Nat} {ca : Nat → ClassId} {A : Nat → Prop} {Q : State → Prop} (hE : o_EK E kd sd vd xd) (C : o_Cx E p s m args meth c D o_cls (o_tys ca) "SchemaJudge$Reader" b_Rd_readArray (some .boolean) 5 cc_Rd_readArray A) (hDD : ∀ (rt : Nat) (Sj : SSJ) (T0 : STx) (T1 : STx) (Rd : SRd) (Pg : SPg) (Pt : SPt) (Mk : SMk) (Lk : SLk) (Ck : SCk) (Jd : SJd) (Ld : SLd) (Pr : SPr), va_D A (o_cw ad ca rt Sj T0 T1 Rd Pg Pt Mk Lk Ck Jd Ld Pr)) (d : Nat) (rec : Int32 → Int32 → Int32 → STx → SRd → Option (Int32 × STx × SRd)) (hrec : ∀ (x1 : Int32) (x2 : Int32) (x3 : Int32) (tc : STx) (Rd : SRd) (Sj : SSJ) (T1 : STx) (Pg : SPg) (Pt : SPt) (Mk : SMk) (Lk : SLk) (Ck : SCk) (Jd : SJd) (Ld : SLd) (Pr : SPr) (r : Int32 × STx × SRd), rec x1 x2 x3 tc Rd = some r → o_Cn E l D o_cls (o_tys ca) y_Rd_readValue cc_Rd_readValue (rm_Rd_readValue d) [.ref (ad 23), .int x1, .int x2, .int x3] (o_cw ad ca 1 Sj tc T1 Rd Pg Pt Mk Lk Ck Jd Ld Pr) (o_cw ad ca 1 Sj r.2.1 T1 r.2.2 Pg Pt Mk Lk Ck Jd Ld Pr) (some (.int r.1))) (n : Nat) (u37_x1 : Int32) (u37_x2 : Int32) (u37_Sj : SSJ) (u37_T1 : STx) (u37_Pg : SPg) (u37_Pt : SPt) (u37_Mk : SMk) (u37_Lk : SLk) (u37_Ck : SCk) (u37_Jd : SJd) (u37_Ld : SLd) (u37_Pr : SPr) (z : Int32 × STx × SRd) (q : Nat × Int32 × STx × SRd) (h : m_Rd_readArray_b37 n rec u37_x1 u37_x2 z = some q) (h0 : q.1 = 0 → o_At p l e (rm_Rd_readArray d) s m args below meth c Q o_cls D A 5 37 [] (o_cw ad ca 1 u37_Sj q.2.2.1 u37_T1 q.2.2.2 u37_Pg u37_Pt u37_Mk u37_Lk u37_Ck u37_Jd u37_Ld u37_Pr) [(0, .ref (ad 23)), (1, .int u37_x1), (2, .int u37_x2), (3, .int q.2.1)]) (h1 : q.1 ≠ 0 → (if q.1 = 1 then o_At p l e (rm_Rd_readArray d) s m args below meth c Q o_cls D A 5 55 [] (o_cw ad ca 1 u37_Sj q.2.2.1 u37_T1 q.2.2.2 u37_Pg u37_Pt u37_Mk u37_Lk u37_Ck u37_Jd u37_Ld u37_Pr) [] else if q.1 = 2 then o_At p l e (rm_Rd_readArray d) s m args below meth c Q o_cls D A 5 81 [] (o_cw ad ca 1 u37_Sj q.2.2.1 u37_T1 q.2.2.2 u37_Pg u37_Pt u37_Mk u37_Lk u37_Ck u37_Jd u37_Ld u37_Pr) [(0, .ref (ad 23))] else if q.1 = 3 then o_At p l e (rm_Rd_readArray d) s m args below meth c Q o_cls D A 5 107 [] (o_cw ad ca 1 u37_Sj q.2.2.1 u37_T1 q.2.2.2 u37_Pg u37_Pt u37_Mk u37_Lk u37_Ck u37_Jd u37_Ld u37_Pr) [(0, .ref (ad 23)), (1, .int u37_x1), (3, .int q.2.1)] else o_At p l e (rm_Rd_readArray d) s m args below meth c Q o_cls D A 5 126 [] (o_cw ad ca 1 u37_Sj q.2.2.1 u37_T1 q.2.2.2 u37_Pg u37_Pt u37_Mk u37_Lk u37_Ck u37_Jd u37_Ld u37_Pr) [(0, .ref (ad 23))])) : o_At p l e (rm_Rd_readArray d) s m args below meth c Q o_cls D A 5 37 [] (o_cw ad ca 1 u37_Sj z.2.1 u37_T1 z.2.2 u37_Pg u37_Pt u37_Mk u37_Lk u37_Ck u37_Jd u37_Ld u37_Pr) [(0, .ref (ad 23)), (1, .int u37_x1), (2, .int u37_x2), (3, .int z.1)] := by
  unfold m_Rd_readArray_b37 at h
  intro H locs ls hP hS hl
  have C0 := C
  obtain ⟨hx, hb, -, -, -, hown, hts, hK, -, -⟩ := C0
  refine lv_iload_n hx hb d_Rd_readArray_37 rfl (lv_at hl 3 rfl) ?_
  refine lv_bipush (v := (60:Int32)) hx hb d_Rd_readArray_38 (by decide) ?_
  refine lv_icmp_ge (tgt := 126) hx hb d_Rd_readArray_40 (by decide) (fun c2 => ?_) (fun c2 => ?_)
  · replace h := o_tt c2 h
    cases h
    exact h1 (Nat.succ_ne_zero 3) _ _ _ hP hS (lv_sub hl [0] rfl)
  · replace h := o_ff c2 h
    refine lv_aload_n hx hb d_Rd_readArray_43 rfl (lv_at hl 0 rfl) ?_
    refine lv_iload_n hx hb d_Rd_readArray_44 rfl (lv_at hl 1 rfl) ?_
    refine lv_iload_n hx hb d_Rd_readArray_45 rfl (lv_at hl 3 rfl) ?_
    refine lv_iload_n hx hb d_Rd_readArray_46 rfl (lv_at hl 2 rfl) ?_
    refine lv_iconst (v := (1:Int32)) hx hb d_Rd_readArray_47 (by decide) ?_
    refine lv_iadd hx hb d_Rd_readArray_48 ?_
    obtain ⟨q3, hq3, h⟩ := o_bd_some h
    refine o_V (st1 := [.int q3.1]) (w1 := (o_cw ad ca 1 u37_Sj q3.2.1 u37_T1 q3.2.2 u37_Pg u37_Pt u37_Mk u37_Lk u37_Ck u37_Jd u37_Ld u37_Pr)) hE.1 C (hrec u37_x1 z.1 (u37_x2 + (1:Int32)) z.2.1 z.2.2 u37_Sj u37_T1 u37_Pg u37_Pt u37_Mk u37_Lk u37_Ck u37_Jd u37_Ld u37_Pr _ hq3) hP (hDD _ _ _ _ _ _ _ _ _ _ _ _ _) hS hl.1 rfl cw_23 k_3_30 k_3_32 k_s_1 k_1_3 k_3_33 hv_Rd_readValue rfl rfl ⟨(by dsimp only [rm_Rd_readArray, rm_Rd_readValue]; omega), (by dsimp only [rm_Rd_readArray, rm_Rd_readValue]; omega)⟩ rfl (Nat.le_of_ble_eq_true rfl) ⟨Nat.zero_le _, Nat.zero_le _⟩ rfl d_Rd_readArray_49 (fun H locs hP hS => ?_)
    refine lv_if_ne (tgt := 57) hx hb d_Rd_readArray_52 (by decide) (fun c3 => ?_) (fun c3 => ?_)
    · replace h := o_ff c3 h
      refine lv_aload_n hx hb d_Rd_readArray_57 rfl (lv_at hl 0 rfl) ?_
      obtain ⟨q4, hq4, h⟩ := o_bd_some h
      refine o_V (st1 := []) (w1 := (o_cw ad ca 1 u37_Sj q3.2.1 u37_T1 q4 u37_Pg u37_Pt u37_Mk u37_Lk u37_Ck u37_Jd u37_Ld u37_Pr)) hE.1 C (c_Rd_skipBlanks hE l n q3.2.2 u37_Sj q3.2.1 u37_T1 u37_Pg u37_Pt u37_Mk u37_Lk u37_Ck u37_Jd u37_Ld u37_Pr 1 hq4) hP (hDD _ _ _ _ _ _ _ _ _ _ _ _ _) hS hl.1 rfl cw_23 k_3_34 k_3_36 k_s_2 k_1_3 k_3_37 hv_Rd_skipBlanks rfl rfl ⟨(by dsimp only [rm_Rd_readArray, rm_Rd_skipBlanks]; omega), (by dsimp only [rm_Rd_readArray, rm_Rd_skipBlanks]; omega)⟩ rfl (Nat.le_of_ble_eq_true rfl) ⟨Nat.zero_le _, Nat.zero_le _⟩ rfl d_Rd_readArray_58 (fun H locs hP hS => ?_)
      refine lv_aload_n hx hb d_Rd_readArray_61 rfl (lv_at hl 0 rfl) ?_
      obtain ⟨q5, hq5, h⟩ := o_bd_some h
      refine o_V (st1 := [.int q5]) (w1 := (o_cw ad ca 1 u37_Sj q3.2.1 u37_T1 q4 u37_Pg u37_Pt u37_Mk u37_Lk u37_Ck u37_Jd u37_Ld u37_Pr)) hE.1 C (c_Rd_peek hE l q4 u37_Sj q3.2.1 u37_T1 u37_Pg u37_Pt u37_Mk u37_Lk u37_Ck u37_Jd u37_Ld u37_Pr 1 hq5) hP (hDD _ _ _ _ _ _ _ _ _ _ _ _ _) hS hl.1 rfl cw_23 k_3_38 k_3_40 k_s_3 k_1_3 k_3_41 hv_Rd_peek rfl rfl ⟨(by dsimp only [rm_Rd_readArray, rm_Rd_peek]; omega), (by dsimp only [rm_Rd_readArray, rm_Rd_peek]; omega)⟩ rfl (Nat.le_of_ble_eq_true rfl) ⟨Nat.zero_le _, Nat.zero_le _⟩ rfl d_Rd_readArray_62 (fun H locs hP hS => ?_)
      refine lv_istore (lv' := [(4, .int q5), (0, .ref (ad 23)), (1, .int u37_x1), (2, .int u37_x2), (3, .int z.1)]) hx hb d_Rd_readArray_65 hl (by decide) rfl (fun ls hl => ?_)
      refine lv_iload hx hb d_Rd_readArray_67 (lv_at hl 0 rfl) ?_
      refine lv_bipush (v := (44:Int32)) hx hb d_Rd_readArray_69 (by decide) ?_
      refine lv_icmp_eq (tgt := 90) hx hb d_Rd_readArray_71 (by decide) (fun c4 => ?_) (fun c4 => ?_)
      · replace h := o_tt c4 h
        exact w_Rd_readArray_j90_0 hE C hDD d rec hrec n u37_x1 u37_x2 u37_Sj u37_T1 u37_Pg u37_Pt u37_Mk u37_Lk u37_Ck u37_Jd u37_Ld u37_Pr z.1 q5 q3.2.1 q4 h h0 h1 _ _ _ hP hS (lv_sub hl [1, 2, 3, 4, 0] rfl)
      · replace h := o_ff c4 h
        refine lv_iload hx hb d_Rd_readArray_74 (lv_at hl 0 rfl) ?_
        refine lv_bipush (v := (93:Int32)) hx hb d_Rd_readArray_76 (by decide) ?_
        refine lv_icmp_eq (tgt := 90) hx hb d_Rd_readArray_78 (by decide) (fun c6 => ?_) (fun c6 => ?_)
        · replace h := o_tt c6 h
          exact w_Rd_readArray_j90_0 hE C hDD d rec hrec n u37_x1 u37_x2 u37_Sj u37_T1 u37_Pg u37_Pt u37_Mk u37_Lk u37_Ck u37_Jd u37_Ld u37_Pr z.1 q5 q3.2.1 q4 h h0 h1 _ _ _ hP hS (lv_sub hl [1, 2, 3, 4, 0] rfl)
        · replace h := o_ff c6 h
          cases h
          exact h1 (Nat.succ_ne_zero 1) _ _ _ hP hS (lv_sub hl [1] rfl)
    · replace h := o_tt c3 h
      cases h
      exact h1 (Nat.succ_ne_zero 0) _ _ _ hP hS (lv_sub hl [] rfl)
set_option maxHeartbeats 4000000 in
set_option maxRecDepth 100000 in
theorem c_Rd_readArray_0 {E : (Nat → Prop) → State → Heap → Prop} {D : va_G} {ad kd sd vd xd : Nat → Nat} {ca : Nat → ClassId} (hE : o_EK E kd sd vd xd) (l : Launch) (n : Nat) (d : Nat) (rec : Int32 → Int32 → Int32 → STx → SRd → Option (Int32 × STx × SRd)) (hrec : ∀ (x1 : Int32) (x2 : Int32) (x3 : Int32) (tc : STx) (Rd : SRd) (Sj : SSJ) (T1 : STx) (Pg : SPg) (Pt : SPt) (Mk : SMk) (Lk : SLk) (Ck : SCk) (Jd : SJd) (Ld : SLd) (Pr : SPr) (r : Int32 × STx × SRd), rec x1 x2 x3 tc Rd = some r → o_Cn E l D o_cls (o_tys ca) y_Rd_readValue cc_Rd_readValue (rm_Rd_readValue d) [.ref (ad 23), .int x1, .int x2, .int x3] (o_cw ad ca 1 Sj tc T1 Rd Pg Pt Mk Lk Ck Jd Ld Pr) (o_cw ad ca 1 Sj r.2.1 T1 r.2.2 Pg Pt Mk Lk Ck Jd Ld Pr) (some (.int r.1))) (x1 : Int32) (x2 : Int32) (tc : STx) (Rd : SRd) (Sj : SSJ) (T1 : STx) (Pg : SPg) (Pt : SPt) (Mk : SMk) (Lk : SLk) (Ck : SCk) (Jd : SJd) (Ld : SLd) (Pr : SPr) {r : Int32 × STx × SRd} (h : m_Rd_readArray n rec x1 x2 tc Rd = some r) : o_Cn E l D o_cls (o_tys ca) y_Rd_readArray cc_Rd_readArray (rm_Rd_readArray d) [.ref (ad 23), .int x1, .int x2] (o_cw ad ca 1 Sj tc T1 Rd Pg Pt Mk Lk Ck Jd Ld Pr) (o_cw ad ca 1 Sj r.2.1 T1 r.2.2 Pg Pt Mk Lk Ck Jd Ld Pr) (some (.int r.1)) := by
  refine o_Cn_of (by decide) (Nat.le_of_ble_eq_true rfl) ?_
  intro p e s m below meth c A ls C hD hP hS hl
  have hDD : ∀ (rt : Nat) (Sj : SSJ) (T0 : STx) (T1 : STx) (Rd : SRd) (Pg : SPg) (Pt : SPt) (Mk : SMk) (Lk : SLk) (Ck : SCk) (Jd : SJd) (Ld : SLd) (Pr : SPr), va_D A (o_cw ad ca rt Sj T0 T1 Rd Pg Pt Mk Lk Ck Jd Ld Pr) := fun _ _ _ _ _ _ _ _ _ _ _ _ _ => o_D_map hD rfl
  have hl : lv_has ls 5 [(0, .ref (ad 23)), (1, .int x1), (2, .int x2)] := hl
  unfold m_Rd_readArray at h
  have C0 := C
  obtain ⟨hx, hb, -, -, -, hown, hts, hK, -, -⟩ := C0
  refine lv_aload_n hx hb d_Rd_readArray_0 rfl (lv_at hl 0 rfl) ?_
  refine lv_dup hx hb d_Rd_readArray_1 rfl ?_
  refine o_get (v := .int (Rd_position Rd)) C in_Rd hP 23 cw_23 rfl 3 (by decide) k_1_97 rfl rfl d_Rd_readArray_2 ?_
  refine lv_iconst (v := (1:Int32)) hx hb d_Rd_readArray_5 (by decide) ?_
  refine lv_iadd hx hb d_Rd_readArray_6 ?_
  refine o_put (v := .int ((Rd_position Rd) + (1:Int32))) (ty := .int) (w1 := (o_cw ad ca 1 Sj tc T1 (Rd_mk (Rd_words Rd) (Rd_wordCount Rd) ((Rd_position Rd) + (1:Int32)) (Rd_limit Rd) (Rd_wrongPlace Rd)) Pg Pt Mk Lk Ck Jd Ld Pr)) C in_Rd t_Rd t_Rd_ok n_Rd hP (hDD _ _ _ _ _ _ _ _ _ _ _ _ _) hS 23 cw_23 rfl 3 (by decide) k_1_97 rfl rfl (by decide +kernel) rfl rfl (Nat.le_of_ble_eq_true rfl) rfl d_Rd_readArray_7 (fun H locs hP hS => ?_)
  refine lv_aload_n hx hb d_Rd_readArray_10 rfl (lv_at hl 0 rfl) ?_
  obtain ⟨q1, hq1, h⟩ := o_bd_some h
  refine o_V (st1 := []) (w1 := (o_cw ad ca 1 Sj tc T1 q1 Pg Pt Mk Lk Ck Jd Ld Pr)) hE.1 C (c_Rd_skipBlanks hE l n (Rd_mk (Rd_words Rd) (Rd_wordCount Rd) ((Rd_position Rd) + (1:Int32)) (Rd_limit Rd) (Rd_wrongPlace Rd)) Sj tc T1 Pg Pt Mk Lk Ck Jd Ld Pr 1 hq1) hP (hDD _ _ _ _ _ _ _ _ _ _ _ _ _) hS hl.1 rfl cw_23 k_3_34 k_3_36 k_s_2 k_1_3 k_3_37 hv_Rd_skipBlanks rfl rfl ⟨(by dsimp only [rm_Rd_readArray, rm_Rd_skipBlanks]; omega), (by dsimp only [rm_Rd_readArray, rm_Rd_skipBlanks]; omega)⟩ rfl (Nat.le_of_ble_eq_true rfl) ⟨Nat.zero_le _, Nat.zero_le _⟩ rfl d_Rd_readArray_11 (fun H locs hP hS => ?_)
  refine lv_aload_n hx hb d_Rd_readArray_14 rfl (lv_at hl 0 rfl) ?_
  obtain ⟨q2, hq2, h⟩ := o_bd_some h
  refine o_V (st1 := [.int q2]) (w1 := (o_cw ad ca 1 Sj tc T1 q1 Pg Pt Mk Lk Ck Jd Ld Pr)) hE.1 C (c_Rd_peek hE l q1 Sj tc T1 Pg Pt Mk Lk Ck Jd Ld Pr 1 hq2) hP (hDD _ _ _ _ _ _ _ _ _ _ _ _ _) hS hl.1 rfl cw_23 k_3_38 k_3_40 k_s_3 k_1_3 k_3_41 hv_Rd_peek rfl rfl ⟨(by dsimp only [rm_Rd_readArray, rm_Rd_peek]; omega), (by dsimp only [rm_Rd_readArray, rm_Rd_peek]; omega)⟩ rfl (Nat.le_of_ble_eq_true rfl) ⟨Nat.zero_le _, Nat.zero_le _⟩ rfl d_Rd_readArray_15 (fun H locs hP hS => ?_)
  refine lv_bipush (v := (93:Int32)) hx hb d_Rd_readArray_18 (by decide) ?_
  refine lv_icmp_ne (tgt := 35) hx hb d_Rd_readArray_20 (by decide) (fun c1 => ?_) (fun c1 => ?_)
  · replace h := o_ff c1 h
    refine lv_iconst (v := (0:Int32)) hx hb d_Rd_readArray_35 (by decide) ?_
    refine lv_istore_n (lv' := [(3, .int (0:Int32)), (0, .ref (ad 23)), (1, .int x1), (2, .int x2)]) hx hb d_Rd_readArray_36 rfl hl (by decide) rfl (fun ls hl => ?_)
    obtain ⟨q6, hq6, h⟩ := o_bd_some h
    refine o_sim2 (AH := fun zz => o_At p l e (rm_Rd_readArray d) s m _ below meth c _ o_cls D A 5 37 [] (o_cw ad ca 1 Sj zz.2.1 T1 zz.2.2 Pg Pt Mk Lk Ck Jd Ld Pr) [(0, .ref (ad 23)), (1, .int x1), (2, .int x2), (3, .int zz.1)]) (AX := fun qq => if qq.1 = 1 then o_At p l e (rm_Rd_readArray d) s m _ below meth c _ o_cls D A 5 55 [] (o_cw ad ca 1 Sj qq.2.2.1 T1 qq.2.2.2 Pg Pt Mk Lk Ck Jd Ld Pr) [] else if qq.1 = 2 then o_At p l e (rm_Rd_readArray d) s m _ below meth c _ o_cls D A 5 81 [] (o_cw ad ca 1 Sj qq.2.2.1 T1 qq.2.2.2 Pg Pt Mk Lk Ck Jd Ld Pr) [(0, .ref (ad 23))] else if qq.1 = 3 then o_At p l e (rm_Rd_readArray d) s m _ below meth c _ o_cls D A 5 107 [] (o_cw ad ca 1 Sj qq.2.2.1 T1 qq.2.2.2 Pg Pt Mk Lk Ck Jd Ld Pr) [(0, .ref (ad 23)), (1, .int x1), (3, .int qq.2.1)] else o_At p l e (rm_Rd_readArray d) s m _ below meth c _ o_cls D A 5 126 [] (o_cw ad ca 1 Sj qq.2.2.1 T1 qq.2.2.2 Pg Pt Mk Lk Ck Jd Ld Pr) [(0, .ref (ad 23))]) (fun zz qq h h0 h1 => w_Rd_readArray_b37_0 hE C hDD d rec hrec n x1 x2 Sj T1 Pg Pt Mk Lk Ck Jd Ld Pr zz qq h h0 h1) n _ q6 hq6 ?_ _ _ _ hP hS (lv_sub hl [1, 2, 3, 0] rfl)
    by_cases c9 : q6.1 = 1
    · replace h := o_tt c9 h
      refine o_ip c9 ?_
      intro H locs ls hP hS hl
      refine lv_iconst (v := (0:Int32)) hx hb d_Rd_readArray_55 (by decide) ?_
      cases h
      exact o_rz (v := (0:Int32)) C o_nar0 hP hS d_Rd_readArray_56
    replace h := o_ff c9 h
    refine o_in_ c9 ?_
    by_cases c10 : q6.1 = 2
    · replace h := o_tt c10 h
      refine o_ip c10 ?_
      intro H locs ls hP hS hl
      refine lv_aload_n hx hb d_Rd_readArray_81 rfl (lv_at hl 0 rfl) ?_
      refine lv_aload_n hx hb d_Rd_readArray_82 rfl (lv_at hl 0 rfl) ?_
      refine o_get (v := .int (Rd_position q6.2.2.2)) C in_Rd hP 23 cw_23 rfl 3 (by decide) k_1_97 rfl rfl d_Rd_readArray_83 ?_
      obtain ⟨q7, hq7, h⟩ := o_bd_some h
      refine o_V (st1 := [.int q7.1]) (w1 := (o_cw ad ca 1 Sj q6.2.2.1 T1 q7.2 Pg Pt Mk Lk Ck Jd Ld Pr)) hE.1 C (c_Rd_refuse hE l (Rd_position q6.2.2.2) q6.2.2.2 Sj q6.2.2.1 T1 Pg Pt Mk Lk Ck Jd Ld Pr 1 hq7) hP (hDD _ _ _ _ _ _ _ _ _ _ _ _ _) hS hl.1 rfl cw_23 k_3_48 k_3_50 k_s_4 k_1_3 k_3_51 hv_Rd_refuse rfl rfl ⟨(by dsimp only [rm_Rd_readArray, rm_Rd_refuse]; omega), (by dsimp only [rm_Rd_readArray, rm_Rd_refuse]; omega)⟩ rfl (Nat.le_of_ble_eq_true rfl) ⟨Nat.zero_le _, Nat.zero_le _⟩ rfl d_Rd_readArray_86 (fun H locs hP hS => ?_)
      obtain ⟨g7, h⟩ := o_gd_some h
      cases h
      exact o_rz C (o_zb_nar g7) hP hS d_Rd_readArray_89
    replace h := o_ff c10 h
    refine o_in_ c10 ?_
    by_cases c11 : q6.1 = 3
    · replace h := o_tt c11 h
      refine o_ip c11 ?_
      intro H locs ls hP hS hl
      refine lv_aload_n hx hb d_Rd_readArray_107 rfl (lv_at hl 0 rfl) ?_
      refine o_get (v := .ref (ad 1)) C in_Rd hP 23 cw_23 rfl 2 (by decide) k_1_96 rfl rfl d_Rd_readArray_108 ?_
      refine lv_iload_n hx hb d_Rd_readArray_111 rfl (lv_at hl 1 rfl) ?_
      refine lv_iload_n hx hb d_Rd_readArray_112 rfl (lv_at hl 2 rfl) ?_
      refine lv_iconst (v := (1:Int32)) hx hb d_Rd_readArray_113 (by decide) ?_
      refine lv_iadd hx hb d_Rd_readArray_114 ?_
      obtain ⟨q8, hq8, h⟩ := o_bd_some h
      refine o_V (st1 := []) (w1 := (o_cw ad ca 1 Sj q8 T1 q6.2.2.2 Pg Pt Mk Lk Ck Jd Ld Pr)) hE.1 C (c_Tx_endParent_0 hE l x1 (q6.2.1 + (1:Int32)) q6.2.2.1 Sj T1 q6.2.2.2 Pg Pt Mk Lk Ck Jd Ld Pr 1 hq8) hP (hDD _ _ _ _ _ _ _ _ _ _ _ _ _) hS hl.1 rfl cw_1 k_3_190 k_3_191 k_3_192 k_1_2 k_3_193 hv_Tx_endParent rfl rfl ⟨(by dsimp only [rm_Rd_readArray, rm_Tx_endParent]; omega), (by dsimp only [rm_Rd_readArray, rm_Tx_endParent]; omega)⟩ rfl (Nat.le_of_ble_eq_true rfl) ⟨Nat.zero_le _, Nat.zero_le _⟩ rfl d_Rd_readArray_115 (fun H locs hP hS => ?_)
      refine lv_iconst (v := (1:Int32)) hx hb d_Rd_readArray_118 (by decide) ?_
      cases h
      exact o_rz (v := (1:Int32)) C o_nar1 hP hS d_Rd_readArray_119
    replace h := o_ff c11 h
    refine o_in_ c11 ?_
    intro H locs ls hP hS hl
    refine lv_aload_n hx hb d_Rd_readArray_126 rfl (lv_at hl 0 rfl) ?_
    obtain ⟨q9, hq9, h⟩ := o_bd_some h
    refine o_V (st1 := []) (w1 := (o_cw ad ca 1 Sj q6.2.2.1 T1 q9 Pg Pt Mk Lk Ck Jd Ld Pr)) hE.1 C (c_Rd_skipBlanks hE l n q6.2.2.2 Sj q6.2.2.1 T1 Pg Pt Mk Lk Ck Jd Ld Pr 1 hq9) hP (hDD _ _ _ _ _ _ _ _ _ _ _ _ _) hS hl.1 rfl cw_23 k_3_34 k_3_36 k_s_2 k_1_3 k_3_37 hv_Rd_skipBlanks rfl rfl ⟨(by dsimp only [rm_Rd_readArray, rm_Rd_skipBlanks]; omega), (by dsimp only [rm_Rd_readArray, rm_Rd_skipBlanks]; omega)⟩ rfl (Nat.le_of_ble_eq_true rfl) ⟨Nat.zero_le _, Nat.zero_le _⟩ rfl d_Rd_readArray_127 (fun H locs hP hS => ?_)
    refine lv_aload_n hx hb d_Rd_readArray_130 rfl (lv_at hl 0 rfl) ?_
    refine lv_aload_n hx hb d_Rd_readArray_131 rfl (lv_at hl 0 rfl) ?_
    refine o_get (v := .int (Rd_position q9)) C in_Rd hP 23 cw_23 rfl 3 (by decide) k_1_97 rfl rfl d_Rd_readArray_132 ?_
    obtain ⟨q10, hq10, h⟩ := o_bd_some h
    refine o_V (st1 := [.int q10.1]) (w1 := (o_cw ad ca 1 Sj q6.2.2.1 T1 q10.2 Pg Pt Mk Lk Ck Jd Ld Pr)) hE.1 C (c_Rd_refuse hE l (Rd_position q9) q9 Sj q6.2.2.1 T1 Pg Pt Mk Lk Ck Jd Ld Pr 1 hq10) hP (hDD _ _ _ _ _ _ _ _ _ _ _ _ _) hS hl.1 rfl cw_23 k_3_48 k_3_50 k_s_4 k_1_3 k_3_51 hv_Rd_refuse rfl rfl ⟨(by dsimp only [rm_Rd_readArray, rm_Rd_refuse]; omega), (by dsimp only [rm_Rd_readArray, rm_Rd_refuse]; omega)⟩ rfl (Nat.le_of_ble_eq_true rfl) ⟨Nat.zero_le _, Nat.zero_le _⟩ rfl d_Rd_readArray_135 (fun H locs hP hS => ?_)
    obtain ⟨g8, h⟩ := o_gd_some h
    cases h
    exact o_rz C (o_zb_nar g8) hP hS d_Rd_readArray_138
  · replace h := o_tt c1 h
    refine lv_aload_n hx hb d_Rd_readArray_23 rfl (lv_at hl 0 rfl) ?_
    refine lv_dup hx hb d_Rd_readArray_24 rfl ?_
    refine o_get (v := .int (Rd_position q1)) C in_Rd hP 23 cw_23 rfl 3 (by decide) k_1_97 rfl rfl d_Rd_readArray_25 ?_
    refine lv_iconst (v := (1:Int32)) hx hb d_Rd_readArray_28 (by decide) ?_
    refine lv_iadd hx hb d_Rd_readArray_29 ?_
    refine o_put (v := .int ((Rd_position q1) + (1:Int32))) (ty := .int) (w1 := (o_cw ad ca 1 Sj tc T1 (Rd_mk (Rd_words q1) (Rd_wordCount q1) ((Rd_position q1) + (1:Int32)) (Rd_limit q1) (Rd_wrongPlace q1)) Pg Pt Mk Lk Ck Jd Ld Pr)) C in_Rd t_Rd t_Rd_ok n_Rd hP (hDD _ _ _ _ _ _ _ _ _ _ _ _ _) hS 23 cw_23 rfl 3 (by decide) k_1_97 rfl rfl (by decide +kernel) rfl rfl (Nat.le_of_ble_eq_true rfl) rfl d_Rd_readArray_30 (fun H locs hP hS => ?_)
    refine lv_iconst (v := (1:Int32)) hx hb d_Rd_readArray_33 (by decide) ?_
    cases h
    exact o_rz (v := (1:Int32)) C o_nar1 hP hS d_Rd_readArray_34
