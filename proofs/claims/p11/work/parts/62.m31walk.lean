set_option maxHeartbeats 4000000 in
set_option maxRecDepth 100000 in
theorem w_Ck_takeSchemas_b20 {E : (Nat → Prop) → State → Heap → Prop} {p : Program} {l : Launch} {e : Env} {s : State} {m : MethodId} {args : Array Value} {below : List Frame} {meth : Method} {c : Code} {D : va_G} {ad kd sd vd xd : Nat → Nat} {ca : Nat → ClassId} {A : Nat → Prop} {Q : State → Prop} (hE : o_EK E kd sd vd xd) (C : o_Cx E p s m args meth c D o_cls (o_tys ca) "SchemaJudge$Checker" b_Ck_takeSchemas none 5 cc_Ck_takeSchemas A) (hDD : ∀ (rt : Nat) (Sj : SSJ) (T0 : STx) (T1 : STx) (Rd : SRd) (Pg : SPg) (Pt : SPt) (Mk : SMk) (Lk : SLk) (Ck : SCk) (Jd : SJd) (Ld : SLd) (Pr : SPr), va_D A (o_cw ad ca rt Sj T0 T1 Rd Pg Pt Mk Lk Ck Jd Ld Pr)) (n : Nat) (u20_x1 : Int32) (u20_T0 : STx) (u20_Sj : SSJ) (u20_T1 : STx) (u20_Rd : SRd) (u20_Pg : SPg) (u20_Pt : SPt) (u20_Lk : SLk) (u20_Jd : SJd) (u20_Ld : SLd) (u20_Pr : SPr) (u20_rt : Nat) (z : Int32 × Int32 × SMk × SCk) (q : Nat × Int32 × Int32 × SMk × SCk) (h : m_Ck_takeSchemas_b20 n u20_x1 u20_T0 z = some q) (h0 : q.1 = 0 → o_At p l e rm_Ck_takeSchemas s m args below meth c Q o_cls D A 5 20 [] (o_cw ad ca u20_rt u20_Sj u20_T0 u20_T1 u20_Rd u20_Pg u20_Pt q.2.2.2.1 u20_Lk q.2.2.2.2 u20_Jd u20_Ld u20_Pr) [(0, .ref (ad 45)), (1, .int u20_x1), (3, .int q.2.1), (4, .int q.2.2.1)]) (h1 : q.1 ≠ 0 → (o_At p l e rm_Ck_takeSchemas s m args below meth c Q o_cls D A 5 58 [] (o_cw ad ca u20_rt u20_Sj u20_T0 u20_T1 u20_Rd u20_Pg u20_Pt q.2.2.2.1 u20_Lk q.2.2.2.2 u20_Jd u20_Ld u20_Pr) [])) : o_At p l e rm_Ck_takeSchemas s m args below meth c Q o_cls D A 5 20 [] (o_cw ad ca u20_rt u20_Sj u20_T0 u20_T1 u20_Rd u20_Pg u20_Pt z.2.2.1 u20_Lk z.2.2.2 u20_Jd u20_Ld u20_Pr) [(0, .ref (ad 45)), (1, .int u20_x1), (3, .int z.1), (4, .int z.2.1)] := by
  unfold m_Ck_takeSchemas_b20 at h
  intro H locs ls hP hS hl
  have C0 := C
  obtain ⟨hx, hb, -, -, -, hown, hts, hK, -, -⟩ := C0
  refine lv_iload hx hb d_Ck_takeSchemas_20 (lv_at hl 3 rfl) ?_
  refine lv_aload_n hx hb d_Ck_takeSchemas_22 rfl (lv_at hl 0 rfl) ?_
  refine o_get (v := .ref (ad 1)) C in_Ck hP 45 cw_45 rfl 0 (by decide) k_2_7 rfl rfl d_Ck_takeSchemas_23 ?_
  refine lv_iload_n hx hb d_Ck_takeSchemas_26 rfl (lv_at hl 1 rfl) ?_
  obtain ⟨q1, hq1, h⟩ := o_bd_some h
  refine o_V (st1 := [.int q1, .int z.2.1]) (w1 := (o_cw ad ca u20_rt u20_Sj u20_T0 u20_T1 u20_Rd u20_Pg u20_Pt z.2.2.1 u20_Lk z.2.2.2 u20_Jd u20_Ld u20_Pr)) hE.1 C (c_Tx_size_0 hE l u20_x1 u20_T0 u20_Sj u20_T1 u20_Rd u20_Pg u20_Pt z.2.2.1 u20_Lk z.2.2.2 u20_Jd u20_Ld u20_Pr u20_rt hq1) hP (hDD _ _ _ _ _ _ _ _ _ _ _ _ _) hS hl.1 rfl cw_1 k_4_71 k_3_215 k_3_216 k_1_2 k_3_217 hv_Tx_size rfl rfl ⟨(Nat.le_of_ble_eq_true rfl), (Nat.le_of_ble_eq_true rfl)⟩ rfl (Nat.le_of_ble_eq_true rfl) ⟨Nat.zero_le _, Nat.zero_le _⟩ rfl d_Ck_takeSchemas_27 (fun H locs hP hS => ?_)
  refine lv_icmp_ge (tgt := 58) hx hb d_Ck_takeSchemas_30 (by decide) (fun c2 => ?_) (fun c2 => ?_)
  · replace h := o_tt c2 h
    cases h
    exact h1 (Nat.succ_ne_zero 0) _ _ _ hP hS (lv_sub hl [] rfl)
  · replace h := o_ff c2 h
    refine lv_iload_n hx hb d_Ck_takeSchemas_33 rfl (lv_at hl 2 rfl) ?_
    refine lv_iconst (v := (-1:Int32)) hx hb d_Ck_takeSchemas_34 (by decide) ?_
    refine lv_icmp_eq (tgt := 58) hx hb d_Ck_takeSchemas_35 (by decide) (fun c3 => ?_) (fun c3 => ?_)
    · replace h := o_tt c3 h
      cases h
      exact h1 (Nat.succ_ne_zero 0) _ _ _ hP hS (lv_sub hl [] rfl)
    · replace h := o_ff c3 h
      refine lv_aload_n hx hb d_Ck_takeSchemas_38 rfl (lv_at hl 0 rfl) ?_
      refine lv_iload_n hx hb d_Ck_takeSchemas_39 rfl (lv_at hl 2 rfl) ?_
      obtain ⟨q2, hq2, h⟩ := o_bd_some h
      refine o_V (st1 := []) (w1 := (o_cw ad ca u20_rt u20_Sj u20_T0 u20_T1 u20_Rd u20_Pg u20_Pt q2.1 u20_Lk q2.2 u20_Jd u20_Ld u20_Pr)) hE.1 C (c_Ck_takeSchema hE l z.1 u20_T0 z.2.2.1 z.2.2.2 u20_Sj u20_T1 u20_Rd u20_Pg u20_Pt u20_Lk u20_Jd u20_Ld u20_Pr u20_rt hq2) hP (hDD _ _ _ _ _ _ _ _ _ _ _ _ _) hS hl.1 rfl cw_45 k_4_41 k_4_43 k_s_18 k_1_7 k_4_44 hv_Ck_takeSchema rfl rfl ⟨(Nat.le_of_ble_eq_true rfl), (Nat.le_of_ble_eq_true rfl)⟩ rfl (Nat.le_of_ble_eq_true rfl) ⟨Nat.zero_le _, Nat.zero_le _⟩ rfl d_Ck_takeSchemas_40 (fun H locs hP hS => ?_)
      refine lv_aload_n hx hb d_Ck_takeSchemas_43 rfl (lv_at hl 0 rfl) ?_
      refine o_get (v := .ref (ad 1)) C in_Ck hP 45 cw_45 rfl 0 (by decide) k_2_7 rfl rfl d_Ck_takeSchemas_44 ?_
      refine lv_iload_n hx hb d_Ck_takeSchemas_47 rfl (lv_at hl 2 rfl) ?_
      obtain ⟨q3, hq3, h⟩ := o_bd_some h
      refine o_V (st1 := [.int q3]) (w1 := (o_cw ad ca u20_rt u20_Sj u20_T0 u20_T1 u20_Rd u20_Pg u20_Pt q2.1 u20_Lk q2.2 u20_Jd u20_Ld u20_Pr)) hE.1 C (c_Tx_nextChild_0 hE l z.1 u20_T0 u20_Sj u20_T1 u20_Rd u20_Pg u20_Pt q2.1 u20_Lk q2.2 u20_Jd u20_Ld u20_Pr u20_rt hq3) hP (hDD _ _ _ _ _ _ _ _ _ _ _ _ _) hS hl.1 rfl cw_1 k_4_101 k_3_222 k_3_223 k_1_2 k_3_224 hv_Tx_nextChild rfl rfl ⟨(Nat.le_of_ble_eq_true rfl), (Nat.le_of_ble_eq_true rfl)⟩ rfl (Nat.le_of_ble_eq_true rfl) ⟨Nat.zero_le _, Nat.zero_le _⟩ rfl d_Ck_takeSchemas_48 (fun H locs hP hS => ?_)
      refine lv_istore_n (lv' := [(3, .int q3), (0, .ref (ad 45)), (1, .int u20_x1), (4, .int z.2.1)]) hx hb d_Ck_takeSchemas_51 rfl hl (by decide) rfl (fun ls hl => ?_)
      obtain ⟨x4_52, ex4_52⟩ : ∃ y : Int32, y = z.2.1 + (1:Int32) := ⟨_, rfl⟩
      replace h := o_nm_at ex4_52 h
      refine lv_iinc (v := x4_52) (lv' := [(4, .int x4_52), (3, .int q3), (0, .ref (ad 45)), (1, .int u20_x1)]) hx hb d_Ck_takeSchemas_52 hl (k := 3) rfl (by rw [ex4_52]; rfl) (by decide) rfl (fun ls hl => ?_)
      refine lv_goto (tgt := 20) hx hb d_Ck_takeSchemas_55 (by decide) ?_
      cases h
      exact h0 rfl _ _ _ hP hS (lv_sub hl [2, 3, 1, 0] rfl)
set_option maxHeartbeats 4000000 in
set_option maxRecDepth 100000 in
theorem c_Ck_takeSchemas {E : (Nat → Prop) → State → Heap → Prop} {D : va_G} {ad kd sd vd xd : Nat → Nat} {ca : Nat → ClassId} (hE : o_EK E kd sd vd xd) (l : Launch) (n : Nat) (x1 : Int32) (x2 : Int32) (T0 : STx) (Mk : SMk) (Ck : SCk) (Sj : SSJ) (T1 : STx) (Rd : SRd) (Pg : SPg) (Pt : SPt) (Lk : SLk) (Jd : SJd) (Ld : SLd) (Pr : SPr) (rt : Nat) {r : SMk × SCk} (h : m_Ck_takeSchemas n x1 x2 T0 Mk Ck = some r) : o_Cn E l D o_cls (o_tys ca) y_Ck_takeSchemas cc_Ck_takeSchemas rm_Ck_takeSchemas [.ref (ad 45), .int x1, .int x2] (o_cw ad ca rt Sj T0 T1 Rd Pg Pt Mk Lk Ck Jd Ld Pr) (o_cw ad ca rt Sj T0 T1 Rd Pg Pt r.1 Lk r.2 Jd Ld Pr) none := by
  refine o_Cn_of (by decide) (Nat.le_of_ble_eq_true rfl) ?_
  intro p e s m below meth c A ls C hD hP hS hl
  have hDD : ∀ (rt : Nat) (Sj : SSJ) (T0 : STx) (T1 : STx) (Rd : SRd) (Pg : SPg) (Pt : SPt) (Mk : SMk) (Lk : SLk) (Ck : SCk) (Jd : SJd) (Ld : SLd) (Pr : SPr), va_D A (o_cw ad ca rt Sj T0 T1 Rd Pg Pt Mk Lk Ck Jd Ld Pr) := fun _ _ _ _ _ _ _ _ _ _ _ _ _ => o_D_map hD rfl
  have hl : lv_has ls 5 [(0, .ref (ad 45)), (1, .int x1), (2, .int x2)] := hl
  unfold m_Ck_takeSchemas at h
  have C0 := C
  obtain ⟨hx, hb, -, -, -, hown, hts, hK, -, -⟩ := C0
  refine lv_iload_n hx hb d_Ck_takeSchemas_0 rfl (lv_at hl 2 rfl) ?_
  refine lv_if_eq (tgt := 15) hx hb d_Ck_takeSchemas_1 (by decide) (fun c1 => ?_) (fun c1 => ?_)
  · replace h := o_tt c1 h
    refine lv_iconst (v := (-1:Int32)) hx hb d_Ck_takeSchemas_15 (by decide) ?_
    refine lv_istore_n (lv' := [(3, .int (-1:Int32)), (0, .ref (ad 45)), (1, .int x1), (2, .int x2)]) hx hb d_Ck_takeSchemas_16 rfl hl (by decide) rfl (fun ls hl => ?_)
    refine lv_iconst (v := (0:Int32)) hx hb d_Ck_takeSchemas_17 (by decide) ?_
    refine lv_istore (lv' := [(4, .int (0:Int32)), (3, .int (-1:Int32)), (0, .ref (ad 45)), (1, .int x1), (2, .int x2)]) hx hb d_Ck_takeSchemas_18 hl (by decide) rfl (fun ls hl => ?_)
    obtain ⟨q4, hq4, h⟩ := o_bd_some h
    refine o_sim2 (AH := fun zz => o_At p l e rm_Ck_takeSchemas s m _ below meth c _ o_cls D A 5 20 [] (o_cw ad ca rt Sj T0 T1 Rd Pg Pt zz.2.2.1 Lk zz.2.2.2 Jd Ld Pr) [(0, .ref (ad 45)), (1, .int x1), (3, .int zz.1), (4, .int zz.2.1)]) (AX := fun qq => o_At p l e rm_Ck_takeSchemas s m _ below meth c _ o_cls D A 5 58 [] (o_cw ad ca rt Sj T0 T1 Rd Pg Pt qq.2.2.2.1 Lk qq.2.2.2.2 Jd Ld Pr) []) (fun zz qq h h0 h1 => w_Ck_takeSchemas_b20 hE C hDD n x1 T0 Sj T1 Rd Pg Pt Lk Jd Ld Pr rt zz qq h h0 h1) n _ q4 hq4 ?_ _ _ _ hP hS (lv_sub hl [2, 3, 1, 0] rfl)
    intro H locs ls hP hS hl
    cases h
    exact o_rv C hP hS d_Ck_takeSchemas_58
  · replace h := o_ff c1 h
    refine lv_aload_n hx hb d_Ck_takeSchemas_4 rfl (lv_at hl 0 rfl) ?_
    refine o_get (v := .ref (ad 1)) C in_Ck hP 45 cw_45 rfl 0 (by decide) k_2_7 rfl rfl d_Ck_takeSchemas_5 ?_
    refine lv_iload_n hx hb d_Ck_takeSchemas_8 rfl (lv_at hl 1 rfl) ?_
    obtain ⟨q5, hq5, h⟩ := o_bd_some h
    refine o_V (st1 := [.int q5]) (w1 := (o_cw ad ca rt Sj T0 T1 Rd Pg Pt Mk Lk Ck Jd Ld Pr)) hE.1 C (c_Tx_firstChild_0 hE l x1 T0 Sj T1 Rd Pg Pt Mk Lk Ck Jd Ld Pr rt hq5) hP (hDD _ _ _ _ _ _ _ _ _ _ _ _ _) hS hl.1 rfl cw_1 k_4_70 k_3_211 k_3_212 k_1_2 k_3_213 hv_Tx_firstChild rfl rfl ⟨(Nat.le_of_ble_eq_true rfl), (Nat.le_of_ble_eq_true rfl)⟩ rfl (Nat.le_of_ble_eq_true rfl) ⟨Nat.zero_le _, Nat.zero_le _⟩ rfl d_Ck_takeSchemas_9 (fun H locs hP hS => ?_)
    refine lv_goto (tgt := 16) hx hb d_Ck_takeSchemas_12 (by decide) ?_
    refine lv_istore_n (lv' := [(3, .int q5), (0, .ref (ad 45)), (1, .int x1), (2, .int x2)]) hx hb d_Ck_takeSchemas_16 rfl hl (by decide) rfl (fun ls hl => ?_)
    refine lv_iconst (v := (0:Int32)) hx hb d_Ck_takeSchemas_17 (by decide) ?_
    refine lv_istore (lv' := [(4, .int (0:Int32)), (3, .int q5), (0, .ref (ad 45)), (1, .int x1), (2, .int x2)]) hx hb d_Ck_takeSchemas_18 hl (by decide) rfl (fun ls hl => ?_)
    obtain ⟨q6, hq6, h⟩ := o_bd_some h
    refine o_sim2 (AH := fun zz => o_At p l e rm_Ck_takeSchemas s m _ below meth c _ o_cls D A 5 20 [] (o_cw ad ca rt Sj T0 T1 Rd Pg Pt zz.2.2.1 Lk zz.2.2.2 Jd Ld Pr) [(0, .ref (ad 45)), (1, .int x1), (3, .int zz.1), (4, .int zz.2.1)]) (AX := fun qq => o_At p l e rm_Ck_takeSchemas s m _ below meth c _ o_cls D A 5 58 [] (o_cw ad ca rt Sj T0 T1 Rd Pg Pt qq.2.2.2.1 Lk qq.2.2.2.2 Jd Ld Pr) []) (fun zz qq h h0 h1 => w_Ck_takeSchemas_b20 hE C hDD n x1 T0 Sj T1 Rd Pg Pt Lk Jd Ld Pr rt zz qq h h0 h1) n _ q6 hq6 ?_ _ _ _ hP hS (lv_sub hl [2, 3, 1, 0] rfl)
    intro H locs ls hP hS hl
    cases h
    exact o_rv C hP hS d_Ck_takeSchemas_58
set_option maxHeartbeats 4000000 in
set_option maxRecDepth 100000 in
theorem c_JL_canEncode {E : (Nat → Prop) → State → Heap → Prop} {D : va_G} {ad kd sd vd xd : Nat → Nat} {ca : Nat → ClassId} (hE : o_EK E kd sd vd xd) (l : Launch) (x0 : Int32) (Sj : SSJ) (T0 : STx) (T1 : STx) (Rd : SRd) (Pg : SPg) (Pt : SPt) (Mk : SMk) (Lk : SLk) (Ck : SCk) (Jd : SJd) (Ld : SLd) (Pr : SPr) (rt : Nat) {r : Int32} (h : m_JL_canEncode x0 = some r) : o_Cn E l D o_cls (o_tys ca) y_JL_canEncode cc_JL_canEncode rm_JL_canEncode [.int x0] (o_cw ad ca rt Sj T0 T1 Rd Pg Pt Mk Lk Ck Jd Ld Pr) (o_cw ad ca rt Sj T0 T1 Rd Pg Pt Mk Lk Ck Jd Ld Pr) (some (.int r)) := by
  refine o_Cn_of (by decide) (Nat.le_of_ble_eq_true rfl) ?_
  intro p e s m below meth c A ls C hD hP hS hl
  have hDD : ∀ (rt : Nat) (Sj : SSJ) (T0 : STx) (T1 : STx) (Rd : SRd) (Pg : SPg) (Pt : SPt) (Mk : SMk) (Lk : SLk) (Ck : SCk) (Jd : SJd) (Ld : SLd) (Pr : SPr), va_D A (o_cw ad ca rt Sj T0 T1 Rd Pg Pt Mk Lk Ck Jd Ld Pr) := fun _ _ _ _ _ _ _ _ _ _ _ _ _ => o_D_map hD rfl
  have hl : lv_has ls 1 [(0, .int x0)] := hl
  unfold m_JL_canEncode at h
  have C0 := C
  obtain ⟨hx, hb, -, -, -, hown, hts, hK, -, -⟩ := C0
  refine lv_iload_n hx hb d_JL_canEncode_0 rfl (lv_at hl 0 rfl) ?_
  refine lv_if_lt (tgt := 15) hx hb d_JL_canEncode_1 (by decide) (fun c1 => ?_) (fun c1 => ?_)
  · replace h := o_tt c1 h
    refine lv_iconst (v := (0:Int32)) hx hb d_JL_canEncode_15 (by decide) ?_
    cases h
    exact o_rz (v := (0:Int32)) C o_nar0 hP hS d_JL_canEncode_16
  · replace h := o_ff c1 h
    refine lv_iload_n hx hb d_JL_canEncode_4 rfl (lv_at hl 0 rfl) ?_
    refine lv_sipush (v := (255:Int32)) hx hb d_JL_canEncode_5 (by decide) ?_
    refine lv_icmp_gt (tgt := 15) hx hb d_JL_canEncode_8 (by decide) (fun c2 => ?_) (fun c2 => ?_)
    · replace h := o_tt c2 h
      refine lv_iconst (v := (0:Int32)) hx hb d_JL_canEncode_15 (by decide) ?_
      cases h
      exact o_rz (v := (0:Int32)) C o_nar0 hP hS d_JL_canEncode_16
    · replace h := o_ff c2 h
      refine lv_iconst (v := (1:Int32)) hx hb d_JL_canEncode_11 (by decide) ?_
      refine lv_goto (tgt := 16) hx hb d_JL_canEncode_12 (by decide) ?_
      cases h
      exact o_rz (v := (1:Int32)) C o_nar1 hP hS d_JL_canEncode_16
set_option maxHeartbeats 4000000 in
set_option maxRecDepth 100000 in
theorem w_JL_indexOfChar_b7 {E : (Nat → Prop) → State → Heap → Prop} {p : Program} {l : Launch} {e : Env} {s : State} {m : MethodId} {args : Array Value} {below : List Frame} {meth : Method} {c : Code} {D : va_G} {ad kd sd vd xd : Nat → Nat} {ca : Nat → ClassId} {A : Nat → Prop} {Q : State → Prop} (hE : o_EK E kd sd vd xd) (C : o_Cx E p s m args meth c D o_cls (o_tys ca) "java/lang/StringLatin1" b_JL_indexOfChar (some .int) 6 cc_JL_indexOfChar A) (hDD : ∀ (rt : Nat) (Sj : SSJ) (T0 : STx) (T1 : STx) (Rd : SRd) (Pg : SPg) (Pt : SPt) (Mk : SMk) (Lk : SLk) (Ck : SCk) (Jd : SJd) (Ld : SLd) (Pr : SPr), va_D A (o_cw ad ca rt Sj T0 T1 Rd Pg Pt Mk Lk Ck Jd Ld Pr)) (n : Nat) (u7_x0 : Nat) (gu7_x0 : o_sb u7_x0 = true) (u7_x3 : Int32) (u7_x4 : Int32) (u7_Sj : SSJ) (u7_T0 : STx) (u7_T1 : STx) (u7_Rd : SRd) (u7_Pg : SPg) (u7_Pt : SPt) (u7_Mk : SMk) (u7_Lk : SLk) (u7_Ck : SCk) (u7_Jd : SJd) (u7_Ld : SLd) (u7_Pr : SPr) (u7_rt : Nat) (z : Int32) (q : Nat × Int32) (h : m_JL_indexOfChar_b7 n u7_x0 u7_x3 u7_x4 z = some q) (h0 : q.1 = 0 → o_At p l e rm_JL_indexOfChar s m args below meth c Q o_cls D A 6 7 [] (o_cw ad ca u7_rt u7_Sj u7_T0 u7_T1 u7_Rd u7_Pg u7_Pt u7_Mk u7_Lk u7_Ck u7_Jd u7_Ld u7_Pr) [(0, .ref (vd u7_x0)), (3, .int u7_x3), (4, .int u7_x4), (5, .int q.2)]) (h1 : q.1 ≠ 0 → (if q.1 = 1 then o_At p l e rm_JL_indexOfChar s m args below meth c Q o_cls D A 6 22 [] (o_cw ad ca u7_rt u7_Sj u7_T0 u7_T1 u7_Rd u7_Pg u7_Pt u7_Mk u7_Lk u7_Ck u7_Jd u7_Ld u7_Pr) [(5, .int q.2)] else o_At p l e rm_JL_indexOfChar s m args below meth c Q o_cls D A 6 31 [] (o_cw ad ca u7_rt u7_Sj u7_T0 u7_T1 u7_Rd u7_Pg u7_Pt u7_Mk u7_Lk u7_Ck u7_Jd u7_Ld u7_Pr) [])) : o_At p l e rm_JL_indexOfChar s m args below meth c Q o_cls D A 6 7 [] (o_cw ad ca u7_rt u7_Sj u7_T0 u7_T1 u7_Rd u7_Pg u7_Pt u7_Mk u7_Lk u7_Ck u7_Jd u7_Ld u7_Pr) [(0, .ref (vd u7_x0)), (3, .int u7_x3), (4, .int u7_x4), (5, .int z)] := by
  unfold m_JL_indexOfChar_b7 at h
  intro H locs ls hP hS hl
  have C0 := C
  obtain ⟨hx, hb, -, -, -, hown, hts, hK, -, -⟩ := C0
  refine lv_iload hx hb d_JL_indexOfChar_7 (lv_at hl 3 rfl) ?_
  refine lv_iload_n hx hb d_JL_indexOfChar_9 rfl (lv_at hl 1 rfl) ?_
  refine lv_icmp_ge (tgt := 31) hx hb d_JL_indexOfChar_10 (by decide) (fun c1 => ?_) (fun c1 => ?_)
  · replace h := o_tt c1 h
    cases h
    exact h1 (Nat.succ_ne_zero 1) _ _ _ hP hS (lv_sub hl [] rfl)
  · replace h := o_ff c1 h
    refine lv_aload_n hx hb d_JL_indexOfChar_13 rfl (lv_at hl 0 rfl) ?_
    refine lv_iload hx hb d_JL_indexOfChar_14 (lv_at hl 3 rfl) ?_
    obtain ⟨g2, h⟩ := o_gd_some h
    refine va_tb (v := .int (o_sa u7_x0 z.toNatClampNeg)) hx hb (o_sT hE C gu7_x0) hS (o_in_in g2) rfl d_JL_indexOfChar_16 ?_
    refine lv_iload hx hb d_JL_indexOfChar_17 (lv_at hl 2 rfl) ?_
    refine lv_icmp_ne (tgt := 25) hx hb d_JL_indexOfChar_19 (by decide) (fun c3 => ?_) (fun c3 => ?_)
    · replace h := o_ff c3 h
      obtain ⟨x5_25, ex5_25⟩ : ∃ y : Int32, y = z + (1:Int32) := ⟨_, rfl⟩
      replace h := o_nm_at ex5_25 h
      refine lv_iinc (v := x5_25) (lv' := [(5, .int x5_25), (0, .ref (vd u7_x0)), (3, .int u7_x3), (4, .int u7_x4)]) hx hb d_JL_indexOfChar_25 hl (k := 3) rfl (by rw [ex5_25]; rfl) (by decide) rfl (fun ls hl => ?_)
      refine lv_goto (tgt := 7) hx hb d_JL_indexOfChar_28 (by decide) ?_
      cases h
      exact h0 rfl _ _ _ hP hS (lv_sub hl [1, 2, 3, 0] rfl)
    · replace h := o_tt c3 h
      cases h
      exact h1 (Nat.succ_ne_zero 0) _ _ _ hP hS (lv_sub hl [3] rfl)
set_option maxHeartbeats 4000000 in
set_option maxRecDepth 100000 in
theorem c_JL_indexOfChar {E : (Nat → Prop) → State → Heap → Prop} {D : va_G} {ad kd sd vd xd : Nat → Nat} {ca : Nat → ClassId} (hE : o_EK E kd sd vd xd) (l : Launch) (n : Nat) (x0 : Nat) (gx0 : o_sb x0 = true) (x1 : Int32) (x2 : Int32) (x3 : Int32) (Sj : SSJ) (T0 : STx) (T1 : STx) (Rd : SRd) (Pg : SPg) (Pt : SPt) (Mk : SMk) (Lk : SLk) (Ck : SCk) (Jd : SJd) (Ld : SLd) (Pr : SPr) (rt : Nat) {r : Int32} (h : m_JL_indexOfChar n x0 x1 x2 x3 = some r) : o_Cn E l D o_cls (o_tys ca) y_JL_indexOfChar cc_JL_indexOfChar rm_JL_indexOfChar [.ref (vd x0), .int x1, .int x2, .int x3] (o_cw ad ca rt Sj T0 T1 Rd Pg Pt Mk Lk Ck Jd Ld Pr) (o_cw ad ca rt Sj T0 T1 Rd Pg Pt Mk Lk Ck Jd Ld Pr) (some (.int r)) := by
  refine o_Cn_of (by decide) (Nat.le_of_ble_eq_true rfl) ?_
  intro p e s m below meth c A ls C hD hP hS hl
  have hDD : ∀ (rt : Nat) (Sj : SSJ) (T0 : STx) (T1 : STx) (Rd : SRd) (Pg : SPg) (Pt : SPt) (Mk : SMk) (Lk : SLk) (Ck : SCk) (Jd : SJd) (Ld : SLd) (Pr : SPr), va_D A (o_cw ad ca rt Sj T0 T1 Rd Pg Pt Mk Lk Ck Jd Ld Pr) := fun _ _ _ _ _ _ _ _ _ _ _ _ _ => o_D_map hD rfl
  have hl : lv_has ls 6 [(0, .ref (vd x0)), (1, .int x1), (2, .int x2), (3, .int x3)] := hl
  unfold m_JL_indexOfChar at h
  have C0 := C
  obtain ⟨hx, hb, -, -, -, hown, hts, hK, -, -⟩ := C0
  refine lv_iload_n hx hb d_JL_indexOfChar_0 rfl (lv_at hl 1 rfl) ?_
  refine lv_i2b hx hb d_JL_indexOfChar_1 rfl ?_
  refine lv_topi (fun x4_2 ex4_2 => ?_)
  replace h := o_nm_at ex4_2 h
  refine lv_istore (lv' := [(4, .int x4_2), (0, .ref (vd x0)), (1, .int x1), (2, .int x2), (3, .int x3)]) hx hb d_JL_indexOfChar_2 hl (by decide) rfl (fun ls hl => ?_)
  refine lv_iload_n hx hb d_JL_indexOfChar_4 rfl (lv_at hl 3 rfl) ?_
  refine lv_istore (lv' := [(5, .int x2), (4, .int x4_2), (0, .ref (vd x0)), (1, .int x1), (2, .int x2), (3, .int x3)]) hx hb d_JL_indexOfChar_5 hl (by decide) rfl (fun ls hl => ?_)
  obtain ⟨q1, hq1, h⟩ := o_bd_some h
  refine o_sim2 (AH := fun zz => o_At p l e rm_JL_indexOfChar s m _ below meth c _ o_cls D A 6 7 [] (o_cw ad ca rt Sj T0 T1 Rd Pg Pt Mk Lk Ck Jd Ld Pr) [(0, .ref (vd x0)), (3, .int x3), (4, .int x4_2), (5, .int zz)]) (AX := fun qq => if qq.1 = 1 then o_At p l e rm_JL_indexOfChar s m _ below meth c _ o_cls D A 6 22 [] (o_cw ad ca rt Sj T0 T1 Rd Pg Pt Mk Lk Ck Jd Ld Pr) [(5, .int qq.2)] else o_At p l e rm_JL_indexOfChar s m _ below meth c _ o_cls D A 6 31 [] (o_cw ad ca rt Sj T0 T1 Rd Pg Pt Mk Lk Ck Jd Ld Pr) []) (fun zz qq h h0 h1 => w_JL_indexOfChar_b7 hE C hDD n x0 gx0 x3 x4_2 Sj T0 T1 Rd Pg Pt Mk Lk Ck Jd Ld Pr rt zz qq h h0 h1) n _ q1 hq1 ?_ _ _ _ hP hS (lv_sub hl [2, 5, 1, 0] rfl)
  by_cases c4 : q1.1 = 1
  · replace h := o_tt c4 h
    refine o_ip c4 ?_
    intro H locs ls hP hS hl
    refine lv_iload hx hb d_JL_indexOfChar_22 (lv_at hl 0 rfl) ?_
    cases h
    exact o_ri C hP hS d_JL_indexOfChar_24
  replace h := o_ff c4 h
  refine o_in_ c4 ?_
  intro H locs ls hP hS hl
  refine lv_iconst (v := (-1:Int32)) hx hb d_JL_indexOfChar_31 (by decide) ?_
  cases h
  exact o_ri (v := (-1:Int32)) C hP hS d_JL_indexOfChar_32
set_option maxHeartbeats 4000000 in
set_option maxRecDepth 100000 in
theorem c_JL_indexOf {E : (Nat → Prop) → State → Heap → Prop} {D : va_G} {ad kd sd vd xd : Nat → Nat} {ca : Nat → ClassId} (hE : o_EK E kd sd vd xd) (l : Launch) (n : Nat) (x0 : Nat) (gx0 : o_sb x0 = true) (x1 : Int32) (x2 : Int32) (x3 : Int32) (Sj : SSJ) (T0 : STx) (T1 : STx) (Rd : SRd) (Pg : SPg) (Pt : SPt) (Mk : SMk) (Lk : SLk) (Ck : SCk) (Jd : SJd) (Ld : SLd) (Pr : SPr) (rt : Nat) {r : Int32} (h : m_JL_indexOf n x0 x1 x2 x3 = some r) : o_Cn E l D o_cls (o_tys ca) y_JL_indexOf cc_JL_indexOf rm_JL_indexOf [.ref (vd x0), .int x1, .int x2, .int x3] (o_cw ad ca rt Sj T0 T1 Rd Pg Pt Mk Lk Ck Jd Ld Pr) (o_cw ad ca rt Sj T0 T1 Rd Pg Pt Mk Lk Ck Jd Ld Pr) (some (.int r)) := by
  refine o_Cn_of (by decide) (Nat.le_of_ble_eq_true rfl) ?_
  intro p e s m below meth c A ls C hD hP hS hl
  have hDD : ∀ (rt : Nat) (Sj : SSJ) (T0 : STx) (T1 : STx) (Rd : SRd) (Pg : SPg) (Pt : SPt) (Mk : SMk) (Lk : SLk) (Ck : SCk) (Jd : SJd) (Ld : SLd) (Pr : SPr), va_D A (o_cw ad ca rt Sj T0 T1 Rd Pg Pt Mk Lk Ck Jd Ld Pr) := fun _ _ _ _ _ _ _ _ _ _ _ _ _ => o_D_map hD rfl
  have hl : lv_has ls 4 [(0, .ref (vd x0)), (1, .int x1), (2, .int x2), (3, .int x3)] := hl
  unfold m_JL_indexOf at h
  have C0 := C
  obtain ⟨hx, hb, -, -, -, hown, hts, hK, -, -⟩ := C0
  refine lv_iload_n hx hb d_JL_indexOf_0 rfl (lv_at hl 1 rfl) ?_
  obtain ⟨q1, hq1, h⟩ := o_bd_some h
  refine o_S (st1 := [.int q1]) (w1 := (o_cw ad ca rt Sj T0 T1 Rd Pg Pt Mk Lk Ck Jd Ld Pr)) hE.1 C (c_JL_canEncode hE l x1 Sj T0 T1 Rd Pg Pt Mk Lk Ck Jd Ld Pr rt hq1) hP (hDD _ _ _ _ _ _ _ _ _ _ _ _ _) hS hl.1 k_4_148 k_4_149 k_1_19 k_4_150 hs_JL_canEncode rfl rfl ⟨(Nat.le_of_ble_eq_true rfl), (Nat.le_of_ble_eq_true rfl)⟩ rfl (Nat.le_of_ble_eq_true rfl) ⟨Nat.zero_le _, Nat.zero_le _⟩ rfl d_JL_indexOf_1 (fun H locs hP hS => ?_)
  refine lv_if_ne (tgt := 9) hx hb d_JL_indexOf_4 (by decide) (fun c1 => ?_) (fun c1 => ?_)
  · replace h := o_ff c1 h
    refine lv_iload_n hx hb d_JL_indexOf_9 rfl (lv_at hl 2 rfl) ?_
    refine lv_iconst (v := (0:Int32)) hx hb d_JL_indexOf_10 (by decide) ?_
    refine va_mmax hx hb (C.2.2.2.2.1.trans hl.1.symm) hown (hts _ k_4_151) (hts _ k_4_152) (hts _ k_1_26) (hts _ k_4_153) (Nat.le_of_ble_eq_true rfl) (Nat.le_of_ble_eq_true rfl) (Nat.zero_le _) (Nat.zero_le _) d_JL_indexOf_11 ?_
    refine lv_topi (fun x2_14 ex2_14 => ?_)
    replace h := o_nm_at ex2_14 h
    refine lv_istore_n (lv' := [(2, .int x2_14), (0, .ref (vd x0)), (1, .int x1), (3, .int x3)]) hx hb d_JL_indexOf_14 rfl hl (by decide) rfl (fun ls hl => ?_)
    refine lv_iload_n hx hb d_JL_indexOf_15 rfl (lv_at hl 3 rfl) ?_
    refine lv_aload_n hx hb d_JL_indexOf_16 rfl (lv_at hl 1 rfl) ?_
    refine va_tlen (v := (o_sl x0)) hx hb (o_sT hE C gx0) hS rfl d_JL_indexOf_17 ?_
    refine va_mmin hx hb (C.2.2.2.2.1.trans hl.1.symm) hown (hts _ k_4_154) (hts _ k_4_114) (hts _ k_1_26) (hts _ k_4_115) (Nat.le_of_ble_eq_true rfl) (Nat.le_of_ble_eq_true rfl) (Nat.zero_le _) (Nat.zero_le _) d_JL_indexOf_18 ?_
    refine lv_topi (fun x3_21 ex3_21 => ?_)
    replace h := o_nm_at ex3_21 h
    refine lv_istore_n (lv' := [(3, .int x3_21), (2, .int x2_14), (0, .ref (vd x0)), (1, .int x1)]) hx hb d_JL_indexOf_21 rfl hl (by decide) rfl (fun ls hl => ?_)
    refine lv_iload_n hx hb d_JL_indexOf_22 rfl (lv_at hl 1 rfl) ?_
    refine lv_iload_n hx hb d_JL_indexOf_23 rfl (lv_at hl 0 rfl) ?_
    refine lv_icmp_lt (tgt := 29) hx hb d_JL_indexOf_24 (by decide) (fun c2 => ?_) (fun c2 => ?_)
    · replace h := o_tt c2 h
      refine lv_aload_n hx hb d_JL_indexOf_29 rfl (lv_at hl 2 rfl) ?_
      refine lv_iload_n hx hb d_JL_indexOf_30 rfl (lv_at hl 3 rfl) ?_
      refine lv_iload_n hx hb d_JL_indexOf_31 rfl (lv_at hl 1 rfl) ?_
      refine lv_iload_n hx hb d_JL_indexOf_32 rfl (lv_at hl 0 rfl) ?_
      obtain ⟨q2, hq2, h⟩ := o_bd_some h
      refine o_S (st1 := [.int q2]) (w1 := (o_cw ad ca rt Sj T0 T1 Rd Pg Pt Mk Lk Ck Jd Ld Pr)) hE.1 C (c_JL_indexOfChar hE l n x0 gx0 x1 x2_14 x3_21 Sj T0 T1 Rd Pg Pt Mk Lk Ck Jd Ld Pr rt hq2) hP (hDD _ _ _ _ _ _ _ _ _ _ _ _ _) hS hl.1 k_4_155 k_4_156 k_1_19 k_4_157 hs_JL_indexOfChar rfl rfl ⟨(Nat.le_of_ble_eq_true rfl), (Nat.le_of_ble_eq_true rfl)⟩ rfl (Nat.le_of_ble_eq_true rfl) ⟨Nat.zero_le _, Nat.zero_le _⟩ rfl d_JL_indexOf_33 (fun H locs hP hS => ?_)
      cases h
      exact o_ri C hP hS d_JL_indexOf_36
    · replace h := o_ff c2 h
      refine lv_iconst (v := (-1:Int32)) hx hb d_JL_indexOf_27 (by decide) ?_
      cases h
      exact o_ri (v := (-1:Int32)) C hP hS d_JL_indexOf_28
  · replace h := o_tt c1 h
    refine lv_iconst (v := (-1:Int32)) hx hb d_JL_indexOf_7 (by decide) ?_
    cases h
    exact o_ri (v := (-1:Int32)) C hP hS d_JL_indexOf_8
set_option maxHeartbeats 4000000 in
set_option maxRecDepth 100000 in
theorem c_JS_indexOf_1 {E : (Nat → Prop) → State → Heap → Prop} {D : va_G} {ad kd sd vd xd : Nat → Nat} {ca : Nat → ClassId} (hE : o_EK E kd sd vd xd) (l : Launch) (n : Nat) (x0 : Nat) (gx0 : o_sb x0 = true) (x1 : Int32) (x2 : Int32) (Sj : SSJ) (T0 : STx) (T1 : STx) (Rd : SRd) (Pg : SPg) (Pt : SPt) (Mk : SMk) (Lk : SLk) (Ck : SCk) (Jd : SJd) (Ld : SLd) (Pr : SPr) (rt : Nat) {r : Int32} (h : m_JS_indexOf_1 n x0 x1 x2 = some r) : o_Cn E l D o_cls (o_tys ca) y_JS_indexOf_1 cc_JS_indexOf_1 rm_JS_indexOf_1 [.ref (sd x0), .int x1, .int x2] (o_cw ad ca rt Sj T0 T1 Rd Pg Pt Mk Lk Ck Jd Ld Pr) (o_cw ad ca rt Sj T0 T1 Rd Pg Pt Mk Lk Ck Jd Ld Pr) (some (.int r)) := by
  refine o_Cn_of (by decide) (Nat.le_of_ble_eq_true rfl) ?_
  intro p e s m below meth c A ls C hD hP hS hl
  have hDD : ∀ (rt : Nat) (Sj : SSJ) (T0 : STx) (T1 : STx) (Rd : SRd) (Pg : SPg) (Pt : SPt) (Mk : SMk) (Lk : SLk) (Ck : SCk) (Jd : SJd) (Ld : SLd) (Pr : SPr), va_D A (o_cw ad ca rt Sj T0 T1 Rd Pg Pt Mk Lk Ck Jd Ld Pr) := fun _ _ _ _ _ _ _ _ _ _ _ _ _ => o_D_map hD rfl
  have hl : lv_has ls 3 [(0, .ref (sd x0)), (1, .int x1), (2, .int x2)] := hl
  unfold m_JS_indexOf_1 at h
  have C0 := C
  obtain ⟨hx, hb, -, -, -, hown, hts, hK, -, -⟩ := C0
  refine lv_aload_n hx hb d_JS_indexOf_1_0 rfl (lv_at hl 0 rfl) ?_
  obtain ⟨q1, hq1, h⟩ := o_bd_some h
  refine o_VR (K := "java/lang/String") (st1 := [.int q1]) (w1 := (o_cw ad ca rt Sj T0 T1 Rd Pg Pt Mk Lk Ck Jd Ld Pr)) hE.1 C (c_JS_isLatin1 hE l x0 gx0 Sj T0 T1 Rd Pg Pt Mk Lk Ck Jd Ld Pr rt hq1) hP (hDD _ _ _ _ _ _ _ _ _ _ _ _ _) hS hl.1 (o_rs hE C gx0 hS) k_3_75 k_3_76 k_3_77 k_1_18 k_3_78 hv_JS_isLatin1 rfl rfl ⟨(Nat.le_of_ble_eq_true rfl), (Nat.le_of_ble_eq_true rfl)⟩ rfl (Nat.le_of_ble_eq_true rfl) ⟨Nat.zero_le _, Nat.zero_le _⟩ rfl d_JS_indexOf_1_1 (fun H locs hP hS => ?_)
  refine lv_if_eq (tgt := 23) hx hb d_JS_indexOf_1_4 (by decide) (fun c1 => ?_) (fun c1 => ?_)
  · replace h := o_tt c1 h
    refine lv_aload_n hx hb d_JS_indexOf_1_23 rfl (lv_at hl 0 rfl) ?_
    refine vk_getf (v := .ref (vd x0)) hx hb (o_sv hE C gx0) hS hown (hts _ k_10_101) (fun _ h9 => h9) d_JS_indexOf_1_24 ?_
    refine lv_iload_n hx hb d_JS_indexOf_1_27 rfl (lv_at hl 1 rfl) ?_
    refine lv_iload_n hx hb d_JS_indexOf_1_28 rfl (lv_at hl 2 rfl) ?_
    refine lv_aload_n hx hb d_JS_indexOf_1_29 rfl (lv_at hl 0 rfl) ?_
    obtain ⟨q2, hq2, h⟩ := o_bd_some h
    refine o_VR (K := "java/lang/String") (st1 := [.int q2, .int x2, .int x1, .ref (vd x0)]) (w1 := (o_cw ad ca rt Sj T0 T1 Rd Pg Pt Mk Lk Ck Jd Ld Pr)) hE.1 C (c_JS_length hE l x0 gx0 Sj T0 T1 Rd Pg Pt Mk Lk Ck Jd Ld Pr rt hq2) hP (hDD _ _ _ _ _ _ _ _ _ _ _ _ _) hS hl.1 (o_rs hE C gx0 hS) k_4_144 k_3_62 k_3_63 k_1_18 k_3_64 hv_JS_length rfl rfl ⟨(Nat.le_of_ble_eq_true rfl), (Nat.le_of_ble_eq_true rfl)⟩ rfl (Nat.le_of_ble_eq_true rfl) ⟨Nat.zero_le _, Nat.zero_le _⟩ rfl d_JS_indexOf_1_30 (fun H locs hP hS => ?_)
    cases h
  · replace h := o_ff c1 h
    refine lv_aload_n hx hb d_JS_indexOf_1_7 rfl (lv_at hl 0 rfl) ?_
    refine vk_getf (v := .ref (vd x0)) hx hb (o_sv hE C gx0) hS hown (hts _ k_10_101) (fun _ h9 => h9) d_JS_indexOf_1_8 ?_
    refine lv_iload_n hx hb d_JS_indexOf_1_11 rfl (lv_at hl 1 rfl) ?_
    refine lv_iload_n hx hb d_JS_indexOf_1_12 rfl (lv_at hl 2 rfl) ?_
    refine lv_aload_n hx hb d_JS_indexOf_1_13 rfl (lv_at hl 0 rfl) ?_
    obtain ⟨q3, hq3, h⟩ := o_bd_some h
    refine o_VR (K := "java/lang/String") (st1 := [.int q3, .int x2, .int x1, .ref (vd x0)]) (w1 := (o_cw ad ca rt Sj T0 T1 Rd Pg Pt Mk Lk Ck Jd Ld Pr)) hE.1 C (c_JS_length hE l x0 gx0 Sj T0 T1 Rd Pg Pt Mk Lk Ck Jd Ld Pr rt hq3) hP (hDD _ _ _ _ _ _ _ _ _ _ _ _ _) hS hl.1 (o_rs hE C gx0 hS) k_4_144 k_3_62 k_3_63 k_1_18 k_3_64 hv_JS_length rfl rfl ⟨(Nat.le_of_ble_eq_true rfl), (Nat.le_of_ble_eq_true rfl)⟩ rfl (Nat.le_of_ble_eq_true rfl) ⟨Nat.zero_le _, Nat.zero_le _⟩ rfl d_JS_indexOf_1_14 (fun H locs hP hS => ?_)
    obtain ⟨q4, hq4, h⟩ := o_bd_some h
    refine o_S (st1 := [.int q4]) (w1 := (o_cw ad ca rt Sj T0 T1 Rd Pg Pt Mk Lk Ck Jd Ld Pr)) hE.1 C (c_JL_indexOf hE l n x0 gx0 x1 x2 q3 Sj T0 T1 Rd Pg Pt Mk Lk Ck Jd Ld Pr rt hq4) hP (hDD _ _ _ _ _ _ _ _ _ _ _ _ _) hS hl.1 k_4_145 k_4_146 k_1_19 k_4_147 hs_JL_indexOf rfl rfl ⟨(Nat.le_of_ble_eq_true rfl), (Nat.le_of_ble_eq_true rfl)⟩ rfl (Nat.le_of_ble_eq_true rfl) ⟨Nat.zero_le _, Nat.zero_le _⟩ rfl d_JS_indexOf_1_17 (fun H locs hP hS => ?_)
    refine lv_goto (tgt := 36) hx hb d_JS_indexOf_1_20 (by decide) ?_
    cases h
    exact o_ri C hP hS d_JS_indexOf_1_36
set_option maxHeartbeats 4000000 in
set_option maxRecDepth 100000 in
theorem c_JS_indexOf {E : (Nat → Prop) → State → Heap → Prop} {D : va_G} {ad kd sd vd xd : Nat → Nat} {ca : Nat → ClassId} (hE : o_EK E kd sd vd xd) (l : Launch) (n : Nat) (x0 : Nat) (gx0 : o_sb x0 = true) (x1 : Int32) (Sj : SSJ) (T0 : STx) (T1 : STx) (Rd : SRd) (Pg : SPg) (Pt : SPt) (Mk : SMk) (Lk : SLk) (Ck : SCk) (Jd : SJd) (Ld : SLd) (Pr : SPr) (rt : Nat) {r : Int32} (h : m_JS_indexOf n x0 x1 = some r) : o_Cn E l D o_cls (o_tys ca) y_JS_indexOf cc_JS_indexOf rm_JS_indexOf [.ref (sd x0), .int x1] (o_cw ad ca rt Sj T0 T1 Rd Pg Pt Mk Lk Ck Jd Ld Pr) (o_cw ad ca rt Sj T0 T1 Rd Pg Pt Mk Lk Ck Jd Ld Pr) (some (.int r)) := by
  refine o_Cn_of (by decide) (Nat.le_of_ble_eq_true rfl) ?_
  intro p e s m below meth c A ls C hD hP hS hl
  have hDD : ∀ (rt : Nat) (Sj : SSJ) (T0 : STx) (T1 : STx) (Rd : SRd) (Pg : SPg) (Pt : SPt) (Mk : SMk) (Lk : SLk) (Ck : SCk) (Jd : SJd) (Ld : SLd) (Pr : SPr), va_D A (o_cw ad ca rt Sj T0 T1 Rd Pg Pt Mk Lk Ck Jd Ld Pr) := fun _ _ _ _ _ _ _ _ _ _ _ _ _ => o_D_map hD rfl
  have hl : lv_has ls 2 [(0, .ref (sd x0)), (1, .int x1)] := hl
  unfold m_JS_indexOf at h
  have C0 := C
  obtain ⟨hx, hb, -, -, -, hown, hts, hK, -, -⟩ := C0
  refine lv_aload_n hx hb d_JS_indexOf_0 rfl (lv_at hl 0 rfl) ?_
  refine lv_iload_n hx hb d_JS_indexOf_1 rfl (lv_at hl 1 rfl) ?_
  refine lv_iconst (v := (0:Int32)) hx hb d_JS_indexOf_2 (by decide) ?_
  obtain ⟨q1, hq1, h⟩ := o_bd_some h
  refine o_VR (K := "java/lang/String") (st1 := [.int q1]) (w1 := (o_cw ad ca rt Sj T0 T1 Rd Pg Pt Mk Lk Ck Jd Ld Pr)) hE.1 C (c_JS_indexOf_1 hE l n x0 gx0 x1 (0:Int32) Sj T0 T1 Rd Pg Pt Mk Lk Ck Jd Ld Pr rt hq1) hP (hDD _ _ _ _ _ _ _ _ _ _ _ _ _) hS hl.1 (o_rs hE C gx0 hS) k_4_140 k_4_141 k_4_142 k_1_18 k_4_143 hv_JS_indexOf_1 rfl rfl ⟨(Nat.le_of_ble_eq_true rfl), (Nat.le_of_ble_eq_true rfl)⟩ rfl (Nat.le_of_ble_eq_true rfl) ⟨Nat.zero_le _, Nat.zero_le _⟩ rfl d_JS_indexOf_3 (fun H locs hP hS => ?_)
  cases h
  exact o_ri C hP hS d_JS_indexOf_6
set_option maxHeartbeats 4000000 in
set_option maxRecDepth 100000 in
theorem w_Pt_hexToken_j131 {E : (Nat → Prop) → State → Heap → Prop} {p : Program} {l : Launch} {e : Env} {s : State} {m : MethodId} {args : Array Value} {below : List Frame} {meth : Method} {c : Code} {D : va_G} {ad kd sd vd xd : Nat → Nat} {ca : Nat → ClassId} {A : Nat → Prop} {Q : State → Prop} (hE : o_EK E kd sd vd xd) (C : o_Cx E p s m args meth c D o_cls (o_tys ca) "SchemaJudge$Pattern" b_Pt_hexToken (some .int) 6 cc_Pt_hexToken A) (hDD : ∀ (rt : Nat) (Sj : SSJ) (T0 : STx) (T1 : STx) (Rd : SRd) (Pg : SPg) (Pt : SPt) (Mk : SMk) (Lk : SLk) (Ck : SCk) (Jd : SJd) (Ld : SLd) (Pr : SPr), va_D A (o_cw ad ca rt Sj T0 T1 Rd Pg Pt Mk Lk Ck Jd Ld Pr)) (n : Nat) (u4_x1 : Int32) (u4_Sj : SSJ) (u4_T0 : STx) (u4_T1 : STx) (u4_Rd : SRd) (u4_Pg : SPg) (u4_Mk : SMk) (u4_Lk : SLk) (u4_Ck : SCk) (u4_Jd : SJd) (u4_Ld : SLd) (u4_Pr : SPr) (u4_rt : Nat) (x3 : Int32) (x5 : Int32) (y0 : Int32) (y1 : Int32) (Pt : SPt) {q : Nat × Int32 × Int32 × SPt} (h : m_Pt_hexToken_j131 n u4_x1 x3 x5 y0 y1 Pt = some q) (h0 : q.1 = 0 → o_At p l e rm_Pt_hexToken s m args below meth c Q o_cls D A 6 4 [] (o_cw ad ca u4_rt u4_Sj u4_T0 u4_T1 u4_Rd u4_Pg q.2.2.2 u4_Mk u4_Lk u4_Ck u4_Jd u4_Ld u4_Pr) [(0, .ref (ad 33)), (1, .int u4_x1), (2, .int q.2.1), (3, .int q.2.2.1)]) (h1 : q.1 ≠ 0 → (if q.1 = 1 then o_At p l e rm_Pt_hexToken s m args below meth c Q o_cls D A 6 22 [] (o_cw ad ca u4_rt u4_Sj u4_T0 u4_T1 u4_Rd u4_Pg q.2.2.2 u4_Mk u4_Lk u4_Ck u4_Jd u4_Ld u4_Pr) [(2, .int q.2.1)] else if q.1 = 2 then o_At p l e rm_Pt_hexToken s m args below meth c Q o_cls D A 6 78 [] (o_cw ad ca u4_rt u4_Sj u4_T0 u4_T1 u4_Rd u4_Pg q.2.2.2 u4_Mk u4_Lk u4_Ck u4_Jd u4_Ld u4_Pr) [(2, .int q.2.1)] else if q.1 = 3 then o_At p l e rm_Pt_hexToken s m args below meth c Q o_cls D A 6 144 [] (o_cw ad ca u4_rt u4_Sj u4_T0 u4_T1 u4_Rd u4_Pg q.2.2.2 u4_Mk u4_Lk u4_Ck u4_Jd u4_Ld u4_Pr) [] else o_At p l e rm_Pt_hexToken s m args below meth c Q o_cls D A 6 152 [] (o_cw ad ca u4_rt u4_Sj u4_T0 u4_T1 u4_Rd u4_Pg q.2.2.2 u4_Mk u4_Lk u4_Ck u4_Jd u4_Ld u4_Pr) [])) : o_At p l e rm_Pt_hexToken s m args below meth c Q o_cls D A 6 131 [.int y1, .int y0] (o_cw ad ca u4_rt u4_Sj u4_T0 u4_T1 u4_Rd u4_Pg Pt u4_Mk u4_Lk u4_Ck u4_Jd u4_Ld u4_Pr) [(0, .ref (ad 33)), (1, .int u4_x1), (3, .int x3), (5, .int x5)] := by
  unfold m_Pt_hexToken_j131 at h
  intro H locs ls hP hS hl
  have C0 := C
  obtain ⟨hx, hb, -, -, -, hown, hts, hK, -, -⟩ := C0
  refine lv_iadd hx hb d_Pt_hexToken_131 ?_
  refine lv_topi (fun x2_132 ex2_132 => ?_)
  replace h := o_nm_at ex2_132 h
  refine lv_istore_n (lv' := [(2, .int x2_132), (0, .ref (ad 33)), (1, .int u4_x1), (3, .int x3), (5, .int x5)]) hx hb d_Pt_hexToken_132 rfl hl (by decide) rfl (fun ls hl => ?_)
  refine lv_iload hx hb d_Pt_hexToken_133 (lv_at hl 4 rfl) ?_
  refine lv_if_lt (tgt := 144) hx hb d_Pt_hexToken_135 (by decide) (fun c7 => ?_) (fun c7 => ?_)
  · replace h := o_tt c7 h
    cases h
    exact h1 (Nat.succ_ne_zero 2) _ _ _ hP hS (lv_sub hl [] rfl)
  · replace h := o_ff c7 h
    refine lv_iload_n hx hb d_Pt_hexToken_138 rfl (lv_at hl 0 rfl) ?_
    refine lv_ldc (v := (1114111:Int32)) hx hb hown (hts _ k_4_193) d_Pt_hexToken_139 ?_
    refine lv_icmp_le (tgt := 146) hx hb d_Pt_hexToken_141 (by decide) (fun c8 => ?_) (fun c8 => ?_)
    · replace h := o_tt c8 h
      obtain ⟨x3_146, ex3_146⟩ : ∃ y : Int32, y = x3 + (1:Int32) := ⟨_, rfl⟩
      replace h := o_nm_at ex3_146 h
      refine lv_iinc (v := x3_146) (lv' := [(3, .int x3_146), (2, .int x2_132), (0, .ref (ad 33)), (1, .int u4_x1), (5, .int x5)]) hx hb d_Pt_hexToken_146 hl (k := 3) rfl (by rw [ex3_146]; rfl) (by decide) rfl (fun ls hl => ?_)
      refine lv_goto (tgt := 4) hx hb d_Pt_hexToken_149 (by decide) ?_
      cases h
      exact h0 rfl _ _ _ hP hS (lv_sub hl [2, 3, 1, 0] rfl)
    · replace h := o_ff c8 h
      cases h
      exact h1 (Nat.succ_ne_zero 2) _ _ _ hP hS (lv_sub hl [] rfl)
set_option maxHeartbeats 4000000 in
set_option maxRecDepth 100000 in
theorem w_Pt_hexToken_j108 {E : (Nat → Prop) → State → Heap → Prop} {p : Program} {l : Launch} {e : Env} {s : State} {m : MethodId} {args : Array Value} {below : List Frame} {meth : Method} {c : Code} {D : va_G} {ad kd sd vd xd : Nat → Nat} {ca : Nat → ClassId} {A : Nat → Prop} {Q : State → Prop} (hE : o_EK E kd sd vd xd) (C : o_Cx E p s m args meth c D o_cls (o_tys ca) "SchemaJudge$Pattern" b_Pt_hexToken (some .int) 6 cc_Pt_hexToken A) (hDD : ∀ (rt : Nat) (Sj : SSJ) (T0 : STx) (T1 : STx) (Rd : SRd) (Pg : SPg) (Pt : SPt) (Mk : SMk) (Lk : SLk) (Ck : SCk) (Jd : SJd) (Ld : SLd) (Pr : SPr), va_D A (o_cw ad ca rt Sj T0 T1 Rd Pg Pt Mk Lk Ck Jd Ld Pr)) (n : Nat) (u4_x1 : Int32) (u4_Sj : SSJ) (u4_T0 : STx) (u4_T1 : STx) (u4_Rd : SRd) (u4_Pg : SPg) (u4_Mk : SMk) (u4_Lk : SLk) (u4_Ck : SCk) (u4_Jd : SJd) (u4_Ld : SLd) (u4_Pr : SPr) (u4_rt : Nat) (x2 : Int32) (x3 : Int32) (y0 : Int32) (Pt : SPt) {q : Nat × Int32 × Int32 × SPt} (h : m_Pt_hexToken_j108 n u4_x1 x2 x3 y0 Pt = some q) (h0 : q.1 = 0 → o_At p l e rm_Pt_hexToken s m args below meth c Q o_cls D A 6 4 [] (o_cw ad ca u4_rt u4_Sj u4_T0 u4_T1 u4_Rd u4_Pg q.2.2.2 u4_Mk u4_Lk u4_Ck u4_Jd u4_Ld u4_Pr) [(0, .ref (ad 33)), (1, .int u4_x1), (2, .int q.2.1), (3, .int q.2.2.1)]) (h1 : q.1 ≠ 0 → (if q.1 = 1 then o_At p l e rm_Pt_hexToken s m args below meth c Q o_cls D A 6 22 [] (o_cw ad ca u4_rt u4_Sj u4_T0 u4_T1 u4_Rd u4_Pg q.2.2.2 u4_Mk u4_Lk u4_Ck u4_Jd u4_Ld u4_Pr) [(2, .int q.2.1)] else if q.1 = 2 then o_At p l e rm_Pt_hexToken s m args below meth c Q o_cls D A 6 78 [] (o_cw ad ca u4_rt u4_Sj u4_T0 u4_T1 u4_Rd u4_Pg q.2.2.2 u4_Mk u4_Lk u4_Ck u4_Jd u4_Ld u4_Pr) [(2, .int q.2.1)] else if q.1 = 3 then o_At p l e rm_Pt_hexToken s m args below meth c Q o_cls D A 6 144 [] (o_cw ad ca u4_rt u4_Sj u4_T0 u4_T1 u4_Rd u4_Pg q.2.2.2 u4_Mk u4_Lk u4_Ck u4_Jd u4_Ld u4_Pr) [] else o_At p l e rm_Pt_hexToken s m args below meth c Q o_cls D A 6 152 [] (o_cw ad ca u4_rt u4_Sj u4_T0 u4_T1 u4_Rd u4_Pg q.2.2.2 u4_Mk u4_Lk u4_Ck u4_Jd u4_Ld u4_Pr) [])) : o_At p l e rm_Pt_hexToken s m args below meth c Q o_cls D A 6 108 [.int y0] (o_cw ad ca u4_rt u4_Sj u4_T0 u4_T1 u4_Rd u4_Pg Pt u4_Mk u4_Lk u4_Ck u4_Jd u4_Ld u4_Pr) [(0, .ref (ad 33)), (1, .int u4_x1), (2, .int x2), (3, .int x3)] := by
  unfold m_Pt_hexToken_j108 at h
  intro H locs ls hP hS hl
  have C0 := C
  obtain ⟨hx, hb, -, -, -, hown, hts, hK, -, -⟩ := C0
  refine lv_istore (lv' := [(5, .int y0), (0, .ref (ad 33)), (1, .int u4_x1), (2, .int x2), (3, .int x3)]) hx hb d_Pt_hexToken_108 hl (by decide) rfl (fun ls hl => ?_)
  refine lv_iload_n hx hb d_Pt_hexToken_110 rfl (lv_at hl 3 rfl) ?_
  refine lv_bipush (v := (16:Int32)) hx hb d_Pt_hexToken_111 (by decide) ?_
  refine lv_imul hx hb d_Pt_hexToken_113 ?_
  refine lv_iload hx hb d_Pt_hexToken_114 (lv_at hl 0 rfl) ?_
  refine lv_bipush (v := (15:Int32)) hx hb d_Pt_hexToken_116 (by decide) ?_
  refine lv_icmp_le (tgt := 129) hx hb d_Pt_hexToken_118 (by decide) (fun c6 => ?_) (fun c6 => ?_)
  · replace h := o_tt c6 h
    refine lv_iload hx hb d_Pt_hexToken_129 (lv_at hl 0 rfl) ?_
    exact w_Pt_hexToken_j131 hE C hDD n u4_x1 u4_Sj u4_T0 u4_T1 u4_Rd u4_Pg u4_Mk u4_Lk u4_Ck u4_Jd u4_Ld u4_Pr u4_rt x3 y0 (x2 * (16:Int32)) y0 Pt h h0 h1 _ _ _ hP hS (lv_sub hl [1, 2, 4, 0] rfl)
  · replace h := o_ff c6 h
    refine lv_iload hx hb d_Pt_hexToken_121 (lv_at hl 0 rfl) ?_
    refine lv_bipush (v := (6:Int32)) hx hb d_Pt_hexToken_123 (by decide) ?_
    refine lv_isub hx hb d_Pt_hexToken_125 ?_
    refine lv_goto (tgt := 131) hx hb d_Pt_hexToken_126 (by decide) ?_
    exact w_Pt_hexToken_j131 hE C hDD n u4_x1 u4_Sj u4_T0 u4_T1 u4_Rd u4_Pg u4_Mk u4_Lk u4_Ck u4_Jd u4_Ld u4_Pr u4_rt x3 y0 (x2 * (16:Int32)) (y0 - (6:Int32)) Pt h h0 h1 _ _ _ hP hS (lv_sub hl [1, 2, 4, 0] rfl)
set_option maxHeartbeats 4000000 in
set_option maxRecDepth 100000 in
theorem w_Pt_hexToken_j83 {E : (Nat → Prop) → State → Heap → Prop} {p : Program} {l : Launch} {e : Env} {s : State} {m : MethodId} {args : Array Value} {below : List Frame} {meth : Method} {c : Code} {D : va_G} {ad kd sd vd xd : Nat → Nat} {ca : Nat → ClassId} {A : Nat → Prop} {Q : State → Prop} (hE : o_EK E kd sd vd xd) (C : o_Cx E p s m args meth c D o_cls (o_tys ca) "SchemaJudge$Pattern" b_Pt_hexToken (some .int) 6 cc_Pt_hexToken A) (hDD : ∀ (rt : Nat) (Sj : SSJ) (T0 : STx) (T1 : STx) (Rd : SRd) (Pg : SPg) (Pt : SPt) (Mk : SMk) (Lk : SLk) (Ck : SCk) (Jd : SJd) (Ld : SLd) (Pr : SPr), va_D A (o_cw ad ca rt Sj T0 T1 Rd Pg Pt Mk Lk Ck Jd Ld Pr)) (n : Nat) (u4_x1 : Int32) (u4_Sj : SSJ) (u4_T0 : STx) (u4_T1 : STx) (u4_Rd : SRd) (u4_Pg : SPg) (u4_Mk : SMk) (u4_Lk : SLk) (u4_Ck : SCk) (u4_Jd : SJd) (u4_Ld : SLd) (u4_Pr : SPr) (u4_rt : Nat) (x2 : Int32) (x3 : Int32) (x4 : Int32) (Pt : SPt) {q : Nat × Int32 × Int32 × SPt} (h : m_Pt_hexToken_j83 n u4_x1 x2 x3 x4 Pt = some q) (h0 : q.1 = 0 → o_At p l e rm_Pt_hexToken s m args below meth c Q o_cls D A 6 4 [] (o_cw ad ca u4_rt u4_Sj u4_T0 u4_T1 u4_Rd u4_Pg q.2.2.2 u4_Mk u4_Lk u4_Ck u4_Jd u4_Ld u4_Pr) [(0, .ref (ad 33)), (1, .int u4_x1), (2, .int q.2.1), (3, .int q.2.2.1)]) (h1 : q.1 ≠ 0 → (if q.1 = 1 then o_At p l e rm_Pt_hexToken s m args below meth c Q o_cls D A 6 22 [] (o_cw ad ca u4_rt u4_Sj u4_T0 u4_T1 u4_Rd u4_Pg q.2.2.2 u4_Mk u4_Lk u4_Ck u4_Jd u4_Ld u4_Pr) [(2, .int q.2.1)] else if q.1 = 2 then o_At p l e rm_Pt_hexToken s m args below meth c Q o_cls D A 6 78 [] (o_cw ad ca u4_rt u4_Sj u4_T0 u4_T1 u4_Rd u4_Pg q.2.2.2 u4_Mk u4_Lk u4_Ck u4_Jd u4_Ld u4_Pr) [(2, .int q.2.1)] else if q.1 = 3 then o_At p l e rm_Pt_hexToken s m args below meth c Q o_cls D A 6 144 [] (o_cw ad ca u4_rt u4_Sj u4_T0 u4_T1 u4_Rd u4_Pg q.2.2.2 u4_Mk u4_Lk u4_Ck u4_Jd u4_Ld u4_Pr) [] else o_At p l e rm_Pt_hexToken s m args below meth c Q o_cls D A 6 152 [] (o_cw ad ca u4_rt u4_Sj u4_T0 u4_T1 u4_Rd u4_Pg q.2.2.2 u4_Mk u4_Lk u4_Ck u4_Jd u4_Ld u4_Pr) [])) : o_At p l e rm_Pt_hexToken s m args below meth c Q o_cls D A 6 83 [] (o_cw ad ca u4_rt u4_Sj u4_T0 u4_T1 u4_Rd u4_Pg Pt u4_Mk u4_Lk u4_Ck u4_Jd u4_Ld u4_Pr) [(0, .ref (ad 33)), (1, .int u4_x1), (2, .int x2), (3, .int x3), (4, .int x4)] := by
  unfold m_Pt_hexToken_j83 at h
  intro H locs ls hP hS hl
  have C0 := C
  obtain ⟨hx, hb, -, -, -, hown, hts, hK, -, -⟩ := C0
  refine lv_iload hx hb d_Pt_hexToken_83 (lv_at hl 4 rfl) ?_
  refine lv_if_lt (tgt := 107) hx hb d_Pt_hexToken_85 (by decide) (fun c5 => ?_) (fun c5 => ?_)
  · replace h := o_tt c5 h
    refine lv_iconst (v := (-1:Int32)) hx hb d_Pt_hexToken_107 (by decide) ?_
    exact w_Pt_hexToken_j108 hE C hDD n u4_x1 u4_Sj u4_T0 u4_T1 u4_Rd u4_Pg u4_Mk u4_Lk u4_Ck u4_Jd u4_Ld u4_Pr u4_rt x2 x3 (-1:Int32) Pt h h0 h1 _ _ _ hP hS (lv_sub hl [0, 1, 2, 3] rfl)
  · replace h := o_ff c5 h
    refine lv_iload hx hb d_Pt_hexToken_88 (lv_at hl 4 rfl) ?_
    refine lv_sipush (v := (128:Int32)) hx hb d_Pt_hexToken_90 (by decide) ?_
    refine lv_icmp_ge (tgt := 107) hx hb d_Pt_hexToken_93 (by decide) (fun c9 => ?_) (fun c9 => ?_)
    · replace h := o_tt c9 h
      refine lv_iconst (v := (-1:Int32)) hx hb d_Pt_hexToken_107 (by decide) ?_
      exact w_Pt_hexToken_j108 hE C hDD n u4_x1 u4_Sj u4_T0 u4_T1 u4_Rd u4_Pg u4_Mk u4_Lk u4_Ck u4_Jd u4_Ld u4_Pr u4_rt x2 x3 (-1:Int32) Pt h h0 h1 _ _ _ hP hS (lv_sub hl [0, 1, 2, 3] rfl)
    · replace h := o_ff c9 h
      refine va_ldcS (q := sd 7) hx hb hown (hE.2.2.2.2.2.1 _ _ _ C.2.2.2.2.2.2.2.2.2 ("SchemaJudge$Pattern", 90, "0123456789abcdefABCDEF", 7) (List.mem_of_getElem? (i := 7) rfl)) d_Pt_hexToken_96 ?_
      refine lv_iload hx hb d_Pt_hexToken_98 (lv_at hl 4 rfl) ?_
      refine lv_i2c hx hb d_Pt_hexToken_100 rfl ?_
      obtain ⟨q1, hq1, h⟩ := o_bd_some h
      refine o_VR (K := "java/lang/String") (st1 := [.int q1]) (w1 := (o_cw ad ca u4_rt u4_Sj u4_T0 u4_T1 u4_Rd u4_Pg Pt u4_Mk u4_Lk u4_Ck u4_Jd u4_Ld u4_Pr)) hE.1 C (c_JS_indexOf hE l n 7 rfl ((x4.toUInt32 % 65536).toInt32) u4_Sj u4_T0 u4_T1 u4_Rd u4_Pg Pt u4_Mk u4_Lk u4_Ck u4_Jd u4_Ld u4_Pr u4_rt hq1) hP (hDD _ _ _ _ _ _ _ _ _ _ _ _ _) hS hl.1 (o_rs hE C rfl hS) k_4_136 k_4_137 k_4_138 k_1_18 k_4_139 hv_JS_indexOf rfl rfl ⟨(Nat.le_of_ble_eq_true rfl), (Nat.le_of_ble_eq_true rfl)⟩ rfl (Nat.le_of_ble_eq_true rfl) ⟨Nat.zero_le _, Nat.zero_le _⟩ rfl d_Pt_hexToken_101 (fun H locs hP hS => ?_)
      refine lv_goto (tgt := 108) hx hb d_Pt_hexToken_104 (by decide) ?_
      exact w_Pt_hexToken_j108 hE C hDD n u4_x1 u4_Sj u4_T0 u4_T1 u4_Rd u4_Pg u4_Mk u4_Lk u4_Ck u4_Jd u4_Ld u4_Pr u4_rt x2 x3 q1 Pt h h0 h1 _ _ _ hP hS (lv_sub hl [0, 1, 2, 3] rfl)
set_option maxHeartbeats 4000000 in
set_option maxRecDepth 100000 in
theorem w_Pt_hexToken_j51 {E : (Nat → Prop) → State → Heap → Prop} {p : Program} {l : Launch} {e : Env} {s : State} {m : MethodId} {args : Array Value} {below : List Frame} {meth : Method} {c : Code} {D : va_G} {ad kd sd vd xd : Nat → Nat} {ca : Nat → ClassId} {A : Nat → Prop} {Q : State → Prop} (hE : o_EK E kd sd vd xd) (C : o_Cx E p s m args meth c D o_cls (o_tys ca) "SchemaJudge$Pattern" b_Pt_hexToken (some .int) 6 cc_Pt_hexToken A) (hDD : ∀ (rt : Nat) (Sj : SSJ) (T0 : STx) (T1 : STx) (Rd : SRd) (Pg : SPg) (Pt : SPt) (Mk : SMk) (Lk : SLk) (Ck : SCk) (Jd : SJd) (Ld : SLd) (Pr : SPr), va_D A (o_cw ad ca rt Sj T0 T1 Rd Pg Pt Mk Lk Ck Jd Ld Pr)) (n : Nat) (u4_x1 : Int32) (u4_Sj : SSJ) (u4_T0 : STx) (u4_T1 : STx) (u4_Rd : SRd) (u4_Pg : SPg) (u4_Mk : SMk) (u4_Lk : SLk) (u4_Ck : SCk) (u4_Jd : SJd) (u4_Ld : SLd) (u4_Pr : SPr) (u4_rt : Nat) (x2 : Int32) (x3 : Int32) (y0 : Int32) (Pt : SPt) {q : Nat × Int32 × Int32 × SPt} (h : m_Pt_hexToken_j51 n u4_x1 x2 x3 y0 Pt = some q) (h0 : q.1 = 0 → o_At p l e rm_Pt_hexToken s m args below meth c Q o_cls D A 6 4 [] (o_cw ad ca u4_rt u4_Sj u4_T0 u4_T1 u4_Rd u4_Pg q.2.2.2 u4_Mk u4_Lk u4_Ck u4_Jd u4_Ld u4_Pr) [(0, .ref (ad 33)), (1, .int u4_x1), (2, .int q.2.1), (3, .int q.2.2.1)]) (h1 : q.1 ≠ 0 → (if q.1 = 1 then o_At p l e rm_Pt_hexToken s m args below meth c Q o_cls D A 6 22 [] (o_cw ad ca u4_rt u4_Sj u4_T0 u4_T1 u4_Rd u4_Pg q.2.2.2 u4_Mk u4_Lk u4_Ck u4_Jd u4_Ld u4_Pr) [(2, .int q.2.1)] else if q.1 = 2 then o_At p l e rm_Pt_hexToken s m args below meth c Q o_cls D A 6 78 [] (o_cw ad ca u4_rt u4_Sj u4_T0 u4_T1 u4_Rd u4_Pg q.2.2.2 u4_Mk u4_Lk u4_Ck u4_Jd u4_Ld u4_Pr) [(2, .int q.2.1)] else if q.1 = 3 then o_At p l e rm_Pt_hexToken s m args below meth c Q o_cls D A 6 144 [] (o_cw ad ca u4_rt u4_Sj u4_T0 u4_T1 u4_Rd u4_Pg q.2.2.2 u4_Mk u4_Lk u4_Ck u4_Jd u4_Ld u4_Pr) [] else o_At p l e rm_Pt_hexToken s m args below meth c Q o_cls D A 6 152 [] (o_cw ad ca u4_rt u4_Sj u4_T0 u4_T1 u4_Rd u4_Pg q.2.2.2 u4_Mk u4_Lk u4_Ck u4_Jd u4_Ld u4_Pr) [])) : o_At p l e rm_Pt_hexToken s m args below meth c Q o_cls D A 6 51 [.int y0] (o_cw ad ca u4_rt u4_Sj u4_T0 u4_T1 u4_Rd u4_Pg Pt u4_Mk u4_Lk u4_Ck u4_Jd u4_Ld u4_Pr) [(0, .ref (ad 33)), (1, .int u4_x1), (2, .int x2), (3, .int x3)] := by
  unfold m_Pt_hexToken_j51 at h
  intro H locs ls hP hS hl
  have C0 := C
  obtain ⟨hx, hb, -, -, -, hown, hts, hK, -, -⟩ := C0
  refine lv_istore (lv' := [(4, .int y0), (0, .ref (ad 33)), (1, .int u4_x1), (2, .int x2), (3, .int x3)]) hx hb d_Pt_hexToken_51 hl (by decide) rfl (fun ls hl => ?_)
  refine lv_aload_n hx hb d_Pt_hexToken_53 rfl (lv_at hl 1 rfl) ?_
  refine lv_dup hx hb d_Pt_hexToken_54 rfl ?_
  refine o_get (v := .int (Pt_position Pt)) C in_Pt hP 33 cw_33 rfl 4 (by decide) k_1_164 rfl rfl d_Pt_hexToken_55 ?_
  refine lv_iconst (v := (1:Int32)) hx hb d_Pt_hexToken_58 (by decide) ?_
  refine lv_iadd hx hb d_Pt_hexToken_59 ?_
  refine o_put (v := .int ((Pt_position Pt) + (1:Int32))) (ty := .int) (w1 := (o_cw ad ca u4_rt u4_Sj u4_T0 u4_T1 u4_Rd u4_Pg (Pt_mk (Pt_tokens Pt) (Pt_characterCount Pt) (Pt_tokenCount Pt) ((Pt_position Pt) + (1:Int32)) (Pt_total Pt) (Pt_least Pt) (Pt_most Pt) (Pt_depth Pt) (Pt_blockStarts Pt) (Pt_branchStarts Pt) (Pt_jumps Pt) (Pt_sizesBefore Pt)) u4_Mk u4_Lk u4_Ck u4_Jd u4_Ld u4_Pr)) C in_Pt t_Pt t_Pt_ok n_Pt hP (hDD _ _ _ _ _ _ _ _ _ _ _ _ _) hS 33 cw_33 rfl 4 (by decide) k_1_164 rfl rfl (by decide +kernel) rfl rfl (Nat.le_of_ble_eq_true rfl) rfl d_Pt_hexToken_60 (fun H locs hP hS => ?_)
  refine lv_iload_n hx hb d_Pt_hexToken_63 rfl (lv_at hl 2 rfl) ?_
  refine lv_if_ne (tgt := 83) hx hb d_Pt_hexToken_64 (by decide) (fun c4 => ?_) (fun c4 => ?_)
  · replace h := o_ff c4 h
    exact w_Pt_hexToken_j83 hE C hDD n u4_x1 u4_Sj u4_T0 u4_T1 u4_Rd u4_Pg u4_Mk u4_Lk u4_Ck u4_Jd u4_Ld u4_Pr u4_rt x2 x3 y0 (Pt_mk (Pt_tokens Pt) (Pt_characterCount Pt) (Pt_tokenCount Pt) ((Pt_position Pt) + (1:Int32)) (Pt_total Pt) (Pt_least Pt) (Pt_most Pt) (Pt_depth Pt) (Pt_blockStarts Pt) (Pt_branchStarts Pt) (Pt_jumps Pt) (Pt_sizesBefore Pt)) h h0 h1 _ _ _ hP hS (lv_sub hl [1, 2, 3, 4, 0] rfl)
  · replace h := o_tt c4 h
    refine lv_iload_n hx hb d_Pt_hexToken_67 rfl (lv_at hl 4 rfl) ?_
    refine lv_if_le (tgt := 83) hx hb d_Pt_hexToken_68 (by decide) (fun c10 => ?_) (fun c10 => ?_)
    · replace h := o_tt c10 h
      exact w_Pt_hexToken_j83 hE C hDD n u4_x1 u4_Sj u4_T0 u4_T1 u4_Rd u4_Pg u4_Mk u4_Lk u4_Ck u4_Jd u4_Ld u4_Pr u4_rt x2 x3 y0 (Pt_mk (Pt_tokens Pt) (Pt_characterCount Pt) (Pt_tokenCount Pt) ((Pt_position Pt) + (1:Int32)) (Pt_total Pt) (Pt_least Pt) (Pt_most Pt) (Pt_depth Pt) (Pt_blockStarts Pt) (Pt_branchStarts Pt) (Pt_jumps Pt) (Pt_sizesBefore Pt)) h h0 h1 _ _ _ hP hS (lv_sub hl [1, 2, 3, 4, 0] rfl)
    · replace h := o_ff c10 h
      refine lv_iload hx hb d_Pt_hexToken_71 (lv_at hl 0 rfl) ?_
      refine lv_bipush (v := (125:Int32)) hx hb d_Pt_hexToken_73 (by decide) ?_
      refine lv_icmp_ne (tgt := 83) hx hb d_Pt_hexToken_75 (by decide) (fun c11 => ?_) (fun c11 => ?_)
      · replace h := o_ff c11 h
        exact w_Pt_hexToken_j83 hE C hDD n u4_x1 u4_Sj u4_T0 u4_T1 u4_Rd u4_Pg u4_Mk u4_Lk u4_Ck u4_Jd u4_Ld u4_Pr u4_rt x2 x3 y0 (Pt_mk (Pt_tokens Pt) (Pt_characterCount Pt) (Pt_tokenCount Pt) ((Pt_position Pt) + (1:Int32)) (Pt_total Pt) (Pt_least Pt) (Pt_most Pt) (Pt_depth Pt) (Pt_blockStarts Pt) (Pt_branchStarts Pt) (Pt_jumps Pt) (Pt_sizesBefore Pt)) h h0 h1 _ _ _ hP hS (lv_sub hl [1, 2, 3, 4, 0] rfl)
      · replace h := o_tt c11 h
        cases h
        exact h1 (Nat.succ_ne_zero 1) _ _ _ hP hS (lv_sub hl [3] rfl)
set_option maxHeartbeats 4000000 in
set_option maxRecDepth 100000 in
theorem w_Pt_hexToken_j27 {E : (Nat → Prop) → State → Heap → Prop} {p : Program} {l : Launch} {e : Env} {s : State} {m : MethodId} {args : Array Value} {below : List Frame} {meth : Method} {c : Code} {D : va_G} {ad kd sd vd xd : Nat → Nat} {ca : Nat → ClassId} {A : Nat → Prop} {Q : State → Prop} (hE : o_EK E kd sd vd xd) (C : o_Cx E p s m args meth c D o_cls (o_tys ca) "SchemaJudge$Pattern" b_Pt_hexToken (some .int) 6 cc_Pt_hexToken A) (hDD : ∀ (rt : Nat) (Sj : SSJ) (T0 : STx) (T1 : STx) (Rd : SRd) (Pg : SPg) (Pt : SPt) (Mk : SMk) (Lk : SLk) (Ck : SCk) (Jd : SJd) (Ld : SLd) (Pr : SPr), va_D A (o_cw ad ca rt Sj T0 T1 Rd Pg Pt Mk Lk Ck Jd Ld Pr)) (n : Nat) (u4_x1 : Int32) (u4_Sj : SSJ) (u4_T0 : STx) (u4_T1 : STx) (u4_Rd : SRd) (u4_Pg : SPg) (u4_Mk : SMk) (u4_Lk : SLk) (u4_Ck : SCk) (u4_Jd : SJd) (u4_Ld : SLd) (u4_Pr : SPr) (u4_rt : Nat) (x2 : Int32) (x3 : Int32) (Pt : SPt) {q : Nat × Int32 × Int32 × SPt} (h : m_Pt_hexToken_j27 n u4_x1 x2 x3 Pt = some q) (h0 : q.1 = 0 → o_At p l e rm_Pt_hexToken s m args below meth c Q o_cls D A 6 4 [] (o_cw ad ca u4_rt u4_Sj u4_T0 u4_T1 u4_Rd u4_Pg q.2.2.2 u4_Mk u4_Lk u4_Ck u4_Jd u4_Ld u4_Pr) [(0, .ref (ad 33)), (1, .int u4_x1), (2, .int q.2.1), (3, .int q.2.2.1)]) (h1 : q.1 ≠ 0 → (if q.1 = 1 then o_At p l e rm_Pt_hexToken s m args below meth c Q o_cls D A 6 22 [] (o_cw ad ca u4_rt u4_Sj u4_T0 u4_T1 u4_Rd u4_Pg q.2.2.2 u4_Mk u4_Lk u4_Ck u4_Jd u4_Ld u4_Pr) [(2, .int q.2.1)] else if q.1 = 2 then o_At p l e rm_Pt_hexToken s m args below meth c Q o_cls D A 6 78 [] (o_cw ad ca u4_rt u4_Sj u4_T0 u4_T1 u4_Rd u4_Pg q.2.2.2 u4_Mk u4_Lk u4_Ck u4_Jd u4_Ld u4_Pr) [(2, .int q.2.1)] else if q.1 = 3 then o_At p l e rm_Pt_hexToken s m args below meth c Q o_cls D A 6 144 [] (o_cw ad ca u4_rt u4_Sj u4_T0 u4_T1 u4_Rd u4_Pg q.2.2.2 u4_Mk u4_Lk u4_Ck u4_Jd u4_Ld u4_Pr) [] else o_At p l e rm_Pt_hexToken s m args below meth c Q o_cls D A 6 152 [] (o_cw ad ca u4_rt u4_Sj u4_T0 u4_T1 u4_Rd u4_Pg q.2.2.2 u4_Mk u4_Lk u4_Ck u4_Jd u4_Ld u4_Pr) [])) : o_At p l e rm_Pt_hexToken s m args below meth c Q o_cls D A 6 27 [] (o_cw ad ca u4_rt u4_Sj u4_T0 u4_T1 u4_Rd u4_Pg Pt u4_Mk u4_Lk u4_Ck u4_Jd u4_Ld u4_Pr) [(0, .ref (ad 33)), (1, .int u4_x1), (2, .int x2), (3, .int x3)] := by
  unfold m_Pt_hexToken_j27 at h
  intro H locs ls hP hS hl
  have C0 := C
  obtain ⟨hx, hb, -, -, -, hown, hts, hK, -, -⟩ := C0
  refine lv_aload_n hx hb d_Pt_hexToken_27 rfl (lv_at hl 0 rfl) ?_
  refine o_get (v := .int (Pt_position Pt)) C in_Pt hP 33 cw_33 rfl 4 (by decide) k_1_164 rfl rfl d_Pt_hexToken_28 ?_
  refine lv_aload_n hx hb d_Pt_hexToken_31 rfl (lv_at hl 0 rfl) ?_
  refine o_get (v := .int (Pt_characterCount Pt)) C in_Pt hP 33 cw_33 rfl 2 (by decide) k_1_162 rfl rfl d_Pt_hexToken_32 ?_
  refine lv_icmp_ge (tgt := 50) hx hb d_Pt_hexToken_35 (by decide) (fun c3 => ?_) (fun c3 => ?_)
  · replace h := o_tt c3 h
    refine lv_iconst (v := (-1:Int32)) hx hb d_Pt_hexToken_50 (by decide) ?_
    exact w_Pt_hexToken_j51 hE C hDD n u4_x1 u4_Sj u4_T0 u4_T1 u4_Rd u4_Pg u4_Mk u4_Lk u4_Ck u4_Jd u4_Ld u4_Pr u4_rt x2 x3 (-1:Int32) Pt h h0 h1 _ _ _ hP hS (lv_sub hl [0, 1, 2, 3] rfl)
  · replace h := o_ff c3 h
    refine lv_aload_n hx hb d_Pt_hexToken_38 rfl (lv_at hl 0 rfl) ?_
    refine o_get (v := .ref (ad 34)) C in_Pt hP 33 cw_33 rfl 1 (by decide) k_1_161 rfl rfl d_Pt_hexToken_39 ?_
    refine lv_aload_n hx hb d_Pt_hexToken_42 rfl (lv_at hl 0 rfl) ?_
    refine o_get (v := .int (Pt_position Pt)) C in_Pt hP 33 cw_33 rfl 4 (by decide) k_1_164 rfl rfl d_Pt_hexToken_43 ?_
    obtain ⟨g12, h⟩ := o_gd_some h
    refine o_iald (f := (Pt_tokens Pt)) C hP 34 28 cw_34 rfl g12 d_Pt_hexToken_46 ?_
    refine lv_goto (tgt := 51) hx hb d_Pt_hexToken_47 (by decide) ?_
    exact w_Pt_hexToken_j51 hE C hDD n u4_x1 u4_Sj u4_T0 u4_T1 u4_Rd u4_Pg u4_Mk u4_Lk u4_Ck u4_Jd u4_Ld u4_Pr u4_rt x2 x3 ((Pt_tokens Pt) (Pt_position Pt).toNatClampNeg) Pt h h0 h1 _ _ _ hP hS (lv_sub hl [0, 1, 2, 3] rfl)
set_option maxHeartbeats 4000000 in
set_option maxRecDepth 100000 in
theorem w_Pt_hexToken_b4 {E : (Nat → Prop) → State → Heap → Prop} {p : Program} {l : Launch} {e : Env} {s : State} {m : MethodId} {args : Array Value} {below : List Frame} {meth : Method} {c : Code} {D : va_G} {ad kd sd vd xd : Nat → Nat} {ca : Nat → ClassId} {A : Nat → Prop} {Q : State → Prop} (hE : o_EK E kd sd vd xd) (C : o_Cx E p s m args meth c D o_cls (o_tys ca) "SchemaJudge$Pattern" b_Pt_hexToken (some .int) 6 cc_Pt_hexToken A) (hDD : ∀ (rt : Nat) (Sj : SSJ) (T0 : STx) (T1 : STx) (Rd : SRd) (Pg : SPg) (Pt : SPt) (Mk : SMk) (Lk : SLk) (Ck : SCk) (Jd : SJd) (Ld : SLd) (Pr : SPr), va_D A (o_cw ad ca rt Sj T0 T1 Rd Pg Pt Mk Lk Ck Jd Ld Pr)) (n : Nat) (u4_x1 : Int32) (u4_Sj : SSJ) (u4_T0 : STx) (u4_T1 : STx) (u4_Rd : SRd) (u4_Pg : SPg) (u4_Mk : SMk) (u4_Lk : SLk) (u4_Ck : SCk) (u4_Jd : SJd) (u4_Ld : SLd) (u4_Pr : SPr) (u4_rt : Nat) (z : Int32 × Int32 × SPt) (q : Nat × Int32 × Int32 × SPt) (h : m_Pt_hexToken_b4 n u4_x1 z = some q) (h0 : q.1 = 0 → o_At p l e rm_Pt_hexToken s m args below meth c Q o_cls D A 6 4 [] (o_cw ad ca u4_rt u4_Sj u4_T0 u4_T1 u4_Rd u4_Pg q.2.2.2 u4_Mk u4_Lk u4_Ck u4_Jd u4_Ld u4_Pr) [(0, .ref (ad 33)), (1, .int u4_x1), (2, .int q.2.1), (3, .int q.2.2.1)]) (h1 : q.1 ≠ 0 → (if q.1 = 1 then o_At p l e rm_Pt_hexToken s m args below meth c Q o_cls D A 6 22 [] (o_cw ad ca u4_rt u4_Sj u4_T0 u4_T1 u4_Rd u4_Pg q.2.2.2 u4_Mk u4_Lk u4_Ck u4_Jd u4_Ld u4_Pr) [(2, .int q.2.1)] else if q.1 = 2 then o_At p l e rm_Pt_hexToken s m args below meth c Q o_cls D A 6 78 [] (o_cw ad ca u4_rt u4_Sj u4_T0 u4_T1 u4_Rd u4_Pg q.2.2.2 u4_Mk u4_Lk u4_Ck u4_Jd u4_Ld u4_Pr) [(2, .int q.2.1)] else if q.1 = 3 then o_At p l e rm_Pt_hexToken s m args below meth c Q o_cls D A 6 144 [] (o_cw ad ca u4_rt u4_Sj u4_T0 u4_T1 u4_Rd u4_Pg q.2.2.2 u4_Mk u4_Lk u4_Ck u4_Jd u4_Ld u4_Pr) [] else o_At p l e rm_Pt_hexToken s m args below meth c Q o_cls D A 6 152 [] (o_cw ad ca u4_rt u4_Sj u4_T0 u4_T1 u4_Rd u4_Pg q.2.2.2 u4_Mk u4_Lk u4_Ck u4_Jd u4_Ld u4_Pr) [])) : o_At p l e rm_Pt_hexToken s m args below meth c Q o_cls D A 6 4 [] (o_cw ad ca u4_rt u4_Sj u4_T0 u4_T1 u4_Rd u4_Pg z.2.2 u4_Mk u4_Lk u4_Ck u4_Jd u4_Ld u4_Pr) [(0, .ref (ad 33)), (1, .int u4_x1), (2, .int z.1), (3, .int z.2.1)] := by
  unfold m_Pt_hexToken_b4 at h
  intro H locs ls hP hS hl
  have C0 := C
  obtain ⟨hx, hb, -, -, -, hown, hts, hK, -, -⟩ := C0
  refine lv_iload_n hx hb d_Pt_hexToken_4 rfl (lv_at hl 3 rfl) ?_
  refine lv_aload_n hx hb d_Pt_hexToken_5 rfl (lv_at hl 0 rfl) ?_
  refine o_get (v := .ref (ad 34)) C in_Pt hP 33 cw_33 rfl 1 (by decide) k_1_161 rfl rfl d_Pt_hexToken_6 ?_
  refine va_alen (v := (4000:Int32)) hx hb hK hP 34 28 cw_34 rfl rfl d_Pt_hexToken_9 ?_
  refine lv_icmp_ge (tgt := 152) hx hb d_Pt_hexToken_10 (by decide) (fun c1 => ?_) (fun c1 => ?_)
  · replace h := o_tt c1 h
    cases h
    exact h1 (Nat.succ_ne_zero 3) _ _ _ hP hS (lv_sub hl [] rfl)
  · replace h := o_ff c1 h
    refine lv_iload_n hx hb d_Pt_hexToken_13 rfl (lv_at hl 1 rfl) ?_
    refine lv_if_le (tgt := 27) hx hb d_Pt_hexToken_14 (by decide) (fun c2 => ?_) (fun c2 => ?_)
    · replace h := o_tt c2 h
      exact w_Pt_hexToken_j27 hE C hDD n u4_x1 u4_Sj u4_T0 u4_T1 u4_Rd u4_Pg u4_Mk u4_Lk u4_Ck u4_Jd u4_Ld u4_Pr u4_rt z.1 z.2.1 z.2.2 h h0 h1 _ _ _ hP hS (lv_sub hl [0, 1, 2, 3] rfl)
    · replace h := o_ff c2 h
      refine lv_iload_n hx hb d_Pt_hexToken_17 rfl (lv_at hl 3 rfl) ?_
      refine lv_iload_n hx hb d_Pt_hexToken_18 rfl (lv_at hl 1 rfl) ?_
      refine lv_icmp_ne (tgt := 27) hx hb d_Pt_hexToken_19 (by decide) (fun c13 => ?_) (fun c13 => ?_)
      · replace h := o_ff c13 h
        exact w_Pt_hexToken_j27 hE C hDD n u4_x1 u4_Sj u4_T0 u4_T1 u4_Rd u4_Pg u4_Mk u4_Lk u4_Ck u4_Jd u4_Ld u4_Pr u4_rt z.1 z.2.1 z.2.2 h h0 h1 _ _ _ hP hS (lv_sub hl [0, 1, 2, 3] rfl)
      · replace h := o_tt c13 h
        cases h
        exact h1 (Nat.succ_ne_zero 0) _ _ _ hP hS (lv_sub hl [2] rfl)
set_option maxHeartbeats 4000000 in
set_option maxRecDepth 100000 in
theorem c_Pt_hexToken {E : (Nat → Prop) → State → Heap → Prop} {D : va_G} {ad kd sd vd xd : Nat → Nat} {ca : Nat → ClassId} (hE : o_EK E kd sd vd xd) (l : Launch) (n : Nat) (x1 : Int32) (Pt : SPt) (Sj : SSJ) (T0 : STx) (T1 : STx) (Rd : SRd) (Pg : SPg) (Mk : SMk) (Lk : SLk) (Ck : SCk) (Jd : SJd) (Ld : SLd) (Pr : SPr) (rt : Nat) {r : Int32 × SPt} (h : m_Pt_hexToken n x1 Pt = some r) : o_Cn E l D o_cls (o_tys ca) y_Pt_hexToken cc_Pt_hexToken rm_Pt_hexToken [.ref (ad 33), .int x1] (o_cw ad ca rt Sj T0 T1 Rd Pg Pt Mk Lk Ck Jd Ld Pr) (o_cw ad ca rt Sj T0 T1 Rd Pg r.2 Mk Lk Ck Jd Ld Pr) (some (.int r.1)) := by
  refine o_Cn_of (by decide) (Nat.le_of_ble_eq_true rfl) ?_
  intro p e s m below meth c A ls C hD hP hS hl
  have hDD : ∀ (rt : Nat) (Sj : SSJ) (T0 : STx) (T1 : STx) (Rd : SRd) (Pg : SPg) (Pt : SPt) (Mk : SMk) (Lk : SLk) (Ck : SCk) (Jd : SJd) (Ld : SLd) (Pr : SPr), va_D A (o_cw ad ca rt Sj T0 T1 Rd Pg Pt Mk Lk Ck Jd Ld Pr) := fun _ _ _ _ _ _ _ _ _ _ _ _ _ => o_D_map hD rfl
  have hl : lv_has ls 6 [(0, .ref (ad 33)), (1, .int x1)] := hl
  unfold m_Pt_hexToken at h
  have C0 := C
  obtain ⟨hx, hb, -, -, -, hown, hts, hK, -, -⟩ := C0
  refine lv_iconst (v := (0:Int32)) hx hb d_Pt_hexToken_0 (by decide) ?_
  refine lv_istore_n (lv' := [(2, .int (0:Int32)), (0, .ref (ad 33)), (1, .int x1)]) hx hb d_Pt_hexToken_1 rfl hl (by decide) rfl (fun ls hl => ?_)
  refine lv_iconst (v := (0:Int32)) hx hb d_Pt_hexToken_2 (by decide) ?_
  refine lv_istore_n (lv' := [(3, .int (0:Int32)), (2, .int (0:Int32)), (0, .ref (ad 33)), (1, .int x1)]) hx hb d_Pt_hexToken_3 rfl hl (by decide) rfl (fun ls hl => ?_)
  obtain ⟨q2, hq2, h⟩ := o_bd_some h
  refine o_sim2 (AH := fun zz => o_At p l e rm_Pt_hexToken s m _ below meth c _ o_cls D A 6 4 [] (o_cw ad ca rt Sj T0 T1 Rd Pg zz.2.2 Mk Lk Ck Jd Ld Pr) [(0, .ref (ad 33)), (1, .int x1), (2, .int zz.1), (3, .int zz.2.1)]) (AX := fun qq => if qq.1 = 1 then o_At p l e rm_Pt_hexToken s m _ below meth c _ o_cls D A 6 22 [] (o_cw ad ca rt Sj T0 T1 Rd Pg qq.2.2.2 Mk Lk Ck Jd Ld Pr) [(2, .int qq.2.1)] else if qq.1 = 2 then o_At p l e rm_Pt_hexToken s m _ below meth c _ o_cls D A 6 78 [] (o_cw ad ca rt Sj T0 T1 Rd Pg qq.2.2.2 Mk Lk Ck Jd Ld Pr) [(2, .int qq.2.1)] else if qq.1 = 3 then o_At p l e rm_Pt_hexToken s m _ below meth c _ o_cls D A 6 144 [] (o_cw ad ca rt Sj T0 T1 Rd Pg qq.2.2.2 Mk Lk Ck Jd Ld Pr) [] else o_At p l e rm_Pt_hexToken s m _ below meth c _ o_cls D A 6 152 [] (o_cw ad ca rt Sj T0 T1 Rd Pg qq.2.2.2 Mk Lk Ck Jd Ld Pr) []) (fun zz qq h h0 h1 => w_Pt_hexToken_b4 hE C hDD n x1 Sj T0 T1 Rd Pg Mk Lk Ck Jd Ld Pr rt zz qq h h0 h1) n _ q2 hq2 ?_ _ _ _ hP hS (lv_sub hl [2, 3, 1, 0] rfl)
  by_cases c14 : q2.1 = 1
  · replace h := o_tt c14 h
    refine o_ip c14 ?_
    intro H locs ls hP hS hl
    refine lv_ldc (v := (2097152:Int32)) hx hb hown (hts _ k_4_130) d_Pt_hexToken_22 ?_
    refine lv_iload_n hx hb d_Pt_hexToken_24 rfl (lv_at hl 0 rfl) ?_
    refine lv_ior hx hb d_Pt_hexToken_25 ?_
    cases h
    exact o_ri (v := ((2097152:Int32) ||| q2.2.1)) C hP hS d_Pt_hexToken_26
  replace h := o_ff c14 h
  refine o_in_ c14 ?_
  by_cases c15 : q2.1 = 2
  · replace h := o_tt c15 h
    refine o_ip c15 ?_
    intro H locs ls hP hS hl
    refine lv_ldc (v := (2097152:Int32)) hx hb hown (hts _ k_4_130) d_Pt_hexToken_78 ?_
    refine lv_iload_n hx hb d_Pt_hexToken_80 rfl (lv_at hl 0 rfl) ?_
    refine lv_ior hx hb d_Pt_hexToken_81 ?_
    cases h
    exact o_ri (v := ((2097152:Int32) ||| q2.2.1)) C hP hS d_Pt_hexToken_82
  replace h := o_ff c15 h
  refine o_in_ c15 ?_
  by_cases c16 : q2.1 = 3
  · replace h := o_tt c16 h
    refine o_ip c16 ?_
    intro H locs ls hP hS hl
    refine lv_iconst (v := (-1:Int32)) hx hb d_Pt_hexToken_144 (by decide) ?_
    cases h
    exact o_ri (v := (-1:Int32)) C hP hS d_Pt_hexToken_145
  replace h := o_ff c16 h
  refine o_in_ c16 ?_
  intro H locs ls hP hS hl
  refine lv_iconst (v := (-1:Int32)) hx hb d_Pt_hexToken_152 (by decide) ?_
  cases h
  exact o_ri (v := (-1:Int32)) C hP hS d_Pt_hexToken_153
set_option maxHeartbeats 4000000 in
set_option maxRecDepth 100000 in
theorem c_Pt_isIn {E : (Nat → Prop) → State → Heap → Prop} {D : va_G} {ad kd sd vd xd : Nat → Nat} {ca : Nat → ClassId} (hE : o_EK E kd sd vd xd) (l : Launch) (n : Nat) (x0 : Nat) (gx0 : o_sb x0 = true) (x1 : Int32) (Sj : SSJ) (T0 : STx) (T1 : STx) (Rd : SRd) (Pg : SPg) (Pt : SPt) (Mk : SMk) (Lk : SLk) (Ck : SCk) (Jd : SJd) (Ld : SLd) (Pr : SPr) (rt : Nat) {r : Int32} (h : m_Pt_isIn n x0 x1 = some r) : o_Cn E l D o_cls (o_tys ca) y_Pt_isIn cc_Pt_isIn rm_Pt_isIn [.ref (sd x0), .int x1] (o_cw ad ca rt Sj T0 T1 Rd Pg Pt Mk Lk Ck Jd Ld Pr) (o_cw ad ca rt Sj T0 T1 Rd Pg Pt Mk Lk Ck Jd Ld Pr) (some (.int r)) := by
  refine o_Cn_of (by decide) (Nat.le_of_ble_eq_true rfl) ?_
  intro p e s m below meth c A ls C hD hP hS hl
  have hDD : ∀ (rt : Nat) (Sj : SSJ) (T0 : STx) (T1 : STx) (Rd : SRd) (Pg : SPg) (Pt : SPt) (Mk : SMk) (Lk : SLk) (Ck : SCk) (Jd : SJd) (Ld : SLd) (Pr : SPr), va_D A (o_cw ad ca rt Sj T0 T1 Rd Pg Pt Mk Lk Ck Jd Ld Pr) := fun _ _ _ _ _ _ _ _ _ _ _ _ _ => o_D_map hD rfl
  have hl : lv_has ls 2 [(0, .ref (sd x0)), (1, .int x1)] := hl
  unfold m_Pt_isIn at h
  have C0 := C
  obtain ⟨hx, hb, -, -, -, hown, hts, hK, -, -⟩ := C0
  refine lv_iload_n hx hb d_Pt_isIn_0 rfl (lv_at hl 1 rfl) ?_
  refine lv_if_lt (tgt := 24) hx hb d_Pt_isIn_1 (by decide) (fun c1 => ?_) (fun c1 => ?_)
  · replace h := o_tt c1 h
    refine lv_iconst (v := (0:Int32)) hx hb d_Pt_isIn_24 (by decide) ?_
    cases h
    exact o_rz (v := (0:Int32)) C o_nar0 hP hS d_Pt_isIn_25
  · replace h := o_ff c1 h
    refine lv_iload_n hx hb d_Pt_isIn_4 rfl (lv_at hl 1 rfl) ?_
    refine lv_sipush (v := (128:Int32)) hx hb d_Pt_isIn_5 (by decide) ?_
    refine lv_icmp_ge (tgt := 24) hx hb d_Pt_isIn_8 (by decide) (fun c2 => ?_) (fun c2 => ?_)
    · replace h := o_tt c2 h
      refine lv_iconst (v := (0:Int32)) hx hb d_Pt_isIn_24 (by decide) ?_
      cases h
      exact o_rz (v := (0:Int32)) C o_nar0 hP hS d_Pt_isIn_25
    · replace h := o_ff c2 h
      refine lv_aload_n hx hb d_Pt_isIn_11 rfl (lv_at hl 0 rfl) ?_
      refine lv_iload_n hx hb d_Pt_isIn_12 rfl (lv_at hl 1 rfl) ?_
      refine lv_i2c hx hb d_Pt_isIn_13 rfl ?_
      obtain ⟨q1, hq1, h⟩ := o_bd_some h
      refine o_VR (K := "java/lang/String") (st1 := [.int q1]) (w1 := (o_cw ad ca rt Sj T0 T1 Rd Pg Pt Mk Lk Ck Jd Ld Pr)) hE.1 C (c_JS_indexOf hE l n x0 gx0 ((x1.toUInt32 % 65536).toInt32) Sj T0 T1 Rd Pg Pt Mk Lk Ck Jd Ld Pr rt hq1) hP (hDD _ _ _ _ _ _ _ _ _ _ _ _ _) hS hl.1 (o_rs hE C gx0 hS) k_4_136 k_4_137 k_4_138 k_1_18 k_4_139 hv_JS_indexOf rfl rfl ⟨(Nat.le_of_ble_eq_true rfl), (Nat.le_of_ble_eq_true rfl)⟩ rfl (Nat.le_of_ble_eq_true rfl) ⟨Nat.zero_le _, Nat.zero_le _⟩ rfl d_Pt_isIn_14 (fun H locs hP hS => ?_)
      refine lv_if_lt (tgt := 24) hx hb d_Pt_isIn_17 (by decide) (fun c3 => ?_) (fun c3 => ?_)
      · replace h := o_tt c3 h
        refine lv_iconst (v := (0:Int32)) hx hb d_Pt_isIn_24 (by decide) ?_
        cases h
        exact o_rz (v := (0:Int32)) C o_nar0 hP hS d_Pt_isIn_25
      · replace h := o_ff c3 h
        refine lv_iconst (v := (1:Int32)) hx hb d_Pt_isIn_20 (by decide) ?_
        refine lv_goto (tgt := 25) hx hb d_Pt_isIn_21 (by decide) ?_
        cases h
        exact o_rz (v := (1:Int32)) C o_nar1 hP hS d_Pt_isIn_25
set_option maxHeartbeats 4000000 in
set_option maxRecDepth 100000 in
theorem w_Pt_escape_j219 {E : (Nat → Prop) → State → Heap → Prop} {p : Program} {l : Launch} {e : Env} {s : State} {m : MethodId} {args : Array Value} {below : List Frame} {meth : Method} {c : Code} {D : va_G} {ad kd sd vd xd : Nat → Nat} {ca : Nat → ClassId} {A : Nat → Prop} (hE : o_EK E kd sd vd xd) (C : o_Cx E p s m args meth c D o_cls (o_tys ca) "SchemaJudge$Pattern" b_Pt_escape (some .int) 4 cc_Pt_escape A) (hDD : ∀ (rt : Nat) (Sj : SSJ) (T0 : STx) (T1 : STx) (Rd : SRd) (Pg : SPg) (Pt : SPt) (Mk : SMk) (Lk : SLk) (Ck : SCk) (Jd : SJd) (Ld : SLd) (Pr : SPr), va_D A (o_cw ad ca rt Sj T0 T1 Rd Pg Pt Mk Lk Ck Jd Ld Pr)) (n : Nat) (y1 : Int32) (Pt : SPt) (Sj : SSJ) (T0 : STx) (T1 : STx) (Rd : SRd) (Pg : SPg) (Mk : SMk) (Lk : SLk) (Ck : SCk) (Jd : SJd) (Ld : SLd) (Pr : SPr) (rt : Nat) {r : Int32 × SPt} (h : m_Pt_escape_j219 n y1 Pt = some r) : o_At p l e rm_Pt_escape s m args below meth c (MQ below (o_Qx D o_cls (some (.int r.1)) (o_cw ad ca rt Sj T0 T1 Rd Pg r.2 Mk Lk Ck Jd Ld Pr) A) args s 0 0 A) o_cls D A 4 219 [.int y1, .ref (ad 33)] (o_cw ad ca rt Sj T0 T1 Rd Pg Pt Mk Lk Ck Jd Ld Pr) [] := by
  unfold m_Pt_escape_j219 at h
  intro H locs ls hP hS hl
  have C0 := C
  obtain ⟨hx, hb, -, -, -, hown, hts, hK, -, -⟩ := C0
  obtain ⟨q2, hq2, h⟩ := o_bd_some h
  refine o_V (st1 := [.int q2.1]) (w1 := (o_cw ad ca rt Sj T0 T1 Rd Pg q2.2 Mk Lk Ck Jd Ld Pr)) hE.1 C (c_Pt_hexToken hE l n y1 Pt Sj T0 T1 Rd Pg Mk Lk Ck Jd Ld Pr rt hq2) hP (hDD _ _ _ _ _ _ _ _ _ _ _ _ _) hS hl.1 rfl cw_33 k_4_131 k_4_133 k_s_26 k_1_5 k_4_134 hv_Pt_hexToken rfl rfl ⟨(Nat.le_of_ble_eq_true rfl), (Nat.le_of_ble_eq_true rfl)⟩ rfl (Nat.le_of_ble_eq_true rfl) ⟨Nat.zero_le _, Nat.zero_le _⟩ rfl d_Pt_escape_219 (fun H locs hP hS => ?_)
  cases h
  exact o_ri C hP hS d_Pt_escape_222
set_option maxHeartbeats 4000000 in
set_option maxRecDepth 100000 in
theorem w_Pt_escape_j203 {E : (Nat → Prop) → State → Heap → Prop} {p : Program} {l : Launch} {e : Env} {s : State} {m : MethodId} {args : Array Value} {below : List Frame} {meth : Method} {c : Code} {D : va_G} {ad kd sd vd xd : Nat → Nat} {ca : Nat → ClassId} {A : Nat → Prop} (hE : o_EK E kd sd vd xd) (C : o_Cx E p s m args meth c D o_cls (o_tys ca) "SchemaJudge$Pattern" b_Pt_escape (some .int) 4 cc_Pt_escape A) (hDD : ∀ (rt : Nat) (Sj : SSJ) (T0 : STx) (T1 : STx) (Rd : SRd) (Pg : SPg) (Pt : SPt) (Mk : SMk) (Lk : SLk) (Ck : SCk) (Jd : SJd) (Ld : SLd) (Pr : SPr), va_D A (o_cw ad ca rt Sj T0 T1 Rd Pg Pt Mk Lk Ck Jd Ld Pr)) (n : Nat) (x3 : Int32) (y1 : Int32) (y2 : Int32) (Pt : SPt) (Sj : SSJ) (T0 : STx) (T1 : STx) (Rd : SRd) (Pg : SPg) (Mk : SMk) (Lk : SLk) (Ck : SCk) (Jd : SJd) (Ld : SLd) (Pr : SPr) (rt : Nat) {r : Int32 × SPt} (h : m_Pt_escape_j203 n x3 y1 y2 Pt = some r) : o_At p l e rm_Pt_escape s m args below meth c (MQ below (o_Qx D o_cls (some (.int r.1)) (o_cw ad ca rt Sj T0 T1 Rd Pg r.2 Mk Lk Ck Jd Ld Pr) A) args s 0 0 A) o_cls D A 4 203 [.int y2, .int y1, .ref (ad 33)] (o_cw ad ca rt Sj T0 T1 Rd Pg Pt Mk Lk Ck Jd Ld Pr) [(0, .ref (ad 33)), (3, .int x3)] := by
  unfold m_Pt_escape_j203 at h
  intro H locs ls hP hS hl
  have C0 := C
  obtain ⟨hx, hb, -, -, -, hown, hts, hK, -, -⟩ := C0
  refine lv_iadd hx hb d_Pt_escape_203 ?_
  refine o_put (v := .int (y1 + y2)) (ty := .int) (w1 := (o_cw ad ca rt Sj T0 T1 Rd Pg (Pt_mk (Pt_tokens Pt) (Pt_characterCount Pt) (Pt_tokenCount Pt) (y1 + y2) (Pt_total Pt) (Pt_least Pt) (Pt_most Pt) (Pt_depth Pt) (Pt_blockStarts Pt) (Pt_branchStarts Pt) (Pt_jumps Pt) (Pt_sizesBefore Pt)) Mk Lk Ck Jd Ld Pr)) C in_Pt t_Pt t_Pt_ok n_Pt hP (hDD _ _ _ _ _ _ _ _ _ _ _ _ _) hS 33 cw_33 rfl 4 (by decide) k_1_164 rfl rfl (by decide +kernel) rfl rfl (Nat.le_of_ble_eq_true rfl) rfl d_Pt_escape_204 (fun H locs hP hS => ?_)
  refine lv_aload_n hx hb d_Pt_escape_207 rfl (lv_at hl 0 rfl) ?_
  refine lv_iload_n hx hb d_Pt_escape_208 rfl (lv_at hl 1 rfl) ?_
  refine lv_bipush (v := (123:Int32)) hx hb d_Pt_escape_209 (by decide) ?_
  refine lv_icmp_ne (tgt := 218) hx hb d_Pt_escape_211 (by decide) (fun c15 => ?_) (fun c15 => ?_)
  · replace h := o_ff c15 h
    refine lv_iconst (v := (4:Int32)) hx hb d_Pt_escape_218 (by decide) ?_
    exact w_Pt_escape_j219 hE C hDD n (4:Int32) (Pt_mk (Pt_tokens Pt) (Pt_characterCount Pt) (Pt_tokenCount Pt) (y1 + y2) (Pt_total Pt) (Pt_least Pt) (Pt_most Pt) (Pt_depth Pt) (Pt_blockStarts Pt) (Pt_branchStarts Pt) (Pt_jumps Pt) (Pt_sizesBefore Pt)) Sj T0 T1 Rd Pg Mk Lk Ck Jd Ld Pr rt h _ _ _ hP hS (lv_sub hl [] rfl)
  · replace h := o_tt c15 h
    refine lv_iconst (v := (0:Int32)) hx hb d_Pt_escape_214 (by decide) ?_
    refine lv_goto (tgt := 219) hx hb d_Pt_escape_215 (by decide) ?_
    exact w_Pt_escape_j219 hE C hDD n (0:Int32) (Pt_mk (Pt_tokens Pt) (Pt_characterCount Pt) (Pt_tokenCount Pt) (y1 + y2) (Pt_total Pt) (Pt_least Pt) (Pt_most Pt) (Pt_depth Pt) (Pt_blockStarts Pt) (Pt_branchStarts Pt) (Pt_jumps Pt) (Pt_sizesBefore Pt)) Sj T0 T1 Rd Pg Mk Lk Ck Jd Ld Pr rt h _ _ _ hP hS (lv_sub hl [] rfl)
set_option maxHeartbeats 4000000 in
set_option maxRecDepth 100000 in
theorem w_Pt_escape_j59 {E : (Nat → Prop) → State → Heap → Prop} {p : Program} {l : Launch} {e : Env} {s : State} {m : MethodId} {args : Array Value} {below : List Frame} {meth : Method} {c : Code} {D : va_G} {ad kd sd vd xd : Nat → Nat} {ca : Nat → ClassId} {A : Nat → Prop} (hE : o_EK E kd sd vd xd) (C : o_Cx E p s m args meth c D o_cls (o_tys ca) "SchemaJudge$Pattern" b_Pt_escape (some .int) 4 cc_Pt_escape A) (hDD : ∀ (rt : Nat) (Sj : SSJ) (T0 : STx) (T1 : STx) (Rd : SRd) (Pg : SPg) (Pt : SPt) (Mk : SMk) (Lk : SLk) (Ck : SCk) (Jd : SJd) (Ld : SLd) (Pr : SPr), va_D A (o_cw ad ca rt Sj T0 T1 Rd Pg Pt Mk Lk Ck Jd Ld Pr)) (n : Nat) (x1 : Int32) (x2 : Int32) (y0 : Int32) (Pt : SPt) (Sj : SSJ) (T0 : STx) (T1 : STx) (Rd : SRd) (Pg : SPg) (Mk : SMk) (Lk : SLk) (Ck : SCk) (Jd : SJd) (Ld : SLd) (Pr : SPr) (rt : Nat) {r : Int32 × SPt} (h : m_Pt_escape_j59 n x1 x2 y0 Pt = some r) : o_At p l e rm_Pt_escape s m args below meth c (MQ below (o_Qx D o_cls (some (.int r.1)) (o_cw ad ca rt Sj T0 T1 Rd Pg r.2 Mk Lk Ck Jd Ld Pr) A) args s 0 0 A) o_cls D A 4 59 [.int y0] (o_cw ad ca rt Sj T0 T1 Rd Pg Pt Mk Lk Ck Jd Ld Pr) [(0, .ref (ad 33)), (1, .int x1), (2, .int x2)] := by
  unfold m_Pt_escape_j59 at h
  intro H locs ls hP hS hl
  have C0 := C
  obtain ⟨hx, hb, -, -, -, hown, hts, hK, -, -⟩ := C0
  refine lv_istore_n (lv' := [(3, .int y0), (0, .ref (ad 33)), (1, .int x1), (2, .int x2)]) hx hb d_Pt_escape_59 rfl hl (by decide) rfl (fun ls hl => ?_)
  refine lv_iload_n hx hb d_Pt_escape_60 rfl (lv_at hl 3 rfl) ?_
  by_cases c3 : x2 = (45:Int32)
  · replace h := o_tt c3 h
    refine lv_lookup (off := 173) (tgt := 234) hx hb d_Pt_escape_61 (by decide) (by rw [c3]; rfl) (by decide) ?_
    refine lv_iload_n hx hb d_Pt_escape_234 rfl (lv_at hl 2 rfl) ?_
    refine lv_if_eq (tgt := 245) hx hb d_Pt_escape_235 (by decide) (fun c4 => ?_) (fun c4 => ?_)
    · replace h := o_tt c4 h
      refine lv_iconst (v := (-1:Int32)) hx hb d_Pt_escape_245 (by decide) ?_
      cases h
      exact o_ri (v := (-1:Int32)) C hP hS d_Pt_escape_246
    · replace h := o_ff c4 h
      refine lv_ldc (v := (2097152:Int32)) hx hb hown (hts _ k_4_130) d_Pt_escape_238 ?_
      refine lv_iload_n hx hb d_Pt_escape_240 rfl (lv_at hl 3 rfl) ?_
      refine lv_ior hx hb d_Pt_escape_241 ?_
      refine lv_goto (tgt := 246) hx hb d_Pt_escape_242 (by decide) ?_
      cases h
      exact o_ri (v := ((2097152:Int32) ||| x2)) C hP hS d_Pt_escape_246
  replace h := o_ff c3 h
  by_cases c5 : x2 = (48:Int32)
  · replace h := o_tt c5 h
    refine lv_lookup (off := 106) (tgt := 167) hx hb d_Pt_escape_61 (by decide) (by rw [c5]; rfl) (by decide) ?_
    refine lv_iload_n hx hb d_Pt_escape_167 rfl (lv_at hl 0 rfl) ?_
    obtain ⟨q1, hq1, h⟩ := o_bd_some h
    refine o_SN (st1 := [.int q1]) (w1 := (o_cw ad ca rt Sj T0 T1 Rd Pg Pt Mk Lk Ck Jd Ld Pr)) hE.1 C (c_SJ_isDigit hE l y0 Sj T0 T1 Rd Pg Pt Mk Lk Ck Jd Ld Pr rt hq1) hP (hDD _ _ _ _ _ _ _ _ _ _ _ _ _) hS hl.1 (hE.2.1 _ _ _ C.2.2.2.2.2.2.2.2.2 _ nw_11) k_3_46 k_1_1 k_3_47 hs_SJ_isDigit rfl rfl ⟨(Nat.le_of_ble_eq_true rfl), (Nat.le_of_ble_eq_true rfl)⟩ rfl (Nat.le_of_ble_eq_true rfl) ⟨Nat.zero_le _, Nat.zero_le _⟩ rfl d_Pt_escape_168 (fun H locs hP hS => ?_)
    refine lv_if_eq (tgt := 178) hx hb d_Pt_escape_171 (by decide) (fun c6 => ?_) (fun c6 => ?_)
    · replace h := o_tt c6 h
      refine lv_ldc (v := (2097152:Int32)) hx hb hown (hts _ k_4_130) d_Pt_escape_178 ?_
      cases h
      exact o_ri (v := (2097152:Int32)) C hP hS d_Pt_escape_180
    · replace h := o_ff c6 h
      refine lv_iconst (v := (-1:Int32)) hx hb d_Pt_escape_174 (by decide) ?_
      refine lv_goto (tgt := 180) hx hb d_Pt_escape_175 (by decide) ?_
      cases h
      exact o_ri (v := (-1:Int32)) C hP hS d_Pt_escape_180
  replace h := o_ff c5 h
  by_cases c7 : x2 = (98:Int32)
  · replace h := o_tt c7 h
    refine lv_lookup (off := 162) (tgt := 223) hx hb d_Pt_escape_61 (by decide) (by rw [c7]; rfl) (by decide) ?_
    refine lv_iload_n hx hb d_Pt_escape_223 rfl (lv_at hl 2 rfl) ?_
    refine lv_if_eq (tgt := 232) hx hb d_Pt_escape_224 (by decide) (fun c8 => ?_) (fun c8 => ?_)
    · replace h := o_tt c8 h
      refine lv_iconst (v := (-1:Int32)) hx hb d_Pt_escape_232 (by decide) ?_
      cases h
      exact o_ri (v := (-1:Int32)) C hP hS d_Pt_escape_233
    · replace h := o_ff c8 h
      refine lv_ldc (v := (2097160:Int32)) hx hb hown (hts _ k_4_194) d_Pt_escape_227 ?_
      refine lv_goto (tgt := 233) hx hb d_Pt_escape_229 (by decide) ?_
      cases h
      exact o_ri (v := (2097160:Int32)) C hP hS d_Pt_escape_233
  replace h := o_ff c7 h
  by_cases c9 : x2 = (102:Int32)
  · replace h := o_tt c9 h
    refine lv_lookup (off := 100) (tgt := 161) hx hb d_Pt_escape_61 (by decide) (by rw [c9]; rfl) (by decide) ?_
    refine lv_ldc (v := (2097164:Int32)) hx hb hown (hts _ k_4_127) d_Pt_escape_161 ?_
    cases h
    exact o_ri (v := (2097164:Int32)) C hP hS d_Pt_escape_163
  replace h := o_ff c9 h
  by_cases c10 : x2 = (110:Int32)
  · replace h := o_tt c10 h
    refine lv_lookup (off := 94) (tgt := 155) hx hb d_Pt_escape_61 (by decide) (by rw [c10]; rfl) (by decide) ?_
    refine lv_ldc (v := (2097162:Int32)) hx hb hown (hts _ k_4_125) d_Pt_escape_155 ?_
    cases h
    exact o_ri (v := (2097162:Int32)) C hP hS d_Pt_escape_157
  replace h := o_ff c10 h
  by_cases c11 : x2 = (114:Int32)
  · replace h := o_tt c11 h
    refine lv_lookup (off := 103) (tgt := 164) hx hb d_Pt_escape_61 (by decide) (by rw [c11]; rfl) (by decide) ?_
    refine lv_ldc (v := (2097165:Int32)) hx hb hown (hts _ k_4_128) d_Pt_escape_164 ?_
    cases h
    exact o_ri (v := (2097165:Int32)) C hP hS d_Pt_escape_166
  replace h := o_ff c11 h
  by_cases c12 : x2 = (116:Int32)
  · replace h := o_tt c12 h
    refine lv_lookup (off := 91) (tgt := 152) hx hb d_Pt_escape_61 (by decide) (by rw [c12]; rfl) (by decide) ?_
    refine lv_ldc (v := (2097161:Int32)) hx hb hown (hts _ k_4_124) d_Pt_escape_152 ?_
    cases h
    exact o_ri (v := (2097161:Int32)) C hP hS d_Pt_escape_154
  replace h := o_ff c12 h
  by_cases c13 : x2 = (117:Int32)
  · replace h := o_tt c13 h
    refine lv_lookup (off := 126) (tgt := 187) hx hb d_Pt_escape_61 (by decide) (by rw [c13]; rfl) (by decide) ?_
    refine lv_aload_n hx hb d_Pt_escape_187 rfl (lv_at hl 1 rfl) ?_
    refine lv_dup hx hb d_Pt_escape_188 rfl ?_
    refine o_get (v := .int (Pt_position Pt)) C in_Pt hP 33 cw_33 rfl 4 (by decide) k_1_164 rfl rfl d_Pt_escape_189 ?_
    refine lv_iload_n hx hb d_Pt_escape_192 rfl (lv_at hl 0 rfl) ?_
    refine lv_bipush (v := (123:Int32)) hx hb d_Pt_escape_193 (by decide) ?_
    refine lv_icmp_ne (tgt := 202) hx hb d_Pt_escape_195 (by decide) (fun c14 => ?_) (fun c14 => ?_)
    · replace h := o_ff c14 h
      refine lv_iconst (v := (0:Int32)) hx hb d_Pt_escape_202 (by decide) ?_
      exact w_Pt_escape_j203 hE C hDD n y0 (Pt_position Pt) (0:Int32) Pt Sj T0 T1 Rd Pg Mk Lk Ck Jd Ld Pr rt h _ _ _ hP hS (lv_sub hl [1, 0] rfl)
    · replace h := o_tt c14 h
      refine lv_iconst (v := (1:Int32)) hx hb d_Pt_escape_198 (by decide) ?_
      refine lv_goto (tgt := 203) hx hb d_Pt_escape_199 (by decide) ?_
      exact w_Pt_escape_j203 hE C hDD n y0 (Pt_position Pt) (1:Int32) Pt Sj T0 T1 Rd Pg Mk Lk Ck Jd Ld Pr rt h _ _ _ hP hS (lv_sub hl [1, 0] rfl)
  replace h := o_ff c13 h
  by_cases c16 : x2 = (118:Int32)
  · replace h := o_tt c16 h
    refine lv_lookup (off := 97) (tgt := 158) hx hb d_Pt_escape_61 (by decide) (by rw [c16]; rfl) (by decide) ?_
    refine lv_ldc (v := (2097163:Int32)) hx hb hown (hts _ k_4_126) d_Pt_escape_158 ?_
    cases h
    exact o_ri (v := (2097163:Int32)) C hP hS d_Pt_escape_160
  replace h := o_ff c16 h
  by_cases c17 : x2 = (120:Int32)
  · replace h := o_tt c17 h
    refine lv_lookup (off := 120) (tgt := 181) hx hb d_Pt_escape_61 (by decide) (by rw [c17]; rfl) (by decide) ?_
    refine lv_aload_n hx hb d_Pt_escape_181 rfl (lv_at hl 1 rfl) ?_
    refine lv_iconst (v := (2:Int32)) hx hb d_Pt_escape_182 (by decide) ?_
    obtain ⟨q3, hq3, h⟩ := o_bd_some h
    refine o_V (st1 := [.int q3.1]) (w1 := (o_cw ad ca rt Sj T0 T1 Rd Pg q3.2 Mk Lk Ck Jd Ld Pr)) hE.1 C (c_Pt_hexToken hE l n (2:Int32) Pt Sj T0 T1 Rd Pg Mk Lk Ck Jd Ld Pr rt hq3) hP (hDD _ _ _ _ _ _ _ _ _ _ _ _ _) hS hl.1 rfl cw_33 k_4_131 k_4_133 k_s_26 k_1_5 k_4_134 hv_Pt_hexToken rfl rfl ⟨(Nat.le_of_ble_eq_true rfl), (Nat.le_of_ble_eq_true rfl)⟩ rfl (Nat.le_of_ble_eq_true rfl) ⟨Nat.zero_le _, Nat.zero_le _⟩ rfl d_Pt_escape_183 (fun H locs hP hS => ?_)
    cases h
    exact o_ri C hP hS d_Pt_escape_186
  replace h := o_ff c17 h
  refine lv_lookup (off := 186) (tgt := 247) hx hb d_Pt_escape_61 (by decide) ((lv_osw c3 (by decide)).trans ((lv_osw c5 (by decide)).trans ((lv_osw c7 (by decide)).trans ((lv_osw c9 (by decide)).trans ((lv_osw c10 (by decide)).trans ((lv_osw c11 (by decide)).trans ((lv_osw c12 (by decide)).trans ((lv_osw c13 (by decide)).trans ((lv_osw c16 (by decide)).trans ((lv_osw c17 (by decide)).trans rfl)))))))))) (by decide) ?_
  refine va_ldcS (q := sd 8) hx hb hown (hE.2.2.2.2.2.1 _ _ _ C.2.2.2.2.2.2.2.2.2 ("SchemaJudge$Pattern", 85, "dDwWsS", 8) (List.mem_of_getElem? (i := 8) rfl)) d_Pt_escape_247 ?_
  refine lv_iload_n hx hb d_Pt_escape_249 rfl (lv_at hl 3 rfl) ?_
  obtain ⟨q4, hq4, h⟩ := o_bd_some h
  refine o_S (st1 := [.int q4]) (w1 := (o_cw ad ca rt Sj T0 T1 Rd Pg Pt Mk Lk Ck Jd Ld Pr)) hE.1 C (c_Pt_isIn hE l n 8 rfl x2 Sj T0 T1 Rd Pg Pt Mk Lk Ck Jd Ld Pr rt hq4) hP (hDD _ _ _ _ _ _ _ _ _ _ _ _ _) hS hl.1 k_4_196 k_4_197 k_1_5 k_4_198 hs_Pt_isIn rfl rfl ⟨(Nat.le_of_ble_eq_true rfl), (Nat.le_of_ble_eq_true rfl)⟩ rfl (Nat.le_of_ble_eq_true rfl) ⟨Nat.zero_le _, Nat.zero_le _⟩ rfl d_Pt_escape_250 (fun H locs hP hS => ?_)
  refine lv_if_eq (tgt := 269) hx hb d_Pt_escape_253 (by decide) (fun c18 => ?_) (fun c18 => ?_)
  · replace h := o_tt c18 h
    refine va_ldcS (q := sd 9) hx hb hown (hE.2.2.2.2.2.1 _ _ _ C.2.2.2.2.2.2.2.2.2 ("SchemaJudge$Pattern", 88, "^$\\.*+?()[]{}|/", 9) (List.mem_of_getElem? (i := 9) rfl)) d_Pt_escape_269 ?_
    refine lv_iload_n hx hb d_Pt_escape_271 rfl (lv_at hl 3 rfl) ?_
    obtain ⟨q5, hq5, h⟩ := o_bd_some h
    refine o_S (st1 := [.int q5]) (w1 := (o_cw ad ca rt Sj T0 T1 Rd Pg Pt Mk Lk Ck Jd Ld Pr)) hE.1 C (c_Pt_isIn hE l n 9 rfl x2 Sj T0 T1 Rd Pg Pt Mk Lk Ck Jd Ld Pr rt hq5) hP (hDD _ _ _ _ _ _ _ _ _ _ _ _ _) hS hl.1 k_4_196 k_4_197 k_1_5 k_4_198 hs_Pt_isIn rfl rfl ⟨(Nat.le_of_ble_eq_true rfl), (Nat.le_of_ble_eq_true rfl)⟩ rfl (Nat.le_of_ble_eq_true rfl) ⟨Nat.zero_le _, Nat.zero_le _⟩ rfl d_Pt_escape_272 (fun H locs hP hS => ?_)
    refine lv_if_eq (tgt := 285) hx hb d_Pt_escape_275 (by decide) (fun c19 => ?_) (fun c19 => ?_)
    · replace h := o_tt c19 h
      refine lv_iconst (v := (-1:Int32)) hx hb d_Pt_escape_285 (by decide) ?_
      cases h
      exact o_ri (v := (-1:Int32)) C hP hS d_Pt_escape_286
    · replace h := o_ff c19 h
      refine lv_ldc (v := (2097152:Int32)) hx hb hown (hts _ k_4_130) d_Pt_escape_278 ?_
      refine lv_iload_n hx hb d_Pt_escape_280 rfl (lv_at hl 3 rfl) ?_
      refine lv_ior hx hb d_Pt_escape_281 ?_
      refine lv_goto (tgt := 286) hx hb d_Pt_escape_282 (by decide) ?_
      cases h
      exact o_ri (v := ((2097152:Int32) ||| x2)) C hP hS d_Pt_escape_286
  · replace h := o_ff c18 h
    refine lv_ldc (v := (4194304:Int32)) hx hb hown (hts _ k_4_199) d_Pt_escape_256 ?_
    refine lv_iconst (v := (1:Int32)) hx hb d_Pt_escape_258 (by decide) ?_
    refine va_ldcS (q := sd 8) hx hb hown (hE.2.2.2.2.2.1 _ _ _ C.2.2.2.2.2.2.2.2.2 ("SchemaJudge$Pattern", 85, "dDwWsS", 8) (List.mem_of_getElem? (i := 8) rfl)) d_Pt_escape_259 ?_
    refine lv_iload_n hx hb d_Pt_escape_261 rfl (lv_at hl 3 rfl) ?_
    refine lv_i2c hx hb d_Pt_escape_262 rfl ?_
    obtain ⟨q6, hq6, h⟩ := o_bd_some h
    refine o_VR (K := "java/lang/String") (st1 := [.int q6, .int (1:Int32), .int (4194304:Int32)]) (w1 := (o_cw ad ca rt Sj T0 T1 Rd Pg Pt Mk Lk Ck Jd Ld Pr)) hE.1 C (c_JS_indexOf hE l n 8 rfl ((x2.toUInt32 % 65536).toInt32) Sj T0 T1 Rd Pg Pt Mk Lk Ck Jd Ld Pr rt hq6) hP (hDD _ _ _ _ _ _ _ _ _ _ _ _ _) hS hl.1 (o_rs hE C rfl hS) k_4_136 k_4_137 k_4_138 k_1_18 k_4_139 hv_JS_indexOf rfl rfl ⟨(Nat.le_of_ble_eq_true rfl), (Nat.le_of_ble_eq_true rfl)⟩ rfl (Nat.le_of_ble_eq_true rfl) ⟨Nat.zero_le _, Nat.zero_le _⟩ rfl d_Pt_escape_263 (fun H locs hP hS => ?_)
    refine lv_ishl hx hb d_Pt_escape_266 ?_
    refine lv_ior hx hb d_Pt_escape_267 ?_
    cases h
    exact o_ri (v := ((4194304:Int32) ||| ((1:Int32) <<< (q6 &&& 31)))) C hP hS d_Pt_escape_268
set_option maxHeartbeats 4000000 in
set_option maxRecDepth 100000 in
theorem w_Pt_escape_j24 {E : (Nat → Prop) → State → Heap → Prop} {p : Program} {l : Launch} {e : Env} {s : State} {m : MethodId} {args : Array Value} {below : List Frame} {meth : Method} {c : Code} {D : va_G} {ad kd sd vd xd : Nat → Nat} {ca : Nat → ClassId} {A : Nat → Prop} (hE : o_EK E kd sd vd xd) (C : o_Cx E p s m args meth c D o_cls (o_tys ca) "SchemaJudge$Pattern" b_Pt_escape (some .int) 4 cc_Pt_escape A) (hDD : ∀ (rt : Nat) (Sj : SSJ) (T0 : STx) (T1 : STx) (Rd : SRd) (Pg : SPg) (Pt : SPt) (Mk : SMk) (Lk : SLk) (Ck : SCk) (Jd : SJd) (Ld : SLd) (Pr : SPr), va_D A (o_cw ad ca rt Sj T0 T1 Rd Pg Pt Mk Lk Ck Jd Ld Pr)) (n : Nat) (x1 : Int32) (y0 : Int32) (Pt : SPt) (Sj : SSJ) (T0 : STx) (T1 : STx) (Rd : SRd) (Pg : SPg) (Mk : SMk) (Lk : SLk) (Ck : SCk) (Jd : SJd) (Ld : SLd) (Pr : SPr) (rt : Nat) {r : Int32 × SPt} (h : m_Pt_escape_j24 n x1 y0 Pt = some r) : o_At p l e rm_Pt_escape s m args below meth c (MQ below (o_Qx D o_cls (some (.int r.1)) (o_cw ad ca rt Sj T0 T1 Rd Pg r.2 Mk Lk Ck Jd Ld Pr) A) args s 0 0 A) o_cls D A 4 24 [.int y0] (o_cw ad ca rt Sj T0 T1 Rd Pg Pt Mk Lk Ck Jd Ld Pr) [(0, .ref (ad 33)), (1, .int x1)] := by
  unfold m_Pt_escape_j24 at h
  intro H locs ls hP hS hl
  have C0 := C
  obtain ⟨hx, hb, -, -, -, hown, hts, hK, -, -⟩ := C0
  refine lv_istore_n (lv' := [(2, .int y0), (0, .ref (ad 33)), (1, .int x1)]) hx hb d_Pt_escape_24 rfl hl (by decide) rfl (fun ls hl => ?_)
  refine lv_aload_n hx hb d_Pt_escape_25 rfl (lv_at hl 1 rfl) ?_
  refine lv_dup hx hb d_Pt_escape_26 rfl ?_
  refine o_get (v := .int (Pt_position Pt)) C in_Pt hP 33 cw_33 rfl 4 (by decide) k_1_164 rfl rfl d_Pt_escape_27 ?_
  refine lv_iconst (v := (1:Int32)) hx hb d_Pt_escape_30 (by decide) ?_
  refine lv_iadd hx hb d_Pt_escape_31 ?_
  refine o_put (v := .int ((Pt_position Pt) + (1:Int32))) (ty := .int) (w1 := (o_cw ad ca rt Sj T0 T1 Rd Pg (Pt_mk (Pt_tokens Pt) (Pt_characterCount Pt) (Pt_tokenCount Pt) ((Pt_position Pt) + (1:Int32)) (Pt_total Pt) (Pt_least Pt) (Pt_most Pt) (Pt_depth Pt) (Pt_blockStarts Pt) (Pt_branchStarts Pt) (Pt_jumps Pt) (Pt_sizesBefore Pt)) Mk Lk Ck Jd Ld Pr)) C in_Pt t_Pt t_Pt_ok n_Pt hP (hDD _ _ _ _ _ _ _ _ _ _ _ _ _) hS 33 cw_33 rfl 4 (by decide) k_1_164 rfl rfl (by decide +kernel) rfl rfl (Nat.le_of_ble_eq_true rfl) rfl d_Pt_escape_32 (fun H locs hP hS => ?_)
  refine lv_aload_n hx hb d_Pt_escape_35 rfl (lv_at hl 1 rfl) ?_
  refine o_get (v := .int ((Pt_position Pt) + (1:Int32))) C in_Pt hP 33 cw_33 rfl 4 (by decide) k_1_164 rfl rfl d_Pt_escape_36 ?_
  refine lv_aload_n hx hb d_Pt_escape_39 rfl (lv_at hl 1 rfl) ?_
  refine o_get (v := .int (Pt_characterCount Pt)) C in_Pt hP 33 cw_33 rfl 2 (by decide) k_1_162 rfl rfl d_Pt_escape_40 ?_
  refine lv_icmp_ge (tgt := 58) hx hb d_Pt_escape_43 (by decide) (fun c2 => ?_) (fun c2 => ?_)
  · replace h := o_tt c2 h
    refine lv_iconst (v := (-1:Int32)) hx hb d_Pt_escape_58 (by decide) ?_
    exact w_Pt_escape_j59 hE C hDD n x1 y0 (-1:Int32) (Pt_mk (Pt_tokens Pt) (Pt_characterCount Pt) (Pt_tokenCount Pt) ((Pt_position Pt) + (1:Int32)) (Pt_total Pt) (Pt_least Pt) (Pt_most Pt) (Pt_depth Pt) (Pt_blockStarts Pt) (Pt_branchStarts Pt) (Pt_jumps Pt) (Pt_sizesBefore Pt)) Sj T0 T1 Rd Pg Mk Lk Ck Jd Ld Pr rt h _ _ _ hP hS (lv_sub hl [1, 2, 0] rfl)
  · replace h := o_ff c2 h
    refine lv_aload_n hx hb d_Pt_escape_46 rfl (lv_at hl 1 rfl) ?_
    refine o_get (v := .ref (ad 34)) C in_Pt hP 33 cw_33 rfl 1 (by decide) k_1_161 rfl rfl d_Pt_escape_47 ?_
    refine lv_aload_n hx hb d_Pt_escape_50 rfl (lv_at hl 1 rfl) ?_
    refine o_get (v := .int ((Pt_position Pt) + (1:Int32))) C in_Pt hP 33 cw_33 rfl 4 (by decide) k_1_164 rfl rfl d_Pt_escape_51 ?_
    obtain ⟨g20, h⟩ := o_gd_some h
    refine o_iald (f := (Pt_tokens Pt)) C hP 34 28 cw_34 rfl g20 d_Pt_escape_54 ?_
    refine lv_goto (tgt := 59) hx hb d_Pt_escape_55 (by decide) ?_
    exact w_Pt_escape_j59 hE C hDD n x1 y0 ((Pt_tokens Pt) ((Pt_position Pt) + (1:Int32)).toNatClampNeg) (Pt_mk (Pt_tokens Pt) (Pt_characterCount Pt) (Pt_tokenCount Pt) ((Pt_position Pt) + (1:Int32)) (Pt_total Pt) (Pt_least Pt) (Pt_most Pt) (Pt_depth Pt) (Pt_blockStarts Pt) (Pt_branchStarts Pt) (Pt_jumps Pt) (Pt_sizesBefore Pt)) Sj T0 T1 Rd Pg Mk Lk Ck Jd Ld Pr rt h _ _ _ hP hS (lv_sub hl [1, 2, 0] rfl)
set_option maxHeartbeats 4000000 in
set_option maxRecDepth 100000 in
theorem c_Pt_escape {E : (Nat → Prop) → State → Heap → Prop} {D : va_G} {ad kd sd vd xd : Nat → Nat} {ca : Nat → ClassId} (hE : o_EK E kd sd vd xd) (l : Launch) (n : Nat) (x1 : Int32) (Pt : SPt) (Sj : SSJ) (T0 : STx) (T1 : STx) (Rd : SRd) (Pg : SPg) (Mk : SMk) (Lk : SLk) (Ck : SCk) (Jd : SJd) (Ld : SLd) (Pr : SPr) (rt : Nat) {r : Int32 × SPt} (h : m_Pt_escape n x1 Pt = some r) : o_Cn E l D o_cls (o_tys ca) y_Pt_escape cc_Pt_escape rm_Pt_escape [.ref (ad 33), .int x1] (o_cw ad ca rt Sj T0 T1 Rd Pg Pt Mk Lk Ck Jd Ld Pr) (o_cw ad ca rt Sj T0 T1 Rd Pg r.2 Mk Lk Ck Jd Ld Pr) (some (.int r.1)) := by
  refine o_Cn_of (by decide) (Nat.le_of_ble_eq_true rfl) ?_
  intro p e s m below meth c A ls C hD hP hS hl
  have hDD : ∀ (rt : Nat) (Sj : SSJ) (T0 : STx) (T1 : STx) (Rd : SRd) (Pg : SPg) (Pt : SPt) (Mk : SMk) (Lk : SLk) (Ck : SCk) (Jd : SJd) (Ld : SLd) (Pr : SPr), va_D A (o_cw ad ca rt Sj T0 T1 Rd Pg Pt Mk Lk Ck Jd Ld Pr) := fun _ _ _ _ _ _ _ _ _ _ _ _ _ => o_D_map hD rfl
  have hl : lv_has ls 4 [(0, .ref (ad 33)), (1, .int x1)] := hl
  unfold m_Pt_escape at h
  have C0 := C
  obtain ⟨hx, hb, -, -, -, hown, hts, hK, -, -⟩ := C0
  refine lv_aload_n hx hb d_Pt_escape_0 rfl (lv_at hl 0 rfl) ?_
  refine o_get (v := .int (Pt_position Pt)) C in_Pt hP 33 cw_33 rfl 4 (by decide) k_1_164 rfl rfl d_Pt_escape_1 ?_
  refine lv_aload_n hx hb d_Pt_escape_4 rfl (lv_at hl 0 rfl) ?_
  refine o_get (v := .int (Pt_characterCount Pt)) C in_Pt hP 33 cw_33 rfl 2 (by decide) k_1_162 rfl rfl d_Pt_escape_5 ?_
  refine lv_icmp_ge (tgt := 23) hx hb d_Pt_escape_8 (by decide) (fun c1 => ?_) (fun c1 => ?_)
  · replace h := o_tt c1 h
    refine lv_iconst (v := (-1:Int32)) hx hb d_Pt_escape_23 (by decide) ?_
    exact w_Pt_escape_j24 hE C hDD n x1 (-1:Int32) Pt Sj T0 T1 Rd Pg Mk Lk Ck Jd Ld Pr rt h _ _ _ hP hS (lv_sub hl [0, 1] rfl)
  · replace h := o_ff c1 h
    refine lv_aload_n hx hb d_Pt_escape_11 rfl (lv_at hl 0 rfl) ?_
    refine o_get (v := .ref (ad 34)) C in_Pt hP 33 cw_33 rfl 1 (by decide) k_1_161 rfl rfl d_Pt_escape_12 ?_
    refine lv_aload_n hx hb d_Pt_escape_15 rfl (lv_at hl 0 rfl) ?_
    refine o_get (v := .int (Pt_position Pt)) C in_Pt hP 33 cw_33 rfl 4 (by decide) k_1_164 rfl rfl d_Pt_escape_16 ?_
    obtain ⟨g21, h⟩ := o_gd_some h
    refine o_iald (f := (Pt_tokens Pt)) C hP 34 28 cw_34 rfl g21 d_Pt_escape_19 ?_
    refine lv_goto (tgt := 24) hx hb d_Pt_escape_20 (by decide) ?_
    exact w_Pt_escape_j24 hE C hDD n x1 ((Pt_tokens Pt) (Pt_position Pt).toNatClampNeg) Pt Sj T0 T1 Rd Pg Mk Lk Ck Jd Ld Pr rt h _ _ _ hP hS (lv_sub hl [0, 1] rfl)
set_option maxHeartbeats 4000000 in
set_option maxRecDepth 100000 in
theorem c_Pg_clear {E : (Nat → Prop) → State → Heap → Prop} {D : va_G} {ad kd sd vd xd : Nat → Nat} {ca : Nat → ClassId} (hE : o_EK E kd sd vd xd) (l : Launch)  (Pg : SPg) (Sj : SSJ) (T0 : STx) (T1 : STx) (Rd : SRd) (Pt : SPt) (Mk : SMk) (Lk : SLk) (Ck : SCk) (Jd : SJd) (Ld : SLd) (Pr : SPr) (rt : Nat) {r : SPg} (h : m_Pg_clear Pg = some r) : o_Cn E l D o_cls (o_tys ca) y_Pg_clear cc_Pg_clear rm_Pg_clear [.ref (ad 25)] (o_cw ad ca rt Sj T0 T1 Rd Pg Pt Mk Lk Ck Jd Ld Pr) (o_cw ad ca rt Sj T0 T1 Rd r Pt Mk Lk Ck Jd Ld Pr) none := by
  refine o_Cn_of (by decide) (Nat.le_of_ble_eq_true rfl) ?_
  intro p e s m below meth c A ls C hD hP hS hl
  have hDD : ∀ (rt : Nat) (Sj : SSJ) (T0 : STx) (T1 : STx) (Rd : SRd) (Pg : SPg) (Pt : SPt) (Mk : SMk) (Lk : SLk) (Ck : SCk) (Jd : SJd) (Ld : SLd) (Pr : SPr), va_D A (o_cw ad ca rt Sj T0 T1 Rd Pg Pt Mk Lk Ck Jd Ld Pr) := fun _ _ _ _ _ _ _ _ _ _ _ _ _ => o_D_map hD rfl
  have hl : lv_has ls 1 [(0, .ref (ad 25))] := hl
  unfold m_Pg_clear at h
  have C0 := C
  obtain ⟨hx, hb, -, -, -, hown, hts, hK, -, -⟩ := C0
  refine lv_aload_n hx hb d_Pg_clear_0 rfl (lv_at hl 0 rfl) ?_
  refine lv_iconst (v := (0:Int32)) hx hb d_Pg_clear_1 (by decide) ?_
  refine o_put (v := .int (0:Int32)) (ty := .int) (w1 := (o_cw ad ca rt Sj T0 T1 Rd (Pg_mk (Pg_operations Pg) (Pg_arguments Pg) (0:Int32) (Pg_sets Pg) (Pg_setsUsed Pg) (Pg_rounds Pg) (Pg_stack Pg) (Pg_top Pg) (Pg_waiting Pg) (Pg_waitingCount Pg) (Pg_moved Pg)) Pt Mk Lk Ck Jd Ld Pr)) C in_Pg t_Pg t_Pg_ok n_Pg hP (hDD _ _ _ _ _ _ _ _ _ _ _ _ _) hS 25 cw_25 rfl 2 (by decide) k_1_121 rfl rfl (by decide +kernel) rfl rfl (Nat.le_of_ble_eq_true rfl) rfl d_Pg_clear_2 (fun H locs hP hS => ?_)
  refine lv_aload_n hx hb d_Pg_clear_5 rfl (lv_at hl 0 rfl) ?_
  refine lv_iconst (v := (0:Int32)) hx hb d_Pg_clear_6 (by decide) ?_
  refine o_put (v := .int (0:Int32)) (ty := .int) (w1 := (o_cw ad ca rt Sj T0 T1 Rd (Pg_mk (Pg_operations Pg) (Pg_arguments Pg) (0:Int32) (Pg_sets Pg) (0:Int32) (Pg_rounds Pg) (Pg_stack Pg) (Pg_top Pg) (Pg_waiting Pg) (Pg_waitingCount Pg) (Pg_moved Pg)) Pt Mk Lk Ck Jd Ld Pr)) C in_Pg t_Pg t_Pg_ok n_Pg hP (hDD _ _ _ _ _ _ _ _ _ _ _ _ _) hS 25 cw_25 rfl 4 (by decide) k_1_124 rfl rfl (by decide +kernel) rfl rfl (Nat.le_of_ble_eq_true rfl) rfl d_Pg_clear_7 (fun H locs hP hS => ?_)
  cases h
  exact o_rv C hP hS d_Pg_clear_10
set_option maxHeartbeats 4000000 in
set_option maxRecDepth 100000 in
theorem c_Pt_beginBlock {E : (Nat → Prop) → State → Heap → Prop} {D : va_G} {ad kd sd vd xd : Nat → Nat} {ca : Nat → ClassId} (hE : o_EK E kd sd vd xd) (l : Launch)  (Pg : SPg) (Pt : SPt) (Sj : SSJ) (T0 : STx) (T1 : STx) (Rd : SRd) (Mk : SMk) (Lk : SLk) (Ck : SCk) (Jd : SJd) (Ld : SLd) (Pr : SPr) (rt : Nat) {r : SPt} (h : m_Pt_beginBlock Pg Pt = some r) : o_Cn E l D o_cls (o_tys ca) y_Pt_beginBlock cc_Pt_beginBlock rm_Pt_beginBlock [.ref (ad 33)] (o_cw ad ca rt Sj T0 T1 Rd Pg Pt Mk Lk Ck Jd Ld Pr) (o_cw ad ca rt Sj T0 T1 Rd Pg r Mk Lk Ck Jd Ld Pr) none := by
  refine o_Cn_of (by decide) (Nat.le_of_ble_eq_true rfl) ?_
  intro p e s m below meth c A ls C hD hP hS hl
  have hDD : ∀ (rt : Nat) (Sj : SSJ) (T0 : STx) (T1 : STx) (Rd : SRd) (Pg : SPg) (Pt : SPt) (Mk : SMk) (Lk : SLk) (Ck : SCk) (Jd : SJd) (Ld : SLd) (Pr : SPr), va_D A (o_cw ad ca rt Sj T0 T1 Rd Pg Pt Mk Lk Ck Jd Ld Pr) := fun _ _ _ _ _ _ _ _ _ _ _ _ _ => o_D_map hD rfl
  have hl : lv_has ls 1 [(0, .ref (ad 33))] := hl
  unfold m_Pt_beginBlock at h
  have C0 := C
  obtain ⟨hx, hb, -, -, -, hown, hts, hK, -, -⟩ := C0
  refine lv_aload_n hx hb d_Pt_beginBlock_0 rfl (lv_at hl 0 rfl) ?_
  refine o_get (v := .ref (ad 35)) C in_Pt hP 33 cw_33 rfl 9 (by decide) k_1_169 rfl rfl d_Pt_beginBlock_1 ?_
  refine lv_aload_n hx hb d_Pt_beginBlock_4 rfl (lv_at hl 0 rfl) ?_
  refine o_get (v := .int (Pt_depth Pt)) C in_Pt hP 33 cw_33 rfl 8 (by decide) k_1_168 rfl rfl d_Pt_beginBlock_5 ?_
  refine lv_aload_n hx hb d_Pt_beginBlock_8 rfl (lv_at hl 0 rfl) ?_
  refine o_get (v := .ref (ad 25)) C in_Pt hP 33 cw_33 rfl 0 (by decide) k_1_160 rfl rfl d_Pt_beginBlock_9 ?_
  refine o_get (v := .int (Pg_length Pg)) C in_Pg hP 25 cw_25 rfl 2 (by decide) k_1_122 rfl rfl d_Pt_beginBlock_12 ?_
  obtain ⟨g1, h⟩ := o_gd_some h
  refine o_iast (f := (Pt_blockStarts Pt)) (w1 := (o_cw ad ca rt Sj T0 T1 Rd Pg (Pt_mk (Pt_tokens Pt) (Pt_characterCount Pt) (Pt_tokenCount Pt) (Pt_position Pt) (Pt_total Pt) (Pt_least Pt) (Pt_most Pt) (Pt_depth Pt) (upd (Pt_blockStarts Pt) (Pt_depth Pt).toNatClampNeg (Pg_length Pg)) (Pt_branchStarts Pt) (Pt_jumps Pt) (Pt_sizesBefore Pt)) Mk Lk Ck Jd Ld Pr)) C hP (hDD _ _ _ _ _ _ _ _ _ _ _ _ _) hS 35 29 cw_35 rfl g1 rfl d_Pt_beginBlock_15 (fun H locs hP hS => ?_)
  refine lv_aload_n hx hb d_Pt_beginBlock_16 rfl (lv_at hl 0 rfl) ?_
  refine o_get (v := .ref (ad 36)) C in_Pt hP 33 cw_33 rfl 10 (by decide) k_1_170 rfl rfl d_Pt_beginBlock_17 ?_
  refine lv_aload_n hx hb d_Pt_beginBlock_20 rfl (lv_at hl 0 rfl) ?_
  refine o_get (v := .int (Pt_depth Pt)) C in_Pt hP 33 cw_33 rfl 8 (by decide) k_1_168 rfl rfl d_Pt_beginBlock_21 ?_
  refine lv_aload_n hx hb d_Pt_beginBlock_24 rfl (lv_at hl 0 rfl) ?_
  refine o_get (v := .ref (ad 25)) C in_Pt hP 33 cw_33 rfl 0 (by decide) k_1_160 rfl rfl d_Pt_beginBlock_25 ?_
  refine o_get (v := .int (Pg_length Pg)) C in_Pg hP 25 cw_25 rfl 2 (by decide) k_1_122 rfl rfl d_Pt_beginBlock_28 ?_
  obtain ⟨g2, h⟩ := o_gd_some h
  refine o_iast (f := (Pt_branchStarts Pt)) (w1 := (o_cw ad ca rt Sj T0 T1 Rd Pg (Pt_mk (Pt_tokens Pt) (Pt_characterCount Pt) (Pt_tokenCount Pt) (Pt_position Pt) (Pt_total Pt) (Pt_least Pt) (Pt_most Pt) (Pt_depth Pt) (upd (Pt_blockStarts Pt) (Pt_depth Pt).toNatClampNeg (Pg_length Pg)) (upd (Pt_branchStarts Pt) (Pt_depth Pt).toNatClampNeg (Pg_length Pg)) (Pt_jumps Pt) (Pt_sizesBefore Pt)) Mk Lk Ck Jd Ld Pr)) C hP (hDD _ _ _ _ _ _ _ _ _ _ _ _ _) hS 36 30 cw_36 rfl g2 rfl d_Pt_beginBlock_31 (fun H locs hP hS => ?_)
  refine lv_aload_n hx hb d_Pt_beginBlock_32 rfl (lv_at hl 0 rfl) ?_
  refine o_get (v := .ref (ad 37)) C in_Pt hP 33 cw_33 rfl 11 (by decide) k_1_171 rfl rfl d_Pt_beginBlock_33 ?_
  refine lv_aload_n hx hb d_Pt_beginBlock_36 rfl (lv_at hl 0 rfl) ?_
  refine o_get (v := .int (Pt_depth Pt)) C in_Pt hP 33 cw_33 rfl 8 (by decide) k_1_168 rfl rfl d_Pt_beginBlock_37 ?_
  refine lv_iconst (v := (-1:Int32)) hx hb d_Pt_beginBlock_40 (by decide) ?_
  obtain ⟨g3, h⟩ := o_gd_some h
  refine o_iast (f := (Pt_jumps Pt)) (w1 := (o_cw ad ca rt Sj T0 T1 Rd Pg (Pt_mk (Pt_tokens Pt) (Pt_characterCount Pt) (Pt_tokenCount Pt) (Pt_position Pt) (Pt_total Pt) (Pt_least Pt) (Pt_most Pt) (Pt_depth Pt) (upd (Pt_blockStarts Pt) (Pt_depth Pt).toNatClampNeg (Pg_length Pg)) (upd (Pt_branchStarts Pt) (Pt_depth Pt).toNatClampNeg (Pg_length Pg)) (upd (Pt_jumps Pt) (Pt_depth Pt).toNatClampNeg (-1:Int32)) (Pt_sizesBefore Pt)) Mk Lk Ck Jd Ld Pr)) C hP (hDD _ _ _ _ _ _ _ _ _ _ _ _ _) hS 37 31 cw_37 rfl g3 rfl d_Pt_beginBlock_41 (fun H locs hP hS => ?_)
  refine lv_aload_n hx hb d_Pt_beginBlock_42 rfl (lv_at hl 0 rfl) ?_
  refine o_get (v := .ref (ad 38)) C in_Pt hP 33 cw_33 rfl 12 (by decide) k_1_172 rfl rfl d_Pt_beginBlock_43 ?_
  refine lv_aload_n hx hb d_Pt_beginBlock_46 rfl (lv_at hl 0 rfl) ?_
  refine o_get (v := .int (Pt_depth Pt)) C in_Pt hP 33 cw_33 rfl 8 (by decide) k_1_168 rfl rfl d_Pt_beginBlock_47 ?_
  refine lv_aload_n hx hb d_Pt_beginBlock_50 rfl (lv_at hl 0 rfl) ?_
  refine o_get (v := .int (Pt_total Pt)) C in_Pt hP 33 cw_33 rfl 5 (by decide) k_1_165 rfl rfl d_Pt_beginBlock_51 ?_
  obtain ⟨g4, h⟩ := o_gd_some h
  refine o_iast (f := (Pt_sizesBefore Pt)) (w1 := (o_cw ad ca rt Sj T0 T1 Rd Pg (Pt_mk (Pt_tokens Pt) (Pt_characterCount Pt) (Pt_tokenCount Pt) (Pt_position Pt) (Pt_total Pt) (Pt_least Pt) (Pt_most Pt) (Pt_depth Pt) (upd (Pt_blockStarts Pt) (Pt_depth Pt).toNatClampNeg (Pg_length Pg)) (upd (Pt_branchStarts Pt) (Pt_depth Pt).toNatClampNeg (Pg_length Pg)) (upd (Pt_jumps Pt) (Pt_depth Pt).toNatClampNeg (-1:Int32)) (upd (Pt_sizesBefore Pt) (Pt_depth Pt).toNatClampNeg (Pt_total Pt))) Mk Lk Ck Jd Ld Pr)) C hP (hDD _ _ _ _ _ _ _ _ _ _ _ _ _) hS 38 32 cw_38 rfl g4 rfl d_Pt_beginBlock_54 (fun H locs hP hS => ?_)
  cases h
  exact o_rv C hP hS d_Pt_beginBlock_55
set_option maxHeartbeats 4000000 in
set_option maxRecDepth 100000 in
theorem c_Pt_peek {E : (Nat → Prop) → State → Heap → Prop} {D : va_G} {ad kd sd vd xd : Nat → Nat} {ca : Nat → ClassId} (hE : o_EK E kd sd vd xd) (l : Launch) (x1 : Int32) (Pt : SPt) (Sj : SSJ) (T0 : STx) (T1 : STx) (Rd : SRd) (Pg : SPg) (Mk : SMk) (Lk : SLk) (Ck : SCk) (Jd : SJd) (Ld : SLd) (Pr : SPr) (rt : Nat) {r : Int32} (h : m_Pt_peek x1 Pt = some r) : o_Cn E l D o_cls (o_tys ca) y_Pt_peek cc_Pt_peek rm_Pt_peek [.ref (ad 33), .int x1] (o_cw ad ca rt Sj T0 T1 Rd Pg Pt Mk Lk Ck Jd Ld Pr) (o_cw ad ca rt Sj T0 T1 Rd Pg Pt Mk Lk Ck Jd Ld Pr) (some (.int r)) := by
  refine o_Cn_of (by decide) (Nat.le_of_ble_eq_true rfl) ?_
  intro p e s m below meth c A ls C hD hP hS hl
  have hDD : ∀ (rt : Nat) (Sj : SSJ) (T0 : STx) (T1 : STx) (Rd : SRd) (Pg : SPg) (Pt : SPt) (Mk : SMk) (Lk : SLk) (Ck : SCk) (Jd : SJd) (Ld : SLd) (Pr : SPr), va_D A (o_cw ad ca rt Sj T0 T1 Rd Pg Pt Mk Lk Ck Jd Ld Pr) := fun _ _ _ _ _ _ _ _ _ _ _ _ _ => o_D_map hD rfl
  have hl : lv_has ls 3 [(0, .ref (ad 33)), (1, .int x1)] := hl
  unfold m_Pt_peek at h
  have C0 := C
  obtain ⟨hx, hb, -, -, -, hown, hts, hK, -, -⟩ := C0
  refine lv_aload_n hx hb d_Pt_peek_0 rfl (lv_at hl 0 rfl) ?_
  refine o_get (v := .int (Pt_position Pt)) C in_Pt hP 33 cw_33 rfl 4 (by decide) k_1_164 rfl rfl d_Pt_peek_1 ?_
  refine lv_iload_n hx hb d_Pt_peek_4 rfl (lv_at hl 1 rfl) ?_
  refine lv_iadd hx hb d_Pt_peek_5 ?_
  refine lv_topi (fun x2_6 ex2_6 => ?_)
  replace h := o_nm_at ex2_6 h
  refine lv_istore_n (lv' := [(2, .int x2_6), (0, .ref (ad 33)), (1, .int x1)]) hx hb d_Pt_peek_6 rfl hl (by decide) rfl (fun ls hl => ?_)
  refine lv_iload_n hx hb d_Pt_peek_7 rfl (lv_at hl 0 rfl) ?_
  refine lv_if_lt (tgt := 28) hx hb d_Pt_peek_8 (by decide) (fun c1 => ?_) (fun c1 => ?_)
  · replace h := o_tt c1 h
    refine lv_iconst (v := (-1:Int32)) hx hb d_Pt_peek_28 (by decide) ?_
    cases h
    exact o_ri (v := (-1:Int32)) C hP hS d_Pt_peek_29
  · replace h := o_ff c1 h
    refine lv_iload_n hx hb d_Pt_peek_11 rfl (lv_at hl 0 rfl) ?_
    refine lv_aload_n hx hb d_Pt_peek_12 rfl (lv_at hl 1 rfl) ?_
    refine o_get (v := .int (Pt_tokenCount Pt)) C in_Pt hP 33 cw_33 rfl 3 (by decide) k_1_163 rfl rfl d_Pt_peek_13 ?_
    refine lv_icmp_ge (tgt := 28) hx hb d_Pt_peek_16 (by decide) (fun c2 => ?_) (fun c2 => ?_)
    · replace h := o_tt c2 h
      refine lv_iconst (v := (-1:Int32)) hx hb d_Pt_peek_28 (by decide) ?_
      cases h
      exact o_ri (v := (-1:Int32)) C hP hS d_Pt_peek_29
    · replace h := o_ff c2 h
      refine lv_aload_n hx hb d_Pt_peek_19 rfl (lv_at hl 1 rfl) ?_
      refine o_get (v := .ref (ad 34)) C in_Pt hP 33 cw_33 rfl 1 (by decide) k_1_161 rfl rfl d_Pt_peek_20 ?_
      refine lv_iload_n hx hb d_Pt_peek_23 rfl (lv_at hl 0 rfl) ?_
      obtain ⟨g3, h⟩ := o_gd_some h
      refine o_iald (f := (Pt_tokens Pt)) C hP 34 28 cw_34 rfl g3 d_Pt_peek_24 ?_
      refine lv_goto (tgt := 29) hx hb d_Pt_peek_25 (by decide) ?_
      cases h
      exact o_ri (v := ((Pt_tokens Pt) x2_6.toNatClampNeg)) C hP hS d_Pt_peek_29
set_option maxHeartbeats 4000000 in
set_option maxRecDepth 100000 in
theorem c_Pg_argument {E : (Nat → Prop) → State → Heap → Prop} {D : va_G} {ad kd sd vd xd : Nat → Nat} {ca : Nat → ClassId} (hE : o_EK E kd sd vd xd) (l : Launch) (x1 : Int32) (Pg : SPg) (Sj : SSJ) (T0 : STx) (T1 : STx) (Rd : SRd) (Pt : SPt) (Mk : SMk) (Lk : SLk) (Ck : SCk) (Jd : SJd) (Ld : SLd) (Pr : SPr) (rt : Nat) {r : Int32} (h : m_Pg_argument x1 Pg = some r) : o_Cn E l D o_cls (o_tys ca) y_Pg_argument cc_Pg_argument rm_Pg_argument [.ref (ad 25), .int x1] (o_cw ad ca rt Sj T0 T1 Rd Pg Pt Mk Lk Ck Jd Ld Pr) (o_cw ad ca rt Sj T0 T1 Rd Pg Pt Mk Lk Ck Jd Ld Pr) (some (.int r)) := by
  refine o_Cn_of (by decide) (Nat.le_of_ble_eq_true rfl) ?_
  intro p e s m below meth c A ls C hD hP hS hl
  have hDD : ∀ (rt : Nat) (Sj : SSJ) (T0 : STx) (T1 : STx) (Rd : SRd) (Pg : SPg) (Pt : SPt) (Mk : SMk) (Lk : SLk) (Ck : SCk) (Jd : SJd) (Ld : SLd) (Pr : SPr), va_D A (o_cw ad ca rt Sj T0 T1 Rd Pg Pt Mk Lk Ck Jd Ld Pr) := fun _ _ _ _ _ _ _ _ _ _ _ _ _ => o_D_map hD rfl
  have hl : lv_has ls 2 [(0, .ref (ad 25)), (1, .int x1)] := hl
  unfold m_Pg_argument at h
  have C0 := C
  obtain ⟨hx, hb, -, -, -, hown, hts, hK, -, -⟩ := C0
  refine lv_iload_n hx hb d_Pg_argument_0 rfl (lv_at hl 1 rfl) ?_
  refine lv_if_lt (tgt := 20) hx hb d_Pg_argument_1 (by decide) (fun c1 => ?_) (fun c1 => ?_)
  · replace h := o_tt c1 h
    refine lv_iconst (v := (-1:Int32)) hx hb d_Pg_argument_20 (by decide) ?_
    cases h
    exact o_ri (v := (-1:Int32)) C hP hS d_Pg_argument_21
  · replace h := o_ff c1 h
    refine lv_iload_n hx hb d_Pg_argument_4 rfl (lv_at hl 1 rfl) ?_
    refine lv_sipush (v := (1300:Int32)) hx hb d_Pg_argument_5 (by decide) ?_
    refine lv_icmp_ge (tgt := 20) hx hb d_Pg_argument_8 (by decide) (fun c2 => ?_) (fun c2 => ?_)
    · replace h := o_tt c2 h
      refine lv_iconst (v := (-1:Int32)) hx hb d_Pg_argument_20 (by decide) ?_
      cases h
      exact o_ri (v := (-1:Int32)) C hP hS d_Pg_argument_21
    · replace h := o_ff c2 h
      refine lv_aload_n hx hb d_Pg_argument_11 rfl (lv_at hl 0 rfl) ?_
      refine o_get (v := .ref (ad 27)) C in_Pg hP 25 cw_25 rfl 1 (by decide) k_1_120 rfl rfl d_Pg_argument_12 ?_
      refine lv_iload_n hx hb d_Pg_argument_15 rfl (lv_at hl 1 rfl) ?_
      obtain ⟨g3, h⟩ := o_gd_some h
      refine o_iald (f := (Pg_arguments Pg)) C hP 27 22 cw_27 rfl g3 d_Pg_argument_16 ?_
      refine lv_goto (tgt := 21) hx hb d_Pg_argument_17 (by decide) ?_
      cases h
      exact o_ri (v := ((Pg_arguments Pg) x1.toNatClampNeg)) C hP hS d_Pg_argument_21
set_option maxHeartbeats 4000000 in
set_option maxRecDepth 100000 in
theorem c_Pg_setArgument {E : (Nat → Prop) → State → Heap → Prop} {D : va_G} {ad kd sd vd xd : Nat → Nat} {ca : Nat → ClassId} (hE : o_EK E kd sd vd xd) (l : Launch) (x1 : Int32) (x2 : Int32) (Pg : SPg) (Sj : SSJ) (T0 : STx) (T1 : STx) (Rd : SRd) (Pt : SPt) (Mk : SMk) (Lk : SLk) (Ck : SCk) (Jd : SJd) (Ld : SLd) (Pr : SPr) (rt : Nat) {r : SPg} (h : m_Pg_setArgument x1 x2 Pg = some r) : o_Cn E l D o_cls (o_tys ca) y_Pg_setArgument cc_Pg_setArgument rm_Pg_setArgument [.ref (ad 25), .int x1, .int x2] (o_cw ad ca rt Sj T0 T1 Rd Pg Pt Mk Lk Ck Jd Ld Pr) (o_cw ad ca rt Sj T0 T1 Rd r Pt Mk Lk Ck Jd Ld Pr) none := by
  refine o_Cn_of (by decide) (Nat.le_of_ble_eq_true rfl) ?_
  intro p e s m below meth c A ls C hD hP hS hl
  have hDD : ∀ (rt : Nat) (Sj : SSJ) (T0 : STx) (T1 : STx) (Rd : SRd) (Pg : SPg) (Pt : SPt) (Mk : SMk) (Lk : SLk) (Ck : SCk) (Jd : SJd) (Ld : SLd) (Pr : SPr), va_D A (o_cw ad ca rt Sj T0 T1 Rd Pg Pt Mk Lk Ck Jd Ld Pr) := fun _ _ _ _ _ _ _ _ _ _ _ _ _ => o_D_map hD rfl
  have hl : lv_has ls 3 [(0, .ref (ad 25)), (1, .int x1), (2, .int x2)] := hl
  unfold m_Pg_setArgument at h
  have C0 := C
  obtain ⟨hx, hb, -, -, -, hown, hts, hK, -, -⟩ := C0
  refine lv_iload_n hx hb d_Pg_setArgument_0 rfl (lv_at hl 1 rfl) ?_
  refine lv_if_lt (tgt := 18) hx hb d_Pg_setArgument_1 (by decide) (fun c1 => ?_) (fun c1 => ?_)
  · replace h := o_tt c1 h
    cases h
    exact o_rv C hP hS d_Pg_setArgument_18
  · replace h := o_ff c1 h
    refine lv_iload_n hx hb d_Pg_setArgument_4 rfl (lv_at hl 1 rfl) ?_
    refine lv_sipush (v := (1300:Int32)) hx hb d_Pg_setArgument_5 (by decide) ?_
    refine lv_icmp_ge (tgt := 18) hx hb d_Pg_setArgument_8 (by decide) (fun c2 => ?_) (fun c2 => ?_)
    · replace h := o_tt c2 h
      cases h
      exact o_rv C hP hS d_Pg_setArgument_18
    · replace h := o_ff c2 h
      refine lv_aload_n hx hb d_Pg_setArgument_11 rfl (lv_at hl 0 rfl) ?_
      refine o_get (v := .ref (ad 27)) C in_Pg hP 25 cw_25 rfl 1 (by decide) k_1_120 rfl rfl d_Pg_setArgument_12 ?_
      refine lv_iload_n hx hb d_Pg_setArgument_15 rfl (lv_at hl 1 rfl) ?_
      refine lv_iload_n hx hb d_Pg_setArgument_16 rfl (lv_at hl 2 rfl) ?_
      obtain ⟨g3, h⟩ := o_gd_some h
      refine o_iast (f := (Pg_arguments Pg)) (w1 := (o_cw ad ca rt Sj T0 T1 Rd (Pg_mk (Pg_operations Pg) (upd (Pg_arguments Pg) x1.toNatClampNeg x2) (Pg_length Pg) (Pg_sets Pg) (Pg_setsUsed Pg) (Pg_rounds Pg) (Pg_stack Pg) (Pg_top Pg) (Pg_waiting Pg) (Pg_waitingCount Pg) (Pg_moved Pg)) Pt Mk Lk Ck Jd Ld Pr)) C hP (hDD _ _ _ _ _ _ _ _ _ _ _ _ _) hS 27 22 cw_27 rfl g3 rfl d_Pg_setArgument_17 (fun H locs hP hS => ?_)
      cases h
      exact o_rv C hP hS d_Pg_setArgument_18
set_option maxHeartbeats 4000000 in
set_option maxRecDepth 100000 in
theorem w_Pt_endBlock_b12 {E : (Nat → Prop) → State → Heap → Prop} {p : Program} {l : Launch} {e : Env} {s : State} {m : MethodId} {args : Array Value} {below : List Frame} {meth : Method} {c : Code} {D : va_G} {ad kd sd vd xd : Nat → Nat} {ca : Nat → ClassId} {A : Nat → Prop} {Q : State → Prop} (hE : o_EK E kd sd vd xd) (C : o_Cx E p s m args meth c D o_cls (o_tys ca) "SchemaJudge$Pattern" b_Pt_endBlock none 4 cc_Pt_endBlock A) (hDD : ∀ (rt : Nat) (Sj : SSJ) (T0 : STx) (T1 : STx) (Rd : SRd) (Pg : SPg) (Pt : SPt) (Mk : SMk) (Lk : SLk) (Ck : SCk) (Jd : SJd) (Ld : SLd) (Pr : SPr), va_D A (o_cw ad ca rt Sj T0 T1 Rd Pg Pt Mk Lk Ck Jd Ld Pr)) (n : Nat) (u12_Pt : SPt) (u12_Sj : SSJ) (u12_T0 : STx) (u12_T1 : STx) (u12_Rd : SRd) (u12_Mk : SMk) (u12_Lk : SLk) (u12_Ck : SCk) (u12_Jd : SJd) (u12_Ld : SLd) (u12_Pr : SPr) (u12_rt : Nat) (z : Int32 × Int32 × SPg) (q : Nat × Int32 × Int32 × SPg) (h : m_Pt_endBlock_b12 n u12_Pt z = some q) (h0 : q.1 = 0 → o_At p l e rm_Pt_endBlock s m args below meth c Q o_cls D A 4 12 [] (o_cw ad ca u12_rt u12_Sj u12_T0 u12_T1 u12_Rd q.2.2.2 u12_Pt u12_Mk u12_Lk u12_Ck u12_Jd u12_Ld u12_Pr) [(0, .ref (ad 33)), (1, .int q.2.1), (2, .int q.2.2.1)]) (h1 : q.1 ≠ 0 → (o_At p l e rm_Pt_endBlock s m args below meth c Q o_cls D A 4 58 [] (o_cw ad ca u12_rt u12_Sj u12_T0 u12_T1 u12_Rd q.2.2.2 u12_Pt u12_Mk u12_Lk u12_Ck u12_Jd u12_Ld u12_Pr) [])) : o_At p l e rm_Pt_endBlock s m args below meth c Q o_cls D A 4 12 [] (o_cw ad ca u12_rt u12_Sj u12_T0 u12_T1 u12_Rd z.2.2 u12_Pt u12_Mk u12_Lk u12_Ck u12_Jd u12_Ld u12_Pr) [(0, .ref (ad 33)), (1, .int z.1), (2, .int z.2.1)] := by
  unfold m_Pt_endBlock_b12 at h
  intro H locs ls hP hS hl
  have C0 := C
  obtain ⟨hx, hb, -, -, -, hown, hts, hK, -, -⟩ := C0
  refine lv_iload_n hx hb d_Pt_endBlock_12 rfl (lv_at hl 2 rfl) ?_
  refine lv_sipush (v := (1300:Int32)) hx hb d_Pt_endBlock_13 (by decide) ?_
  refine lv_icmp_ge (tgt := 58) hx hb d_Pt_endBlock_16 (by decide) (fun c2 => ?_) (fun c2 => ?_)
  · replace h := o_tt c2 h
    cases h
    exact h1 (Nat.succ_ne_zero 0) _ _ _ hP hS (lv_sub hl [] rfl)
  · replace h := o_ff c2 h
    refine lv_iload_n hx hb d_Pt_endBlock_19 rfl (lv_at hl 1 rfl) ?_
    refine lv_iconst (v := (-1:Int32)) hx hb d_Pt_endBlock_20 (by decide) ?_
    refine lv_icmp_eq (tgt := 58) hx hb d_Pt_endBlock_21 (by decide) (fun c3 => ?_) (fun c3 => ?_)
    · replace h := o_tt c3 h
      cases h
      exact h1 (Nat.succ_ne_zero 0) _ _ _ hP hS (lv_sub hl [] rfl)
    · replace h := o_ff c3 h
      refine lv_aload_n hx hb d_Pt_endBlock_24 rfl (lv_at hl 0 rfl) ?_
      refine o_get (v := .ref (ad 25)) C in_Pt hP 33 cw_33 rfl 0 (by decide) k_1_160 rfl rfl d_Pt_endBlock_25 ?_
      refine lv_iload_n hx hb d_Pt_endBlock_28 rfl (lv_at hl 1 rfl) ?_
      obtain ⟨q1, hq1, h⟩ := o_bd_some h
      refine o_V (st1 := [.int q1]) (w1 := (o_cw ad ca u12_rt u12_Sj u12_T0 u12_T1 u12_Rd z.2.2 u12_Pt u12_Mk u12_Lk u12_Ck u12_Jd u12_Ld u12_Pr)) hE.1 C (c_Pg_argument hE l z.1 z.2.2 u12_Sj u12_T0 u12_T1 u12_Rd u12_Pt u12_Mk u12_Lk u12_Ck u12_Jd u12_Ld u12_Pr u12_rt hq1) hP (hDD _ _ _ _ _ _ _ _ _ _ _ _ _) hS hl.1 rfl cw_25 k_4_222 k_4_223 k_4_224 k_1_4 k_4_225 hv_Pg_argument rfl rfl ⟨(Nat.le_of_ble_eq_true rfl), (Nat.le_of_ble_eq_true rfl)⟩ rfl (Nat.le_of_ble_eq_true rfl) ⟨Nat.zero_le _, Nat.zero_le _⟩ rfl d_Pt_endBlock_29 (fun H locs hP hS => ?_)
      refine lv_istore_n (lv' := [(3, .int q1), (0, .ref (ad 33)), (1, .int z.1), (2, .int z.2.1)]) hx hb d_Pt_endBlock_32 rfl hl (by decide) rfl (fun ls hl => ?_)
      refine lv_aload_n hx hb d_Pt_endBlock_33 rfl (lv_at hl 1 rfl) ?_
      refine o_get (v := .ref (ad 25)) C in_Pt hP 33 cw_33 rfl 0 (by decide) k_1_160 rfl rfl d_Pt_endBlock_34 ?_
      refine lv_iload_n hx hb d_Pt_endBlock_37 rfl (lv_at hl 2 rfl) ?_
      refine lv_aload_n hx hb d_Pt_endBlock_38 rfl (lv_at hl 1 rfl) ?_
      refine o_get (v := .ref (ad 25)) C in_Pt hP 33 cw_33 rfl 0 (by decide) k_1_160 rfl rfl d_Pt_endBlock_39 ?_
      refine o_get (v := .int (Pg_length z.2.2)) C in_Pg hP 25 cw_25 rfl 2 (by decide) k_1_122 rfl rfl d_Pt_endBlock_42 ?_
      refine lv_iload_n hx hb d_Pt_endBlock_45 rfl (lv_at hl 2 rfl) ?_
      refine lv_isub hx hb d_Pt_endBlock_46 ?_
      obtain ⟨q2, hq2, h⟩ := o_bd_some h
      refine o_V (st1 := []) (w1 := (o_cw ad ca u12_rt u12_Sj u12_T0 u12_T1 u12_Rd q2 u12_Pt u12_Mk u12_Lk u12_Ck u12_Jd u12_Ld u12_Pr)) hE.1 C (c_Pg_setArgument hE l z.1 ((Pg_length z.2.2) - z.1) z.2.2 u12_Sj u12_T0 u12_T1 u12_Rd u12_Pt u12_Mk u12_Lk u12_Ck u12_Jd u12_Ld u12_Pr u12_rt hq2) hP (hDD _ _ _ _ _ _ _ _ _ _ _ _ _) hS hl.1 rfl cw_25 k_4_226 k_4_227 k_4_228 k_1_4 k_4_229 hv_Pg_setArgument rfl rfl ⟨(Nat.le_of_ble_eq_true rfl), (Nat.le_of_ble_eq_true rfl)⟩ rfl (Nat.le_of_ble_eq_true rfl) ⟨Nat.zero_le _, Nat.zero_le _⟩ rfl d_Pt_endBlock_47 (fun H locs hP hS => ?_)
      refine lv_iload_n hx hb d_Pt_endBlock_50 rfl (lv_at hl 0 rfl) ?_
      refine lv_istore_n (lv' := [(1, .int q1), (3, .int q1), (0, .ref (ad 33)), (2, .int z.2.1)]) hx hb d_Pt_endBlock_51 rfl hl (by decide) rfl (fun ls hl => ?_)
      obtain ⟨x2_52, ex2_52⟩ : ∃ y : Int32, y = z.2.1 + (1:Int32) := ⟨_, rfl⟩
      replace h := o_nm_at ex2_52 h
      refine lv_iinc (v := x2_52) (lv' := [(2, .int x2_52), (1, .int q1), (3, .int q1), (0, .ref (ad 33))]) hx hb d_Pt_endBlock_52 hl (k := 3) rfl (by rw [ex2_52]; rfl) (by decide) rfl (fun ls hl => ?_)
      refine lv_goto (tgt := 12) hx hb d_Pt_endBlock_55 (by decide) ?_
      cases h
      exact h0 rfl _ _ _ hP hS (lv_sub hl [3, 1, 0] rfl)
set_option maxHeartbeats 4000000 in
set_option maxRecDepth 100000 in
theorem c_Pt_endBlock {E : (Nat → Prop) → State → Heap → Prop} {D : va_G} {ad kd sd vd xd : Nat → Nat} {ca : Nat → ClassId} (hE : o_EK E kd sd vd xd) (l : Launch) (n : Nat)  (Pg : SPg) (Pt : SPt) (Sj : SSJ) (T0 : STx) (T1 : STx) (Rd : SRd) (Mk : SMk) (Lk : SLk) (Ck : SCk) (Jd : SJd) (Ld : SLd) (Pr : SPr) (rt : Nat) {r : SPg} (h : m_Pt_endBlock n Pg Pt = some r) : o_Cn E l D o_cls (o_tys ca) y_Pt_endBlock cc_Pt_endBlock rm_Pt_endBlock [.ref (ad 33)] (o_cw ad ca rt Sj T0 T1 Rd Pg Pt Mk Lk Ck Jd Ld Pr) (o_cw ad ca rt Sj T0 T1 Rd r Pt Mk Lk Ck Jd Ld Pr) none := by
  refine o_Cn_of (by decide) (Nat.le_of_ble_eq_true rfl) ?_
  intro p e s m below meth c A ls C hD hP hS hl
  have hDD : ∀ (rt : Nat) (Sj : SSJ) (T0 : STx) (T1 : STx) (Rd : SRd) (Pg : SPg) (Pt : SPt) (Mk : SMk) (Lk : SLk) (Ck : SCk) (Jd : SJd) (Ld : SLd) (Pr : SPr), va_D A (o_cw ad ca rt Sj T0 T1 Rd Pg Pt Mk Lk Ck Jd Ld Pr) := fun _ _ _ _ _ _ _ _ _ _ _ _ _ => o_D_map hD rfl
  have hl : lv_has ls 4 [(0, .ref (ad 33))] := hl
  unfold m_Pt_endBlock at h
  have C0 := C
  obtain ⟨hx, hb, -, -, -, hown, hts, hK, -, -⟩ := C0
  refine lv_aload_n hx hb d_Pt_endBlock_0 rfl (lv_at hl 0 rfl) ?_
  refine o_get (v := .ref (ad 37)) C in_Pt hP 33 cw_33 rfl 11 (by decide) k_1_171 rfl rfl d_Pt_endBlock_1 ?_
  refine lv_aload_n hx hb d_Pt_endBlock_4 rfl (lv_at hl 0 rfl) ?_
  refine o_get (v := .int (Pt_depth Pt)) C in_Pt hP 33 cw_33 rfl 8 (by decide) k_1_168 rfl rfl d_Pt_endBlock_5 ?_
  obtain ⟨g1, h⟩ := o_gd_some h
  refine o_iald (f := (Pt_jumps Pt)) C hP 37 31 cw_37 rfl g1 d_Pt_endBlock_8 ?_
  refine lv_topi (fun x1_9 ex1_9 => ?_)
  replace h := o_nm_at ex1_9 h
  refine lv_istore_n (lv' := [(1, .int x1_9), (0, .ref (ad 33))]) hx hb d_Pt_endBlock_9 rfl hl (by decide) rfl (fun ls hl => ?_)
  refine lv_iconst (v := (0:Int32)) hx hb d_Pt_endBlock_10 (by decide) ?_
  refine lv_istore_n (lv' := [(2, .int (0:Int32)), (1, .int x1_9), (0, .ref (ad 33))]) hx hb d_Pt_endBlock_11 rfl hl (by decide) rfl (fun ls hl => ?_)
  obtain ⟨q3, hq3, h⟩ := o_bd_some h
  refine o_sim2 (AH := fun zz => o_At p l e rm_Pt_endBlock s m _ below meth c _ o_cls D A 4 12 [] (o_cw ad ca rt Sj T0 T1 Rd zz.2.2 Pt Mk Lk Ck Jd Ld Pr) [(0, .ref (ad 33)), (1, .int zz.1), (2, .int zz.2.1)]) (AX := fun qq => o_At p l e rm_Pt_endBlock s m _ below meth c _ o_cls D A 4 58 [] (o_cw ad ca rt Sj T0 T1 Rd qq.2.2.2 Pt Mk Lk Ck Jd Ld Pr) []) (fun zz qq h h0 h1 => w_Pt_endBlock_b12 hE C hDD n Pt Sj T0 T1 Rd Mk Lk Ck Jd Ld Pr rt zz qq h h0 h1) n _ q3 hq3 ?_ _ _ _ hP hS (lv_sub hl [2, 1, 0] rfl)
  intro H locs ls hP hS hl
  cases h
  exact o_rv C hP hS d_Pt_endBlock_58
set_option maxHeartbeats 4000000 in
set_option maxRecDepth 100000 in
theorem w_Pt_openGroup_j43 {E : (Nat → Prop) → State → Heap → Prop} {p : Program} {l : Launch} {e : Env} {s : State} {m : MethodId} {args : Array Value} {below : List Frame} {meth : Method} {c : Code} {D : va_G} {ad kd sd vd xd : Nat → Nat} {ca : Nat → ClassId} {A : Nat → Prop} (hE : o_EK E kd sd vd xd) (C : o_Cx E p s m args meth c D o_cls (o_tys ca) "SchemaJudge$Pattern" b_Pt_openGroup (some .boolean) 1 cc_Pt_openGroup A) (hDD : ∀ (rt : Nat) (Sj : SSJ) (T0 : STx) (T1 : STx) (Rd : SRd) (Pg : SPg) (Pt : SPt) (Mk : SMk) (Lk : SLk) (Ck : SCk) (Jd : SJd) (Ld : SLd) (Pr : SPr), va_D A (o_cw ad ca rt Sj T0 T1 Rd Pg Pt Mk Lk Ck Jd Ld Pr))  (Pg : SPg) (Pt : SPt) (Sj : SSJ) (T0 : STx) (T1 : STx) (Rd : SRd) (Mk : SMk) (Lk : SLk) (Ck : SCk) (Jd : SJd) (Ld : SLd) (Pr : SPr) (rt : Nat) {r : Int32 × SPt} (h : m_Pt_openGroup_j43 Pg Pt = some r) : o_At p l e rm_Pt_openGroup s m args below meth c (MQ below (o_Qx D o_cls (some (.int r.1)) (o_cw ad ca rt Sj T0 T1 Rd Pg r.2 Mk Lk Ck Jd Ld Pr) A) args s 0 0 A) o_cls D A 1 43 [] (o_cw ad ca rt Sj T0 T1 Rd Pg Pt Mk Lk Ck Jd Ld Pr) [(0, .ref (ad 33))] := by
  unfold m_Pt_openGroup_j43 at h
  intro H locs ls hP hS hl
  have C0 := C
  obtain ⟨hx, hb, -, -, -, hown, hts, hK, -, -⟩ := C0
  refine lv_aload_n hx hb d_Pt_openGroup_43 rfl (lv_at hl 0 rfl) ?_
  refine lv_dup hx hb d_Pt_openGroup_44 rfl ?_
  refine o_get (v := .int (Pt_depth Pt)) C in_Pt hP 33 cw_33 rfl 8 (by decide) k_1_168 rfl rfl d_Pt_openGroup_45 ?_
  refine lv_iconst (v := (1:Int32)) hx hb d_Pt_openGroup_48 (by decide) ?_
  refine lv_iadd hx hb d_Pt_openGroup_49 ?_
  refine o_put (v := .int ((Pt_depth Pt) + (1:Int32))) (ty := .int) (w1 := (o_cw ad ca rt Sj T0 T1 Rd Pg (Pt_mk (Pt_tokens Pt) (Pt_characterCount Pt) (Pt_tokenCount Pt) (Pt_position Pt) (Pt_total Pt) (Pt_least Pt) (Pt_most Pt) ((Pt_depth Pt) + (1:Int32)) (Pt_blockStarts Pt) (Pt_branchStarts Pt) (Pt_jumps Pt) (Pt_sizesBefore Pt)) Mk Lk Ck Jd Ld Pr)) C in_Pt t_Pt t_Pt_ok n_Pt hP (hDD _ _ _ _ _ _ _ _ _ _ _ _ _) hS 33 cw_33 rfl 8 (by decide) k_1_168 rfl rfl (by decide +kernel) rfl rfl (Nat.le_of_ble_eq_true rfl) rfl d_Pt_openGroup_50 (fun H locs hP hS => ?_)
  refine lv_aload_n hx hb d_Pt_openGroup_53 rfl (lv_at hl 0 rfl) ?_
  obtain ⟨q2, hq2, h⟩ := o_bd_some h
  refine o_V (st1 := []) (w1 := (o_cw ad ca rt Sj T0 T1 Rd Pg q2 Mk Lk Ck Jd Ld Pr)) hE.1 C (c_Pt_beginBlock hE l Pg (Pt_mk (Pt_tokens Pt) (Pt_characterCount Pt) (Pt_tokenCount Pt) (Pt_position Pt) (Pt_total Pt) (Pt_least Pt) (Pt_most Pt) ((Pt_depth Pt) + (1:Int32)) (Pt_blockStarts Pt) (Pt_branchStarts Pt) (Pt_jumps Pt) (Pt_sizesBefore Pt)) Sj T0 T1 Rd Mk Lk Ck Jd Ld Pr rt hq2) hP (hDD _ _ _ _ _ _ _ _ _ _ _ _ _) hS hl.1 rfl cw_33 k_4_210 k_4_212 k_s_27 k_1_5 k_4_213 hv_Pt_beginBlock rfl rfl ⟨(Nat.le_of_ble_eq_true rfl), (Nat.le_of_ble_eq_true rfl)⟩ rfl (Nat.le_of_ble_eq_true rfl) ⟨Nat.zero_le _, Nat.zero_le _⟩ rfl d_Pt_openGroup_54 (fun H locs hP hS => ?_)
  refine lv_iconst (v := (1:Int32)) hx hb d_Pt_openGroup_57 (by decide) ?_
  cases h
  exact o_rz (v := (1:Int32)) C o_nar1 hP hS d_Pt_openGroup_58
set_option maxHeartbeats 4000000 in
set_option maxRecDepth 100000 in
theorem c_Pt_openGroup {E : (Nat → Prop) → State → Heap → Prop} {D : va_G} {ad kd sd vd xd : Nat → Nat} {ca : Nat → ClassId} (hE : o_EK E kd sd vd xd) (l : Launch)  (Pg : SPg) (Pt : SPt) (Sj : SSJ) (T0 : STx) (T1 : STx) (Rd : SRd) (Mk : SMk) (Lk : SLk) (Ck : SCk) (Jd : SJd) (Ld : SLd) (Pr : SPr) (rt : Nat) {r : Int32 × SPt} (h : m_Pt_openGroup Pg Pt = some r) : o_Cn E l D o_cls (o_tys ca) y_Pt_openGroup cc_Pt_openGroup rm_Pt_openGroup [.ref (ad 33)] (o_cw ad ca rt Sj T0 T1 Rd Pg Pt Mk Lk Ck Jd Ld Pr) (o_cw ad ca rt Sj T0 T1 Rd Pg r.2 Mk Lk Ck Jd Ld Pr) (some (.int r.1)) := by
  refine o_Cn_of (by decide) (Nat.le_of_ble_eq_true rfl) ?_
  intro p e s m below meth c A ls C hD hP hS hl
  have hDD : ∀ (rt : Nat) (Sj : SSJ) (T0 : STx) (T1 : STx) (Rd : SRd) (Pg : SPg) (Pt : SPt) (Mk : SMk) (Lk : SLk) (Ck : SCk) (Jd : SJd) (Ld : SLd) (Pr : SPr), va_D A (o_cw ad ca rt Sj T0 T1 Rd Pg Pt Mk Lk Ck Jd Ld Pr) := fun _ _ _ _ _ _ _ _ _ _ _ _ _ => o_D_map hD rfl
  have hl : lv_has ls 1 [(0, .ref (ad 33))] := hl
  unfold m_Pt_openGroup at h
  have C0 := C
  obtain ⟨hx, hb, -, -, -, hown, hts, hK, -, -⟩ := C0
  refine lv_aload_n hx hb d_Pt_openGroup_0 rfl (lv_at hl 0 rfl) ?_
  refine o_get (v := .int (Pt_depth Pt)) C in_Pt hP 33 cw_33 rfl 8 (by decide) k_1_168 rfl rfl d_Pt_openGroup_1 ?_
  refine lv_bipush (v := (30:Int32)) hx hb d_Pt_openGroup_4 (by decide) ?_
  refine lv_icmp_lt (tgt := 11) hx hb d_Pt_openGroup_6 (by decide) (fun c1 => ?_) (fun c1 => ?_)
  · replace h := o_tt c1 h
    refine lv_aload_n hx hb d_Pt_openGroup_11 rfl (lv_at hl 0 rfl) ?_
    refine lv_iconst (v := (0:Int32)) hx hb d_Pt_openGroup_12 (by decide) ?_
    obtain ⟨q1, hq1, h⟩ := o_bd_some h
    refine o_V (st1 := [.int q1]) (w1 := (o_cw ad ca rt Sj T0 T1 Rd Pg Pt Mk Lk Ck Jd Ld Pr)) hE.1 C (c_Pt_peek hE l (0:Int32) Pt Sj T0 T1 Rd Pg Mk Lk Ck Jd Ld Pr rt hq1) hP (hDD _ _ _ _ _ _ _ _ _ _ _ _ _) hS hl.1 rfl cw_33 k_4_214 k_4_216 k_s_28 k_1_5 k_4_217 hv_Pt_peek rfl rfl ⟨(Nat.le_of_ble_eq_true rfl), (Nat.le_of_ble_eq_true rfl)⟩ rfl (Nat.le_of_ble_eq_true rfl) ⟨Nat.zero_le _, Nat.zero_le _⟩ rfl d_Pt_openGroup_13 (fun H locs hP hS => ?_)
    refine lv_bipush (v := (-63:Int32)) hx hb d_Pt_openGroup_16 (by decide) ?_
    refine lv_icmp_ne (tgt := 43) hx hb d_Pt_openGroup_18 (by decide) (fun c2 => ?_) (fun c2 => ?_)
    · replace h := o_ff c2 h
      exact w_Pt_openGroup_j43 hE C hDD Pg Pt Sj T0 T1 Rd Mk Lk Ck Jd Ld Pr rt h _ _ _ hP hS (lv_sub hl [0] rfl)
    · replace h := o_tt c2 h
      refine lv_aload_n hx hb d_Pt_openGroup_21 rfl (lv_at hl 0 rfl) ?_
      refine lv_iconst (v := (1:Int32)) hx hb d_Pt_openGroup_22 (by decide) ?_
      obtain ⟨q3, hq3, h⟩ := o_bd_some h
      refine o_V (st1 := [.int q3]) (w1 := (o_cw ad ca rt Sj T0 T1 Rd Pg Pt Mk Lk Ck Jd Ld Pr)) hE.1 C (c_Pt_peek hE l (1:Int32) Pt Sj T0 T1 Rd Pg Mk Lk Ck Jd Ld Pr rt hq3) hP (hDD _ _ _ _ _ _ _ _ _ _ _ _ _) hS hl.1 rfl cw_33 k_4_214 k_4_216 k_s_28 k_1_5 k_4_217 hv_Pt_peek rfl rfl ⟨(Nat.le_of_ble_eq_true rfl), (Nat.le_of_ble_eq_true rfl)⟩ rfl (Nat.le_of_ble_eq_true rfl) ⟨Nat.zero_le _, Nat.zero_le _⟩ rfl d_Pt_openGroup_23 (fun H locs hP hS => ?_)
      refine lv_bipush (v := (58:Int32)) hx hb d_Pt_openGroup_26 (by decide) ?_
      refine lv_icmp_eq (tgt := 33) hx hb d_Pt_openGroup_28 (by decide) (fun c3 => ?_) (fun c3 => ?_)
      · replace h := o_tt c3 h
        refine lv_aload_n hx hb d_Pt_openGroup_33 rfl (lv_at hl 0 rfl) ?_
        refine lv_dup hx hb d_Pt_openGroup_34 rfl ?_
        refine o_get (v := .int (Pt_position Pt)) C in_Pt hP 33 cw_33 rfl 4 (by decide) k_1_164 rfl rfl d_Pt_openGroup_35 ?_
        refine lv_iconst (v := (2:Int32)) hx hb d_Pt_openGroup_38 (by decide) ?_
        refine lv_iadd hx hb d_Pt_openGroup_39 ?_
        refine o_put (v := .int ((Pt_position Pt) + (2:Int32))) (ty := .int) (w1 := (o_cw ad ca rt Sj T0 T1 Rd Pg (Pt_mk (Pt_tokens Pt) (Pt_characterCount Pt) (Pt_tokenCount Pt) ((Pt_position Pt) + (2:Int32)) (Pt_total Pt) (Pt_least Pt) (Pt_most Pt) (Pt_depth Pt) (Pt_blockStarts Pt) (Pt_branchStarts Pt) (Pt_jumps Pt) (Pt_sizesBefore Pt)) Mk Lk Ck Jd Ld Pr)) C in_Pt t_Pt t_Pt_ok n_Pt hP (hDD _ _ _ _ _ _ _ _ _ _ _ _ _) hS 33 cw_33 rfl 4 (by decide) k_1_164 rfl rfl (by decide +kernel) rfl rfl (Nat.le_of_ble_eq_true rfl) rfl d_Pt_openGroup_40 (fun H locs hP hS => ?_)
        exact w_Pt_openGroup_j43 hE C hDD Pg (Pt_mk (Pt_tokens Pt) (Pt_characterCount Pt) (Pt_tokenCount Pt) ((Pt_position Pt) + (2:Int32)) (Pt_total Pt) (Pt_least Pt) (Pt_most Pt) (Pt_depth Pt) (Pt_blockStarts Pt) (Pt_branchStarts Pt) (Pt_jumps Pt) (Pt_sizesBefore Pt)) Sj T0 T1 Rd Mk Lk Ck Jd Ld Pr rt h _ _ _ hP hS (lv_sub hl [0] rfl)
      · replace h := o_ff c3 h
        refine lv_iconst (v := (0:Int32)) hx hb d_Pt_openGroup_31 (by decide) ?_
        cases h
        exact o_rz (v := (0:Int32)) C o_nar0 hP hS d_Pt_openGroup_32
  · replace h := o_ff c1 h
    refine lv_iconst (v := (0:Int32)) hx hb d_Pt_openGroup_9 (by decide) ?_
    cases h
    exact o_rz (v := (0:Int32)) C o_nar0 hP hS d_Pt_openGroup_10
set_option maxHeartbeats 4000000 in
set_option maxRecDepth 100000 in
theorem w_Pg_insert_j78 {E : (Nat → Prop) → State → Heap → Prop} {p : Program} {l : Launch} {e : Env} {s : State} {m : MethodId} {args : Array Value} {below : List Frame} {meth : Method} {c : Code} {D : va_G} {ad kd sd vd xd : Nat → Nat} {ca : Nat → ClassId} {A : Nat → Prop} (hE : o_EK E kd sd vd xd) (C : o_Cx E p s m args meth c D o_cls (o_tys ca) "SchemaJudge$Program" b_Pg_insert none 4 cc_Pg_insert A) (hDD : ∀ (rt : Nat) (Sj : SSJ) (T0 : STx) (T1 : STx) (Rd : SRd) (Pg : SPg) (Pt : SPt) (Mk : SMk) (Lk : SLk) (Ck : SCk) (Jd : SJd) (Ld : SLd) (Pr : SPr), va_D A (o_cw ad ca rt Sj T0 T1 Rd Pg Pt Mk Lk Ck Jd Ld Pr))  (Pg : SPg) (Sj : SSJ) (T0 : STx) (T1 : STx) (Rd : SRd) (Pt : SPt) (Mk : SMk) (Lk : SLk) (Ck : SCk) (Jd : SJd) (Ld : SLd) (Pr : SPr) (rt : Nat) {r : SPg} (h : m_Pg_insert_j78 Pg = some r) : o_At p l e rm_Pg_insert s m args below meth c (MQ below (o_Qx D o_cls none (o_cw ad ca rt Sj T0 T1 Rd r Pt Mk Lk Ck Jd Ld Pr) A) args s 0 0 A) o_cls D A 4 78 [] (o_cw ad ca rt Sj T0 T1 Rd Pg Pt Mk Lk Ck Jd Ld Pr) [(0, .ref (ad 25))] := by
  unfold m_Pg_insert_j78 at h
  intro H locs ls hP hS hl
  have C0 := C
  obtain ⟨hx, hb, -, -, -, hown, hts, hK, -, -⟩ := C0
  refine lv_aload_n hx hb d_Pg_insert_78 rfl (lv_at hl 0 rfl) ?_
  refine lv_aload_n hx hb d_Pg_insert_79 rfl (lv_at hl 0 rfl) ?_
  refine o_get (v := .int (Pg_length Pg)) C in_Pg hP 25 cw_25 rfl 2 (by decide) k_1_121 rfl rfl d_Pg_insert_80 ?_
  refine lv_iconst (v := (1:Int32)) hx hb d_Pg_insert_83 (by decide) ?_
  refine lv_iadd hx hb d_Pg_insert_84 ?_
  refine lv_ldc (v := (1048576:Int32)) hx hb hown (hts _ k_5_5) d_Pg_insert_85 ?_
  refine va_mmin hx hb (C.2.2.2.2.1.trans hl.1.symm) hown (hts _ k_5_6) (hts _ k_4_114) (hts _ k_1_26) (hts _ k_4_115) (Nat.le_of_ble_eq_true rfl) (Nat.le_of_ble_eq_true rfl) (Nat.zero_le _) (Nat.zero_le _) d_Pg_insert_87 ?_
  refine o_put (v := .int (if (1048576:Int32) < ((Pg_length Pg) + (1:Int32)) then (1048576:Int32) else ((Pg_length Pg) + (1:Int32)))) (ty := .int) (w1 := (o_cw ad ca rt Sj T0 T1 Rd (Pg_mk (Pg_operations Pg) (Pg_arguments Pg) (if (1048576:Int32) < ((Pg_length Pg) + (1:Int32)) then (1048576:Int32) else ((Pg_length Pg) + (1:Int32))) (Pg_sets Pg) (Pg_setsUsed Pg) (Pg_rounds Pg) (Pg_stack Pg) (Pg_top Pg) (Pg_waiting Pg) (Pg_waitingCount Pg) (Pg_moved Pg)) Pt Mk Lk Ck Jd Ld Pr)) C in_Pg t_Pg t_Pg_ok n_Pg hP (hDD _ _ _ _ _ _ _ _ _ _ _ _ _) hS 25 cw_25 rfl 2 (by decide) k_1_121 rfl rfl (by decide +kernel) rfl rfl (Nat.le_of_ble_eq_true rfl) rfl d_Pg_insert_90 (fun H locs hP hS => ?_)
  cases h
  exact o_rv C hP hS d_Pg_insert_93
set_option maxHeartbeats 4000000 in
set_option maxRecDepth 100000 in
theorem c_Pg_insert {E : (Nat → Prop) → State → Heap → Prop} {D : va_G} {ad kd sd vd xd : Nat → Nat} {ca : Nat → ClassId} (hE : o_EK E kd sd vd xd) (l : Launch) (x1 : Int32) (x2 : Int32) (x3 : Int32) (Pg : SPg) (Sj : SSJ) (T0 : STx) (T1 : STx) (Rd : SRd) (Pt : SPt) (Mk : SMk) (Lk : SLk) (Ck : SCk) (Jd : SJd) (Ld : SLd) (Pr : SPr) (rt : Nat) {r : SPg} (h : m_Pg_insert x1 x2 x3 Pg = some r) : o_Cn E l D o_cls (o_tys ca) y_Pg_insert cc_Pg_insert rm_Pg_insert [.ref (ad 25), .int x1, .int x2, .int x3] (o_cw ad ca rt Sj T0 T1 Rd Pg Pt Mk Lk Ck Jd Ld Pr) (o_cw ad ca rt Sj T0 T1 Rd r Pt Mk Lk Ck Jd Ld Pr) none := by
  refine o_Cn_of (by decide) (Nat.le_of_ble_eq_true rfl) ?_
  intro p e s m below meth c A ls C hD hP hS hl
  have hDD : ∀ (rt : Nat) (Sj : SSJ) (T0 : STx) (T1 : STx) (Rd : SRd) (Pg : SPg) (Pt : SPt) (Mk : SMk) (Lk : SLk) (Ck : SCk) (Jd : SJd) (Ld : SLd) (Pr : SPr), va_D A (o_cw ad ca rt Sj T0 T1 Rd Pg Pt Mk Lk Ck Jd Ld Pr) := fun _ _ _ _ _ _ _ _ _ _ _ _ _ => o_D_map hD rfl
  have hl : lv_has ls 4 [(0, .ref (ad 25)), (1, .int x1), (2, .int x2), (3, .int x3)] := hl
  unfold m_Pg_insert at h
  have C0 := C
  obtain ⟨hx, hb, -, -, -, hown, hts, hK, -, -⟩ := C0
  refine lv_iload_n hx hb d_Pg_insert_0 rfl (lv_at hl 1 rfl) ?_
  refine lv_if_lt (tgt := 78) hx hb d_Pg_insert_1 (by decide) (fun c1 => ?_) (fun c1 => ?_)
  · replace h := o_tt c1 h
    exact w_Pg_insert_j78 hE C hDD Pg Sj T0 T1 Rd Pt Mk Lk Ck Jd Ld Pr rt h _ _ _ hP hS (lv_sub hl [0] rfl)
  · replace h := o_ff c1 h
    refine lv_iload_n hx hb d_Pg_insert_4 rfl (lv_at hl 1 rfl) ?_
    refine lv_aload_n hx hb d_Pg_insert_5 rfl (lv_at hl 0 rfl) ?_
    refine o_get (v := .int (Pg_length Pg)) C in_Pg hP 25 cw_25 rfl 2 (by decide) k_1_121 rfl rfl d_Pg_insert_6 ?_
    refine lv_icmp_gt (tgt := 78) hx hb d_Pg_insert_9 (by decide) (fun c2 => ?_) (fun c2 => ?_)
    · replace h := o_tt c2 h
      exact w_Pg_insert_j78 hE C hDD Pg Sj T0 T1 Rd Pt Mk Lk Ck Jd Ld Pr rt h _ _ _ hP hS (lv_sub hl [0] rfl)
    · replace h := o_ff c2 h
      refine lv_aload_n hx hb d_Pg_insert_12 rfl (lv_at hl 0 rfl) ?_
      refine o_get (v := .int (Pg_length Pg)) C in_Pg hP 25 cw_25 rfl 2 (by decide) k_1_121 rfl rfl d_Pg_insert_13 ?_
      refine lv_sipush (v := (1300:Int32)) hx hb d_Pg_insert_16 (by decide) ?_
      refine lv_icmp_ge (tgt := 78) hx hb d_Pg_insert_19 (by decide) (fun c3 => ?_) (fun c3 => ?_)
      · replace h := o_tt c3 h
        exact w_Pg_insert_j78 hE C hDD Pg Sj T0 T1 Rd Pt Mk Lk Ck Jd Ld Pr rt h _ _ _ hP hS (lv_sub hl [0] rfl)
      · replace h := o_ff c3 h
        refine lv_aload_n hx hb d_Pg_insert_22 rfl (lv_at hl 0 rfl) ?_
        refine o_get (v := .ref (ad 26)) C in_Pg hP 25 cw_25 rfl 0 (by decide) k_1_119 rfl rfl d_Pg_insert_23 ?_
        refine lv_iload_n hx hb d_Pg_insert_26 rfl (lv_at hl 1 rfl) ?_
        refine lv_aload_n hx hb d_Pg_insert_27 rfl (lv_at hl 0 rfl) ?_
        refine o_get (v := .ref (ad 26)) C in_Pg hP 25 cw_25 rfl 0 (by decide) k_1_119 rfl rfl d_Pg_insert_28 ?_
        refine lv_iload_n hx hb d_Pg_insert_31 rfl (lv_at hl 1 rfl) ?_
        refine lv_iconst (v := (1:Int32)) hx hb d_Pg_insert_32 (by decide) ?_
        refine lv_iadd hx hb d_Pg_insert_33 ?_
        refine lv_aload_n hx hb d_Pg_insert_34 rfl (lv_at hl 0 rfl) ?_
        refine o_get (v := .int (Pg_length Pg)) C in_Pg hP 25 cw_25 rfl 2 (by decide) k_1_121 rfl rfl d_Pg_insert_35 ?_
        refine lv_iload_n hx hb d_Pg_insert_38 rfl (lv_at hl 1 rfl) ?_
        refine lv_isub hx hb d_Pg_insert_39 ?_
        obtain ⟨g4, h⟩ := o_gd_some h
        refine o_cpi (f := (Pg_operations Pg)) (g := (Pg_operations Pg)) (w1 := (o_cw ad ca rt Sj T0 T1 Rd (Pg_mk (va_cpy (Pg_operations Pg) (Pg_operations Pg) x1.toNatClampNeg (x1 + (1:Int32)).toNatClampNeg ((Pg_length Pg) - x1).toNatClampNeg) (Pg_arguments Pg) (Pg_length Pg) (Pg_sets Pg) (Pg_setsUsed Pg) (Pg_rounds Pg) (Pg_stack Pg) (Pg_top Pg) (Pg_waiting Pg) (Pg_waitingCount Pg) (Pg_moved Pg)) Pt Mk Lk Ck Jd Ld Pr)) C hP (hDD _ _ _ _ _ _ _ _ _ _ _ _ _) hS hl.1 k_5_2 k_5_4 k_5_3 k_1_28 26 26 21 21 cw_26 cw_26 rfl rfl g4 rfl (Nat.le_of_ble_eq_true rfl) (Nat.le_of_ble_eq_true rfl) d_Pg_insert_40 (fun H locs hP hS => ?_)
        refine lv_aload_n hx hb d_Pg_insert_43 rfl (lv_at hl 0 rfl) ?_
        refine o_get (v := .ref (ad 27)) C in_Pg hP 25 cw_25 rfl 1 (by decide) k_1_120 rfl rfl d_Pg_insert_44 ?_
        refine lv_iload_n hx hb d_Pg_insert_47 rfl (lv_at hl 1 rfl) ?_
        refine lv_aload_n hx hb d_Pg_insert_48 rfl (lv_at hl 0 rfl) ?_
        refine o_get (v := .ref (ad 27)) C in_Pg hP 25 cw_25 rfl 1 (by decide) k_1_120 rfl rfl d_Pg_insert_49 ?_
        refine lv_iload_n hx hb d_Pg_insert_52 rfl (lv_at hl 1 rfl) ?_
        refine lv_iconst (v := (1:Int32)) hx hb d_Pg_insert_53 (by decide) ?_
        refine lv_iadd hx hb d_Pg_insert_54 ?_
        refine lv_aload_n hx hb d_Pg_insert_55 rfl (lv_at hl 0 rfl) ?_
        refine o_get (v := .int (Pg_length Pg)) C in_Pg hP 25 cw_25 rfl 2 (by decide) k_1_121 rfl rfl d_Pg_insert_56 ?_
        refine lv_iload_n hx hb d_Pg_insert_59 rfl (lv_at hl 1 rfl) ?_
        refine lv_isub hx hb d_Pg_insert_60 ?_
        obtain ⟨g5, h⟩ := o_gd_some h
        refine o_cpi (f := (Pg_arguments Pg)) (g := (Pg_arguments Pg)) (w1 := (o_cw ad ca rt Sj T0 T1 Rd (Pg_mk (va_cpy (Pg_operations Pg) (Pg_operations Pg) x1.toNatClampNeg (x1 + (1:Int32)).toNatClampNeg ((Pg_length Pg) - x1).toNatClampNeg) (va_cpy (Pg_arguments Pg) (Pg_arguments Pg) x1.toNatClampNeg (x1 + (1:Int32)).toNatClampNeg ((Pg_length Pg) - x1).toNatClampNeg) (Pg_length Pg) (Pg_sets Pg) (Pg_setsUsed Pg) (Pg_rounds Pg) (Pg_stack Pg) (Pg_top Pg) (Pg_waiting Pg) (Pg_waitingCount Pg) (Pg_moved Pg)) Pt Mk Lk Ck Jd Ld Pr)) C hP (hDD _ _ _ _ _ _ _ _ _ _ _ _ _) hS hl.1 k_5_2 k_5_4 k_5_3 k_1_28 27 27 22 22 cw_27 cw_27 rfl rfl g5 rfl (Nat.le_of_ble_eq_true rfl) (Nat.le_of_ble_eq_true rfl) d_Pg_insert_61 (fun H locs hP hS => ?_)
        refine lv_aload_n hx hb d_Pg_insert_64 rfl (lv_at hl 0 rfl) ?_
        refine o_get (v := .ref (ad 26)) C in_Pg hP 25 cw_25 rfl 0 (by decide) k_1_119 rfl rfl d_Pg_insert_65 ?_
        refine lv_iload_n hx hb d_Pg_insert_68 rfl (lv_at hl 1 rfl) ?_
        refine lv_iload_n hx hb d_Pg_insert_69 rfl (lv_at hl 2 rfl) ?_
        obtain ⟨g6, h⟩ := o_gd_some h
        refine o_iast (f := (va_cpy (Pg_operations Pg) (Pg_operations Pg) x1.toNatClampNeg (x1 + (1:Int32)).toNatClampNeg ((Pg_length Pg) - x1).toNatClampNeg)) (w1 := (o_cw ad ca rt Sj T0 T1 Rd (Pg_mk (upd (va_cpy (Pg_operations Pg) (Pg_operations Pg) x1.toNatClampNeg (x1 + (1:Int32)).toNatClampNeg ((Pg_length Pg) - x1).toNatClampNeg) x1.toNatClampNeg x2) (va_cpy (Pg_arguments Pg) (Pg_arguments Pg) x1.toNatClampNeg (x1 + (1:Int32)).toNatClampNeg ((Pg_length Pg) - x1).toNatClampNeg) (Pg_length Pg) (Pg_sets Pg) (Pg_setsUsed Pg) (Pg_rounds Pg) (Pg_stack Pg) (Pg_top Pg) (Pg_waiting Pg) (Pg_waitingCount Pg) (Pg_moved Pg)) Pt Mk Lk Ck Jd Ld Pr)) C hP (hDD _ _ _ _ _ _ _ _ _ _ _ _ _) hS 26 21 cw_26 rfl g6 rfl d_Pg_insert_70 (fun H locs hP hS => ?_)
        refine lv_aload_n hx hb d_Pg_insert_71 rfl (lv_at hl 0 rfl) ?_
        refine o_get (v := .ref (ad 27)) C in_Pg hP 25 cw_25 rfl 1 (by decide) k_1_120 rfl rfl d_Pg_insert_72 ?_
        refine lv_iload_n hx hb d_Pg_insert_75 rfl (lv_at hl 1 rfl) ?_
        refine lv_iload_n hx hb d_Pg_insert_76 rfl (lv_at hl 3 rfl) ?_
        obtain ⟨g7, h⟩ := o_gd_some h
        refine o_iast (f := (va_cpy (Pg_arguments Pg) (Pg_arguments Pg) x1.toNatClampNeg (x1 + (1:Int32)).toNatClampNeg ((Pg_length Pg) - x1).toNatClampNeg)) (w1 := (o_cw ad ca rt Sj T0 T1 Rd (Pg_mk (upd (va_cpy (Pg_operations Pg) (Pg_operations Pg) x1.toNatClampNeg (x1 + (1:Int32)).toNatClampNeg ((Pg_length Pg) - x1).toNatClampNeg) x1.toNatClampNeg x2) (upd (va_cpy (Pg_arguments Pg) (Pg_arguments Pg) x1.toNatClampNeg (x1 + (1:Int32)).toNatClampNeg ((Pg_length Pg) - x1).toNatClampNeg) x1.toNatClampNeg x3) (Pg_length Pg) (Pg_sets Pg) (Pg_setsUsed Pg) (Pg_rounds Pg) (Pg_stack Pg) (Pg_top Pg) (Pg_waiting Pg) (Pg_waitingCount Pg) (Pg_moved Pg)) Pt Mk Lk Ck Jd Ld Pr)) C hP (hDD _ _ _ _ _ _ _ _ _ _ _ _ _) hS 27 22 cw_27 rfl g7 rfl d_Pg_insert_77 (fun H locs hP hS => ?_)
        exact w_Pg_insert_j78 hE C hDD (Pg_mk (upd (va_cpy (Pg_operations Pg) (Pg_operations Pg) x1.toNatClampNeg (x1 + (1:Int32)).toNatClampNeg ((Pg_length Pg) - x1).toNatClampNeg) x1.toNatClampNeg x2) (upd (va_cpy (Pg_arguments Pg) (Pg_arguments Pg) x1.toNatClampNeg (x1 + (1:Int32)).toNatClampNeg ((Pg_length Pg) - x1).toNatClampNeg) x1.toNatClampNeg x3) (Pg_length Pg) (Pg_sets Pg) (Pg_setsUsed Pg) (Pg_rounds Pg) (Pg_stack Pg) (Pg_top Pg) (Pg_waiting Pg) (Pg_waitingCount Pg) (Pg_moved Pg)) Sj T0 T1 Rd Pt Mk Lk Ck Jd Ld Pr rt h _ _ _ hP hS (lv_sub hl [0] rfl)
set_option maxHeartbeats 4000000 in
set_option maxRecDepth 100000 in
theorem w_Pg_emit_j30 {E : (Nat → Prop) → State → Heap → Prop} {p : Program} {l : Launch} {e : Env} {s : State} {m : MethodId} {args : Array Value} {below : List Frame} {meth : Method} {c : Code} {D : va_G} {ad kd sd vd xd : Nat → Nat} {ca : Nat → ClassId} {A : Nat → Prop} (hE : o_EK E kd sd vd xd) (C : o_Cx E p s m args meth c D o_cls (o_tys ca) "SchemaJudge$Program" b_Pg_emit none 3 cc_Pg_emit A) (hDD : ∀ (rt : Nat) (Sj : SSJ) (T0 : STx) (T1 : STx) (Rd : SRd) (Pg : SPg) (Pt : SPt) (Mk : SMk) (Lk : SLk) (Ck : SCk) (Jd : SJd) (Ld : SLd) (Pr : SPr), va_D A (o_cw ad ca rt Sj T0 T1 Rd Pg Pt Mk Lk Ck Jd Ld Pr))  (Pg : SPg) (Sj : SSJ) (T0 : STx) (T1 : STx) (Rd : SRd) (Pt : SPt) (Mk : SMk) (Lk : SLk) (Ck : SCk) (Jd : SJd) (Ld : SLd) (Pr : SPr) (rt : Nat) {r : SPg} (h : m_Pg_emit_j30 Pg = some r) : o_At p l e rm_Pg_emit s m args below meth c (MQ below (o_Qx D o_cls none (o_cw ad ca rt Sj T0 T1 Rd r Pt Mk Lk Ck Jd Ld Pr) A) args s 0 0 A) o_cls D A 3 30 [] (o_cw ad ca rt Sj T0 T1 Rd Pg Pt Mk Lk Ck Jd Ld Pr) [(0, .ref (ad 25))] := by
  unfold m_Pg_emit_j30 at h
  intro H locs ls hP hS hl
  have C0 := C
  obtain ⟨hx, hb, -, -, -, hown, hts, hK, -, -⟩ := C0
  refine lv_aload_n hx hb d_Pg_emit_30 rfl (lv_at hl 0 rfl) ?_
  refine lv_aload_n hx hb d_Pg_emit_31 rfl (lv_at hl 0 rfl) ?_
  refine o_get (v := .int (Pg_length Pg)) C in_Pg hP 25 cw_25 rfl 2 (by decide) k_1_121 rfl rfl d_Pg_emit_32 ?_
  refine lv_iconst (v := (1:Int32)) hx hb d_Pg_emit_35 (by decide) ?_
  refine lv_iadd hx hb d_Pg_emit_36 ?_
  refine lv_ldc (v := (1048576:Int32)) hx hb hown (hts _ k_5_5) d_Pg_emit_37 ?_
  refine va_mmin hx hb (C.2.2.2.2.1.trans hl.1.symm) hown (hts _ k_5_6) (hts _ k_4_114) (hts _ k_1_26) (hts _ k_4_115) (Nat.le_of_ble_eq_true rfl) (Nat.le_of_ble_eq_true rfl) (Nat.zero_le _) (Nat.zero_le _) d_Pg_emit_39 ?_
  refine o_put (v := .int (if (1048576:Int32) < ((Pg_length Pg) + (1:Int32)) then (1048576:Int32) else ((Pg_length Pg) + (1:Int32)))) (ty := .int) (w1 := (o_cw ad ca rt Sj T0 T1 Rd (Pg_mk (Pg_operations Pg) (Pg_arguments Pg) (if (1048576:Int32) < ((Pg_length Pg) + (1:Int32)) then (1048576:Int32) else ((Pg_length Pg) + (1:Int32))) (Pg_sets Pg) (Pg_setsUsed Pg) (Pg_rounds Pg) (Pg_stack Pg) (Pg_top Pg) (Pg_waiting Pg) (Pg_waitingCount Pg) (Pg_moved Pg)) Pt Mk Lk Ck Jd Ld Pr)) C in_Pg t_Pg t_Pg_ok n_Pg hP (hDD _ _ _ _ _ _ _ _ _ _ _ _ _) hS 25 cw_25 rfl 2 (by decide) k_1_121 rfl rfl (by decide +kernel) rfl rfl (Nat.le_of_ble_eq_true rfl) rfl d_Pg_emit_42 (fun H locs hP hS => ?_)
  cases h
  exact o_rv C hP hS d_Pg_emit_45
set_option maxHeartbeats 4000000 in
set_option maxRecDepth 100000 in
theorem c_Pg_emit {E : (Nat → Prop) → State → Heap → Prop} {D : va_G} {ad kd sd vd xd : Nat → Nat} {ca : Nat → ClassId} (hE : o_EK E kd sd vd xd) (l : Launch) (x1 : Int32) (x2 : Int32) (Pg : SPg) (Sj : SSJ) (T0 : STx) (T1 : STx) (Rd : SRd) (Pt : SPt) (Mk : SMk) (Lk : SLk) (Ck : SCk) (Jd : SJd) (Ld : SLd) (Pr : SPr) (rt : Nat) {r : SPg} (h : m_Pg_emit x1 x2 Pg = some r) : o_Cn E l D o_cls (o_tys ca) y_Pg_emit cc_Pg_emit rm_Pg_emit [.ref (ad 25), .int x1, .int x2] (o_cw ad ca rt Sj T0 T1 Rd Pg Pt Mk Lk Ck Jd Ld Pr) (o_cw ad ca rt Sj T0 T1 Rd r Pt Mk Lk Ck Jd Ld Pr) none := by
  refine o_Cn_of (by decide) (Nat.le_of_ble_eq_true rfl) ?_
  intro p e s m below meth c A ls C hD hP hS hl
  have hDD : ∀ (rt : Nat) (Sj : SSJ) (T0 : STx) (T1 : STx) (Rd : SRd) (Pg : SPg) (Pt : SPt) (Mk : SMk) (Lk : SLk) (Ck : SCk) (Jd : SJd) (Ld : SLd) (Pr : SPr), va_D A (o_cw ad ca rt Sj T0 T1 Rd Pg Pt Mk Lk Ck Jd Ld Pr) := fun _ _ _ _ _ _ _ _ _ _ _ _ _ => o_D_map hD rfl
  have hl : lv_has ls 3 [(0, .ref (ad 25)), (1, .int x1), (2, .int x2)] := hl
  unfold m_Pg_emit at h
  have C0 := C
  obtain ⟨hx, hb, -, -, -, hown, hts, hK, -, -⟩ := C0
  refine lv_aload_n hx hb d_Pg_emit_0 rfl (lv_at hl 0 rfl) ?_
  refine o_get (v := .int (Pg_length Pg)) C in_Pg hP 25 cw_25 rfl 2 (by decide) k_1_121 rfl rfl d_Pg_emit_1 ?_
  refine lv_sipush (v := (1300:Int32)) hx hb d_Pg_emit_4 (by decide) ?_
  refine lv_icmp_ge (tgt := 30) hx hb d_Pg_emit_7 (by decide) (fun c1 => ?_) (fun c1 => ?_)
  · replace h := o_tt c1 h
    exact w_Pg_emit_j30 hE C hDD Pg Sj T0 T1 Rd Pt Mk Lk Ck Jd Ld Pr rt h _ _ _ hP hS (lv_sub hl [0] rfl)
  · replace h := o_ff c1 h
    refine lv_aload_n hx hb d_Pg_emit_10 rfl (lv_at hl 0 rfl) ?_
    refine o_get (v := .ref (ad 26)) C in_Pg hP 25 cw_25 rfl 0 (by decide) k_1_119 rfl rfl d_Pg_emit_11 ?_
    refine lv_aload_n hx hb d_Pg_emit_14 rfl (lv_at hl 0 rfl) ?_
    refine o_get (v := .int (Pg_length Pg)) C in_Pg hP 25 cw_25 rfl 2 (by decide) k_1_121 rfl rfl d_Pg_emit_15 ?_
    refine lv_iload_n hx hb d_Pg_emit_18 rfl (lv_at hl 1 rfl) ?_
    obtain ⟨g2, h⟩ := o_gd_some h
    refine o_iast (f := (Pg_operations Pg)) (w1 := (o_cw ad ca rt Sj T0 T1 Rd (Pg_mk (upd (Pg_operations Pg) (Pg_length Pg).toNatClampNeg x1) (Pg_arguments Pg) (Pg_length Pg) (Pg_sets Pg) (Pg_setsUsed Pg) (Pg_rounds Pg) (Pg_stack Pg) (Pg_top Pg) (Pg_waiting Pg) (Pg_waitingCount Pg) (Pg_moved Pg)) Pt Mk Lk Ck Jd Ld Pr)) C hP (hDD _ _ _ _ _ _ _ _ _ _ _ _ _) hS 26 21 cw_26 rfl g2 rfl d_Pg_emit_19 (fun H locs hP hS => ?_)
    refine lv_aload_n hx hb d_Pg_emit_20 rfl (lv_at hl 0 rfl) ?_
    refine o_get (v := .ref (ad 27)) C in_Pg hP 25 cw_25 rfl 1 (by decide) k_1_120 rfl rfl d_Pg_emit_21 ?_
    refine lv_aload_n hx hb d_Pg_emit_24 rfl (lv_at hl 0 rfl) ?_
    refine o_get (v := .int (Pg_length Pg)) C in_Pg hP 25 cw_25 rfl 2 (by decide) k_1_121 rfl rfl d_Pg_emit_25 ?_
    refine lv_iload_n hx hb d_Pg_emit_28 rfl (lv_at hl 2 rfl) ?_
    obtain ⟨g3, h⟩ := o_gd_some h
    refine o_iast (f := (Pg_arguments Pg)) (w1 := (o_cw ad ca rt Sj T0 T1 Rd (Pg_mk (upd (Pg_operations Pg) (Pg_length Pg).toNatClampNeg x1) (upd (Pg_arguments Pg) (Pg_length Pg).toNatClampNeg x2) (Pg_length Pg) (Pg_sets Pg) (Pg_setsUsed Pg) (Pg_rounds Pg) (Pg_stack Pg) (Pg_top Pg) (Pg_waiting Pg) (Pg_waitingCount Pg) (Pg_moved Pg)) Pt Mk Lk Ck Jd Ld Pr)) C hP (hDD _ _ _ _ _ _ _ _ _ _ _ _ _) hS 27 22 cw_27 rfl g3 rfl d_Pg_emit_29 (fun H locs hP hS => ?_)
    exact w_Pg_emit_j30 hE C hDD (Pg_mk (upd (Pg_operations Pg) (Pg_length Pg).toNatClampNeg x1) (upd (Pg_arguments Pg) (Pg_length Pg).toNatClampNeg x2) (Pg_length Pg) (Pg_sets Pg) (Pg_setsUsed Pg) (Pg_rounds Pg) (Pg_stack Pg) (Pg_top Pg) (Pg_waiting Pg) (Pg_waitingCount Pg) (Pg_moved Pg)) Sj T0 T1 Rd Pt Mk Lk Ck Jd Ld Pr rt h _ _ _ hP hS (lv_sub hl [0] rfl)
set_option maxHeartbeats 4000000 in
set_option maxRecDepth 100000 in
theorem c_Pt_nextBranch {E : (Nat → Prop) → State → Heap → Prop} {D : va_G} {ad kd sd vd xd : Nat → Nat} {ca : Nat → ClassId} (hE : o_EK E kd sd vd xd) (l : Launch)  (Pg : SPg) (Pt : SPt) (Sj : SSJ) (T0 : STx) (T1 : STx) (Rd : SRd) (Mk : SMk) (Lk : SLk) (Ck : SCk) (Jd : SJd) (Ld : SLd) (Pr : SPr) (rt : Nat) {r : SPg × SPt} (h : m_Pt_nextBranch Pg Pt = some r) : o_Cn E l D o_cls (o_tys ca) y_Pt_nextBranch cc_Pt_nextBranch rm_Pt_nextBranch [.ref (ad 33)] (o_cw ad ca rt Sj T0 T1 Rd Pg Pt Mk Lk Ck Jd Ld Pr) (o_cw ad ca rt Sj T0 T1 Rd r.1 r.2 Mk Lk Ck Jd Ld Pr) none := by
  refine o_Cn_of (by decide) (Nat.le_of_ble_eq_true rfl) ?_
  intro p e s m below meth c A ls C hD hP hS hl
  have hDD : ∀ (rt : Nat) (Sj : SSJ) (T0 : STx) (T1 : STx) (Rd : SRd) (Pg : SPg) (Pt : SPt) (Mk : SMk) (Lk : SLk) (Ck : SCk) (Jd : SJd) (Ld : SLd) (Pr : SPr), va_D A (o_cw ad ca rt Sj T0 T1 Rd Pg Pt Mk Lk Ck Jd Ld Pr) := fun _ _ _ _ _ _ _ _ _ _ _ _ _ => o_D_map hD rfl
  have hl : lv_has ls 2 [(0, .ref (ad 33))] := hl
  unfold m_Pt_nextBranch at h
  have C0 := C
  obtain ⟨hx, hb, -, -, -, hown, hts, hK, -, -⟩ := C0
  refine lv_aload_n hx hb d_Pt_nextBranch_0 rfl (lv_at hl 0 rfl) ?_
  refine o_get (v := .ref (ad 36)) C in_Pt hP 33 cw_33 rfl 10 (by decide) k_1_170 rfl rfl d_Pt_nextBranch_1 ?_
  refine lv_aload_n hx hb d_Pt_nextBranch_4 rfl (lv_at hl 0 rfl) ?_
  refine o_get (v := .int (Pt_depth Pt)) C in_Pt hP 33 cw_33 rfl 8 (by decide) k_1_168 rfl rfl d_Pt_nextBranch_5 ?_
  obtain ⟨g1, h⟩ := o_gd_some h
  refine o_iald (f := (Pt_branchStarts Pt)) C hP 36 30 cw_36 rfl g1 d_Pt_nextBranch_8 ?_
  refine lv_topi (fun x1_9 ex1_9 => ?_)
  replace h := o_nm_at ex1_9 h
  refine lv_istore_n (lv' := [(1, .int x1_9), (0, .ref (ad 33))]) hx hb d_Pt_nextBranch_9 rfl hl (by decide) rfl (fun ls hl => ?_)
  refine lv_aload_n hx hb d_Pt_nextBranch_10 rfl (lv_at hl 1 rfl) ?_
  refine o_get (v := .ref (ad 25)) C in_Pt hP 33 cw_33 rfl 0 (by decide) k_1_160 rfl rfl d_Pt_nextBranch_11 ?_
  refine lv_iload_n hx hb d_Pt_nextBranch_14 rfl (lv_at hl 0 rfl) ?_
  refine lv_bipush (v := (6:Int32)) hx hb d_Pt_nextBranch_15 (by decide) ?_
  refine lv_aload_n hx hb d_Pt_nextBranch_17 rfl (lv_at hl 1 rfl) ?_
  refine o_get (v := .ref (ad 25)) C in_Pt hP 33 cw_33 rfl 0 (by decide) k_1_160 rfl rfl d_Pt_nextBranch_18 ?_
  refine o_get (v := .int (Pg_length Pg)) C in_Pg hP 25 cw_25 rfl 2 (by decide) k_1_122 rfl rfl d_Pt_nextBranch_21 ?_
  refine lv_iload_n hx hb d_Pt_nextBranch_24 rfl (lv_at hl 0 rfl) ?_
  refine lv_isub hx hb d_Pt_nextBranch_25 ?_
  refine lv_iconst (v := (2:Int32)) hx hb d_Pt_nextBranch_26 (by decide) ?_
  refine lv_iadd hx hb d_Pt_nextBranch_27 ?_
  obtain ⟨q1, hq1, h⟩ := o_bd_some h
  refine o_V (st1 := []) (w1 := (o_cw ad ca rt Sj T0 T1 Rd q1 Pt Mk Lk Ck Jd Ld Pr)) hE.1 C (c_Pg_insert hE l x1_9 (6:Int32) (((Pg_length Pg) - x1_9) + (2:Int32)) Pg Sj T0 T1 Rd Pt Mk Lk Ck Jd Ld Pr rt hq1) hP (hDD _ _ _ _ _ _ _ _ _ _ _ _ _) hS hl.1 rfl cw_25 k_4_238 k_4_239 k_5_0 k_1_4 k_5_1 hv_Pg_insert rfl rfl ⟨(Nat.le_of_ble_eq_true rfl), (Nat.le_of_ble_eq_true rfl)⟩ rfl (Nat.le_of_ble_eq_true rfl) ⟨Nat.zero_le _, Nat.zero_le _⟩ rfl d_Pt_nextBranch_28 (fun H locs hP hS => ?_)
  refine lv_aload_n hx hb d_Pt_nextBranch_31 rfl (lv_at hl 1 rfl) ?_
  refine o_get (v := .ref (ad 25)) C in_Pt hP 33 cw_33 rfl 0 (by decide) k_1_160 rfl rfl d_Pt_nextBranch_32 ?_
  refine lv_bipush (v := (7:Int32)) hx hb d_Pt_nextBranch_35 (by decide) ?_
  refine lv_aload_n hx hb d_Pt_nextBranch_37 rfl (lv_at hl 1 rfl) ?_
  refine o_get (v := .ref (ad 37)) C in_Pt hP 33 cw_33 rfl 11 (by decide) k_1_171 rfl rfl d_Pt_nextBranch_38 ?_
  refine lv_aload_n hx hb d_Pt_nextBranch_41 rfl (lv_at hl 1 rfl) ?_
  refine o_get (v := .int (Pt_depth Pt)) C in_Pt hP 33 cw_33 rfl 8 (by decide) k_1_168 rfl rfl d_Pt_nextBranch_42 ?_
  obtain ⟨g2, h⟩ := o_gd_some h
  refine o_iald (f := (Pt_jumps Pt)) C hP 37 31 cw_37 rfl g2 d_Pt_nextBranch_45 ?_
  obtain ⟨q2, hq2, h⟩ := o_bd_some h
  refine o_V (st1 := []) (w1 := (o_cw ad ca rt Sj T0 T1 Rd q2 Pt Mk Lk Ck Jd Ld Pr)) hE.1 C (c_Pg_emit hE l (7:Int32) ((Pt_jumps Pt) (Pt_depth Pt).toNatClampNeg) q1 Sj T0 T1 Rd Pt Mk Lk Ck Jd Ld Pr rt hq2) hP (hDD _ _ _ _ _ _ _ _ _ _ _ _ _) hS hl.1 rfl cw_25 k_5_7 k_5_8 k_5_9 k_1_4 k_5_10 hv_Pg_emit rfl rfl ⟨(Nat.le_of_ble_eq_true rfl), (Nat.le_of_ble_eq_true rfl)⟩ rfl (Nat.le_of_ble_eq_true rfl) ⟨Nat.zero_le _, Nat.zero_le _⟩ rfl d_Pt_nextBranch_46 (fun H locs hP hS => ?_)
  refine lv_aload_n hx hb d_Pt_nextBranch_49 rfl (lv_at hl 1 rfl) ?_
  refine o_get (v := .ref (ad 37)) C in_Pt hP 33 cw_33 rfl 11 (by decide) k_1_171 rfl rfl d_Pt_nextBranch_50 ?_
  refine lv_aload_n hx hb d_Pt_nextBranch_53 rfl (lv_at hl 1 rfl) ?_
  refine o_get (v := .int (Pt_depth Pt)) C in_Pt hP 33 cw_33 rfl 8 (by decide) k_1_168 rfl rfl d_Pt_nextBranch_54 ?_
  refine lv_aload_n hx hb d_Pt_nextBranch_57 rfl (lv_at hl 1 rfl) ?_
  refine o_get (v := .ref (ad 25)) C in_Pt hP 33 cw_33 rfl 0 (by decide) k_1_160 rfl rfl d_Pt_nextBranch_58 ?_
  refine o_get (v := .int (Pg_length q2)) C in_Pg hP 25 cw_25 rfl 2 (by decide) k_1_122 rfl rfl d_Pt_nextBranch_61 ?_
  refine lv_iconst (v := (1:Int32)) hx hb d_Pt_nextBranch_64 (by decide) ?_
  refine lv_isub hx hb d_Pt_nextBranch_65 ?_
  obtain ⟨g3, h⟩ := o_gd_some h
  refine o_iast (f := (Pt_jumps Pt)) (w1 := (o_cw ad ca rt Sj T0 T1 Rd q2 (Pt_mk (Pt_tokens Pt) (Pt_characterCount Pt) (Pt_tokenCount Pt) (Pt_position Pt) (Pt_total Pt) (Pt_least Pt) (Pt_most Pt) (Pt_depth Pt) (Pt_blockStarts Pt) (Pt_branchStarts Pt) (upd (Pt_jumps Pt) (Pt_depth Pt).toNatClampNeg ((Pg_length q2) - (1:Int32))) (Pt_sizesBefore Pt)) Mk Lk Ck Jd Ld Pr)) C hP (hDD _ _ _ _ _ _ _ _ _ _ _ _ _) hS 37 31 cw_37 rfl g3 rfl d_Pt_nextBranch_66 (fun H locs hP hS => ?_)
  refine lv_aload_n hx hb d_Pt_nextBranch_67 rfl (lv_at hl 1 rfl) ?_
  refine o_get (v := .ref (ad 36)) C in_Pt hP 33 cw_33 rfl 10 (by decide) k_1_170 rfl rfl d_Pt_nextBranch_68 ?_
  refine lv_aload_n hx hb d_Pt_nextBranch_71 rfl (lv_at hl 1 rfl) ?_
  refine o_get (v := .int (Pt_depth Pt)) C in_Pt hP 33 cw_33 rfl 8 (by decide) k_1_168 rfl rfl d_Pt_nextBranch_72 ?_
  refine lv_aload_n hx hb d_Pt_nextBranch_75 rfl (lv_at hl 1 rfl) ?_
  refine o_get (v := .ref (ad 25)) C in_Pt hP 33 cw_33 rfl 0 (by decide) k_1_160 rfl rfl d_Pt_nextBranch_76 ?_
  refine o_get (v := .int (Pg_length q2)) C in_Pg hP 25 cw_25 rfl 2 (by decide) k_1_122 rfl rfl d_Pt_nextBranch_79 ?_
  obtain ⟨g4, h⟩ := o_gd_some h
  refine o_iast (f := (Pt_branchStarts Pt)) (w1 := (o_cw ad ca rt Sj T0 T1 Rd q2 (Pt_mk (Pt_tokens Pt) (Pt_characterCount Pt) (Pt_tokenCount Pt) (Pt_position Pt) (Pt_total Pt) (Pt_least Pt) (Pt_most Pt) (Pt_depth Pt) (Pt_blockStarts Pt) (upd (Pt_branchStarts Pt) (Pt_depth Pt).toNatClampNeg (Pg_length q2)) (upd (Pt_jumps Pt) (Pt_depth Pt).toNatClampNeg ((Pg_length q2) - (1:Int32))) (Pt_sizesBefore Pt)) Mk Lk Ck Jd Ld Pr)) C hP (hDD _ _ _ _ _ _ _ _ _ _ _ _ _) hS 36 30 cw_36 rfl g4 rfl d_Pt_nextBranch_82 (fun H locs hP hS => ?_)
  refine lv_aload_n hx hb d_Pt_nextBranch_83 rfl (lv_at hl 1 rfl) ?_
  refine lv_dup hx hb d_Pt_nextBranch_84 rfl ?_
  refine o_get (v := .int (Pt_total Pt)) C in_Pt hP 33 cw_33 rfl 5 (by decide) k_1_165 rfl rfl d_Pt_nextBranch_85 ?_
  refine lv_iconst (v := (1:Int32)) hx hb d_Pt_nextBranch_88 (by decide) ?_
  refine lv_iadd hx hb d_Pt_nextBranch_89 ?_
  refine o_put (v := .int ((Pt_total Pt) + (1:Int32))) (ty := .int) (w1 := (o_cw ad ca rt Sj T0 T1 Rd q2 (Pt_mk (Pt_tokens Pt) (Pt_characterCount Pt) (Pt_tokenCount Pt) (Pt_position Pt) ((Pt_total Pt) + (1:Int32)) (Pt_least Pt) (Pt_most Pt) (Pt_depth Pt) (Pt_blockStarts Pt) (upd (Pt_branchStarts Pt) (Pt_depth Pt).toNatClampNeg (Pg_length q2)) (upd (Pt_jumps Pt) (Pt_depth Pt).toNatClampNeg ((Pg_length q2) - (1:Int32))) (Pt_sizesBefore Pt)) Mk Lk Ck Jd Ld Pr)) C in_Pt t_Pt t_Pt_ok n_Pt hP (hDD _ _ _ _ _ _ _ _ _ _ _ _ _) hS 33 cw_33 rfl 5 (by decide) k_1_165 rfl rfl (by decide +kernel) rfl rfl (Nat.le_of_ble_eq_true rfl) rfl d_Pt_nextBranch_90 (fun H locs hP hS => ?_)
  cases h
  exact o_rv C hP hS d_Pt_nextBranch_93
set_option maxHeartbeats 4000000 in
set_option maxRecDepth 100000 in
theorem c_Pg_beginSet {E : (Nat → Prop) → State → Heap → Prop} {D : va_G} {ad kd sd vd xd : Nat → Nat} {ca : Nat → ClassId} (hE : o_EK E kd sd vd xd) (l : Launch)  (Pg : SPg) (Sj : SSJ) (T0 : STx) (T1 : STx) (Rd : SRd) (Pt : SPt) (Mk : SMk) (Lk : SLk) (Ck : SCk) (Jd : SJd) (Ld : SLd) (Pr : SPr) (rt : Nat) {r : Int32 × SPg} (h : m_Pg_beginSet Pg = some r) : o_Cn E l D o_cls (o_tys ca) y_Pg_beginSet cc_Pg_beginSet rm_Pg_beginSet [.ref (ad 25)] (o_cw ad ca rt Sj T0 T1 Rd Pg Pt Mk Lk Ck Jd Ld Pr) (o_cw ad ca rt Sj T0 T1 Rd r.2 Pt Mk Lk Ck Jd Ld Pr) (some (.int r.1)) := by
  refine o_Cn_of (by decide) (Nat.le_of_ble_eq_true rfl) ?_
  intro p e s m below meth c A ls C hD hP hS hl
  have hDD : ∀ (rt : Nat) (Sj : SSJ) (T0 : STx) (T1 : STx) (Rd : SRd) (Pg : SPg) (Pt : SPt) (Mk : SMk) (Lk : SLk) (Ck : SCk) (Jd : SJd) (Ld : SLd) (Pr : SPr), va_D A (o_cw ad ca rt Sj T0 T1 Rd Pg Pt Mk Lk Ck Jd Ld Pr) := fun _ _ _ _ _ _ _ _ _ _ _ _ _ => o_D_map hD rfl
  have hl : lv_has ls 2 [(0, .ref (ad 25))] := hl
  unfold m_Pg_beginSet at h
  have C0 := C
  obtain ⟨hx, hb, -, -, -, hown, hts, hK, -, -⟩ := C0
  refine lv_aload_n hx hb d_Pg_beginSet_0 rfl (lv_at hl 0 rfl) ?_
  refine o_get (v := .int (Pg_setsUsed Pg)) C in_Pg hP 25 cw_25 rfl 4 (by decide) k_1_124 rfl rfl d_Pg_beginSet_1 ?_
  refine lv_topi (fun x1_4 ex1_4 => ?_)
  replace h := o_nm_at ex1_4 h
  refine lv_istore_n (lv' := [(1, .int x1_4), (0, .ref (ad 25))]) hx hb d_Pg_beginSet_4 rfl hl (by decide) rfl (fun ls hl => ?_)
  refine lv_aload_n hx hb d_Pg_beginSet_5 rfl (lv_at hl 1 rfl) ?_
  refine o_get (v := .int (Pg_setsUsed Pg)) C in_Pg hP 25 cw_25 rfl 4 (by decide) k_1_124 rfl rfl d_Pg_beginSet_6 ?_
  refine lv_iconst (v := (2:Int32)) hx hb d_Pg_beginSet_9 (by decide) ?_
  refine lv_iadd hx hb d_Pg_beginSet_10 ?_
  refine lv_aload_n hx hb d_Pg_beginSet_11 rfl (lv_at hl 1 rfl) ?_
  refine o_get (v := .ref (ad 28)) C in_Pg hP 25 cw_25 rfl 3 (by decide) k_1_123 rfl rfl d_Pg_beginSet_12 ?_
  refine va_alen (v := (8000:Int32)) hx hb hK hP 28 23 cw_28 rfl rfl d_Pg_beginSet_15 ?_
  refine lv_icmp_gt (tgt := 45) hx hb d_Pg_beginSet_16 (by decide) (fun c1 => ?_) (fun c1 => ?_)
  · replace h := o_tt c1 h
    refine lv_iload_n hx hb d_Pg_beginSet_45 rfl (lv_at hl 0 rfl) ?_
    cases h
    exact o_ri C hP hS d_Pg_beginSet_46
  · replace h := o_ff c1 h
    refine lv_aload_n hx hb d_Pg_beginSet_19 rfl (lv_at hl 1 rfl) ?_
    refine o_get (v := .ref (ad 28)) C in_Pg hP 25 cw_25 rfl 3 (by decide) k_1_123 rfl rfl d_Pg_beginSet_20 ?_
    refine lv_iload_n hx hb d_Pg_beginSet_23 rfl (lv_at hl 0 rfl) ?_
    refine lv_iconst (v := (0:Int32)) hx hb d_Pg_beginSet_24 (by decide) ?_
    obtain ⟨g2, h⟩ := o_gd_some h
    refine o_iast (f := (Pg_sets Pg)) (w1 := (o_cw ad ca rt Sj T0 T1 Rd (Pg_mk (Pg_operations Pg) (Pg_arguments Pg) (Pg_length Pg) (upd (Pg_sets Pg) x1_4.toNatClampNeg (0:Int32)) (Pg_setsUsed Pg) (Pg_rounds Pg) (Pg_stack Pg) (Pg_top Pg) (Pg_waiting Pg) (Pg_waitingCount Pg) (Pg_moved Pg)) Pt Mk Lk Ck Jd Ld Pr)) C hP (hDD _ _ _ _ _ _ _ _ _ _ _ _ _) hS 28 23 cw_28 rfl g2 rfl d_Pg_beginSet_25 (fun H locs hP hS => ?_)
    refine lv_aload_n hx hb d_Pg_beginSet_26 rfl (lv_at hl 1 rfl) ?_
    refine o_get (v := .ref (ad 28)) C in_Pg hP 25 cw_25 rfl 3 (by decide) k_1_123 rfl rfl d_Pg_beginSet_27 ?_
    refine lv_iload_n hx hb d_Pg_beginSet_30 rfl (lv_at hl 0 rfl) ?_
    refine lv_iconst (v := (1:Int32)) hx hb d_Pg_beginSet_31 (by decide) ?_
    refine lv_iadd hx hb d_Pg_beginSet_32 ?_
    refine lv_iconst (v := (0:Int32)) hx hb d_Pg_beginSet_33 (by decide) ?_
    obtain ⟨g3, h⟩ := o_gd_some h
    refine o_iast (f := (upd (Pg_sets Pg) x1_4.toNatClampNeg (0:Int32))) (w1 := (o_cw ad ca rt Sj T0 T1 Rd (Pg_mk (Pg_operations Pg) (Pg_arguments Pg) (Pg_length Pg) (upd (upd (Pg_sets Pg) x1_4.toNatClampNeg (0:Int32)) (x1_4 + (1:Int32)).toNatClampNeg (0:Int32)) (Pg_setsUsed Pg) (Pg_rounds Pg) (Pg_stack Pg) (Pg_top Pg) (Pg_waiting Pg) (Pg_waitingCount Pg) (Pg_moved Pg)) Pt Mk Lk Ck Jd Ld Pr)) C hP (hDD _ _ _ _ _ _ _ _ _ _ _ _ _) hS 28 23 cw_28 rfl g3 rfl d_Pg_beginSet_34 (fun H locs hP hS => ?_)
    refine lv_aload_n hx hb d_Pg_beginSet_35 rfl (lv_at hl 1 rfl) ?_
    refine lv_dup hx hb d_Pg_beginSet_36 rfl ?_
    refine o_get (v := .int (Pg_setsUsed Pg)) C in_Pg hP 25 cw_25 rfl 4 (by decide) k_1_124 rfl rfl d_Pg_beginSet_37 ?_
    refine lv_iconst (v := (2:Int32)) hx hb d_Pg_beginSet_40 (by decide) ?_
    refine lv_iadd hx hb d_Pg_beginSet_41 ?_
    refine o_put (v := .int ((Pg_setsUsed Pg) + (2:Int32))) (ty := .int) (w1 := (o_cw ad ca rt Sj T0 T1 Rd (Pg_mk (Pg_operations Pg) (Pg_arguments Pg) (Pg_length Pg) (upd (upd (Pg_sets Pg) x1_4.toNatClampNeg (0:Int32)) (x1_4 + (1:Int32)).toNatClampNeg (0:Int32)) ((Pg_setsUsed Pg) + (2:Int32)) (Pg_rounds Pg) (Pg_stack Pg) (Pg_top Pg) (Pg_waiting Pg) (Pg_waitingCount Pg) (Pg_moved Pg)) Pt Mk Lk Ck Jd Ld Pr)) C in_Pg t_Pg t_Pg_ok n_Pg hP (hDD _ _ _ _ _ _ _ _ _ _ _ _ _) hS 25 cw_25 rfl 4 (by decide) k_1_124 rfl rfl (by decide +kernel) rfl rfl (Nat.le_of_ble_eq_true rfl) rfl d_Pg_beginSet_42 (fun H locs hP hS => ?_)
    refine lv_iload_n hx hb d_Pg_beginSet_45 rfl (lv_at hl 0 rfl) ?_
    cases h
    exact o_ri C hP hS d_Pg_beginSet_46
set_option maxHeartbeats 4000000 in
set_option maxRecDepth 100000 in
theorem c_Pg_addClass {E : (Nat → Prop) → State → Heap → Prop} {D : va_G} {ad kd sd vd xd : Nat → Nat} {ca : Nat → ClassId} (hE : o_EK E kd sd vd xd) (l : Launch) (x1 : Int32) (x2 : Int32) (Pg : SPg) (Sj : SSJ) (T0 : STx) (T1 : STx) (Rd : SRd) (Pt : SPt) (Mk : SMk) (Lk : SLk) (Ck : SCk) (Jd : SJd) (Ld : SLd) (Pr : SPr) (rt : Nat) {r : SPg} (h : m_Pg_addClass x1 x2 Pg = some r) : o_Cn E l D o_cls (o_tys ca) y_Pg_addClass cc_Pg_addClass rm_Pg_addClass [.ref (ad 25), .int x1, .int x2] (o_cw ad ca rt Sj T0 T1 Rd Pg Pt Mk Lk Ck Jd Ld Pr) (o_cw ad ca rt Sj T0 T1 Rd r Pt Mk Lk Ck Jd Ld Pr) none := by
  refine o_Cn_of (by decide) (Nat.le_of_ble_eq_true rfl) ?_
  intro p e s m below meth c A ls C hD hP hS hl
  have hDD : ∀ (rt : Nat) (Sj : SSJ) (T0 : STx) (T1 : STx) (Rd : SRd) (Pg : SPg) (Pt : SPt) (Mk : SMk) (Lk : SLk) (Ck : SCk) (Jd : SJd) (Ld : SLd) (Pr : SPr), va_D A (o_cw ad ca rt Sj T0 T1 Rd Pg Pt Mk Lk Ck Jd Ld Pr) := fun _ _ _ _ _ _ _ _ _ _ _ _ _ => o_D_map hD rfl
  have hl : lv_has ls 3 [(0, .ref (ad 25)), (1, .int x1), (2, .int x2)] := hl
  unfold m_Pg_addClass at h
  have C0 := C
  obtain ⟨hx, hb, -, -, -, hown, hts, hK, -, -⟩ := C0
  refine lv_iload_n hx hb d_Pg_addClass_0 rfl (lv_at hl 1 rfl) ?_
  refine lv_if_lt (tgt := 27) hx hb d_Pg_addClass_1 (by decide) (fun c1 => ?_) (fun c1 => ?_)
  · replace h := o_tt c1 h
    cases h
    exact o_rv C hP hS d_Pg_addClass_27
  · replace h := o_ff c1 h
    refine lv_iload_n hx hb d_Pg_addClass_4 rfl (lv_at hl 1 rfl) ?_
    refine lv_iconst (v := (1:Int32)) hx hb d_Pg_addClass_5 (by decide) ?_
    refine lv_iadd hx hb d_Pg_addClass_6 ?_
    refine lv_aload_n hx hb d_Pg_addClass_7 rfl (lv_at hl 0 rfl) ?_
    refine o_get (v := .ref (ad 28)) C in_Pg hP 25 cw_25 rfl 3 (by decide) k_1_123 rfl rfl d_Pg_addClass_8 ?_
    refine va_alen (v := (8000:Int32)) hx hb hK hP 28 23 cw_28 rfl rfl d_Pg_addClass_11 ?_
    refine lv_icmp_ge (tgt := 27) hx hb d_Pg_addClass_12 (by decide) (fun c2 => ?_) (fun c2 => ?_)
    · replace h := o_tt c2 h
      cases h
      exact o_rv C hP hS d_Pg_addClass_27
    · replace h := o_ff c2 h
      refine lv_aload_n hx hb d_Pg_addClass_15 rfl (lv_at hl 0 rfl) ?_
      refine o_get (v := .ref (ad 28)) C in_Pg hP 25 cw_25 rfl 3 (by decide) k_1_123 rfl rfl d_Pg_addClass_16 ?_
      refine lv_iload_n hx hb d_Pg_addClass_19 rfl (lv_at hl 1 rfl) ?_
      refine lv_iconst (v := (1:Int32)) hx hb d_Pg_addClass_20 (by decide) ?_
      refine lv_iadd hx hb d_Pg_addClass_21 ?_
      refine lv_dup2_11 hx hb d_Pg_addClass_22 rfl rfl ?_
      obtain ⟨g3, h⟩ := o_gd_some h
      refine o_iald (f := (Pg_sets Pg)) C hP 28 23 cw_28 rfl g3 d_Pg_addClass_23 ?_
      refine lv_iload_n hx hb d_Pg_addClass_24 rfl (lv_at hl 2 rfl) ?_
      refine lv_ior hx hb d_Pg_addClass_25 ?_
      obtain ⟨g4, h⟩ := o_gd_some h
      refine o_iast (f := (Pg_sets Pg)) (w1 := (o_cw ad ca rt Sj T0 T1 Rd (Pg_mk (Pg_operations Pg) (Pg_arguments Pg) (Pg_length Pg) (upd (Pg_sets Pg) (x1 + (1:Int32)).toNatClampNeg (((Pg_sets Pg) (x1 + (1:Int32)).toNatClampNeg) ||| x2)) (Pg_setsUsed Pg) (Pg_rounds Pg) (Pg_stack Pg) (Pg_top Pg) (Pg_waiting Pg) (Pg_waitingCount Pg) (Pg_moved Pg)) Pt Mk Lk Ck Jd Ld Pr)) C hP (hDD _ _ _ _ _ _ _ _ _ _ _ _ _) hS 28 23 cw_28 rfl g4 rfl d_Pg_addClass_26 (fun H locs hP hS => ?_)
      cases h
      exact o_rv C hP hS d_Pg_addClass_27
set_option maxHeartbeats 4000000 in
set_option maxRecDepth 100000 in
theorem c_Pg_addRange {E : (Nat → Prop) → State → Heap → Prop} {D : va_G} {ad kd sd vd xd : Nat → Nat} {ca : Nat → ClassId} (hE : o_EK E kd sd vd xd) (l : Launch) (x1 : Int32) (x2 : Int32) (x3 : Int32) (Pg : SPg) (Sj : SSJ) (T0 : STx) (T1 : STx) (Rd : SRd) (Pt : SPt) (Mk : SMk) (Lk : SLk) (Ck : SCk) (Jd : SJd) (Ld : SLd) (Pr : SPr) (rt : Nat) {r : SPg} (h : m_Pg_addRange x1 x2 x3 Pg = some r) : o_Cn E l D o_cls (o_tys ca) y_Pg_addRange cc_Pg_addRange rm_Pg_addRange [.ref (ad 25), .int x1, .int x2, .int x3] (o_cw ad ca rt Sj T0 T1 Rd Pg Pt Mk Lk Ck Jd Ld Pr) (o_cw ad ca rt Sj T0 T1 Rd r Pt Mk Lk Ck Jd Ld Pr) none := by
  refine o_Cn_of (by decide) (Nat.le_of_ble_eq_true rfl) ?_
  intro p e s m below meth c A ls C hD hP hS hl
  have hDD : ∀ (rt : Nat) (Sj : SSJ) (T0 : STx) (T1 : STx) (Rd : SRd) (Pg : SPg) (Pt : SPt) (Mk : SMk) (Lk : SLk) (Ck : SCk) (Jd : SJd) (Ld : SLd) (Pr : SPr), va_D A (o_cw ad ca rt Sj T0 T1 Rd Pg Pt Mk Lk Ck Jd Ld Pr) := fun _ _ _ _ _ _ _ _ _ _ _ _ _ => o_D_map hD rfl
  have hl : lv_has ls 4 [(0, .ref (ad 25)), (1, .int x1), (2, .int x2), (3, .int x3)] := hl
  unfold m_Pg_addRange at h
  have C0 := C
  obtain ⟨hx, hb, -, -, -, hown, hts, hK, -, -⟩ := C0
  refine lv_iload_n hx hb d_Pg_addRange_0 rfl (lv_at hl 1 rfl) ?_
  refine lv_if_lt (tgt := 69) hx hb d_Pg_addRange_1 (by decide) (fun c1 => ?_) (fun c1 => ?_)
  · replace h := o_tt c1 h
    cases h
    exact o_rv C hP hS d_Pg_addRange_69
  · replace h := o_ff c1 h
    refine lv_iload_n hx hb d_Pg_addRange_4 rfl (lv_at hl 1 rfl) ?_
    refine lv_aload_n hx hb d_Pg_addRange_5 rfl (lv_at hl 0 rfl) ?_
    refine o_get (v := .ref (ad 28)) C in_Pg hP 25 cw_25 rfl 3 (by decide) k_1_123 rfl rfl d_Pg_addRange_6 ?_
    refine va_alen (v := (8000:Int32)) hx hb hK hP 28 23 cw_28 rfl rfl d_Pg_addRange_9 ?_
    refine lv_icmp_ge (tgt := 69) hx hb d_Pg_addRange_10 (by decide) (fun c2 => ?_) (fun c2 => ?_)
    · replace h := o_tt c2 h
      cases h
      exact o_rv C hP hS d_Pg_addRange_69
    · replace h := o_ff c2 h
      refine lv_aload_n hx hb d_Pg_addRange_13 rfl (lv_at hl 0 rfl) ?_
      refine o_get (v := .int (Pg_setsUsed Pg)) C in_Pg hP 25 cw_25 rfl 4 (by decide) k_1_124 rfl rfl d_Pg_addRange_14 ?_
      refine lv_iconst (v := (2:Int32)) hx hb d_Pg_addRange_17 (by decide) ?_
      refine lv_iadd hx hb d_Pg_addRange_18 ?_
      refine lv_aload_n hx hb d_Pg_addRange_19 rfl (lv_at hl 0 rfl) ?_
      refine o_get (v := .ref (ad 28)) C in_Pg hP 25 cw_25 rfl 3 (by decide) k_1_123 rfl rfl d_Pg_addRange_20 ?_
      refine va_alen (v := (8000:Int32)) hx hb hK hP 28 23 cw_28 rfl rfl d_Pg_addRange_23 ?_
      refine lv_icmp_gt (tgt := 69) hx hb d_Pg_addRange_24 (by decide) (fun c3 => ?_) (fun c3 => ?_)
      · replace h := o_tt c3 h
        cases h
        exact o_rv C hP hS d_Pg_addRange_69
      · replace h := o_ff c3 h
        refine lv_aload_n hx hb d_Pg_addRange_27 rfl (lv_at hl 0 rfl) ?_
        refine o_get (v := .ref (ad 28)) C in_Pg hP 25 cw_25 rfl 3 (by decide) k_1_123 rfl rfl d_Pg_addRange_28 ?_
        refine lv_iload_n hx hb d_Pg_addRange_31 rfl (lv_at hl 1 rfl) ?_
        refine lv_dup2_11 hx hb d_Pg_addRange_32 rfl rfl ?_
        obtain ⟨g4, h⟩ := o_gd_some h
        refine o_iald (f := (Pg_sets Pg)) C hP 28 23 cw_28 rfl g4 d_Pg_addRange_33 ?_
        refine lv_iconst (v := (1:Int32)) hx hb d_Pg_addRange_34 (by decide) ?_
        refine lv_iadd hx hb d_Pg_addRange_35 ?_
        obtain ⟨g5, h⟩ := o_gd_some h
        refine o_iast (f := (Pg_sets Pg)) (w1 := (o_cw ad ca rt Sj T0 T1 Rd (Pg_mk (Pg_operations Pg) (Pg_arguments Pg) (Pg_length Pg) (upd (Pg_sets Pg) x1.toNatClampNeg (((Pg_sets Pg) x1.toNatClampNeg) + (1:Int32))) (Pg_setsUsed Pg) (Pg_rounds Pg) (Pg_stack Pg) (Pg_top Pg) (Pg_waiting Pg) (Pg_waitingCount Pg) (Pg_moved Pg)) Pt Mk Lk Ck Jd Ld Pr)) C hP (hDD _ _ _ _ _ _ _ _ _ _ _ _ _) hS 28 23 cw_28 rfl g5 rfl d_Pg_addRange_36 (fun H locs hP hS => ?_)
        refine lv_aload_n hx hb d_Pg_addRange_37 rfl (lv_at hl 0 rfl) ?_
        refine o_get (v := .ref (ad 28)) C in_Pg hP 25 cw_25 rfl 3 (by decide) k_1_123 rfl rfl d_Pg_addRange_38 ?_
        refine lv_aload_n hx hb d_Pg_addRange_41 rfl (lv_at hl 0 rfl) ?_
        refine o_get (v := .int (Pg_setsUsed Pg)) C in_Pg hP 25 cw_25 rfl 4 (by decide) k_1_124 rfl rfl d_Pg_addRange_42 ?_
        refine lv_iload_n hx hb d_Pg_addRange_45 rfl (lv_at hl 2 rfl) ?_
        obtain ⟨g6, h⟩ := o_gd_some h
        refine o_iast (f := (upd (Pg_sets Pg) x1.toNatClampNeg (((Pg_sets Pg) x1.toNatClampNeg) + (1:Int32)))) (w1 := (o_cw ad ca rt Sj T0 T1 Rd (Pg_mk (Pg_operations Pg) (Pg_arguments Pg) (Pg_length Pg) (upd (upd (Pg_sets Pg) x1.toNatClampNeg (((Pg_sets Pg) x1.toNatClampNeg) + (1:Int32))) (Pg_setsUsed Pg).toNatClampNeg x2) (Pg_setsUsed Pg) (Pg_rounds Pg) (Pg_stack Pg) (Pg_top Pg) (Pg_waiting Pg) (Pg_waitingCount Pg) (Pg_moved Pg)) Pt Mk Lk Ck Jd Ld Pr)) C hP (hDD _ _ _ _ _ _ _ _ _ _ _ _ _) hS 28 23 cw_28 rfl g6 rfl d_Pg_addRange_46 (fun H locs hP hS => ?_)
        refine lv_aload_n hx hb d_Pg_addRange_47 rfl (lv_at hl 0 rfl) ?_
        refine o_get (v := .ref (ad 28)) C in_Pg hP 25 cw_25 rfl 3 (by decide) k_1_123 rfl rfl d_Pg_addRange_48 ?_
        refine lv_aload_n hx hb d_Pg_addRange_51 rfl (lv_at hl 0 rfl) ?_
        refine o_get (v := .int (Pg_setsUsed Pg)) C in_Pg hP 25 cw_25 rfl 4 (by decide) k_1_124 rfl rfl d_Pg_addRange_52 ?_
        refine lv_iconst (v := (1:Int32)) hx hb d_Pg_addRange_55 (by decide) ?_
        refine lv_iadd hx hb d_Pg_addRange_56 ?_
        refine lv_iload_n hx hb d_Pg_addRange_57 rfl (lv_at hl 3 rfl) ?_
        obtain ⟨g7, h⟩ := o_gd_some h
        refine o_iast (f := (upd (upd (Pg_sets Pg) x1.toNatClampNeg (((Pg_sets Pg) x1.toNatClampNeg) + (1:Int32))) (Pg_setsUsed Pg).toNatClampNeg x2)) (w1 := (o_cw ad ca rt Sj T0 T1 Rd (Pg_mk (Pg_operations Pg) (Pg_arguments Pg) (Pg_length Pg) (upd (upd (upd (Pg_sets Pg) x1.toNatClampNeg (((Pg_sets Pg) x1.toNatClampNeg) + (1:Int32))) (Pg_setsUsed Pg).toNatClampNeg x2) ((Pg_setsUsed Pg) + (1:Int32)).toNatClampNeg x3) (Pg_setsUsed Pg) (Pg_rounds Pg) (Pg_stack Pg) (Pg_top Pg) (Pg_waiting Pg) (Pg_waitingCount Pg) (Pg_moved Pg)) Pt Mk Lk Ck Jd Ld Pr)) C hP (hDD _ _ _ _ _ _ _ _ _ _ _ _ _) hS 28 23 cw_28 rfl g7 rfl d_Pg_addRange_58 (fun H locs hP hS => ?_)
        refine lv_aload_n hx hb d_Pg_addRange_59 rfl (lv_at hl 0 rfl) ?_
        refine lv_dup hx hb d_Pg_addRange_60 rfl ?_
        refine o_get (v := .int (Pg_setsUsed Pg)) C in_Pg hP 25 cw_25 rfl 4 (by decide) k_1_124 rfl rfl d_Pg_addRange_61 ?_
        refine lv_iconst (v := (2:Int32)) hx hb d_Pg_addRange_64 (by decide) ?_
        refine lv_iadd hx hb d_Pg_addRange_65 ?_
        refine o_put (v := .int ((Pg_setsUsed Pg) + (2:Int32))) (ty := .int) (w1 := (o_cw ad ca rt Sj T0 T1 Rd (Pg_mk (Pg_operations Pg) (Pg_arguments Pg) (Pg_length Pg) (upd (upd (upd (Pg_sets Pg) x1.toNatClampNeg (((Pg_sets Pg) x1.toNatClampNeg) + (1:Int32))) (Pg_setsUsed Pg).toNatClampNeg x2) ((Pg_setsUsed Pg) + (1:Int32)).toNatClampNeg x3) ((Pg_setsUsed Pg) + (2:Int32)) (Pg_rounds Pg) (Pg_stack Pg) (Pg_top Pg) (Pg_waiting Pg) (Pg_waitingCount Pg) (Pg_moved Pg)) Pt Mk Lk Ck Jd Ld Pr)) C in_Pg t_Pg t_Pg_ok n_Pg hP (hDD _ _ _ _ _ _ _ _ _ _ _ _ _) hS 25 cw_25 rfl 4 (by decide) k_1_124 rfl rfl (by decide +kernel) rfl rfl (Nat.le_of_ble_eq_true rfl) rfl d_Pg_addRange_66 (fun H locs hP hS => ?_)
        cases h
        exact o_rv C hP hS d_Pg_addRange_69
set_option maxHeartbeats 4000000 in
set_option maxRecDepth 100000 in
theorem w_Pt_readSet_j129 {E : (Nat → Prop) → State → Heap → Prop} {p : Program} {l : Launch} {e : Env} {s : State} {m : MethodId} {args : Array Value} {below : List Frame} {meth : Method} {c : Code} {D : va_G} {ad kd sd vd xd : Nat → Nat} {ca : Nat → ClassId} {A : Nat → Prop} {Q : State → Prop} (hE : o_EK E kd sd vd xd) (C : o_Cx E p s m args meth c D o_cls (o_tys ca) "SchemaJudge$Pattern" b_Pt_readSet (some .int) 5 cc_Pt_readSet A) (hDD : ∀ (rt : Nat) (Sj : SSJ) (T0 : STx) (T1 : STx) (Rd : SRd) (Pg : SPg) (Pt : SPt) (Mk : SMk) (Lk : SLk) (Ck : SCk) (Jd : SJd) (Ld : SLd) (Pr : SPr), va_D A (o_cw ad ca rt Sj T0 T1 Rd Pg Pt Mk Lk Ck Jd Ld Pr)) (n : Nat) (u40_x1 : Int32) (u40_Sj : SSJ) (u40_T0 : STx) (u40_T1 : STx) (u40_Rd : SRd) (u40_Mk : SMk) (u40_Lk : SLk) (u40_Ck : SCk) (u40_Jd : SJd) (u40_Ld : SLd) (u40_Pr : SPr) (u40_rt : Nat) (x2 : Int32) (x3 : Int32) (x4 : Int32) (Pg : SPg) (Pt : SPt) {q : Nat × Int32 × SPg × SPt} (h : m_Pt_readSet_j129 n u40_x1 x2 x3 x4 Pg Pt = some q) (h0 : q.1 = 0 → o_At p l e rm_Pt_readSet s m args below meth c Q o_cls D A 5 40 [] (o_cw ad ca u40_rt u40_Sj u40_T0 u40_T1 u40_Rd q.2.2.1 q.2.2.2 u40_Mk u40_Lk u40_Ck u40_Jd u40_Ld u40_Pr) [(0, .ref (ad 33)), (1, .int u40_x1), (2, .int q.2.1)]) (h1 : q.1 ≠ 0 → (if q.1 = 1 then o_At p l e rm_Pt_readSet s m args below meth c Q o_cls D A 5 70 [] (o_cw ad ca u40_rt u40_Sj u40_T0 u40_T1 u40_Rd q.2.2.1 q.2.2.2 u40_Mk u40_Lk u40_Ck u40_Jd u40_Ld u40_Pr) [(1, .int u40_x1)] else if q.1 = 2 then o_At p l e rm_Pt_readSet s m args below meth c Q o_cls D A 5 127 [] (o_cw ad ca u40_rt u40_Sj u40_T0 u40_T1 u40_Rd q.2.2.1 q.2.2.2 u40_Mk u40_Lk u40_Ck u40_Jd u40_Ld u40_Pr) [] else if q.1 = 3 then o_At p l e rm_Pt_readSet s m args below meth c Q o_cls D A 5 150 [] (o_cw ad ca u40_rt u40_Sj u40_T0 u40_T1 u40_Rd q.2.2.1 q.2.2.2 u40_Mk u40_Lk u40_Ck u40_Jd u40_Ld u40_Pr) [] else o_At p l e rm_Pt_readSet s m args below meth c Q o_cls D A 5 197 [] (o_cw ad ca u40_rt u40_Sj u40_T0 u40_T1 u40_Rd q.2.2.1 q.2.2.2 u40_Mk u40_Lk u40_Ck u40_Jd u40_Ld u40_Pr) [])) : o_At p l e rm_Pt_readSet s m args below meth c Q o_cls D A 5 129 [] (o_cw ad ca u40_rt u40_Sj u40_T0 u40_T1 u40_Rd Pg Pt u40_Mk u40_Lk u40_Ck u40_Jd u40_Ld u40_Pr) [(0, .ref (ad 33)), (1, .int u40_x1), (2, .int x2), (3, .int x3), (4, .int x4)] := by
  unfold m_Pt_readSet_j129 at h
  intro H locs ls hP hS hl
  have C0 := C
  obtain ⟨hx, hb, -, -, -, hown, hts, hK, -, -⟩ := C0
  refine lv_iload_n hx hb d_Pt_readSet_129 rfl (lv_at hl 3 rfl) ?_
  refine lv_if_lt (tgt := 150) hx hb d_Pt_readSet_130 (by decide) (fun c5 => ?_) (fun c5 => ?_)
  · replace h := o_tt c5 h
    cases h
    exact h1 (Nat.succ_ne_zero 2) _ _ _ hP hS (lv_sub hl [] rfl)
  · replace h := o_ff c5 h
    refine lv_iload hx hb d_Pt_readSet_133 (lv_at hl 4 rfl) ?_
    refine lv_if_lt (tgt := 150) hx hb d_Pt_readSet_135 (by decide) (fun c6 => ?_) (fun c6 => ?_)
    · replace h := o_tt c6 h
      cases h
      exact h1 (Nat.succ_ne_zero 2) _ _ _ hP hS (lv_sub hl [] rfl)
    · replace h := o_ff c6 h
      refine lv_iload_n hx hb d_Pt_readSet_138 rfl (lv_at hl 3 rfl) ?_
      refine lv_ldc (v := (2097151:Int32)) hx hb hown (hts _ k_5_23) d_Pt_readSet_139 ?_
      refine lv_iand hx hb d_Pt_readSet_141 ?_
      refine lv_iload hx hb d_Pt_readSet_142 (lv_at hl 4 rfl) ?_
      refine lv_ldc (v := (2097151:Int32)) hx hb hown (hts _ k_5_23) d_Pt_readSet_144 ?_
      refine lv_iand hx hb d_Pt_readSet_146 ?_
      refine lv_icmp_le (tgt := 152) hx hb d_Pt_readSet_147 (by decide) (fun c7 => ?_) (fun c7 => ?_)
      · replace h := o_tt c7 h
        refine lv_iload_n hx hb d_Pt_readSet_152 rfl (lv_at hl 3 rfl) ?_
        refine lv_ldc (v := (4194304:Int32)) hx hb hown (hts _ k_4_199) d_Pt_readSet_153 ?_
        refine lv_iand hx hb d_Pt_readSet_155 ?_
        refine lv_if_eq (tgt := 174) hx hb d_Pt_readSet_156 (by decide) (fun c8 => ?_) (fun c8 => ?_)
        · replace h := o_tt c8 h
          refine lv_aload_n hx hb d_Pt_readSet_174 rfl (lv_at hl 0 rfl) ?_
          refine o_get (v := .ref (ad 25)) C in_Pt hP 33 cw_33 rfl 0 (by decide) k_1_160 rfl rfl d_Pt_readSet_175 ?_
          refine lv_iload_n hx hb d_Pt_readSet_178 rfl (lv_at hl 1 rfl) ?_
          refine lv_iload_n hx hb d_Pt_readSet_179 rfl (lv_at hl 3 rfl) ?_
          refine lv_ldc (v := (2097151:Int32)) hx hb hown (hts _ k_5_23) d_Pt_readSet_180 ?_
          refine lv_iand hx hb d_Pt_readSet_182 ?_
          refine lv_iload hx hb d_Pt_readSet_183 (lv_at hl 4 rfl) ?_
          refine lv_ldc (v := (2097151:Int32)) hx hb hown (hts _ k_5_23) d_Pt_readSet_185 ?_
          refine lv_iand hx hb d_Pt_readSet_187 ?_
          obtain ⟨q5, hq5, h⟩ := o_bd_some h
          refine o_V (st1 := []) (w1 := (o_cw ad ca u40_rt u40_Sj u40_T0 u40_T1 u40_Rd q5 Pt u40_Mk u40_Lk u40_Ck u40_Jd u40_Ld u40_Pr)) hE.1 C (c_Pg_addRange hE l u40_x1 (x3 &&& (2097151:Int32)) (x4 &&& (2097151:Int32)) Pg u40_Sj u40_T0 u40_T1 u40_Rd Pt u40_Mk u40_Lk u40_Ck u40_Jd u40_Ld u40_Pr u40_rt hq5) hP (hDD _ _ _ _ _ _ _ _ _ _ _ _ _) hS hl.1 rfl cw_25 k_5_25 k_5_26 k_5_27 k_1_4 k_5_28 hv_Pg_addRange rfl rfl ⟨(Nat.le_of_ble_eq_true rfl), (Nat.le_of_ble_eq_true rfl)⟩ rfl (Nat.le_of_ble_eq_true rfl) ⟨Nat.zero_le _, Nat.zero_le _⟩ rfl d_Pt_readSet_188 (fun H locs hP hS => ?_)
          obtain ⟨x2_191, ex2_191⟩ : ∃ y : Int32, y = x2 + (1:Int32) := ⟨_, rfl⟩
          replace h := o_nm_at ex2_191 h
          refine lv_iinc (v := x2_191) (lv' := [(2, .int x2_191), (0, .ref (ad 33)), (1, .int u40_x1), (3, .int x3), (4, .int x4)]) hx hb d_Pt_readSet_191 hl (k := 2) rfl (by rw [ex2_191]; rfl) (by decide) rfl (fun ls hl => ?_)
          refine lv_goto (tgt := 40) hx hb d_Pt_readSet_194 (by decide) ?_
          cases h
          exact h0 rfl _ _ _ hP hS (lv_sub hl [1, 2, 0] rfl)
        · replace h := o_ff c8 h
          refine lv_aload_n hx hb d_Pt_readSet_159 rfl (lv_at hl 0 rfl) ?_
          refine o_get (v := .ref (ad 25)) C in_Pt hP 33 cw_33 rfl 0 (by decide) k_1_160 rfl rfl d_Pt_readSet_160 ?_
          refine lv_iload_n hx hb d_Pt_readSet_163 rfl (lv_at hl 1 rfl) ?_
          refine lv_iload_n hx hb d_Pt_readSet_164 rfl (lv_at hl 3 rfl) ?_
          refine lv_ldc (v := (-4194305:Int32)) hx hb hown (hts _ k_5_24) d_Pt_readSet_165 ?_
          refine lv_iand hx hb d_Pt_readSet_167 ?_
          obtain ⟨q6, hq6, h⟩ := o_bd_some h
          refine o_V (st1 := []) (w1 := (o_cw ad ca u40_rt u40_Sj u40_T0 u40_T1 u40_Rd q6 Pt u40_Mk u40_Lk u40_Ck u40_Jd u40_Ld u40_Pr)) hE.1 C (c_Pg_addClass hE l u40_x1 (x3 &&& (-4194305:Int32)) Pg u40_Sj u40_T0 u40_T1 u40_Rd Pt u40_Mk u40_Lk u40_Ck u40_Jd u40_Ld u40_Pr u40_rt hq6) hP (hDD _ _ _ _ _ _ _ _ _ _ _ _ _) hS hl.1 rfl cw_25 k_5_19 k_5_20 k_5_21 k_1_4 k_5_22 hv_Pg_addClass rfl rfl ⟨(Nat.le_of_ble_eq_true rfl), (Nat.le_of_ble_eq_true rfl)⟩ rfl (Nat.le_of_ble_eq_true rfl) ⟨Nat.zero_le _, Nat.zero_le _⟩ rfl d_Pt_readSet_168 (fun H locs hP hS => ?_)
          refine lv_goto (tgt := 191) hx hb d_Pt_readSet_171 (by decide) ?_
          obtain ⟨x2_191, ex2_191⟩ : ∃ y : Int32, y = x2 + (1:Int32) := ⟨_, rfl⟩
          replace h := o_nm_at ex2_191 h
          refine lv_iinc (v := x2_191) (lv' := [(2, .int x2_191), (0, .ref (ad 33)), (1, .int u40_x1), (3, .int x3), (4, .int x4)]) hx hb d_Pt_readSet_191 hl (k := 2) rfl (by rw [ex2_191]; rfl) (by decide) rfl (fun ls hl => ?_)
          refine lv_goto (tgt := 40) hx hb d_Pt_readSet_194 (by decide) ?_
          cases h
          exact h0 rfl _ _ _ hP hS (lv_sub hl [1, 2, 0] rfl)
      · replace h := o_ff c7 h
        cases h
        exact h1 (Nat.succ_ne_zero 2) _ _ _ hP hS (lv_sub hl [] rfl)
set_option maxHeartbeats 4000000 in
set_option maxRecDepth 100000 in
theorem w_Pt_readSet_b40 {E : (Nat → Prop) → State → Heap → Prop} {p : Program} {l : Launch} {e : Env} {s : State} {m : MethodId} {args : Array Value} {below : List Frame} {meth : Method} {c : Code} {D : va_G} {ad kd sd vd xd : Nat → Nat} {ca : Nat → ClassId} {A : Nat → Prop} {Q : State → Prop} (hE : o_EK E kd sd vd xd) (C : o_Cx E p s m args meth c D o_cls (o_tys ca) "SchemaJudge$Pattern" b_Pt_readSet (some .int) 5 cc_Pt_readSet A) (hDD : ∀ (rt : Nat) (Sj : SSJ) (T0 : STx) (T1 : STx) (Rd : SRd) (Pg : SPg) (Pt : SPt) (Mk : SMk) (Lk : SLk) (Ck : SCk) (Jd : SJd) (Ld : SLd) (Pr : SPr), va_D A (o_cw ad ca rt Sj T0 T1 Rd Pg Pt Mk Lk Ck Jd Ld Pr)) (n : Nat) (u40_x1 : Int32) (u40_Sj : SSJ) (u40_T0 : STx) (u40_T1 : STx) (u40_Rd : SRd) (u40_Mk : SMk) (u40_Lk : SLk) (u40_Ck : SCk) (u40_Jd : SJd) (u40_Ld : SLd) (u40_Pr : SPr) (u40_rt : Nat) (z : Int32 × SPg × SPt) (q : Nat × Int32 × SPg × SPt) (h : m_Pt_readSet_b40 n u40_x1 z = some q) (h0 : q.1 = 0 → o_At p l e rm_Pt_readSet s m args below meth c Q o_cls D A 5 40 [] (o_cw ad ca u40_rt u40_Sj u40_T0 u40_T1 u40_Rd q.2.2.1 q.2.2.2 u40_Mk u40_Lk u40_Ck u40_Jd u40_Ld u40_Pr) [(0, .ref (ad 33)), (1, .int u40_x1), (2, .int q.2.1)]) (h1 : q.1 ≠ 0 → (if q.1 = 1 then o_At p l e rm_Pt_readSet s m args below meth c Q o_cls D A 5 70 [] (o_cw ad ca u40_rt u40_Sj u40_T0 u40_T1 u40_Rd q.2.2.1 q.2.2.2 u40_Mk u40_Lk u40_Ck u40_Jd u40_Ld u40_Pr) [(1, .int u40_x1)] else if q.1 = 2 then o_At p l e rm_Pt_readSet s m args below meth c Q o_cls D A 5 127 [] (o_cw ad ca u40_rt u40_Sj u40_T0 u40_T1 u40_Rd q.2.2.1 q.2.2.2 u40_Mk u40_Lk u40_Ck u40_Jd u40_Ld u40_Pr) [] else if q.1 = 3 then o_At p l e rm_Pt_readSet s m args below meth c Q o_cls D A 5 150 [] (o_cw ad ca u40_rt u40_Sj u40_T0 u40_T1 u40_Rd q.2.2.1 q.2.2.2 u40_Mk u40_Lk u40_Ck u40_Jd u40_Ld u40_Pr) [] else o_At p l e rm_Pt_readSet s m args below meth c Q o_cls D A 5 197 [] (o_cw ad ca u40_rt u40_Sj u40_T0 u40_T1 u40_Rd q.2.2.1 q.2.2.2 u40_Mk u40_Lk u40_Ck u40_Jd u40_Ld u40_Pr) [])) : o_At p l e rm_Pt_readSet s m args below meth c Q o_cls D A 5 40 [] (o_cw ad ca u40_rt u40_Sj u40_T0 u40_T1 u40_Rd z.2.1 z.2.2 u40_Mk u40_Lk u40_Ck u40_Jd u40_Ld u40_Pr) [(0, .ref (ad 33)), (1, .int u40_x1), (2, .int z.1)] := by
  unfold m_Pt_readSet_b40 at h
  intro H locs ls hP hS hl
  have C0 := C
  obtain ⟨hx, hb, -, -, -, hown, hts, hK, -, -⟩ := C0
  refine lv_iload_n hx hb d_Pt_readSet_40 rfl (lv_at hl 2 rfl) ?_
  refine lv_aload_n hx hb d_Pt_readSet_41 rfl (lv_at hl 0 rfl) ?_
  refine o_get (v := .int (Pt_tokenCount z.2.2)) C in_Pt hP 33 cw_33 rfl 3 (by decide) k_1_163 rfl rfl d_Pt_readSet_42 ?_
  refine lv_icmp_ge (tgt := 197) hx hb d_Pt_readSet_45 (by decide) (fun c2 => ?_) (fun c2 => ?_)
  · replace h := o_tt c2 h
    cases h
    exact h1 (Nat.succ_ne_zero 3) _ _ _ hP hS (lv_sub hl [] rfl)
  · replace h := o_ff c2 h
    refine lv_aload_n hx hb d_Pt_readSet_48 rfl (lv_at hl 0 rfl) ?_
    refine lv_iconst (v := (0:Int32)) hx hb d_Pt_readSet_49 (by decide) ?_
    obtain ⟨q3, hq3, h⟩ := o_bd_some h
    refine o_V (st1 := [.int q3]) (w1 := (o_cw ad ca u40_rt u40_Sj u40_T0 u40_T1 u40_Rd z.2.1 z.2.2 u40_Mk u40_Lk u40_Ck u40_Jd u40_Ld u40_Pr)) hE.1 C (c_Pt_peek hE l (0:Int32) z.2.2 u40_Sj u40_T0 u40_T1 u40_Rd z.2.1 u40_Mk u40_Lk u40_Ck u40_Jd u40_Ld u40_Pr u40_rt hq3) hP (hDD _ _ _ _ _ _ _ _ _ _ _ _ _) hS hl.1 rfl cw_33 k_4_214 k_4_216 k_s_28 k_1_5 k_4_217 hv_Pt_peek rfl rfl ⟨(Nat.le_of_ble_eq_true rfl), (Nat.le_of_ble_eq_true rfl)⟩ rfl (Nat.le_of_ble_eq_true rfl) ⟨Nat.zero_le _, Nat.zero_le _⟩ rfl d_Pt_readSet_50 (fun H locs hP hS => ?_)
    refine lv_istore_n (lv' := [(3, .int q3), (0, .ref (ad 33)), (1, .int u40_x1), (2, .int z.1)]) hx hb d_Pt_readSet_53 rfl hl (by decide) rfl (fun ls hl => ?_)
    refine lv_aload_n hx hb d_Pt_readSet_54 rfl (lv_at hl 1 rfl) ?_
    refine lv_dup hx hb d_Pt_readSet_55 rfl ?_
    refine o_get (v := .int (Pt_position z.2.2)) C in_Pt hP 33 cw_33 rfl 4 (by decide) k_1_164 rfl rfl d_Pt_readSet_56 ?_
    refine lv_iconst (v := (1:Int32)) hx hb d_Pt_readSet_59 (by decide) ?_
    refine lv_iadd hx hb d_Pt_readSet_60 ?_
    refine o_put (v := .int ((Pt_position z.2.2) + (1:Int32))) (ty := .int) (w1 := (o_cw ad ca u40_rt u40_Sj u40_T0 u40_T1 u40_Rd z.2.1 (Pt_mk (Pt_tokens z.2.2) (Pt_characterCount z.2.2) (Pt_tokenCount z.2.2) ((Pt_position z.2.2) + (1:Int32)) (Pt_total z.2.2) (Pt_least z.2.2) (Pt_most z.2.2) (Pt_depth z.2.2) (Pt_blockStarts z.2.2) (Pt_branchStarts z.2.2) (Pt_jumps z.2.2) (Pt_sizesBefore z.2.2)) u40_Mk u40_Lk u40_Ck u40_Jd u40_Ld u40_Pr)) C in_Pt t_Pt t_Pt_ok n_Pt hP (hDD _ _ _ _ _ _ _ _ _ _ _ _ _) hS 33 cw_33 rfl 4 (by decide) k_1_164 rfl rfl (by decide +kernel) rfl rfl (Nat.le_of_ble_eq_true rfl) rfl d_Pt_readSet_61 (fun H locs hP hS => ?_)
    refine lv_iload_n hx hb d_Pt_readSet_64 rfl (lv_at hl 0 rfl) ?_
    refine lv_bipush (v := (-93:Int32)) hx hb d_Pt_readSet_65 (by decide) ?_
    refine lv_icmp_ne (tgt := 72) hx hb d_Pt_readSet_67 (by decide) (fun c3 => ?_) (fun c3 => ?_)
    · replace h := o_ff c3 h
      refine lv_iload_n hx hb d_Pt_readSet_72 rfl (lv_at hl 0 rfl) ?_
      refine lv_istore (lv' := [(4, .int q3), (3, .int q3), (0, .ref (ad 33)), (1, .int u40_x1), (2, .int z.1)]) hx hb d_Pt_readSet_73 hl (by decide) rfl (fun ls hl => ?_)
      refine lv_aload_n hx hb d_Pt_readSet_75 rfl (lv_at hl 2 rfl) ?_
      refine lv_iconst (v := (0:Int32)) hx hb d_Pt_readSet_76 (by decide) ?_
      obtain ⟨q4, hq4, h⟩ := o_bd_some h
      refine o_V (st1 := [.int q4]) (w1 := (o_cw ad ca u40_rt u40_Sj u40_T0 u40_T1 u40_Rd z.2.1 (Pt_mk (Pt_tokens z.2.2) (Pt_characterCount z.2.2) (Pt_tokenCount z.2.2) ((Pt_position z.2.2) + (1:Int32)) (Pt_total z.2.2) (Pt_least z.2.2) (Pt_most z.2.2) (Pt_depth z.2.2) (Pt_blockStarts z.2.2) (Pt_branchStarts z.2.2) (Pt_jumps z.2.2) (Pt_sizesBefore z.2.2)) u40_Mk u40_Lk u40_Ck u40_Jd u40_Ld u40_Pr)) hE.1 C (c_Pt_peek hE l (0:Int32) (Pt_mk (Pt_tokens z.2.2) (Pt_characterCount z.2.2) (Pt_tokenCount z.2.2) ((Pt_position z.2.2) + (1:Int32)) (Pt_total z.2.2) (Pt_least z.2.2) (Pt_most z.2.2) (Pt_depth z.2.2) (Pt_blockStarts z.2.2) (Pt_branchStarts z.2.2) (Pt_jumps z.2.2) (Pt_sizesBefore z.2.2)) u40_Sj u40_T0 u40_T1 u40_Rd z.2.1 u40_Mk u40_Lk u40_Ck u40_Jd u40_Ld u40_Pr u40_rt hq4) hP (hDD _ _ _ _ _ _ _ _ _ _ _ _ _) hS hl.1 rfl cw_33 k_4_214 k_4_216 k_s_28 k_1_5 k_4_217 hv_Pt_peek rfl rfl ⟨(Nat.le_of_ble_eq_true rfl), (Nat.le_of_ble_eq_true rfl)⟩ rfl (Nat.le_of_ble_eq_true rfl) ⟨Nat.zero_le _, Nat.zero_le _⟩ rfl d_Pt_readSet_77 (fun H locs hP hS => ?_)
      refine lv_bipush (v := (45:Int32)) hx hb d_Pt_readSet_80 (by decide) ?_
      refine lv_icmp_ne (tgt := 129) hx hb d_Pt_readSet_82 (by decide) (fun c4 => ?_) (fun c4 => ?_)
      · replace h := o_ff c4 h
        exact w_Pt_readSet_j129 hE C hDD n u40_x1 u40_Sj u40_T0 u40_T1 u40_Rd u40_Mk u40_Lk u40_Ck u40_Jd u40_Ld u40_Pr u40_rt z.1 q3 q3 z.2.1 (Pt_mk (Pt_tokens z.2.2) (Pt_characterCount z.2.2) (Pt_tokenCount z.2.2) ((Pt_position z.2.2) + (1:Int32)) (Pt_total z.2.2) (Pt_least z.2.2) (Pt_most z.2.2) (Pt_depth z.2.2) (Pt_blockStarts z.2.2) (Pt_branchStarts z.2.2) (Pt_jumps z.2.2) (Pt_sizesBefore z.2.2)) h h0 h1 _ _ _ hP hS (lv_sub hl [2, 3, 4, 1, 0] rfl)
      · replace h := o_tt c4 h
        refine lv_aload_n hx hb d_Pt_readSet_85 rfl (lv_at hl 2 rfl) ?_
        refine lv_iconst (v := (1:Int32)) hx hb d_Pt_readSet_86 (by decide) ?_
        obtain ⟨q7, hq7, h⟩ := o_bd_some h
        refine o_V (st1 := [.int q7]) (w1 := (o_cw ad ca u40_rt u40_Sj u40_T0 u40_T1 u40_Rd z.2.1 (Pt_mk (Pt_tokens z.2.2) (Pt_characterCount z.2.2) (Pt_tokenCount z.2.2) ((Pt_position z.2.2) + (1:Int32)) (Pt_total z.2.2) (Pt_least z.2.2) (Pt_most z.2.2) (Pt_depth z.2.2) (Pt_blockStarts z.2.2) (Pt_branchStarts z.2.2) (Pt_jumps z.2.2) (Pt_sizesBefore z.2.2)) u40_Mk u40_Lk u40_Ck u40_Jd u40_Ld u40_Pr)) hE.1 C (c_Pt_peek hE l (1:Int32) (Pt_mk (Pt_tokens z.2.2) (Pt_characterCount z.2.2) (Pt_tokenCount z.2.2) ((Pt_position z.2.2) + (1:Int32)) (Pt_total z.2.2) (Pt_least z.2.2) (Pt_most z.2.2) (Pt_depth z.2.2) (Pt_blockStarts z.2.2) (Pt_branchStarts z.2.2) (Pt_jumps z.2.2) (Pt_sizesBefore z.2.2)) u40_Sj u40_T0 u40_T1 u40_Rd z.2.1 u40_Mk u40_Lk u40_Ck u40_Jd u40_Ld u40_Pr u40_rt hq7) hP (hDD _ _ _ _ _ _ _ _ _ _ _ _ _) hS hl.1 rfl cw_33 k_4_214 k_4_216 k_s_28 k_1_5 k_4_217 hv_Pt_peek rfl rfl ⟨(Nat.le_of_ble_eq_true rfl), (Nat.le_of_ble_eq_true rfl)⟩ rfl (Nat.le_of_ble_eq_true rfl) ⟨Nat.zero_le _, Nat.zero_le _⟩ rfl d_Pt_readSet_87 (fun H locs hP hS => ?_)
        refine lv_bipush (v := (-93:Int32)) hx hb d_Pt_readSet_90 (by decide) ?_
        refine lv_icmp_eq (tgt := 129) hx hb d_Pt_readSet_92 (by decide) (fun c9 => ?_) (fun c9 => ?_)
        · replace h := o_tt c9 h
          exact w_Pt_readSet_j129 hE C hDD n u40_x1 u40_Sj u40_T0 u40_T1 u40_Rd u40_Mk u40_Lk u40_Ck u40_Jd u40_Ld u40_Pr u40_rt z.1 q3 q3 z.2.1 (Pt_mk (Pt_tokens z.2.2) (Pt_characterCount z.2.2) (Pt_tokenCount z.2.2) ((Pt_position z.2.2) + (1:Int32)) (Pt_total z.2.2) (Pt_least z.2.2) (Pt_most z.2.2) (Pt_depth z.2.2) (Pt_blockStarts z.2.2) (Pt_branchStarts z.2.2) (Pt_jumps z.2.2) (Pt_sizesBefore z.2.2)) h h0 h1 _ _ _ hP hS (lv_sub hl [2, 3, 4, 1, 0] rfl)
        · replace h := o_ff c9 h
          refine lv_aload_n hx hb d_Pt_readSet_95 rfl (lv_at hl 2 rfl) ?_
          refine lv_iconst (v := (1:Int32)) hx hb d_Pt_readSet_96 (by decide) ?_
          obtain ⟨q8, hq8, h⟩ := o_bd_some h
          refine o_V (st1 := [.int q8]) (w1 := (o_cw ad ca u40_rt u40_Sj u40_T0 u40_T1 u40_Rd z.2.1 (Pt_mk (Pt_tokens z.2.2) (Pt_characterCount z.2.2) (Pt_tokenCount z.2.2) ((Pt_position z.2.2) + (1:Int32)) (Pt_total z.2.2) (Pt_least z.2.2) (Pt_most z.2.2) (Pt_depth z.2.2) (Pt_blockStarts z.2.2) (Pt_branchStarts z.2.2) (Pt_jumps z.2.2) (Pt_sizesBefore z.2.2)) u40_Mk u40_Lk u40_Ck u40_Jd u40_Ld u40_Pr)) hE.1 C (c_Pt_peek hE l (1:Int32) (Pt_mk (Pt_tokens z.2.2) (Pt_characterCount z.2.2) (Pt_tokenCount z.2.2) ((Pt_position z.2.2) + (1:Int32)) (Pt_total z.2.2) (Pt_least z.2.2) (Pt_most z.2.2) (Pt_depth z.2.2) (Pt_blockStarts z.2.2) (Pt_branchStarts z.2.2) (Pt_jumps z.2.2) (Pt_sizesBefore z.2.2)) u40_Sj u40_T0 u40_T1 u40_Rd z.2.1 u40_Mk u40_Lk u40_Ck u40_Jd u40_Ld u40_Pr u40_rt hq8) hP (hDD _ _ _ _ _ _ _ _ _ _ _ _ _) hS hl.1 rfl cw_33 k_4_214 k_4_216 k_s_28 k_1_5 k_4_217 hv_Pt_peek rfl rfl ⟨(Nat.le_of_ble_eq_true rfl), (Nat.le_of_ble_eq_true rfl)⟩ rfl (Nat.le_of_ble_eq_true rfl) ⟨Nat.zero_le _, Nat.zero_le _⟩ rfl d_Pt_readSet_97 (fun H locs hP hS => ?_)
          refine lv_istore (lv' := [(4, .int q8), (3, .int q3), (0, .ref (ad 33)), (1, .int u40_x1), (2, .int z.1)]) hx hb d_Pt_readSet_100 hl (by decide) rfl (fun ls hl => ?_)
          refine lv_aload_n hx hb d_Pt_readSet_102 rfl (lv_at hl 2 rfl) ?_
          refine lv_dup hx hb d_Pt_readSet_103 rfl ?_
          refine o_get (v := .int ((Pt_position z.2.2) + (1:Int32))) C in_Pt hP 33 cw_33 rfl 4 (by decide) k_1_164 rfl rfl d_Pt_readSet_104 ?_
          refine lv_iconst (v := (2:Int32)) hx hb d_Pt_readSet_107 (by decide) ?_
          refine lv_iadd hx hb d_Pt_readSet_108 ?_
          refine o_put (v := .int (((Pt_position z.2.2) + (1:Int32)) + (2:Int32))) (ty := .int) (w1 := (o_cw ad ca u40_rt u40_Sj u40_T0 u40_T1 u40_Rd z.2.1 (Pt_mk (Pt_tokens z.2.2) (Pt_characterCount z.2.2) (Pt_tokenCount z.2.2) (((Pt_position z.2.2) + (1:Int32)) + (2:Int32)) (Pt_total z.2.2) (Pt_least z.2.2) (Pt_most z.2.2) (Pt_depth z.2.2) (Pt_blockStarts z.2.2) (Pt_branchStarts z.2.2) (Pt_jumps z.2.2) (Pt_sizesBefore z.2.2)) u40_Mk u40_Lk u40_Ck u40_Jd u40_Ld u40_Pr)) C in_Pt t_Pt t_Pt_ok n_Pt hP (hDD _ _ _ _ _ _ _ _ _ _ _ _ _) hS 33 cw_33 rfl 4 (by decide) k_1_164 rfl rfl (by decide +kernel) rfl rfl (Nat.le_of_ble_eq_true rfl) rfl d_Pt_readSet_109 (fun H locs hP hS => ?_)
          refine lv_iload_n hx hb d_Pt_readSet_112 rfl (lv_at hl 1 rfl) ?_
          refine lv_ldc (v := (4194304:Int32)) hx hb hown (hts _ k_4_199) d_Pt_readSet_113 ?_
          refine lv_iand hx hb d_Pt_readSet_115 ?_
          refine lv_if_ne (tgt := 127) hx hb d_Pt_readSet_116 (by decide) (fun c10 => ?_) (fun c10 => ?_)
          · replace h := o_ff c10 h
            cases h
            exact h1 (Nat.succ_ne_zero 1) _ _ _ hP hS (lv_sub hl [] rfl)
          · replace h := o_tt c10 h
            refine lv_iload hx hb d_Pt_readSet_119 (lv_at hl 0 rfl) ?_
            refine lv_ldc (v := (4194304:Int32)) hx hb hown (hts _ k_4_199) d_Pt_readSet_121 ?_
            refine lv_iand hx hb d_Pt_readSet_123 ?_
            refine lv_if_eq (tgt := 129) hx hb d_Pt_readSet_124 (by decide) (fun c11 => ?_) (fun c11 => ?_)
            · replace h := o_tt c11 h
              exact w_Pt_readSet_j129 hE C hDD n u40_x1 u40_Sj u40_T0 u40_T1 u40_Rd u40_Mk u40_Lk u40_Ck u40_Jd u40_Ld u40_Pr u40_rt z.1 q3 q8 z.2.1 (Pt_mk (Pt_tokens z.2.2) (Pt_characterCount z.2.2) (Pt_tokenCount z.2.2) (((Pt_position z.2.2) + (1:Int32)) + (2:Int32)) (Pt_total z.2.2) (Pt_least z.2.2) (Pt_most z.2.2) (Pt_depth z.2.2) (Pt_blockStarts z.2.2) (Pt_branchStarts z.2.2) (Pt_jumps z.2.2) (Pt_sizesBefore z.2.2)) h h0 h1 _ _ _ hP hS (lv_sub hl [2, 3, 4, 1, 0] rfl)
            · replace h := o_ff c11 h
              cases h
              exact h1 (Nat.succ_ne_zero 1) _ _ _ hP hS (lv_sub hl [] rfl)
    · replace h := o_tt c3 h
      cases h
      exact h1 (Nat.succ_ne_zero 0) _ _ _ hP hS (lv_sub hl [2] rfl)
set_option maxHeartbeats 4000000 in
set_option maxRecDepth 100000 in
theorem c_Pt_readSet {E : (Nat → Prop) → State → Heap → Prop} {D : va_G} {ad kd sd vd xd : Nat → Nat} {ca : Nat → ClassId} (hE : o_EK E kd sd vd xd) (l : Launch) (n : Nat)  (Pg : SPg) (Pt : SPt) (Sj : SSJ) (T0 : STx) (T1 : STx) (Rd : SRd) (Mk : SMk) (Lk : SLk) (Ck : SCk) (Jd : SJd) (Ld : SLd) (Pr : SPr) (rt : Nat) {r : Int32 × SPg × SPt} (h : m_Pt_readSet n Pg Pt = some r) : o_Cn E l D o_cls (o_tys ca) y_Pt_readSet cc_Pt_readSet rm_Pt_readSet [.ref (ad 33)] (o_cw ad ca rt Sj T0 T1 Rd Pg Pt Mk Lk Ck Jd Ld Pr) (o_cw ad ca rt Sj T0 T1 Rd r.2.1 r.2.2 Mk Lk Ck Jd Ld Pr) (some (.int r.1)) := by
  refine o_Cn_of (by decide) (Nat.le_of_ble_eq_true rfl) ?_
  intro p e s m below meth c A ls C hD hP hS hl
  have hDD : ∀ (rt : Nat) (Sj : SSJ) (T0 : STx) (T1 : STx) (Rd : SRd) (Pg : SPg) (Pt : SPt) (Mk : SMk) (Lk : SLk) (Ck : SCk) (Jd : SJd) (Ld : SLd) (Pr : SPr), va_D A (o_cw ad ca rt Sj T0 T1 Rd Pg Pt Mk Lk Ck Jd Ld Pr) := fun _ _ _ _ _ _ _ _ _ _ _ _ _ => o_D_map hD rfl
  have hl : lv_has ls 5 [(0, .ref (ad 33))] := hl
  unfold m_Pt_readSet at h
  have C0 := C
  obtain ⟨hx, hb, -, -, -, hown, hts, hK, -, -⟩ := C0
  refine lv_aload_n hx hb d_Pt_readSet_0 rfl (lv_at hl 0 rfl) ?_
  refine o_get (v := .ref (ad 25)) C in_Pt hP 33 cw_33 rfl 0 (by decide) k_1_160 rfl rfl d_Pt_readSet_1 ?_
  obtain ⟨q1, hq1, h⟩ := o_bd_some h
  refine o_V (st1 := [.int q1.1]) (w1 := (o_cw ad ca rt Sj T0 T1 Rd q1.2 Pt Mk Lk Ck Jd Ld Pr)) hE.1 C (c_Pg_beginSet hE l Pg Sj T0 T1 Rd Pt Mk Lk Ck Jd Ld Pr rt hq1) hP (hDD _ _ _ _ _ _ _ _ _ _ _ _ _) hS hl.1 rfl cw_25 k_5_15 k_5_16 k_5_17 k_1_4 k_5_18 hv_Pg_beginSet rfl rfl ⟨(Nat.le_of_ble_eq_true rfl), (Nat.le_of_ble_eq_true rfl)⟩ rfl (Nat.le_of_ble_eq_true rfl) ⟨Nat.zero_le _, Nat.zero_le _⟩ rfl d_Pt_readSet_4 (fun H locs hP hS => ?_)
  refine lv_istore_n (lv' := [(1, .int q1.1), (0, .ref (ad 33))]) hx hb d_Pt_readSet_7 rfl hl (by decide) rfl (fun ls hl => ?_)
  refine lv_aload_n hx hb d_Pt_readSet_8 rfl (lv_at hl 1 rfl) ?_
  refine lv_iconst (v := (0:Int32)) hx hb d_Pt_readSet_9 (by decide) ?_
  obtain ⟨q2, hq2, h⟩ := o_bd_some h
  refine o_V (st1 := [.int q2]) (w1 := (o_cw ad ca rt Sj T0 T1 Rd q1.2 Pt Mk Lk Ck Jd Ld Pr)) hE.1 C (c_Pt_peek hE l (0:Int32) Pt Sj T0 T1 Rd q1.2 Mk Lk Ck Jd Ld Pr rt hq2) hP (hDD _ _ _ _ _ _ _ _ _ _ _ _ _) hS hl.1 rfl cw_33 k_4_214 k_4_216 k_s_28 k_1_5 k_4_217 hv_Pt_peek rfl rfl ⟨(Nat.le_of_ble_eq_true rfl), (Nat.le_of_ble_eq_true rfl)⟩ rfl (Nat.le_of_ble_eq_true rfl) ⟨Nat.zero_le _, Nat.zero_le _⟩ rfl d_Pt_readSet_10 (fun H locs hP hS => ?_)
  refine lv_bipush (v := (94:Int32)) hx hb d_Pt_readSet_13 (by decide) ?_
  refine lv_icmp_ne (tgt := 38) hx hb d_Pt_readSet_15 (by decide) (fun c1 => ?_) (fun c1 => ?_)
  · replace h := o_ff c1 h
    refine lv_iconst (v := (0:Int32)) hx hb d_Pt_readSet_38 (by decide) ?_
    refine lv_istore_n (lv' := [(2, .int (0:Int32)), (1, .int q1.1), (0, .ref (ad 33))]) hx hb d_Pt_readSet_39 rfl hl (by decide) rfl (fun ls hl => ?_)
    obtain ⟨q9, hq9, h⟩ := o_bd_some h
    refine o_sim2 (AH := fun zz => o_At p l e rm_Pt_readSet s m _ below meth c _ o_cls D A 5 40 [] (o_cw ad ca rt Sj T0 T1 Rd zz.2.1 zz.2.2 Mk Lk Ck Jd Ld Pr) [(0, .ref (ad 33)), (1, .int q1.1), (2, .int zz.1)]) (AX := fun qq => if qq.1 = 1 then o_At p l e rm_Pt_readSet s m _ below meth c _ o_cls D A 5 70 [] (o_cw ad ca rt Sj T0 T1 Rd qq.2.2.1 qq.2.2.2 Mk Lk Ck Jd Ld Pr) [(1, .int q1.1)] else if qq.1 = 2 then o_At p l e rm_Pt_readSet s m _ below meth c _ o_cls D A 5 127 [] (o_cw ad ca rt Sj T0 T1 Rd qq.2.2.1 qq.2.2.2 Mk Lk Ck Jd Ld Pr) [] else if qq.1 = 3 then o_At p l e rm_Pt_readSet s m _ below meth c _ o_cls D A 5 150 [] (o_cw ad ca rt Sj T0 T1 Rd qq.2.2.1 qq.2.2.2 Mk Lk Ck Jd Ld Pr) [] else o_At p l e rm_Pt_readSet s m _ below meth c _ o_cls D A 5 197 [] (o_cw ad ca rt Sj T0 T1 Rd qq.2.2.1 qq.2.2.2 Mk Lk Ck Jd Ld Pr) []) (fun zz qq h h0 h1 => w_Pt_readSet_b40 hE C hDD n q1.1 Sj T0 T1 Rd Mk Lk Ck Jd Ld Pr rt zz qq h h0 h1) n _ q9 hq9 ?_ _ _ _ hP hS (lv_sub hl [2, 1, 0] rfl)
    by_cases c12 : q9.1 = 1
    · replace h := o_tt c12 h
      refine o_ip c12 ?_
      intro H locs ls hP hS hl
      refine lv_iload_n hx hb d_Pt_readSet_70 rfl (lv_at hl 0 rfl) ?_
      cases h
      exact o_ri C hP hS d_Pt_readSet_71
    replace h := o_ff c12 h
    refine o_in_ c12 ?_
    by_cases c13 : q9.1 = 2
    · replace h := o_tt c13 h
      refine o_ip c13 ?_
      intro H locs ls hP hS hl
      refine lv_iconst (v := (-1:Int32)) hx hb d_Pt_readSet_127 (by decide) ?_
      cases h
      exact o_ri (v := (-1:Int32)) C hP hS d_Pt_readSet_128
    replace h := o_ff c13 h
    refine o_in_ c13 ?_
    by_cases c14 : q9.1 = 3
    · replace h := o_tt c14 h
      refine o_ip c14 ?_
      intro H locs ls hP hS hl
      refine lv_iconst (v := (-1:Int32)) hx hb d_Pt_readSet_150 (by decide) ?_
      cases h
      exact o_ri (v := (-1:Int32)) C hP hS d_Pt_readSet_151
    replace h := o_ff c14 h
    refine o_in_ c14 ?_
    intro H locs ls hP hS hl
    refine lv_iconst (v := (-1:Int32)) hx hb d_Pt_readSet_197 (by decide) ?_
    cases h
    exact o_ri (v := (-1:Int32)) C hP hS d_Pt_readSet_198
  · replace h := o_tt c1 h
    refine lv_aload_n hx hb d_Pt_readSet_18 rfl (lv_at hl 1 rfl) ?_
    refine o_get (v := .ref (ad 25)) C in_Pt hP 33 cw_33 rfl 0 (by decide) k_1_160 rfl rfl d_Pt_readSet_19 ?_
    refine lv_iload_n hx hb d_Pt_readSet_22 rfl (lv_at hl 0 rfl) ?_
    refine lv_bipush (v := (64:Int32)) hx hb d_Pt_readSet_23 (by decide) ?_
    obtain ⟨q10, hq10, h⟩ := o_bd_some h
    refine o_V (st1 := []) (w1 := (o_cw ad ca rt Sj T0 T1 Rd q10 Pt Mk Lk Ck Jd Ld Pr)) hE.1 C (c_Pg_addClass hE l q1.1 (64:Int32) q1.2 Sj T0 T1 Rd Pt Mk Lk Ck Jd Ld Pr rt hq10) hP (hDD _ _ _ _ _ _ _ _ _ _ _ _ _) hS hl.1 rfl cw_25 k_5_19 k_5_20 k_5_21 k_1_4 k_5_22 hv_Pg_addClass rfl rfl ⟨(Nat.le_of_ble_eq_true rfl), (Nat.le_of_ble_eq_true rfl)⟩ rfl (Nat.le_of_ble_eq_true rfl) ⟨Nat.zero_le _, Nat.zero_le _⟩ rfl d_Pt_readSet_25 (fun H locs hP hS => ?_)
    refine lv_aload_n hx hb d_Pt_readSet_28 rfl (lv_at hl 1 rfl) ?_
    refine lv_dup hx hb d_Pt_readSet_29 rfl ?_
    refine o_get (v := .int (Pt_position Pt)) C in_Pt hP 33 cw_33 rfl 4 (by decide) k_1_164 rfl rfl d_Pt_readSet_30 ?_
    refine lv_iconst (v := (1:Int32)) hx hb d_Pt_readSet_33 (by decide) ?_
    refine lv_iadd hx hb d_Pt_readSet_34 ?_
    refine o_put (v := .int ((Pt_position Pt) + (1:Int32))) (ty := .int) (w1 := (o_cw ad ca rt Sj T0 T1 Rd q10 (Pt_mk (Pt_tokens Pt) (Pt_characterCount Pt) (Pt_tokenCount Pt) ((Pt_position Pt) + (1:Int32)) (Pt_total Pt) (Pt_least Pt) (Pt_most Pt) (Pt_depth Pt) (Pt_blockStarts Pt) (Pt_branchStarts Pt) (Pt_jumps Pt) (Pt_sizesBefore Pt)) Mk Lk Ck Jd Ld Pr)) C in_Pt t_Pt t_Pt_ok n_Pt hP (hDD _ _ _ _ _ _ _ _ _ _ _ _ _) hS 33 cw_33 rfl 4 (by decide) k_1_164 rfl rfl (by decide +kernel) rfl rfl (Nat.le_of_ble_eq_true rfl) rfl d_Pt_readSet_35 (fun H locs hP hS => ?_)
    refine lv_iconst (v := (0:Int32)) hx hb d_Pt_readSet_38 (by decide) ?_
    refine lv_istore_n (lv' := [(2, .int (0:Int32)), (1, .int q1.1), (0, .ref (ad 33))]) hx hb d_Pt_readSet_39 rfl hl (by decide) rfl (fun ls hl => ?_)
    obtain ⟨q11, hq11, h⟩ := o_bd_some h
    refine o_sim2 (AH := fun zz => o_At p l e rm_Pt_readSet s m _ below meth c _ o_cls D A 5 40 [] (o_cw ad ca rt Sj T0 T1 Rd zz.2.1 zz.2.2 Mk Lk Ck Jd Ld Pr) [(0, .ref (ad 33)), (1, .int q1.1), (2, .int zz.1)]) (AX := fun qq => if qq.1 = 1 then o_At p l e rm_Pt_readSet s m _ below meth c _ o_cls D A 5 70 [] (o_cw ad ca rt Sj T0 T1 Rd qq.2.2.1 qq.2.2.2 Mk Lk Ck Jd Ld Pr) [(1, .int q1.1)] else if qq.1 = 2 then o_At p l e rm_Pt_readSet s m _ below meth c _ o_cls D A 5 127 [] (o_cw ad ca rt Sj T0 T1 Rd qq.2.2.1 qq.2.2.2 Mk Lk Ck Jd Ld Pr) [] else if qq.1 = 3 then o_At p l e rm_Pt_readSet s m _ below meth c _ o_cls D A 5 150 [] (o_cw ad ca rt Sj T0 T1 Rd qq.2.2.1 qq.2.2.2 Mk Lk Ck Jd Ld Pr) [] else o_At p l e rm_Pt_readSet s m _ below meth c _ o_cls D A 5 197 [] (o_cw ad ca rt Sj T0 T1 Rd qq.2.2.1 qq.2.2.2 Mk Lk Ck Jd Ld Pr) []) (fun zz qq h h0 h1 => w_Pt_readSet_b40 hE C hDD n q1.1 Sj T0 T1 Rd Mk Lk Ck Jd Ld Pr rt zz qq h h0 h1) n _ q11 hq11 ?_ _ _ _ hP hS (lv_sub hl [2, 1, 0] rfl)
    by_cases c15 : q11.1 = 1
    · replace h := o_tt c15 h
      refine o_ip c15 ?_
      intro H locs ls hP hS hl
      refine lv_iload_n hx hb d_Pt_readSet_70 rfl (lv_at hl 0 rfl) ?_
      cases h
      exact o_ri C hP hS d_Pt_readSet_71
    replace h := o_ff c15 h
    refine o_in_ c15 ?_
    by_cases c16 : q11.1 = 2
    · replace h := o_tt c16 h
      refine o_ip c16 ?_
      intro H locs ls hP hS hl
      refine lv_iconst (v := (-1:Int32)) hx hb d_Pt_readSet_127 (by decide) ?_
      cases h
      exact o_ri (v := (-1:Int32)) C hP hS d_Pt_readSet_128
    replace h := o_ff c16 h
    refine o_in_ c16 ?_
    by_cases c17 : q11.1 = 3
    · replace h := o_tt c17 h
      refine o_ip c17 ?_
      intro H locs ls hP hS hl
      refine lv_iconst (v := (-1:Int32)) hx hb d_Pt_readSet_150 (by decide) ?_
      cases h
      exact o_ri (v := (-1:Int32)) C hP hS d_Pt_readSet_151
    replace h := o_ff c17 h
    refine o_in_ c17 ?_
    intro H locs ls hP hS hl
    refine lv_iconst (v := (-1:Int32)) hx hb d_Pt_readSet_197 (by decide) ?_
    cases h
    exact o_ri (v := (-1:Int32)) C hP hS d_Pt_readSet_198
set_option maxHeartbeats 4000000 in
set_option maxRecDepth 100000 in
theorem w_Pt_single_j139 {E : (Nat → Prop) → State → Heap → Prop} {p : Program} {l : Launch} {e : Env} {s : State} {m : MethodId} {args : Array Value} {below : List Frame} {meth : Method} {c : Code} {D : va_G} {ad kd sd vd xd : Nat → Nat} {ca : Nat → ClassId} {A : Nat → Prop} (hE : o_EK E kd sd vd xd) (C : o_Cx E p s m args meth c D o_cls (o_tys ca) "SchemaJudge$Pattern" b_Pt_single (some .boolean) 3 cc_Pt_single A) (hDD : ∀ (rt : Nat) (Sj : SSJ) (T0 : STx) (T1 : STx) (Rd : SRd) (Pg : SPg) (Pt : SPt) (Mk : SMk) (Lk : SLk) (Ck : SCk) (Jd : SJd) (Ld : SLd) (Pr : SPr), va_D A (o_cw ad ca rt Sj T0 T1 Rd Pg Pt Mk Lk Ck Jd Ld Pr)) (x1 : Int32) (Pg : SPg) (Pt : SPt) (Sj : SSJ) (T0 : STx) (T1 : STx) (Rd : SRd) (Mk : SMk) (Lk : SLk) (Ck : SCk) (Jd : SJd) (Ld : SLd) (Pr : SPr) (rt : Nat) {r : Int32 × SPg × SPt} (h : m_Pt_single_j139 x1 Pg Pt = some r) : o_At p l e rm_Pt_single s m args below meth c (MQ below (o_Qx D o_cls (some (.int r.1)) (o_cw ad ca rt Sj T0 T1 Rd r.2.1 r.2.2 Mk Lk Ck Jd Ld Pr) A) args s 0 0 A) o_cls D A 3 139 [] (o_cw ad ca rt Sj T0 T1 Rd Pg Pt Mk Lk Ck Jd Ld Pr) [(1, .int x1)] := by
  unfold m_Pt_single_j139 at h
  intro H locs ls hP hS hl
  have C0 := C
  obtain ⟨hx, hb, -, -, -, hown, hts, hK, -, -⟩ := C0
  refine lv_iload_n hx hb d_Pt_single_139 rfl (lv_at hl 0 rfl) ?_
  refine lv_if_lt (tgt := 147) hx hb d_Pt_single_140 (by decide) (fun c7 => ?_) (fun c7 => ?_)
  · replace h := o_tt c7 h
    refine lv_iconst (v := (0:Int32)) hx hb d_Pt_single_147 (by decide) ?_
    cases h
    exact o_rz (v := (0:Int32)) C o_nar0 hP hS d_Pt_single_148
  · replace h := o_ff c7 h
    refine lv_iconst (v := (1:Int32)) hx hb d_Pt_single_143 (by decide) ?_
    refine lv_goto (tgt := 148) hx hb d_Pt_single_144 (by decide) ?_
    cases h
    exact o_rz (v := (1:Int32)) C o_nar1 hP hS d_Pt_single_148
set_option maxHeartbeats 4000000 in
set_option maxRecDepth 100000 in
theorem c_Pt_single {E : (Nat → Prop) → State → Heap → Prop} {D : va_G} {ad kd sd vd xd : Nat → Nat} {ca : Nat → ClassId} (hE : o_EK E kd sd vd xd) (l : Launch) (x1 : Int32) (x2 : Int32) (Pg : SPg) (Pt : SPt) (Sj : SSJ) (T0 : STx) (T1 : STx) (Rd : SRd) (Mk : SMk) (Lk : SLk) (Ck : SCk) (Jd : SJd) (Ld : SLd) (Pr : SPr) (rt : Nat) {r : Int32 × SPg × SPt} (h : m_Pt_single x1 x2 Pg Pt = some r) : o_Cn E l D o_cls (o_tys ca) y_Pt_single cc_Pt_single rm_Pt_single [.ref (ad 33), .int x1, .int x2] (o_cw ad ca rt Sj T0 T1 Rd Pg Pt Mk Lk Ck Jd Ld Pr) (o_cw ad ca rt Sj T0 T1 Rd r.2.1 r.2.2 Mk Lk Ck Jd Ld Pr) (some (.int r.1)) := by
  refine o_Cn_of (by decide) (Nat.le_of_ble_eq_true rfl) ?_
  intro p e s m below meth c A ls C hD hP hS hl
  have hDD : ∀ (rt : Nat) (Sj : SSJ) (T0 : STx) (T1 : STx) (Rd : SRd) (Pg : SPg) (Pt : SPt) (Mk : SMk) (Lk : SLk) (Ck : SCk) (Jd : SJd) (Ld : SLd) (Pr : SPr), va_D A (o_cw ad ca rt Sj T0 T1 Rd Pg Pt Mk Lk Ck Jd Ld Pr) := fun _ _ _ _ _ _ _ _ _ _ _ _ _ => o_D_map hD rfl
  have hl : lv_has ls 3 [(0, .ref (ad 33)), (1, .int x1), (2, .int x2)] := hl
  unfold m_Pt_single at h
  have C0 := C
  obtain ⟨hx, hb, -, -, -, hown, hts, hK, -, -⟩ := C0
  refine lv_aload_n hx hb d_Pt_single_0 rfl (lv_at hl 0 rfl) ?_
  refine lv_dup hx hb d_Pt_single_1 rfl ?_
  refine o_get (v := .int (Pt_total Pt)) C in_Pt hP 33 cw_33 rfl 5 (by decide) k_1_165 rfl rfl d_Pt_single_2 ?_
  refine lv_iconst (v := (1:Int32)) hx hb d_Pt_single_5 (by decide) ?_
  refine lv_iadd hx hb d_Pt_single_6 ?_
  refine o_put (v := .int ((Pt_total Pt) + (1:Int32))) (ty := .int) (w1 := (o_cw ad ca rt Sj T0 T1 Rd Pg (Pt_mk (Pt_tokens Pt) (Pt_characterCount Pt) (Pt_tokenCount Pt) (Pt_position Pt) ((Pt_total Pt) + (1:Int32)) (Pt_least Pt) (Pt_most Pt) (Pt_depth Pt) (Pt_blockStarts Pt) (Pt_branchStarts Pt) (Pt_jumps Pt) (Pt_sizesBefore Pt)) Mk Lk Ck Jd Ld Pr)) C in_Pt t_Pt t_Pt_ok n_Pt hP (hDD _ _ _ _ _ _ _ _ _ _ _ _ _) hS 33 cw_33 rfl 5 (by decide) k_1_165 rfl rfl (by decide +kernel) rfl rfl (Nat.le_of_ble_eq_true rfl) rfl d_Pt_single_7 (fun H locs hP hS => ?_)
  refine lv_iload_n hx hb d_Pt_single_10 rfl (lv_at hl 1 rfl) ?_
  by_cases c1 : x1 = (-94:Int32)
  · replace h := o_tt c1 h
    refine lv_lookup (off := 41) (tgt := 52) hx hb d_Pt_single_11 (by decide) (by rw [c1]; rfl) (by decide) ?_
    refine lv_aload_n hx hb d_Pt_single_52 rfl (lv_at hl 0 rfl) ?_
    refine o_get (v := .ref (ad 25)) C in_Pt hP 33 cw_33 rfl 0 (by decide) k_1_160 rfl rfl d_Pt_single_53 ?_
    refine lv_iconst (v := (4:Int32)) hx hb d_Pt_single_56 (by decide) ?_
    refine lv_iconst (v := (0:Int32)) hx hb d_Pt_single_57 (by decide) ?_
    obtain ⟨q1, hq1, h⟩ := o_bd_some h
    refine o_V (st1 := []) (w1 := (o_cw ad ca rt Sj T0 T1 Rd q1 (Pt_mk (Pt_tokens Pt) (Pt_characterCount Pt) (Pt_tokenCount Pt) (Pt_position Pt) ((Pt_total Pt) + (1:Int32)) (Pt_least Pt) (Pt_most Pt) (Pt_depth Pt) (Pt_blockStarts Pt) (Pt_branchStarts Pt) (Pt_jumps Pt) (Pt_sizesBefore Pt)) Mk Lk Ck Jd Ld Pr)) hE.1 C (c_Pg_emit hE l (4:Int32) (0:Int32) Pg Sj T0 T1 Rd (Pt_mk (Pt_tokens Pt) (Pt_characterCount Pt) (Pt_tokenCount Pt) (Pt_position Pt) ((Pt_total Pt) + (1:Int32)) (Pt_least Pt) (Pt_most Pt) (Pt_depth Pt) (Pt_blockStarts Pt) (Pt_branchStarts Pt) (Pt_jumps Pt) (Pt_sizesBefore Pt)) Mk Lk Ck Jd Ld Pr rt hq1) hP (hDD _ _ _ _ _ _ _ _ _ _ _ _ _) hS hl.1 rfl cw_25 k_5_7 k_5_8 k_5_9 k_1_4 k_5_10 hv_Pg_emit rfl rfl ⟨(Nat.le_of_ble_eq_true rfl), (Nat.le_of_ble_eq_true rfl)⟩ rfl (Nat.le_of_ble_eq_true rfl) ⟨Nat.zero_le _, Nat.zero_le _⟩ rfl d_Pt_single_58 (fun H locs hP hS => ?_)
    refine lv_iconst (v := (1:Int32)) hx hb d_Pt_single_61 (by decide) ?_
    cases h
    exact o_rz (v := (1:Int32)) C o_nar1 hP hS d_Pt_single_62
  replace h := o_ff c1 h
  by_cases c2 : x1 = (-91:Int32)
  · replace h := o_tt c2 h
    refine lv_lookup (off := 74) (tgt := 85) hx hb d_Pt_single_11 (by decide) (by rw [c2]; rfl) (by decide) ?_
    refine lv_aload_n hx hb d_Pt_single_85 rfl (lv_at hl 0 rfl) ?_
    refine o_get (v := .ref (ad 25)) C in_Pt hP 33 cw_33 rfl 0 (by decide) k_1_160 rfl rfl d_Pt_single_86 ?_
    refine lv_iconst (v := (3:Int32)) hx hb d_Pt_single_89 (by decide) ?_
    refine lv_iload_n hx hb d_Pt_single_90 rfl (lv_at hl 2 rfl) ?_
    obtain ⟨q2, hq2, h⟩ := o_bd_some h
    refine o_V (st1 := []) (w1 := (o_cw ad ca rt Sj T0 T1 Rd q2 (Pt_mk (Pt_tokens Pt) (Pt_characterCount Pt) (Pt_tokenCount Pt) (Pt_position Pt) ((Pt_total Pt) + (1:Int32)) (Pt_least Pt) (Pt_most Pt) (Pt_depth Pt) (Pt_blockStarts Pt) (Pt_branchStarts Pt) (Pt_jumps Pt) (Pt_sizesBefore Pt)) Mk Lk Ck Jd Ld Pr)) hE.1 C (c_Pg_emit hE l (3:Int32) x2 Pg Sj T0 T1 Rd (Pt_mk (Pt_tokens Pt) (Pt_characterCount Pt) (Pt_tokenCount Pt) (Pt_position Pt) ((Pt_total Pt) + (1:Int32)) (Pt_least Pt) (Pt_most Pt) (Pt_depth Pt) (Pt_blockStarts Pt) (Pt_branchStarts Pt) (Pt_jumps Pt) (Pt_sizesBefore Pt)) Mk Lk Ck Jd Ld Pr rt hq2) hP (hDD _ _ _ _ _ _ _ _ _ _ _ _ _) hS hl.1 rfl cw_25 k_5_7 k_5_8 k_5_9 k_1_4 k_5_10 hv_Pg_emit rfl rfl ⟨(Nat.le_of_ble_eq_true rfl), (Nat.le_of_ble_eq_true rfl)⟩ rfl (Nat.le_of_ble_eq_true rfl) ⟨Nat.zero_le _, Nat.zero_le _⟩ rfl d_Pt_single_91 (fun H locs hP hS => ?_)
    refine lv_iload_n hx hb d_Pt_single_94 rfl (lv_at hl 2 rfl) ?_
    refine lv_iconst (v := (-1:Int32)) hx hb d_Pt_single_95 (by decide) ?_
    refine lv_icmp_eq (tgt := 103) hx hb d_Pt_single_96 (by decide) (fun c3 => ?_) (fun c3 => ?_)
    · replace h := o_tt c3 h
      refine lv_iconst (v := (0:Int32)) hx hb d_Pt_single_103 (by decide) ?_
      cases h
      exact o_rz (v := (0:Int32)) C o_nar0 hP hS d_Pt_single_104
    · replace h := o_ff c3 h
      refine lv_iconst (v := (1:Int32)) hx hb d_Pt_single_99 (by decide) ?_
      refine lv_goto (tgt := 104) hx hb d_Pt_single_100 (by decide) ?_
      cases h
      exact o_rz (v := (1:Int32)) C o_nar1 hP hS d_Pt_single_104
  replace h := o_ff c2 h
  by_cases c4 : x1 = (-46:Int32)
  · replace h := o_tt c4 h
    refine lv_lookup (off := 63) (tgt := 74) hx hb d_Pt_single_11 (by decide) (by rw [c4]; rfl) (by decide) ?_
    refine lv_aload_n hx hb d_Pt_single_74 rfl (lv_at hl 0 rfl) ?_
    refine o_get (v := .ref (ad 25)) C in_Pt hP 33 cw_33 rfl 0 (by decide) k_1_160 rfl rfl d_Pt_single_75 ?_
    refine lv_iconst (v := (1:Int32)) hx hb d_Pt_single_78 (by decide) ?_
    refine lv_iconst (v := (0:Int32)) hx hb d_Pt_single_79 (by decide) ?_
    obtain ⟨q3, hq3, h⟩ := o_bd_some h
    refine o_V (st1 := []) (w1 := (o_cw ad ca rt Sj T0 T1 Rd q3 (Pt_mk (Pt_tokens Pt) (Pt_characterCount Pt) (Pt_tokenCount Pt) (Pt_position Pt) ((Pt_total Pt) + (1:Int32)) (Pt_least Pt) (Pt_most Pt) (Pt_depth Pt) (Pt_blockStarts Pt) (Pt_branchStarts Pt) (Pt_jumps Pt) (Pt_sizesBefore Pt)) Mk Lk Ck Jd Ld Pr)) hE.1 C (c_Pg_emit hE l (1:Int32) (0:Int32) Pg Sj T0 T1 Rd (Pt_mk (Pt_tokens Pt) (Pt_characterCount Pt) (Pt_tokenCount Pt) (Pt_position Pt) ((Pt_total Pt) + (1:Int32)) (Pt_least Pt) (Pt_most Pt) (Pt_depth Pt) (Pt_blockStarts Pt) (Pt_branchStarts Pt) (Pt_jumps Pt) (Pt_sizesBefore Pt)) Mk Lk Ck Jd Ld Pr rt hq3) hP (hDD _ _ _ _ _ _ _ _ _ _ _ _ _) hS hl.1 rfl cw_25 k_5_7 k_5_8 k_5_9 k_1_4 k_5_10 hv_Pg_emit rfl rfl ⟨(Nat.le_of_ble_eq_true rfl), (Nat.le_of_ble_eq_true rfl)⟩ rfl (Nat.le_of_ble_eq_true rfl) ⟨Nat.zero_le _, Nat.zero_le _⟩ rfl d_Pt_single_80 (fun H locs hP hS => ?_)
    refine lv_iconst (v := (1:Int32)) hx hb d_Pt_single_83 (by decide) ?_
    cases h
    exact o_rz (v := (1:Int32)) C o_nar1 hP hS d_Pt_single_84
  replace h := o_ff c4 h
  by_cases c5 : x1 = (-36:Int32)
  · replace h := o_tt c5 h
    refine lv_lookup (off := 52) (tgt := 63) hx hb d_Pt_single_11 (by decide) (by rw [c5]; rfl) (by decide) ?_
    refine lv_aload_n hx hb d_Pt_single_63 rfl (lv_at hl 0 rfl) ?_
    refine o_get (v := .ref (ad 25)) C in_Pt hP 33 cw_33 rfl 0 (by decide) k_1_160 rfl rfl d_Pt_single_64 ?_
    refine lv_iconst (v := (5:Int32)) hx hb d_Pt_single_67 (by decide) ?_
    refine lv_iconst (v := (0:Int32)) hx hb d_Pt_single_68 (by decide) ?_
    obtain ⟨q4, hq4, h⟩ := o_bd_some h
    refine o_V (st1 := []) (w1 := (o_cw ad ca rt Sj T0 T1 Rd q4 (Pt_mk (Pt_tokens Pt) (Pt_characterCount Pt) (Pt_tokenCount Pt) (Pt_position Pt) ((Pt_total Pt) + (1:Int32)) (Pt_least Pt) (Pt_most Pt) (Pt_depth Pt) (Pt_blockStarts Pt) (Pt_branchStarts Pt) (Pt_jumps Pt) (Pt_sizesBefore Pt)) Mk Lk Ck Jd Ld Pr)) hE.1 C (c_Pg_emit hE l (5:Int32) (0:Int32) Pg Sj T0 T1 Rd (Pt_mk (Pt_tokens Pt) (Pt_characterCount Pt) (Pt_tokenCount Pt) (Pt_position Pt) ((Pt_total Pt) + (1:Int32)) (Pt_least Pt) (Pt_most Pt) (Pt_depth Pt) (Pt_blockStarts Pt) (Pt_branchStarts Pt) (Pt_jumps Pt) (Pt_sizesBefore Pt)) Mk Lk Ck Jd Ld Pr rt hq4) hP (hDD _ _ _ _ _ _ _ _ _ _ _ _ _) hS hl.1 rfl cw_25 k_5_7 k_5_8 k_5_9 k_1_4 k_5_10 hv_Pg_emit rfl rfl ⟨(Nat.le_of_ble_eq_true rfl), (Nat.le_of_ble_eq_true rfl)⟩ rfl (Nat.le_of_ble_eq_true rfl) ⟨Nat.zero_le _, Nat.zero_le _⟩ rfl d_Pt_single_69 (fun H locs hP hS => ?_)
    refine lv_iconst (v := (1:Int32)) hx hb d_Pt_single_72 (by decide) ?_
    cases h
    exact o_rz (v := (1:Int32)) C o_nar1 hP hS d_Pt_single_73
  replace h := o_ff c5 h
  refine lv_lookup (off := 94) (tgt := 105) hx hb d_Pt_single_11 (by decide) ((lv_osw c1 (by decide)).trans ((lv_osw c2 (by decide)).trans ((lv_osw c4 (by decide)).trans ((lv_osw c5 (by decide)).trans rfl)))) (by decide) ?_
  refine lv_iload_n hx hb d_Pt_single_105 rfl (lv_at hl 1 rfl) ?_
  refine lv_ldc (v := (4194304:Int32)) hx hb hown (hts _ k_4_199) d_Pt_single_106 ?_
  refine lv_iand hx hb d_Pt_single_108 ?_
  refine lv_if_eq (tgt := 127) hx hb d_Pt_single_109 (by decide) (fun c6 => ?_) (fun c6 => ?_)
  · replace h := o_tt c6 h
    refine lv_aload_n hx hb d_Pt_single_127 rfl (lv_at hl 0 rfl) ?_
    refine o_get (v := .ref (ad 25)) C in_Pt hP 33 cw_33 rfl 0 (by decide) k_1_160 rfl rfl d_Pt_single_128 ?_
    refine lv_iconst (v := (0:Int32)) hx hb d_Pt_single_131 (by decide) ?_
    refine lv_iload_n hx hb d_Pt_single_132 rfl (lv_at hl 1 rfl) ?_
    refine lv_ldc (v := (2097151:Int32)) hx hb hown (hts _ k_5_23) d_Pt_single_133 ?_
    refine lv_iand hx hb d_Pt_single_135 ?_
    obtain ⟨q5, hq5, h⟩ := o_bd_some h
    refine o_V (st1 := []) (w1 := (o_cw ad ca rt Sj T0 T1 Rd q5 (Pt_mk (Pt_tokens Pt) (Pt_characterCount Pt) (Pt_tokenCount Pt) (Pt_position Pt) ((Pt_total Pt) + (1:Int32)) (Pt_least Pt) (Pt_most Pt) (Pt_depth Pt) (Pt_blockStarts Pt) (Pt_branchStarts Pt) (Pt_jumps Pt) (Pt_sizesBefore Pt)) Mk Lk Ck Jd Ld Pr)) hE.1 C (c_Pg_emit hE l (0:Int32) (x1 &&& (2097151:Int32)) Pg Sj T0 T1 Rd (Pt_mk (Pt_tokens Pt) (Pt_characterCount Pt) (Pt_tokenCount Pt) (Pt_position Pt) ((Pt_total Pt) + (1:Int32)) (Pt_least Pt) (Pt_most Pt) (Pt_depth Pt) (Pt_blockStarts Pt) (Pt_branchStarts Pt) (Pt_jumps Pt) (Pt_sizesBefore Pt)) Mk Lk Ck Jd Ld Pr rt hq5) hP (hDD _ _ _ _ _ _ _ _ _ _ _ _ _) hS hl.1 rfl cw_25 k_5_7 k_5_8 k_5_9 k_1_4 k_5_10 hv_Pg_emit rfl rfl ⟨(Nat.le_of_ble_eq_true rfl), (Nat.le_of_ble_eq_true rfl)⟩ rfl (Nat.le_of_ble_eq_true rfl) ⟨Nat.zero_le _, Nat.zero_le _⟩ rfl d_Pt_single_136 (fun H locs hP hS => ?_)
    exact w_Pt_single_j139 hE C hDD x1 q5 (Pt_mk (Pt_tokens Pt) (Pt_characterCount Pt) (Pt_tokenCount Pt) (Pt_position Pt) ((Pt_total Pt) + (1:Int32)) (Pt_least Pt) (Pt_most Pt) (Pt_depth Pt) (Pt_blockStarts Pt) (Pt_branchStarts Pt) (Pt_jumps Pt) (Pt_sizesBefore Pt)) Sj T0 T1 Rd Mk Lk Ck Jd Ld Pr rt h _ _ _ hP hS (lv_sub hl [1] rfl)
  · replace h := o_ff c6 h
    refine lv_aload_n hx hb d_Pt_single_112 rfl (lv_at hl 0 rfl) ?_
    refine o_get (v := .ref (ad 25)) C in_Pt hP 33 cw_33 rfl 0 (by decide) k_1_160 rfl rfl d_Pt_single_113 ?_
    refine lv_iconst (v := (2:Int32)) hx hb d_Pt_single_116 (by decide) ?_
    refine lv_iload_n hx hb d_Pt_single_117 rfl (lv_at hl 1 rfl) ?_
    refine lv_ldc (v := (-4194305:Int32)) hx hb hown (hts _ k_5_24) d_Pt_single_118 ?_
    refine lv_iand hx hb d_Pt_single_120 ?_
    obtain ⟨q6, hq6, h⟩ := o_bd_some h
    refine o_V (st1 := []) (w1 := (o_cw ad ca rt Sj T0 T1 Rd q6 (Pt_mk (Pt_tokens Pt) (Pt_characterCount Pt) (Pt_tokenCount Pt) (Pt_position Pt) ((Pt_total Pt) + (1:Int32)) (Pt_least Pt) (Pt_most Pt) (Pt_depth Pt) (Pt_blockStarts Pt) (Pt_branchStarts Pt) (Pt_jumps Pt) (Pt_sizesBefore Pt)) Mk Lk Ck Jd Ld Pr)) hE.1 C (c_Pg_emit hE l (2:Int32) (x1 &&& (-4194305:Int32)) Pg Sj T0 T1 Rd (Pt_mk (Pt_tokens Pt) (Pt_characterCount Pt) (Pt_tokenCount Pt) (Pt_position Pt) ((Pt_total Pt) + (1:Int32)) (Pt_least Pt) (Pt_most Pt) (Pt_depth Pt) (Pt_blockStarts Pt) (Pt_branchStarts Pt) (Pt_jumps Pt) (Pt_sizesBefore Pt)) Mk Lk Ck Jd Ld Pr rt hq6) hP (hDD _ _ _ _ _ _ _ _ _ _ _ _ _) hS hl.1 rfl cw_25 k_5_7 k_5_8 k_5_9 k_1_4 k_5_10 hv_Pg_emit rfl rfl ⟨(Nat.le_of_ble_eq_true rfl), (Nat.le_of_ble_eq_true rfl)⟩ rfl (Nat.le_of_ble_eq_true rfl) ⟨Nat.zero_le _, Nat.zero_le _⟩ rfl d_Pt_single_121 (fun H locs hP hS => ?_)
    refine lv_goto (tgt := 139) hx hb d_Pt_single_124 (by decide) ?_
    exact w_Pt_single_j139 hE C hDD x1 q6 (Pt_mk (Pt_tokens Pt) (Pt_characterCount Pt) (Pt_tokenCount Pt) (Pt_position Pt) ((Pt_total Pt) + (1:Int32)) (Pt_least Pt) (Pt_most Pt) (Pt_depth Pt) (Pt_blockStarts Pt) (Pt_branchStarts Pt) (Pt_jumps Pt) (Pt_sizesBefore Pt)) Sj T0 T1 Rd Mk Lk Ck Jd Ld Pr rt h _ _ _ hP hS (lv_sub hl [1] rfl)
set_option maxHeartbeats 4000000 in
set_option maxRecDepth 100000 in
theorem c_Pt_isQuantifier {E : (Nat → Prop) → State → Heap → Prop} {D : va_G} {ad kd sd vd xd : Nat → Nat} {ca : Nat → ClassId} (hE : o_EK E kd sd vd xd) (l : Launch) (x0 : Int32) (Sj : SSJ) (T0 : STx) (T1 : STx) (Rd : SRd) (Pg : SPg) (Pt : SPt) (Mk : SMk) (Lk : SLk) (Ck : SCk) (Jd : SJd) (Ld : SLd) (Pr : SPr) (rt : Nat) {r : Int32} (h : m_Pt_isQuantifier x0 = some r) : o_Cn E l D o_cls (o_tys ca) y_Pt_isQuantifier cc_Pt_isQuantifier rm_Pt_isQuantifier [.int x0] (o_cw ad ca rt Sj T0 T1 Rd Pg Pt Mk Lk Ck Jd Ld Pr) (o_cw ad ca rt Sj T0 T1 Rd Pg Pt Mk Lk Ck Jd Ld Pr) (some (.int r)) := by
  refine o_Cn_of (by decide) (Nat.le_of_ble_eq_true rfl) ?_
  intro p e s m below meth c A ls C hD hP hS hl
  have hDD : ∀ (rt : Nat) (Sj : SSJ) (T0 : STx) (T1 : STx) (Rd : SRd) (Pg : SPg) (Pt : SPt) (Mk : SMk) (Lk : SLk) (Ck : SCk) (Jd : SJd) (Ld : SLd) (Pr : SPr), va_D A (o_cw ad ca rt Sj T0 T1 Rd Pg Pt Mk Lk Ck Jd Ld Pr) := fun _ _ _ _ _ _ _ _ _ _ _ _ _ => o_D_map hD rfl
  have hl : lv_has ls 1 [(0, .int x0)] := hl
  unfold m_Pt_isQuantifier at h
  have C0 := C
  obtain ⟨hx, hb, -, -, -, hown, hts, hK, -, -⟩ := C0
  refine lv_iload_n hx hb d_Pt_isQuantifier_0 rfl (lv_at hl 0 rfl) ?_
  refine lv_bipush (v := (-42:Int32)) hx hb d_Pt_isQuantifier_1 (by decide) ?_
  refine lv_icmp_eq (tgt := 24) hx hb d_Pt_isQuantifier_3 (by decide) (fun c1 => ?_) (fun c1 => ?_)
  · replace h := o_tt c1 h
    refine lv_iconst (v := (1:Int32)) hx hb d_Pt_isQuantifier_24 (by decide) ?_
    refine lv_goto (tgt := 29) hx hb d_Pt_isQuantifier_25 (by decide) ?_
    cases h
    exact o_rz (v := (1:Int32)) C o_nar1 hP hS d_Pt_isQuantifier_29
  · replace h := o_ff c1 h
    refine lv_iload_n hx hb d_Pt_isQuantifier_6 rfl (lv_at hl 0 rfl) ?_
    refine lv_bipush (v := (-43:Int32)) hx hb d_Pt_isQuantifier_7 (by decide) ?_
    refine lv_icmp_eq (tgt := 24) hx hb d_Pt_isQuantifier_9 (by decide) (fun c2 => ?_) (fun c2 => ?_)
    · replace h := o_tt c2 h
      refine lv_iconst (v := (1:Int32)) hx hb d_Pt_isQuantifier_24 (by decide) ?_
      refine lv_goto (tgt := 29) hx hb d_Pt_isQuantifier_25 (by decide) ?_
      cases h
      exact o_rz (v := (1:Int32)) C o_nar1 hP hS d_Pt_isQuantifier_29
    · replace h := o_ff c2 h
      refine lv_iload_n hx hb d_Pt_isQuantifier_12 rfl (lv_at hl 0 rfl) ?_
      refine lv_bipush (v := (-63:Int32)) hx hb d_Pt_isQuantifier_13 (by decide) ?_
      refine lv_icmp_eq (tgt := 24) hx hb d_Pt_isQuantifier_15 (by decide) (fun c3 => ?_) (fun c3 => ?_)
      · replace h := o_tt c3 h
        refine lv_iconst (v := (1:Int32)) hx hb d_Pt_isQuantifier_24 (by decide) ?_
        refine lv_goto (tgt := 29) hx hb d_Pt_isQuantifier_25 (by decide) ?_
        cases h
        exact o_rz (v := (1:Int32)) C o_nar1 hP hS d_Pt_isQuantifier_29
      · replace h := o_ff c3 h
        refine lv_iload_n hx hb d_Pt_isQuantifier_18 rfl (lv_at hl 0 rfl) ?_
        refine lv_bipush (v := (-123:Int32)) hx hb d_Pt_isQuantifier_19 (by decide) ?_
        refine lv_icmp_ne (tgt := 28) hx hb d_Pt_isQuantifier_21 (by decide) (fun c4 => ?_) (fun c4 => ?_)
        · replace h := o_ff c4 h
          refine lv_iconst (v := (0:Int32)) hx hb d_Pt_isQuantifier_28 (by decide) ?_
          cases h
          exact o_rz (v := (0:Int32)) C o_nar0 hP hS d_Pt_isQuantifier_29
        · replace h := o_tt c4 h
          refine lv_iconst (v := (1:Int32)) hx hb d_Pt_isQuantifier_24 (by decide) ?_
          refine lv_goto (tgt := 29) hx hb d_Pt_isQuantifier_25 (by decide) ?_
          cases h
          exact o_rz (v := (1:Int32)) C o_nar1 hP hS d_Pt_isQuantifier_29
set_option maxHeartbeats 4000000 in
set_option maxRecDepth 100000 in
theorem w_Pt_readNumber_j33 {E : (Nat → Prop) → State → Heap → Prop} {p : Program} {l : Launch} {e : Env} {s : State} {m : MethodId} {args : Array Value} {below : List Frame} {meth : Method} {c : Code} {D : va_G} {ad kd sd vd xd : Nat → Nat} {ca : Nat → ClassId} {A : Nat → Prop} {Q : State → Prop} (hE : o_EK E kd sd vd xd) (C : o_Cx E p s m args meth c D o_cls (o_tys ca) "SchemaJudge$Pattern" b_Pt_readNumber (some .int) 4 cc_Pt_readNumber A) (hDD : ∀ (rt : Nat) (Sj : SSJ) (T0 : STx) (T1 : STx) (Rd : SRd) (Pg : SPg) (Pt : SPt) (Mk : SMk) (Lk : SLk) (Ck : SCk) (Jd : SJd) (Ld : SLd) (Pr : SPr), va_D A (o_cw ad ca rt Sj T0 T1 Rd Pg Pt Mk Lk Ck Jd Ld Pr)) (n : Nat) (u4_Sj : SSJ) (u4_T0 : STx) (u4_T1 : STx) (u4_Rd : SRd) (u4_Pg : SPg) (u4_Mk : SMk) (u4_Lk : SLk) (u4_Ck : SCk) (u4_Jd : SJd) (u4_Ld : SLd) (u4_Pr : SPr) (u4_rt : Nat) (x1 : Int32) (x2 : Int32) (y0 : Int32) (Pt : SPt) {q : Nat × Int32 × Int32 × SPt} (h : m_Pt_readNumber_j33 n x1 x2 y0 Pt = some q) (h0 : q.1 = 0 → o_At p l e rm_Pt_readNumber s m args below meth c Q o_cls D A 4 4 [] (o_cw ad ca u4_rt u4_Sj u4_T0 u4_T1 u4_Rd u4_Pg q.2.2.2 u4_Mk u4_Lk u4_Ck u4_Jd u4_Ld u4_Pr) [(0, .ref (ad 33)), (1, .int q.2.1), (2, .int q.2.2.1)]) (h1 : q.1 ≠ 0 → (if q.1 = 1 then o_At p l e rm_Pt_readNumber s m args below meth c Q o_cls D A 4 46 [] (o_cw ad ca u4_rt u4_Sj u4_T0 u4_T1 u4_Rd u4_Pg q.2.2.2 u4_Mk u4_Lk u4_Ck u4_Jd u4_Ld u4_Pr) [(1, .int q.2.1)] else o_At p l e rm_Pt_readNumber s m args below meth c Q o_cls D A 4 78 [] (o_cw ad ca u4_rt u4_Sj u4_T0 u4_T1 u4_Rd u4_Pg q.2.2.2 u4_Mk u4_Lk u4_Ck u4_Jd u4_Ld u4_Pr) [(1, .int q.2.1)])) : o_At p l e rm_Pt_readNumber s m args below meth c Q o_cls D A 4 33 [.int y0] (o_cw ad ca u4_rt u4_Sj u4_T0 u4_T1 u4_Rd u4_Pg Pt u4_Mk u4_Lk u4_Ck u4_Jd u4_Ld u4_Pr) [(0, .ref (ad 33)), (1, .int x1), (2, .int x2)] := by
  unfold m_Pt_readNumber_j33 at h
  intro H locs ls hP hS hl
  have C0 := C
  obtain ⟨hx, hb, -, -, -, hown, hts, hK, -, -⟩ := C0
  refine lv_istore_n (lv' := [(3, .int y0), (0, .ref (ad 33)), (1, .int x1), (2, .int x2)]) hx hb d_Pt_readNumber_33 rfl hl (by decide) rfl (fun ls hl => ?_)
  refine lv_iload_n hx hb d_Pt_readNumber_34 rfl (lv_at hl 0 rfl) ?_
  refine lv_bipush (v := (48:Int32)) hx hb d_Pt_readNumber_35 (by decide) ?_
  refine lv_icmp_lt (tgt := 46) hx hb d_Pt_readNumber_37 (by decide) (fun c3 => ?_) (fun c3 => ?_)
  · replace h := o_tt c3 h
    cases h
    exact h1 (Nat.succ_ne_zero 0) _ _ _ hP hS (lv_sub hl [2] rfl)
  · replace h := o_ff c3 h
    refine lv_iload_n hx hb d_Pt_readNumber_40 rfl (lv_at hl 0 rfl) ?_
    refine lv_bipush (v := (57:Int32)) hx hb d_Pt_readNumber_41 (by decide) ?_
    refine lv_icmp_le (tgt := 48) hx hb d_Pt_readNumber_43 (by decide) (fun c4 => ?_) (fun c4 => ?_)
    · replace h := o_tt c4 h
      refine lv_iload_n hx hb d_Pt_readNumber_48 rfl (lv_at hl 2 rfl) ?_
      refine lv_iconst (v := (0:Int32)) hx hb d_Pt_readNumber_49 (by decide) ?_
      refine va_mmax hx hb (C.2.2.2.2.1.trans hl.1.symm) hown (hts _ k_5_44) (hts _ k_4_152) (hts _ k_1_26) (hts _ k_4_153) (Nat.le_of_ble_eq_true rfl) (Nat.le_of_ble_eq_true rfl) (Nat.zero_le _) (Nat.zero_le _) d_Pt_readNumber_50 ?_
      refine lv_bipush (v := (10:Int32)) hx hb d_Pt_readNumber_53 (by decide) ?_
      refine lv_imul hx hb d_Pt_readNumber_55 ?_
      refine lv_iload_n hx hb d_Pt_readNumber_56 rfl (lv_at hl 0 rfl) ?_
      refine lv_iadd hx hb d_Pt_readNumber_57 ?_
      refine lv_bipush (v := (48:Int32)) hx hb d_Pt_readNumber_58 (by decide) ?_
      refine lv_isub hx hb d_Pt_readNumber_60 ?_
      refine lv_topi (fun x1_61 ex1_61 => ?_)
      replace h := o_nm_at ex1_61 h
      refine lv_istore_n (lv' := [(1, .int x1_61), (3, .int y0), (0, .ref (ad 33)), (2, .int x2)]) hx hb d_Pt_readNumber_61 rfl hl (by decide) rfl (fun ls hl => ?_)
      refine lv_aload_n hx hb d_Pt_readNumber_62 rfl (lv_at hl 2 rfl) ?_
      refine lv_dup hx hb d_Pt_readNumber_63 rfl ?_
      refine o_get (v := .int (Pt_position Pt)) C in_Pt hP 33 cw_33 rfl 4 (by decide) k_1_164 rfl rfl d_Pt_readNumber_64 ?_
      refine lv_iconst (v := (1:Int32)) hx hb d_Pt_readNumber_67 (by decide) ?_
      refine lv_iadd hx hb d_Pt_readNumber_68 ?_
      refine o_put (v := .int ((Pt_position Pt) + (1:Int32))) (ty := .int) (w1 := (o_cw ad ca u4_rt u4_Sj u4_T0 u4_T1 u4_Rd u4_Pg (Pt_mk (Pt_tokens Pt) (Pt_characterCount Pt) (Pt_tokenCount Pt) ((Pt_position Pt) + (1:Int32)) (Pt_total Pt) (Pt_least Pt) (Pt_most Pt) (Pt_depth Pt) (Pt_blockStarts Pt) (Pt_branchStarts Pt) (Pt_jumps Pt) (Pt_sizesBefore Pt)) u4_Mk u4_Lk u4_Ck u4_Jd u4_Ld u4_Pr)) C in_Pt t_Pt t_Pt_ok n_Pt hP (hDD _ _ _ _ _ _ _ _ _ _ _ _ _) hS 33 cw_33 rfl 4 (by decide) k_1_164 rfl rfl (by decide +kernel) rfl rfl (Nat.le_of_ble_eq_true rfl) rfl d_Pt_readNumber_69 (fun H locs hP hS => ?_)
      obtain ⟨x2_72, ex2_72⟩ : ∃ y : Int32, y = x2 + (1:Int32) := ⟨_, rfl⟩
      replace h := o_nm_at ex2_72 h
      refine lv_iinc (v := x2_72) (lv' := [(2, .int x2_72), (1, .int x1_61), (3, .int y0), (0, .ref (ad 33))]) hx hb d_Pt_readNumber_72 hl (k := 3) rfl (by rw [ex2_72]; rfl) (by decide) rfl (fun ls hl => ?_)
      refine lv_goto (tgt := 4) hx hb d_Pt_readNumber_75 (by decide) ?_
      cases h
      exact h0 rfl _ _ _ hP hS (lv_sub hl [3, 1, 0] rfl)
    · replace h := o_ff c4 h
      cases h
      exact h1 (Nat.succ_ne_zero 0) _ _ _ hP hS (lv_sub hl [2] rfl)
set_option maxHeartbeats 4000000 in
set_option maxRecDepth 100000 in
theorem w_Pt_readNumber_b4 {E : (Nat → Prop) → State → Heap → Prop} {p : Program} {l : Launch} {e : Env} {s : State} {m : MethodId} {args : Array Value} {below : List Frame} {meth : Method} {c : Code} {D : va_G} {ad kd sd vd xd : Nat → Nat} {ca : Nat → ClassId} {A : Nat → Prop} {Q : State → Prop} (hE : o_EK E kd sd vd xd) (C : o_Cx E p s m args meth c D o_cls (o_tys ca) "SchemaJudge$Pattern" b_Pt_readNumber (some .int) 4 cc_Pt_readNumber A) (hDD : ∀ (rt : Nat) (Sj : SSJ) (T0 : STx) (T1 : STx) (Rd : SRd) (Pg : SPg) (Pt : SPt) (Mk : SMk) (Lk : SLk) (Ck : SCk) (Jd : SJd) (Ld : SLd) (Pr : SPr), va_D A (o_cw ad ca rt Sj T0 T1 Rd Pg Pt Mk Lk Ck Jd Ld Pr)) (n : Nat) (u4_Sj : SSJ) (u4_T0 : STx) (u4_T1 : STx) (u4_Rd : SRd) (u4_Pg : SPg) (u4_Mk : SMk) (u4_Lk : SLk) (u4_Ck : SCk) (u4_Jd : SJd) (u4_Ld : SLd) (u4_Pr : SPr) (u4_rt : Nat) (z : Int32 × Int32 × SPt) (q : Nat × Int32 × Int32 × SPt) (h : m_Pt_readNumber_b4 n z = some q) (h0 : q.1 = 0 → o_At p l e rm_Pt_readNumber s m args below meth c Q o_cls D A 4 4 [] (o_cw ad ca u4_rt u4_Sj u4_T0 u4_T1 u4_Rd u4_Pg q.2.2.2 u4_Mk u4_Lk u4_Ck u4_Jd u4_Ld u4_Pr) [(0, .ref (ad 33)), (1, .int q.2.1), (2, .int q.2.2.1)]) (h1 : q.1 ≠ 0 → (if q.1 = 1 then o_At p l e rm_Pt_readNumber s m args below meth c Q o_cls D A 4 46 [] (o_cw ad ca u4_rt u4_Sj u4_T0 u4_T1 u4_Rd u4_Pg q.2.2.2 u4_Mk u4_Lk u4_Ck u4_Jd u4_Ld u4_Pr) [(1, .int q.2.1)] else o_At p l e rm_Pt_readNumber s m args below meth c Q o_cls D A 4 78 [] (o_cw ad ca u4_rt u4_Sj u4_T0 u4_T1 u4_Rd u4_Pg q.2.2.2 u4_Mk u4_Lk u4_Ck u4_Jd u4_Ld u4_Pr) [(1, .int q.2.1)])) : o_At p l e rm_Pt_readNumber s m args below meth c Q o_cls D A 4 4 [] (o_cw ad ca u4_rt u4_Sj u4_T0 u4_T1 u4_Rd u4_Pg z.2.2 u4_Mk u4_Lk u4_Ck u4_Jd u4_Ld u4_Pr) [(0, .ref (ad 33)), (1, .int z.1), (2, .int z.2.1)] := by
  unfold m_Pt_readNumber_b4 at h
  intro H locs ls hP hS hl
  have C0 := C
  obtain ⟨hx, hb, -, -, -, hown, hts, hK, -, -⟩ := C0
  refine lv_iload_n hx hb d_Pt_readNumber_4 rfl (lv_at hl 2 rfl) ?_
  refine lv_iconst (v := (3:Int32)) hx hb d_Pt_readNumber_5 (by decide) ?_
  refine lv_icmp_ge (tgt := 78) hx hb d_Pt_readNumber_6 (by decide) (fun c1 => ?_) (fun c1 => ?_)
  · replace h := o_tt c1 h
    cases h
    exact h1 (Nat.succ_ne_zero 1) _ _ _ hP hS (lv_sub hl [1] rfl)
  · replace h := o_ff c1 h
    refine lv_aload_n hx hb d_Pt_readNumber_9 rfl (lv_at hl 0 rfl) ?_
    refine o_get (v := .int (Pt_position z.2.2)) C in_Pt hP 33 cw_33 rfl 4 (by decide) k_1_164 rfl rfl d_Pt_readNumber_10 ?_
    refine lv_aload_n hx hb d_Pt_readNumber_13 rfl (lv_at hl 0 rfl) ?_
    refine o_get (v := .int (Pt_tokenCount z.2.2)) C in_Pt hP 33 cw_33 rfl 3 (by decide) k_1_163 rfl rfl d_Pt_readNumber_14 ?_
    refine lv_icmp_ge (tgt := 32) hx hb d_Pt_readNumber_17 (by decide) (fun c2 => ?_) (fun c2 => ?_)
    · replace h := o_tt c2 h
      refine lv_iconst (v := (-1:Int32)) hx hb d_Pt_readNumber_32 (by decide) ?_
      exact w_Pt_readNumber_j33 hE C hDD n u4_Sj u4_T0 u4_T1 u4_Rd u4_Pg u4_Mk u4_Lk u4_Ck u4_Jd u4_Ld u4_Pr u4_rt z.1 z.2.1 (-1:Int32) z.2.2 h h0 h1 _ _ _ hP hS (lv_sub hl [0, 1, 2] rfl)
    · replace h := o_ff c2 h
      refine lv_aload_n hx hb d_Pt_readNumber_20 rfl (lv_at hl 0 rfl) ?_
      refine o_get (v := .ref (ad 34)) C in_Pt hP 33 cw_33 rfl 1 (by decide) k_1_161 rfl rfl d_Pt_readNumber_21 ?_
      refine lv_aload_n hx hb d_Pt_readNumber_24 rfl (lv_at hl 0 rfl) ?_
      refine o_get (v := .int (Pt_position z.2.2)) C in_Pt hP 33 cw_33 rfl 4 (by decide) k_1_164 rfl rfl d_Pt_readNumber_25 ?_
      obtain ⟨g5, h⟩ := o_gd_some h
      refine o_iald (f := (Pt_tokens z.2.2)) C hP 34 28 cw_34 rfl g5 d_Pt_readNumber_28 ?_
      refine lv_goto (tgt := 33) hx hb d_Pt_readNumber_29 (by decide) ?_
      exact w_Pt_readNumber_j33 hE C hDD n u4_Sj u4_T0 u4_T1 u4_Rd u4_Pg u4_Mk u4_Lk u4_Ck u4_Jd u4_Ld u4_Pr u4_rt z.1 z.2.1 ((Pt_tokens z.2.2) (Pt_position z.2.2).toNatClampNeg) z.2.2 h h0 h1 _ _ _ hP hS (lv_sub hl [0, 1, 2] rfl)
set_option maxHeartbeats 4000000 in
set_option maxRecDepth 100000 in
theorem c_Pt_readNumber {E : (Nat → Prop) → State → Heap → Prop} {D : va_G} {ad kd sd vd xd : Nat → Nat} {ca : Nat → ClassId} (hE : o_EK E kd sd vd xd) (l : Launch) (n : Nat)  (Pt : SPt) (Sj : SSJ) (T0 : STx) (T1 : STx) (Rd : SRd) (Pg : SPg) (Mk : SMk) (Lk : SLk) (Ck : SCk) (Jd : SJd) (Ld : SLd) (Pr : SPr) (rt : Nat) {r : Int32 × SPt} (h : m_Pt_readNumber n Pt = some r) : o_Cn E l D o_cls (o_tys ca) y_Pt_readNumber cc_Pt_readNumber rm_Pt_readNumber [.ref (ad 33)] (o_cw ad ca rt Sj T0 T1 Rd Pg Pt Mk Lk Ck Jd Ld Pr) (o_cw ad ca rt Sj T0 T1 Rd Pg r.2 Mk Lk Ck Jd Ld Pr) (some (.int r.1)) := by
  refine o_Cn_of (by decide) (Nat.le_of_ble_eq_true rfl) ?_
  intro p e s m below meth c A ls C hD hP hS hl
  have hDD : ∀ (rt : Nat) (Sj : SSJ) (T0 : STx) (T1 : STx) (Rd : SRd) (Pg : SPg) (Pt : SPt) (Mk : SMk) (Lk : SLk) (Ck : SCk) (Jd : SJd) (Ld : SLd) (Pr : SPr), va_D A (o_cw ad ca rt Sj T0 T1 Rd Pg Pt Mk Lk Ck Jd Ld Pr) := fun _ _ _ _ _ _ _ _ _ _ _ _ _ => o_D_map hD rfl
  have hl : lv_has ls 4 [(0, .ref (ad 33))] := hl
  unfold m_Pt_readNumber at h
  have C0 := C
  obtain ⟨hx, hb, -, -, -, hown, hts, hK, -, -⟩ := C0
  refine lv_iconst (v := (-1:Int32)) hx hb d_Pt_readNumber_0 (by decide) ?_
  refine lv_istore_n (lv' := [(1, .int (-1:Int32)), (0, .ref (ad 33))]) hx hb d_Pt_readNumber_1 rfl hl (by decide) rfl (fun ls hl => ?_)
  refine lv_iconst (v := (0:Int32)) hx hb d_Pt_readNumber_2 (by decide) ?_
  refine lv_istore_n (lv' := [(2, .int (0:Int32)), (1, .int (-1:Int32)), (0, .ref (ad 33))]) hx hb d_Pt_readNumber_3 rfl hl (by decide) rfl (fun ls hl => ?_)
  obtain ⟨q1, hq1, h⟩ := o_bd_some h
  refine o_sim2 (AH := fun zz => o_At p l e rm_Pt_readNumber s m _ below meth c _ o_cls D A 4 4 [] (o_cw ad ca rt Sj T0 T1 Rd Pg zz.2.2 Mk Lk Ck Jd Ld Pr) [(0, .ref (ad 33)), (1, .int zz.1), (2, .int zz.2.1)]) (AX := fun qq => if qq.1 = 1 then o_At p l e rm_Pt_readNumber s m _ below meth c _ o_cls D A 4 46 [] (o_cw ad ca rt Sj T0 T1 Rd Pg qq.2.2.2 Mk Lk Ck Jd Ld Pr) [(1, .int qq.2.1)] else o_At p l e rm_Pt_readNumber s m _ below meth c _ o_cls D A 4 78 [] (o_cw ad ca rt Sj T0 T1 Rd Pg qq.2.2.2 Mk Lk Ck Jd Ld Pr) [(1, .int qq.2.1)]) (fun zz qq h h0 h1 => w_Pt_readNumber_b4 hE C hDD n Sj T0 T1 Rd Pg Mk Lk Ck Jd Ld Pr rt zz qq h h0 h1) n _ q1 hq1 ?_ _ _ _ hP hS (lv_sub hl [2, 1, 0] rfl)
  by_cases c6 : q1.1 = 1
  · replace h := o_tt c6 h
    refine o_ip c6 ?_
    intro H locs ls hP hS hl
    refine lv_iload_n hx hb d_Pt_readNumber_46 rfl (lv_at hl 0 rfl) ?_
    cases h
    exact o_ri C hP hS d_Pt_readNumber_47
  replace h := o_ff c6 h
  refine o_in_ c6 ?_
  intro H locs ls hP hS hl
  refine lv_iload_n hx hb d_Pt_readNumber_78 rfl (lv_at hl 0 rfl) ?_
  cases h
  exact o_ri C hP hS d_Pt_readNumber_79
