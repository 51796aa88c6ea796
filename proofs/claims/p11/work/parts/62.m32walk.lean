set_option maxHeartbeats 4000000 in
set_option maxRecDepth 100000 in
theorem w_Pt_readQuantifier_j181 {E : (Nat → Prop) → State → Heap → Prop} {p : Program} {l : Launch} {e : Env} {s : State} {m : MethodId} {args : Array Value} {below : List Frame} {meth : Method} {c : Code} {D : va_G} {ad kd sd vd xd : Nat → Nat} {ca : Nat → ClassId} {A : Nat → Prop} (hE : o_EK E kd sd vd xd) (C : o_Cx E p s m args meth c D o_cls (o_tys ca) "SchemaJudge$Pattern" b_Pt_readQuantifier (some .boolean) 3 cc_Pt_readQuantifier A) (hDD : ∀ (rt : Nat) (Sj : SSJ) (T0 : STx) (T1 : STx) (Rd : SRd) (Pg : SPg) (Pt : SPt) (Mk : SMk) (Lk : SLk) (Ck : SCk) (Jd : SJd) (Ld : SLd) (Pr : SPr), va_D A (o_cw ad ca rt Sj T0 T1 Rd Pg Pt Mk Lk Ck Jd Ld Pr)) (n : Nat) (x2 : Int32) (Pt : SPt) (Sj : SSJ) (T0 : STx) (T1 : STx) (Rd : SRd) (Pg : SPg) (Mk : SMk) (Lk : SLk) (Ck : SCk) (Jd : SJd) (Ld : SLd) (Pr : SPr) (rt : Nat) {r : Int32 × SPt} (h : m_Pt_readQuantifier_j181 n x2 Pt = some r) : o_At p l e rm_Pt_readQuantifier s m args below meth c (MQ below (o_Qx D o_cls (some (.int r.1)) (o_cw ad ca rt Sj T0 T1 Rd Pg r.2 Mk Lk Ck Jd Ld Pr) A) args s 0 0 A) o_cls D A 3 181 [] (o_cw ad ca rt Sj T0 T1 Rd Pg Pt Mk Lk Ck Jd Ld Pr) [(0, .ref (ad 33)), (2, .int x2)] := by
  unfold m_Pt_readQuantifier_j181 at h
  intro H locs ls hP hS hl
  have C0 := C
  obtain ⟨hx, hb, -, -, -, hown, hts, hK, -, -⟩ := C0
  refine lv_iload_n hx hb d_Pt_readQuantifier_181 rfl (lv_at hl 1 rfl) ?_
  refine lv_if_eq (tgt := 207) hx hb d_Pt_readQuantifier_182 (by decide) (fun c5 => ?_) (fun c5 => ?_)
  · replace h := o_tt c5 h
    refine lv_iconst (v := (0:Int32)) hx hb d_Pt_readQuantifier_207 (by decide) ?_
    cases h
    exact o_rz (v := (0:Int32)) C o_nar0 hP hS d_Pt_readQuantifier_208
  · replace h := o_ff c5 h
    refine lv_aload_n hx hb d_Pt_readQuantifier_185 rfl (lv_at hl 0 rfl) ?_
    refine o_get (v := .int (Pt_least Pt)) C in_Pt hP 33 cw_33 rfl 6 (by decide) k_1_166 rfl rfl d_Pt_readQuantifier_186 ?_
    refine lv_bipush (v := (50:Int32)) hx hb d_Pt_readQuantifier_189 (by decide) ?_
    refine lv_icmp_gt (tgt := 207) hx hb d_Pt_readQuantifier_191 (by decide) (fun c6 => ?_) (fun c6 => ?_)
    · replace h := o_tt c6 h
      refine lv_iconst (v := (0:Int32)) hx hb d_Pt_readQuantifier_207 (by decide) ?_
      cases h
      exact o_rz (v := (0:Int32)) C o_nar0 hP hS d_Pt_readQuantifier_208
    · replace h := o_ff c6 h
      refine lv_aload_n hx hb d_Pt_readQuantifier_194 rfl (lv_at hl 0 rfl) ?_
      refine o_get (v := .int (Pt_most Pt)) C in_Pt hP 33 cw_33 rfl 7 (by decide) k_1_167 rfl rfl d_Pt_readQuantifier_195 ?_
      refine lv_bipush (v := (50:Int32)) hx hb d_Pt_readQuantifier_198 (by decide) ?_
      refine lv_icmp_gt (tgt := 207) hx hb d_Pt_readQuantifier_200 (by decide) (fun c7 => ?_) (fun c7 => ?_)
      · replace h := o_tt c7 h
        refine lv_iconst (v := (0:Int32)) hx hb d_Pt_readQuantifier_207 (by decide) ?_
        cases h
        exact o_rz (v := (0:Int32)) C o_nar0 hP hS d_Pt_readQuantifier_208
      · replace h := o_ff c7 h
        refine lv_iconst (v := (1:Int32)) hx hb d_Pt_readQuantifier_203 (by decide) ?_
        refine lv_goto (tgt := 208) hx hb d_Pt_readQuantifier_204 (by decide) ?_
        cases h
        exact o_rz (v := (1:Int32)) C o_nar1 hP hS d_Pt_readQuantifier_208
set_option maxHeartbeats 4000000 in
set_option maxRecDepth 100000 in
theorem w_Pt_readQuantifier_j161 {E : (Nat → Prop) → State → Heap → Prop} {p : Program} {l : Launch} {e : Env} {s : State} {m : MethodId} {args : Array Value} {below : List Frame} {meth : Method} {c : Code} {D : va_G} {ad kd sd vd xd : Nat → Nat} {ca : Nat → ClassId} {A : Nat → Prop} (hE : o_EK E kd sd vd xd) (C : o_Cx E p s m args meth c D o_cls (o_tys ca) "SchemaJudge$Pattern" b_Pt_readQuantifier (some .boolean) 3 cc_Pt_readQuantifier A) (hDD : ∀ (rt : Nat) (Sj : SSJ) (T0 : STx) (T1 : STx) (Rd : SRd) (Pg : SPg) (Pt : SPt) (Mk : SMk) (Lk : SLk) (Ck : SCk) (Jd : SJd) (Ld : SLd) (Pr : SPr), va_D A (o_cw ad ca rt Sj T0 T1 Rd Pg Pt Mk Lk Ck Jd Ld Pr)) (n : Nat) (x2 : Int32) (Pt : SPt) (Sj : SSJ) (T0 : STx) (T1 : STx) (Rd : SRd) (Pg : SPg) (Mk : SMk) (Lk : SLk) (Ck : SCk) (Jd : SJd) (Ld : SLd) (Pr : SPr) (rt : Nat) {r : Int32 × SPt} (h : m_Pt_readQuantifier_j161 n x2 Pt = some r) : o_At p l e rm_Pt_readQuantifier s m args below meth c (MQ below (o_Qx D o_cls (some (.int r.1)) (o_cw ad ca rt Sj T0 T1 Rd Pg r.2 Mk Lk Ck Jd Ld Pr) A) args s 0 0 A) o_cls D A 3 161 [] (o_cw ad ca rt Sj T0 T1 Rd Pg Pt Mk Lk Ck Jd Ld Pr) [(0, .ref (ad 33)), (2, .int x2)] := by
  unfold m_Pt_readQuantifier_j161 at h
  intro H locs ls hP hS hl
  have C0 := C
  obtain ⟨hx, hb, -, -, -, hown, hts, hK, -, -⟩ := C0
  refine lv_aload_n hx hb d_Pt_readQuantifier_161 rfl (lv_at hl 0 rfl) ?_
  refine lv_iconst (v := (0:Int32)) hx hb d_Pt_readQuantifier_162 (by decide) ?_
  obtain ⟨q2, hq2, h⟩ := o_bd_some h
  refine o_V (st1 := [.int q2]) (w1 := (o_cw ad ca rt Sj T0 T1 Rd Pg Pt Mk Lk Ck Jd Ld Pr)) hE.1 C (c_Pt_peek hE l (0:Int32) Pt Sj T0 T1 Rd Pg Mk Lk Ck Jd Ld Pr rt hq2) hP (hDD _ _ _ _ _ _ _ _ _ _ _ _ _) hS hl.1 rfl cw_33 k_4_214 k_4_216 k_s_28 k_1_5 k_4_217 hv_Pt_peek rfl rfl ⟨(Nat.le_of_ble_eq_true rfl), (Nat.le_of_ble_eq_true rfl)⟩ rfl (Nat.le_of_ble_eq_true rfl) ⟨Nat.zero_le _, Nat.zero_le _⟩ rfl d_Pt_readQuantifier_163 (fun H locs hP hS => ?_)
  refine lv_bipush (v := (-63:Int32)) hx hb d_Pt_readQuantifier_166 (by decide) ?_
  refine lv_icmp_ne (tgt := 181) hx hb d_Pt_readQuantifier_168 (by decide) (fun c4 => ?_) (fun c4 => ?_)
  · replace h := o_ff c4 h
    exact w_Pt_readQuantifier_j181 hE C hDD n x2 Pt Sj T0 T1 Rd Pg Mk Lk Ck Jd Ld Pr rt h _ _ _ hP hS (lv_sub hl [0, 1] rfl)
  · replace h := o_tt c4 h
    refine lv_aload_n hx hb d_Pt_readQuantifier_171 rfl (lv_at hl 0 rfl) ?_
    refine lv_dup hx hb d_Pt_readQuantifier_172 rfl ?_
    refine o_get (v := .int (Pt_position Pt)) C in_Pt hP 33 cw_33 rfl 4 (by decide) k_1_164 rfl rfl d_Pt_readQuantifier_173 ?_
    refine lv_iconst (v := (1:Int32)) hx hb d_Pt_readQuantifier_176 (by decide) ?_
    refine lv_iadd hx hb d_Pt_readQuantifier_177 ?_
    refine o_put (v := .int ((Pt_position Pt) + (1:Int32))) (ty := .int) (w1 := (o_cw ad ca rt Sj T0 T1 Rd Pg (Pt_mk (Pt_tokens Pt) (Pt_characterCount Pt) (Pt_tokenCount Pt) ((Pt_position Pt) + (1:Int32)) (Pt_total Pt) (Pt_least Pt) (Pt_most Pt) (Pt_depth Pt) (Pt_blockStarts Pt) (Pt_branchStarts Pt) (Pt_jumps Pt) (Pt_sizesBefore Pt)) Mk Lk Ck Jd Ld Pr)) C in_Pt t_Pt t_Pt_ok n_Pt hP (hDD _ _ _ _ _ _ _ _ _ _ _ _ _) hS 33 cw_33 rfl 4 (by decide) k_1_164 rfl rfl (by decide +kernel) rfl rfl (Nat.le_of_ble_eq_true rfl) rfl d_Pt_readQuantifier_178 (fun H locs hP hS => ?_)
    exact w_Pt_readQuantifier_j181 hE C hDD n x2 (Pt_mk (Pt_tokens Pt) (Pt_characterCount Pt) (Pt_tokenCount Pt) ((Pt_position Pt) + (1:Int32)) (Pt_total Pt) (Pt_least Pt) (Pt_most Pt) (Pt_depth Pt) (Pt_blockStarts Pt) (Pt_branchStarts Pt) (Pt_jumps Pt) (Pt_sizesBefore Pt)) Sj T0 T1 Rd Pg Mk Lk Ck Jd Ld Pr rt h _ _ _ hP hS (lv_sub hl [0, 1] rfl)
set_option maxHeartbeats 4000000 in
set_option maxRecDepth 100000 in
theorem w_Pt_readQuantifier_j150 {E : (Nat → Prop) → State → Heap → Prop} {p : Program} {l : Launch} {e : Env} {s : State} {m : MethodId} {args : Array Value} {below : List Frame} {meth : Method} {c : Code} {D : va_G} {ad kd sd vd xd : Nat → Nat} {ca : Nat → ClassId} {A : Nat → Prop} (hE : o_EK E kd sd vd xd) (C : o_Cx E p s m args meth c D o_cls (o_tys ca) "SchemaJudge$Pattern" b_Pt_readQuantifier (some .boolean) 3 cc_Pt_readQuantifier A) (hDD : ∀ (rt : Nat) (Sj : SSJ) (T0 : STx) (T1 : STx) (Rd : SRd) (Pg : SPg) (Pt : SPt) (Mk : SMk) (Lk : SLk) (Ck : SCk) (Jd : SJd) (Ld : SLd) (Pr : SPr), va_D A (o_cw ad ca rt Sj T0 T1 Rd Pg Pt Mk Lk Ck Jd Ld Pr)) (n : Nat) (y0 : Int32) (Pt : SPt) (Sj : SSJ) (T0 : STx) (T1 : STx) (Rd : SRd) (Pg : SPg) (Mk : SMk) (Lk : SLk) (Ck : SCk) (Jd : SJd) (Ld : SLd) (Pr : SPr) (rt : Nat) {r : Int32 × SPt} (h : m_Pt_readQuantifier_j150 n y0 Pt = some r) : o_At p l e rm_Pt_readQuantifier s m args below meth c (MQ below (o_Qx D o_cls (some (.int r.1)) (o_cw ad ca rt Sj T0 T1 Rd Pg r.2 Mk Lk Ck Jd Ld Pr) A) args s 0 0 A) o_cls D A 3 150 [.int y0] (o_cw ad ca rt Sj T0 T1 Rd Pg Pt Mk Lk Ck Jd Ld Pr) [(0, .ref (ad 33))] := by
  unfold m_Pt_readQuantifier_j150 at h
  intro H locs ls hP hS hl
  have C0 := C
  obtain ⟨hx, hb, -, -, -, hown, hts, hK, -, -⟩ := C0
  refine lv_istore_n (lv' := [(2, .int y0), (0, .ref (ad 33))]) hx hb d_Pt_readQuantifier_150 rfl hl (by decide) rfl (fun ls hl => ?_)
  refine lv_aload_n hx hb d_Pt_readQuantifier_151 rfl (lv_at hl 1 rfl) ?_
  refine lv_dup hx hb d_Pt_readQuantifier_152 rfl ?_
  refine o_get (v := .int (Pt_position Pt)) C in_Pt hP 33 cw_33 rfl 4 (by decide) k_1_164 rfl rfl d_Pt_readQuantifier_153 ?_
  refine lv_iconst (v := (1:Int32)) hx hb d_Pt_readQuantifier_156 (by decide) ?_
  refine lv_iadd hx hb d_Pt_readQuantifier_157 ?_
  refine o_put (v := .int ((Pt_position Pt) + (1:Int32))) (ty := .int) (w1 := (o_cw ad ca rt Sj T0 T1 Rd Pg (Pt_mk (Pt_tokens Pt) (Pt_characterCount Pt) (Pt_tokenCount Pt) ((Pt_position Pt) + (1:Int32)) (Pt_total Pt) (Pt_least Pt) (Pt_most Pt) (Pt_depth Pt) (Pt_blockStarts Pt) (Pt_branchStarts Pt) (Pt_jumps Pt) (Pt_sizesBefore Pt)) Mk Lk Ck Jd Ld Pr)) C in_Pt t_Pt t_Pt_ok n_Pt hP (hDD _ _ _ _ _ _ _ _ _ _ _ _ _) hS 33 cw_33 rfl 4 (by decide) k_1_164 rfl rfl (by decide +kernel) rfl rfl (Nat.le_of_ble_eq_true rfl) rfl d_Pt_readQuantifier_158 (fun H locs hP hS => ?_)
  exact w_Pt_readQuantifier_j161 hE C hDD n y0 (Pt_mk (Pt_tokens Pt) (Pt_characterCount Pt) (Pt_tokenCount Pt) ((Pt_position Pt) + (1:Int32)) (Pt_total Pt) (Pt_least Pt) (Pt_most Pt) (Pt_depth Pt) (Pt_blockStarts Pt) (Pt_branchStarts Pt) (Pt_jumps Pt) (Pt_sizesBefore Pt)) Sj T0 T1 Rd Pg Mk Lk Ck Jd Ld Pr rt h _ _ _ hP hS (lv_sub hl [1, 0] rfl)
set_option maxHeartbeats 4000000 in
set_option maxRecDepth 100000 in
theorem w_Pt_readQuantifier_j112 {E : (Nat → Prop) → State → Heap → Prop} {p : Program} {l : Launch} {e : Env} {s : State} {m : MethodId} {args : Array Value} {below : List Frame} {meth : Method} {c : Code} {D : va_G} {ad kd sd vd xd : Nat → Nat} {ca : Nat → ClassId} {A : Nat → Prop} (hE : o_EK E kd sd vd xd) (C : o_Cx E p s m args meth c D o_cls (o_tys ca) "SchemaJudge$Pattern" b_Pt_readQuantifier (some .boolean) 3 cc_Pt_readQuantifier A) (hDD : ∀ (rt : Nat) (Sj : SSJ) (T0 : STx) (T1 : STx) (Rd : SRd) (Pg : SPg) (Pt : SPt) (Mk : SMk) (Lk : SLk) (Ck : SCk) (Jd : SJd) (Ld : SLd) (Pr : SPr), va_D A (o_cw ad ca rt Sj T0 T1 Rd Pg Pt Mk Lk Ck Jd Ld Pr)) (n : Nat) (x2 : Int32) (Pt : SPt) (Sj : SSJ) (T0 : STx) (T1 : STx) (Rd : SRd) (Pg : SPg) (Mk : SMk) (Lk : SLk) (Ck : SCk) (Jd : SJd) (Ld : SLd) (Pr : SPr) (rt : Nat) {r : Int32 × SPt} (h : m_Pt_readQuantifier_j112 n x2 Pt = some r) : o_At p l e rm_Pt_readQuantifier s m args below meth c (MQ below (o_Qx D o_cls (some (.int r.1)) (o_cw ad ca rt Sj T0 T1 Rd Pg r.2 Mk Lk Ck Jd Ld Pr) A) args s 0 0 A) o_cls D A 3 112 [] (o_cw ad ca rt Sj T0 T1 Rd Pg Pt Mk Lk Ck Jd Ld Pr) [(0, .ref (ad 33)), (2, .int x2)] := by
  unfold m_Pt_readQuantifier_j112 at h
  intro H locs ls hP hS hl
  have C0 := C
  obtain ⟨hx, hb, -, -, -, hown, hts, hK, -, -⟩ := C0
  refine lv_iload_n hx hb d_Pt_readQuantifier_112 rfl (lv_at hl 1 rfl) ?_
  refine lv_if_eq (tgt := 149) hx hb d_Pt_readQuantifier_113 (by decide) (fun c10 => ?_) (fun c10 => ?_)
  · replace h := o_tt c10 h
    refine lv_iconst (v := (0:Int32)) hx hb d_Pt_readQuantifier_149 (by decide) ?_
    exact w_Pt_readQuantifier_j150 hE C hDD n (0:Int32) Pt Sj T0 T1 Rd Pg Mk Lk Ck Jd Ld Pr rt h _ _ _ hP hS (lv_sub hl [0] rfl)
  · replace h := o_ff c10 h
    refine lv_aload_n hx hb d_Pt_readQuantifier_116 rfl (lv_at hl 0 rfl) ?_
    refine lv_iconst (v := (0:Int32)) hx hb d_Pt_readQuantifier_117 (by decide) ?_
    obtain ⟨q5, hq5, h⟩ := o_bd_some h
    refine o_V (st1 := [.int q5]) (w1 := (o_cw ad ca rt Sj T0 T1 Rd Pg Pt Mk Lk Ck Jd Ld Pr)) hE.1 C (c_Pt_peek hE l (0:Int32) Pt Sj T0 T1 Rd Pg Mk Lk Ck Jd Ld Pr rt hq5) hP (hDD _ _ _ _ _ _ _ _ _ _ _ _ _) hS hl.1 rfl cw_33 k_4_214 k_4_216 k_s_28 k_1_5 k_4_217 hv_Pt_peek rfl rfl ⟨(Nat.le_of_ble_eq_true rfl), (Nat.le_of_ble_eq_true rfl)⟩ rfl (Nat.le_of_ble_eq_true rfl) ⟨Nat.zero_le _, Nat.zero_le _⟩ rfl d_Pt_readQuantifier_118 (fun H locs hP hS => ?_)
    refine lv_bipush (v := (-125:Int32)) hx hb d_Pt_readQuantifier_121 (by decide) ?_
    refine lv_icmp_ne (tgt := 149) hx hb d_Pt_readQuantifier_123 (by decide) (fun c11 => ?_) (fun c11 => ?_)
    · replace h := o_ff c11 h
      refine lv_iconst (v := (0:Int32)) hx hb d_Pt_readQuantifier_149 (by decide) ?_
      exact w_Pt_readQuantifier_j150 hE C hDD n (0:Int32) Pt Sj T0 T1 Rd Pg Mk Lk Ck Jd Ld Pr rt h _ _ _ hP hS (lv_sub hl [0] rfl)
    · replace h := o_tt c11 h
      refine lv_aload_n hx hb d_Pt_readQuantifier_126 rfl (lv_at hl 0 rfl) ?_
      refine o_get (v := .int (Pt_most Pt)) C in_Pt hP 33 cw_33 rfl 7 (by decide) k_1_167 rfl rfl d_Pt_readQuantifier_127 ?_
      refine lv_iconst (v := (-1:Int32)) hx hb d_Pt_readQuantifier_130 (by decide) ?_
      refine lv_icmp_eq (tgt := 145) hx hb d_Pt_readQuantifier_131 (by decide) (fun c12 => ?_) (fun c12 => ?_)
      · replace h := o_tt c12 h
        refine lv_iconst (v := (1:Int32)) hx hb d_Pt_readQuantifier_145 (by decide) ?_
        refine lv_goto (tgt := 150) hx hb d_Pt_readQuantifier_146 (by decide) ?_
        exact w_Pt_readQuantifier_j150 hE C hDD n (1:Int32) Pt Sj T0 T1 Rd Pg Mk Lk Ck Jd Ld Pr rt h _ _ _ hP hS (lv_sub hl [0] rfl)
      · replace h := o_ff c12 h
        refine lv_aload_n hx hb d_Pt_readQuantifier_134 rfl (lv_at hl 0 rfl) ?_
        refine o_get (v := .int (Pt_least Pt)) C in_Pt hP 33 cw_33 rfl 6 (by decide) k_1_166 rfl rfl d_Pt_readQuantifier_135 ?_
        refine lv_aload_n hx hb d_Pt_readQuantifier_138 rfl (lv_at hl 0 rfl) ?_
        refine o_get (v := .int (Pt_most Pt)) C in_Pt hP 33 cw_33 rfl 7 (by decide) k_1_167 rfl rfl d_Pt_readQuantifier_139 ?_
        refine lv_icmp_gt (tgt := 149) hx hb d_Pt_readQuantifier_142 (by decide) (fun c13 => ?_) (fun c13 => ?_)
        · replace h := o_tt c13 h
          refine lv_iconst (v := (0:Int32)) hx hb d_Pt_readQuantifier_149 (by decide) ?_
          exact w_Pt_readQuantifier_j150 hE C hDD n (0:Int32) Pt Sj T0 T1 Rd Pg Mk Lk Ck Jd Ld Pr rt h _ _ _ hP hS (lv_sub hl [0] rfl)
        · replace h := o_ff c13 h
          refine lv_iconst (v := (1:Int32)) hx hb d_Pt_readQuantifier_145 (by decide) ?_
          refine lv_goto (tgt := 150) hx hb d_Pt_readQuantifier_146 (by decide) ?_
          exact w_Pt_readQuantifier_j150 hE C hDD n (1:Int32) Pt Sj T0 T1 Rd Pg Mk Lk Ck Jd Ld Pr rt h _ _ _ hP hS (lv_sub hl [0] rfl)
set_option maxHeartbeats 4000000 in
set_option maxRecDepth 100000 in
theorem w_Pt_readQuantifier_j83 {E : (Nat → Prop) → State → Heap → Prop} {p : Program} {l : Launch} {e : Env} {s : State} {m : MethodId} {args : Array Value} {below : List Frame} {meth : Method} {c : Code} {D : va_G} {ad kd sd vd xd : Nat → Nat} {ca : Nat → ClassId} {A : Nat → Prop} (hE : o_EK E kd sd vd xd) (C : o_Cx E p s m args meth c D o_cls (o_tys ca) "SchemaJudge$Pattern" b_Pt_readQuantifier (some .boolean) 3 cc_Pt_readQuantifier A) (hDD : ∀ (rt : Nat) (Sj : SSJ) (T0 : STx) (T1 : STx) (Rd : SRd) (Pg : SPg) (Pt : SPt) (Mk : SMk) (Lk : SLk) (Ck : SCk) (Jd : SJd) (Ld : SLd) (Pr : SPr), va_D A (o_cw ad ca rt Sj T0 T1 Rd Pg Pt Mk Lk Ck Jd Ld Pr)) (n : Nat) (y0 : Int32) (Pt : SPt) (Sj : SSJ) (T0 : STx) (T1 : STx) (Rd : SRd) (Pg : SPg) (Mk : SMk) (Lk : SLk) (Ck : SCk) (Jd : SJd) (Ld : SLd) (Pr : SPr) (rt : Nat) {r : Int32 × SPt} (h : m_Pt_readQuantifier_j83 n y0 Pt = some r) : o_At p l e rm_Pt_readQuantifier s m args below meth c (MQ below (o_Qx D o_cls (some (.int r.1)) (o_cw ad ca rt Sj T0 T1 Rd Pg r.2 Mk Lk Ck Jd Ld Pr) A) args s 0 0 A) o_cls D A 3 83 [.int y0] (o_cw ad ca rt Sj T0 T1 Rd Pg Pt Mk Lk Ck Jd Ld Pr) [(0, .ref (ad 33))] := by
  unfold m_Pt_readQuantifier_j83 at h
  intro H locs ls hP hS hl
  have C0 := C
  obtain ⟨hx, hb, -, -, -, hown, hts, hK, -, -⟩ := C0
  refine lv_istore_n (lv' := [(2, .int y0), (0, .ref (ad 33))]) hx hb d_Pt_readQuantifier_83 rfl hl (by decide) rfl (fun ls hl => ?_)
  refine lv_aload_n hx hb d_Pt_readQuantifier_84 rfl (lv_at hl 1 rfl) ?_
  refine lv_iconst (v := (0:Int32)) hx hb d_Pt_readQuantifier_85 (by decide) ?_
  obtain ⟨q4, hq4, h⟩ := o_bd_some h
  refine o_V (st1 := [.int q4]) (w1 := (o_cw ad ca rt Sj T0 T1 Rd Pg Pt Mk Lk Ck Jd Ld Pr)) hE.1 C (c_Pt_peek hE l (0:Int32) Pt Sj T0 T1 Rd Pg Mk Lk Ck Jd Ld Pr rt hq4) hP (hDD _ _ _ _ _ _ _ _ _ _ _ _ _) hS hl.1 rfl cw_33 k_4_214 k_4_216 k_s_28 k_1_5 k_4_217 hv_Pt_peek rfl rfl ⟨(Nat.le_of_ble_eq_true rfl), (Nat.le_of_ble_eq_true rfl)⟩ rfl (Nat.le_of_ble_eq_true rfl) ⟨Nat.zero_le _, Nat.zero_le _⟩ rfl d_Pt_readQuantifier_86 (fun H locs hP hS => ?_)
  refine lv_bipush (v := (44:Int32)) hx hb d_Pt_readQuantifier_89 (by decide) ?_
  refine lv_icmp_ne (tgt := 112) hx hb d_Pt_readQuantifier_91 (by decide) (fun c9 => ?_) (fun c9 => ?_)
  · replace h := o_ff c9 h
    exact w_Pt_readQuantifier_j112 hE C hDD n y0 Pt Sj T0 T1 Rd Pg Mk Lk Ck Jd Ld Pr rt h _ _ _ hP hS (lv_sub hl [1, 0] rfl)
  · replace h := o_tt c9 h
    refine lv_aload_n hx hb d_Pt_readQuantifier_94 rfl (lv_at hl 1 rfl) ?_
    refine lv_dup hx hb d_Pt_readQuantifier_95 rfl ?_
    refine o_get (v := .int (Pt_position Pt)) C in_Pt hP 33 cw_33 rfl 4 (by decide) k_1_164 rfl rfl d_Pt_readQuantifier_96 ?_
    refine lv_iconst (v := (1:Int32)) hx hb d_Pt_readQuantifier_99 (by decide) ?_
    refine lv_iadd hx hb d_Pt_readQuantifier_100 ?_
    refine o_put (v := .int ((Pt_position Pt) + (1:Int32))) (ty := .int) (w1 := (o_cw ad ca rt Sj T0 T1 Rd Pg (Pt_mk (Pt_tokens Pt) (Pt_characterCount Pt) (Pt_tokenCount Pt) ((Pt_position Pt) + (1:Int32)) (Pt_total Pt) (Pt_least Pt) (Pt_most Pt) (Pt_depth Pt) (Pt_blockStarts Pt) (Pt_branchStarts Pt) (Pt_jumps Pt) (Pt_sizesBefore Pt)) Mk Lk Ck Jd Ld Pr)) C in_Pt t_Pt t_Pt_ok n_Pt hP (hDD _ _ _ _ _ _ _ _ _ _ _ _ _) hS 33 cw_33 rfl 4 (by decide) k_1_164 rfl rfl (by decide +kernel) rfl rfl (Nat.le_of_ble_eq_true rfl) rfl d_Pt_readQuantifier_101 (fun H locs hP hS => ?_)
    refine lv_aload_n hx hb d_Pt_readQuantifier_104 rfl (lv_at hl 1 rfl) ?_
    refine lv_aload_n hx hb d_Pt_readQuantifier_105 rfl (lv_at hl 1 rfl) ?_
    obtain ⟨q6, hq6, h⟩ := o_bd_some h
    refine o_V (st1 := [.int q6.1, .ref (ad 33)]) (w1 := (o_cw ad ca rt Sj T0 T1 Rd Pg q6.2 Mk Lk Ck Jd Ld Pr)) hE.1 C (c_Pt_readNumber hE l n (Pt_mk (Pt_tokens Pt) (Pt_characterCount Pt) (Pt_tokenCount Pt) ((Pt_position Pt) + (1:Int32)) (Pt_total Pt) (Pt_least Pt) (Pt_most Pt) (Pt_depth Pt) (Pt_blockStarts Pt) (Pt_branchStarts Pt) (Pt_jumps Pt) (Pt_sizesBefore Pt)) Sj T0 T1 Rd Pg Mk Lk Ck Jd Ld Pr rt hq6) hP (hDD _ _ _ _ _ _ _ _ _ _ _ _ _) hS hl.1 rfl cw_33 k_5_40 k_5_42 k_s_35 k_1_5 k_5_43 hv_Pt_readNumber rfl rfl ⟨(Nat.le_of_ble_eq_true rfl), (Nat.le_of_ble_eq_true rfl)⟩ rfl (Nat.le_of_ble_eq_true rfl) ⟨Nat.zero_le _, Nat.zero_le _⟩ rfl d_Pt_readQuantifier_106 (fun H locs hP hS => ?_)
    refine o_put (v := .int q6.1) (ty := .int) (w1 := (o_cw ad ca rt Sj T0 T1 Rd Pg (Pt_mk (Pt_tokens q6.2) (Pt_characterCount q6.2) (Pt_tokenCount q6.2) (Pt_position q6.2) (Pt_total q6.2) (Pt_least q6.2) q6.1 (Pt_depth q6.2) (Pt_blockStarts q6.2) (Pt_branchStarts q6.2) (Pt_jumps q6.2) (Pt_sizesBefore q6.2)) Mk Lk Ck Jd Ld Pr)) C in_Pt t_Pt t_Pt_ok n_Pt hP (hDD _ _ _ _ _ _ _ _ _ _ _ _ _) hS 33 cw_33 rfl 7 (by decide) k_1_167 rfl rfl (by decide +kernel) rfl rfl (Nat.le_of_ble_eq_true rfl) rfl d_Pt_readQuantifier_109 (fun H locs hP hS => ?_)
    exact w_Pt_readQuantifier_j112 hE C hDD n y0 (Pt_mk (Pt_tokens q6.2) (Pt_characterCount q6.2) (Pt_tokenCount q6.2) (Pt_position q6.2) (Pt_total q6.2) (Pt_least q6.2) q6.1 (Pt_depth q6.2) (Pt_blockStarts q6.2) (Pt_branchStarts q6.2) (Pt_jumps q6.2) (Pt_sizesBefore q6.2)) Sj T0 T1 Rd Pg Mk Lk Ck Jd Ld Pr rt h _ _ _ hP hS (lv_sub hl [1, 0] rfl)
set_option maxHeartbeats 4000000 in
set_option maxRecDepth 100000 in
theorem w_Pt_readQuantifier_j43 {E : (Nat → Prop) → State → Heap → Prop} {p : Program} {l : Launch} {e : Env} {s : State} {m : MethodId} {args : Array Value} {below : List Frame} {meth : Method} {c : Code} {D : va_G} {ad kd sd vd xd : Nat → Nat} {ca : Nat → ClassId} {A : Nat → Prop} (hE : o_EK E kd sd vd xd) (C : o_Cx E p s m args meth c D o_cls (o_tys ca) "SchemaJudge$Pattern" b_Pt_readQuantifier (some .boolean) 3 cc_Pt_readQuantifier A) (hDD : ∀ (rt : Nat) (Sj : SSJ) (T0 : STx) (T1 : STx) (Rd : SRd) (Pg : SPg) (Pt : SPt) (Mk : SMk) (Lk : SLk) (Ck : SCk) (Jd : SJd) (Ld : SLd) (Pr : SPr), va_D A (o_cw ad ca rt Sj T0 T1 Rd Pg Pt Mk Lk Ck Jd Ld Pr)) (n : Nat) (x1 : Int32) (y1 : Int32) (Pt : SPt) (Sj : SSJ) (T0 : STx) (T1 : STx) (Rd : SRd) (Pg : SPg) (Mk : SMk) (Lk : SLk) (Ck : SCk) (Jd : SJd) (Ld : SLd) (Pr : SPr) (rt : Nat) {r : Int32 × SPt} (h : m_Pt_readQuantifier_j43 n x1 y1 Pt = some r) : o_At p l e rm_Pt_readQuantifier s m args below meth c (MQ below (o_Qx D o_cls (some (.int r.1)) (o_cw ad ca rt Sj T0 T1 Rd Pg r.2 Mk Lk Ck Jd Ld Pr) A) args s 0 0 A) o_cls D A 3 43 [.int y1, .ref (ad 33)] (o_cw ad ca rt Sj T0 T1 Rd Pg Pt Mk Lk Ck Jd Ld Pr) [(0, .ref (ad 33)), (1, .int x1)] := by
  unfold m_Pt_readQuantifier_j43 at h
  intro H locs ls hP hS hl
  have C0 := C
  obtain ⟨hx, hb, -, -, -, hown, hts, hK, -, -⟩ := C0
  refine o_put (v := .int y1) (ty := .int) (w1 := (o_cw ad ca rt Sj T0 T1 Rd Pg (Pt_mk (Pt_tokens Pt) (Pt_characterCount Pt) (Pt_tokenCount Pt) (Pt_position Pt) (Pt_total Pt) (Pt_least Pt) y1 (Pt_depth Pt) (Pt_blockStarts Pt) (Pt_branchStarts Pt) (Pt_jumps Pt) (Pt_sizesBefore Pt)) Mk Lk Ck Jd Ld Pr)) C in_Pt t_Pt t_Pt_ok n_Pt hP (hDD _ _ _ _ _ _ _ _ _ _ _ _ _) hS 33 cw_33 rfl 7 (by decide) k_1_167 rfl rfl (by decide +kernel) rfl rfl (Nat.le_of_ble_eq_true rfl) rfl d_Pt_readQuantifier_43 (fun H locs hP hS => ?_)
  refine lv_iconst (v := (1:Int32)) hx hb d_Pt_readQuantifier_46 (by decide) ?_
  refine lv_istore_n (lv' := [(2, .int (1:Int32)), (0, .ref (ad 33)), (1, .int x1)]) hx hb d_Pt_readQuantifier_47 rfl hl (by decide) rfl (fun ls hl => ?_)
  refine lv_iload_n hx hb d_Pt_readQuantifier_48 rfl (lv_at hl 2 rfl) ?_
  refine lv_bipush (v := (-123:Int32)) hx hb d_Pt_readQuantifier_49 (by decide) ?_
  refine lv_icmp_ne (tgt := 161) hx hb d_Pt_readQuantifier_51 (by decide) (fun c3 => ?_) (fun c3 => ?_)
  · replace h := o_ff c3 h
    exact w_Pt_readQuantifier_j161 hE C hDD n (1:Int32) (Pt_mk (Pt_tokens Pt) (Pt_characterCount Pt) (Pt_tokenCount Pt) (Pt_position Pt) (Pt_total Pt) (Pt_least Pt) y1 (Pt_depth Pt) (Pt_blockStarts Pt) (Pt_branchStarts Pt) (Pt_jumps Pt) (Pt_sizesBefore Pt)) Sj T0 T1 Rd Pg Mk Lk Ck Jd Ld Pr rt h _ _ _ hP hS (lv_sub hl [1, 0] rfl)
  · replace h := o_tt c3 h
    refine lv_aload_n hx hb d_Pt_readQuantifier_54 rfl (lv_at hl 1 rfl) ?_
    refine lv_aload_n hx hb d_Pt_readQuantifier_55 rfl (lv_at hl 1 rfl) ?_
    obtain ⟨q3, hq3, h⟩ := o_bd_some h
    refine o_V (st1 := [.int q3.1, .ref (ad 33)]) (w1 := (o_cw ad ca rt Sj T0 T1 Rd Pg q3.2 Mk Lk Ck Jd Ld Pr)) hE.1 C (c_Pt_readNumber hE l n (Pt_mk (Pt_tokens Pt) (Pt_characterCount Pt) (Pt_tokenCount Pt) (Pt_position Pt) (Pt_total Pt) (Pt_least Pt) y1 (Pt_depth Pt) (Pt_blockStarts Pt) (Pt_branchStarts Pt) (Pt_jumps Pt) (Pt_sizesBefore Pt)) Sj T0 T1 Rd Pg Mk Lk Ck Jd Ld Pr rt hq3) hP (hDD _ _ _ _ _ _ _ _ _ _ _ _ _) hS hl.1 rfl cw_33 k_5_40 k_5_42 k_s_35 k_1_5 k_5_43 hv_Pt_readNumber rfl rfl ⟨(Nat.le_of_ble_eq_true rfl), (Nat.le_of_ble_eq_true rfl)⟩ rfl (Nat.le_of_ble_eq_true rfl) ⟨Nat.zero_le _, Nat.zero_le _⟩ rfl d_Pt_readQuantifier_56 (fun H locs hP hS => ?_)
    refine o_put (v := .int q3.1) (ty := .int) (w1 := (o_cw ad ca rt Sj T0 T1 Rd Pg (Pt_mk (Pt_tokens q3.2) (Pt_characterCount q3.2) (Pt_tokenCount q3.2) (Pt_position q3.2) (Pt_total q3.2) q3.1 (Pt_most q3.2) (Pt_depth q3.2) (Pt_blockStarts q3.2) (Pt_branchStarts q3.2) (Pt_jumps q3.2) (Pt_sizesBefore q3.2)) Mk Lk Ck Jd Ld Pr)) C in_Pt t_Pt t_Pt_ok n_Pt hP (hDD _ _ _ _ _ _ _ _ _ _ _ _ _) hS 33 cw_33 rfl 6 (by decide) k_1_166 rfl rfl (by decide +kernel) rfl rfl (Nat.le_of_ble_eq_true rfl) rfl d_Pt_readQuantifier_59 (fun H locs hP hS => ?_)
    refine lv_aload_n hx hb d_Pt_readQuantifier_62 rfl (lv_at hl 1 rfl) ?_
    refine lv_aload_n hx hb d_Pt_readQuantifier_63 rfl (lv_at hl 1 rfl) ?_
    refine o_get (v := .int q3.1) C in_Pt hP 33 cw_33 rfl 6 (by decide) k_1_166 rfl rfl d_Pt_readQuantifier_64 ?_
    refine o_put (v := .int q3.1) (ty := .int) (w1 := (o_cw ad ca rt Sj T0 T1 Rd Pg (Pt_mk (Pt_tokens q3.2) (Pt_characterCount q3.2) (Pt_tokenCount q3.2) (Pt_position q3.2) (Pt_total q3.2) q3.1 q3.1 (Pt_depth q3.2) (Pt_blockStarts q3.2) (Pt_branchStarts q3.2) (Pt_jumps q3.2) (Pt_sizesBefore q3.2)) Mk Lk Ck Jd Ld Pr)) C in_Pt t_Pt t_Pt_ok n_Pt hP (hDD _ _ _ _ _ _ _ _ _ _ _ _ _) hS 33 cw_33 rfl 7 (by decide) k_1_167 rfl rfl (by decide +kernel) rfl rfl (Nat.le_of_ble_eq_true rfl) rfl d_Pt_readQuantifier_67 (fun H locs hP hS => ?_)
    refine lv_aload_n hx hb d_Pt_readQuantifier_70 rfl (lv_at hl 1 rfl) ?_
    refine o_get (v := .int q3.1) C in_Pt hP 33 cw_33 rfl 6 (by decide) k_1_166 rfl rfl d_Pt_readQuantifier_71 ?_
    refine lv_iconst (v := (-1:Int32)) hx hb d_Pt_readQuantifier_74 (by decide) ?_
    refine lv_icmp_eq (tgt := 82) hx hb d_Pt_readQuantifier_75 (by decide) (fun c8 => ?_) (fun c8 => ?_)
    · replace h := o_tt c8 h
      refine lv_iconst (v := (0:Int32)) hx hb d_Pt_readQuantifier_82 (by decide) ?_
      exact w_Pt_readQuantifier_j83 hE C hDD n (0:Int32) (Pt_mk (Pt_tokens q3.2) (Pt_characterCount q3.2) (Pt_tokenCount q3.2) (Pt_position q3.2) (Pt_total q3.2) q3.1 q3.1 (Pt_depth q3.2) (Pt_blockStarts q3.2) (Pt_branchStarts q3.2) (Pt_jumps q3.2) (Pt_sizesBefore q3.2)) Sj T0 T1 Rd Pg Mk Lk Ck Jd Ld Pr rt h _ _ _ hP hS (lv_sub hl [1] rfl)
    · replace h := o_ff c8 h
      refine lv_iconst (v := (1:Int32)) hx hb d_Pt_readQuantifier_78 (by decide) ?_
      refine lv_goto (tgt := 83) hx hb d_Pt_readQuantifier_79 (by decide) ?_
      exact w_Pt_readQuantifier_j83 hE C hDD n (1:Int32) (Pt_mk (Pt_tokens q3.2) (Pt_characterCount q3.2) (Pt_tokenCount q3.2) (Pt_position q3.2) (Pt_total q3.2) q3.1 q3.1 (Pt_depth q3.2) (Pt_blockStarts q3.2) (Pt_branchStarts q3.2) (Pt_jumps q3.2) (Pt_sizesBefore q3.2)) Sj T0 T1 Rd Pg Mk Lk Ck Jd Ld Pr rt h _ _ _ hP hS (lv_sub hl [1] rfl)
set_option maxHeartbeats 4000000 in
set_option maxRecDepth 100000 in
theorem w_Pt_readQuantifier_j28 {E : (Nat → Prop) → State → Heap → Prop} {p : Program} {l : Launch} {e : Env} {s : State} {m : MethodId} {args : Array Value} {below : List Frame} {meth : Method} {c : Code} {D : va_G} {ad kd sd vd xd : Nat → Nat} {ca : Nat → ClassId} {A : Nat → Prop} (hE : o_EK E kd sd vd xd) (C : o_Cx E p s m args meth c D o_cls (o_tys ca) "SchemaJudge$Pattern" b_Pt_readQuantifier (some .boolean) 3 cc_Pt_readQuantifier A) (hDD : ∀ (rt : Nat) (Sj : SSJ) (T0 : STx) (T1 : STx) (Rd : SRd) (Pg : SPg) (Pt : SPt) (Mk : SMk) (Lk : SLk) (Ck : SCk) (Jd : SJd) (Ld : SLd) (Pr : SPr), va_D A (o_cw ad ca rt Sj T0 T1 Rd Pg Pt Mk Lk Ck Jd Ld Pr)) (n : Nat) (x1 : Int32) (y1 : Int32) (Pt : SPt) (Sj : SSJ) (T0 : STx) (T1 : STx) (Rd : SRd) (Pg : SPg) (Mk : SMk) (Lk : SLk) (Ck : SCk) (Jd : SJd) (Ld : SLd) (Pr : SPr) (rt : Nat) {r : Int32 × SPt} (h : m_Pt_readQuantifier_j28 n x1 y1 Pt = some r) : o_At p l e rm_Pt_readQuantifier s m args below meth c (MQ below (o_Qx D o_cls (some (.int r.1)) (o_cw ad ca rt Sj T0 T1 Rd Pg r.2 Mk Lk Ck Jd Ld Pr) A) args s 0 0 A) o_cls D A 3 28 [.int y1, .ref (ad 33)] (o_cw ad ca rt Sj T0 T1 Rd Pg Pt Mk Lk Ck Jd Ld Pr) [(0, .ref (ad 33)), (1, .int x1)] := by
  unfold m_Pt_readQuantifier_j28 at h
  intro H locs ls hP hS hl
  have C0 := C
  obtain ⟨hx, hb, -, -, -, hown, hts, hK, -, -⟩ := C0
  refine o_put (v := .int y1) (ty := .int) (w1 := (o_cw ad ca rt Sj T0 T1 Rd Pg (Pt_mk (Pt_tokens Pt) (Pt_characterCount Pt) (Pt_tokenCount Pt) (Pt_position Pt) (Pt_total Pt) y1 (Pt_most Pt) (Pt_depth Pt) (Pt_blockStarts Pt) (Pt_branchStarts Pt) (Pt_jumps Pt) (Pt_sizesBefore Pt)) Mk Lk Ck Jd Ld Pr)) C in_Pt t_Pt t_Pt_ok n_Pt hP (hDD _ _ _ _ _ _ _ _ _ _ _ _ _) hS 33 cw_33 rfl 6 (by decide) k_1_166 rfl rfl (by decide +kernel) rfl rfl (Nat.le_of_ble_eq_true rfl) rfl d_Pt_readQuantifier_28 (fun H locs hP hS => ?_)
  refine lv_aload_n hx hb d_Pt_readQuantifier_31 rfl (lv_at hl 0 rfl) ?_
  refine lv_iload_n hx hb d_Pt_readQuantifier_32 rfl (lv_at hl 1 rfl) ?_
  refine lv_bipush (v := (-63:Int32)) hx hb d_Pt_readQuantifier_33 (by decide) ?_
  refine lv_icmp_ne (tgt := 42) hx hb d_Pt_readQuantifier_35 (by decide) (fun c2 => ?_) (fun c2 => ?_)
  · replace h := o_ff c2 h
    refine lv_iconst (v := (-1:Int32)) hx hb d_Pt_readQuantifier_42 (by decide) ?_
    exact w_Pt_readQuantifier_j43 hE C hDD n x1 (-1:Int32) (Pt_mk (Pt_tokens Pt) (Pt_characterCount Pt) (Pt_tokenCount Pt) (Pt_position Pt) (Pt_total Pt) y1 (Pt_most Pt) (Pt_depth Pt) (Pt_blockStarts Pt) (Pt_branchStarts Pt) (Pt_jumps Pt) (Pt_sizesBefore Pt)) Sj T0 T1 Rd Pg Mk Lk Ck Jd Ld Pr rt h _ _ _ hP hS (lv_sub hl [0, 1] rfl)
  · replace h := o_tt c2 h
    refine lv_iconst (v := (1:Int32)) hx hb d_Pt_readQuantifier_38 (by decide) ?_
    refine lv_goto (tgt := 43) hx hb d_Pt_readQuantifier_39 (by decide) ?_
    exact w_Pt_readQuantifier_j43 hE C hDD n x1 (1:Int32) (Pt_mk (Pt_tokens Pt) (Pt_characterCount Pt) (Pt_tokenCount Pt) (Pt_position Pt) (Pt_total Pt) y1 (Pt_most Pt) (Pt_depth Pt) (Pt_blockStarts Pt) (Pt_branchStarts Pt) (Pt_jumps Pt) (Pt_sizesBefore Pt)) Sj T0 T1 Rd Pg Mk Lk Ck Jd Ld Pr rt h _ _ _ hP hS (lv_sub hl [0, 1] rfl)
set_option maxHeartbeats 4000000 in
set_option maxRecDepth 100000 in
theorem c_Pt_readQuantifier {E : (Nat → Prop) → State → Heap → Prop} {D : va_G} {ad kd sd vd xd : Nat → Nat} {ca : Nat → ClassId} (hE : o_EK E kd sd vd xd) (l : Launch) (n : Nat)  (Pt : SPt) (Sj : SSJ) (T0 : STx) (T1 : STx) (Rd : SRd) (Pg : SPg) (Mk : SMk) (Lk : SLk) (Ck : SCk) (Jd : SJd) (Ld : SLd) (Pr : SPr) (rt : Nat) {r : Int32 × SPt} (h : m_Pt_readQuantifier n Pt = some r) : o_Cn E l D o_cls (o_tys ca) y_Pt_readQuantifier cc_Pt_readQuantifier rm_Pt_readQuantifier [.ref (ad 33)] (o_cw ad ca rt Sj T0 T1 Rd Pg Pt Mk Lk Ck Jd Ld Pr) (o_cw ad ca rt Sj T0 T1 Rd Pg r.2 Mk Lk Ck Jd Ld Pr) (some (.int r.1)) := by
  refine o_Cn_of (by decide) (Nat.le_of_ble_eq_true rfl) ?_
  intro p e s m below meth c A ls C hD hP hS hl
  have hDD : ∀ (rt : Nat) (Sj : SSJ) (T0 : STx) (T1 : STx) (Rd : SRd) (Pg : SPg) (Pt : SPt) (Mk : SMk) (Lk : SLk) (Ck : SCk) (Jd : SJd) (Ld : SLd) (Pr : SPr), va_D A (o_cw ad ca rt Sj T0 T1 Rd Pg Pt Mk Lk Ck Jd Ld Pr) := fun _ _ _ _ _ _ _ _ _ _ _ _ _ => o_D_map hD rfl
  have hl : lv_has ls 3 [(0, .ref (ad 33))] := hl
  unfold m_Pt_readQuantifier at h
  have C0 := C
  obtain ⟨hx, hb, -, -, -, hown, hts, hK, -, -⟩ := C0
  refine lv_aload_n hx hb d_Pt_readQuantifier_0 rfl (lv_at hl 0 rfl) ?_
  refine lv_iconst (v := (0:Int32)) hx hb d_Pt_readQuantifier_1 (by decide) ?_
  obtain ⟨q1, hq1, h⟩ := o_bd_some h
  refine o_V (st1 := [.int q1]) (w1 := (o_cw ad ca rt Sj T0 T1 Rd Pg Pt Mk Lk Ck Jd Ld Pr)) hE.1 C (c_Pt_peek hE l (0:Int32) Pt Sj T0 T1 Rd Pg Mk Lk Ck Jd Ld Pr rt hq1) hP (hDD _ _ _ _ _ _ _ _ _ _ _ _ _) hS hl.1 rfl cw_33 k_4_214 k_4_216 k_s_28 k_1_5 k_4_217 hv_Pt_peek rfl rfl ⟨(Nat.le_of_ble_eq_true rfl), (Nat.le_of_ble_eq_true rfl)⟩ rfl (Nat.le_of_ble_eq_true rfl) ⟨Nat.zero_le _, Nat.zero_le _⟩ rfl d_Pt_readQuantifier_2 (fun H locs hP hS => ?_)
  refine lv_istore_n (lv' := [(1, .int q1), (0, .ref (ad 33))]) hx hb d_Pt_readQuantifier_5 rfl hl (by decide) rfl (fun ls hl => ?_)
  refine lv_aload_n hx hb d_Pt_readQuantifier_6 rfl (lv_at hl 1 rfl) ?_
  refine lv_dup hx hb d_Pt_readQuantifier_7 rfl ?_
  refine o_get (v := .int (Pt_position Pt)) C in_Pt hP 33 cw_33 rfl 4 (by decide) k_1_164 rfl rfl d_Pt_readQuantifier_8 ?_
  refine lv_iconst (v := (1:Int32)) hx hb d_Pt_readQuantifier_11 (by decide) ?_
  refine lv_iadd hx hb d_Pt_readQuantifier_12 ?_
  refine o_put (v := .int ((Pt_position Pt) + (1:Int32))) (ty := .int) (w1 := (o_cw ad ca rt Sj T0 T1 Rd Pg (Pt_mk (Pt_tokens Pt) (Pt_characterCount Pt) (Pt_tokenCount Pt) ((Pt_position Pt) + (1:Int32)) (Pt_total Pt) (Pt_least Pt) (Pt_most Pt) (Pt_depth Pt) (Pt_blockStarts Pt) (Pt_branchStarts Pt) (Pt_jumps Pt) (Pt_sizesBefore Pt)) Mk Lk Ck Jd Ld Pr)) C in_Pt t_Pt t_Pt_ok n_Pt hP (hDD _ _ _ _ _ _ _ _ _ _ _ _ _) hS 33 cw_33 rfl 4 (by decide) k_1_164 rfl rfl (by decide +kernel) rfl rfl (Nat.le_of_ble_eq_true rfl) rfl d_Pt_readQuantifier_13 (fun H locs hP hS => ?_)
  refine lv_aload_n hx hb d_Pt_readQuantifier_16 rfl (lv_at hl 1 rfl) ?_
  refine lv_iload_n hx hb d_Pt_readQuantifier_17 rfl (lv_at hl 0 rfl) ?_
  refine lv_bipush (v := (-43:Int32)) hx hb d_Pt_readQuantifier_18 (by decide) ?_
  refine lv_icmp_ne (tgt := 27) hx hb d_Pt_readQuantifier_20 (by decide) (fun c1 => ?_) (fun c1 => ?_)
  · replace h := o_ff c1 h
    refine lv_iconst (v := (0:Int32)) hx hb d_Pt_readQuantifier_27 (by decide) ?_
    exact w_Pt_readQuantifier_j28 hE C hDD n q1 (0:Int32) (Pt_mk (Pt_tokens Pt) (Pt_characterCount Pt) (Pt_tokenCount Pt) ((Pt_position Pt) + (1:Int32)) (Pt_total Pt) (Pt_least Pt) (Pt_most Pt) (Pt_depth Pt) (Pt_blockStarts Pt) (Pt_branchStarts Pt) (Pt_jumps Pt) (Pt_sizesBefore Pt)) Sj T0 T1 Rd Pg Mk Lk Ck Jd Ld Pr rt h _ _ _ hP hS (lv_sub hl [1, 0] rfl)
  · replace h := o_tt c1 h
    refine lv_iconst (v := (1:Int32)) hx hb d_Pt_readQuantifier_23 (by decide) ?_
    refine lv_goto (tgt := 28) hx hb d_Pt_readQuantifier_24 (by decide) ?_
    exact w_Pt_readQuantifier_j28 hE C hDD n q1 (1:Int32) (Pt_mk (Pt_tokens Pt) (Pt_characterCount Pt) (Pt_tokenCount Pt) ((Pt_position Pt) + (1:Int32)) (Pt_total Pt) (Pt_least Pt) (Pt_most Pt) (Pt_depth Pt) (Pt_blockStarts Pt) (Pt_branchStarts Pt) (Pt_jumps Pt) (Pt_sizesBefore Pt)) Sj T0 T1 Rd Pg Mk Lk Ck Jd Ld Pr rt h _ _ _ hP hS (lv_sub hl [1, 0] rfl)
set_option maxHeartbeats 4000000 in
set_option maxRecDepth 100000 in
theorem w_Pg_copy_j64 {E : (Nat → Prop) → State → Heap → Prop} {p : Program} {l : Launch} {e : Env} {s : State} {m : MethodId} {args : Array Value} {below : List Frame} {meth : Method} {c : Code} {D : va_G} {ad kd sd vd xd : Nat → Nat} {ca : Nat → ClassId} {A : Nat → Prop} (hE : o_EK E kd sd vd xd) (C : o_Cx E p s m args meth c D o_cls (o_tys ca) "SchemaJudge$Program" b_Pg_copy none 3 cc_Pg_copy A) (hDD : ∀ (rt : Nat) (Sj : SSJ) (T0 : STx) (T1 : STx) (Rd : SRd) (Pg : SPg) (Pt : SPt) (Mk : SMk) (Lk : SLk) (Ck : SCk) (Jd : SJd) (Ld : SLd) (Pr : SPr), va_D A (o_cw ad ca rt Sj T0 T1 Rd Pg Pt Mk Lk Ck Jd Ld Pr)) (x2 : Int32) (Pg : SPg) (Sj : SSJ) (T0 : STx) (T1 : STx) (Rd : SRd) (Pt : SPt) (Mk : SMk) (Lk : SLk) (Ck : SCk) (Jd : SJd) (Ld : SLd) (Pr : SPr) (rt : Nat) {r : SPg} (h : m_Pg_copy_j64 x2 Pg = some r) : o_At p l e rm_Pg_copy s m args below meth c (MQ below (o_Qx D o_cls none (o_cw ad ca rt Sj T0 T1 Rd r Pt Mk Lk Ck Jd Ld Pr) A) args s 0 0 A) o_cls D A 3 64 [] (o_cw ad ca rt Sj T0 T1 Rd Pg Pt Mk Lk Ck Jd Ld Pr) [(0, .ref (ad 25)), (2, .int x2)] := by
  unfold m_Pg_copy_j64 at h
  intro H locs ls hP hS hl
  have C0 := C
  obtain ⟨hx, hb, -, -, -, hown, hts, hK, -, -⟩ := C0
  refine lv_aload_n hx hb d_Pg_copy_64 rfl (lv_at hl 0 rfl) ?_
  refine lv_aload_n hx hb d_Pg_copy_65 rfl (lv_at hl 0 rfl) ?_
  refine o_get (v := .int (Pg_length Pg)) C in_Pg hP 25 cw_25 rfl 2 (by decide) k_1_121 rfl rfl d_Pg_copy_66 ?_
  refine lv_iload_n hx hb d_Pg_copy_69 rfl (lv_at hl 1 rfl) ?_
  refine lv_iadd hx hb d_Pg_copy_70 ?_
  refine lv_ldc (v := (1048576:Int32)) hx hb hown (hts _ k_5_5) d_Pg_copy_71 ?_
  refine va_mmin hx hb (C.2.2.2.2.1.trans hl.1.symm) hown (hts _ k_5_6) (hts _ k_4_114) (hts _ k_1_26) (hts _ k_4_115) (Nat.le_of_ble_eq_true rfl) (Nat.le_of_ble_eq_true rfl) (Nat.zero_le _) (Nat.zero_le _) d_Pg_copy_73 ?_
  refine o_put (v := .int (if (1048576:Int32) < ((Pg_length Pg) + x2) then (1048576:Int32) else ((Pg_length Pg) + x2))) (ty := .int) (w1 := (o_cw ad ca rt Sj T0 T1 Rd (Pg_mk (Pg_operations Pg) (Pg_arguments Pg) (if (1048576:Int32) < ((Pg_length Pg) + x2) then (1048576:Int32) else ((Pg_length Pg) + x2)) (Pg_sets Pg) (Pg_setsUsed Pg) (Pg_rounds Pg) (Pg_stack Pg) (Pg_top Pg) (Pg_waiting Pg) (Pg_waitingCount Pg) (Pg_moved Pg)) Pt Mk Lk Ck Jd Ld Pr)) C in_Pg t_Pg t_Pg_ok n_Pg hP (hDD _ _ _ _ _ _ _ _ _ _ _ _ _) hS 25 cw_25 rfl 2 (by decide) k_1_121 rfl rfl (by decide +kernel) rfl rfl (Nat.le_of_ble_eq_true rfl) rfl d_Pg_copy_76 (fun H locs hP hS => ?_)
  cases h
  exact o_rv C hP hS d_Pg_copy_79
set_option maxHeartbeats 4000000 in
set_option maxRecDepth 100000 in
theorem c_Pg_copy {E : (Nat → Prop) → State → Heap → Prop} {D : va_G} {ad kd sd vd xd : Nat → Nat} {ca : Nat → ClassId} (hE : o_EK E kd sd vd xd) (l : Launch) (x1 : Int32) (x2 : Int32) (Pg : SPg) (Sj : SSJ) (T0 : STx) (T1 : STx) (Rd : SRd) (Pt : SPt) (Mk : SMk) (Lk : SLk) (Ck : SCk) (Jd : SJd) (Ld : SLd) (Pr : SPr) (rt : Nat) {r : SPg} (h : m_Pg_copy x1 x2 Pg = some r) : o_Cn E l D o_cls (o_tys ca) y_Pg_copy cc_Pg_copy rm_Pg_copy [.ref (ad 25), .int x1, .int x2] (o_cw ad ca rt Sj T0 T1 Rd Pg Pt Mk Lk Ck Jd Ld Pr) (o_cw ad ca rt Sj T0 T1 Rd r Pt Mk Lk Ck Jd Ld Pr) none := by
  refine o_Cn_of (by decide) (Nat.le_of_ble_eq_true rfl) ?_
  intro p e s m below meth c A ls C hD hP hS hl
  have hDD : ∀ (rt : Nat) (Sj : SSJ) (T0 : STx) (T1 : STx) (Rd : SRd) (Pg : SPg) (Pt : SPt) (Mk : SMk) (Lk : SLk) (Ck : SCk) (Jd : SJd) (Ld : SLd) (Pr : SPr), va_D A (o_cw ad ca rt Sj T0 T1 Rd Pg Pt Mk Lk Ck Jd Ld Pr) := fun _ _ _ _ _ _ _ _ _ _ _ _ _ => o_D_map hD rfl
  have hl : lv_has ls 3 [(0, .ref (ad 25)), (1, .int x1), (2, .int x2)] := hl
  unfold m_Pg_copy at h
  have C0 := C
  obtain ⟨hx, hb, -, -, -, hown, hts, hK, -, -⟩ := C0
  refine lv_iload_n hx hb d_Pg_copy_0 rfl (lv_at hl 1 rfl) ?_
  refine lv_if_lt (tgt := 64) hx hb d_Pg_copy_1 (by decide) (fun c1 => ?_) (fun c1 => ?_)
  · replace h := o_tt c1 h
    exact w_Pg_copy_j64 hE C hDD x2 Pg Sj T0 T1 Rd Pt Mk Lk Ck Jd Ld Pr rt h _ _ _ hP hS (lv_sub hl [0, 2] rfl)
  · replace h := o_ff c1 h
    refine lv_iload_n hx hb d_Pg_copy_4 rfl (lv_at hl 2 rfl) ?_
    refine lv_if_lt (tgt := 64) hx hb d_Pg_copy_5 (by decide) (fun c2 => ?_) (fun c2 => ?_)
    · replace h := o_tt c2 h
      exact w_Pg_copy_j64 hE C hDD x2 Pg Sj T0 T1 Rd Pt Mk Lk Ck Jd Ld Pr rt h _ _ _ hP hS (lv_sub hl [0, 2] rfl)
    · replace h := o_ff c2 h
      refine lv_iload_n hx hb d_Pg_copy_8 rfl (lv_at hl 1 rfl) ?_
      refine lv_iload_n hx hb d_Pg_copy_9 rfl (lv_at hl 2 rfl) ?_
      refine lv_iadd hx hb d_Pg_copy_10 ?_
      refine lv_aload_n hx hb d_Pg_copy_11 rfl (lv_at hl 0 rfl) ?_
      refine o_get (v := .int (Pg_length Pg)) C in_Pg hP 25 cw_25 rfl 2 (by decide) k_1_121 rfl rfl d_Pg_copy_12 ?_
      refine lv_icmp_gt (tgt := 64) hx hb d_Pg_copy_15 (by decide) (fun c3 => ?_) (fun c3 => ?_)
      · replace h := o_tt c3 h
        exact w_Pg_copy_j64 hE C hDD x2 Pg Sj T0 T1 Rd Pt Mk Lk Ck Jd Ld Pr rt h _ _ _ hP hS (lv_sub hl [0, 2] rfl)
      · replace h := o_ff c3 h
        refine lv_aload_n hx hb d_Pg_copy_18 rfl (lv_at hl 0 rfl) ?_
        refine o_get (v := .int (Pg_length Pg)) C in_Pg hP 25 cw_25 rfl 2 (by decide) k_1_121 rfl rfl d_Pg_copy_19 ?_
        refine lv_iload_n hx hb d_Pg_copy_22 rfl (lv_at hl 2 rfl) ?_
        refine lv_iadd hx hb d_Pg_copy_23 ?_
        refine lv_sipush (v := (1300:Int32)) hx hb d_Pg_copy_24 (by decide) ?_
        refine lv_icmp_gt (tgt := 64) hx hb d_Pg_copy_27 (by decide) (fun c4 => ?_) (fun c4 => ?_)
        · replace h := o_tt c4 h
          exact w_Pg_copy_j64 hE C hDD x2 Pg Sj T0 T1 Rd Pt Mk Lk Ck Jd Ld Pr rt h _ _ _ hP hS (lv_sub hl [0, 2] rfl)
        · replace h := o_ff c4 h
          refine lv_aload_n hx hb d_Pg_copy_30 rfl (lv_at hl 0 rfl) ?_
          refine o_get (v := .ref (ad 26)) C in_Pg hP 25 cw_25 rfl 0 (by decide) k_1_119 rfl rfl d_Pg_copy_31 ?_
          refine lv_iload_n hx hb d_Pg_copy_34 rfl (lv_at hl 1 rfl) ?_
          refine lv_aload_n hx hb d_Pg_copy_35 rfl (lv_at hl 0 rfl) ?_
          refine o_get (v := .ref (ad 26)) C in_Pg hP 25 cw_25 rfl 0 (by decide) k_1_119 rfl rfl d_Pg_copy_36 ?_
          refine lv_aload_n hx hb d_Pg_copy_39 rfl (lv_at hl 0 rfl) ?_
          refine o_get (v := .int (Pg_length Pg)) C in_Pg hP 25 cw_25 rfl 2 (by decide) k_1_121 rfl rfl d_Pg_copy_40 ?_
          refine lv_iload_n hx hb d_Pg_copy_43 rfl (lv_at hl 2 rfl) ?_
          obtain ⟨g5, h⟩ := o_gd_some h
          refine o_cpi (f := (Pg_operations Pg)) (g := (Pg_operations Pg)) (w1 := (o_cw ad ca rt Sj T0 T1 Rd (Pg_mk (va_cpy (Pg_operations Pg) (Pg_operations Pg) x1.toNatClampNeg (Pg_length Pg).toNatClampNeg x2.toNatClampNeg) (Pg_arguments Pg) (Pg_length Pg) (Pg_sets Pg) (Pg_setsUsed Pg) (Pg_rounds Pg) (Pg_stack Pg) (Pg_top Pg) (Pg_waiting Pg) (Pg_waitingCount Pg) (Pg_moved Pg)) Pt Mk Lk Ck Jd Ld Pr)) C hP (hDD _ _ _ _ _ _ _ _ _ _ _ _ _) hS hl.1 k_5_2 k_5_4 k_5_3 k_1_28 26 26 21 21 cw_26 cw_26 rfl rfl g5 rfl (Nat.le_of_ble_eq_true rfl) (Nat.le_of_ble_eq_true rfl) d_Pg_copy_44 (fun H locs hP hS => ?_)
          refine lv_aload_n hx hb d_Pg_copy_47 rfl (lv_at hl 0 rfl) ?_
          refine o_get (v := .ref (ad 27)) C in_Pg hP 25 cw_25 rfl 1 (by decide) k_1_120 rfl rfl d_Pg_copy_48 ?_
          refine lv_iload_n hx hb d_Pg_copy_51 rfl (lv_at hl 1 rfl) ?_
          refine lv_aload_n hx hb d_Pg_copy_52 rfl (lv_at hl 0 rfl) ?_
          refine o_get (v := .ref (ad 27)) C in_Pg hP 25 cw_25 rfl 1 (by decide) k_1_120 rfl rfl d_Pg_copy_53 ?_
          refine lv_aload_n hx hb d_Pg_copy_56 rfl (lv_at hl 0 rfl) ?_
          refine o_get (v := .int (Pg_length Pg)) C in_Pg hP 25 cw_25 rfl 2 (by decide) k_1_121 rfl rfl d_Pg_copy_57 ?_
          refine lv_iload_n hx hb d_Pg_copy_60 rfl (lv_at hl 2 rfl) ?_
          obtain ⟨g6, h⟩ := o_gd_some h
          refine o_cpi (f := (Pg_arguments Pg)) (g := (Pg_arguments Pg)) (w1 := (o_cw ad ca rt Sj T0 T1 Rd (Pg_mk (va_cpy (Pg_operations Pg) (Pg_operations Pg) x1.toNatClampNeg (Pg_length Pg).toNatClampNeg x2.toNatClampNeg) (va_cpy (Pg_arguments Pg) (Pg_arguments Pg) x1.toNatClampNeg (Pg_length Pg).toNatClampNeg x2.toNatClampNeg) (Pg_length Pg) (Pg_sets Pg) (Pg_setsUsed Pg) (Pg_rounds Pg) (Pg_stack Pg) (Pg_top Pg) (Pg_waiting Pg) (Pg_waitingCount Pg) (Pg_moved Pg)) Pt Mk Lk Ck Jd Ld Pr)) C hP (hDD _ _ _ _ _ _ _ _ _ _ _ _ _) hS hl.1 k_5_2 k_5_4 k_5_3 k_1_28 27 27 22 22 cw_27 cw_27 rfl rfl g6 rfl (Nat.le_of_ble_eq_true rfl) (Nat.le_of_ble_eq_true rfl) d_Pg_copy_61 (fun H locs hP hS => ?_)
          exact w_Pg_copy_j64 hE C hDD x2 (Pg_mk (va_cpy (Pg_operations Pg) (Pg_operations Pg) x1.toNatClampNeg (Pg_length Pg).toNatClampNeg x2.toNatClampNeg) (va_cpy (Pg_arguments Pg) (Pg_arguments Pg) x1.toNatClampNeg (Pg_length Pg).toNatClampNeg x2.toNatClampNeg) (Pg_length Pg) (Pg_sets Pg) (Pg_setsUsed Pg) (Pg_rounds Pg) (Pg_stack Pg) (Pg_top Pg) (Pg_waiting Pg) (Pg_waitingCount Pg) (Pg_moved Pg)) Sj T0 T1 Rd Pt Mk Lk Ck Jd Ld Pr rt h _ _ _ hP hS (lv_sub hl [0, 2] rfl)
set_option maxHeartbeats 4000000 in
set_option maxRecDepth 100000 in
theorem w_Pg_repeat_b99 {E : (Nat → Prop) → State → Heap → Prop} {p : Program} {l : Launch} {e : Env} {s : State} {m : MethodId} {args : Array Value} {below : List Frame} {meth : Method} {c : Code} {D : va_G} {ad kd sd vd xd : Nat → Nat} {ca : Nat → ClassId} {A : Nat → Prop} {Q : State → Prop} (hE : o_EK E kd sd vd xd) (C : o_Cx E p s m args meth c D o_cls (o_tys ca) "SchemaJudge$Program" b_Pg_repeat none 6 cc_Pg_repeat A) (hDD : ∀ (rt : Nat) (Sj : SSJ) (T0 : STx) (T1 : STx) (Rd : SRd) (Pg : SPg) (Pt : SPt) (Mk : SMk) (Lk : SLk) (Ck : SCk) (Jd : SJd) (Ld : SLd) (Pr : SPr), va_D A (o_cw ad ca rt Sj T0 T1 Rd Pg Pt Mk Lk Ck Jd Ld Pr)) (n : Nat) (u99_x1 : Int32) (u99_x2 : Int32) (u99_x3 : Int32) (u99_x4 : Int32) (u99_Sj : SSJ) (u99_T0 : STx) (u99_T1 : STx) (u99_Rd : SRd) (u99_Pt : SPt) (u99_Mk : SMk) (u99_Lk : SLk) (u99_Ck : SCk) (u99_Jd : SJd) (u99_Ld : SLd) (u99_Pr : SPr) (u99_rt : Nat) (z : Int32 × SPg) (q : Nat × Int32 × SPg) (h : m_Pg_repeat_b99 n u99_x1 u99_x2 u99_x3 u99_x4 z = some q) (h0 : q.1 = 0 → o_At p l e rm_Pg_repeat s m args below meth c Q o_cls D A 6 99 [] (o_cw ad ca u99_rt u99_Sj u99_T0 u99_T1 u99_Rd q.2.2 u99_Pt u99_Mk u99_Lk u99_Ck u99_Jd u99_Ld u99_Pr) [(0, .ref (ad 25)), (1, .int u99_x1), (2, .int u99_x2), (3, .int u99_x3), (4, .int u99_x4), (5, .int q.2.1)]) (h1 : q.1 ≠ 0 → (o_At p l e rm_Pg_repeat s m args below meth c Q o_cls D A 6 118 [] (o_cw ad ca u99_rt u99_Sj u99_T0 u99_T1 u99_Rd q.2.2 u99_Pt u99_Mk u99_Lk u99_Ck u99_Jd u99_Ld u99_Pr) [(0, .ref (ad 25)), (1, .int u99_x1), (2, .int u99_x2), (3, .int u99_x3), (4, .int u99_x4)])) : o_At p l e rm_Pg_repeat s m args below meth c Q o_cls D A 6 99 [] (o_cw ad ca u99_rt u99_Sj u99_T0 u99_T1 u99_Rd z.2 u99_Pt u99_Mk u99_Lk u99_Ck u99_Jd u99_Ld u99_Pr) [(0, .ref (ad 25)), (1, .int u99_x1), (2, .int u99_x2), (3, .int u99_x3), (4, .int u99_x4), (5, .int z.1)] := by
  unfold m_Pg_repeat_b99 at h
  intro H locs ls hP hS hl
  have C0 := C
  obtain ⟨hx, hb, -, -, -, hown, hts, hK, -, -⟩ := C0
  refine lv_iload hx hb d_Pg_repeat_99 (lv_at hl 5 rfl) ?_
  refine lv_iload_n hx hb d_Pg_repeat_101 rfl (lv_at hl 2 rfl) ?_
  refine lv_icmp_ge (tgt := 118) hx hb d_Pg_repeat_102 (by decide) (fun c5 => ?_) (fun c5 => ?_)
  · replace h := o_tt c5 h
    cases h
    exact h1 (Nat.succ_ne_zero 0) _ _ _ hP hS (lv_sub hl [0, 1, 2, 3, 4] rfl)
  · replace h := o_ff c5 h
    refine lv_aload_n hx hb d_Pg_repeat_105 rfl (lv_at hl 0 rfl) ?_
    refine lv_iload_n hx hb d_Pg_repeat_106 rfl (lv_at hl 1 rfl) ?_
    refine lv_iload hx hb d_Pg_repeat_107 (lv_at hl 4 rfl) ?_
    obtain ⟨q1, hq1, h⟩ := o_bd_some h
    refine o_V (st1 := []) (w1 := (o_cw ad ca u99_rt u99_Sj u99_T0 u99_T1 u99_Rd q1 u99_Pt u99_Mk u99_Lk u99_Ck u99_Jd u99_Ld u99_Pr)) hE.1 C (c_Pg_copy hE l u99_x1 u99_x4 z.2 u99_Sj u99_T0 u99_T1 u99_Rd u99_Pt u99_Mk u99_Lk u99_Ck u99_Jd u99_Ld u99_Pr u99_rt hq1) hP (hDD _ _ _ _ _ _ _ _ _ _ _ _ _) hS hl.1 rfl cw_25 k_5_52 k_5_54 k_s_36 k_1_4 k_5_55 hv_Pg_copy rfl rfl ⟨(Nat.le_of_ble_eq_true rfl), (Nat.le_of_ble_eq_true rfl)⟩ rfl (Nat.le_of_ble_eq_true rfl) ⟨Nat.zero_le _, Nat.zero_le _⟩ rfl d_Pg_repeat_109 (fun H locs hP hS => ?_)
    obtain ⟨x5_112, ex5_112⟩ : ∃ y : Int32, y = z.1 + (1:Int32) := ⟨_, rfl⟩
    replace h := o_nm_at ex5_112 h
    refine lv_iinc (v := x5_112) (lv' := [(5, .int x5_112), (0, .ref (ad 25)), (1, .int u99_x1), (2, .int u99_x2), (3, .int u99_x3), (4, .int u99_x4)]) hx hb d_Pg_repeat_112 hl (k := 5) rfl (by rw [ex5_112]; rfl) (by decide) rfl (fun ls hl => ?_)
    refine lv_goto (tgt := 99) hx hb d_Pg_repeat_115 (by decide) ?_
    cases h
    exact h0 rfl _ _ _ hP hS (lv_sub hl [1, 2, 3, 4, 5, 0] rfl)
set_option maxHeartbeats 4000000 in
set_option maxRecDepth 100000 in
theorem w_Pg_repeat_b135 {E : (Nat → Prop) → State → Heap → Prop} {p : Program} {l : Launch} {e : Env} {s : State} {m : MethodId} {args : Array Value} {below : List Frame} {meth : Method} {c : Code} {D : va_G} {ad kd sd vd xd : Nat → Nat} {ca : Nat → ClassId} {A : Nat → Prop} {Q : State → Prop} (hE : o_EK E kd sd vd xd) (C : o_Cx E p s m args meth c D o_cls (o_tys ca) "SchemaJudge$Program" b_Pg_repeat none 6 cc_Pg_repeat A) (hDD : ∀ (rt : Nat) (Sj : SSJ) (T0 : STx) (T1 : STx) (Rd : SRd) (Pg : SPg) (Pt : SPt) (Mk : SMk) (Lk : SLk) (Ck : SCk) (Jd : SJd) (Ld : SLd) (Pr : SPr), va_D A (o_cw ad ca rt Sj T0 T1 Rd Pg Pt Mk Lk Ck Jd Ld Pr)) (n : Nat) (u135_x1 : Int32) (u135_x3 : Int32) (u135_x4 : Int32) (u135_Sj : SSJ) (u135_T0 : STx) (u135_T1 : STx) (u135_Rd : SRd) (u135_Pt : SPt) (u135_Mk : SMk) (u135_Lk : SLk) (u135_Ck : SCk) (u135_Jd : SJd) (u135_Ld : SLd) (u135_Pr : SPr) (u135_rt : Nat) (z : Int32 × SPg) (q : Nat × Int32 × SPg) (h : m_Pg_repeat_b135 n u135_x1 u135_x3 u135_x4 z = some q) (h0 : q.1 = 0 → o_At p l e rm_Pg_repeat s m args below meth c Q o_cls D A 6 135 [] (o_cw ad ca u135_rt u135_Sj u135_T0 u135_T1 u135_Rd q.2.2 u135_Pt u135_Mk u135_Lk u135_Ck u135_Jd u135_Ld u135_Pr) [(0, .ref (ad 25)), (1, .int u135_x1), (3, .int u135_x3), (4, .int u135_x4), (5, .int q.2.1)]) (h1 : q.1 ≠ 0 → (o_At p l e rm_Pg_repeat s m args below meth c Q o_cls D A 6 164 [] (o_cw ad ca u135_rt u135_Sj u135_T0 u135_T1 u135_Rd q.2.2 u135_Pt u135_Mk u135_Lk u135_Ck u135_Jd u135_Ld u135_Pr) [])) : o_At p l e rm_Pg_repeat s m args below meth c Q o_cls D A 6 135 [] (o_cw ad ca u135_rt u135_Sj u135_T0 u135_T1 u135_Rd z.2 u135_Pt u135_Mk u135_Lk u135_Ck u135_Jd u135_Ld u135_Pr) [(0, .ref (ad 25)), (1, .int u135_x1), (3, .int u135_x3), (4, .int u135_x4), (5, .int z.1)] := by
  unfold m_Pg_repeat_b135 at h
  intro H locs ls hP hS hl
  have C0 := C
  obtain ⟨hx, hb, -, -, -, hown, hts, hK, -, -⟩ := C0
  refine lv_iload hx hb d_Pg_repeat_135 (lv_at hl 4 rfl) ?_
  refine lv_iload_n hx hb d_Pg_repeat_137 rfl (lv_at hl 2 rfl) ?_
  refine lv_icmp_ge (tgt := 164) hx hb d_Pg_repeat_138 (by decide) (fun c7 => ?_) (fun c7 => ?_)
  · replace h := o_tt c7 h
    cases h
    exact h1 (Nat.succ_ne_zero 0) _ _ _ hP hS (lv_sub hl [] rfl)
  · replace h := o_ff c7 h
    refine lv_aload_n hx hb d_Pg_repeat_141 rfl (lv_at hl 0 rfl) ?_
    refine lv_bipush (v := (6:Int32)) hx hb d_Pg_repeat_142 (by decide) ?_
    refine lv_iload hx hb d_Pg_repeat_144 (lv_at hl 3 rfl) ?_
    refine lv_iconst (v := (1:Int32)) hx hb d_Pg_repeat_146 (by decide) ?_
    refine lv_iadd hx hb d_Pg_repeat_147 ?_
    obtain ⟨q3, hq3, h⟩ := o_bd_some h
    refine o_V (st1 := []) (w1 := (o_cw ad ca u135_rt u135_Sj u135_T0 u135_T1 u135_Rd q3 u135_Pt u135_Mk u135_Lk u135_Ck u135_Jd u135_Ld u135_Pr)) hE.1 C (c_Pg_emit hE l (6:Int32) (u135_x4 + (1:Int32)) z.2 u135_Sj u135_T0 u135_T1 u135_Rd u135_Pt u135_Mk u135_Lk u135_Ck u135_Jd u135_Ld u135_Pr u135_rt hq3) hP (hDD _ _ _ _ _ _ _ _ _ _ _ _ _) hS hl.1 rfl cw_25 k_5_51 k_5_8 k_5_9 k_1_4 k_5_10 hv_Pg_emit rfl rfl ⟨(Nat.le_of_ble_eq_true rfl), (Nat.le_of_ble_eq_true rfl)⟩ rfl (Nat.le_of_ble_eq_true rfl) ⟨Nat.zero_le _, Nat.zero_le _⟩ rfl d_Pg_repeat_148 (fun H locs hP hS => ?_)
    refine lv_aload_n hx hb d_Pg_repeat_151 rfl (lv_at hl 0 rfl) ?_
    refine lv_iload_n hx hb d_Pg_repeat_152 rfl (lv_at hl 1 rfl) ?_
    refine lv_iload hx hb d_Pg_repeat_153 (lv_at hl 3 rfl) ?_
    obtain ⟨q4, hq4, h⟩ := o_bd_some h
    refine o_V (st1 := []) (w1 := (o_cw ad ca u135_rt u135_Sj u135_T0 u135_T1 u135_Rd q4 u135_Pt u135_Mk u135_Lk u135_Ck u135_Jd u135_Ld u135_Pr)) hE.1 C (c_Pg_copy hE l u135_x1 u135_x4 q3 u135_Sj u135_T0 u135_T1 u135_Rd u135_Pt u135_Mk u135_Lk u135_Ck u135_Jd u135_Ld u135_Pr u135_rt hq4) hP (hDD _ _ _ _ _ _ _ _ _ _ _ _ _) hS hl.1 rfl cw_25 k_5_52 k_5_54 k_s_36 k_1_4 k_5_55 hv_Pg_copy rfl rfl ⟨(Nat.le_of_ble_eq_true rfl), (Nat.le_of_ble_eq_true rfl)⟩ rfl (Nat.le_of_ble_eq_true rfl) ⟨Nat.zero_le _, Nat.zero_le _⟩ rfl d_Pg_repeat_155 (fun H locs hP hS => ?_)
    obtain ⟨x5_158, ex5_158⟩ : ∃ y : Int32, y = z.1 + (1:Int32) := ⟨_, rfl⟩
    replace h := o_nm_at ex5_158 h
    refine lv_iinc (v := x5_158) (lv' := [(5, .int x5_158), (0, .ref (ad 25)), (1, .int u135_x1), (3, .int u135_x3), (4, .int u135_x4)]) hx hb d_Pg_repeat_158 hl (k := 4) rfl (by rw [ex5_158]; rfl) (by decide) rfl (fun ls hl => ?_)
    refine lv_goto (tgt := 135) hx hb d_Pg_repeat_161 (by decide) ?_
    cases h
    exact h0 rfl _ _ _ hP hS (lv_sub hl [1, 2, 3, 4, 0] rfl)
set_option maxHeartbeats 4000000 in
set_option maxRecDepth 100000 in
theorem w_Pg_repeat_b74 {E : (Nat → Prop) → State → Heap → Prop} {p : Program} {l : Launch} {e : Env} {s : State} {m : MethodId} {args : Array Value} {below : List Frame} {meth : Method} {c : Code} {D : va_G} {ad kd sd vd xd : Nat → Nat} {ca : Nat → ClassId} {A : Nat → Prop} {Q : State → Prop} (hE : o_EK E kd sd vd xd) (C : o_Cx E p s m args meth c D o_cls (o_tys ca) "SchemaJudge$Program" b_Pg_repeat none 6 cc_Pg_repeat A) (hDD : ∀ (rt : Nat) (Sj : SSJ) (T0 : STx) (T1 : STx) (Rd : SRd) (Pg : SPg) (Pt : SPt) (Mk : SMk) (Lk : SLk) (Ck : SCk) (Jd : SJd) (Ld : SLd) (Pr : SPr), va_D A (o_cw ad ca rt Sj T0 T1 Rd Pg Pt Mk Lk Ck Jd Ld Pr)) (n : Nat) (u74_x1 : Int32) (u74_x3 : Int32) (u74_x4 : Int32) (u74_Sj : SSJ) (u74_T0 : STx) (u74_T1 : STx) (u74_Rd : SRd) (u74_Pt : SPt) (u74_Mk : SMk) (u74_Lk : SLk) (u74_Ck : SCk) (u74_Jd : SJd) (u74_Ld : SLd) (u74_Pr : SPr) (u74_rt : Nat) (z : Int32 × SPg) (q : Nat × Int32 × SPg) (h : m_Pg_repeat_b74 n u74_x1 u74_x3 u74_x4 z = some q) (h0 : q.1 = 0 → o_At p l e rm_Pg_repeat s m args below meth c Q o_cls D A 6 74 [] (o_cw ad ca u74_rt u74_Sj u74_T0 u74_T1 u74_Rd q.2.2 u74_Pt u74_Mk u74_Lk u74_Ck u74_Jd u74_Ld u74_Pr) [(0, .ref (ad 25)), (1, .int u74_x1), (3, .int u74_x3), (4, .int u74_x4), (5, .int q.2.1)]) (h1 : q.1 ≠ 0 → (o_At p l e rm_Pg_repeat s m args below meth c Q o_cls D A 6 95 [] (o_cw ad ca u74_rt u74_Sj u74_T0 u74_T1 u74_Rd q.2.2 u74_Pt u74_Mk u74_Lk u74_Ck u74_Jd u74_Ld u74_Pr) [])) : o_At p l e rm_Pg_repeat s m args below meth c Q o_cls D A 6 74 [] (o_cw ad ca u74_rt u74_Sj u74_T0 u74_T1 u74_Rd z.2 u74_Pt u74_Mk u74_Lk u74_Ck u74_Jd u74_Ld u74_Pr) [(0, .ref (ad 25)), (1, .int u74_x1), (3, .int u74_x3), (4, .int u74_x4), (5, .int z.1)] := by
  unfold m_Pg_repeat_b74 at h
  intro H locs ls hP hS hl
  have C0 := C
  obtain ⟨hx, hb, -, -, -, hown, hts, hK, -, -⟩ := C0
  refine lv_iload hx hb d_Pg_repeat_74 (lv_at hl 4 rfl) ?_
  refine lv_iload_n hx hb d_Pg_repeat_76 rfl (lv_at hl 2 rfl) ?_
  refine lv_icmp_ge (tgt := 95) hx hb d_Pg_repeat_77 (by decide) (fun c10 => ?_) (fun c10 => ?_)
  · replace h := o_tt c10 h
    cases h
    exact h1 (Nat.succ_ne_zero 0) _ _ _ hP hS (lv_sub hl [] rfl)
  · replace h := o_ff c10 h
    refine lv_aload_n hx hb d_Pg_repeat_80 rfl (lv_at hl 0 rfl) ?_
    refine lv_iload_n hx hb d_Pg_repeat_81 rfl (lv_at hl 1 rfl) ?_
    refine lv_iload hx hb d_Pg_repeat_82 (lv_at hl 3 rfl) ?_
    refine lv_iconst (v := (1:Int32)) hx hb d_Pg_repeat_84 (by decide) ?_
    refine lv_iadd hx hb d_Pg_repeat_85 ?_
    obtain ⟨q9, hq9, h⟩ := o_bd_some h
    refine o_V (st1 := []) (w1 := (o_cw ad ca u74_rt u74_Sj u74_T0 u74_T1 u74_Rd q9 u74_Pt u74_Mk u74_Lk u74_Ck u74_Jd u74_Ld u74_Pr)) hE.1 C (c_Pg_copy hE l u74_x1 (u74_x4 + (1:Int32)) z.2 u74_Sj u74_T0 u74_T1 u74_Rd u74_Pt u74_Mk u74_Lk u74_Ck u74_Jd u74_Ld u74_Pr u74_rt hq9) hP (hDD _ _ _ _ _ _ _ _ _ _ _ _ _) hS hl.1 rfl cw_25 k_5_52 k_5_54 k_s_36 k_1_4 k_5_55 hv_Pg_copy rfl rfl ⟨(Nat.le_of_ble_eq_true rfl), (Nat.le_of_ble_eq_true rfl)⟩ rfl (Nat.le_of_ble_eq_true rfl) ⟨Nat.zero_le _, Nat.zero_le _⟩ rfl d_Pg_repeat_86 (fun H locs hP hS => ?_)
    obtain ⟨x5_89, ex5_89⟩ : ∃ y : Int32, y = z.1 + (1:Int32) := ⟨_, rfl⟩
    replace h := o_nm_at ex5_89 h
    refine lv_iinc (v := x5_89) (lv' := [(5, .int x5_89), (0, .ref (ad 25)), (1, .int u74_x1), (3, .int u74_x3), (4, .int u74_x4)]) hx hb d_Pg_repeat_89 hl (k := 4) rfl (by rw [ex5_89]; rfl) (by decide) rfl (fun ls hl => ?_)
    refine lv_goto (tgt := 74) hx hb d_Pg_repeat_92 (by decide) ?_
    cases h
    exact h0 rfl _ _ _ hP hS (lv_sub hl [1, 2, 3, 4, 0] rfl)
set_option maxHeartbeats 4000000 in
set_option maxRecDepth 100000 in
theorem w_Pg_repeat_j52 {E : (Nat → Prop) → State → Heap → Prop} {p : Program} {l : Launch} {e : Env} {s : State} {m : MethodId} {args : Array Value} {below : List Frame} {meth : Method} {c : Code} {D : va_G} {ad kd sd vd xd : Nat → Nat} {ca : Nat → ClassId} {A : Nat → Prop} (hE : o_EK E kd sd vd xd) (C : o_Cx E p s m args meth c D o_cls (o_tys ca) "SchemaJudge$Program" b_Pg_repeat none 6 cc_Pg_repeat A) (hDD : ∀ (rt : Nat) (Sj : SSJ) (T0 : STx) (T1 : STx) (Rd : SRd) (Pg : SPg) (Pt : SPt) (Mk : SMk) (Lk : SLk) (Ck : SCk) (Jd : SJd) (Ld : SLd) (Pr : SPr), va_D A (o_cw ad ca rt Sj T0 T1 Rd Pg Pt Mk Lk Ck Jd Ld Pr)) (n : Nat) (x1 : Int32) (x3 : Int32) (x4 : Int32) (y1 : Int32) (y2 : Int32) (y3 : Int32) (Pg : SPg) (Sj : SSJ) (T0 : STx) (T1 : STx) (Rd : SRd) (Pt : SPt) (Mk : SMk) (Lk : SLk) (Ck : SCk) (Jd : SJd) (Ld : SLd) (Pr : SPr) (rt : Nat) {r : SPg} (h : m_Pg_repeat_j52 n x1 x3 x4 y1 y2 y3 Pg = some r) : o_At p l e rm_Pg_repeat s m args below meth c (MQ below (o_Qx D o_cls none (o_cw ad ca rt Sj T0 T1 Rd r Pt Mk Lk Ck Jd Ld Pr) A) args s 0 0 A) o_cls D A 6 52 [.int y3, .int y2, .int y1, .ref (ad 25)] (o_cw ad ca rt Sj T0 T1 Rd Pg Pt Mk Lk Ck Jd Ld Pr) [(0, .ref (ad 25)), (1, .int x1), (3, .int x3), (4, .int x4)] := by
  unfold m_Pg_repeat_j52 at h
  intro H locs ls hP hS hl
  have C0 := C
  obtain ⟨hx, hb, -, -, -, hown, hts, hK, -, -⟩ := C0
  obtain ⟨q8, hq8, h⟩ := o_bd_some h
  refine o_V (st1 := []) (w1 := (o_cw ad ca rt Sj T0 T1 Rd q8 Pt Mk Lk Ck Jd Ld Pr)) hE.1 C (c_Pg_insert hE l y1 y2 y3 Pg Sj T0 T1 Rd Pt Mk Lk Ck Jd Ld Pr rt hq8) hP (hDD _ _ _ _ _ _ _ _ _ _ _ _ _) hS hl.1 rfl cw_25 k_5_50 k_4_239 k_5_0 k_1_4 k_5_1 hv_Pg_insert rfl rfl ⟨(Nat.le_of_ble_eq_true rfl), (Nat.le_of_ble_eq_true rfl)⟩ rfl (Nat.le_of_ble_eq_true rfl) ⟨Nat.zero_le _, Nat.zero_le _⟩ rfl d_Pg_repeat_52 (fun H locs hP hS => ?_)
  refine lv_iload_n hx hb d_Pg_repeat_55 rfl (lv_at hl 2 rfl) ?_
  refine lv_iconst (v := (-1:Int32)) hx hb d_Pg_repeat_56 (by decide) ?_
  refine lv_icmp_ne (tgt := 71) hx hb d_Pg_repeat_57 (by decide) (fun c9 => ?_) (fun c9 => ?_)
  · replace h := o_ff c9 h
    refine lv_iconst (v := (1:Int32)) hx hb d_Pg_repeat_71 (by decide) ?_
    refine lv_istore (lv' := [(5, .int (1:Int32)), (0, .ref (ad 25)), (1, .int x1), (3, .int x3), (4, .int x4)]) hx hb d_Pg_repeat_72 hl (by decide) rfl (fun ls hl => ?_)
    obtain ⟨q10, hq10, h⟩ := o_bd_some h
    refine o_sim2 (AH := fun zz => o_At p l e rm_Pg_repeat s m args below meth c _ o_cls D A 6 74 [] (o_cw ad ca rt Sj T0 T1 Rd zz.2 Pt Mk Lk Ck Jd Ld Pr) [(0, .ref (ad 25)), (1, .int x1), (3, .int x3), (4, .int x4), (5, .int zz.1)]) (AX := fun qq => o_At p l e rm_Pg_repeat s m args below meth c _ o_cls D A 6 95 [] (o_cw ad ca rt Sj T0 T1 Rd qq.2.2 Pt Mk Lk Ck Jd Ld Pr) []) (fun zz qq h h0 h1 => w_Pg_repeat_b74 hE C hDD n x1 x3 x4 Sj T0 T1 Rd Pt Mk Lk Ck Jd Ld Pr rt zz qq h h0 h1) n _ q10 hq10 ?_ _ _ _ hP hS (lv_sub hl [1, 2, 3, 4, 0] rfl)
    intro H locs ls hP hS hl
    cases h
    exact o_rv C hP hS d_Pg_repeat_95
  · replace h := o_tt c9 h
    refine lv_aload_n hx hb d_Pg_repeat_60 rfl (lv_at hl 0 rfl) ?_
    refine lv_bipush (v := (7:Int32)) hx hb d_Pg_repeat_61 (by decide) ?_
    refine lv_iload hx hb d_Pg_repeat_63 (lv_at hl 3 rfl) ?_
    refine lv_iconst (v := (1:Int32)) hx hb d_Pg_repeat_65 (by decide) ?_
    refine lv_iadd hx hb d_Pg_repeat_66 ?_
    refine lv_ineg hx hb d_Pg_repeat_67 ?_
    obtain ⟨q11, hq11, h⟩ := o_bd_some h
    refine o_V (st1 := []) (w1 := (o_cw ad ca rt Sj T0 T1 Rd q11 Pt Mk Lk Ck Jd Ld Pr)) hE.1 C (c_Pg_emit hE l (7:Int32) (-(x4 + (1:Int32))) q8 Sj T0 T1 Rd Pt Mk Lk Ck Jd Ld Pr rt hq11) hP (hDD _ _ _ _ _ _ _ _ _ _ _ _ _) hS hl.1 rfl cw_25 k_5_51 k_5_8 k_5_9 k_1_4 k_5_10 hv_Pg_emit rfl rfl ⟨(Nat.le_of_ble_eq_true rfl), (Nat.le_of_ble_eq_true rfl)⟩ rfl (Nat.le_of_ble_eq_true rfl) ⟨Nat.zero_le _, Nat.zero_le _⟩ rfl d_Pg_repeat_68 (fun H locs hP hS => ?_)
    refine lv_iconst (v := (1:Int32)) hx hb d_Pg_repeat_71 (by decide) ?_
    refine lv_istore (lv' := [(5, .int (1:Int32)), (0, .ref (ad 25)), (1, .int x1), (3, .int x3), (4, .int x4)]) hx hb d_Pg_repeat_72 hl (by decide) rfl (fun ls hl => ?_)
    obtain ⟨q12, hq12, h⟩ := o_bd_some h
    refine o_sim2 (AH := fun zz => o_At p l e rm_Pg_repeat s m args below meth c _ o_cls D A 6 74 [] (o_cw ad ca rt Sj T0 T1 Rd zz.2 Pt Mk Lk Ck Jd Ld Pr) [(0, .ref (ad 25)), (1, .int x1), (3, .int x3), (4, .int x4), (5, .int zz.1)]) (AX := fun qq => o_At p l e rm_Pg_repeat s m args below meth c _ o_cls D A 6 95 [] (o_cw ad ca rt Sj T0 T1 Rd qq.2.2 Pt Mk Lk Ck Jd Ld Pr) []) (fun zz qq h h0 h1 => w_Pg_repeat_b74 hE C hDD n x1 x3 x4 Sj T0 T1 Rd Pt Mk Lk Ck Jd Ld Pr rt zz qq h h0 h1) n _ q12 hq12 ?_ _ _ _ hP hS (lv_sub hl [1, 2, 3, 4, 0] rfl)
    intro H locs ls hP hS hl
    cases h
    exact o_rv C hP hS d_Pg_repeat_95
set_option maxHeartbeats 4000000 in
set_option maxRecDepth 100000 in
theorem c_Pg_repeat {E : (Nat → Prop) → State → Heap → Prop} {D : va_G} {ad kd sd vd xd : Nat → Nat} {ca : Nat → ClassId} (hE : o_EK E kd sd vd xd) (l : Launch) (n : Nat) (x1 : Int32) (x2 : Int32) (x3 : Int32) (Pg : SPg) (Sj : SSJ) (T0 : STx) (T1 : STx) (Rd : SRd) (Pt : SPt) (Mk : SMk) (Lk : SLk) (Ck : SCk) (Jd : SJd) (Ld : SLd) (Pr : SPr) (rt : Nat) {r : SPg} (h : m_Pg_repeat n x1 x2 x3 Pg = some r) : o_Cn E l D o_cls (o_tys ca) y_Pg_repeat cc_Pg_repeat rm_Pg_repeat [.ref (ad 25), .int x1, .int x2, .int x3] (o_cw ad ca rt Sj T0 T1 Rd Pg Pt Mk Lk Ck Jd Ld Pr) (o_cw ad ca rt Sj T0 T1 Rd r Pt Mk Lk Ck Jd Ld Pr) none := by
  refine o_Cn_of (by decide) (Nat.le_of_ble_eq_true rfl) ?_
  intro p e s m below meth c A ls C hD hP hS hl
  have hDD : ∀ (rt : Nat) (Sj : SSJ) (T0 : STx) (T1 : STx) (Rd : SRd) (Pg : SPg) (Pt : SPt) (Mk : SMk) (Lk : SLk) (Ck : SCk) (Jd : SJd) (Ld : SLd) (Pr : SPr), va_D A (o_cw ad ca rt Sj T0 T1 Rd Pg Pt Mk Lk Ck Jd Ld Pr) := fun _ _ _ _ _ _ _ _ _ _ _ _ _ => o_D_map hD rfl
  have hl : lv_has ls 6 [(0, .ref (ad 25)), (1, .int x1), (2, .int x2), (3, .int x3)] := hl
  unfold m_Pg_repeat at h
  have C0 := C
  obtain ⟨hx, hb, -, -, -, hown, hts, hK, -, -⟩ := C0
  refine lv_aload_n hx hb d_Pg_repeat_0 rfl (lv_at hl 0 rfl) ?_
  refine o_get (v := .int (Pg_length Pg)) C in_Pg hP 25 cw_25 rfl 2 (by decide) k_1_121 rfl rfl d_Pg_repeat_1 ?_
  refine lv_iload_n hx hb d_Pg_repeat_4 rfl (lv_at hl 1 rfl) ?_
  refine lv_isub hx hb d_Pg_repeat_5 ?_
  refine lv_topi (fun x4_6 ex4_6 => ?_)
  replace h := o_nm_at ex4_6 h
  refine lv_istore (lv' := [(4, .int x4_6), (0, .ref (ad 25)), (1, .int x1), (2, .int x2), (3, .int x3)]) hx hb d_Pg_repeat_6 hl (by decide) rfl (fun ls hl => ?_)
  refine lv_iload_n hx hb d_Pg_repeat_8 rfl (lv_at hl 2 rfl) ?_
  refine lv_if_lt (tgt := 17) hx hb d_Pg_repeat_9 (by decide) (fun c1 => ?_) (fun c1 => ?_)
  · replace h := o_tt c1 h
    cases h
    exact o_rv C hP hS d_Pg_repeat_17
  · replace h := o_ff c1 h
    refine lv_iload hx hb d_Pg_repeat_12 (lv_at hl 0 rfl) ?_
    refine lv_if_gt (tgt := 18) hx hb d_Pg_repeat_14 (by decide) (fun c2 => ?_) (fun c2 => ?_)
    · replace h := o_tt c2 h
      refine lv_iload_n hx hb d_Pg_repeat_18 rfl (lv_at hl 4 rfl) ?_
      refine lv_if_ne (tgt := 28) hx hb d_Pg_repeat_19 (by decide) (fun c3 => ?_) (fun c3 => ?_)
      · replace h := o_ff c3 h
        refine lv_iload_n hx hb d_Pg_repeat_28 rfl (lv_at hl 3 rfl) ?_
        refine lv_if_ne (tgt := 96) hx hb d_Pg_repeat_29 (by decide) (fun c4 => ?_) (fun c4 => ?_)
        · replace h := o_ff c4 h
          refine lv_iconst (v := (1:Int32)) hx hb d_Pg_repeat_96 (by decide) ?_
          refine lv_istore (lv' := [(5, .int (1:Int32)), (4, .int x4_6), (0, .ref (ad 25)), (1, .int x1), (2, .int x2), (3, .int x3)]) hx hb d_Pg_repeat_97 hl (by decide) rfl (fun ls hl => ?_)
          obtain ⟨q2, hq2, h⟩ := o_bd_some h
          refine o_sim2 (AH := fun zz => o_At p l e rm_Pg_repeat s m _ below meth c _ o_cls D A 6 99 [] (o_cw ad ca rt Sj T0 T1 Rd zz.2 Pt Mk Lk Ck Jd Ld Pr) [(0, .ref (ad 25)), (1, .int x1), (2, .int x2), (3, .int x3), (4, .int x4_6), (5, .int zz.1)]) (AX := fun qq => o_At p l e rm_Pg_repeat s m _ below meth c _ o_cls D A 6 118 [] (o_cw ad ca rt Sj T0 T1 Rd qq.2.2 Pt Mk Lk Ck Jd Ld Pr) [(0, .ref (ad 25)), (1, .int x1), (2, .int x2), (3, .int x3), (4, .int x4_6)]) (fun zz qq h h0 h1 => w_Pg_repeat_b99 hE C hDD n x1 x2 x3 x4_6 Sj T0 T1 Rd Pt Mk Lk Ck Jd Ld Pr rt zz qq h h0 h1) n _ q2 hq2 ?_ _ _ _ hP hS (lv_sub hl [2, 3, 4, 5, 1, 0] rfl)
          intro H locs ls hP hS hl
          refine lv_iload_n hx hb d_Pg_repeat_118 rfl (lv_at hl 3 rfl) ?_
          refine lv_iconst (v := (-1:Int32)) hx hb d_Pg_repeat_119 (by decide) ?_
          refine lv_icmp_ne (tgt := 132) hx hb d_Pg_repeat_120 (by decide) (fun c6 => ?_) (fun c6 => ?_)
          · replace h := o_ff c6 h
            refine lv_iload_n hx hb d_Pg_repeat_132 rfl (lv_at hl 2 rfl) ?_
            refine lv_istore (lv' := [(5, .int x2), (0, .ref (ad 25)), (1, .int x1), (2, .int x2), (3, .int x3), (4, .int x4_6)]) hx hb d_Pg_repeat_133 hl (by decide) rfl (fun ls hl => ?_)
            obtain ⟨q5, hq5, h⟩ := o_bd_some h
            refine o_sim2 (AH := fun zz => o_At p l e rm_Pg_repeat s m _ below meth c _ o_cls D A 6 135 [] (o_cw ad ca rt Sj T0 T1 Rd zz.2 Pt Mk Lk Ck Jd Ld Pr) [(0, .ref (ad 25)), (1, .int x1), (3, .int x3), (4, .int x4_6), (5, .int zz.1)]) (AX := fun qq => o_At p l e rm_Pg_repeat s m _ below meth c _ o_cls D A 6 164 [] (o_cw ad ca rt Sj T0 T1 Rd qq.2.2 Pt Mk Lk Ck Jd Ld Pr) []) (fun zz qq h h0 h1 => w_Pg_repeat_b135 hE C hDD n x1 x3 x4_6 Sj T0 T1 Rd Pt Mk Lk Ck Jd Ld Pr rt zz qq h h0 h1) n _ q5 hq5 ?_ _ _ _ hP hS (lv_sub hl [1, 2, 4, 5, 0] rfl)
            intro H locs ls hP hS hl
            cases h
            exact o_rv C hP hS d_Pg_repeat_164
          · replace h := o_tt c6 h
            refine lv_aload_n hx hb d_Pg_repeat_123 rfl (lv_at hl 0 rfl) ?_
            refine lv_bipush (v := (6:Int32)) hx hb d_Pg_repeat_124 (by decide) ?_
            refine lv_iload hx hb d_Pg_repeat_126 (lv_at hl 4 rfl) ?_
            refine lv_ineg hx hb d_Pg_repeat_128 ?_
            obtain ⟨q6, hq6, h⟩ := o_bd_some h
            refine o_V (st1 := []) (w1 := (o_cw ad ca rt Sj T0 T1 Rd q6 Pt Mk Lk Ck Jd Ld Pr)) hE.1 C (c_Pg_emit hE l (6:Int32) (-x4_6) q2.2.2 Sj T0 T1 Rd Pt Mk Lk Ck Jd Ld Pr rt hq6) hP (hDD _ _ _ _ _ _ _ _ _ _ _ _ _) hS hl.1 rfl cw_25 k_5_51 k_5_8 k_5_9 k_1_4 k_5_10 hv_Pg_emit rfl rfl ⟨(Nat.le_of_ble_eq_true rfl), (Nat.le_of_ble_eq_true rfl)⟩ rfl (Nat.le_of_ble_eq_true rfl) ⟨Nat.zero_le _, Nat.zero_le _⟩ rfl d_Pg_repeat_129 (fun H locs hP hS => ?_)
            refine lv_iload_n hx hb d_Pg_repeat_132 rfl (lv_at hl 2 rfl) ?_
            refine lv_istore (lv' := [(5, .int x2), (0, .ref (ad 25)), (1, .int x1), (2, .int x2), (3, .int x3), (4, .int x4_6)]) hx hb d_Pg_repeat_133 hl (by decide) rfl (fun ls hl => ?_)
            obtain ⟨q7, hq7, h⟩ := o_bd_some h
            refine o_sim2 (AH := fun zz => o_At p l e rm_Pg_repeat s m _ below meth c _ o_cls D A 6 135 [] (o_cw ad ca rt Sj T0 T1 Rd zz.2 Pt Mk Lk Ck Jd Ld Pr) [(0, .ref (ad 25)), (1, .int x1), (3, .int x3), (4, .int x4_6), (5, .int zz.1)]) (AX := fun qq => o_At p l e rm_Pg_repeat s m _ below meth c _ o_cls D A 6 164 [] (o_cw ad ca rt Sj T0 T1 Rd qq.2.2 Pt Mk Lk Ck Jd Ld Pr) []) (fun zz qq h h0 h1 => w_Pg_repeat_b135 hE C hDD n x1 x3 x4_6 Sj T0 T1 Rd Pt Mk Lk Ck Jd Ld Pr rt zz qq h h0 h1) n _ q7 hq7 ?_ _ _ _ hP hS (lv_sub hl [1, 2, 4, 5, 0] rfl)
            intro H locs ls hP hS hl
            cases h
            exact o_rv C hP hS d_Pg_repeat_164
        · replace h := o_tt c4 h
          refine lv_aload_n hx hb d_Pg_repeat_32 rfl (lv_at hl 1 rfl) ?_
          refine lv_iload_n hx hb d_Pg_repeat_33 rfl (lv_at hl 2 rfl) ?_
          refine lv_bipush (v := (6:Int32)) hx hb d_Pg_repeat_34 (by decide) ?_
          refine lv_iload_n hx hb d_Pg_repeat_36 rfl (lv_at hl 4 rfl) ?_
          refine lv_iconst (v := (-1:Int32)) hx hb d_Pg_repeat_37 (by decide) ?_
          refine lv_icmp_ne (tgt := 48) hx hb d_Pg_repeat_38 (by decide) (fun c8 => ?_) (fun c8 => ?_)
          · replace h := o_ff c8 h
            refine lv_iload hx hb d_Pg_repeat_48 (lv_at hl 0 rfl) ?_
            refine lv_iconst (v := (1:Int32)) hx hb d_Pg_repeat_50 (by decide) ?_
            refine lv_iadd hx hb d_Pg_repeat_51 ?_
            exact w_Pg_repeat_j52 hE C hDD n x1 x3 x4_6 x1 (6:Int32) (x4_6 + (1:Int32)) Pg Sj T0 T1 Rd Pt Mk Lk Ck Jd Ld Pr rt h _ _ _ hP hS (lv_sub hl [1, 2, 4, 0] rfl)
          · replace h := o_tt c8 h
            refine lv_iload hx hb d_Pg_repeat_41 (lv_at hl 0 rfl) ?_
            refine lv_iconst (v := (2:Int32)) hx hb d_Pg_repeat_43 (by decide) ?_
            refine lv_iadd hx hb d_Pg_repeat_44 ?_
            refine lv_goto (tgt := 52) hx hb d_Pg_repeat_45 (by decide) ?_
            exact w_Pg_repeat_j52 hE C hDD n x1 x3 x4_6 x1 (6:Int32) (x4_6 + (2:Int32)) Pg Sj T0 T1 Rd Pt Mk Lk Ck Jd Ld Pr rt h _ _ _ hP hS (lv_sub hl [1, 2, 4, 0] rfl)
      · replace h := o_tt c3 h
        refine lv_aload_n hx hb d_Pg_repeat_22 rfl (lv_at hl 1 rfl) ?_
        refine lv_iload_n hx hb d_Pg_repeat_23 rfl (lv_at hl 2 rfl) ?_
        refine o_put (v := .int x1) (ty := .int) (w1 := (o_cw ad ca rt Sj T0 T1 Rd (Pg_mk (Pg_operations Pg) (Pg_arguments Pg) x1 (Pg_sets Pg) (Pg_setsUsed Pg) (Pg_rounds Pg) (Pg_stack Pg) (Pg_top Pg) (Pg_waiting Pg) (Pg_waitingCount Pg) (Pg_moved Pg)) Pt Mk Lk Ck Jd Ld Pr)) C in_Pg t_Pg t_Pg_ok n_Pg hP (hDD _ _ _ _ _ _ _ _ _ _ _ _ _) hS 25 cw_25 rfl 2 (by decide) k_1_121 rfl rfl (by decide +kernel) rfl rfl (Nat.le_of_ble_eq_true rfl) rfl d_Pg_repeat_24 (fun H locs hP hS => ?_)
        cases h
        exact o_rv C hP hS d_Pg_repeat_27
    · replace h := o_ff c2 h
      cases h
      exact o_rv C hP hS d_Pg_repeat_17
set_option maxHeartbeats 4000000 in
set_option maxRecDepth 100000 in
theorem w_Pt_parse_j325 {E : (Nat → Prop) → State → Heap → Prop} {p : Program} {l : Launch} {e : Env} {s : State} {m : MethodId} {args : Array Value} {below : List Frame} {meth : Method} {c : Code} {D : va_G} {ad kd sd vd xd : Nat → Nat} {ca : Nat → ClassId} {A : Nat → Prop} {Q : State → Prop} (hE : o_EK E kd sd vd xd) (C : o_Cx E p s m args meth c D o_cls (o_tys ca) "SchemaJudge$Pattern" b_Pt_parse (some .boolean) 8 cc_Pt_parse A) (hDD : ∀ (rt : Nat) (Sj : SSJ) (T0 : STx) (T1 : STx) (Rd : SRd) (Pg : SPg) (Pt : SPt) (Mk : SMk) (Lk : SLk) (Ck : SCk) (Jd : SJd) (Ld : SLd) (Pr : SPr), va_D A (o_cw ad ca rt Sj T0 T1 Rd Pg Pt Mk Lk Ck Jd Ld Pr)) (n : Nat) (u28_Sj : SSJ) (u28_T0 : STx) (u28_T1 : STx) (u28_Rd : SRd) (u28_Mk : SMk) (u28_Lk : SLk) (u28_Ck : SCk) (u28_Jd : SJd) (u28_Ld : SLd) (u28_Pr : SPr) (u28_rt : Nat) (x1 : Int32) (x6 : Int32) (Pg : SPg) (Pt : SPt) {q : Nat × Int32 × SPg × SPt} (h : m_Pt_parse_j325 n x1 x6 Pg Pt = some q) (h0 : q.1 = 0 → o_At p l e rm_Pt_parse s m args below meth c Q o_cls D A 8 28 [] (o_cw ad ca u28_rt u28_Sj u28_T0 u28_T1 u28_Rd q.2.2.1 q.2.2.2 u28_Mk u28_Lk u28_Ck u28_Jd u28_Ld u28_Pr) [(0, .ref (ad 33)), (1, .int q.2.1)]) (h1 : q.1 ≠ 0 → (if q.1 = 1 then o_At p l e rm_Pt_parse s m args below meth c Q o_cls D A 8 347 [] (o_cw ad ca u28_rt u28_Sj u28_T0 u28_T1 u28_Rd q.2.2.1 q.2.2.2 u28_Mk u28_Lk u28_Ck u28_Jd u28_Ld u28_Pr) [] else o_At p l e rm_Pt_parse s m args below meth c Q o_cls D A 8 355 [] (o_cw ad ca u28_rt u28_Sj u28_T0 u28_T1 u28_Rd q.2.2.1 q.2.2.2 u28_Mk u28_Lk u28_Ck u28_Jd u28_Ld u28_Pr) [(0, .ref (ad 33))])) : o_At p l e rm_Pt_parse s m args below meth c Q o_cls D A 8 325 [] (o_cw ad ca u28_rt u28_Sj u28_T0 u28_T1 u28_Rd Pg Pt u28_Mk u28_Lk u28_Ck u28_Jd u28_Ld u28_Pr) [(0, .ref (ad 33)), (1, .int x1), (6, .int x6)] := by
  unfold m_Pt_parse_j325 at h
  intro H locs ls hP hS hl
  have C0 := C
  obtain ⟨hx, hb, -, -, -, hown, hts, hK, -, -⟩ := C0
  refine lv_iload hx hb d_Pt_parse_325 (lv_at hl 2 rfl) ?_
  refine lv_if_eq (tgt := 347) hx hb d_Pt_parse_327 (by decide) (fun c9 => ?_) (fun c9 => ?_)
  · replace h := o_tt c9 h
    cases h
    exact h1 (Nat.succ_ne_zero 0) _ _ _ hP hS (lv_sub hl [] rfl)
  · replace h := o_ff c9 h
    refine lv_aload_n hx hb d_Pt_parse_330 rfl (lv_at hl 0 rfl) ?_
    refine o_get (v := .int (Pt_depth Pt)) C in_Pt hP 33 cw_33 rfl 8 (by decide) k_1_168 rfl rfl d_Pt_parse_331 ?_
    refine lv_if_ne (tgt := 349) hx hb d_Pt_parse_334 (by decide) (fun c10 => ?_) (fun c10 => ?_)
    · replace h := o_ff c10 h
      obtain ⟨x1_349, ex1_349⟩ : ∃ y : Int32, y = x1 + (1:Int32) := ⟨_, rfl⟩
      replace h := o_nm_at ex1_349 h
      refine lv_iinc (v := x1_349) (lv' := [(1, .int x1_349), (0, .ref (ad 33)), (6, .int x6)]) hx hb d_Pt_parse_349 hl (k := 1) rfl (by rw [ex1_349]; rfl) (by decide) rfl (fun ls hl => ?_)
      refine lv_goto (tgt := 28) hx hb d_Pt_parse_352 (by decide) ?_
      cases h
      exact h0 rfl _ _ _ hP hS (lv_sub hl [1, 0] rfl)
    · replace h := o_tt c10 h
      refine lv_aload_n hx hb d_Pt_parse_337 rfl (lv_at hl 0 rfl) ?_
      refine o_get (v := .int (Pt_total Pt)) C in_Pt hP 33 cw_33 rfl 5 (by decide) k_1_165 rfl rfl d_Pt_parse_338 ?_
      refine lv_sipush (v := (400:Int32)) hx hb d_Pt_parse_341 (by decide) ?_
      refine lv_icmp_le (tgt := 349) hx hb d_Pt_parse_344 (by decide) (fun c11 => ?_) (fun c11 => ?_)
      · replace h := o_tt c11 h
        obtain ⟨x1_349, ex1_349⟩ : ∃ y : Int32, y = x1 + (1:Int32) := ⟨_, rfl⟩
        replace h := o_nm_at ex1_349 h
        refine lv_iinc (v := x1_349) (lv' := [(1, .int x1_349), (0, .ref (ad 33)), (6, .int x6)]) hx hb d_Pt_parse_349 hl (k := 1) rfl (by rw [ex1_349]; rfl) (by decide) rfl (fun ls hl => ?_)
        refine lv_goto (tgt := 28) hx hb d_Pt_parse_352 (by decide) ?_
        cases h
        exact h0 rfl _ _ _ hP hS (lv_sub hl [1, 0] rfl)
      · replace h := o_ff c11 h
        cases h
        exact h1 (Nat.succ_ne_zero 0) _ _ _ hP hS (lv_sub hl [] rfl)
set_option maxHeartbeats 4000000 in
set_option maxRecDepth 100000 in
theorem w_Pt_parse_j286 {E : (Nat → Prop) → State → Heap → Prop} {p : Program} {l : Launch} {e : Env} {s : State} {m : MethodId} {args : Array Value} {below : List Frame} {meth : Method} {c : Code} {D : va_G} {ad kd sd vd xd : Nat → Nat} {ca : Nat → ClassId} {A : Nat → Prop} {Q : State → Prop} (hE : o_EK E kd sd vd xd) (C : o_Cx E p s m args meth c D o_cls (o_tys ca) "SchemaJudge$Pattern" b_Pt_parse (some .boolean) 8 cc_Pt_parse A) (hDD : ∀ (rt : Nat) (Sj : SSJ) (T0 : STx) (T1 : STx) (Rd : SRd) (Pg : SPg) (Pt : SPt) (Mk : SMk) (Lk : SLk) (Ck : SCk) (Jd : SJd) (Ld : SLd) (Pr : SPr), va_D A (o_cw ad ca rt Sj T0 T1 Rd Pg Pt Mk Lk Ck Jd Ld Pr)) (n : Nat) (u28_Sj : SSJ) (u28_T0 : STx) (u28_T1 : STx) (u28_Rd : SRd) (u28_Mk : SMk) (u28_Lk : SLk) (u28_Ck : SCk) (u28_Jd : SJd) (u28_Ld : SLd) (u28_Pr : SPr) (u28_rt : Nat) (x1 : Int32) (x3 : Int32) (x4 : Int32) (x6 : Int32) (y0 : Int32) (y1 : Int32) (Pg : SPg) (Pt : SPt) {q : Nat × Int32 × SPg × SPt} (h : m_Pt_parse_j286 n x1 x3 x4 x6 y0 y1 Pg Pt = some q) (h0 : q.1 = 0 → o_At p l e rm_Pt_parse s m args below meth c Q o_cls D A 8 28 [] (o_cw ad ca u28_rt u28_Sj u28_T0 u28_T1 u28_Rd q.2.2.1 q.2.2.2 u28_Mk u28_Lk u28_Ck u28_Jd u28_Ld u28_Pr) [(0, .ref (ad 33)), (1, .int q.2.1)]) (h1 : q.1 ≠ 0 → (if q.1 = 1 then o_At p l e rm_Pt_parse s m args below meth c Q o_cls D A 8 347 [] (o_cw ad ca u28_rt u28_Sj u28_T0 u28_T1 u28_Rd q.2.2.1 q.2.2.2 u28_Mk u28_Lk u28_Ck u28_Jd u28_Ld u28_Pr) [] else o_At p l e rm_Pt_parse s m args below meth c Q o_cls D A 8 355 [] (o_cw ad ca u28_rt u28_Sj u28_T0 u28_T1 u28_Rd q.2.2.1 q.2.2.2 u28_Mk u28_Lk u28_Ck u28_Jd u28_Ld u28_Pr) [(0, .ref (ad 33))])) : o_At p l e rm_Pt_parse s m args below meth c Q o_cls D A 8 286 [.int y1, .int y0] (o_cw ad ca u28_rt u28_Sj u28_T0 u28_T1 u28_Rd Pg Pt u28_Mk u28_Lk u28_Ck u28_Jd u28_Ld u28_Pr) [(0, .ref (ad 33)), (1, .int x1), (3, .int x3), (4, .int x4), (6, .int x6)] := by
  unfold m_Pt_parse_j286 at h
  intro H locs ls hP hS hl
  have C0 := C
  obtain ⟨hx, hb, -, -, -, hown, hts, hK, -, -⟩ := C0
  refine lv_imul hx hb d_Pt_parse_286 ?_
  refine lv_topi (fun x7_287 ex7_287 => ?_)
  replace h := o_nm_at ex7_287 h
  refine lv_istore (lv' := [(7, .int x7_287), (0, .ref (ad 33)), (1, .int x1), (3, .int x3), (4, .int x4), (6, .int x6)]) hx hb d_Pt_parse_287 hl (by decide) rfl (fun ls hl => ?_)
  refine lv_aload_n hx hb d_Pt_parse_289 rfl (lv_at hl 1 rfl) ?_
  refine lv_iload hx hb d_Pt_parse_290 (lv_at hl 4 rfl) ?_
  refine lv_iload hx hb d_Pt_parse_292 (lv_at hl 0 rfl) ?_
  refine lv_iconst (v := (1:Int32)) hx hb d_Pt_parse_294 (by decide) ?_
  refine va_mmax hx hb (C.2.2.2.2.1.trans hl.1.symm) hown (hts _ k_5_44) (hts _ k_4_152) (hts _ k_1_26) (hts _ k_4_153) (Nat.le_of_ble_eq_true rfl) (Nat.le_of_ble_eq_true rfl) (Nat.zero_le _) (Nat.zero_le _) d_Pt_parse_295 ?_
  refine lv_iadd hx hb d_Pt_parse_298 ?_
  refine lv_iconst (v := (1:Int32)) hx hb d_Pt_parse_299 (by decide) ?_
  refine lv_iadd hx hb d_Pt_parse_300 ?_
  refine lv_ldc (v := (1048576:Int32)) hx hb hown (hts _ k_5_45) d_Pt_parse_301 ?_
  refine va_mmin hx hb (C.2.2.2.2.1.trans hl.1.symm) hown (hts _ k_4_113) (hts _ k_4_114) (hts _ k_1_26) (hts _ k_4_115) (Nat.le_of_ble_eq_true rfl) (Nat.le_of_ble_eq_true rfl) (Nat.zero_le _) (Nat.zero_le _) d_Pt_parse_303 ?_
  refine o_put (v := .int (if (1048576:Int32) < ((x4 + (if x7_287 < (1:Int32) then (1:Int32) else x7_287)) + (1:Int32)) then (1048576:Int32) else ((x4 + (if x7_287 < (1:Int32) then (1:Int32) else x7_287)) + (1:Int32)))) (ty := .int) (w1 := (o_cw ad ca u28_rt u28_Sj u28_T0 u28_T1 u28_Rd Pg (Pt_mk (Pt_tokens Pt) (Pt_characterCount Pt) (Pt_tokenCount Pt) (Pt_position Pt) (if (1048576:Int32) < ((x4 + (if x7_287 < (1:Int32) then (1:Int32) else x7_287)) + (1:Int32)) then (1048576:Int32) else ((x4 + (if x7_287 < (1:Int32) then (1:Int32) else x7_287)) + (1:Int32))) (Pt_least Pt) (Pt_most Pt) (Pt_depth Pt) (Pt_blockStarts Pt) (Pt_branchStarts Pt) (Pt_jumps Pt) (Pt_sizesBefore Pt)) u28_Mk u28_Lk u28_Ck u28_Jd u28_Ld u28_Pr)) C in_Pt t_Pt t_Pt_ok n_Pt hP (hDD _ _ _ _ _ _ _ _ _ _ _ _ _) hS 33 cw_33 rfl 5 (by decide) k_1_165 rfl rfl (by decide +kernel) rfl rfl (Nat.le_of_ble_eq_true rfl) rfl d_Pt_parse_306 (fun H locs hP hS => ?_)
  refine lv_aload_n hx hb d_Pt_parse_309 rfl (lv_at hl 1 rfl) ?_
  refine o_get (v := .ref (ad 25)) C in_Pt hP 33 cw_33 rfl 0 (by decide) k_1_160 rfl rfl d_Pt_parse_310 ?_
  refine lv_iload_n hx hb d_Pt_parse_313 rfl (lv_at hl 3 rfl) ?_
  refine lv_aload_n hx hb d_Pt_parse_314 rfl (lv_at hl 1 rfl) ?_
  refine o_get (v := .int (Pt_least Pt)) C in_Pt hP 33 cw_33 rfl 6 (by decide) k_1_166 rfl rfl d_Pt_parse_315 ?_
  refine lv_aload_n hx hb d_Pt_parse_318 rfl (lv_at hl 1 rfl) ?_
  refine o_get (v := .int (Pt_most Pt)) C in_Pt hP 33 cw_33 rfl 7 (by decide) k_1_167 rfl rfl d_Pt_parse_319 ?_
  obtain ⟨q8, hq8, h⟩ := o_bd_some h
  refine o_V (st1 := []) (w1 := (o_cw ad ca u28_rt u28_Sj u28_T0 u28_T1 u28_Rd q8 (Pt_mk (Pt_tokens Pt) (Pt_characterCount Pt) (Pt_tokenCount Pt) (Pt_position Pt) (if (1048576:Int32) < ((x4 + (if x7_287 < (1:Int32) then (1:Int32) else x7_287)) + (1:Int32)) then (1048576:Int32) else ((x4 + (if x7_287 < (1:Int32) then (1:Int32) else x7_287)) + (1:Int32))) (Pt_least Pt) (Pt_most Pt) (Pt_depth Pt) (Pt_blockStarts Pt) (Pt_branchStarts Pt) (Pt_jumps Pt) (Pt_sizesBefore Pt)) u28_Mk u28_Lk u28_Ck u28_Jd u28_Ld u28_Pr)) hE.1 C (c_Pg_repeat hE l n x3 (Pt_least Pt) (Pt_most Pt) Pg u28_Sj u28_T0 u28_T1 u28_Rd (Pt_mk (Pt_tokens Pt) (Pt_characterCount Pt) (Pt_tokenCount Pt) (Pt_position Pt) (if (1048576:Int32) < ((x4 + (if x7_287 < (1:Int32) then (1:Int32) else x7_287)) + (1:Int32)) then (1048576:Int32) else ((x4 + (if x7_287 < (1:Int32) then (1:Int32) else x7_287)) + (1:Int32))) (Pt_least Pt) (Pt_most Pt) (Pt_depth Pt) (Pt_blockStarts Pt) (Pt_branchStarts Pt) (Pt_jumps Pt) (Pt_sizesBefore Pt)) u28_Mk u28_Lk u28_Ck u28_Jd u28_Ld u28_Pr u28_rt hq8) hP (hDD _ _ _ _ _ _ _ _ _ _ _ _ _) hS hl.1 rfl cw_25 k_5_46 k_5_47 k_5_48 k_1_4 k_5_49 hv_Pg_repeat rfl rfl ⟨(Nat.le_of_ble_eq_true rfl), (Nat.le_of_ble_eq_true rfl)⟩ rfl (Nat.le_of_ble_eq_true rfl) ⟨Nat.zero_le _, Nat.zero_le _⟩ rfl d_Pt_parse_322 (fun H locs hP hS => ?_)
  exact w_Pt_parse_j325 hE C hDD n u28_Sj u28_T0 u28_T1 u28_Rd u28_Mk u28_Lk u28_Ck u28_Jd u28_Ld u28_Pr u28_rt x1 x6 q8 (Pt_mk (Pt_tokens Pt) (Pt_characterCount Pt) (Pt_tokenCount Pt) (Pt_position Pt) (if (1048576:Int32) < ((x4 + (if x7_287 < (1:Int32) then (1:Int32) else x7_287)) + (1:Int32)) then (1048576:Int32) else ((x4 + (if x7_287 < (1:Int32) then (1:Int32) else x7_287)) + (1:Int32))) (Pt_least Pt) (Pt_most Pt) (Pt_depth Pt) (Pt_blockStarts Pt) (Pt_branchStarts Pt) (Pt_jumps Pt) (Pt_sizesBefore Pt)) h h0 h1 _ _ _ hP hS (lv_sub hl [1, 2, 5] rfl)
set_option maxHeartbeats 4000000 in
set_option maxRecDepth 100000 in
theorem w_Pt_parse_j226 {E : (Nat → Prop) → State → Heap → Prop} {p : Program} {l : Launch} {e : Env} {s : State} {m : MethodId} {args : Array Value} {below : List Frame} {meth : Method} {c : Code} {D : va_G} {ad kd sd vd xd : Nat → Nat} {ca : Nat → ClassId} {A : Nat → Prop} {Q : State → Prop} (hE : o_EK E kd sd vd xd) (C : o_Cx E p s m args meth c D o_cls (o_tys ca) "SchemaJudge$Pattern" b_Pt_parse (some .boolean) 8 cc_Pt_parse A) (hDD : ∀ (rt : Nat) (Sj : SSJ) (T0 : STx) (T1 : STx) (Rd : SRd) (Pg : SPg) (Pt : SPt) (Mk : SMk) (Lk : SLk) (Ck : SCk) (Jd : SJd) (Ld : SLd) (Pr : SPr), va_D A (o_cw ad ca rt Sj T0 T1 Rd Pg Pt Mk Lk Ck Jd Ld Pr)) (n : Nat) (u28_Sj : SSJ) (u28_T0 : STx) (u28_T1 : STx) (u28_Rd : SRd) (u28_Mk : SMk) (u28_Lk : SLk) (u28_Ck : SCk) (u28_Jd : SJd) (u28_Ld : SLd) (u28_Pr : SPr) (u28_rt : Nat) (x1 : Int32) (x3 : Int32) (x4 : Int32) (x5 : Int32) (x6 : Int32) (Pg : SPg) (Pt : SPt) {q : Nat × Int32 × SPg × SPt} (h : m_Pt_parse_j226 n x1 x3 x4 x5 x6 Pg Pt = some q) (h0 : q.1 = 0 → o_At p l e rm_Pt_parse s m args below meth c Q o_cls D A 8 28 [] (o_cw ad ca u28_rt u28_Sj u28_T0 u28_T1 u28_Rd q.2.2.1 q.2.2.2 u28_Mk u28_Lk u28_Ck u28_Jd u28_Ld u28_Pr) [(0, .ref (ad 33)), (1, .int q.2.1)]) (h1 : q.1 ≠ 0 → (if q.1 = 1 then o_At p l e rm_Pt_parse s m args below meth c Q o_cls D A 8 347 [] (o_cw ad ca u28_rt u28_Sj u28_T0 u28_T1 u28_Rd q.2.2.1 q.2.2.2 u28_Mk u28_Lk u28_Ck u28_Jd u28_Ld u28_Pr) [] else o_At p l e rm_Pt_parse s m args below meth c Q o_cls D A 8 355 [] (o_cw ad ca u28_rt u28_Sj u28_T0 u28_T1 u28_Rd q.2.2.1 q.2.2.2 u28_Mk u28_Lk u28_Ck u28_Jd u28_Ld u28_Pr) [(0, .ref (ad 33))])) : o_At p l e rm_Pt_parse s m args below meth c Q o_cls D A 8 226 [] (o_cw ad ca u28_rt u28_Sj u28_T0 u28_T1 u28_Rd Pg Pt u28_Mk u28_Lk u28_Ck u28_Jd u28_Ld u28_Pr) [(0, .ref (ad 33)), (1, .int x1), (3, .int x3), (4, .int x4), (5, .int x5), (6, .int x6)] := by
  unfold m_Pt_parse_j226 at h
  intro H locs ls hP hS hl
  have C0 := C
  obtain ⟨hx, hb, -, -, -, hown, hts, hK, -, -⟩ := C0
  refine lv_iload hx hb d_Pt_parse_226 (lv_at hl 5 rfl) ?_
  refine lv_if_eq (tgt := 325) hx hb d_Pt_parse_228 (by decide) (fun c8 => ?_) (fun c8 => ?_)
  · replace h := o_tt c8 h
    exact w_Pt_parse_j325 hE C hDD n u28_Sj u28_T0 u28_T1 u28_Rd u28_Mk u28_Lk u28_Ck u28_Jd u28_Ld u28_Pr u28_rt x1 x6 Pg Pt h h0 h1 _ _ _ hP hS (lv_sub hl [0, 1, 5] rfl)
  · replace h := o_ff c8 h
    refine lv_iload hx hb d_Pt_parse_231 (lv_at hl 4 rfl) ?_
    refine lv_if_eq (tgt := 325) hx hb d_Pt_parse_233 (by decide) (fun c12 => ?_) (fun c12 => ?_)
    · replace h := o_tt c12 h
      exact w_Pt_parse_j325 hE C hDD n u28_Sj u28_T0 u28_T1 u28_Rd u28_Mk u28_Lk u28_Ck u28_Jd u28_Ld u28_Pr u28_rt x1 x6 Pg Pt h h0 h1 _ _ _ hP hS (lv_sub hl [0, 1, 5] rfl)
    · replace h := o_ff c12 h
      refine lv_aload_n hx hb d_Pt_parse_236 rfl (lv_at hl 0 rfl) ?_
      refine lv_iconst (v := (0:Int32)) hx hb d_Pt_parse_237 (by decide) ?_
      obtain ⟨q5, hq5, h⟩ := o_bd_some h
      refine o_V (st1 := [.int q5]) (w1 := (o_cw ad ca u28_rt u28_Sj u28_T0 u28_T1 u28_Rd Pg Pt u28_Mk u28_Lk u28_Ck u28_Jd u28_Ld u28_Pr)) hE.1 C (c_Pt_peek hE l (0:Int32) Pt u28_Sj u28_T0 u28_T1 u28_Rd Pg u28_Mk u28_Lk u28_Ck u28_Jd u28_Ld u28_Pr u28_rt hq5) hP (hDD _ _ _ _ _ _ _ _ _ _ _ _ _) hS hl.1 rfl cw_33 k_4_214 k_4_216 k_s_28 k_1_5 k_4_217 hv_Pt_peek rfl rfl ⟨(Nat.le_of_ble_eq_true rfl), (Nat.le_of_ble_eq_true rfl)⟩ rfl (Nat.le_of_ble_eq_true rfl) ⟨Nat.zero_le _, Nat.zero_le _⟩ rfl d_Pt_parse_238 (fun H locs hP hS => ?_)
      obtain ⟨q6, hq6, h⟩ := o_bd_some h
      refine o_S (st1 := [.int q6]) (w1 := (o_cw ad ca u28_rt u28_Sj u28_T0 u28_T1 u28_Rd Pg Pt u28_Mk u28_Lk u28_Ck u28_Jd u28_Ld u28_Pr)) hE.1 C (c_Pt_isQuantifier hE l q5 u28_Sj u28_T0 u28_T1 u28_Rd Pg Pt u28_Mk u28_Lk u28_Ck u28_Jd u28_Ld u28_Pr u28_rt hq6) hP (hDD _ _ _ _ _ _ _ _ _ _ _ _ _) hS hl.1 k_5_33 k_5_34 k_1_5 k_5_35 hs_Pt_isQuantifier rfl rfl ⟨(Nat.le_of_ble_eq_true rfl), (Nat.le_of_ble_eq_true rfl)⟩ rfl (Nat.le_of_ble_eq_true rfl) ⟨Nat.zero_le _, Nat.zero_le _⟩ rfl d_Pt_parse_241 (fun H locs hP hS => ?_)
      refine lv_if_eq (tgt := 325) hx hb d_Pt_parse_244 (by decide) (fun c13 => ?_) (fun c13 => ?_)
      · replace h := o_tt c13 h
        exact w_Pt_parse_j325 hE C hDD n u28_Sj u28_T0 u28_T1 u28_Rd u28_Mk u28_Lk u28_Ck u28_Jd u28_Ld u28_Pr u28_rt x1 x6 Pg Pt h h0 h1 _ _ _ hP hS (lv_sub hl [0, 1, 5] rfl)
      · replace h := o_ff c13 h
        refine lv_aload_n hx hb d_Pt_parse_247 rfl (lv_at hl 0 rfl) ?_
        obtain ⟨q7, hq7, h⟩ := o_bd_some h
        refine o_V (st1 := [.int q7.1]) (w1 := (o_cw ad ca u28_rt u28_Sj u28_T0 u28_T1 u28_Rd Pg q7.2 u28_Mk u28_Lk u28_Ck u28_Jd u28_Ld u28_Pr)) hE.1 C (c_Pt_readQuantifier hE l n Pt u28_Sj u28_T0 u28_T1 u28_Rd Pg u28_Mk u28_Lk u28_Ck u28_Jd u28_Ld u28_Pr u28_rt hq7) hP (hDD _ _ _ _ _ _ _ _ _ _ _ _ _) hS hl.1 rfl cw_33 k_5_36 k_5_38 k_s_34 k_1_5 k_5_39 hv_Pt_readQuantifier rfl rfl ⟨(Nat.le_of_ble_eq_true rfl), (Nat.le_of_ble_eq_true rfl)⟩ rfl (Nat.le_of_ble_eq_true rfl) ⟨Nat.zero_le _, Nat.zero_le _⟩ rfl d_Pt_parse_248 (fun H locs hP hS => ?_)
        refine lv_istore (lv' := [(6, .int q7.1), (0, .ref (ad 33)), (1, .int x1), (3, .int x3), (4, .int x4), (5, .int x5)]) hx hb d_Pt_parse_251 hl (by decide) rfl (fun ls hl => ?_)
        refine lv_iload hx hb d_Pt_parse_253 (lv_at hl 0 rfl) ?_
        refine lv_if_eq (tgt := 325) hx hb d_Pt_parse_255 (by decide) (fun c14 => ?_) (fun c14 => ?_)
        · replace h := o_tt c14 h
          exact w_Pt_parse_j325 hE C hDD n u28_Sj u28_T0 u28_T1 u28_Rd u28_Mk u28_Lk u28_Ck u28_Jd u28_Ld u28_Pr u28_rt x1 q7.1 Pg q7.2 h h0 h1 _ _ _ hP hS (lv_sub hl [1, 2, 0] rfl)
        · replace h := o_ff c14 h
          refine lv_aload_n hx hb d_Pt_parse_258 rfl (lv_at hl 1 rfl) ?_
          refine o_get (v := .int (Pt_total q7.2)) C in_Pt hP 33 cw_33 rfl 5 (by decide) k_1_165 rfl rfl d_Pt_parse_259 ?_
          refine lv_iload hx hb d_Pt_parse_262 (lv_at hl 4 rfl) ?_
          refine lv_isub hx hb d_Pt_parse_264 ?_
          refine lv_aload_n hx hb d_Pt_parse_265 rfl (lv_at hl 1 rfl) ?_
          refine o_get (v := .int (Pt_most q7.2)) C in_Pt hP 33 cw_33 rfl 7 (by decide) k_1_167 rfl rfl d_Pt_parse_266 ?_
          refine lv_iconst (v := (-1:Int32)) hx hb d_Pt_parse_269 (by decide) ?_
          refine lv_icmp_ne (tgt := 282) hx hb d_Pt_parse_270 (by decide) (fun c15 => ?_) (fun c15 => ?_)
          · replace h := o_ff c15 h
            refine lv_aload_n hx hb d_Pt_parse_282 rfl (lv_at hl 1 rfl) ?_
            refine o_get (v := .int (Pt_most q7.2)) C in_Pt hP 33 cw_33 rfl 7 (by decide) k_1_167 rfl rfl d_Pt_parse_283 ?_
            exact w_Pt_parse_j286 hE C hDD n u28_Sj u28_T0 u28_T1 u28_Rd u28_Mk u28_Lk u28_Ck u28_Jd u28_Ld u28_Pr u28_rt x1 x3 x4 q7.1 ((Pt_total q7.2) - x4) (Pt_most q7.2) Pg q7.2 h h0 h1 _ _ _ hP hS (lv_sub hl [1, 2, 3, 4, 0] rfl)
          · replace h := o_tt c15 h
            refine lv_aload_n hx hb d_Pt_parse_273 rfl (lv_at hl 1 rfl) ?_
            refine o_get (v := .int (Pt_least q7.2)) C in_Pt hP 33 cw_33 rfl 6 (by decide) k_1_166 rfl rfl d_Pt_parse_274 ?_
            refine lv_iconst (v := (1:Int32)) hx hb d_Pt_parse_277 (by decide) ?_
            refine lv_iadd hx hb d_Pt_parse_278 ?_
            refine lv_goto (tgt := 286) hx hb d_Pt_parse_279 (by decide) ?_
            exact w_Pt_parse_j286 hE C hDD n u28_Sj u28_T0 u28_T1 u28_Rd u28_Mk u28_Lk u28_Ck u28_Jd u28_Ld u28_Pr u28_rt x1 x3 x4 q7.1 ((Pt_total q7.2) - x4) ((Pt_least q7.2) + (1:Int32)) Pg q7.2 h h0 h1 _ _ _ hP hS (lv_sub hl [1, 2, 3, 4, 0] rfl)
set_option maxHeartbeats 4000000 in
set_option maxRecDepth 100000 in
theorem w_Pt_parse_j221 {E : (Nat → Prop) → State → Heap → Prop} {p : Program} {l : Launch} {e : Env} {s : State} {m : MethodId} {args : Array Value} {below : List Frame} {meth : Method} {c : Code} {D : va_G} {ad kd sd vd xd : Nat → Nat} {ca : Nat → ClassId} {A : Nat → Prop} {Q : State → Prop} (hE : o_EK E kd sd vd xd) (C : o_Cx E p s m args meth c D o_cls (o_tys ca) "SchemaJudge$Pattern" b_Pt_parse (some .boolean) 8 cc_Pt_parse A) (hDD : ∀ (rt : Nat) (Sj : SSJ) (T0 : STx) (T1 : STx) (Rd : SRd) (Pg : SPg) (Pt : SPt) (Mk : SMk) (Lk : SLk) (Ck : SCk) (Jd : SJd) (Ld : SLd) (Pr : SPr), va_D A (o_cw ad ca rt Sj T0 T1 Rd Pg Pt Mk Lk Ck Jd Ld Pr)) (n : Nat) (u28_Sj : SSJ) (u28_T0 : STx) (u28_T1 : STx) (u28_Rd : SRd) (u28_Mk : SMk) (u28_Lk : SLk) (u28_Ck : SCk) (u28_Jd : SJd) (u28_Ld : SLd) (u28_Pr : SPr) (u28_rt : Nat) (x1 : Int32) (x3 : Int32) (x4 : Int32) (x5 : Int32) (y1 : Int32) (y2 : Int32) (Pg : SPg) (Pt : SPt) {q : Nat × Int32 × SPg × SPt} (h : m_Pt_parse_j221 n x1 x3 x4 x5 y1 y2 Pg Pt = some q) (h0 : q.1 = 0 → o_At p l e rm_Pt_parse s m args below meth c Q o_cls D A 8 28 [] (o_cw ad ca u28_rt u28_Sj u28_T0 u28_T1 u28_Rd q.2.2.1 q.2.2.2 u28_Mk u28_Lk u28_Ck u28_Jd u28_Ld u28_Pr) [(0, .ref (ad 33)), (1, .int q.2.1)]) (h1 : q.1 ≠ 0 → (if q.1 = 1 then o_At p l e rm_Pt_parse s m args below meth c Q o_cls D A 8 347 [] (o_cw ad ca u28_rt u28_Sj u28_T0 u28_T1 u28_Rd q.2.2.1 q.2.2.2 u28_Mk u28_Lk u28_Ck u28_Jd u28_Ld u28_Pr) [] else o_At p l e rm_Pt_parse s m args below meth c Q o_cls D A 8 355 [] (o_cw ad ca u28_rt u28_Sj u28_T0 u28_T1 u28_Rd q.2.2.1 q.2.2.2 u28_Mk u28_Lk u28_Ck u28_Jd u28_Ld u28_Pr) [(0, .ref (ad 33))])) : o_At p l e rm_Pt_parse s m args below meth c Q o_cls D A 8 221 [.int y2, .int y1, .ref (ad 33)] (o_cw ad ca u28_rt u28_Sj u28_T0 u28_T1 u28_Rd Pg Pt u28_Mk u28_Lk u28_Ck u28_Jd u28_Ld u28_Pr) [(0, .ref (ad 33)), (1, .int x1), (3, .int x3), (4, .int x4), (5, .int x5)] := by
  unfold m_Pt_parse_j221 at h
  intro H locs ls hP hS hl
  have C0 := C
  obtain ⟨hx, hb, -, -, -, hown, hts, hK, -, -⟩ := C0
  obtain ⟨q4, hq4, h⟩ := o_bd_some h
  refine o_V (st1 := [.int q4.1]) (w1 := (o_cw ad ca u28_rt u28_Sj u28_T0 u28_T1 u28_Rd q4.2.1 q4.2.2 u28_Mk u28_Lk u28_Ck u28_Jd u28_Ld u28_Pr)) hE.1 C (c_Pt_single hE l y1 y2 Pg Pt u28_Sj u28_T0 u28_T1 u28_Rd u28_Mk u28_Lk u28_Ck u28_Jd u28_Ld u28_Pr u28_rt hq4) hP (hDD _ _ _ _ _ _ _ _ _ _ _ _ _) hS hl.1 rfl cw_33 k_5_29 k_5_31 k_s_33 k_1_5 k_5_32 hv_Pt_single rfl rfl ⟨(Nat.le_of_ble_eq_true rfl), (Nat.le_of_ble_eq_true rfl)⟩ rfl (Nat.le_of_ble_eq_true rfl) ⟨Nat.zero_le _, Nat.zero_le _⟩ rfl d_Pt_parse_221 (fun H locs hP hS => ?_)
  refine lv_istore (lv' := [(6, .int q4.1), (0, .ref (ad 33)), (1, .int x1), (3, .int x3), (4, .int x4), (5, .int x5)]) hx hb d_Pt_parse_224 hl (by decide) rfl (fun ls hl => ?_)
  exact w_Pt_parse_j226 hE C hDD n u28_Sj u28_T0 u28_T1 u28_Rd u28_Mk u28_Lk u28_Ck u28_Jd u28_Ld u28_Pr u28_rt x1 x3 x4 x5 q4.1 q4.2.1 q4.2.2 h h0 h1 _ _ _ hP hS (lv_sub hl [1, 2, 3, 4, 5, 0] rfl)
set_option maxHeartbeats 4000000 in
set_option maxRecDepth 100000 in
theorem w_Pt_parse_j128 {E : (Nat → Prop) → State → Heap → Prop} {p : Program} {l : Launch} {e : Env} {s : State} {m : MethodId} {args : Array Value} {below : List Frame} {meth : Method} {c : Code} {D : va_G} {ad kd sd vd xd : Nat → Nat} {ca : Nat → ClassId} {A : Nat → Prop} {Q : State → Prop} (hE : o_EK E kd sd vd xd) (C : o_Cx E p s m args meth c D o_cls (o_tys ca) "SchemaJudge$Pattern" b_Pt_parse (some .boolean) 8 cc_Pt_parse A) (hDD : ∀ (rt : Nat) (Sj : SSJ) (T0 : STx) (T1 : STx) (Rd : SRd) (Pg : SPg) (Pt : SPt) (Mk : SMk) (Lk : SLk) (Ck : SCk) (Jd : SJd) (Ld : SLd) (Pr : SPr), va_D A (o_cw ad ca rt Sj T0 T1 Rd Pg Pt Mk Lk Ck Jd Ld Pr)) (n : Nat) (u28_Sj : SSJ) (u28_T0 : STx) (u28_T1 : STx) (u28_Rd : SRd) (u28_Mk : SMk) (u28_Lk : SLk) (u28_Ck : SCk) (u28_Jd : SJd) (u28_Ld : SLd) (u28_Pr : SPr) (u28_rt : Nat) (x1 : Int32) (x5 : Int32) (y0 : Int32) (Pg : SPg) (Pt : SPt) {q : Nat × Int32 × SPg × SPt} (h : m_Pt_parse_j128 n x1 x5 y0 Pg Pt = some q) (h0 : q.1 = 0 → o_At p l e rm_Pt_parse s m args below meth c Q o_cls D A 8 28 [] (o_cw ad ca u28_rt u28_Sj u28_T0 u28_T1 u28_Rd q.2.2.1 q.2.2.2 u28_Mk u28_Lk u28_Ck u28_Jd u28_Ld u28_Pr) [(0, .ref (ad 33)), (1, .int q.2.1)]) (h1 : q.1 ≠ 0 → (if q.1 = 1 then o_At p l e rm_Pt_parse s m args below meth c Q o_cls D A 8 347 [] (o_cw ad ca u28_rt u28_Sj u28_T0 u28_T1 u28_Rd q.2.2.1 q.2.2.2 u28_Mk u28_Lk u28_Ck u28_Jd u28_Ld u28_Pr) [] else o_At p l e rm_Pt_parse s m args below meth c Q o_cls D A 8 355 [] (o_cw ad ca u28_rt u28_Sj u28_T0 u28_T1 u28_Rd q.2.2.1 q.2.2.2 u28_Mk u28_Lk u28_Ck u28_Jd u28_Ld u28_Pr) [(0, .ref (ad 33))])) : o_At p l e rm_Pt_parse s m args below meth c Q o_cls D A 8 128 [.int y0] (o_cw ad ca u28_rt u28_Sj u28_T0 u28_T1 u28_Rd Pg Pt u28_Mk u28_Lk u28_Ck u28_Jd u28_Ld u28_Pr) [(0, .ref (ad 33)), (1, .int x1), (5, .int x5)] := by
  unfold m_Pt_parse_j128 at h
  intro H locs ls hP hS hl
  have C0 := C
  obtain ⟨hx, hb, -, -, -, hown, hts, hK, -, -⟩ := C0
  refine lv_istore (lv' := [(6, .int y0), (0, .ref (ad 33)), (1, .int x1), (5, .int x5)]) hx hb d_Pt_parse_128 hl (by decide) rfl (fun ls hl => ?_)
  refine lv_aload_n hx hb d_Pt_parse_130 rfl (lv_at hl 1 rfl) ?_
  refine o_get (v := .ref (ad 35)) C in_Pt hP 33 cw_33 rfl 9 (by decide) k_1_169 rfl rfl d_Pt_parse_131 ?_
  refine lv_aload_n hx hb d_Pt_parse_134 rfl (lv_at hl 1 rfl) ?_
  refine o_get (v := .int (Pt_depth Pt)) C in_Pt hP 33 cw_33 rfl 8 (by decide) k_1_168 rfl rfl d_Pt_parse_135 ?_
  obtain ⟨g17, h⟩ := o_gd_some h
  refine o_iald (f := (Pt_blockStarts Pt)) C hP 35 29 cw_35 rfl g17 d_Pt_parse_138 ?_
  refine lv_topi (fun x3_139 ex3_139 => ?_)
  replace h := o_nm_at ex3_139 h
  refine lv_istore_n (lv' := [(3, .int x3_139), (6, .int y0), (0, .ref (ad 33)), (1, .int x1), (5, .int x5)]) hx hb d_Pt_parse_139 rfl hl (by decide) rfl (fun ls hl => ?_)
  refine lv_aload_n hx hb d_Pt_parse_140 rfl (lv_at hl 2 rfl) ?_
  refine o_get (v := .ref (ad 38)) C in_Pt hP 33 cw_33 rfl 12 (by decide) k_1_172 rfl rfl d_Pt_parse_141 ?_
  refine lv_aload_n hx hb d_Pt_parse_144 rfl (lv_at hl 2 rfl) ?_
  refine o_get (v := .int (Pt_depth Pt)) C in_Pt hP 33 cw_33 rfl 8 (by decide) k_1_168 rfl rfl d_Pt_parse_145 ?_
  obtain ⟨g18, h⟩ := o_gd_some h
  refine o_iald (f := (Pt_sizesBefore Pt)) C hP 38 32 cw_38 rfl g18 d_Pt_parse_148 ?_
  refine lv_topi (fun x4_149 ex4_149 => ?_)
  replace h := o_nm_at ex4_149 h
  refine lv_istore (lv' := [(4, .int x4_149), (3, .int x3_139), (6, .int y0), (0, .ref (ad 33)), (1, .int x1), (5, .int x5)]) hx hb d_Pt_parse_149 hl (by decide) rfl (fun ls hl => ?_)
  refine lv_aload_n hx hb d_Pt_parse_151 rfl (lv_at hl 3 rfl) ?_
  obtain ⟨q12, hq12, h⟩ := o_bd_some h
  refine o_V (st1 := []) (w1 := (o_cw ad ca u28_rt u28_Sj u28_T0 u28_T1 u28_Rd q12 Pt u28_Mk u28_Lk u28_Ck u28_Jd u28_Ld u28_Pr)) hE.1 C (c_Pt_endBlock hE l n Pg Pt u28_Sj u28_T0 u28_T1 u28_Rd u28_Mk u28_Lk u28_Ck u28_Jd u28_Ld u28_Pr u28_rt hq12) hP (hDD _ _ _ _ _ _ _ _ _ _ _ _ _) hS hl.1 rfl cw_33 k_4_218 k_4_220 k_s_29 k_1_5 k_4_221 hv_Pt_endBlock rfl rfl ⟨(Nat.le_of_ble_eq_true rfl), (Nat.le_of_ble_eq_true rfl)⟩ rfl (Nat.le_of_ble_eq_true rfl) ⟨Nat.zero_le _, Nat.zero_le _⟩ rfl d_Pt_parse_152 (fun H locs hP hS => ?_)
  refine lv_aload_n hx hb d_Pt_parse_155 rfl (lv_at hl 3 rfl) ?_
  refine lv_dup hx hb d_Pt_parse_156 rfl ?_
  refine o_get (v := .int (Pt_depth Pt)) C in_Pt hP 33 cw_33 rfl 8 (by decide) k_1_168 rfl rfl d_Pt_parse_157 ?_
  refine lv_iload hx hb d_Pt_parse_160 (lv_at hl 2 rfl) ?_
  refine lv_if_eq (tgt := 169) hx hb d_Pt_parse_162 (by decide) (fun c19 => ?_) (fun c19 => ?_)
  · replace h := o_tt c19 h
    refine lv_iconst (v := (0:Int32)) hx hb d_Pt_parse_169 (by decide) ?_
    refine lv_isub hx hb d_Pt_parse_170 ?_
    refine o_put (v := .int ((Pt_depth Pt) - (0:Int32))) (ty := .int) (w1 := (o_cw ad ca u28_rt u28_Sj u28_T0 u28_T1 u28_Rd q12 (Pt_mk (Pt_tokens Pt) (Pt_characterCount Pt) (Pt_tokenCount Pt) (Pt_position Pt) (Pt_total Pt) (Pt_least Pt) (Pt_most Pt) ((Pt_depth Pt) - (0:Int32)) (Pt_blockStarts Pt) (Pt_branchStarts Pt) (Pt_jumps Pt) (Pt_sizesBefore Pt)) u28_Mk u28_Lk u28_Ck u28_Jd u28_Ld u28_Pr)) C in_Pt t_Pt t_Pt_ok n_Pt hP (hDD _ _ _ _ _ _ _ _ _ _ _ _ _) hS 33 cw_33 rfl 8 (by decide) k_1_168 rfl rfl (by decide +kernel) rfl rfl (Nat.le_of_ble_eq_true rfl) rfl d_Pt_parse_171 (fun H locs hP hS => ?_)
    refine lv_goto (tgt := 226) hx hb d_Pt_parse_174 (by decide) ?_
    exact w_Pt_parse_j226 hE C hDD n u28_Sj u28_T0 u28_T1 u28_Rd u28_Mk u28_Lk u28_Ck u28_Jd u28_Ld u28_Pr u28_rt x1 x3_139 x4_149 x5 y0 q12 (Pt_mk (Pt_tokens Pt) (Pt_characterCount Pt) (Pt_tokenCount Pt) (Pt_position Pt) (Pt_total Pt) (Pt_least Pt) (Pt_most Pt) ((Pt_depth Pt) - (0:Int32)) (Pt_blockStarts Pt) (Pt_branchStarts Pt) (Pt_jumps Pt) (Pt_sizesBefore Pt)) h h0 h1 _ _ _ hP hS (lv_sub hl [3, 4, 1, 0, 5, 2] rfl)
  · replace h := o_ff c19 h
    refine lv_iconst (v := (1:Int32)) hx hb d_Pt_parse_165 (by decide) ?_
    refine lv_goto (tgt := 170) hx hb d_Pt_parse_166 (by decide) ?_
    refine lv_isub hx hb d_Pt_parse_170 ?_
    refine o_put (v := .int ((Pt_depth Pt) - (1:Int32))) (ty := .int) (w1 := (o_cw ad ca u28_rt u28_Sj u28_T0 u28_T1 u28_Rd q12 (Pt_mk (Pt_tokens Pt) (Pt_characterCount Pt) (Pt_tokenCount Pt) (Pt_position Pt) (Pt_total Pt) (Pt_least Pt) (Pt_most Pt) ((Pt_depth Pt) - (1:Int32)) (Pt_blockStarts Pt) (Pt_branchStarts Pt) (Pt_jumps Pt) (Pt_sizesBefore Pt)) u28_Mk u28_Lk u28_Ck u28_Jd u28_Ld u28_Pr)) C in_Pt t_Pt t_Pt_ok n_Pt hP (hDD _ _ _ _ _ _ _ _ _ _ _ _ _) hS 33 cw_33 rfl 8 (by decide) k_1_168 rfl rfl (by decide +kernel) rfl rfl (Nat.le_of_ble_eq_true rfl) rfl d_Pt_parse_171 (fun H locs hP hS => ?_)
    refine lv_goto (tgt := 226) hx hb d_Pt_parse_174 (by decide) ?_
    exact w_Pt_parse_j226 hE C hDD n u28_Sj u28_T0 u28_T1 u28_Rd u28_Mk u28_Lk u28_Ck u28_Jd u28_Ld u28_Pr u28_rt x1 x3_139 x4_149 x5 y0 q12 (Pt_mk (Pt_tokens Pt) (Pt_characterCount Pt) (Pt_tokenCount Pt) (Pt_position Pt) (Pt_total Pt) (Pt_least Pt) (Pt_most Pt) ((Pt_depth Pt) - (1:Int32)) (Pt_blockStarts Pt) (Pt_branchStarts Pt) (Pt_jumps Pt) (Pt_sizesBefore Pt)) h h0 h1 _ _ _ hP hS (lv_sub hl [3, 4, 1, 0, 5, 2] rfl)
set_option maxHeartbeats 4000000 in
set_option maxRecDepth 100000 in
theorem w_Pt_parse_j105 {E : (Nat → Prop) → State → Heap → Prop} {p : Program} {l : Launch} {e : Env} {s : State} {m : MethodId} {args : Array Value} {below : List Frame} {meth : Method} {c : Code} {D : va_G} {ad kd sd vd xd : Nat → Nat} {ca : Nat → ClassId} {A : Nat → Prop} {Q : State → Prop} (hE : o_EK E kd sd vd xd) (C : o_Cx E p s m args meth c D o_cls (o_tys ca) "SchemaJudge$Pattern" b_Pt_parse (some .boolean) 8 cc_Pt_parse A) (hDD : ∀ (rt : Nat) (Sj : SSJ) (T0 : STx) (T1 : STx) (Rd : SRd) (Pg : SPg) (Pt : SPt) (Mk : SMk) (Lk : SLk) (Ck : SCk) (Jd : SJd) (Ld : SLd) (Pr : SPr), va_D A (o_cw ad ca rt Sj T0 T1 Rd Pg Pt Mk Lk Ck Jd Ld Pr)) (n : Nat) (u28_Sj : SSJ) (u28_T0 : STx) (u28_T1 : STx) (u28_Rd : SRd) (u28_Mk : SMk) (u28_Lk : SLk) (u28_Ck : SCk) (u28_Jd : SJd) (u28_Ld : SLd) (u28_Pr : SPr) (u28_rt : Nat) (x1 : Int32) (x2 : Int32) (x3 : Int32) (x4 : Int32) (y0 : Int32) (Pg : SPg) (Pt : SPt) {q : Nat × Int32 × SPg × SPt} (h : m_Pt_parse_j105 n x1 x2 x3 x4 y0 Pg Pt = some q) (h0 : q.1 = 0 → o_At p l e rm_Pt_parse s m args below meth c Q o_cls D A 8 28 [] (o_cw ad ca u28_rt u28_Sj u28_T0 u28_T1 u28_Rd q.2.2.1 q.2.2.2 u28_Mk u28_Lk u28_Ck u28_Jd u28_Ld u28_Pr) [(0, .ref (ad 33)), (1, .int q.2.1)]) (h1 : q.1 ≠ 0 → (if q.1 = 1 then o_At p l e rm_Pt_parse s m args below meth c Q o_cls D A 8 347 [] (o_cw ad ca u28_rt u28_Sj u28_T0 u28_T1 u28_Rd q.2.2.1 q.2.2.2 u28_Mk u28_Lk u28_Ck u28_Jd u28_Ld u28_Pr) [] else o_At p l e rm_Pt_parse s m args below meth c Q o_cls D A 8 355 [] (o_cw ad ca u28_rt u28_Sj u28_T0 u28_T1 u28_Rd q.2.2.1 q.2.2.2 u28_Mk u28_Lk u28_Ck u28_Jd u28_Ld u28_Pr) [(0, .ref (ad 33))])) : o_At p l e rm_Pt_parse s m args below meth c Q o_cls D A 8 105 [.int y0] (o_cw ad ca u28_rt u28_Sj u28_T0 u28_T1 u28_Rd Pg Pt u28_Mk u28_Lk u28_Ck u28_Jd u28_Ld u28_Pr) [(0, .ref (ad 33)), (1, .int x1), (2, .int x2), (3, .int x3), (4, .int x4)] := by
  unfold m_Pt_parse_j105 at h
  intro H locs ls hP hS hl
  have C0 := C
  obtain ⟨hx, hb, -, -, -, hown, hts, hK, -, -⟩ := C0
  refine lv_istore (lv' := [(5, .int y0), (0, .ref (ad 33)), (1, .int x1), (2, .int x2), (3, .int x3), (4, .int x4)]) hx hb d_Pt_parse_105 hl (by decide) rfl (fun ls hl => ?_)
  refine lv_iconst (v := (1:Int32)) hx hb d_Pt_parse_107 (by decide) ?_
  refine lv_istore (lv' := [(6, .int (1:Int32)), (5, .int y0), (0, .ref (ad 33)), (1, .int x1), (2, .int x2), (3, .int x3), (4, .int x4)]) hx hb d_Pt_parse_108 hl (by decide) rfl (fun ls hl => ?_)
  refine lv_iload_n hx hb d_Pt_parse_110 rfl (lv_at hl 4 rfl) ?_
  refine lv_bipush (v := (-41:Int32)) hx hb d_Pt_parse_111 (by decide) ?_
  refine lv_icmp_ne (tgt := 177) hx hb d_Pt_parse_113 (by decide) (fun c4 => ?_) (fun c4 => ?_)
  · replace h := o_ff c4 h
    refine lv_iload_n hx hb d_Pt_parse_177 rfl (lv_at hl 4 rfl) ?_
    refine lv_bipush (v := (-40:Int32)) hx hb d_Pt_parse_178 (by decide) ?_
    refine lv_icmp_ne (tgt := 192) hx hb d_Pt_parse_180 (by decide) (fun c5 => ?_) (fun c5 => ?_)
    · replace h := o_ff c5 h
      refine lv_iload_n hx hb d_Pt_parse_192 rfl (lv_at hl 4 rfl) ?_
      refine lv_bipush (v := (-124:Int32)) hx hb d_Pt_parse_193 (by decide) ?_
      refine lv_icmp_ne (tgt := 205) hx hb d_Pt_parse_195 (by decide) (fun c6 => ?_) (fun c6 => ?_)
      · replace h := o_ff c6 h
        refine lv_aload_n hx hb d_Pt_parse_205 rfl (lv_at hl 2 rfl) ?_
        refine lv_iload_n hx hb d_Pt_parse_206 rfl (lv_at hl 4 rfl) ?_
        refine lv_iload_n hx hb d_Pt_parse_207 rfl (lv_at hl 4 rfl) ?_
        refine lv_bipush (v := (-91:Int32)) hx hb d_Pt_parse_208 (by decide) ?_
        refine lv_icmp_ne (tgt := 220) hx hb d_Pt_parse_210 (by decide) (fun c7 => ?_) (fun c7 => ?_)
        · replace h := o_ff c7 h
          refine lv_iconst (v := (0:Int32)) hx hb d_Pt_parse_220 (by decide) ?_
          exact w_Pt_parse_j221 hE C hDD n u28_Sj u28_T0 u28_T1 u28_Rd u28_Mk u28_Lk u28_Ck u28_Jd u28_Ld u28_Pr u28_rt x1 x3 x4 y0 x2 (0:Int32) Pg Pt h h0 h1 _ _ _ hP hS (lv_sub hl [2, 3, 5, 6, 1] rfl)
        · replace h := o_tt c7 h
          refine lv_aload_n hx hb d_Pt_parse_213 rfl (lv_at hl 2 rfl) ?_
          obtain ⟨q9, hq9, h⟩ := o_bd_some h
          refine o_V (st1 := [.int q9.1, .int x2, .ref (ad 33)]) (w1 := (o_cw ad ca u28_rt u28_Sj u28_T0 u28_T1 u28_Rd q9.2.1 q9.2.2 u28_Mk u28_Lk u28_Ck u28_Jd u28_Ld u28_Pr)) hE.1 C (c_Pt_readSet hE l n Pg Pt u28_Sj u28_T0 u28_T1 u28_Rd u28_Mk u28_Lk u28_Ck u28_Jd u28_Ld u28_Pr u28_rt hq9) hP (hDD _ _ _ _ _ _ _ _ _ _ _ _ _) hS hl.1 rfl cw_33 k_5_11 k_5_13 k_s_32 k_1_5 k_5_14 hv_Pt_readSet rfl rfl ⟨(Nat.le_of_ble_eq_true rfl), (Nat.le_of_ble_eq_true rfl)⟩ rfl (Nat.le_of_ble_eq_true rfl) ⟨Nat.zero_le _, Nat.zero_le _⟩ rfl d_Pt_parse_214 (fun H locs hP hS => ?_)
          refine lv_goto (tgt := 221) hx hb d_Pt_parse_217 (by decide) ?_
          exact w_Pt_parse_j221 hE C hDD n u28_Sj u28_T0 u28_T1 u28_Rd u28_Mk u28_Lk u28_Ck u28_Jd u28_Ld u28_Pr u28_rt x1 x3 x4 y0 x2 q9.1 q9.2.1 q9.2.2 h h0 h1 _ _ _ hP hS (lv_sub hl [2, 3, 5, 6, 1] rfl)
      · replace h := o_tt c6 h
        refine lv_aload_n hx hb d_Pt_parse_198 rfl (lv_at hl 2 rfl) ?_
        obtain ⟨q10, hq10, h⟩ := o_bd_some h
        refine o_V (st1 := []) (w1 := (o_cw ad ca u28_rt u28_Sj u28_T0 u28_T1 u28_Rd q10.1 q10.2 u28_Mk u28_Lk u28_Ck u28_Jd u28_Ld u28_Pr)) hE.1 C (c_Pt_nextBranch hE l Pg Pt u28_Sj u28_T0 u28_T1 u28_Rd u28_Mk u28_Lk u28_Ck u28_Jd u28_Ld u28_Pr u28_rt hq10) hP (hDD _ _ _ _ _ _ _ _ _ _ _ _ _) hS hl.1 rfl cw_33 k_4_234 k_4_236 k_s_31 k_1_5 k_4_237 hv_Pt_nextBranch rfl rfl ⟨(Nat.le_of_ble_eq_true rfl), (Nat.le_of_ble_eq_true rfl)⟩ rfl (Nat.le_of_ble_eq_true rfl) ⟨Nat.zero_le _, Nat.zero_le _⟩ rfl d_Pt_parse_199 (fun H locs hP hS => ?_)
        refine lv_goto (tgt := 226) hx hb d_Pt_parse_202 (by decide) ?_
        exact w_Pt_parse_j226 hE C hDD n u28_Sj u28_T0 u28_T1 u28_Rd u28_Mk u28_Lk u28_Ck u28_Jd u28_Ld u28_Pr u28_rt x1 x3 x4 y0 (1:Int32) q10.1 q10.2 h h0 h1 _ _ _ hP hS (lv_sub hl [2, 3, 5, 6, 1, 0] rfl)
    · replace h := o_tt c5 h
      refine lv_aload_n hx hb d_Pt_parse_183 rfl (lv_at hl 2 rfl) ?_
      obtain ⟨q11, hq11, h⟩ := o_bd_some h
      refine o_V (st1 := [.int q11.1]) (w1 := (o_cw ad ca u28_rt u28_Sj u28_T0 u28_T1 u28_Rd Pg q11.2 u28_Mk u28_Lk u28_Ck u28_Jd u28_Ld u28_Pr)) hE.1 C (c_Pt_openGroup hE l Pg Pt u28_Sj u28_T0 u28_T1 u28_Rd u28_Mk u28_Lk u28_Ck u28_Jd u28_Ld u28_Pr u28_rt hq11) hP (hDD _ _ _ _ _ _ _ _ _ _ _ _ _) hS hl.1 rfl cw_33 k_4_230 k_4_232 k_s_30 k_1_5 k_4_233 hv_Pt_openGroup rfl rfl ⟨(Nat.le_of_ble_eq_true rfl), (Nat.le_of_ble_eq_true rfl)⟩ rfl (Nat.le_of_ble_eq_true rfl) ⟨Nat.zero_le _, Nat.zero_le _⟩ rfl d_Pt_parse_184 (fun H locs hP hS => ?_)
      refine lv_istore (lv' := [(6, .int q11.1), (5, .int y0), (0, .ref (ad 33)), (1, .int x1), (2, .int x2), (3, .int x3), (4, .int x4)]) hx hb d_Pt_parse_187 hl (by decide) rfl (fun ls hl => ?_)
      refine lv_goto (tgt := 226) hx hb d_Pt_parse_189 (by decide) ?_
      exact w_Pt_parse_j226 hE C hDD n u28_Sj u28_T0 u28_T1 u28_Rd u28_Mk u28_Lk u28_Ck u28_Jd u28_Ld u28_Pr u28_rt x1 x3 x4 y0 q11.1 Pg q11.2 h h0 h1 _ _ _ hP hS (lv_sub hl [2, 3, 5, 6, 1, 0] rfl)
  · replace h := o_tt c4 h
    refine lv_aload_n hx hb d_Pt_parse_116 rfl (lv_at hl 2 rfl) ?_
    refine o_get (v := .int (Pt_depth Pt)) C in_Pt hP 33 cw_33 rfl 8 (by decide) k_1_168 rfl rfl d_Pt_parse_117 ?_
    refine lv_if_le (tgt := 127) hx hb d_Pt_parse_120 (by decide) (fun c16 => ?_) (fun c16 => ?_)
    · replace h := o_tt c16 h
      refine lv_iconst (v := (0:Int32)) hx hb d_Pt_parse_127 (by decide) ?_
      exact w_Pt_parse_j128 hE C hDD n u28_Sj u28_T0 u28_T1 u28_Rd u28_Mk u28_Lk u28_Ck u28_Jd u28_Ld u28_Pr u28_rt x1 y0 (0:Int32) Pg Pt h h0 h1 _ _ _ hP hS (lv_sub hl [2, 3, 1] rfl)
    · replace h := o_ff c16 h
      refine lv_iconst (v := (1:Int32)) hx hb d_Pt_parse_123 (by decide) ?_
      refine lv_goto (tgt := 128) hx hb d_Pt_parse_124 (by decide) ?_
      exact w_Pt_parse_j128 hE C hDD n u28_Sj u28_T0 u28_T1 u28_Rd u28_Mk u28_Lk u28_Ck u28_Jd u28_Ld u28_Pr u28_rt x1 y0 (1:Int32) Pg Pt h h0 h1 _ _ _ hP hS (lv_sub hl [2, 3, 1] rfl)
set_option maxHeartbeats 4000000 in
set_option maxRecDepth 100000 in
theorem w_Pt_parse_b28 {E : (Nat → Prop) → State → Heap → Prop} {p : Program} {l : Launch} {e : Env} {s : State} {m : MethodId} {args : Array Value} {below : List Frame} {meth : Method} {c : Code} {D : va_G} {ad kd sd vd xd : Nat → Nat} {ca : Nat → ClassId} {A : Nat → Prop} {Q : State → Prop} (hE : o_EK E kd sd vd xd) (C : o_Cx E p s m args meth c D o_cls (o_tys ca) "SchemaJudge$Pattern" b_Pt_parse (some .boolean) 8 cc_Pt_parse A) (hDD : ∀ (rt : Nat) (Sj : SSJ) (T0 : STx) (T1 : STx) (Rd : SRd) (Pg : SPg) (Pt : SPt) (Mk : SMk) (Lk : SLk) (Ck : SCk) (Jd : SJd) (Ld : SLd) (Pr : SPr), va_D A (o_cw ad ca rt Sj T0 T1 Rd Pg Pt Mk Lk Ck Jd Ld Pr)) (n : Nat) (u28_Sj : SSJ) (u28_T0 : STx) (u28_T1 : STx) (u28_Rd : SRd) (u28_Mk : SMk) (u28_Lk : SLk) (u28_Ck : SCk) (u28_Jd : SJd) (u28_Ld : SLd) (u28_Pr : SPr) (u28_rt : Nat) (z : Int32 × SPg × SPt) (q : Nat × Int32 × SPg × SPt) (h : m_Pt_parse_b28 n z = some q) (h0 : q.1 = 0 → o_At p l e rm_Pt_parse s m args below meth c Q o_cls D A 8 28 [] (o_cw ad ca u28_rt u28_Sj u28_T0 u28_T1 u28_Rd q.2.2.1 q.2.2.2 u28_Mk u28_Lk u28_Ck u28_Jd u28_Ld u28_Pr) [(0, .ref (ad 33)), (1, .int q.2.1)]) (h1 : q.1 ≠ 0 → (if q.1 = 1 then o_At p l e rm_Pt_parse s m args below meth c Q o_cls D A 8 347 [] (o_cw ad ca u28_rt u28_Sj u28_T0 u28_T1 u28_Rd q.2.2.1 q.2.2.2 u28_Mk u28_Lk u28_Ck u28_Jd u28_Ld u28_Pr) [] else o_At p l e rm_Pt_parse s m args below meth c Q o_cls D A 8 355 [] (o_cw ad ca u28_rt u28_Sj u28_T0 u28_T1 u28_Rd q.2.2.1 q.2.2.2 u28_Mk u28_Lk u28_Ck u28_Jd u28_Ld u28_Pr) [(0, .ref (ad 33))])) : o_At p l e rm_Pt_parse s m args below meth c Q o_cls D A 8 28 [] (o_cw ad ca u28_rt u28_Sj u28_T0 u28_T1 u28_Rd z.2.1 z.2.2 u28_Mk u28_Lk u28_Ck u28_Jd u28_Ld u28_Pr) [(0, .ref (ad 33)), (1, .int z.1)] := by
  unfold m_Pt_parse_b28 at h
  intro H locs ls hP hS hl
  have C0 := C
  obtain ⟨hx, hb, -, -, -, hown, hts, hK, -, -⟩ := C0
  refine lv_iload_n hx hb d_Pt_parse_28 rfl (lv_at hl 1 rfl) ?_
  refine lv_sipush (v := (4000:Int32)) hx hb d_Pt_parse_29 (by decide) ?_
  refine lv_icmp_ge (tgt := 355) hx hb d_Pt_parse_32 (by decide) (fun c1 => ?_) (fun c1 => ?_)
  · replace h := o_tt c1 h
    cases h
    exact h1 (Nat.succ_ne_zero 1) _ _ _ hP hS (lv_sub hl [0] rfl)
  · replace h := o_ff c1 h
    refine lv_aload_n hx hb d_Pt_parse_35 rfl (lv_at hl 0 rfl) ?_
    refine o_get (v := .int (Pt_position z.2.2)) C in_Pt hP 33 cw_33 rfl 4 (by decide) k_1_164 rfl rfl d_Pt_parse_36 ?_
    refine lv_aload_n hx hb d_Pt_parse_39 rfl (lv_at hl 0 rfl) ?_
    refine o_get (v := .int (Pt_tokenCount z.2.2)) C in_Pt hP 33 cw_33 rfl 3 (by decide) k_1_163 rfl rfl d_Pt_parse_40 ?_
    refine lv_icmp_ge (tgt := 355) hx hb d_Pt_parse_43 (by decide) (fun c2 => ?_) (fun c2 => ?_)
    · replace h := o_tt c2 h
      cases h
      exact h1 (Nat.succ_ne_zero 1) _ _ _ hP hS (lv_sub hl [0] rfl)
    · replace h := o_ff c2 h
      refine lv_aload_n hx hb d_Pt_parse_46 rfl (lv_at hl 0 rfl) ?_
      refine lv_iconst (v := (0:Int32)) hx hb d_Pt_parse_47 (by decide) ?_
      obtain ⟨q3, hq3, h⟩ := o_bd_some h
      refine o_V (st1 := [.int q3]) (w1 := (o_cw ad ca u28_rt u28_Sj u28_T0 u28_T1 u28_Rd z.2.1 z.2.2 u28_Mk u28_Lk u28_Ck u28_Jd u28_Ld u28_Pr)) hE.1 C (c_Pt_peek hE l (0:Int32) z.2.2 u28_Sj u28_T0 u28_T1 u28_Rd z.2.1 u28_Mk u28_Lk u28_Ck u28_Jd u28_Ld u28_Pr u28_rt hq3) hP (hDD _ _ _ _ _ _ _ _ _ _ _ _ _) hS hl.1 rfl cw_33 k_4_214 k_4_216 k_s_28 k_1_5 k_4_217 hv_Pt_peek rfl rfl ⟨(Nat.le_of_ble_eq_true rfl), (Nat.le_of_ble_eq_true rfl)⟩ rfl (Nat.le_of_ble_eq_true rfl) ⟨Nat.zero_le _, Nat.zero_le _⟩ rfl d_Pt_parse_48 (fun H locs hP hS => ?_)
      refine lv_istore_n (lv' := [(2, .int q3), (0, .ref (ad 33)), (1, .int z.1)]) hx hb d_Pt_parse_51 rfl hl (by decide) rfl (fun ls hl => ?_)
      refine lv_aload_n hx hb d_Pt_parse_52 rfl (lv_at hl 1 rfl) ?_
      refine lv_dup hx hb d_Pt_parse_53 rfl ?_
      refine o_get (v := .int (Pt_position z.2.2)) C in_Pt hP 33 cw_33 rfl 4 (by decide) k_1_164 rfl rfl d_Pt_parse_54 ?_
      refine lv_iconst (v := (1:Int32)) hx hb d_Pt_parse_57 (by decide) ?_
      refine lv_iadd hx hb d_Pt_parse_58 ?_
      refine o_put (v := .int ((Pt_position z.2.2) + (1:Int32))) (ty := .int) (w1 := (o_cw ad ca u28_rt u28_Sj u28_T0 u28_T1 u28_Rd z.2.1 (Pt_mk (Pt_tokens z.2.2) (Pt_characterCount z.2.2) (Pt_tokenCount z.2.2) ((Pt_position z.2.2) + (1:Int32)) (Pt_total z.2.2) (Pt_least z.2.2) (Pt_most z.2.2) (Pt_depth z.2.2) (Pt_blockStarts z.2.2) (Pt_branchStarts z.2.2) (Pt_jumps z.2.2) (Pt_sizesBefore z.2.2)) u28_Mk u28_Lk u28_Ck u28_Jd u28_Ld u28_Pr)) C in_Pt t_Pt t_Pt_ok n_Pt hP (hDD _ _ _ _ _ _ _ _ _ _ _ _ _) hS 33 cw_33 rfl 4 (by decide) k_1_164 rfl rfl (by decide +kernel) rfl rfl (Nat.le_of_ble_eq_true rfl) rfl d_Pt_parse_59 (fun H locs hP hS => ?_)
      refine lv_aload_n hx hb d_Pt_parse_62 rfl (lv_at hl 1 rfl) ?_
      refine o_get (v := .ref (ad 25)) C in_Pt hP 33 cw_33 rfl 0 (by decide) k_1_160 rfl rfl d_Pt_parse_63 ?_
      refine o_get (v := .int (Pg_length z.2.1)) C in_Pg hP 25 cw_25 rfl 2 (by decide) k_1_122 rfl rfl d_Pt_parse_66 ?_
      refine lv_topi (fun x3_69 ex3_69 => ?_)
      replace h := o_nm_at ex3_69 h
      refine lv_istore_n (lv' := [(3, .int x3_69), (2, .int q3), (0, .ref (ad 33)), (1, .int z.1)]) hx hb d_Pt_parse_69 rfl hl (by decide) rfl (fun ls hl => ?_)
      refine lv_aload_n hx hb d_Pt_parse_70 rfl (lv_at hl 2 rfl) ?_
      refine o_get (v := .int (Pt_total z.2.2)) C in_Pt hP 33 cw_33 rfl 5 (by decide) k_1_165 rfl rfl d_Pt_parse_71 ?_
      refine lv_topi (fun x4_74 ex4_74 => ?_)
      replace h := o_nm_at ex4_74 h
      refine lv_istore (lv' := [(4, .int x4_74), (3, .int x3_69), (2, .int q3), (0, .ref (ad 33)), (1, .int z.1)]) hx hb d_Pt_parse_74 hl (by decide) rfl (fun ls hl => ?_)
      refine lv_iload_n hx hb d_Pt_parse_76 rfl (lv_at hl 2 rfl) ?_
      refine lv_bipush (v := (-94:Int32)) hx hb d_Pt_parse_77 (by decide) ?_
      refine lv_icmp_eq (tgt := 104) hx hb d_Pt_parse_79 (by decide) (fun c3 => ?_) (fun c3 => ?_)
      · replace h := o_tt c3 h
        refine lv_iconst (v := (0:Int32)) hx hb d_Pt_parse_104 (by decide) ?_
        exact w_Pt_parse_j105 hE C hDD n u28_Sj u28_T0 u28_T1 u28_Rd u28_Mk u28_Lk u28_Ck u28_Jd u28_Ld u28_Pr u28_rt z.1 q3 x3_69 x4_74 (0:Int32) z.2.1 (Pt_mk (Pt_tokens z.2.2) (Pt_characterCount z.2.2) (Pt_tokenCount z.2.2) ((Pt_position z.2.2) + (1:Int32)) (Pt_total z.2.2) (Pt_least z.2.2) (Pt_most z.2.2) (Pt_depth z.2.2) (Pt_blockStarts z.2.2) (Pt_branchStarts z.2.2) (Pt_jumps z.2.2) (Pt_sizesBefore z.2.2)) h h0 h1 _ _ _ hP hS (lv_sub hl [3, 4, 2, 1, 0] rfl)
      · replace h := o_ff c3 h
        refine lv_iload_n hx hb d_Pt_parse_82 rfl (lv_at hl 2 rfl) ?_
        refine lv_bipush (v := (-36:Int32)) hx hb d_Pt_parse_83 (by decide) ?_
        refine lv_icmp_eq (tgt := 104) hx hb d_Pt_parse_85 (by decide) (fun c20 => ?_) (fun c20 => ?_)
        · replace h := o_tt c20 h
          refine lv_iconst (v := (0:Int32)) hx hb d_Pt_parse_104 (by decide) ?_
          exact w_Pt_parse_j105 hE C hDD n u28_Sj u28_T0 u28_T1 u28_Rd u28_Mk u28_Lk u28_Ck u28_Jd u28_Ld u28_Pr u28_rt z.1 q3 x3_69 x4_74 (0:Int32) z.2.1 (Pt_mk (Pt_tokens z.2.2) (Pt_characterCount z.2.2) (Pt_tokenCount z.2.2) ((Pt_position z.2.2) + (1:Int32)) (Pt_total z.2.2) (Pt_least z.2.2) (Pt_most z.2.2) (Pt_depth z.2.2) (Pt_blockStarts z.2.2) (Pt_branchStarts z.2.2) (Pt_jumps z.2.2) (Pt_sizesBefore z.2.2)) h h0 h1 _ _ _ hP hS (lv_sub hl [3, 4, 2, 1, 0] rfl)
        · replace h := o_ff c20 h
          refine lv_iload_n hx hb d_Pt_parse_88 rfl (lv_at hl 2 rfl) ?_
          refine lv_bipush (v := (-124:Int32)) hx hb d_Pt_parse_89 (by decide) ?_
          refine lv_icmp_eq (tgt := 104) hx hb d_Pt_parse_91 (by decide) (fun c21 => ?_) (fun c21 => ?_)
          · replace h := o_tt c21 h
            refine lv_iconst (v := (0:Int32)) hx hb d_Pt_parse_104 (by decide) ?_
            exact w_Pt_parse_j105 hE C hDD n u28_Sj u28_T0 u28_T1 u28_Rd u28_Mk u28_Lk u28_Ck u28_Jd u28_Ld u28_Pr u28_rt z.1 q3 x3_69 x4_74 (0:Int32) z.2.1 (Pt_mk (Pt_tokens z.2.2) (Pt_characterCount z.2.2) (Pt_tokenCount z.2.2) ((Pt_position z.2.2) + (1:Int32)) (Pt_total z.2.2) (Pt_least z.2.2) (Pt_most z.2.2) (Pt_depth z.2.2) (Pt_blockStarts z.2.2) (Pt_branchStarts z.2.2) (Pt_jumps z.2.2) (Pt_sizesBefore z.2.2)) h h0 h1 _ _ _ hP hS (lv_sub hl [3, 4, 2, 1, 0] rfl)
          · replace h := o_ff c21 h
            refine lv_iload_n hx hb d_Pt_parse_94 rfl (lv_at hl 2 rfl) ?_
            refine lv_bipush (v := (-40:Int32)) hx hb d_Pt_parse_95 (by decide) ?_
            refine lv_icmp_eq (tgt := 104) hx hb d_Pt_parse_97 (by decide) (fun c22 => ?_) (fun c22 => ?_)
            · replace h := o_tt c22 h
              refine lv_iconst (v := (0:Int32)) hx hb d_Pt_parse_104 (by decide) ?_
              exact w_Pt_parse_j105 hE C hDD n u28_Sj u28_T0 u28_T1 u28_Rd u28_Mk u28_Lk u28_Ck u28_Jd u28_Ld u28_Pr u28_rt z.1 q3 x3_69 x4_74 (0:Int32) z.2.1 (Pt_mk (Pt_tokens z.2.2) (Pt_characterCount z.2.2) (Pt_tokenCount z.2.2) ((Pt_position z.2.2) + (1:Int32)) (Pt_total z.2.2) (Pt_least z.2.2) (Pt_most z.2.2) (Pt_depth z.2.2) (Pt_blockStarts z.2.2) (Pt_branchStarts z.2.2) (Pt_jumps z.2.2) (Pt_sizesBefore z.2.2)) h h0 h1 _ _ _ hP hS (lv_sub hl [3, 4, 2, 1, 0] rfl)
            · replace h := o_ff c22 h
              refine lv_iconst (v := (1:Int32)) hx hb d_Pt_parse_100 (by decide) ?_
              refine lv_goto (tgt := 105) hx hb d_Pt_parse_101 (by decide) ?_
              exact w_Pt_parse_j105 hE C hDD n u28_Sj u28_T0 u28_T1 u28_Rd u28_Mk u28_Lk u28_Ck u28_Jd u28_Ld u28_Pr u28_rt z.1 q3 x3_69 x4_74 (1:Int32) z.2.1 (Pt_mk (Pt_tokens z.2.2) (Pt_characterCount z.2.2) (Pt_tokenCount z.2.2) ((Pt_position z.2.2) + (1:Int32)) (Pt_total z.2.2) (Pt_least z.2.2) (Pt_most z.2.2) (Pt_depth z.2.2) (Pt_blockStarts z.2.2) (Pt_branchStarts z.2.2) (Pt_jumps z.2.2) (Pt_sizesBefore z.2.2)) h h0 h1 _ _ _ hP hS (lv_sub hl [3, 4, 2, 1, 0] rfl)
set_option maxHeartbeats 4000000 in
set_option maxRecDepth 100000 in
theorem w_Pt_parse_j355 {E : (Nat → Prop) → State → Heap → Prop} {p : Program} {l : Launch} {e : Env} {s : State} {m : MethodId} {args : Array Value} {below : List Frame} {meth : Method} {c : Code} {D : va_G} {ad kd sd vd xd : Nat → Nat} {ca : Nat → ClassId} {A : Nat → Prop} (hE : o_EK E kd sd vd xd) (C : o_Cx E p s m args meth c D o_cls (o_tys ca) "SchemaJudge$Pattern" b_Pt_parse (some .boolean) 8 cc_Pt_parse A) (hDD : ∀ (rt : Nat) (Sj : SSJ) (T0 : STx) (T1 : STx) (Rd : SRd) (Pg : SPg) (Pt : SPt) (Mk : SMk) (Lk : SLk) (Ck : SCk) (Jd : SJd) (Ld : SLd) (Pr : SPr), va_D A (o_cw ad ca rt Sj T0 T1 Rd Pg Pt Mk Lk Ck Jd Ld Pr)) (n : Nat)  (Pg : SPg) (Pt : SPt) (Sj : SSJ) (T0 : STx) (T1 : STx) (Rd : SRd) (Mk : SMk) (Lk : SLk) (Ck : SCk) (Jd : SJd) (Ld : SLd) (Pr : SPr) (rt : Nat) {r : Int32 × SPg × SPt} (h : m_Pt_parse_j355 n Pg Pt = some r) : o_At p l e rm_Pt_parse s m args below meth c (MQ below (o_Qx D o_cls (some (.int r.1)) (o_cw ad ca rt Sj T0 T1 Rd r.2.1 r.2.2 Mk Lk Ck Jd Ld Pr) A) args s 0 0 A) o_cls D A 8 355 [] (o_cw ad ca rt Sj T0 T1 Rd Pg Pt Mk Lk Ck Jd Ld Pr) [(0, .ref (ad 33))] := by
  unfold m_Pt_parse_j355 at h
  intro H locs ls hP hS hl
  have C0 := C
  obtain ⟨hx, hb, -, -, -, hown, hts, hK, -, -⟩ := C0
  refine lv_aload_n hx hb d_Pt_parse_355 rfl (lv_at hl 0 rfl) ?_
  obtain ⟨q14, hq14, h⟩ := o_bd_some h
  refine o_V (st1 := []) (w1 := (o_cw ad ca rt Sj T0 T1 Rd q14 Pt Mk Lk Ck Jd Ld Pr)) hE.1 C (c_Pt_endBlock hE l n Pg Pt Sj T0 T1 Rd Mk Lk Ck Jd Ld Pr rt hq14) hP (hDD _ _ _ _ _ _ _ _ _ _ _ _ _) hS hl.1 rfl cw_33 k_4_218 k_4_220 k_s_29 k_1_5 k_4_221 hv_Pt_endBlock rfl rfl ⟨(Nat.le_of_ble_eq_true rfl), (Nat.le_of_ble_eq_true rfl)⟩ rfl (Nat.le_of_ble_eq_true rfl) ⟨Nat.zero_le _, Nat.zero_le _⟩ rfl d_Pt_parse_356 (fun H locs hP hS => ?_)
  refine lv_aload_n hx hb d_Pt_parse_359 rfl (lv_at hl 0 rfl) ?_
  refine o_get (v := .ref (ad 25)) C in_Pt hP 33 cw_33 rfl 0 (by decide) k_1_160 rfl rfl d_Pt_parse_360 ?_
  refine lv_bipush (v := (8:Int32)) hx hb d_Pt_parse_363 (by decide) ?_
  refine lv_iconst (v := (0:Int32)) hx hb d_Pt_parse_365 (by decide) ?_
  obtain ⟨q15, hq15, h⟩ := o_bd_some h
  refine o_V (st1 := []) (w1 := (o_cw ad ca rt Sj T0 T1 Rd q15 Pt Mk Lk Ck Jd Ld Pr)) hE.1 C (c_Pg_emit hE l (8:Int32) (0:Int32) q14 Sj T0 T1 Rd Pt Mk Lk Ck Jd Ld Pr rt hq15) hP (hDD _ _ _ _ _ _ _ _ _ _ _ _ _) hS hl.1 rfl cw_25 k_5_7 k_5_8 k_5_9 k_1_4 k_5_10 hv_Pg_emit rfl rfl ⟨(Nat.le_of_ble_eq_true rfl), (Nat.le_of_ble_eq_true rfl)⟩ rfl (Nat.le_of_ble_eq_true rfl) ⟨Nat.zero_le _, Nat.zero_le _⟩ rfl d_Pt_parse_366 (fun H locs hP hS => ?_)
  refine lv_aload_n hx hb d_Pt_parse_369 rfl (lv_at hl 0 rfl) ?_
  refine o_get (v := .int (Pt_depth Pt)) C in_Pt hP 33 cw_33 rfl 8 (by decide) k_1_168 rfl rfl d_Pt_parse_370 ?_
  refine lv_if_ne (tgt := 380) hx hb d_Pt_parse_373 (by decide) (fun c23 => ?_) (fun c23 => ?_)
  · replace h := o_ff c23 h
    refine lv_iconst (v := (0:Int32)) hx hb d_Pt_parse_380 (by decide) ?_
    cases h
    exact o_rz (v := (0:Int32)) C o_nar0 hP hS d_Pt_parse_381
  · replace h := o_tt c23 h
    refine lv_iconst (v := (1:Int32)) hx hb d_Pt_parse_376 (by decide) ?_
    refine lv_goto (tgt := 381) hx hb d_Pt_parse_377 (by decide) ?_
    cases h
    exact o_rz (v := (1:Int32)) C o_nar1 hP hS d_Pt_parse_381
set_option maxHeartbeats 4000000 in
set_option maxRecDepth 100000 in
theorem c_Pt_parse {E : (Nat → Prop) → State → Heap → Prop} {D : va_G} {ad kd sd vd xd : Nat → Nat} {ca : Nat → ClassId} (hE : o_EK E kd sd vd xd) (l : Launch) (n : Nat)  (Pg : SPg) (Pt : SPt) (Sj : SSJ) (T0 : STx) (T1 : STx) (Rd : SRd) (Mk : SMk) (Lk : SLk) (Ck : SCk) (Jd : SJd) (Ld : SLd) (Pr : SPr) (rt : Nat) {r : Int32 × SPg × SPt} (h : m_Pt_parse n Pg Pt = some r) : o_Cn E l D o_cls (o_tys ca) y_Pt_parse cc_Pt_parse rm_Pt_parse [.ref (ad 33)] (o_cw ad ca rt Sj T0 T1 Rd Pg Pt Mk Lk Ck Jd Ld Pr) (o_cw ad ca rt Sj T0 T1 Rd r.2.1 r.2.2 Mk Lk Ck Jd Ld Pr) (some (.int r.1)) := by
  refine o_Cn_of (by decide) (Nat.le_of_ble_eq_true rfl) ?_
  intro p e s m below meth c A ls C hD hP hS hl
  have hDD : ∀ (rt : Nat) (Sj : SSJ) (T0 : STx) (T1 : STx) (Rd : SRd) (Pg : SPg) (Pt : SPt) (Mk : SMk) (Lk : SLk) (Ck : SCk) (Jd : SJd) (Ld : SLd) (Pr : SPr), va_D A (o_cw ad ca rt Sj T0 T1 Rd Pg Pt Mk Lk Ck Jd Ld Pr) := fun _ _ _ _ _ _ _ _ _ _ _ _ _ => o_D_map hD rfl
  have hl : lv_has ls 8 [(0, .ref (ad 33))] := hl
  unfold m_Pt_parse at h
  have C0 := C
  obtain ⟨hx, hb, -, -, -, hown, hts, hK, -, -⟩ := C0
  refine lv_aload_n hx hb d_Pt_parse_0 rfl (lv_at hl 0 rfl) ?_
  refine o_get (v := .ref (ad 25)) C in_Pt hP 33 cw_33 rfl 0 (by decide) k_1_160 rfl rfl d_Pt_parse_1 ?_
  obtain ⟨q1, hq1, h⟩ := o_bd_some h
  refine o_V (st1 := []) (w1 := (o_cw ad ca rt Sj T0 T1 Rd q1 Pt Mk Lk Ck Jd Ld Pr)) hE.1 C (c_Pg_clear hE l Pg Sj T0 T1 Rd Pt Mk Lk Ck Jd Ld Pr rt hq1) hP (hDD _ _ _ _ _ _ _ _ _ _ _ _ _) hS hl.1 rfl cw_25 k_4_206 k_4_207 k_4_208 k_1_4 k_4_209 hv_Pg_clear rfl rfl ⟨(Nat.le_of_ble_eq_true rfl), (Nat.le_of_ble_eq_true rfl)⟩ rfl (Nat.le_of_ble_eq_true rfl) ⟨Nat.zero_le _, Nat.zero_le _⟩ rfl d_Pt_parse_4 (fun H locs hP hS => ?_)
  refine lv_aload_n hx hb d_Pt_parse_7 rfl (lv_at hl 0 rfl) ?_
  refine lv_iconst (v := (0:Int32)) hx hb d_Pt_parse_8 (by decide) ?_
  refine o_put (v := .int (0:Int32)) (ty := .int) (w1 := (o_cw ad ca rt Sj T0 T1 Rd q1 (Pt_mk (Pt_tokens Pt) (Pt_characterCount Pt) (Pt_tokenCount Pt) (0:Int32) (Pt_total Pt) (Pt_least Pt) (Pt_most Pt) (Pt_depth Pt) (Pt_blockStarts Pt) (Pt_branchStarts Pt) (Pt_jumps Pt) (Pt_sizesBefore Pt)) Mk Lk Ck Jd Ld Pr)) C in_Pt t_Pt t_Pt_ok n_Pt hP (hDD _ _ _ _ _ _ _ _ _ _ _ _ _) hS 33 cw_33 rfl 4 (by decide) k_1_164 rfl rfl (by decide +kernel) rfl rfl (Nat.le_of_ble_eq_true rfl) rfl d_Pt_parse_9 (fun H locs hP hS => ?_)
  refine lv_aload_n hx hb d_Pt_parse_12 rfl (lv_at hl 0 rfl) ?_
  refine lv_iconst (v := (0:Int32)) hx hb d_Pt_parse_13 (by decide) ?_
  refine o_put (v := .int (0:Int32)) (ty := .int) (w1 := (o_cw ad ca rt Sj T0 T1 Rd q1 (Pt_mk (Pt_tokens Pt) (Pt_characterCount Pt) (Pt_tokenCount Pt) (0:Int32) (0:Int32) (Pt_least Pt) (Pt_most Pt) (Pt_depth Pt) (Pt_blockStarts Pt) (Pt_branchStarts Pt) (Pt_jumps Pt) (Pt_sizesBefore Pt)) Mk Lk Ck Jd Ld Pr)) C in_Pt t_Pt t_Pt_ok n_Pt hP (hDD _ _ _ _ _ _ _ _ _ _ _ _ _) hS 33 cw_33 rfl 5 (by decide) k_1_165 rfl rfl (by decide +kernel) rfl rfl (Nat.le_of_ble_eq_true rfl) rfl d_Pt_parse_14 (fun H locs hP hS => ?_)
  refine lv_aload_n hx hb d_Pt_parse_17 rfl (lv_at hl 0 rfl) ?_
  refine lv_iconst (v := (0:Int32)) hx hb d_Pt_parse_18 (by decide) ?_
  refine o_put (v := .int (0:Int32)) (ty := .int) (w1 := (o_cw ad ca rt Sj T0 T1 Rd q1 (Pt_mk (Pt_tokens Pt) (Pt_characterCount Pt) (Pt_tokenCount Pt) (0:Int32) (0:Int32) (Pt_least Pt) (Pt_most Pt) (0:Int32) (Pt_blockStarts Pt) (Pt_branchStarts Pt) (Pt_jumps Pt) (Pt_sizesBefore Pt)) Mk Lk Ck Jd Ld Pr)) C in_Pt t_Pt t_Pt_ok n_Pt hP (hDD _ _ _ _ _ _ _ _ _ _ _ _ _) hS 33 cw_33 rfl 8 (by decide) k_1_168 rfl rfl (by decide +kernel) rfl rfl (Nat.le_of_ble_eq_true rfl) rfl d_Pt_parse_19 (fun H locs hP hS => ?_)
  refine lv_aload_n hx hb d_Pt_parse_22 rfl (lv_at hl 0 rfl) ?_
  obtain ⟨q2, hq2, h⟩ := o_bd_some h
  refine o_V (st1 := []) (w1 := (o_cw ad ca rt Sj T0 T1 Rd q1 q2 Mk Lk Ck Jd Ld Pr)) hE.1 C (c_Pt_beginBlock hE l q1 (Pt_mk (Pt_tokens Pt) (Pt_characterCount Pt) (Pt_tokenCount Pt) (0:Int32) (0:Int32) (Pt_least Pt) (Pt_most Pt) (0:Int32) (Pt_blockStarts Pt) (Pt_branchStarts Pt) (Pt_jumps Pt) (Pt_sizesBefore Pt)) Sj T0 T1 Rd Mk Lk Ck Jd Ld Pr rt hq2) hP (hDD _ _ _ _ _ _ _ _ _ _ _ _ _) hS hl.1 rfl cw_33 k_4_210 k_4_212 k_s_27 k_1_5 k_4_213 hv_Pt_beginBlock rfl rfl ⟨(Nat.le_of_ble_eq_true rfl), (Nat.le_of_ble_eq_true rfl)⟩ rfl (Nat.le_of_ble_eq_true rfl) ⟨Nat.zero_le _, Nat.zero_le _⟩ rfl d_Pt_parse_23 (fun H locs hP hS => ?_)
  refine lv_iconst (v := (0:Int32)) hx hb d_Pt_parse_26 (by decide) ?_
  refine lv_istore_n (lv' := [(1, .int (0:Int32)), (0, .ref (ad 33))]) hx hb d_Pt_parse_27 rfl hl (by decide) rfl (fun ls hl => ?_)
  obtain ⟨q13, hq13, h⟩ := o_bd_some h
  refine o_sim2 (AH := fun zz => o_At p l e rm_Pt_parse s m _ below meth c _ o_cls D A 8 28 [] (o_cw ad ca rt Sj T0 T1 Rd zz.2.1 zz.2.2 Mk Lk Ck Jd Ld Pr) [(0, .ref (ad 33)), (1, .int zz.1)]) (AX := fun qq => if qq.1 = 1 then o_At p l e rm_Pt_parse s m _ below meth c _ o_cls D A 8 347 [] (o_cw ad ca rt Sj T0 T1 Rd qq.2.2.1 qq.2.2.2 Mk Lk Ck Jd Ld Pr) [] else o_At p l e rm_Pt_parse s m _ below meth c _ o_cls D A 8 355 [] (o_cw ad ca rt Sj T0 T1 Rd qq.2.2.1 qq.2.2.2 Mk Lk Ck Jd Ld Pr) [(0, .ref (ad 33))]) (fun zz qq h h0 h1 => w_Pt_parse_b28 hE C hDD n Sj T0 T1 Rd Mk Lk Ck Jd Ld Pr rt zz qq h h0 h1) n _ q13 hq13 ?_ _ _ _ hP hS (lv_sub hl [1, 0] rfl)
  by_cases c24 : q13.1 = 1
  · replace h := o_tt c24 h
    refine o_ip c24 ?_
    intro H locs ls hP hS hl
    refine lv_iconst (v := (0:Int32)) hx hb d_Pt_parse_347 (by decide) ?_
    cases h
    exact o_rz (v := (0:Int32)) C o_nar0 hP hS d_Pt_parse_348
  replace h := o_ff c24 h
  refine o_in_ c24 ?_
  intro H locs ls hP hS hl
  exact w_Pt_parse_j355 hE C hDD n q13.2.2.1 q13.2.2.2 Sj T0 T1 Rd Mk Lk Ck Jd Ld Pr rt h _ _ _ hP hS (lv_sub hl [0] rfl)
set_option maxHeartbeats 4000000 in
set_option maxRecDepth 100000 in
theorem c_Tx_cell_0 {E : (Nat → Prop) → State → Heap → Prop} {D : va_G} {ad kd sd vd xd : Nat → Nat} {ca : Nat → ClassId} (hE : o_EK E kd sd vd xd) (l : Launch) (x1 : Int32) (x2 : Int32) (a0 : STx) (Sj : SSJ) (T1 : STx) (Rd : SRd) (Pg : SPg) (Pt : SPt) (Mk : SMk) (Lk : SLk) (Ck : SCk) (Jd : SJd) (Ld : SLd) (Pr : SPr) (rt : Nat) {r : Int32} (h : m_Tx_cell x1 x2 a0 = some r) : o_Cn E l D o_cls (o_tys ca) y_Tx_cell cc_Tx_cell rm_Tx_cell [.ref (ad 1), .int x1, .int x2] (o_cw ad ca rt Sj a0 T1 Rd Pg Pt Mk Lk Ck Jd Ld Pr) (o_cw ad ca rt Sj a0 T1 Rd Pg Pt Mk Lk Ck Jd Ld Pr) (some (.int r)) := by
  refine o_Cn_of (by decide) (Nat.le_of_ble_eq_true rfl) ?_
  intro p e s m below meth c A ls C hD hP hS hl
  have hDD : ∀ (rt : Nat) (Sj : SSJ) (T0 : STx) (T1 : STx) (Rd : SRd) (Pg : SPg) (Pt : SPt) (Mk : SMk) (Lk : SLk) (Ck : SCk) (Jd : SJd) (Ld : SLd) (Pr : SPr), va_D A (o_cw ad ca rt Sj T0 T1 Rd Pg Pt Mk Lk Ck Jd Ld Pr) := fun _ _ _ _ _ _ _ _ _ _ _ _ _ => o_D_map hD rfl
  have hl : lv_has ls 4 [(0, .ref (ad 1)), (1, .int x1), (2, .int x2)] := hl
  unfold m_Tx_cell at h
  have C0 := C
  obtain ⟨hx, hb, -, -, -, hown, hts, hK, -, -⟩ := C0
  refine lv_iload_n hx hb d_Tx_cell_0 rfl (lv_at hl 1 rfl) ?_
  refine lv_if_lt (tgt := 26) hx hb d_Tx_cell_1 (by decide) (fun c1 => ?_) (fun c1 => ?_)
  · replace h := o_tt c1 h
    refine lv_iconst (v := (0:Int32)) hx hb d_Tx_cell_26 (by decide) ?_
    cases h
    exact o_ri (v := (0:Int32)) C hP hS d_Tx_cell_27
  · replace h := o_ff c1 h
    refine lv_iload_n hx hb d_Tx_cell_4 rfl (lv_at hl 1 rfl) ?_
    refine lv_aload_n hx hb d_Tx_cell_5 rfl (lv_at hl 0 rfl) ?_
    refine o_get (v := .int (Tx_total a0)) C in_Tx hP 1 cw_1 rfl 10 (by decide) k_1_56 rfl rfl d_Tx_cell_6 ?_
    refine lv_icmp_ge (tgt := 26) hx hb d_Tx_cell_9 (by decide) (fun c2 => ?_) (fun c2 => ?_)
    · replace h := o_tt c2 h
      refine lv_iconst (v := (0:Int32)) hx hb d_Tx_cell_26 (by decide) ?_
      cases h
      exact o_ri (v := (0:Int32)) C hP hS d_Tx_cell_27
    · replace h := o_ff c2 h
      refine lv_iload_n hx hb d_Tx_cell_12 rfl (lv_at hl 2 rfl) ?_
      refine lv_if_lt (tgt := 26) hx hb d_Tx_cell_13 (by decide) (fun c3 => ?_) (fun c3 => ?_)
      · replace h := o_tt c3 h
        refine lv_iconst (v := (0:Int32)) hx hb d_Tx_cell_26 (by decide) ?_
        cases h
        exact o_ri (v := (0:Int32)) C hP hS d_Tx_cell_27
      · replace h := o_ff c3 h
        refine lv_iload_n hx hb d_Tx_cell_16 rfl (lv_at hl 2 rfl) ?_
        refine lv_aload_n hx hb d_Tx_cell_17 rfl (lv_at hl 0 rfl) ?_
        refine o_get (v := .ref (ad 4)) C in_Tx hP 1 cw_1 rfl 2 (by decide) k_1_48 rfl rfl d_Tx_cell_18 ?_
        refine lv_iload_n hx hb d_Tx_cell_21 rfl (lv_at hl 1 rfl) ?_
        obtain ⟨g4, h⟩ := o_gd_some h
        refine o_iald (f := (Tx_sizes a0)) C hP 4 2 cw_4 rfl g4 d_Tx_cell_22 ?_
        refine lv_icmp_lt (tgt := 28) hx hb d_Tx_cell_23 (by decide) (fun c5 => ?_) (fun c5 => ?_)
        · replace h := o_tt c5 h
          refine lv_aload_n hx hb d_Tx_cell_28 rfl (lv_at hl 0 rfl) ?_
          refine o_get (v := .ref (ad 7)) C in_Tx hP 1 cw_1 rfl 5 (by decide) k_1_51 rfl rfl d_Tx_cell_29 ?_
          refine lv_iload_n hx hb d_Tx_cell_32 rfl (lv_at hl 1 rfl) ?_
          obtain ⟨g6, h⟩ := o_gd_some h
          refine o_iald (f := (Tx_starts a0)) C hP 7 5 cw_7 rfl g6 d_Tx_cell_33 ?_
          refine lv_iload_n hx hb d_Tx_cell_34 rfl (lv_at hl 2 rfl) ?_
          refine lv_iadd hx hb d_Tx_cell_35 ?_
          refine lv_topi (fun x3_36 ex3_36 => ?_)
          replace h := o_nm_at ex3_36 h
          refine lv_istore_n (lv' := [(3, .int x3_36), (0, .ref (ad 1)), (1, .int x1), (2, .int x2)]) hx hb d_Tx_cell_36 rfl hl (by decide) rfl (fun ls hl => ?_)
          refine lv_iload_n hx hb d_Tx_cell_37 rfl (lv_at hl 0 rfl) ?_
          refine lv_if_lt (tgt := 59) hx hb d_Tx_cell_38 (by decide) (fun c7 => ?_) (fun c7 => ?_)
          · replace h := o_tt c7 h
            refine lv_iconst (v := (0:Int32)) hx hb d_Tx_cell_59 (by decide) ?_
            cases h
            exact o_ri (v := (0:Int32)) C hP hS d_Tx_cell_60
          · replace h := o_ff c7 h
            refine lv_iload_n hx hb d_Tx_cell_41 rfl (lv_at hl 0 rfl) ?_
            refine lv_aload_n hx hb d_Tx_cell_42 rfl (lv_at hl 1 rfl) ?_
            refine o_get (v := .ref (ad 11)) C in_Tx hP 1 cw_1 rfl 9 (by decide) k_1_55 rfl rfl d_Tx_cell_43 ?_
            refine va_alen (v := (8192:Int32)) hx hb hK hP 11 9 cw_11 rfl rfl d_Tx_cell_46 ?_
            refine lv_icmp_ge (tgt := 59) hx hb d_Tx_cell_47 (by decide) (fun c8 => ?_) (fun c8 => ?_)
            · replace h := o_tt c8 h
              refine lv_iconst (v := (0:Int32)) hx hb d_Tx_cell_59 (by decide) ?_
              cases h
              exact o_ri (v := (0:Int32)) C hP hS d_Tx_cell_60
            · replace h := o_ff c8 h
              refine lv_aload_n hx hb d_Tx_cell_50 rfl (lv_at hl 1 rfl) ?_
              refine o_get (v := .ref (ad 11)) C in_Tx hP 1 cw_1 rfl 9 (by decide) k_1_55 rfl rfl d_Tx_cell_51 ?_
              refine lv_iload_n hx hb d_Tx_cell_54 rfl (lv_at hl 0 rfl) ?_
              obtain ⟨g9, h⟩ := o_gd_some h
              refine o_iald (f := (Tx_cells a0)) C hP 11 9 cw_11 rfl g9 d_Tx_cell_55 ?_
              refine lv_goto (tgt := 60) hx hb d_Tx_cell_56 (by decide) ?_
              cases h
              exact o_ri (v := ((Tx_cells a0) x3_36.toNatClampNeg)) C hP hS d_Tx_cell_60
        · replace h := o_ff c5 h
          refine lv_iconst (v := (0:Int32)) hx hb d_Tx_cell_26 (by decide) ?_
          cases h
          exact o_ri (v := (0:Int32)) C hP hS d_Tx_cell_27
set_option maxHeartbeats 4000000 in
set_option maxRecDepth 100000 in
theorem w_Pt_tokenise_b19_0 {E : (Nat → Prop) → State → Heap → Prop} {p : Program} {l : Launch} {e : Env} {s : State} {m : MethodId} {args : Array Value} {below : List Frame} {meth : Method} {c : Code} {D : va_G} {ad kd sd vd xd : Nat → Nat} {ca : Nat → ClassId} {A : Nat → Prop} {Q : State → Prop} (hE : o_EK E kd sd vd xd) (C : o_Cx E p s m args meth c D o_cls (o_tys ca) "SchemaJudge$Pattern" b_Pt_tokenise (some .boolean) 7 cc_Pt_tokenise A) (hDD : ∀ (rt : Nat) (Sj : SSJ) (T0 : STx) (T1 : STx) (Rd : SRd) (Pg : SPg) (Pt : SPt) (Mk : SMk) (Lk : SLk) (Ck : SCk) (Jd : SJd) (Ld : SLd) (Pr : SPr), va_D A (o_cw ad ca rt Sj T0 T1 Rd Pg Pt Mk Lk Ck Jd Ld Pr)) (n : Nat) (u19_x2 : Int32) (u19_a1 : STx) (u19_Sj : SSJ) (u19_T1 : STx) (u19_Rd : SRd) (u19_Pg : SPg) (u19_Mk : SMk) (u19_Lk : SLk) (u19_Ck : SCk) (u19_Jd : SJd) (u19_Ld : SLd) (u19_Pr : SPr) (u19_rt : Nat) (z : Int32 × SPt) (q : Nat × Int32 × SPt) (h : m_Pt_tokenise_b19 n u19_x2 u19_a1 z = some q) (h0 : q.1 = 0 → o_At p l e rm_Pt_tokenise s m args below meth c Q o_cls D A 7 19 [] (o_cw ad ca u19_rt u19_Sj u19_a1 u19_T1 u19_Rd u19_Pg q.2.2 u19_Mk u19_Lk u19_Ck u19_Jd u19_Ld u19_Pr) [(0, .ref (ad 33)), (1, .ref (ad 1)), (2, .int u19_x2), (3, .int q.2.1)]) (h1 : q.1 ≠ 0 → (o_At p l e rm_Pt_tokenise s m args below meth c Q o_cls D A 7 45 [] (o_cw ad ca u19_rt u19_Sj u19_a1 u19_T1 u19_Rd u19_Pg q.2.2 u19_Mk u19_Lk u19_Ck u19_Jd u19_Ld u19_Pr) [(0, .ref (ad 33))])) : o_At p l e rm_Pt_tokenise s m args below meth c Q o_cls D A 7 19 [] (o_cw ad ca u19_rt u19_Sj u19_a1 u19_T1 u19_Rd u19_Pg z.2 u19_Mk u19_Lk u19_Ck u19_Jd u19_Ld u19_Pr) [(0, .ref (ad 33)), (1, .ref (ad 1)), (2, .int u19_x2), (3, .int z.1)] := by
  unfold m_Pt_tokenise_b19 at h
  intro H locs ls hP hS hl
  have C0 := C
  obtain ⟨hx, hb, -, -, -, hown, hts, hK, -, -⟩ := C0
  refine lv_iload_n hx hb d_Pt_tokenise_19 rfl (lv_at hl 3 rfl) ?_
  refine lv_aload_n hx hb d_Pt_tokenise_20 rfl (lv_at hl 0 rfl) ?_
  refine o_get (v := .int (Pt_characterCount z.2)) C in_Pt hP 33 cw_33 rfl 2 (by decide) k_1_162 rfl rfl d_Pt_tokenise_21 ?_
  refine lv_icmp_ge (tgt := 45) hx hb d_Pt_tokenise_24 (by decide) (fun c1 => ?_) (fun c1 => ?_)
  · replace h := o_tt c1 h
    cases h
    exact h1 (Nat.succ_ne_zero 0) _ _ _ hP hS (lv_sub hl [0] rfl)
  · replace h := o_ff c1 h
    refine lv_aload_n hx hb d_Pt_tokenise_27 rfl (lv_at hl 0 rfl) ?_
    refine o_get (v := .ref (ad 34)) C in_Pt hP 33 cw_33 rfl 1 (by decide) k_1_161 rfl rfl d_Pt_tokenise_28 ?_
    refine lv_iload_n hx hb d_Pt_tokenise_31 rfl (lv_at hl 3 rfl) ?_
    refine lv_aload_n hx hb d_Pt_tokenise_32 rfl (lv_at hl 1 rfl) ?_
    refine lv_iload_n hx hb d_Pt_tokenise_33 rfl (lv_at hl 2 rfl) ?_
    refine lv_iload_n hx hb d_Pt_tokenise_34 rfl (lv_at hl 3 rfl) ?_
    obtain ⟨q2, hq2, h⟩ := o_bd_some h
    refine o_V (st1 := [.int q2, .int z.1, .ref (ad 34)]) (w1 := (o_cw ad ca u19_rt u19_Sj u19_a1 u19_T1 u19_Rd u19_Pg z.2 u19_Mk u19_Lk u19_Ck u19_Jd u19_Ld u19_Pr)) hE.1 C (c_Tx_cell_0 hE l u19_x2 z.1 u19_a1 u19_Sj u19_T1 u19_Rd u19_Pg z.2 u19_Mk u19_Lk u19_Ck u19_Jd u19_Ld u19_Pr u19_rt hq2) hP (hDD _ _ _ _ _ _ _ _ _ _ _ _ _) hS hl.1 rfl cw_1 k_4_116 k_4_117 k_4_118 k_1_2 k_4_119 hv_Tx_cell rfl rfl ⟨(Nat.le_of_ble_eq_true rfl), (Nat.le_of_ble_eq_true rfl)⟩ rfl (Nat.le_of_ble_eq_true rfl) ⟨Nat.zero_le _, Nat.zero_le _⟩ rfl d_Pt_tokenise_35 (fun H locs hP hS => ?_)
    obtain ⟨g2, h⟩ := o_gd_some h
    refine o_iast (f := (Pt_tokens z.2)) (w1 := (o_cw ad ca u19_rt u19_Sj u19_a1 u19_T1 u19_Rd u19_Pg (Pt_mk (upd (Pt_tokens z.2) z.1.toNatClampNeg q2) (Pt_characterCount z.2) (Pt_tokenCount z.2) (Pt_position z.2) (Pt_total z.2) (Pt_least z.2) (Pt_most z.2) (Pt_depth z.2) (Pt_blockStarts z.2) (Pt_branchStarts z.2) (Pt_jumps z.2) (Pt_sizesBefore z.2)) u19_Mk u19_Lk u19_Ck u19_Jd u19_Ld u19_Pr)) C hP (hDD _ _ _ _ _ _ _ _ _ _ _ _ _) hS 34 28 cw_34 rfl g2 rfl d_Pt_tokenise_38 (fun H locs hP hS => ?_)
    obtain ⟨x3_39, ex3_39⟩ : ∃ y : Int32, y = z.1 + (1:Int32) := ⟨_, rfl⟩
    replace h := o_nm_at ex3_39 h
    refine lv_iinc (v := x3_39) (lv' := [(3, .int x3_39), (0, .ref (ad 33)), (1, .ref (ad 1)), (2, .int u19_x2)]) hx hb d_Pt_tokenise_39 hl (k := 3) rfl (by rw [ex3_39]; rfl) (by decide) rfl (fun ls hl => ?_)
    refine lv_goto (tgt := 19) hx hb d_Pt_tokenise_42 (by decide) ?_
    cases h
    exact h0 rfl _ _ _ hP hS (lv_sub hl [1, 2, 3, 0] rfl)
set_option maxHeartbeats 4000000 in
set_option maxRecDepth 100000 in
theorem w_Pt_tokenise_j190_0 {E : (Nat → Prop) → State → Heap → Prop} {p : Program} {l : Launch} {e : Env} {s : State} {m : MethodId} {args : Array Value} {below : List Frame} {meth : Method} {c : Code} {D : va_G} {ad kd sd vd xd : Nat → Nat} {ca : Nat → ClassId} {A : Nat → Prop} {Q : State → Prop} (hE : o_EK E kd sd vd xd) (C : o_Cx E p s m args meth c D o_cls (o_tys ca) "SchemaJudge$Pattern" b_Pt_tokenise (some .boolean) 7 cc_Pt_tokenise A) (hDD : ∀ (rt : Nat) (Sj : SSJ) (T0 : STx) (T1 : STx) (Rd : SRd) (Pg : SPg) (Pt : SPt) (Mk : SMk) (Lk : SLk) (Ck : SCk) (Jd : SJd) (Ld : SLd) (Pr : SPr), va_D A (o_cw ad ca rt Sj T0 T1 Rd Pg Pt Mk Lk Ck Jd Ld Pr)) (n : Nat) (u60_a1 : STx) (u60_Sj : SSJ) (u60_T1 : STx) (u60_Rd : SRd) (u60_Pg : SPg) (u60_Mk : SMk) (u60_Lk : SLk) (u60_Ck : SCk) (u60_Jd : SJd) (u60_Ld : SLd) (u60_Pr : SPr) (u60_rt : Nat) (x3 : Int32) (x4 : Int32) (x6 : Int32) (Pt : SPt) {q : Nat × Int32 × Int32 × SPt} (h : m_Pt_tokenise_j190 n x3 x4 x6 u60_a1 Pt = some q) (h0 : q.1 = 0 → o_At p l e rm_Pt_tokenise s m args below meth c Q o_cls D A 7 60 [] (o_cw ad ca u60_rt u60_Sj u60_a1 u60_T1 u60_Rd u60_Pg q.2.2.2 u60_Mk u60_Lk u60_Ck u60_Jd u60_Ld u60_Pr) [(0, .ref (ad 33)), (3, .int q.2.1), (4, .int q.2.2.1)]) (h1 : q.1 ≠ 0 → (if q.1 = 1 then o_At p l e rm_Pt_tokenise s m args below meth c Q o_cls D A 7 126 [] (o_cw ad ca u60_rt u60_Sj u60_a1 u60_T1 u60_Rd u60_Pg q.2.2.2 u60_Mk u60_Lk u60_Ck u60_Jd u60_Ld u60_Pr) [] else o_At p l e rm_Pt_tokenise s m args below meth c Q o_cls D A 7 217 [] (o_cw ad ca u60_rt u60_Sj u60_a1 u60_T1 u60_Rd u60_Pg q.2.2.2 u60_Mk u60_Lk u60_Ck u60_Jd u60_Ld u60_Pr) [(3, .int q.2.1)])) : o_At p l e rm_Pt_tokenise s m args below meth c Q o_cls D A 7 190 [] (o_cw ad ca u60_rt u60_Sj u60_a1 u60_T1 u60_Rd u60_Pg Pt u60_Mk u60_Lk u60_Ck u60_Jd u60_Ld u60_Pr) [(0, .ref (ad 33)), (3, .int x3), (4, .int x4), (6, .int x6)] := by
  unfold m_Pt_tokenise_j190 at h
  intro H locs ls hP hS hl
  have C0 := C
  obtain ⟨hx, hb, -, -, -, hown, hts, hK, -, -⟩ := C0
  refine lv_aload_n hx hb d_Pt_tokenise_190 rfl (lv_at hl 0 rfl) ?_
  refine o_get (v := .ref (ad 34)) C in_Pt hP 33 cw_33 rfl 1 (by decide) k_1_161 rfl rfl d_Pt_tokenise_191 ?_
  refine lv_aload_n hx hb d_Pt_tokenise_194 rfl (lv_at hl 0 rfl) ?_
  refine o_get (v := .int (Pt_tokenCount Pt)) C in_Pt hP 33 cw_33 rfl 3 (by decide) k_1_163 rfl rfl d_Pt_tokenise_195 ?_
  refine lv_iload hx hb d_Pt_tokenise_198 (lv_at hl 3 rfl) ?_
  obtain ⟨g9, h⟩ := o_gd_some h
  refine o_iast (f := (Pt_tokens Pt)) (w1 := (o_cw ad ca u60_rt u60_Sj u60_a1 u60_T1 u60_Rd u60_Pg (Pt_mk (upd (Pt_tokens Pt) (Pt_tokenCount Pt).toNatClampNeg x6) (Pt_characterCount Pt) (Pt_tokenCount Pt) (Pt_position Pt) (Pt_total Pt) (Pt_least Pt) (Pt_most Pt) (Pt_depth Pt) (Pt_blockStarts Pt) (Pt_branchStarts Pt) (Pt_jumps Pt) (Pt_sizesBefore Pt)) u60_Mk u60_Lk u60_Ck u60_Jd u60_Ld u60_Pr)) C hP (hDD _ _ _ _ _ _ _ _ _ _ _ _ _) hS 34 28 cw_34 rfl g9 rfl d_Pt_tokenise_200 (fun H locs hP hS => ?_)
  refine lv_aload_n hx hb d_Pt_tokenise_201 rfl (lv_at hl 0 rfl) ?_
  refine lv_dup hx hb d_Pt_tokenise_202 rfl ?_
  refine o_get (v := .int (Pt_tokenCount Pt)) C in_Pt hP 33 cw_33 rfl 3 (by decide) k_1_163 rfl rfl d_Pt_tokenise_203 ?_
  refine lv_iconst (v := (1:Int32)) hx hb d_Pt_tokenise_206 (by decide) ?_
  refine lv_iadd hx hb d_Pt_tokenise_207 ?_
  refine o_put (v := .int ((Pt_tokenCount Pt) + (1:Int32))) (ty := .int) (w1 := (o_cw ad ca u60_rt u60_Sj u60_a1 u60_T1 u60_Rd u60_Pg (Pt_mk (upd (Pt_tokens Pt) (Pt_tokenCount Pt).toNatClampNeg x6) (Pt_characterCount Pt) ((Pt_tokenCount Pt) + (1:Int32)) (Pt_position Pt) (Pt_total Pt) (Pt_least Pt) (Pt_most Pt) (Pt_depth Pt) (Pt_blockStarts Pt) (Pt_branchStarts Pt) (Pt_jumps Pt) (Pt_sizesBefore Pt)) u60_Mk u60_Lk u60_Ck u60_Jd u60_Ld u60_Pr)) C in_Pt t_Pt t_Pt_ok n_Pt hP (hDD _ _ _ _ _ _ _ _ _ _ _ _ _) hS 33 cw_33 rfl 3 (by decide) k_1_163 rfl rfl (by decide +kernel) rfl rfl (Nat.le_of_ble_eq_true rfl) rfl d_Pt_tokenise_208 (fun H locs hP hS => ?_)
  obtain ⟨x4_211, ex4_211⟩ : ∃ y : Int32, y = x4 + (1:Int32) := ⟨_, rfl⟩
  replace h := o_nm_at ex4_211 h
  refine lv_iinc (v := x4_211) (lv' := [(4, .int x4_211), (0, .ref (ad 33)), (3, .int x3), (6, .int x6)]) hx hb d_Pt_tokenise_211 hl (k := 2) rfl (by rw [ex4_211]; rfl) (by decide) rfl (fun ls hl => ?_)
  refine lv_goto (tgt := 60) hx hb d_Pt_tokenise_214 (by decide) ?_
  cases h
  exact h0 rfl _ _ _ hP hS (lv_sub hl [1, 2, 0] rfl)
set_option maxHeartbeats 4000000 in
set_option maxRecDepth 100000 in
theorem w_Pt_tokenise_j184_0 {E : (Nat → Prop) → State → Heap → Prop} {p : Program} {l : Launch} {e : Env} {s : State} {m : MethodId} {args : Array Value} {below : List Frame} {meth : Method} {c : Code} {D : va_G} {ad kd sd vd xd : Nat → Nat} {ca : Nat → ClassId} {A : Nat → Prop} {Q : State → Prop} (hE : o_EK E kd sd vd xd) (C : o_Cx E p s m args meth c D o_cls (o_tys ca) "SchemaJudge$Pattern" b_Pt_tokenise (some .boolean) 7 cc_Pt_tokenise A) (hDD : ∀ (rt : Nat) (Sj : SSJ) (T0 : STx) (T1 : STx) (Rd : SRd) (Pg : SPg) (Pt : SPt) (Mk : SMk) (Lk : SLk) (Ck : SCk) (Jd : SJd) (Ld : SLd) (Pr : SPr), va_D A (o_cw ad ca rt Sj T0 T1 Rd Pg Pt Mk Lk Ck Jd Ld Pr)) (n : Nat) (u60_a1 : STx) (u60_Sj : SSJ) (u60_T1 : STx) (u60_Rd : SRd) (u60_Pg : SPg) (u60_Mk : SMk) (u60_Lk : SLk) (u60_Ck : SCk) (u60_Jd : SJd) (u60_Ld : SLd) (u60_Pr : SPr) (u60_rt : Nat) (x4 : Int32) (x5 : Int32) (y0 : Int32) (Pt : SPt) {q : Nat × Int32 × Int32 × SPt} (h : m_Pt_tokenise_j184 n x4 x5 y0 u60_a1 Pt = some q) (h0 : q.1 = 0 → o_At p l e rm_Pt_tokenise s m args below meth c Q o_cls D A 7 60 [] (o_cw ad ca u60_rt u60_Sj u60_a1 u60_T1 u60_Rd u60_Pg q.2.2.2 u60_Mk u60_Lk u60_Ck u60_Jd u60_Ld u60_Pr) [(0, .ref (ad 33)), (3, .int q.2.1), (4, .int q.2.2.1)]) (h1 : q.1 ≠ 0 → (if q.1 = 1 then o_At p l e rm_Pt_tokenise s m args below meth c Q o_cls D A 7 126 [] (o_cw ad ca u60_rt u60_Sj u60_a1 u60_T1 u60_Rd u60_Pg q.2.2.2 u60_Mk u60_Lk u60_Ck u60_Jd u60_Ld u60_Pr) [] else o_At p l e rm_Pt_tokenise s m args below meth c Q o_cls D A 7 217 [] (o_cw ad ca u60_rt u60_Sj u60_a1 u60_T1 u60_Rd u60_Pg q.2.2.2 u60_Mk u60_Lk u60_Ck u60_Jd u60_Ld u60_Pr) [(3, .int q.2.1)])) : o_At p l e rm_Pt_tokenise s m args below meth c Q o_cls D A 7 184 [.int y0] (o_cw ad ca u60_rt u60_Sj u60_a1 u60_T1 u60_Rd u60_Pg Pt u60_Mk u60_Lk u60_Ck u60_Jd u60_Ld u60_Pr) [(0, .ref (ad 33)), (4, .int x4), (5, .int x5)] := by
  unfold m_Pt_tokenise_j184 at h
  intro H locs ls hP hS hl
  have C0 := C
  obtain ⟨hx, hb, -, -, -, hown, hts, hK, -, -⟩ := C0
  refine lv_istore_n (lv' := [(3, .int y0), (0, .ref (ad 33)), (4, .int x4), (5, .int x5)]) hx hb d_Pt_tokenise_184 rfl hl (by decide) rfl (fun ls hl => ?_)
  refine lv_iload hx hb d_Pt_tokenise_185 (lv_at hl 3 rfl) ?_
  refine lv_ineg hx hb d_Pt_tokenise_187 ?_
  refine lv_topi (fun x6_188 ex6_188 => ?_)
  replace h := o_nm_at ex6_188 h
  refine lv_istore (lv' := [(6, .int x6_188), (3, .int y0), (0, .ref (ad 33)), (4, .int x4), (5, .int x5)]) hx hb d_Pt_tokenise_188 hl (by decide) rfl (fun ls hl => ?_)
  exact w_Pt_tokenise_j190_0 hE C hDD n u60_a1 u60_Sj u60_T1 u60_Rd u60_Pg u60_Mk u60_Lk u60_Ck u60_Jd u60_Ld u60_Pr u60_rt y0 x4 x6_188 Pt h h0 h1 _ _ _ hP hS (lv_sub hl [2, 1, 3, 0] rfl)
set_option maxHeartbeats 4000000 in
set_option maxRecDepth 100000 in
theorem w_Pt_tokenise_j144_0 {E : (Nat → Prop) → State → Heap → Prop} {p : Program} {l : Launch} {e : Env} {s : State} {m : MethodId} {args : Array Value} {below : List Frame} {meth : Method} {c : Code} {D : va_G} {ad kd sd vd xd : Nat → Nat} {ca : Nat → ClassId} {A : Nat → Prop} {Q : State → Prop} (hE : o_EK E kd sd vd xd) (C : o_Cx E p s m args meth c D o_cls (o_tys ca) "SchemaJudge$Pattern" b_Pt_tokenise (some .boolean) 7 cc_Pt_tokenise A) (hDD : ∀ (rt : Nat) (Sj : SSJ) (T0 : STx) (T1 : STx) (Rd : SRd) (Pg : SPg) (Pt : SPt) (Mk : SMk) (Lk : SLk) (Ck : SCk) (Jd : SJd) (Ld : SLd) (Pr : SPr), va_D A (o_cw ad ca rt Sj T0 T1 Rd Pg Pt Mk Lk Ck Jd Ld Pr)) (n : Nat) (u60_a1 : STx) (u60_Sj : SSJ) (u60_T1 : STx) (u60_Rd : SRd) (u60_Pg : SPg) (u60_Mk : SMk) (u60_Lk : SLk) (u60_Ck : SCk) (u60_Jd : SJd) (u60_Ld : SLd) (u60_Pr : SPr) (u60_rt : Nat) (x4 : Int32) (x5 : Int32) (y0 : Int32) (Pt : SPt) {q : Nat × Int32 × Int32 × SPt} (h : m_Pt_tokenise_j144 n x4 x5 y0 u60_a1 Pt = some q) (h0 : q.1 = 0 → o_At p l e rm_Pt_tokenise s m args below meth c Q o_cls D A 7 60 [] (o_cw ad ca u60_rt u60_Sj u60_a1 u60_T1 u60_Rd u60_Pg q.2.2.2 u60_Mk u60_Lk u60_Ck u60_Jd u60_Ld u60_Pr) [(0, .ref (ad 33)), (3, .int q.2.1), (4, .int q.2.2.1)]) (h1 : q.1 ≠ 0 → (if q.1 = 1 then o_At p l e rm_Pt_tokenise s m args below meth c Q o_cls D A 7 126 [] (o_cw ad ca u60_rt u60_Sj u60_a1 u60_T1 u60_Rd u60_Pg q.2.2.2 u60_Mk u60_Lk u60_Ck u60_Jd u60_Ld u60_Pr) [] else o_At p l e rm_Pt_tokenise s m args below meth c Q o_cls D A 7 217 [] (o_cw ad ca u60_rt u60_Sj u60_a1 u60_T1 u60_Rd u60_Pg q.2.2.2 u60_Mk u60_Lk u60_Ck u60_Jd u60_Ld u60_Pr) [(3, .int q.2.1)])) : o_At p l e rm_Pt_tokenise s m args below meth c Q o_cls D A 7 144 [.int y0] (o_cw ad ca u60_rt u60_Sj u60_a1 u60_T1 u60_Rd u60_Pg Pt u60_Mk u60_Lk u60_Ck u60_Jd u60_Ld u60_Pr) [(0, .ref (ad 33)), (4, .int x4), (5, .int x5)] := by
  unfold m_Pt_tokenise_j144 at h
  intro H locs ls hP hS hl
  have C0 := C
  obtain ⟨hx, hb, -, -, -, hown, hts, hK, -, -⟩ := C0
  refine lv_istore_n (lv' := [(3, .int y0), (0, .ref (ad 33)), (4, .int x4), (5, .int x5)]) hx hb d_Pt_tokenise_144 rfl hl (by decide) rfl (fun ls hl => ?_)
  refine lv_iload_n hx hb d_Pt_tokenise_145 rfl (lv_at hl 0 rfl) ?_
  refine lv_if_eq (tgt := 154) hx hb d_Pt_tokenise_146 (by decide) (fun c12 => ?_) (fun c12 => ?_)
  · replace h := o_tt c12 h
    refine lv_iload hx hb d_Pt_tokenise_154 (lv_at hl 3 rfl) ?_
    refine lv_ineg hx hb d_Pt_tokenise_156 ?_
    refine lv_topi (fun x6_157 ex6_157 => ?_)
    replace h := o_nm_at ex6_157 h
    refine lv_istore (lv' := [(6, .int x6_157), (3, .int y0), (0, .ref (ad 33)), (4, .int x4), (5, .int x5)]) hx hb d_Pt_tokenise_157 hl (by decide) rfl (fun ls hl => ?_)
    refine lv_goto (tgt := 190) hx hb d_Pt_tokenise_159 (by decide) ?_
    exact w_Pt_tokenise_j190_0 hE C hDD n u60_a1 u60_Sj u60_T1 u60_Rd u60_Pg u60_Mk u60_Lk u60_Ck u60_Jd u60_Ld u60_Pr u60_rt y0 x4 x6_157 Pt h h0 h1 _ _ _ hP hS (lv_sub hl [2, 1, 3, 0] rfl)
  · replace h := o_ff c12 h
    refine lv_iload hx hb d_Pt_tokenise_149 (lv_at hl 3 rfl) ?_
    refine lv_goto (tgt := 157) hx hb d_Pt_tokenise_151 (by decide) ?_
    refine lv_istore (lv' := [(6, .int x5), (3, .int y0), (0, .ref (ad 33)), (4, .int x4), (5, .int x5)]) hx hb d_Pt_tokenise_157 hl (by decide) rfl (fun ls hl => ?_)
    refine lv_goto (tgt := 190) hx hb d_Pt_tokenise_159 (by decide) ?_
    exact w_Pt_tokenise_j190_0 hE C hDD n u60_a1 u60_Sj u60_T1 u60_Rd u60_Pg u60_Mk u60_Lk u60_Ck u60_Jd u60_Ld u60_Pr u60_rt y0 x4 x5 Pt h h0 h1 _ _ _ hP hS (lv_sub hl [2, 1, 3, 0] rfl)
set_option maxHeartbeats 4000000 in
set_option maxRecDepth 100000 in
theorem w_Pt_tokenise_b60_0 {E : (Nat → Prop) → State → Heap → Prop} {p : Program} {l : Launch} {e : Env} {s : State} {m : MethodId} {args : Array Value} {below : List Frame} {meth : Method} {c : Code} {D : va_G} {ad kd sd vd xd : Nat → Nat} {ca : Nat → ClassId} {A : Nat → Prop} {Q : State → Prop} (hE : o_EK E kd sd vd xd) (C : o_Cx E p s m args meth c D o_cls (o_tys ca) "SchemaJudge$Pattern" b_Pt_tokenise (some .boolean) 7 cc_Pt_tokenise A) (hDD : ∀ (rt : Nat) (Sj : SSJ) (T0 : STx) (T1 : STx) (Rd : SRd) (Pg : SPg) (Pt : SPt) (Mk : SMk) (Lk : SLk) (Ck : SCk) (Jd : SJd) (Ld : SLd) (Pr : SPr), va_D A (o_cw ad ca rt Sj T0 T1 Rd Pg Pt Mk Lk Ck Jd Ld Pr)) (n : Nat) (u60_a1 : STx) (u60_Sj : SSJ) (u60_T1 : STx) (u60_Rd : SRd) (u60_Pg : SPg) (u60_Mk : SMk) (u60_Lk : SLk) (u60_Ck : SCk) (u60_Jd : SJd) (u60_Ld : SLd) (u60_Pr : SPr) (u60_rt : Nat) (z : Int32 × Int32 × SPt) (q : Nat × Int32 × Int32 × SPt) (h : m_Pt_tokenise_b60 n u60_a1 z = some q) (h0 : q.1 = 0 → o_At p l e rm_Pt_tokenise s m args below meth c Q o_cls D A 7 60 [] (o_cw ad ca u60_rt u60_Sj u60_a1 u60_T1 u60_Rd u60_Pg q.2.2.2 u60_Mk u60_Lk u60_Ck u60_Jd u60_Ld u60_Pr) [(0, .ref (ad 33)), (3, .int q.2.1), (4, .int q.2.2.1)]) (h1 : q.1 ≠ 0 → (if q.1 = 1 then o_At p l e rm_Pt_tokenise s m args below meth c Q o_cls D A 7 126 [] (o_cw ad ca u60_rt u60_Sj u60_a1 u60_T1 u60_Rd u60_Pg q.2.2.2 u60_Mk u60_Lk u60_Ck u60_Jd u60_Ld u60_Pr) [] else o_At p l e rm_Pt_tokenise s m args below meth c Q o_cls D A 7 217 [] (o_cw ad ca u60_rt u60_Sj u60_a1 u60_T1 u60_Rd u60_Pg q.2.2.2 u60_Mk u60_Lk u60_Ck u60_Jd u60_Ld u60_Pr) [(3, .int q.2.1)])) : o_At p l e rm_Pt_tokenise s m args below meth c Q o_cls D A 7 60 [] (o_cw ad ca u60_rt u60_Sj u60_a1 u60_T1 u60_Rd u60_Pg z.2.2 u60_Mk u60_Lk u60_Ck u60_Jd u60_Ld u60_Pr) [(0, .ref (ad 33)), (3, .int z.1), (4, .int z.2.1)] := by
  unfold m_Pt_tokenise_b60 at h
  intro H locs ls hP hS hl
  have C0 := C
  obtain ⟨hx, hb, -, -, -, hown, hts, hK, -, -⟩ := C0
  refine lv_iload hx hb d_Pt_tokenise_60 (lv_at hl 2 rfl) ?_
  refine lv_aload_n hx hb d_Pt_tokenise_62 rfl (lv_at hl 0 rfl) ?_
  refine o_get (v := .ref (ad 34)) C in_Pt hP 33 cw_33 rfl 1 (by decide) k_1_161 rfl rfl d_Pt_tokenise_63 ?_
  refine va_alen (v := (4000:Int32)) hx hb hK hP 34 28 cw_34 rfl rfl d_Pt_tokenise_66 ?_
  refine lv_icmp_ge (tgt := 217) hx hb d_Pt_tokenise_67 (by decide) (fun c3 => ?_) (fun c3 => ?_)
  · replace h := o_tt c3 h
    cases h
    exact h1 (Nat.succ_ne_zero 1) _ _ _ hP hS (lv_sub hl [1] rfl)
  · replace h := o_ff c3 h
    refine lv_aload_n hx hb d_Pt_tokenise_70 rfl (lv_at hl 0 rfl) ?_
    refine o_get (v := .int (Pt_position z.2.2)) C in_Pt hP 33 cw_33 rfl 4 (by decide) k_1_164 rfl rfl d_Pt_tokenise_71 ?_
    refine lv_aload_n hx hb d_Pt_tokenise_74 rfl (lv_at hl 0 rfl) ?_
    refine o_get (v := .int (Pt_characterCount z.2.2)) C in_Pt hP 33 cw_33 rfl 2 (by decide) k_1_162 rfl rfl d_Pt_tokenise_75 ?_
    refine lv_icmp_ge (tgt := 217) hx hb d_Pt_tokenise_78 (by decide) (fun c4 => ?_) (fun c4 => ?_)
    · replace h := o_tt c4 h
      cases h
      exact h1 (Nat.succ_ne_zero 1) _ _ _ hP hS (lv_sub hl [1] rfl)
    · replace h := o_ff c4 h
      refine lv_aload_n hx hb d_Pt_tokenise_81 rfl (lv_at hl 0 rfl) ?_
      refine o_get (v := .ref (ad 34)) C in_Pt hP 33 cw_33 rfl 1 (by decide) k_1_161 rfl rfl d_Pt_tokenise_82 ?_
      refine lv_aload_n hx hb d_Pt_tokenise_85 rfl (lv_at hl 0 rfl) ?_
      refine o_get (v := .int (Pt_position z.2.2)) C in_Pt hP 33 cw_33 rfl 4 (by decide) k_1_164 rfl rfl d_Pt_tokenise_86 ?_
      obtain ⟨g5, h⟩ := o_gd_some h
      refine o_iald (f := (Pt_tokens z.2.2)) C hP 34 28 cw_34 rfl g5 d_Pt_tokenise_89 ?_
      refine lv_topi (fun x5_90 ex5_90 => ?_)
      replace h := o_nm_at ex5_90 h
      refine lv_istore (lv' := [(5, .int x5_90), (0, .ref (ad 33)), (3, .int z.1), (4, .int z.2.1)]) hx hb d_Pt_tokenise_90 hl (by decide) rfl (fun ls hl => ?_)
      refine lv_aload_n hx hb d_Pt_tokenise_92 rfl (lv_at hl 1 rfl) ?_
      refine lv_dup hx hb d_Pt_tokenise_93 rfl ?_
      refine o_get (v := .int (Pt_position z.2.2)) C in_Pt hP 33 cw_33 rfl 4 (by decide) k_1_164 rfl rfl d_Pt_tokenise_94 ?_
      refine lv_iconst (v := (1:Int32)) hx hb d_Pt_tokenise_97 (by decide) ?_
      refine lv_iadd hx hb d_Pt_tokenise_98 ?_
      refine o_put (v := .int ((Pt_position z.2.2) + (1:Int32))) (ty := .int) (w1 := (o_cw ad ca u60_rt u60_Sj u60_a1 u60_T1 u60_Rd u60_Pg (Pt_mk (Pt_tokens z.2.2) (Pt_characterCount z.2.2) (Pt_tokenCount z.2.2) ((Pt_position z.2.2) + (1:Int32)) (Pt_total z.2.2) (Pt_least z.2.2) (Pt_most z.2.2) (Pt_depth z.2.2) (Pt_blockStarts z.2.2) (Pt_branchStarts z.2.2) (Pt_jumps z.2.2) (Pt_sizesBefore z.2.2)) u60_Mk u60_Lk u60_Ck u60_Jd u60_Ld u60_Pr)) C in_Pt t_Pt t_Pt_ok n_Pt hP (hDD _ _ _ _ _ _ _ _ _ _ _ _ _) hS 33 cw_33 rfl 4 (by decide) k_1_164 rfl rfl (by decide +kernel) rfl rfl (Nat.le_of_ble_eq_true rfl) rfl d_Pt_tokenise_99 (fun H locs hP hS => ?_)
      refine lv_iload hx hb d_Pt_tokenise_102 (lv_at hl 0 rfl) ?_
      refine lv_istore (lv' := [(6, .int x5_90), (5, .int x5_90), (0, .ref (ad 33)), (3, .int z.1), (4, .int z.2.1)]) hx hb d_Pt_tokenise_104 hl (by decide) rfl (fun ls hl => ?_)
      refine lv_iload hx hb d_Pt_tokenise_106 (lv_at hl 1 rfl) ?_
      refine lv_bipush (v := (92:Int32)) hx hb d_Pt_tokenise_108 (by decide) ?_
      refine lv_icmp_ne (tgt := 128) hx hb d_Pt_tokenise_110 (by decide) (fun c6 => ?_) (fun c6 => ?_)
      · replace h := o_ff c6 h
        refine lv_iload_n hx hb d_Pt_tokenise_128 rfl (lv_at hl 3 rfl) ?_
        refine lv_if_eq (tgt := 162) hx hb d_Pt_tokenise_129 (by decide) (fun c7 => ?_) (fun c7 => ?_)
        · replace h := o_tt c7 h
          refine va_ldcS (q := sd 10) hx hb hown (hE.2.2.2.2.2.1 _ _ _ C.2.2.2.2.2.2.2.2.2 ("SchemaJudge$Pattern", 60, "^$.*+?()[]{}|", 10) (List.mem_of_getElem? (i := 10) rfl)) d_Pt_tokenise_162 ?_
          refine lv_iload hx hb d_Pt_tokenise_164 (lv_at hl 1 rfl) ?_
          obtain ⟨q4, hq4, h⟩ := o_bd_some h
          refine o_S (st1 := [.int q4]) (w1 := (o_cw ad ca u60_rt u60_Sj u60_a1 u60_T1 u60_Rd u60_Pg (Pt_mk (Pt_tokens z.2.2) (Pt_characterCount z.2.2) (Pt_tokenCount z.2.2) ((Pt_position z.2.2) + (1:Int32)) (Pt_total z.2.2) (Pt_least z.2.2) (Pt_most z.2.2) (Pt_depth z.2.2) (Pt_blockStarts z.2.2) (Pt_branchStarts z.2.2) (Pt_jumps z.2.2) (Pt_sizesBefore z.2.2)) u60_Mk u60_Lk u60_Ck u60_Jd u60_Ld u60_Pr)) hE.1 C (c_Pt_isIn hE l n 10 rfl x5_90 u60_Sj u60_a1 u60_T1 u60_Rd u60_Pg (Pt_mk (Pt_tokens z.2.2) (Pt_characterCount z.2.2) (Pt_tokenCount z.2.2) ((Pt_position z.2.2) + (1:Int32)) (Pt_total z.2.2) (Pt_least z.2.2) (Pt_most z.2.2) (Pt_depth z.2.2) (Pt_blockStarts z.2.2) (Pt_branchStarts z.2.2) (Pt_jumps z.2.2) (Pt_sizesBefore z.2.2)) u60_Mk u60_Lk u60_Ck u60_Jd u60_Ld u60_Pr u60_rt hq4) hP (hDD _ _ _ _ _ _ _ _ _ _ _ _ _) hS hl.1 k_4_196 k_4_197 k_1_5 k_4_198 hs_Pt_isIn rfl rfl ⟨(Nat.le_of_ble_eq_true rfl), (Nat.le_of_ble_eq_true rfl)⟩ rfl (Nat.le_of_ble_eq_true rfl) ⟨Nat.zero_le _, Nat.zero_le _⟩ rfl d_Pt_tokenise_166 (fun H locs hP hS => ?_)
          refine lv_if_eq (tgt := 190) hx hb d_Pt_tokenise_169 (by decide) (fun c8 => ?_) (fun c8 => ?_)
          · replace h := o_tt c8 h
            exact w_Pt_tokenise_j190_0 hE C hDD n u60_a1 u60_Sj u60_T1 u60_Rd u60_Pg u60_Mk u60_Lk u60_Ck u60_Jd u60_Ld u60_Pr u60_rt z.1 z.2.1 x5_90 (Pt_mk (Pt_tokens z.2.2) (Pt_characterCount z.2.2) (Pt_tokenCount z.2.2) ((Pt_position z.2.2) + (1:Int32)) (Pt_total z.2.2) (Pt_least z.2.2) (Pt_most z.2.2) (Pt_depth z.2.2) (Pt_blockStarts z.2.2) (Pt_branchStarts z.2.2) (Pt_jumps z.2.2) (Pt_sizesBefore z.2.2)) h h0 h1 _ _ _ hP hS (lv_sub hl [2, 3, 4, 0] rfl)
          · replace h := o_ff c8 h
            refine lv_iload hx hb d_Pt_tokenise_172 (lv_at hl 1 rfl) ?_
            refine lv_bipush (v := (91:Int32)) hx hb d_Pt_tokenise_174 (by decide) ?_
            refine lv_icmp_ne (tgt := 183) hx hb d_Pt_tokenise_176 (by decide) (fun c10 => ?_) (fun c10 => ?_)
            · replace h := o_ff c10 h
              refine lv_iconst (v := (0:Int32)) hx hb d_Pt_tokenise_183 (by decide) ?_
              exact w_Pt_tokenise_j184_0 hE C hDD n u60_a1 u60_Sj u60_T1 u60_Rd u60_Pg u60_Mk u60_Lk u60_Ck u60_Jd u60_Ld u60_Pr u60_rt z.2.1 x5_90 (0:Int32) (Pt_mk (Pt_tokens z.2.2) (Pt_characterCount z.2.2) (Pt_tokenCount z.2.2) ((Pt_position z.2.2) + (1:Int32)) (Pt_total z.2.2) (Pt_least z.2.2) (Pt_most z.2.2) (Pt_depth z.2.2) (Pt_blockStarts z.2.2) (Pt_branchStarts z.2.2) (Pt_jumps z.2.2) (Pt_sizesBefore z.2.2)) h h0 h1 _ _ _ hP hS (lv_sub hl [2, 4, 1] rfl)
            · replace h := o_tt c10 h
              refine lv_iconst (v := (1:Int32)) hx hb d_Pt_tokenise_179 (by decide) ?_
              refine lv_goto (tgt := 184) hx hb d_Pt_tokenise_180 (by decide) ?_
              exact w_Pt_tokenise_j184_0 hE C hDD n u60_a1 u60_Sj u60_T1 u60_Rd u60_Pg u60_Mk u60_Lk u60_Ck u60_Jd u60_Ld u60_Pr u60_rt z.2.1 x5_90 (1:Int32) (Pt_mk (Pt_tokens z.2.2) (Pt_characterCount z.2.2) (Pt_tokenCount z.2.2) ((Pt_position z.2.2) + (1:Int32)) (Pt_total z.2.2) (Pt_least z.2.2) (Pt_most z.2.2) (Pt_depth z.2.2) (Pt_blockStarts z.2.2) (Pt_branchStarts z.2.2) (Pt_jumps z.2.2) (Pt_sizesBefore z.2.2)) h h0 h1 _ _ _ hP hS (lv_sub hl [2, 4, 1] rfl)
        · replace h := o_ff c7 h
          refine lv_iload hx hb d_Pt_tokenise_132 (lv_at hl 1 rfl) ?_
          refine lv_bipush (v := (93:Int32)) hx hb d_Pt_tokenise_134 (by decide) ?_
          refine lv_icmp_eq (tgt := 143) hx hb d_Pt_tokenise_136 (by decide) (fun c11 => ?_) (fun c11 => ?_)
          · replace h := o_tt c11 h
            refine lv_iconst (v := (0:Int32)) hx hb d_Pt_tokenise_143 (by decide) ?_
            exact w_Pt_tokenise_j144_0 hE C hDD n u60_a1 u60_Sj u60_T1 u60_Rd u60_Pg u60_Mk u60_Lk u60_Ck u60_Jd u60_Ld u60_Pr u60_rt z.2.1 x5_90 (0:Int32) (Pt_mk (Pt_tokens z.2.2) (Pt_characterCount z.2.2) (Pt_tokenCount z.2.2) ((Pt_position z.2.2) + (1:Int32)) (Pt_total z.2.2) (Pt_least z.2.2) (Pt_most z.2.2) (Pt_depth z.2.2) (Pt_blockStarts z.2.2) (Pt_branchStarts z.2.2) (Pt_jumps z.2.2) (Pt_sizesBefore z.2.2)) h h0 h1 _ _ _ hP hS (lv_sub hl [2, 4, 1] rfl)
          · replace h := o_ff c11 h
            refine lv_iconst (v := (1:Int32)) hx hb d_Pt_tokenise_139 (by decide) ?_
            refine lv_goto (tgt := 144) hx hb d_Pt_tokenise_140 (by decide) ?_
            exact w_Pt_tokenise_j144_0 hE C hDD n u60_a1 u60_Sj u60_T1 u60_Rd u60_Pg u60_Mk u60_Lk u60_Ck u60_Jd u60_Ld u60_Pr u60_rt z.2.1 x5_90 (1:Int32) (Pt_mk (Pt_tokens z.2.2) (Pt_characterCount z.2.2) (Pt_tokenCount z.2.2) ((Pt_position z.2.2) + (1:Int32)) (Pt_total z.2.2) (Pt_least z.2.2) (Pt_most z.2.2) (Pt_depth z.2.2) (Pt_blockStarts z.2.2) (Pt_branchStarts z.2.2) (Pt_jumps z.2.2) (Pt_sizesBefore z.2.2)) h h0 h1 _ _ _ hP hS (lv_sub hl [2, 4, 1] rfl)
      · replace h := o_tt c6 h
        refine lv_aload_n hx hb d_Pt_tokenise_113 rfl (lv_at hl 2 rfl) ?_
        refine lv_iload_n hx hb d_Pt_tokenise_114 rfl (lv_at hl 3 rfl) ?_
        obtain ⟨q5, hq5, h⟩ := o_bd_some h
        refine o_V (st1 := [.int q5.1]) (w1 := (o_cw ad ca u60_rt u60_Sj u60_a1 u60_T1 u60_Rd u60_Pg q5.2 u60_Mk u60_Lk u60_Ck u60_Jd u60_Ld u60_Pr)) hE.1 C (c_Pt_escape hE l n z.1 (Pt_mk (Pt_tokens z.2.2) (Pt_characterCount z.2.2) (Pt_tokenCount z.2.2) ((Pt_position z.2.2) + (1:Int32)) (Pt_total z.2.2) (Pt_least z.2.2) (Pt_most z.2.2) (Pt_depth z.2.2) (Pt_blockStarts z.2.2) (Pt_branchStarts z.2.2) (Pt_jumps z.2.2) (Pt_sizesBefore z.2.2)) u60_Sj u60_a1 u60_T1 u60_Rd u60_Pg u60_Mk u60_Lk u60_Ck u60_Jd u60_Ld u60_Pr u60_rt hq5) hP (hDD _ _ _ _ _ _ _ _ _ _ _ _ _) hS hl.1 rfl cw_33 k_4_120 k_4_122 k_s_25 k_1_5 k_4_123 hv_Pt_escape rfl rfl ⟨(Nat.le_of_ble_eq_true rfl), (Nat.le_of_ble_eq_true rfl)⟩ rfl (Nat.le_of_ble_eq_true rfl) ⟨Nat.zero_le _, Nat.zero_le _⟩ rfl d_Pt_tokenise_115 (fun H locs hP hS => ?_)
        refine lv_istore (lv' := [(6, .int q5.1), (5, .int x5_90), (0, .ref (ad 33)), (3, .int z.1), (4, .int z.2.1)]) hx hb d_Pt_tokenise_118 hl (by decide) rfl (fun ls hl => ?_)
        refine lv_iload hx hb d_Pt_tokenise_120 (lv_at hl 0 rfl) ?_
        refine lv_iconst (v := (-1:Int32)) hx hb d_Pt_tokenise_122 (by decide) ?_
        refine lv_icmp_ne (tgt := 190) hx hb d_Pt_tokenise_123 (by decide) (fun c13 => ?_) (fun c13 => ?_)
        · replace h := o_ff c13 h
          exact w_Pt_tokenise_j190_0 hE C hDD n u60_a1 u60_Sj u60_T1 u60_Rd u60_Pg u60_Mk u60_Lk u60_Ck u60_Jd u60_Ld u60_Pr u60_rt z.1 z.2.1 q5.1 q5.2 h h0 h1 _ _ _ hP hS (lv_sub hl [2, 3, 4, 0] rfl)
        · replace h := o_tt c13 h
          cases h
          exact h1 (Nat.succ_ne_zero 0) _ _ _ hP hS (lv_sub hl [] rfl)
set_option maxHeartbeats 4000000 in
set_option maxRecDepth 100000 in
theorem w_Pt_tokenise_j217_0 {E : (Nat → Prop) → State → Heap → Prop} {p : Program} {l : Launch} {e : Env} {s : State} {m : MethodId} {args : Array Value} {below : List Frame} {meth : Method} {c : Code} {D : va_G} {ad kd sd vd xd : Nat → Nat} {ca : Nat → ClassId} {A : Nat → Prop} (hE : o_EK E kd sd vd xd) (C : o_Cx E p s m args meth c D o_cls (o_tys ca) "SchemaJudge$Pattern" b_Pt_tokenise (some .boolean) 7 cc_Pt_tokenise A) (hDD : ∀ (rt : Nat) (Sj : SSJ) (T0 : STx) (T1 : STx) (Rd : SRd) (Pg : SPg) (Pt : SPt) (Mk : SMk) (Lk : SLk) (Ck : SCk) (Jd : SJd) (Ld : SLd) (Pr : SPr), va_D A (o_cw ad ca rt Sj T0 T1 Rd Pg Pt Mk Lk Ck Jd Ld Pr)) (n : Nat) (x3 : Int32) (a1 : STx) (Pt : SPt) (Sj : SSJ) (T1 : STx) (Rd : SRd) (Pg : SPg) (Mk : SMk) (Lk : SLk) (Ck : SCk) (Jd : SJd) (Ld : SLd) (Pr : SPr) (rt : Nat) {r : Int32 × SPt} (h : m_Pt_tokenise_j217 n x3 a1 Pt = some r) : o_At p l e rm_Pt_tokenise s m args below meth c (MQ below (o_Qx D o_cls (some (.int r.1)) (o_cw ad ca rt Sj a1 T1 Rd Pg r.2 Mk Lk Ck Jd Ld Pr) A) args s 0 0 A) o_cls D A 7 217 [] (o_cw ad ca rt Sj a1 T1 Rd Pg Pt Mk Lk Ck Jd Ld Pr) [(3, .int x3)] := by
  unfold m_Pt_tokenise_j217 at h
  intro H locs ls hP hS hl
  have C0 := C
  obtain ⟨hx, hb, -, -, -, hown, hts, hK, -, -⟩ := C0
  refine lv_iload_n hx hb d_Pt_tokenise_217 rfl (lv_at hl 0 rfl) ?_
  refine lv_if_ne (tgt := 225) hx hb d_Pt_tokenise_218 (by decide) (fun c14 => ?_) (fun c14 => ?_)
  · replace h := o_ff c14 h
    refine lv_iconst (v := (0:Int32)) hx hb d_Pt_tokenise_225 (by decide) ?_
    cases h
    exact o_rz (v := (0:Int32)) C o_nar0 hP hS d_Pt_tokenise_226
  · replace h := o_tt c14 h
    refine lv_iconst (v := (1:Int32)) hx hb d_Pt_tokenise_221 (by decide) ?_
    refine lv_goto (tgt := 226) hx hb d_Pt_tokenise_222 (by decide) ?_
    cases h
    exact o_rz (v := (1:Int32)) C o_nar1 hP hS d_Pt_tokenise_226
set_option maxHeartbeats 4000000 in
set_option maxRecDepth 100000 in
theorem c_Pt_tokenise_0 {E : (Nat → Prop) → State → Heap → Prop} {D : va_G} {ad kd sd vd xd : Nat → Nat} {ca : Nat → ClassId} (hE : o_EK E kd sd vd xd) (l : Launch) (n : Nat) (x2 : Int32) (a1 : STx) (Pt : SPt) (Sj : SSJ) (T1 : STx) (Rd : SRd) (Pg : SPg) (Mk : SMk) (Lk : SLk) (Ck : SCk) (Jd : SJd) (Ld : SLd) (Pr : SPr) (rt : Nat) {r : Int32 × SPt} (h : m_Pt_tokenise n x2 a1 Pt = some r) : o_Cn E l D o_cls (o_tys ca) y_Pt_tokenise cc_Pt_tokenise rm_Pt_tokenise [.ref (ad 33), .ref (ad 1), .int x2] (o_cw ad ca rt Sj a1 T1 Rd Pg Pt Mk Lk Ck Jd Ld Pr) (o_cw ad ca rt Sj a1 T1 Rd Pg r.2 Mk Lk Ck Jd Ld Pr) (some (.int r.1)) := by
  refine o_Cn_of (by decide) (Nat.le_of_ble_eq_true rfl) ?_
  intro p e s m below meth c A ls C hD hP hS hl
  have hDD : ∀ (rt : Nat) (Sj : SSJ) (T0 : STx) (T1 : STx) (Rd : SRd) (Pg : SPg) (Pt : SPt) (Mk : SMk) (Lk : SLk) (Ck : SCk) (Jd : SJd) (Ld : SLd) (Pr : SPr), va_D A (o_cw ad ca rt Sj T0 T1 Rd Pg Pt Mk Lk Ck Jd Ld Pr) := fun _ _ _ _ _ _ _ _ _ _ _ _ _ => o_D_map hD rfl
  have hl : lv_has ls 7 [(0, .ref (ad 33)), (1, .ref (ad 1)), (2, .int x2)] := hl
  unfold m_Pt_tokenise at h
  have C0 := C
  obtain ⟨hx, hb, -, -, -, hown, hts, hK, -, -⟩ := C0
  refine lv_aload_n hx hb d_Pt_tokenise_0 rfl (lv_at hl 0 rfl) ?_
  refine lv_aload_n hx hb d_Pt_tokenise_1 rfl (lv_at hl 1 rfl) ?_
  refine lv_iload_n hx hb d_Pt_tokenise_2 rfl (lv_at hl 2 rfl) ?_
  obtain ⟨q1, hq1, h⟩ := o_bd_some h
  refine o_V (st1 := [.int q1, .ref (ad 33)]) (w1 := (o_cw ad ca rt Sj a1 T1 Rd Pg Pt Mk Lk Ck Jd Ld Pr)) hE.1 C (c_Tx_size_0 hE l x2 a1 Sj T1 Rd Pg Pt Mk Lk Ck Jd Ld Pr rt hq1) hP (hDD _ _ _ _ _ _ _ _ _ _ _ _ _) hS hl.1 rfl cw_1 k_4_112 k_3_215 k_3_216 k_1_2 k_3_217 hv_Tx_size rfl rfl ⟨(Nat.le_of_ble_eq_true rfl), (Nat.le_of_ble_eq_true rfl)⟩ rfl (Nat.le_of_ble_eq_true rfl) ⟨Nat.zero_le _, Nat.zero_le _⟩ rfl d_Pt_tokenise_3 (fun H locs hP hS => ?_)
  refine lv_aload_n hx hb d_Pt_tokenise_6 rfl (lv_at hl 0 rfl) ?_
  refine o_get (v := .ref (ad 34)) C in_Pt hP 33 cw_33 rfl 1 (by decide) k_1_161 rfl rfl d_Pt_tokenise_7 ?_
  refine va_alen (v := (4000:Int32)) hx hb hK hP 34 28 cw_34 rfl rfl d_Pt_tokenise_10 ?_
  refine va_mmin hx hb (C.2.2.2.2.1.trans hl.1.symm) hown (hts _ k_4_113) (hts _ k_4_114) (hts _ k_1_26) (hts _ k_4_115) (Nat.le_of_ble_eq_true rfl) (Nat.le_of_ble_eq_true rfl) (Nat.zero_le _) (Nat.zero_le _) d_Pt_tokenise_11 ?_
  refine o_put (v := .int (if (4000:Int32) < q1 then (4000:Int32) else q1)) (ty := .int) (w1 := (o_cw ad ca rt Sj a1 T1 Rd Pg (Pt_mk (Pt_tokens Pt) (if (4000:Int32) < q1 then (4000:Int32) else q1) (Pt_tokenCount Pt) (Pt_position Pt) (Pt_total Pt) (Pt_least Pt) (Pt_most Pt) (Pt_depth Pt) (Pt_blockStarts Pt) (Pt_branchStarts Pt) (Pt_jumps Pt) (Pt_sizesBefore Pt)) Mk Lk Ck Jd Ld Pr)) C in_Pt t_Pt t_Pt_ok n_Pt hP (hDD _ _ _ _ _ _ _ _ _ _ _ _ _) hS 33 cw_33 rfl 2 (by decide) k_1_162 rfl rfl (by decide +kernel) rfl rfl (Nat.le_of_ble_eq_true rfl) rfl d_Pt_tokenise_14 (fun H locs hP hS => ?_)
  refine lv_iconst (v := (0:Int32)) hx hb d_Pt_tokenise_17 (by decide) ?_
  refine lv_istore_n (lv' := [(3, .int (0:Int32)), (0, .ref (ad 33)), (1, .ref (ad 1)), (2, .int x2)]) hx hb d_Pt_tokenise_18 rfl hl (by decide) rfl (fun ls hl => ?_)
  obtain ⟨q3, hq3, h⟩ := o_bd_some h
  refine o_sim2 (AH := fun zz => o_At p l e rm_Pt_tokenise s m _ below meth c _ o_cls D A 7 19 [] (o_cw ad ca rt Sj a1 T1 Rd Pg zz.2 Mk Lk Ck Jd Ld Pr) [(0, .ref (ad 33)), (1, .ref (ad 1)), (2, .int x2), (3, .int zz.1)]) (AX := fun qq => o_At p l e rm_Pt_tokenise s m _ below meth c _ o_cls D A 7 45 [] (o_cw ad ca rt Sj a1 T1 Rd Pg qq.2.2 Mk Lk Ck Jd Ld Pr) [(0, .ref (ad 33))]) (fun zz qq h h0 h1 => w_Pt_tokenise_b19_0 hE C hDD n x2 a1 Sj T1 Rd Pg Mk Lk Ck Jd Ld Pr rt zz qq h h0 h1) n _ q3 hq3 ?_ _ _ _ hP hS (lv_sub hl [1, 2, 3, 0] rfl)
  intro H locs ls hP hS hl
  refine lv_iconst (v := (0:Int32)) hx hb d_Pt_tokenise_45 (by decide) ?_
  refine lv_istore_n (lv' := [(3, .int (0:Int32)), (0, .ref (ad 33))]) hx hb d_Pt_tokenise_46 rfl hl (by decide) rfl (fun ls hl => ?_)
  refine lv_aload_n hx hb d_Pt_tokenise_47 rfl (lv_at hl 1 rfl) ?_
  refine lv_iconst (v := (0:Int32)) hx hb d_Pt_tokenise_48 (by decide) ?_
  refine o_put (v := .int (0:Int32)) (ty := .int) (w1 := (o_cw ad ca rt Sj a1 T1 Rd Pg (Pt_mk (Pt_tokens q3.2.2) (Pt_characterCount q3.2.2) (0:Int32) (Pt_position q3.2.2) (Pt_total q3.2.2) (Pt_least q3.2.2) (Pt_most q3.2.2) (Pt_depth q3.2.2) (Pt_blockStarts q3.2.2) (Pt_branchStarts q3.2.2) (Pt_jumps q3.2.2) (Pt_sizesBefore q3.2.2)) Mk Lk Ck Jd Ld Pr)) C in_Pt t_Pt t_Pt_ok n_Pt hP (hDD _ _ _ _ _ _ _ _ _ _ _ _ _) hS 33 cw_33 rfl 3 (by decide) k_1_163 rfl rfl (by decide +kernel) rfl rfl (Nat.le_of_ble_eq_true rfl) rfl d_Pt_tokenise_49 (fun H locs hP hS => ?_)
  refine lv_aload_n hx hb d_Pt_tokenise_52 rfl (lv_at hl 1 rfl) ?_
  refine lv_iconst (v := (0:Int32)) hx hb d_Pt_tokenise_53 (by decide) ?_
  refine o_put (v := .int (0:Int32)) (ty := .int) (w1 := (o_cw ad ca rt Sj a1 T1 Rd Pg (Pt_mk (Pt_tokens q3.2.2) (Pt_characterCount q3.2.2) (0:Int32) (0:Int32) (Pt_total q3.2.2) (Pt_least q3.2.2) (Pt_most q3.2.2) (Pt_depth q3.2.2) (Pt_blockStarts q3.2.2) (Pt_branchStarts q3.2.2) (Pt_jumps q3.2.2) (Pt_sizesBefore q3.2.2)) Mk Lk Ck Jd Ld Pr)) C in_Pt t_Pt t_Pt_ok n_Pt hP (hDD _ _ _ _ _ _ _ _ _ _ _ _ _) hS 33 cw_33 rfl 4 (by decide) k_1_164 rfl rfl (by decide +kernel) rfl rfl (Nat.le_of_ble_eq_true rfl) rfl d_Pt_tokenise_54 (fun H locs hP hS => ?_)
  refine lv_iconst (v := (0:Int32)) hx hb d_Pt_tokenise_57 (by decide) ?_
  refine lv_istore (lv' := [(4, .int (0:Int32)), (3, .int (0:Int32)), (0, .ref (ad 33))]) hx hb d_Pt_tokenise_58 hl (by decide) rfl (fun ls hl => ?_)
  obtain ⟨q6, hq6, h⟩ := o_bd_some h
  refine o_sim2 (AH := fun zz => o_At p l e rm_Pt_tokenise s m _ below meth c _ o_cls D A 7 60 [] (o_cw ad ca rt Sj a1 T1 Rd Pg zz.2.2 Mk Lk Ck Jd Ld Pr) [(0, .ref (ad 33)), (3, .int zz.1), (4, .int zz.2.1)]) (AX := fun qq => if qq.1 = 1 then o_At p l e rm_Pt_tokenise s m _ below meth c _ o_cls D A 7 126 [] (o_cw ad ca rt Sj a1 T1 Rd Pg qq.2.2.2 Mk Lk Ck Jd Ld Pr) [] else o_At p l e rm_Pt_tokenise s m _ below meth c _ o_cls D A 7 217 [] (o_cw ad ca rt Sj a1 T1 Rd Pg qq.2.2.2 Mk Lk Ck Jd Ld Pr) [(3, .int qq.2.1)]) (fun zz qq h h0 h1 => w_Pt_tokenise_b60_0 hE C hDD n a1 Sj T1 Rd Pg Mk Lk Ck Jd Ld Pr rt zz qq h h0 h1) n _ q6 hq6 ?_ _ _ _ hP hS (lv_sub hl [2, 1, 0] rfl)
  by_cases c15 : q6.1 = 1
  · replace h := o_tt c15 h
    refine o_ip c15 ?_
    intro H locs ls hP hS hl
    refine lv_iconst (v := (0:Int32)) hx hb d_Pt_tokenise_126 (by decide) ?_
    cases h
    exact o_rz (v := (0:Int32)) C o_nar0 hP hS d_Pt_tokenise_127
  replace h := o_ff c15 h
  refine o_in_ c15 ?_
  intro H locs ls hP hS hl
  exact w_Pt_tokenise_j217_0 hE C hDD n q6.2.1 a1 q6.2.2.2 Sj T1 Rd Pg Mk Lk Ck Jd Ld Pr rt h _ _ _ hP hS (lv_sub hl [0] rfl)
set_option maxHeartbeats 4000000 in
set_option maxRecDepth 100000 in
theorem w_Ck_inspectPatterns_j56 {E : (Nat → Prop) → State → Heap → Prop} {p : Program} {l : Launch} {e : Env} {s : State} {m : MethodId} {args : Array Value} {below : List Frame} {meth : Method} {c : Code} {D : va_G} {ad kd sd vd xd : Nat → Nat} {ca : Nat → ClassId} {A : Nat → Prop} {Q : State → Prop} (hE : o_EK E kd sd vd xd) (C : o_Cx E p s m args meth c D o_cls (o_tys ca) "SchemaJudge$Checker" b_Ck_inspectPatterns none 4 cc_Ck_inspectPatterns A) (hDD : ∀ (rt : Nat) (Sj : SSJ) (T0 : STx) (T1 : STx) (Rd : SRd) (Pg : SPg) (Pt : SPt) (Mk : SMk) (Lk : SLk) (Ck : SCk) (Jd : SJd) (Ld : SLd) (Pr : SPr), va_D A (o_cw ad ca rt Sj T0 T1 Rd Pg Pt Mk Lk Ck Jd Ld Pr)) (n : Nat) (u11_x1 : Int32) (u11_T0 : STx) (u11_Sj : SSJ) (u11_T1 : STx) (u11_Rd : SRd) (u11_Mk : SMk) (u11_Lk : SLk) (u11_Jd : SJd) (u11_Ld : SLd) (u11_Pr : SPr) (u11_rt : Nat) (x2 : Int32) (x3 : Int32) (Pg : SPg) (Pt : SPt) (Ck : SCk) {q : Nat × Int32 × Int32 × SPg × SPt × SCk} (h : m_Ck_inspectPatterns_j56 n u11_x1 x2 x3 u11_T0 Pg Pt Ck = some q) (h0 : q.1 = 0 → o_At p l e rm_Ck_inspectPatterns s m args below meth c Q o_cls D A 4 11 [] (o_cw ad ca u11_rt u11_Sj u11_T0 u11_T1 u11_Rd q.2.2.2.1 q.2.2.2.2.1 u11_Mk u11_Lk q.2.2.2.2.2 u11_Jd u11_Ld u11_Pr) [(0, .ref (ad 45)), (1, .int u11_x1), (2, .int q.2.1), (3, .int q.2.2.1)]) (h1 : q.1 ≠ 0 → (o_At p l e rm_Ck_inspectPatterns s m args below meth c Q o_cls D A 4 71 [] (o_cw ad ca u11_rt u11_Sj u11_T0 u11_T1 u11_Rd q.2.2.2.1 q.2.2.2.2.1 u11_Mk u11_Lk q.2.2.2.2.2 u11_Jd u11_Ld u11_Pr) [])) : o_At p l e rm_Ck_inspectPatterns s m args below meth c Q o_cls D A 4 56 [] (o_cw ad ca u11_rt u11_Sj u11_T0 u11_T1 u11_Rd Pg Pt u11_Mk u11_Lk Ck u11_Jd u11_Ld u11_Pr) [(0, .ref (ad 45)), (1, .int u11_x1), (2, .int x2), (3, .int x3)] := by
  unfold m_Ck_inspectPatterns_j56 at h
  intro H locs ls hP hS hl
  have C0 := C
  obtain ⟨hx, hb, -, -, -, hown, hts, hK, -, -⟩ := C0
  refine lv_aload_n hx hb d_Ck_inspectPatterns_56 rfl (lv_at hl 0 rfl) ?_
  refine o_get (v := .ref (ad 1)) C in_Ck hP 45 cw_45 rfl 0 (by decide) k_2_7 rfl rfl d_Ck_inspectPatterns_57 ?_
  refine lv_iload_n hx hb d_Ck_inspectPatterns_60 rfl (lv_at hl 2 rfl) ?_
  obtain ⟨q5, hq5, h⟩ := o_bd_some h
  refine o_V (st1 := [.int q5]) (w1 := (o_cw ad ca u11_rt u11_Sj u11_T0 u11_T1 u11_Rd Pg Pt u11_Mk u11_Lk Ck u11_Jd u11_Ld u11_Pr)) hE.1 C (c_Tx_nextChild_0 hE l x2 u11_T0 u11_Sj u11_T1 u11_Rd Pg Pt u11_Mk u11_Lk Ck u11_Jd u11_Ld u11_Pr u11_rt hq5) hP (hDD _ _ _ _ _ _ _ _ _ _ _ _ _) hS hl.1 rfl cw_1 k_4_101 k_3_222 k_3_223 k_1_2 k_3_224 hv_Tx_nextChild rfl rfl ⟨(Nat.le_of_ble_eq_true rfl), (Nat.le_of_ble_eq_true rfl)⟩ rfl (Nat.le_of_ble_eq_true rfl) ⟨Nat.zero_le _, Nat.zero_le _⟩ rfl d_Ck_inspectPatterns_61 (fun H locs hP hS => ?_)
  refine lv_istore_n (lv' := [(2, .int q5), (0, .ref (ad 45)), (1, .int u11_x1), (3, .int x3)]) hx hb d_Ck_inspectPatterns_64 rfl hl (by decide) rfl (fun ls hl => ?_)
  obtain ⟨x3_65, ex3_65⟩ : ∃ y : Int32, y = x3 + (1:Int32) := ⟨_, rfl⟩
  replace h := o_nm_at ex3_65 h
  refine lv_iinc (v := x3_65) (lv' := [(3, .int x3_65), (2, .int q5), (0, .ref (ad 45)), (1, .int u11_x1)]) hx hb d_Ck_inspectPatterns_65 hl (k := 3) rfl (by rw [ex3_65]; rfl) (by decide) rfl (fun ls hl => ?_)
  refine lv_goto (tgt := 11) hx hb d_Ck_inspectPatterns_68 (by decide) ?_
  cases h
  exact h0 rfl _ _ _ hP hS (lv_sub hl [2, 3, 1, 0] rfl)
set_option maxHeartbeats 4000000 in
set_option maxRecDepth 100000 in
theorem w_Ck_inspectPatterns_j50 {E : (Nat → Prop) → State → Heap → Prop} {p : Program} {l : Launch} {e : Env} {s : State} {m : MethodId} {args : Array Value} {below : List Frame} {meth : Method} {c : Code} {D : va_G} {ad kd sd vd xd : Nat → Nat} {ca : Nat → ClassId} {A : Nat → Prop} {Q : State → Prop} (hE : o_EK E kd sd vd xd) (C : o_Cx E p s m args meth c D o_cls (o_tys ca) "SchemaJudge$Checker" b_Ck_inspectPatterns none 4 cc_Ck_inspectPatterns A) (hDD : ∀ (rt : Nat) (Sj : SSJ) (T0 : STx) (T1 : STx) (Rd : SRd) (Pg : SPg) (Pt : SPt) (Mk : SMk) (Lk : SLk) (Ck : SCk) (Jd : SJd) (Ld : SLd) (Pr : SPr), va_D A (o_cw ad ca rt Sj T0 T1 Rd Pg Pt Mk Lk Ck Jd Ld Pr)) (n : Nat) (u11_x1 : Int32) (u11_T0 : STx) (u11_Sj : SSJ) (u11_T1 : STx) (u11_Rd : SRd) (u11_Mk : SMk) (u11_Lk : SLk) (u11_Jd : SJd) (u11_Ld : SLd) (u11_Pr : SPr) (u11_rt : Nat) (x2 : Int32) (x3 : Int32) (Pg : SPg) (Pt : SPt) (Ck : SCk) {q : Nat × Int32 × Int32 × SPg × SPt × SCk} (h : m_Ck_inspectPatterns_j50 n u11_x1 x2 x3 u11_T0 Pg Pt Ck = some q) (h0 : q.1 = 0 → o_At p l e rm_Ck_inspectPatterns s m args below meth c Q o_cls D A 4 11 [] (o_cw ad ca u11_rt u11_Sj u11_T0 u11_T1 u11_Rd q.2.2.2.1 q.2.2.2.2.1 u11_Mk u11_Lk q.2.2.2.2.2 u11_Jd u11_Ld u11_Pr) [(0, .ref (ad 45)), (1, .int u11_x1), (2, .int q.2.1), (3, .int q.2.2.1)]) (h1 : q.1 ≠ 0 → (o_At p l e rm_Ck_inspectPatterns s m args below meth c Q o_cls D A 4 71 [] (o_cw ad ca u11_rt u11_Sj u11_T0 u11_T1 u11_Rd q.2.2.2.1 q.2.2.2.2.1 u11_Mk u11_Lk q.2.2.2.2.2 u11_Jd u11_Ld u11_Pr) [])) : o_At p l e rm_Ck_inspectPatterns s m args below meth c Q o_cls D A 4 50 [] (o_cw ad ca u11_rt u11_Sj u11_T0 u11_T1 u11_Rd Pg Pt u11_Mk u11_Lk Ck u11_Jd u11_Ld u11_Pr) [(0, .ref (ad 45)), (1, .int u11_x1), (2, .int x2), (3, .int x3)] := by
  unfold m_Ck_inspectPatterns_j50 at h
  intro H locs ls hP hS hl
  have C0 := C
  obtain ⟨hx, hb, -, -, -, hown, hts, hK, -, -⟩ := C0
  refine lv_aload_n hx hb d_Ck_inspectPatterns_50 rfl (lv_at hl 0 rfl) ?_
  refine lv_iconst (v := (4:Int32)) hx hb d_Ck_inspectPatterns_51 (by decide) ?_
  refine lv_iload_n hx hb d_Ck_inspectPatterns_52 rfl (lv_at hl 2 rfl) ?_
  obtain ⟨q4, hq4, h⟩ := o_bd_some h
  refine o_V (st1 := []) (w1 := (o_cw ad ca u11_rt u11_Sj u11_T0 u11_T1 u11_Rd Pg Pt u11_Mk u11_Lk q4 u11_Jd u11_Ld u11_Pr)) hE.1 C (c_Ck_report hE l (4:Int32) x2 Ck u11_Sj u11_T0 u11_T1 u11_Rd Pg Pt u11_Mk u11_Lk u11_Jd u11_Ld u11_Pr u11_rt hq4) hP (hDD _ _ _ _ _ _ _ _ _ _ _ _ _) hS hl.1 rfl cw_45 k_4_57 k_4_59 k_s_20 k_1_7 k_4_60 hv_Ck_report rfl rfl ⟨(Nat.le_of_ble_eq_true rfl), (Nat.le_of_ble_eq_true rfl)⟩ rfl (Nat.le_of_ble_eq_true rfl) ⟨Nat.zero_le _, Nat.zero_le _⟩ rfl d_Ck_inspectPatterns_53 (fun H locs hP hS => ?_)
  exact w_Ck_inspectPatterns_j56 hE C hDD n u11_x1 u11_T0 u11_Sj u11_T1 u11_Rd u11_Mk u11_Lk u11_Jd u11_Ld u11_Pr u11_rt x2 x3 Pg Pt q4 h h0 h1 _ _ _ hP hS (lv_sub hl [0, 1, 2, 3] rfl)
set_option maxHeartbeats 4000000 in
set_option maxRecDepth 100000 in
theorem w_Ck_inspectPatterns_b11 {E : (Nat → Prop) → State → Heap → Prop} {p : Program} {l : Launch} {e : Env} {s : State} {m : MethodId} {args : Array Value} {below : List Frame} {meth : Method} {c : Code} {D : va_G} {ad kd sd vd xd : Nat → Nat} {ca : Nat → ClassId} {A : Nat → Prop} {Q : State → Prop} (hE : o_EK E kd sd vd xd) (C : o_Cx E p s m args meth c D o_cls (o_tys ca) "SchemaJudge$Checker" b_Ck_inspectPatterns none 4 cc_Ck_inspectPatterns A) (hDD : ∀ (rt : Nat) (Sj : SSJ) (T0 : STx) (T1 : STx) (Rd : SRd) (Pg : SPg) (Pt : SPt) (Mk : SMk) (Lk : SLk) (Ck : SCk) (Jd : SJd) (Ld : SLd) (Pr : SPr), va_D A (o_cw ad ca rt Sj T0 T1 Rd Pg Pt Mk Lk Ck Jd Ld Pr)) (n : Nat) (u11_x1 : Int32) (u11_T0 : STx) (u11_Sj : SSJ) (u11_T1 : STx) (u11_Rd : SRd) (u11_Mk : SMk) (u11_Lk : SLk) (u11_Jd : SJd) (u11_Ld : SLd) (u11_Pr : SPr) (u11_rt : Nat) (z : Int32 × Int32 × SPg × SPt × SCk) (q : Nat × Int32 × Int32 × SPg × SPt × SCk) (h : m_Ck_inspectPatterns_b11 n u11_x1 u11_T0 z = some q) (h0 : q.1 = 0 → o_At p l e rm_Ck_inspectPatterns s m args below meth c Q o_cls D A 4 11 [] (o_cw ad ca u11_rt u11_Sj u11_T0 u11_T1 u11_Rd q.2.2.2.1 q.2.2.2.2.1 u11_Mk u11_Lk q.2.2.2.2.2 u11_Jd u11_Ld u11_Pr) [(0, .ref (ad 45)), (1, .int u11_x1), (2, .int q.2.1), (3, .int q.2.2.1)]) (h1 : q.1 ≠ 0 → (o_At p l e rm_Ck_inspectPatterns s m args below meth c Q o_cls D A 4 71 [] (o_cw ad ca u11_rt u11_Sj u11_T0 u11_T1 u11_Rd q.2.2.2.1 q.2.2.2.2.1 u11_Mk u11_Lk q.2.2.2.2.2 u11_Jd u11_Ld u11_Pr) [])) : o_At p l e rm_Ck_inspectPatterns s m args below meth c Q o_cls D A 4 11 [] (o_cw ad ca u11_rt u11_Sj u11_T0 u11_T1 u11_Rd z.2.2.1 z.2.2.2.1 u11_Mk u11_Lk z.2.2.2.2 u11_Jd u11_Ld u11_Pr) [(0, .ref (ad 45)), (1, .int u11_x1), (2, .int z.1), (3, .int z.2.1)] := by
  unfold m_Ck_inspectPatterns_b11 at h
  intro H locs ls hP hS hl
  have C0 := C
  obtain ⟨hx, hb, -, -, -, hown, hts, hK, -, -⟩ := C0
  refine lv_iload_n hx hb d_Ck_inspectPatterns_11 rfl (lv_at hl 3 rfl) ?_
  refine lv_aload_n hx hb d_Ck_inspectPatterns_12 rfl (lv_at hl 0 rfl) ?_
  refine o_get (v := .ref (ad 1)) C in_Ck hP 45 cw_45 rfl 0 (by decide) k_2_7 rfl rfl d_Ck_inspectPatterns_13 ?_
  refine lv_iload_n hx hb d_Ck_inspectPatterns_16 rfl (lv_at hl 1 rfl) ?_
  obtain ⟨q2, hq2, h⟩ := o_bd_some h
  refine o_V (st1 := [.int q2, .int z.2.1]) (w1 := (o_cw ad ca u11_rt u11_Sj u11_T0 u11_T1 u11_Rd z.2.2.1 z.2.2.2.1 u11_Mk u11_Lk z.2.2.2.2 u11_Jd u11_Ld u11_Pr)) hE.1 C (c_Tx_size_0 hE l u11_x1 u11_T0 u11_Sj u11_T1 u11_Rd z.2.2.1 z.2.2.2.1 u11_Mk u11_Lk z.2.2.2.2 u11_Jd u11_Ld u11_Pr u11_rt hq2) hP (hDD _ _ _ _ _ _ _ _ _ _ _ _ _) hS hl.1 rfl cw_1 k_4_71 k_3_215 k_3_216 k_1_2 k_3_217 hv_Tx_size rfl rfl ⟨(Nat.le_of_ble_eq_true rfl), (Nat.le_of_ble_eq_true rfl)⟩ rfl (Nat.le_of_ble_eq_true rfl) ⟨Nat.zero_le _, Nat.zero_le _⟩ rfl d_Ck_inspectPatterns_17 (fun H locs hP hS => ?_)
  refine lv_icmp_ge (tgt := 71) hx hb d_Ck_inspectPatterns_20 (by decide) (fun c1 => ?_) (fun c1 => ?_)
  · replace h := o_tt c1 h
    cases h
    exact h1 (Nat.succ_ne_zero 0) _ _ _ hP hS (lv_sub hl [] rfl)
  · replace h := o_ff c1 h
    refine lv_aload_n hx hb d_Ck_inspectPatterns_23 rfl (lv_at hl 0 rfl) ?_
    refine o_get (v := .ref (ad 33)) C in_Ck hP 45 cw_45 rfl 2 (by decide) k_2_9 rfl rfl d_Ck_inspectPatterns_24 ?_
    refine lv_aload_n hx hb d_Ck_inspectPatterns_27 rfl (lv_at hl 0 rfl) ?_
    refine o_get (v := .ref (ad 1)) C in_Ck hP 45 cw_45 rfl 0 (by decide) k_2_7 rfl rfl d_Ck_inspectPatterns_28 ?_
    refine lv_iload_n hx hb d_Ck_inspectPatterns_31 rfl (lv_at hl 2 rfl) ?_
    refine lv_iconst (v := (1:Int32)) hx hb d_Ck_inspectPatterns_32 (by decide) ?_
    refine lv_isub hx hb d_Ck_inspectPatterns_33 ?_
    obtain ⟨q3, hq3, h⟩ := o_bd_some h
    refine o_V (st1 := [.int q3.1]) (w1 := (o_cw ad ca u11_rt u11_Sj u11_T0 u11_T1 u11_Rd z.2.2.1 q3.2 u11_Mk u11_Lk z.2.2.2.2 u11_Jd u11_Ld u11_Pr)) hE.1 C (c_Pt_tokenise_0 hE l n (z.1 - (1:Int32)) u11_T0 z.2.2.2.1 u11_Sj u11_T1 u11_Rd z.2.2.1 u11_Mk u11_Lk z.2.2.2.2 u11_Jd u11_Ld u11_Pr u11_rt hq3) hP (hDD _ _ _ _ _ _ _ _ _ _ _ _ _) hS hl.1 rfl cw_33 k_4_108 k_4_109 k_4_110 k_1_5 k_4_111 hv_Pt_tokenise rfl rfl ⟨(Nat.le_of_ble_eq_true rfl), (Nat.le_of_ble_eq_true rfl)⟩ rfl (Nat.le_of_ble_eq_true rfl) ⟨Nat.zero_le _, Nat.zero_le _⟩ rfl d_Ck_inspectPatterns_34 (fun H locs hP hS => ?_)
    refine lv_if_eq (tgt := 50) hx hb d_Ck_inspectPatterns_37 (by decide) (fun c2 => ?_) (fun c2 => ?_)
    · replace h := o_tt c2 h
      exact w_Ck_inspectPatterns_j50 hE C hDD n u11_x1 u11_T0 u11_Sj u11_T1 u11_Rd u11_Mk u11_Lk u11_Jd u11_Ld u11_Pr u11_rt z.1 z.2.1 z.2.2.1 q3.2 z.2.2.2.2 h h0 h1 _ _ _ hP hS (lv_sub hl [0, 1, 2, 3] rfl)
    · replace h := o_ff c2 h
      refine lv_aload_n hx hb d_Ck_inspectPatterns_40 rfl (lv_at hl 0 rfl) ?_
      refine o_get (v := .ref (ad 33)) C in_Ck hP 45 cw_45 rfl 2 (by decide) k_2_9 rfl rfl d_Ck_inspectPatterns_41 ?_
      obtain ⟨q6, hq6, h⟩ := o_bd_some h
      refine o_V (st1 := [.int q6.1]) (w1 := (o_cw ad ca u11_rt u11_Sj u11_T0 u11_T1 u11_Rd q6.2.1 q6.2.2 u11_Mk u11_Lk z.2.2.2.2 u11_Jd u11_Ld u11_Pr)) hE.1 C (c_Pt_parse hE l n z.2.2.1 q3.2 u11_Sj u11_T0 u11_T1 u11_Rd u11_Mk u11_Lk z.2.2.2.2 u11_Jd u11_Ld u11_Pr u11_rt hq6) hP (hDD _ _ _ _ _ _ _ _ _ _ _ _ _) hS hl.1 rfl cw_33 k_4_202 k_4_203 k_4_204 k_1_5 k_4_205 hv_Pt_parse rfl rfl ⟨(Nat.le_of_ble_eq_true rfl), (Nat.le_of_ble_eq_true rfl)⟩ rfl (Nat.le_of_ble_eq_true rfl) ⟨Nat.zero_le _, Nat.zero_le _⟩ rfl d_Ck_inspectPatterns_44 (fun H locs hP hS => ?_)
      refine lv_if_ne (tgt := 56) hx hb d_Ck_inspectPatterns_47 (by decide) (fun c3 => ?_) (fun c3 => ?_)
      · replace h := o_ff c3 h
        exact w_Ck_inspectPatterns_j56 hE C hDD n u11_x1 u11_T0 u11_Sj u11_T1 u11_Rd u11_Mk u11_Lk u11_Jd u11_Ld u11_Pr u11_rt z.1 z.2.1 q6.2.1 q6.2.2 z.2.2.2.2 h h0 h1 _ _ _ hP hS (lv_sub hl [0, 1, 2, 3] rfl)
      · replace h := o_tt c3 h
        exact w_Ck_inspectPatterns_j50 hE C hDD n u11_x1 u11_T0 u11_Sj u11_T1 u11_Rd u11_Mk u11_Lk u11_Jd u11_Ld u11_Pr u11_rt z.1 z.2.1 q6.2.1 q6.2.2 z.2.2.2.2 h h0 h1 _ _ _ hP hS (lv_sub hl [0, 1, 2, 3] rfl)
set_option maxHeartbeats 4000000 in
set_option maxRecDepth 100000 in
theorem c_Ck_inspectPatterns {E : (Nat → Prop) → State → Heap → Prop} {D : va_G} {ad kd sd vd xd : Nat → Nat} {ca : Nat → ClassId} (hE : o_EK E kd sd vd xd) (l : Launch) (n : Nat) (x1 : Int32) (T0 : STx) (Pg : SPg) (Pt : SPt) (Ck : SCk) (Sj : SSJ) (T1 : STx) (Rd : SRd) (Mk : SMk) (Lk : SLk) (Jd : SJd) (Ld : SLd) (Pr : SPr) (rt : Nat) {r : SPg × SPt × SCk} (h : m_Ck_inspectPatterns n x1 T0 Pg Pt Ck = some r) : o_Cn E l D o_cls (o_tys ca) y_Ck_inspectPatterns cc_Ck_inspectPatterns rm_Ck_inspectPatterns [.ref (ad 45), .int x1] (o_cw ad ca rt Sj T0 T1 Rd Pg Pt Mk Lk Ck Jd Ld Pr) (o_cw ad ca rt Sj T0 T1 Rd r.1 r.2.1 Mk Lk r.2.2 Jd Ld Pr) none := by
  refine o_Cn_of (by decide) (Nat.le_of_ble_eq_true rfl) ?_
  intro p e s m below meth c A ls C hD hP hS hl
  have hDD : ∀ (rt : Nat) (Sj : SSJ) (T0 : STx) (T1 : STx) (Rd : SRd) (Pg : SPg) (Pt : SPt) (Mk : SMk) (Lk : SLk) (Ck : SCk) (Jd : SJd) (Ld : SLd) (Pr : SPr), va_D A (o_cw ad ca rt Sj T0 T1 Rd Pg Pt Mk Lk Ck Jd Ld Pr) := fun _ _ _ _ _ _ _ _ _ _ _ _ _ => o_D_map hD rfl
  have hl : lv_has ls 4 [(0, .ref (ad 45)), (1, .int x1)] := hl
  unfold m_Ck_inspectPatterns at h
  have C0 := C
  obtain ⟨hx, hb, -, -, -, hown, hts, hK, -, -⟩ := C0
  refine lv_aload_n hx hb d_Ck_inspectPatterns_0 rfl (lv_at hl 0 rfl) ?_
  refine o_get (v := .ref (ad 1)) C in_Ck hP 45 cw_45 rfl 0 (by decide) k_2_7 rfl rfl d_Ck_inspectPatterns_1 ?_
  refine lv_iload_n hx hb d_Ck_inspectPatterns_4 rfl (lv_at hl 1 rfl) ?_
  obtain ⟨q1, hq1, h⟩ := o_bd_some h
  refine o_V (st1 := [.int q1]) (w1 := (o_cw ad ca rt Sj T0 T1 Rd Pg Pt Mk Lk Ck Jd Ld Pr)) hE.1 C (c_Tx_firstChild_0 hE l x1 T0 Sj T1 Rd Pg Pt Mk Lk Ck Jd Ld Pr rt hq1) hP (hDD _ _ _ _ _ _ _ _ _ _ _ _ _) hS hl.1 rfl cw_1 k_4_70 k_3_211 k_3_212 k_1_2 k_3_213 hv_Tx_firstChild rfl rfl ⟨(Nat.le_of_ble_eq_true rfl), (Nat.le_of_ble_eq_true rfl)⟩ rfl (Nat.le_of_ble_eq_true rfl) ⟨Nat.zero_le _, Nat.zero_le _⟩ rfl d_Ck_inspectPatterns_5 (fun H locs hP hS => ?_)
  refine lv_istore_n (lv' := [(2, .int q1), (0, .ref (ad 45)), (1, .int x1)]) hx hb d_Ck_inspectPatterns_8 rfl hl (by decide) rfl (fun ls hl => ?_)
  refine lv_iconst (v := (0:Int32)) hx hb d_Ck_inspectPatterns_9 (by decide) ?_
  refine lv_istore_n (lv' := [(3, .int (0:Int32)), (2, .int q1), (0, .ref (ad 45)), (1, .int x1)]) hx hb d_Ck_inspectPatterns_10 rfl hl (by decide) rfl (fun ls hl => ?_)
  obtain ⟨q7, hq7, h⟩ := o_bd_some h
  refine o_sim2 (AH := fun zz => o_At p l e rm_Ck_inspectPatterns s m _ below meth c _ o_cls D A 4 11 [] (o_cw ad ca rt Sj T0 T1 Rd zz.2.2.1 zz.2.2.2.1 Mk Lk zz.2.2.2.2 Jd Ld Pr) [(0, .ref (ad 45)), (1, .int x1), (2, .int zz.1), (3, .int zz.2.1)]) (AX := fun qq => o_At p l e rm_Ck_inspectPatterns s m _ below meth c _ o_cls D A 4 71 [] (o_cw ad ca rt Sj T0 T1 Rd qq.2.2.2.1 qq.2.2.2.2.1 Mk Lk qq.2.2.2.2.2 Jd Ld Pr) []) (fun zz qq h h0 h1 => w_Ck_inspectPatterns_b11 hE C hDD n x1 T0 Sj T1 Rd Mk Lk Jd Ld Pr rt zz qq h h0 h1) n _ q7 hq7 ?_ _ _ _ hP hS (lv_sub hl [2, 3, 1, 0] rfl)
  intro H locs ls hP hS hl
  cases h
  exact o_rv C hP hS d_Ck_inspectPatterns_71
set_option maxHeartbeats 4000000 in
set_option maxRecDepth 100000 in
theorem w_SJ_isLetter_j24 {E : (Nat → Prop) → State → Heap → Prop} {p : Program} {l : Launch} {e : Env} {s : State} {m : MethodId} {args : Array Value} {below : List Frame} {meth : Method} {c : Code} {D : va_G} {ad kd sd vd xd : Nat → Nat} {ca : Nat → ClassId} {A : Nat → Prop} (hE : o_EK E kd sd vd xd) (C : o_Cx E p s m args meth c D o_cls (o_tys ca) "SchemaJudge" b_SJ_isLetter (some .boolean) 1 cc_SJ_isLetter A) (hDD : ∀ (rt : Nat) (Sj : SSJ) (T0 : STx) (T1 : STx) (Rd : SRd) (Pg : SPg) (Pt : SPt) (Mk : SMk) (Lk : SLk) (Ck : SCk) (Jd : SJd) (Ld : SLd) (Pr : SPr), va_D A (o_cw ad ca rt Sj T0 T1 Rd Pg Pt Mk Lk Ck Jd Ld Pr)) (x0 : Int32) (Sj : SSJ) (T0 : STx) (T1 : STx) (Rd : SRd) (Pg : SPg) (Pt : SPt) (Mk : SMk) (Lk : SLk) (Ck : SCk) (Jd : SJd) (Ld : SLd) (Pr : SPr) (rt : Nat) {r : Int32} (h : m_SJ_isLetter_j24 x0 = some r) : o_At p l e rm_SJ_isLetter s m args below meth c (MQ below (o_Qx D o_cls (some (.int r)) (o_cw ad ca rt Sj T0 T1 Rd Pg Pt Mk Lk Ck Jd Ld Pr) A) args s 0 0 A) o_cls D A 1 24 [] (o_cw ad ca rt Sj T0 T1 Rd Pg Pt Mk Lk Ck Jd Ld Pr) [(0, .int x0)] := by
  unfold m_SJ_isLetter_j24 at h
  intro H locs ls hP hS hl
  have C0 := C
  obtain ⟨hx, hb, -, -, -, hown, hts, hK, -, -⟩ := C0
  refine lv_iload_n hx hb d_SJ_isLetter_24 rfl (lv_at hl 0 rfl) ?_
  refine lv_bipush (v := (95:Int32)) hx hb d_SJ_isLetter_25 (by decide) ?_
  refine lv_icmp_ne (tgt := 34) hx hb d_SJ_isLetter_27 (by decide) (fun c3 => ?_) (fun c3 => ?_)
  · replace h := o_ff c3 h
    refine lv_iconst (v := (0:Int32)) hx hb d_SJ_isLetter_34 (by decide) ?_
    cases h
    exact o_rz (v := (0:Int32)) C o_nar0 hP hS d_SJ_isLetter_35
  · replace h := o_tt c3 h
    refine lv_iconst (v := (1:Int32)) hx hb d_SJ_isLetter_30 (by decide) ?_
    refine lv_goto (tgt := 35) hx hb d_SJ_isLetter_31 (by decide) ?_
    cases h
    exact o_rz (v := (1:Int32)) C o_nar1 hP hS d_SJ_isLetter_35
set_option maxHeartbeats 4000000 in
set_option maxRecDepth 100000 in
theorem w_SJ_isLetter_j12 {E : (Nat → Prop) → State → Heap → Prop} {p : Program} {l : Launch} {e : Env} {s : State} {m : MethodId} {args : Array Value} {below : List Frame} {meth : Method} {c : Code} {D : va_G} {ad kd sd vd xd : Nat → Nat} {ca : Nat → ClassId} {A : Nat → Prop} (hE : o_EK E kd sd vd xd) (C : o_Cx E p s m args meth c D o_cls (o_tys ca) "SchemaJudge" b_SJ_isLetter (some .boolean) 1 cc_SJ_isLetter A) (hDD : ∀ (rt : Nat) (Sj : SSJ) (T0 : STx) (T1 : STx) (Rd : SRd) (Pg : SPg) (Pt : SPt) (Mk : SMk) (Lk : SLk) (Ck : SCk) (Jd : SJd) (Ld : SLd) (Pr : SPr), va_D A (o_cw ad ca rt Sj T0 T1 Rd Pg Pt Mk Lk Ck Jd Ld Pr)) (x0 : Int32) (Sj : SSJ) (T0 : STx) (T1 : STx) (Rd : SRd) (Pg : SPg) (Pt : SPt) (Mk : SMk) (Lk : SLk) (Ck : SCk) (Jd : SJd) (Ld : SLd) (Pr : SPr) (rt : Nat) {r : Int32} (h : m_SJ_isLetter_j12 x0 = some r) : o_At p l e rm_SJ_isLetter s m args below meth c (MQ below (o_Qx D o_cls (some (.int r)) (o_cw ad ca rt Sj T0 T1 Rd Pg Pt Mk Lk Ck Jd Ld Pr) A) args s 0 0 A) o_cls D A 1 12 [] (o_cw ad ca rt Sj T0 T1 Rd Pg Pt Mk Lk Ck Jd Ld Pr) [(0, .int x0)] := by
  unfold m_SJ_isLetter_j12 at h
  intro H locs ls hP hS hl
  have C0 := C
  obtain ⟨hx, hb, -, -, -, hown, hts, hK, -, -⟩ := C0
  refine lv_iload_n hx hb d_SJ_isLetter_12 rfl (lv_at hl 0 rfl) ?_
  refine lv_bipush (v := (65:Int32)) hx hb d_SJ_isLetter_13 (by decide) ?_
  refine lv_icmp_lt (tgt := 24) hx hb d_SJ_isLetter_15 (by decide) (fun c2 => ?_) (fun c2 => ?_)
  · replace h := o_tt c2 h
    exact w_SJ_isLetter_j24 hE C hDD x0 Sj T0 T1 Rd Pg Pt Mk Lk Ck Jd Ld Pr rt h _ _ _ hP hS (lv_sub hl [0] rfl)
  · replace h := o_ff c2 h
    refine lv_iload_n hx hb d_SJ_isLetter_18 rfl (lv_at hl 0 rfl) ?_
    refine lv_bipush (v := (90:Int32)) hx hb d_SJ_isLetter_19 (by decide) ?_
    refine lv_icmp_le (tgt := 30) hx hb d_SJ_isLetter_21 (by decide) (fun c4 => ?_) (fun c4 => ?_)
    · replace h := o_tt c4 h
      refine lv_iconst (v := (1:Int32)) hx hb d_SJ_isLetter_30 (by decide) ?_
      refine lv_goto (tgt := 35) hx hb d_SJ_isLetter_31 (by decide) ?_
      cases h
      exact o_rz (v := (1:Int32)) C o_nar1 hP hS d_SJ_isLetter_35
    · replace h := o_ff c4 h
      exact w_SJ_isLetter_j24 hE C hDD x0 Sj T0 T1 Rd Pg Pt Mk Lk Ck Jd Ld Pr rt h _ _ _ hP hS (lv_sub hl [0] rfl)
set_option maxHeartbeats 4000000 in
set_option maxRecDepth 100000 in
theorem c_SJ_isLetter {E : (Nat → Prop) → State → Heap → Prop} {D : va_G} {ad kd sd vd xd : Nat → Nat} {ca : Nat → ClassId} (hE : o_EK E kd sd vd xd) (l : Launch) (x0 : Int32) (Sj : SSJ) (T0 : STx) (T1 : STx) (Rd : SRd) (Pg : SPg) (Pt : SPt) (Mk : SMk) (Lk : SLk) (Ck : SCk) (Jd : SJd) (Ld : SLd) (Pr : SPr) (rt : Nat) {r : Int32} (h : m_SJ_isLetter x0 = some r) : o_Cn E l D o_cls (o_tys ca) y_SJ_isLetter cc_SJ_isLetter rm_SJ_isLetter [.int x0] (o_cw ad ca rt Sj T0 T1 Rd Pg Pt Mk Lk Ck Jd Ld Pr) (o_cw ad ca rt Sj T0 T1 Rd Pg Pt Mk Lk Ck Jd Ld Pr) (some (.int r)) := by
  refine o_Cn_of (by decide) (Nat.le_of_ble_eq_true rfl) ?_
  intro p e s m below meth c A ls C hD hP hS hl
  have hDD : ∀ (rt : Nat) (Sj : SSJ) (T0 : STx) (T1 : STx) (Rd : SRd) (Pg : SPg) (Pt : SPt) (Mk : SMk) (Lk : SLk) (Ck : SCk) (Jd : SJd) (Ld : SLd) (Pr : SPr), va_D A (o_cw ad ca rt Sj T0 T1 Rd Pg Pt Mk Lk Ck Jd Ld Pr) := fun _ _ _ _ _ _ _ _ _ _ _ _ _ => o_D_map hD rfl
  have hl : lv_has ls 1 [(0, .int x0)] := hl
  unfold m_SJ_isLetter at h
  have C0 := C
  obtain ⟨hx, hb, -, -, -, hown, hts, hK, -, -⟩ := C0
  refine lv_iload_n hx hb d_SJ_isLetter_0 rfl (lv_at hl 0 rfl) ?_
  refine lv_bipush (v := (97:Int32)) hx hb d_SJ_isLetter_1 (by decide) ?_
  refine lv_icmp_lt (tgt := 12) hx hb d_SJ_isLetter_3 (by decide) (fun c1 => ?_) (fun c1 => ?_)
  · replace h := o_tt c1 h
    exact w_SJ_isLetter_j12 hE C hDD x0 Sj T0 T1 Rd Pg Pt Mk Lk Ck Jd Ld Pr rt h _ _ _ hP hS (lv_sub hl [0] rfl)
  · replace h := o_ff c1 h
    refine lv_iload_n hx hb d_SJ_isLetter_6 rfl (lv_at hl 0 rfl) ?_
    refine lv_bipush (v := (122:Int32)) hx hb d_SJ_isLetter_7 (by decide) ?_
    refine lv_icmp_le (tgt := 30) hx hb d_SJ_isLetter_9 (by decide) (fun c5 => ?_) (fun c5 => ?_)
    · replace h := o_tt c5 h
      refine lv_iconst (v := (1:Int32)) hx hb d_SJ_isLetter_30 (by decide) ?_
      refine lv_goto (tgt := 35) hx hb d_SJ_isLetter_31 (by decide) ?_
      cases h
      exact o_rz (v := (1:Int32)) C o_nar1 hP hS d_SJ_isLetter_35
    · replace h := o_ff c5 h
      exact w_SJ_isLetter_j12 hE C hDD x0 Sj T0 T1 Rd Pg Pt Mk Lk Ck Jd Ld Pr rt h _ _ _ hP hS (lv_sub hl [0] rfl)
set_option maxHeartbeats 4000000 in
set_option maxRecDepth 100000 in
theorem w_Ck_isAnchor_j52 {E : (Nat → Prop) → State → Heap → Prop} {p : Program} {l : Launch} {e : Env} {s : State} {m : MethodId} {args : Array Value} {below : List Frame} {meth : Method} {c : Code} {D : va_G} {ad kd sd vd xd : Nat → Nat} {ca : Nat → ClassId} {A : Nat → Prop} {Q : State → Prop} (hE : o_EK E kd sd vd xd) (C : o_Cx E p s m args meth c D o_cls (o_tys ca) "SchemaJudge$Checker" b_Ck_isAnchor (some .boolean) 5 cc_Ck_isAnchor A) (hDD : ∀ (rt : Nat) (Sj : SSJ) (T0 : STx) (T1 : STx) (Rd : SRd) (Pg : SPg) (Pt : SPt) (Mk : SMk) (Lk : SLk) (Ck : SCk) (Jd : SJd) (Ld : SLd) (Pr : SPr), va_D A (o_cw ad ca rt Sj T0 T1 Rd Pg Pt Mk Lk Ck Jd Ld Pr)) (n : Nat) (u2_x1 : Int32) (u2_T0 : STx) (u2_Sj : SSJ) (u2_T1 : STx) (u2_Rd : SRd) (u2_Pg : SPg) (u2_Pt : SPt) (u2_Mk : SMk) (u2_Lk : SLk) (u2_Ck : SCk) (u2_Jd : SJd) (u2_Ld : SLd) (u2_Pr : SPr) (u2_rt : Nat) (x2 : Int32) (x3 : Int32) (y0 : Int32) {q : Nat × Int32} (h : m_Ck_isAnchor_j52 n u2_x1 x2 x3 y0 u2_T0 = some q) (h0 : q.1 = 0 → o_At p l e rm_Ck_isAnchor s m args below meth c Q o_cls D A 5 2 [] (o_cw ad ca u2_rt u2_Sj u2_T0 u2_T1 u2_Rd u2_Pg u2_Pt u2_Mk u2_Lk u2_Ck u2_Jd u2_Ld u2_Pr) [(0, .ref (ad 45)), (1, .int u2_x1), (2, .int q.2)]) (h1 : q.1 ≠ 0 → (if q.1 = 1 then o_At p l e rm_Ck_isAnchor s m args below meth c Q o_cls D A 5 66 [] (o_cw ad ca u2_rt u2_Sj u2_T0 u2_T1 u2_Rd u2_Pg u2_Pt u2_Mk u2_Lk u2_Ck u2_Jd u2_Ld u2_Pr) [] else o_At p l e rm_Ck_isAnchor s m args below meth c Q o_cls D A 5 74 [] (o_cw ad ca u2_rt u2_Sj u2_T0 u2_T1 u2_Rd u2_Pg u2_Pt u2_Mk u2_Lk u2_Ck u2_Jd u2_Ld u2_Pr) [(0, .ref (ad 45)), (1, .int u2_x1)])) : o_At p l e rm_Ck_isAnchor s m args below meth c Q o_cls D A 5 52 [.int y0] (o_cw ad ca u2_rt u2_Sj u2_T0 u2_T1 u2_Rd u2_Pg u2_Pt u2_Mk u2_Lk u2_Ck u2_Jd u2_Ld u2_Pr) [(0, .ref (ad 45)), (1, .int u2_x1), (2, .int x2), (3, .int x3)] := by
  unfold m_Ck_isAnchor_j52 at h
  intro H locs ls hP hS hl
  have C0 := C
  obtain ⟨hx, hb, -, -, -, hown, hts, hK, -, -⟩ := C0
  refine lv_istore (lv' := [(4, .int y0), (0, .ref (ad 45)), (1, .int u2_x1), (2, .int x2), (3, .int x3)]) hx hb d_Ck_isAnchor_52 hl (by decide) rfl (fun ls hl => ?_)
  refine lv_iload_n hx hb d_Ck_isAnchor_54 rfl (lv_at hl 4 rfl) ?_
  obtain ⟨q3, hq3, h⟩ := o_bd_some h
  refine o_SN (st1 := [.int q3]) (w1 := (o_cw ad ca u2_rt u2_Sj u2_T0 u2_T1 u2_Rd u2_Pg u2_Pt u2_Mk u2_Lk u2_Ck u2_Jd u2_Ld u2_Pr)) hE.1 C (c_SJ_isLetter hE l x3 u2_Sj u2_T0 u2_T1 u2_Rd u2_Pg u2_Pt u2_Mk u2_Lk u2_Ck u2_Jd u2_Ld u2_Pr u2_rt hq3) hP (hDD _ _ _ _ _ _ _ _ _ _ _ _ _) hS hl.1 (hE.2.1 _ _ _ C.2.2.2.2.2.2.2.2.2 _ nw_13) k_5_79 k_1_1 k_5_80 hs_SJ_isLetter rfl rfl ⟨(Nat.le_of_ble_eq_true rfl), (Nat.le_of_ble_eq_true rfl)⟩ rfl (Nat.le_of_ble_eq_true rfl) ⟨Nat.zero_le _, Nat.zero_le _⟩ rfl d_Ck_isAnchor_55 (fun H locs hP hS => ?_)
  refine lv_if_ne (tgt := 68) hx hb d_Ck_isAnchor_58 (by decide) (fun c3 => ?_) (fun c3 => ?_)
  · replace h := o_ff c3 h
    obtain ⟨x2_68, ex2_68⟩ : ∃ y : Int32, y = x2 + (1:Int32) := ⟨_, rfl⟩
    replace h := o_nm_at ex2_68 h
    refine lv_iinc (v := x2_68) (lv' := [(2, .int x2_68), (4, .int y0), (0, .ref (ad 45)), (1, .int u2_x1), (3, .int x3)]) hx hb d_Ck_isAnchor_68 hl (k := 3) rfl (by rw [ex2_68]; rfl) (by decide) rfl (fun ls hl => ?_)
    refine lv_goto (tgt := 2) hx hb d_Ck_isAnchor_71 (by decide) ?_
    cases h
    exact h0 rfl _ _ _ hP hS (lv_sub hl [2, 3, 0] rfl)
  · replace h := o_tt c3 h
    refine lv_iload hx hb d_Ck_isAnchor_61 (lv_at hl 0 rfl) ?_
    refine lv_if_ne (tgt := 68) hx hb d_Ck_isAnchor_63 (by decide) (fun c4 => ?_) (fun c4 => ?_)
    · replace h := o_ff c4 h
      obtain ⟨x2_68, ex2_68⟩ : ∃ y : Int32, y = x2 + (1:Int32) := ⟨_, rfl⟩
      replace h := o_nm_at ex2_68 h
      refine lv_iinc (v := x2_68) (lv' := [(2, .int x2_68), (4, .int y0), (0, .ref (ad 45)), (1, .int u2_x1), (3, .int x3)]) hx hb d_Ck_isAnchor_68 hl (k := 3) rfl (by rw [ex2_68]; rfl) (by decide) rfl (fun ls hl => ?_)
      refine lv_goto (tgt := 2) hx hb d_Ck_isAnchor_71 (by decide) ?_
      cases h
      exact h0 rfl _ _ _ hP hS (lv_sub hl [2, 3, 0] rfl)
    · replace h := o_tt c4 h
      cases h
      exact h1 (Nat.succ_ne_zero 0) _ _ _ hP hS (lv_sub hl [] rfl)
set_option maxHeartbeats 4000000 in
set_option maxRecDepth 100000 in
theorem w_Ck_isAnchor_b2 {E : (Nat → Prop) → State → Heap → Prop} {p : Program} {l : Launch} {e : Env} {s : State} {m : MethodId} {args : Array Value} {below : List Frame} {meth : Method} {c : Code} {D : va_G} {ad kd sd vd xd : Nat → Nat} {ca : Nat → ClassId} {A : Nat → Prop} {Q : State → Prop} (hE : o_EK E kd sd vd xd) (C : o_Cx E p s m args meth c D o_cls (o_tys ca) "SchemaJudge$Checker" b_Ck_isAnchor (some .boolean) 5 cc_Ck_isAnchor A) (hDD : ∀ (rt : Nat) (Sj : SSJ) (T0 : STx) (T1 : STx) (Rd : SRd) (Pg : SPg) (Pt : SPt) (Mk : SMk) (Lk : SLk) (Ck : SCk) (Jd : SJd) (Ld : SLd) (Pr : SPr), va_D A (o_cw ad ca rt Sj T0 T1 Rd Pg Pt Mk Lk Ck Jd Ld Pr)) (n : Nat) (u2_x1 : Int32) (u2_T0 : STx) (u2_Sj : SSJ) (u2_T1 : STx) (u2_Rd : SRd) (u2_Pg : SPg) (u2_Pt : SPt) (u2_Mk : SMk) (u2_Lk : SLk) (u2_Ck : SCk) (u2_Jd : SJd) (u2_Ld : SLd) (u2_Pr : SPr) (u2_rt : Nat) (z : Int32) (q : Nat × Int32) (h : m_Ck_isAnchor_b2 n u2_x1 u2_T0 z = some q) (h0 : q.1 = 0 → o_At p l e rm_Ck_isAnchor s m args below meth c Q o_cls D A 5 2 [] (o_cw ad ca u2_rt u2_Sj u2_T0 u2_T1 u2_Rd u2_Pg u2_Pt u2_Mk u2_Lk u2_Ck u2_Jd u2_Ld u2_Pr) [(0, .ref (ad 45)), (1, .int u2_x1), (2, .int q.2)]) (h1 : q.1 ≠ 0 → (if q.1 = 1 then o_At p l e rm_Ck_isAnchor s m args below meth c Q o_cls D A 5 66 [] (o_cw ad ca u2_rt u2_Sj u2_T0 u2_T1 u2_Rd u2_Pg u2_Pt u2_Mk u2_Lk u2_Ck u2_Jd u2_Ld u2_Pr) [] else o_At p l e rm_Ck_isAnchor s m args below meth c Q o_cls D A 5 74 [] (o_cw ad ca u2_rt u2_Sj u2_T0 u2_T1 u2_Rd u2_Pg u2_Pt u2_Mk u2_Lk u2_Ck u2_Jd u2_Ld u2_Pr) [(0, .ref (ad 45)), (1, .int u2_x1)])) : o_At p l e rm_Ck_isAnchor s m args below meth c Q o_cls D A 5 2 [] (o_cw ad ca u2_rt u2_Sj u2_T0 u2_T1 u2_Rd u2_Pg u2_Pt u2_Mk u2_Lk u2_Ck u2_Jd u2_Ld u2_Pr) [(0, .ref (ad 45)), (1, .int u2_x1), (2, .int z)] := by
  unfold m_Ck_isAnchor_b2 at h
  intro H locs ls hP hS hl
  have C0 := C
  obtain ⟨hx, hb, -, -, -, hown, hts, hK, -, -⟩ := C0
  refine lv_iload_n hx hb d_Ck_isAnchor_2 rfl (lv_at hl 2 rfl) ?_
  refine lv_aload_n hx hb d_Ck_isAnchor_3 rfl (lv_at hl 0 rfl) ?_
  refine o_get (v := .ref (ad 1)) C in_Ck hP 45 cw_45 rfl 0 (by decide) k_2_7 rfl rfl d_Ck_isAnchor_4 ?_
  refine lv_iload_n hx hb d_Ck_isAnchor_7 rfl (lv_at hl 1 rfl) ?_
  obtain ⟨q1, hq1, h⟩ := o_bd_some h
  refine o_V (st1 := [.int q1, .int z]) (w1 := (o_cw ad ca u2_rt u2_Sj u2_T0 u2_T1 u2_Rd u2_Pg u2_Pt u2_Mk u2_Lk u2_Ck u2_Jd u2_Ld u2_Pr)) hE.1 C (c_Tx_size_0 hE l u2_x1 u2_T0 u2_Sj u2_T1 u2_Rd u2_Pg u2_Pt u2_Mk u2_Lk u2_Ck u2_Jd u2_Ld u2_Pr u2_rt hq1) hP (hDD _ _ _ _ _ _ _ _ _ _ _ _ _) hS hl.1 rfl cw_1 k_4_71 k_3_215 k_3_216 k_1_2 k_3_217 hv_Tx_size rfl rfl ⟨(Nat.le_of_ble_eq_true rfl), (Nat.le_of_ble_eq_true rfl)⟩ rfl (Nat.le_of_ble_eq_true rfl) ⟨Nat.zero_le _, Nat.zero_le _⟩ rfl d_Ck_isAnchor_8 (fun H locs hP hS => ?_)
  refine lv_icmp_ge (tgt := 74) hx hb d_Ck_isAnchor_11 (by decide) (fun c1 => ?_) (fun c1 => ?_)
  · replace h := o_tt c1 h
    cases h
    exact h1 (Nat.succ_ne_zero 1) _ _ _ hP hS (lv_sub hl [0, 1] rfl)
  · replace h := o_ff c1 h
    refine lv_aload_n hx hb d_Ck_isAnchor_14 rfl (lv_at hl 0 rfl) ?_
    refine o_get (v := .ref (ad 1)) C in_Ck hP 45 cw_45 rfl 0 (by decide) k_2_7 rfl rfl d_Ck_isAnchor_15 ?_
    refine lv_iload_n hx hb d_Ck_isAnchor_18 rfl (lv_at hl 1 rfl) ?_
    refine lv_iload_n hx hb d_Ck_isAnchor_19 rfl (lv_at hl 2 rfl) ?_
    obtain ⟨q2, hq2, h⟩ := o_bd_some h
    refine o_V (st1 := [.int q2]) (w1 := (o_cw ad ca u2_rt u2_Sj u2_T0 u2_T1 u2_Rd u2_Pg u2_Pt u2_Mk u2_Lk u2_Ck u2_Jd u2_Ld u2_Pr)) hE.1 C (c_Tx_cell_0 hE l u2_x1 z u2_T0 u2_Sj u2_T1 u2_Rd u2_Pg u2_Pt u2_Mk u2_Lk u2_Ck u2_Jd u2_Ld u2_Pr u2_rt hq2) hP (hDD _ _ _ _ _ _ _ _ _ _ _ _ _) hS hl.1 rfl cw_1 k_5_76 k_4_117 k_4_118 k_1_2 k_4_119 hv_Tx_cell rfl rfl ⟨(Nat.le_of_ble_eq_true rfl), (Nat.le_of_ble_eq_true rfl)⟩ rfl (Nat.le_of_ble_eq_true rfl) ⟨Nat.zero_le _, Nat.zero_le _⟩ rfl d_Ck_isAnchor_20 (fun H locs hP hS => ?_)
    refine lv_istore_n (lv' := [(3, .int q2), (0, .ref (ad 45)), (1, .int u2_x1), (2, .int z)]) hx hb d_Ck_isAnchor_23 rfl hl (by decide) rfl (fun ls hl => ?_)
    refine lv_iload_n hx hb d_Ck_isAnchor_24 rfl (lv_at hl 3 rfl) ?_
    refine lv_if_le (tgt := 51) hx hb d_Ck_isAnchor_25 (by decide) (fun c2 => ?_) (fun c2 => ?_)
    · replace h := o_tt c2 h
      refine lv_iconst (v := (0:Int32)) hx hb d_Ck_isAnchor_51 (by decide) ?_
      exact w_Ck_isAnchor_j52 hE C hDD n u2_x1 u2_T0 u2_Sj u2_T1 u2_Rd u2_Pg u2_Pt u2_Mk u2_Lk u2_Ck u2_Jd u2_Ld u2_Pr u2_rt z q2 (0:Int32) h h0 h1 _ _ _ hP hS (lv_sub hl [1, 2, 3, 0] rfl)
    · replace h := o_ff c2 h
      refine lv_iload_n hx hb d_Ck_isAnchor_28 rfl (lv_at hl 0 rfl) ?_
      obtain ⟨q4, hq4, h⟩ := o_bd_some h
      refine o_SN (st1 := [.int q4]) (w1 := (o_cw ad ca u2_rt u2_Sj u2_T0 u2_T1 u2_Rd u2_Pg u2_Pt u2_Mk u2_Lk u2_Ck u2_Jd u2_Ld u2_Pr)) hE.1 C (c_SJ_isDigit hE l q2 u2_Sj u2_T0 u2_T1 u2_Rd u2_Pg u2_Pt u2_Mk u2_Lk u2_Ck u2_Jd u2_Ld u2_Pr u2_rt hq4) hP (hDD _ _ _ _ _ _ _ _ _ _ _ _ _) hS hl.1 (hE.2.1 _ _ _ C.2.2.2.2.2.2.2.2.2 _ nw_12) k_3_46 k_1_1 k_3_47 hs_SJ_isDigit rfl rfl ⟨(Nat.le_of_ble_eq_true rfl), (Nat.le_of_ble_eq_true rfl)⟩ rfl (Nat.le_of_ble_eq_true rfl) ⟨Nat.zero_le _, Nat.zero_le _⟩ rfl d_Ck_isAnchor_29 (fun H locs hP hS => ?_)
      refine lv_if_ne (tgt := 47) hx hb d_Ck_isAnchor_32 (by decide) (fun c5 => ?_) (fun c5 => ?_)
      · replace h := o_ff c5 h
        refine lv_iconst (v := (1:Int32)) hx hb d_Ck_isAnchor_47 (by decide) ?_
        refine lv_goto (tgt := 52) hx hb d_Ck_isAnchor_48 (by decide) ?_
        exact w_Ck_isAnchor_j52 hE C hDD n u2_x1 u2_T0 u2_Sj u2_T1 u2_Rd u2_Pg u2_Pt u2_Mk u2_Lk u2_Ck u2_Jd u2_Ld u2_Pr u2_rt z q2 (1:Int32) h h0 h1 _ _ _ hP hS (lv_sub hl [1, 2, 3, 0] rfl)
      · replace h := o_tt c5 h
        refine lv_iload_n hx hb d_Ck_isAnchor_35 rfl (lv_at hl 0 rfl) ?_
        refine lv_bipush (v := (45:Int32)) hx hb d_Ck_isAnchor_36 (by decide) ?_
        refine lv_icmp_eq (tgt := 47) hx hb d_Ck_isAnchor_38 (by decide) (fun c6 => ?_) (fun c6 => ?_)
        · replace h := o_tt c6 h
          refine lv_iconst (v := (1:Int32)) hx hb d_Ck_isAnchor_47 (by decide) ?_
          refine lv_goto (tgt := 52) hx hb d_Ck_isAnchor_48 (by decide) ?_
          exact w_Ck_isAnchor_j52 hE C hDD n u2_x1 u2_T0 u2_Sj u2_T1 u2_Rd u2_Pg u2_Pt u2_Mk u2_Lk u2_Ck u2_Jd u2_Ld u2_Pr u2_rt z q2 (1:Int32) h h0 h1 _ _ _ hP hS (lv_sub hl [1, 2, 3, 0] rfl)
        · replace h := o_ff c6 h
          refine lv_iload_n hx hb d_Ck_isAnchor_41 rfl (lv_at hl 0 rfl) ?_
          refine lv_bipush (v := (46:Int32)) hx hb d_Ck_isAnchor_42 (by decide) ?_
          refine lv_icmp_ne (tgt := 51) hx hb d_Ck_isAnchor_44 (by decide) (fun c7 => ?_) (fun c7 => ?_)
          · replace h := o_ff c7 h
            refine lv_iconst (v := (0:Int32)) hx hb d_Ck_isAnchor_51 (by decide) ?_
            exact w_Ck_isAnchor_j52 hE C hDD n u2_x1 u2_T0 u2_Sj u2_T1 u2_Rd u2_Pg u2_Pt u2_Mk u2_Lk u2_Ck u2_Jd u2_Ld u2_Pr u2_rt z q2 (0:Int32) h h0 h1 _ _ _ hP hS (lv_sub hl [1, 2, 3, 0] rfl)
          · replace h := o_tt c7 h
            refine lv_iconst (v := (1:Int32)) hx hb d_Ck_isAnchor_47 (by decide) ?_
            refine lv_goto (tgt := 52) hx hb d_Ck_isAnchor_48 (by decide) ?_
            exact w_Ck_isAnchor_j52 hE C hDD n u2_x1 u2_T0 u2_Sj u2_T1 u2_Rd u2_Pg u2_Pt u2_Mk u2_Lk u2_Ck u2_Jd u2_Ld u2_Pr u2_rt z q2 (1:Int32) h h0 h1 _ _ _ hP hS (lv_sub hl [1, 2, 3, 0] rfl)
set_option maxHeartbeats 4000000 in
set_option maxRecDepth 100000 in
theorem c_Ck_isAnchor {E : (Nat → Prop) → State → Heap → Prop} {D : va_G} {ad kd sd vd xd : Nat → Nat} {ca : Nat → ClassId} (hE : o_EK E kd sd vd xd) (l : Launch) (n : Nat) (x1 : Int32) (T0 : STx) (Sj : SSJ) (T1 : STx) (Rd : SRd) (Pg : SPg) (Pt : SPt) (Mk : SMk) (Lk : SLk) (Ck : SCk) (Jd : SJd) (Ld : SLd) (Pr : SPr) (rt : Nat) {r : Int32} (h : m_Ck_isAnchor n x1 T0 = some r) : o_Cn E l D o_cls (o_tys ca) y_Ck_isAnchor cc_Ck_isAnchor rm_Ck_isAnchor [.ref (ad 45), .int x1] (o_cw ad ca rt Sj T0 T1 Rd Pg Pt Mk Lk Ck Jd Ld Pr) (o_cw ad ca rt Sj T0 T1 Rd Pg Pt Mk Lk Ck Jd Ld Pr) (some (.int r)) := by
  refine o_Cn_of (by decide) (Nat.le_of_ble_eq_true rfl) ?_
  intro p e s m below meth c A ls C hD hP hS hl
  have hDD : ∀ (rt : Nat) (Sj : SSJ) (T0 : STx) (T1 : STx) (Rd : SRd) (Pg : SPg) (Pt : SPt) (Mk : SMk) (Lk : SLk) (Ck : SCk) (Jd : SJd) (Ld : SLd) (Pr : SPr), va_D A (o_cw ad ca rt Sj T0 T1 Rd Pg Pt Mk Lk Ck Jd Ld Pr) := fun _ _ _ _ _ _ _ _ _ _ _ _ _ => o_D_map hD rfl
  have hl : lv_has ls 5 [(0, .ref (ad 45)), (1, .int x1)] := hl
  unfold m_Ck_isAnchor at h
  have C0 := C
  obtain ⟨hx, hb, -, -, -, hown, hts, hK, -, -⟩ := C0
  refine lv_iconst (v := (0:Int32)) hx hb d_Ck_isAnchor_0 (by decide) ?_
  refine lv_istore_n (lv' := [(2, .int (0:Int32)), (0, .ref (ad 45)), (1, .int x1)]) hx hb d_Ck_isAnchor_1 rfl hl (by decide) rfl (fun ls hl => ?_)
  obtain ⟨q5, hq5, h⟩ := o_bd_some h
  refine o_sim2 (AH := fun zz => o_At p l e rm_Ck_isAnchor s m _ below meth c _ o_cls D A 5 2 [] (o_cw ad ca rt Sj T0 T1 Rd Pg Pt Mk Lk Ck Jd Ld Pr) [(0, .ref (ad 45)), (1, .int x1), (2, .int zz)]) (AX := fun qq => if qq.1 = 1 then o_At p l e rm_Ck_isAnchor s m _ below meth c _ o_cls D A 5 66 [] (o_cw ad ca rt Sj T0 T1 Rd Pg Pt Mk Lk Ck Jd Ld Pr) [] else o_At p l e rm_Ck_isAnchor s m _ below meth c _ o_cls D A 5 74 [] (o_cw ad ca rt Sj T0 T1 Rd Pg Pt Mk Lk Ck Jd Ld Pr) [(0, .ref (ad 45)), (1, .int x1)]) (fun zz qq h h0 h1 => w_Ck_isAnchor_b2 hE C hDD n x1 T0 Sj T1 Rd Pg Pt Mk Lk Ck Jd Ld Pr rt zz qq h h0 h1) n _ q5 hq5 ?_ _ _ _ hP hS (lv_sub hl [1, 2, 0] rfl)
  by_cases c9 : q5.1 = 1
  · replace h := o_tt c9 h
    refine o_ip c9 ?_
    intro H locs ls hP hS hl
    refine lv_iconst (v := (0:Int32)) hx hb d_Ck_isAnchor_66 (by decide) ?_
    cases h
    exact o_rz (v := (0:Int32)) C o_nar0 hP hS d_Ck_isAnchor_67
  replace h := o_ff c9 h
  refine o_in_ c9 ?_
  intro H locs ls hP hS hl
  refine lv_aload_n hx hb d_Ck_isAnchor_74 rfl (lv_at hl 0 rfl) ?_
  refine o_get (v := .ref (ad 1)) C in_Ck hP 45 cw_45 rfl 0 (by decide) k_2_7 rfl rfl d_Ck_isAnchor_75 ?_
  refine lv_iload_n hx hb d_Ck_isAnchor_78 rfl (lv_at hl 1 rfl) ?_
  obtain ⟨q6, hq6, h⟩ := o_bd_some h
  refine o_V (st1 := [.int q6]) (w1 := (o_cw ad ca rt Sj T0 T1 Rd Pg Pt Mk Lk Ck Jd Ld Pr)) hE.1 C (c_Tx_size_0 hE l x1 T0 Sj T1 Rd Pg Pt Mk Lk Ck Jd Ld Pr rt hq6) hP (hDD _ _ _ _ _ _ _ _ _ _ _ _ _) hS hl.1 rfl cw_1 k_4_71 k_3_215 k_3_216 k_1_2 k_3_217 hv_Tx_size rfl rfl ⟨(Nat.le_of_ble_eq_true rfl), (Nat.le_of_ble_eq_true rfl)⟩ rfl (Nat.le_of_ble_eq_true rfl) ⟨Nat.zero_le _, Nat.zero_le _⟩ rfl d_Ck_isAnchor_79 (fun H locs hP hS => ?_)
  refine lv_if_le (tgt := 89) hx hb d_Ck_isAnchor_82 (by decide) (fun c8 => ?_) (fun c8 => ?_)
  · replace h := o_tt c8 h
    refine lv_iconst (v := (0:Int32)) hx hb d_Ck_isAnchor_89 (by decide) ?_
    cases h
    exact o_rz (v := (0:Int32)) C o_nar0 hP hS d_Ck_isAnchor_90
  · replace h := o_ff c8 h
    refine lv_iconst (v := (1:Int32)) hx hb d_Ck_isAnchor_85 (by decide) ?_
    refine lv_goto (tgt := 90) hx hb d_Ck_isAnchor_86 (by decide) ?_
    cases h
    exact o_rz (v := (1:Int32)) C o_nar1 hP hS d_Ck_isAnchor_90
set_option maxHeartbeats 4000000 in
set_option maxRecDepth 100000 in
theorem c_Ck_isType {E : (Nat → Prop) → State → Heap → Prop} {D : va_G} {ad kd sd vd xd : Nat → Nat} {ca : Nat → ClassId} (hE : o_EK E kd sd vd xd) (l : Launch) (n : Nat) (x1 : Int32) (T0 : STx) (Sj : SSJ) (T1 : STx) (Rd : SRd) (Pg : SPg) (Pt : SPt) (Mk : SMk) (Lk : SLk) (Ck : SCk) (Jd : SJd) (Ld : SLd) (Pr : SPr) (rt : Nat) {r : Int32} (h : m_Ck_isType n x1 T0 = some r) : o_Cn E l D o_cls (o_tys ca) y_Ck_isType cc_Ck_isType rm_Ck_isType [.ref (ad 45), .int x1] (o_cw ad ca rt Sj T0 T1 Rd Pg Pt Mk Lk Ck Jd Ld Pr) (o_cw ad ca rt Sj T0 T1 Rd Pg Pt Mk Lk Ck Jd Ld Pr) (some (.int r)) := by
  refine o_Cn_of (by decide) (Nat.le_of_ble_eq_true rfl) ?_
  intro p e s m below meth c A ls C hD hP hS hl
  have hDD : ∀ (rt : Nat) (Sj : SSJ) (T0 : STx) (T1 : STx) (Rd : SRd) (Pg : SPg) (Pt : SPt) (Mk : SMk) (Lk : SLk) (Ck : SCk) (Jd : SJd) (Ld : SLd) (Pr : SPr), va_D A (o_cw ad ca rt Sj T0 T1 Rd Pg Pt Mk Lk Ck Jd Ld Pr) := fun _ _ _ _ _ _ _ _ _ _ _ _ _ => o_D_map hD rfl
  have hl : lv_has ls 2 [(0, .ref (ad 45)), (1, .int x1)] := hl
  unfold m_Ck_isType at h
  have C0 := C
  obtain ⟨hx, hb, -, -, -, hown, hts, hK, -, -⟩ := C0
  refine lv_aload_n hx hb d_Ck_isType_0 rfl (lv_at hl 0 rfl) ?_
  refine o_get (v := .ref (ad 1)) C in_Ck hP 45 cw_45 rfl 0 (by decide) k_2_7 rfl rfl d_Ck_isType_1 ?_
  refine lv_iload_n hx hb d_Ck_isType_4 rfl (lv_at hl 1 rfl) ?_
  obtain ⟨q1, hq1, h⟩ := o_bd_some h
  refine o_V (st1 := [.int q1]) (w1 := (o_cw ad ca rt Sj T0 T1 Rd Pg Pt Mk Lk Ck Jd Ld Pr)) hE.1 C (c_Tx_kind_0 hE l x1 T0 Sj T1 Rd Pg Pt Mk Lk Ck Jd Ld Pr rt hq1) hP (hDD _ _ _ _ _ _ _ _ _ _ _ _ _) hS hl.1 rfl cw_1 k_4_96 k_4_50 k_4_51 k_1_2 k_4_52 hv_Tx_kind rfl rfl ⟨(Nat.le_of_ble_eq_true rfl), (Nat.le_of_ble_eq_true rfl)⟩ rfl (Nat.le_of_ble_eq_true rfl) ⟨Nat.zero_le _, Nat.zero_le _⟩ rfl d_Ck_isType_5 (fun H locs hP hS => ?_)
  refine lv_iconst (v := (4:Int32)) hx hb d_Ck_isType_8 (by decide) ?_
  refine lv_icmp_ne (tgt := 107) hx hb d_Ck_isType_9 (by decide) (fun c1 => ?_) (fun c1 => ?_)
  · replace h := o_ff c1 h
    refine lv_iconst (v := (0:Int32)) hx hb d_Ck_isType_107 (by decide) ?_
    cases h
    exact o_rz (v := (0:Int32)) C o_nar0 hP hS d_Ck_isType_108
  · replace h := o_tt c1 h
    refine lv_aload_n hx hb d_Ck_isType_12 rfl (lv_at hl 0 rfl) ?_
    refine o_get (v := .ref (ad 1)) C in_Ck hP 45 cw_45 rfl 0 (by decide) k_2_7 rfl rfl d_Ck_isType_13 ?_
    refine lv_iload_n hx hb d_Ck_isType_16 rfl (lv_at hl 1 rfl) ?_
    refine va_ldcS (q := sd 2) hx hb hown (hE.2.2.2.2.2.1 _ _ _ C.2.2.2.2.2.2.2.2.2 ("SchemaJudge$Checker", 168, "null", 2) (List.mem_of_getElem? (i := 11) rfl)) d_Ck_isType_17 ?_
    obtain ⟨q2, hq2, h⟩ := o_bd_some h
    refine o_V (st1 := [.int q2]) (w1 := (o_cw ad ca rt Sj T0 T1 Rd Pg Pt Mk Lk Ck Jd Ld Pr)) hE.1 C (c_Tx_spells_0 hE l n x1 2 rfl T0 Sj T1 Rd Pg Pt Mk Lk Ck Jd Ld Pr rt hq2) hP (hDD _ _ _ _ _ _ _ _ _ _ _ _ _) hS hl.1 rfl cw_1 k_5_94 k_4_82 k_4_83 k_1_2 k_4_84 hv_Tx_spells rfl rfl ⟨(Nat.le_of_ble_eq_true rfl), (Nat.le_of_ble_eq_true rfl)⟩ rfl (Nat.le_of_ble_eq_true rfl) ⟨Nat.zero_le _, Nat.zero_le _⟩ rfl d_Ck_isType_19 (fun H locs hP hS => ?_)
    refine lv_if_ne (tgt := 103) hx hb d_Ck_isType_22 (by decide) (fun c2 => ?_) (fun c2 => ?_)
    · replace h := o_ff c2 h
      refine lv_iconst (v := (1:Int32)) hx hb d_Ck_isType_103 (by decide) ?_
      refine lv_goto (tgt := 108) hx hb d_Ck_isType_104 (by decide) ?_
      cases h
      exact o_rz (v := (1:Int32)) C o_nar1 hP hS d_Ck_isType_108
    · replace h := o_tt c2 h
      refine lv_aload_n hx hb d_Ck_isType_25 rfl (lv_at hl 0 rfl) ?_
      refine o_get (v := .ref (ad 1)) C in_Ck hP 45 cw_45 rfl 0 (by decide) k_2_7 rfl rfl d_Ck_isType_26 ?_
      refine lv_iload_n hx hb d_Ck_isType_29 rfl (lv_at hl 1 rfl) ?_
      refine va_ldcS (q := sd 11) hx hb hown (hE.2.2.2.2.2.1 _ _ _ C.2.2.2.2.2.2.2.2.2 ("SchemaJudge$Checker", 174, "boolean", 11) (List.mem_of_getElem? (i := 12) rfl)) d_Ck_isType_30 ?_
      obtain ⟨q3, hq3, h⟩ := o_bd_some h
      refine o_V (st1 := [.int q3]) (w1 := (o_cw ad ca rt Sj T0 T1 Rd Pg Pt Mk Lk Ck Jd Ld Pr)) hE.1 C (c_Tx_spells_0 hE l n x1 11 rfl T0 Sj T1 Rd Pg Pt Mk Lk Ck Jd Ld Pr rt hq3) hP (hDD _ _ _ _ _ _ _ _ _ _ _ _ _) hS hl.1 rfl cw_1 k_5_94 k_4_82 k_4_83 k_1_2 k_4_84 hv_Tx_spells rfl rfl ⟨(Nat.le_of_ble_eq_true rfl), (Nat.le_of_ble_eq_true rfl)⟩ rfl (Nat.le_of_ble_eq_true rfl) ⟨Nat.zero_le _, Nat.zero_le _⟩ rfl d_Ck_isType_32 (fun H locs hP hS => ?_)
      refine lv_if_ne (tgt := 103) hx hb d_Ck_isType_35 (by decide) (fun c3 => ?_) (fun c3 => ?_)
      · replace h := o_ff c3 h
        refine lv_iconst (v := (1:Int32)) hx hb d_Ck_isType_103 (by decide) ?_
        refine lv_goto (tgt := 108) hx hb d_Ck_isType_104 (by decide) ?_
        cases h
        exact o_rz (v := (1:Int32)) C o_nar1 hP hS d_Ck_isType_108
      · replace h := o_tt c3 h
        refine lv_aload_n hx hb d_Ck_isType_38 rfl (lv_at hl 0 rfl) ?_
        refine o_get (v := .ref (ad 1)) C in_Ck hP 45 cw_45 rfl 0 (by decide) k_2_7 rfl rfl d_Ck_isType_39 ?_
        refine lv_iload_n hx hb d_Ck_isType_42 rfl (lv_at hl 1 rfl) ?_
        refine va_ldcS (q := sd 12) hx hb hown (hE.2.2.2.2.2.1 _ _ _ C.2.2.2.2.2.2.2.2.2 ("SchemaJudge$Checker", 176, "object", 12) (List.mem_of_getElem? (i := 13) rfl)) d_Ck_isType_43 ?_
        obtain ⟨q4, hq4, h⟩ := o_bd_some h
        refine o_V (st1 := [.int q4]) (w1 := (o_cw ad ca rt Sj T0 T1 Rd Pg Pt Mk Lk Ck Jd Ld Pr)) hE.1 C (c_Tx_spells_0 hE l n x1 12 rfl T0 Sj T1 Rd Pg Pt Mk Lk Ck Jd Ld Pr rt hq4) hP (hDD _ _ _ _ _ _ _ _ _ _ _ _ _) hS hl.1 rfl cw_1 k_5_94 k_4_82 k_4_83 k_1_2 k_4_84 hv_Tx_spells rfl rfl ⟨(Nat.le_of_ble_eq_true rfl), (Nat.le_of_ble_eq_true rfl)⟩ rfl (Nat.le_of_ble_eq_true rfl) ⟨Nat.zero_le _, Nat.zero_le _⟩ rfl d_Ck_isType_45 (fun H locs hP hS => ?_)
        refine lv_if_ne (tgt := 103) hx hb d_Ck_isType_48 (by decide) (fun c4 => ?_) (fun c4 => ?_)
        · replace h := o_ff c4 h
          refine lv_iconst (v := (1:Int32)) hx hb d_Ck_isType_103 (by decide) ?_
          refine lv_goto (tgt := 108) hx hb d_Ck_isType_104 (by decide) ?_
          cases h
          exact o_rz (v := (1:Int32)) C o_nar1 hP hS d_Ck_isType_108
        · replace h := o_tt c4 h
          refine lv_aload_n hx hb d_Ck_isType_51 rfl (lv_at hl 0 rfl) ?_
          refine o_get (v := .ref (ad 1)) C in_Ck hP 45 cw_45 rfl 0 (by decide) k_2_7 rfl rfl d_Ck_isType_52 ?_
          refine lv_iload_n hx hb d_Ck_isType_55 rfl (lv_at hl 1 rfl) ?_
          refine va_ldcS (q := sd 13) hx hb hown (hE.2.2.2.2.2.1 _ _ _ C.2.2.2.2.2.2.2.2.2 ("SchemaJudge$Checker", 178, "array", 13) (List.mem_of_getElem? (i := 14) rfl)) d_Ck_isType_56 ?_
          obtain ⟨q5, hq5, h⟩ := o_bd_some h
          refine o_V (st1 := [.int q5]) (w1 := (o_cw ad ca rt Sj T0 T1 Rd Pg Pt Mk Lk Ck Jd Ld Pr)) hE.1 C (c_Tx_spells_0 hE l n x1 13 rfl T0 Sj T1 Rd Pg Pt Mk Lk Ck Jd Ld Pr rt hq5) hP (hDD _ _ _ _ _ _ _ _ _ _ _ _ _) hS hl.1 rfl cw_1 k_5_94 k_4_82 k_4_83 k_1_2 k_4_84 hv_Tx_spells rfl rfl ⟨(Nat.le_of_ble_eq_true rfl), (Nat.le_of_ble_eq_true rfl)⟩ rfl (Nat.le_of_ble_eq_true rfl) ⟨Nat.zero_le _, Nat.zero_le _⟩ rfl d_Ck_isType_58 (fun H locs hP hS => ?_)
          refine lv_if_ne (tgt := 103) hx hb d_Ck_isType_61 (by decide) (fun c5 => ?_) (fun c5 => ?_)
          · replace h := o_ff c5 h
            refine lv_iconst (v := (1:Int32)) hx hb d_Ck_isType_103 (by decide) ?_
            refine lv_goto (tgt := 108) hx hb d_Ck_isType_104 (by decide) ?_
            cases h
            exact o_rz (v := (1:Int32)) C o_nar1 hP hS d_Ck_isType_108
          · replace h := o_tt c5 h
            refine lv_aload_n hx hb d_Ck_isType_64 rfl (lv_at hl 0 rfl) ?_
            refine o_get (v := .ref (ad 1)) C in_Ck hP 45 cw_45 rfl 0 (by decide) k_2_7 rfl rfl d_Ck_isType_65 ?_
            refine lv_iload_n hx hb d_Ck_isType_68 rfl (lv_at hl 1 rfl) ?_
            refine va_ldcS (q := sd 14) hx hb hown (hE.2.2.2.2.2.1 _ _ _ C.2.2.2.2.2.2.2.2.2 ("SchemaJudge$Checker", 180, "number", 14) (List.mem_of_getElem? (i := 15) rfl)) d_Ck_isType_69 ?_
            obtain ⟨q6, hq6, h⟩ := o_bd_some h
            refine o_V (st1 := [.int q6]) (w1 := (o_cw ad ca rt Sj T0 T1 Rd Pg Pt Mk Lk Ck Jd Ld Pr)) hE.1 C (c_Tx_spells_0 hE l n x1 14 rfl T0 Sj T1 Rd Pg Pt Mk Lk Ck Jd Ld Pr rt hq6) hP (hDD _ _ _ _ _ _ _ _ _ _ _ _ _) hS hl.1 rfl cw_1 k_5_94 k_4_82 k_4_83 k_1_2 k_4_84 hv_Tx_spells rfl rfl ⟨(Nat.le_of_ble_eq_true rfl), (Nat.le_of_ble_eq_true rfl)⟩ rfl (Nat.le_of_ble_eq_true rfl) ⟨Nat.zero_le _, Nat.zero_le _⟩ rfl d_Ck_isType_71 (fun H locs hP hS => ?_)
            refine lv_if_ne (tgt := 103) hx hb d_Ck_isType_74 (by decide) (fun c6 => ?_) (fun c6 => ?_)
            · replace h := o_ff c6 h
              refine lv_iconst (v := (1:Int32)) hx hb d_Ck_isType_103 (by decide) ?_
              refine lv_goto (tgt := 108) hx hb d_Ck_isType_104 (by decide) ?_
              cases h
              exact o_rz (v := (1:Int32)) C o_nar1 hP hS d_Ck_isType_108
            · replace h := o_tt c6 h
              refine lv_aload_n hx hb d_Ck_isType_77 rfl (lv_at hl 0 rfl) ?_
              refine o_get (v := .ref (ad 1)) C in_Ck hP 45 cw_45 rfl 0 (by decide) k_2_7 rfl rfl d_Ck_isType_78 ?_
              refine lv_iload_n hx hb d_Ck_isType_81 rfl (lv_at hl 1 rfl) ?_
              refine va_ldcS (q := sd 15) hx hb hown (hE.2.2.2.2.2.1 _ _ _ C.2.2.2.2.2.2.2.2.2 ("SchemaJudge$Checker", 182, "string", 15) (List.mem_of_getElem? (i := 16) rfl)) d_Ck_isType_82 ?_
              obtain ⟨q7, hq7, h⟩ := o_bd_some h
              refine o_V (st1 := [.int q7]) (w1 := (o_cw ad ca rt Sj T0 T1 Rd Pg Pt Mk Lk Ck Jd Ld Pr)) hE.1 C (c_Tx_spells_0 hE l n x1 15 rfl T0 Sj T1 Rd Pg Pt Mk Lk Ck Jd Ld Pr rt hq7) hP (hDD _ _ _ _ _ _ _ _ _ _ _ _ _) hS hl.1 rfl cw_1 k_5_94 k_4_82 k_4_83 k_1_2 k_4_84 hv_Tx_spells rfl rfl ⟨(Nat.le_of_ble_eq_true rfl), (Nat.le_of_ble_eq_true rfl)⟩ rfl (Nat.le_of_ble_eq_true rfl) ⟨Nat.zero_le _, Nat.zero_le _⟩ rfl d_Ck_isType_84 (fun H locs hP hS => ?_)
              refine lv_if_ne (tgt := 103) hx hb d_Ck_isType_87 (by decide) (fun c7 => ?_) (fun c7 => ?_)
              · replace h := o_ff c7 h
                refine lv_iconst (v := (1:Int32)) hx hb d_Ck_isType_103 (by decide) ?_
                refine lv_goto (tgt := 108) hx hb d_Ck_isType_104 (by decide) ?_
                cases h
                exact o_rz (v := (1:Int32)) C o_nar1 hP hS d_Ck_isType_108
              · replace h := o_tt c7 h
                refine lv_aload_n hx hb d_Ck_isType_90 rfl (lv_at hl 0 rfl) ?_
                refine o_get (v := .ref (ad 1)) C in_Ck hP 45 cw_45 rfl 0 (by decide) k_2_7 rfl rfl d_Ck_isType_91 ?_
                refine lv_iload_n hx hb d_Ck_isType_94 rfl (lv_at hl 1 rfl) ?_
                refine va_ldcS (q := sd 16) hx hb hown (hE.2.2.2.2.2.1 _ _ _ C.2.2.2.2.2.2.2.2.2 ("SchemaJudge$Checker", 184, "integer", 16) (List.mem_of_getElem? (i := 17) rfl)) d_Ck_isType_95 ?_
                obtain ⟨q8, hq8, h⟩ := o_bd_some h
                refine o_V (st1 := [.int q8]) (w1 := (o_cw ad ca rt Sj T0 T1 Rd Pg Pt Mk Lk Ck Jd Ld Pr)) hE.1 C (c_Tx_spells_0 hE l n x1 16 rfl T0 Sj T1 Rd Pg Pt Mk Lk Ck Jd Ld Pr rt hq8) hP (hDD _ _ _ _ _ _ _ _ _ _ _ _ _) hS hl.1 rfl cw_1 k_5_94 k_4_82 k_4_83 k_1_2 k_4_84 hv_Tx_spells rfl rfl ⟨(Nat.le_of_ble_eq_true rfl), (Nat.le_of_ble_eq_true rfl)⟩ rfl (Nat.le_of_ble_eq_true rfl) ⟨Nat.zero_le _, Nat.zero_le _⟩ rfl d_Ck_isType_97 (fun H locs hP hS => ?_)
                refine lv_if_eq (tgt := 107) hx hb d_Ck_isType_100 (by decide) (fun c8 => ?_) (fun c8 => ?_)
                · replace h := o_tt c8 h
                  refine lv_iconst (v := (0:Int32)) hx hb d_Ck_isType_107 (by decide) ?_
                  cases h
                  exact o_rz (v := (0:Int32)) C o_nar0 hP hS d_Ck_isType_108
                · replace h := o_ff c8 h
                  refine lv_iconst (v := (1:Int32)) hx hb d_Ck_isType_103 (by decide) ?_
                  refine lv_goto (tgt := 108) hx hb d_Ck_isType_104 (by decide) ?_
                  cases h
                  exact o_rz (v := (1:Int32)) C o_nar1 hP hS d_Ck_isType_108
set_option maxHeartbeats 4000000 in
set_option maxRecDepth 100000 in
theorem c_Tx_slot_0 {E : (Nat → Prop) → State → Heap → Prop} {D : va_G} {ad kd sd vd xd : Nat → Nat} {ca : Nat → ClassId} (hE : o_EK E kd sd vd xd) (l : Launch) (x1 : Int32) (a0 : STx) (Sj : SSJ) (T1 : STx) (Rd : SRd) (Pg : SPg) (Pt : SPt) (Mk : SMk) (Lk : SLk) (Ck : SCk) (Jd : SJd) (Ld : SLd) (Pr : SPr) (rt : Nat) {r : Int32} (h : m_Tx_slot x1 a0 = some r) : o_Cn E l D o_cls (o_tys ca) y_Tx_slot cc_Tx_slot rm_Tx_slot [.ref (ad 1), .int x1] (o_cw ad ca rt Sj a0 T1 Rd Pg Pt Mk Lk Ck Jd Ld Pr) (o_cw ad ca rt Sj a0 T1 Rd Pg Pt Mk Lk Ck Jd Ld Pr) (some (.int r)) := by
  refine o_Cn_of (by decide) (Nat.le_of_ble_eq_true rfl) ?_
  intro p e s m below meth c A ls C hD hP hS hl
  have hDD : ∀ (rt : Nat) (Sj : SSJ) (T0 : STx) (T1 : STx) (Rd : SRd) (Pg : SPg) (Pt : SPt) (Mk : SMk) (Lk : SLk) (Ck : SCk) (Jd : SJd) (Ld : SLd) (Pr : SPr), va_D A (o_cw ad ca rt Sj T0 T1 Rd Pg Pt Mk Lk Ck Jd Ld Pr) := fun _ _ _ _ _ _ _ _ _ _ _ _ _ => o_D_map hD rfl
  have hl : lv_has ls 2 [(0, .ref (ad 1)), (1, .int x1)] := hl
  unfold m_Tx_slot at h
  have C0 := C
  obtain ⟨hx, hb, -, -, -, hown, hts, hK, -, -⟩ := C0
  refine lv_iload_n hx hb d_Tx_slot_0 rfl (lv_at hl 1 rfl) ?_
  refine lv_if_lt (tgt := 21) hx hb d_Tx_slot_1 (by decide) (fun c1 => ?_) (fun c1 => ?_)
  · replace h := o_tt c1 h
    refine lv_iconst (v := (0:Int32)) hx hb d_Tx_slot_21 (by decide) ?_
    cases h
    exact o_ri (v := (0:Int32)) C hP hS d_Tx_slot_22
  · replace h := o_ff c1 h
    refine lv_iload_n hx hb d_Tx_slot_4 rfl (lv_at hl 1 rfl) ?_
    refine lv_aload_n hx hb d_Tx_slot_5 rfl (lv_at hl 0 rfl) ?_
    refine o_get (v := .int (Tx_total a0)) C in_Tx hP 1 cw_1 rfl 10 (by decide) k_1_56 rfl rfl d_Tx_slot_6 ?_
    refine lv_icmp_ge (tgt := 21) hx hb d_Tx_slot_9 (by decide) (fun c2 => ?_) (fun c2 => ?_)
    · replace h := o_tt c2 h
      refine lv_iconst (v := (0:Int32)) hx hb d_Tx_slot_21 (by decide) ?_
      cases h
      exact o_ri (v := (0:Int32)) C hP hS d_Tx_slot_22
    · replace h := o_ff c2 h
      refine lv_aload_n hx hb d_Tx_slot_12 rfl (lv_at hl 0 rfl) ?_
      refine o_get (v := .ref (ad 9)) C in_Tx hP 1 cw_1 rfl 7 (by decide) k_1_53 rfl rfl d_Tx_slot_13 ?_
      refine lv_iload_n hx hb d_Tx_slot_16 rfl (lv_at hl 1 rfl) ?_
      obtain ⟨g3, h⟩ := o_gd_some h
      refine o_iald (f := (Tx_slots a0)) C hP 9 7 cw_9 rfl g3 d_Tx_slot_17 ?_
      refine lv_goto (tgt := 22) hx hb d_Tx_slot_18 (by decide) ?_
      cases h
      exact o_ri (v := ((Tx_slots a0) x1.toNatClampNeg)) C hP hS d_Tx_slot_22
set_option maxHeartbeats 4000000 in
set_option maxRecDepth 100000 in
theorem w_Tx_sameString_b102_00 {E : (Nat → Prop) → State → Heap → Prop} {p : Program} {l : Launch} {e : Env} {s : State} {m : MethodId} {args : Array Value} {below : List Frame} {meth : Method} {c : Code} {D : va_G} {ad kd sd vd xd : Nat → Nat} {ca : Nat → ClassId} {A : Nat → Prop} {Q : State → Prop} (hE : o_EK E kd sd vd xd) (C : o_Cx E p s m args meth c D o_cls (o_tys ca) "SchemaJudge$Text" b_Tx_sameString (some .boolean) 8 cc_Tx_sameString A) (hDD : ∀ (rt : Nat) (Sj : SSJ) (T0 : STx) (T1 : STx) (Rd : SRd) (Pg : SPg) (Pt : SPt) (Mk : SMk) (Lk : SLk) (Ck : SCk) (Jd : SJd) (Ld : SLd) (Pr : SPr), va_D A (o_cw ad ca rt Sj T0 T1 Rd Pg Pt Mk Lk Ck Jd Ld Pr)) (n : Nat) (u102_x4 : Int32) (u102_x5 : Int32) (u102_x6 : Int32) (u102_a0 : STx) (u102_Sj : SSJ) (u102_T1 : STx) (u102_Rd : SRd) (u102_Pg : SPg) (u102_Pt : SPt) (u102_Mk : SMk) (u102_Lk : SLk) (u102_Ck : SCk) (u102_Jd : SJd) (u102_Ld : SLd) (u102_Pr : SPr) (u102_rt : Nat) (z : Int32) (q : Nat × Int32) (h : m_Tx_sameString_b102 n u102_x4 u102_x5 u102_x6 u102_a0 u102_a0 z = some q) (h0 : q.1 = 0 → o_At p l e rm_Tx_sameString s m args below meth c Q o_cls D A 8 102 [] (o_cw ad ca u102_rt u102_Sj u102_a0 u102_T1 u102_Rd u102_Pg u102_Pt u102_Mk u102_Lk u102_Ck u102_Jd u102_Ld u102_Pr) [(0, .ref (ad 1)), (2, .ref (ad 1)), (4, .int u102_x4), (5, .int u102_x5), (6, .int u102_x6), (7, .int q.2)]) (h1 : q.1 ≠ 0 → (if q.1 = 1 then o_At p l e rm_Tx_sameString s m args below meth c Q o_cls D A 8 132 [] (o_cw ad ca u102_rt u102_Sj u102_a0 u102_T1 u102_Rd u102_Pg u102_Pt u102_Mk u102_Lk u102_Ck u102_Jd u102_Ld u102_Pr) [] else o_At p l e rm_Tx_sameString s m args below meth c Q o_cls D A 8 140 [] (o_cw ad ca u102_rt u102_Sj u102_a0 u102_T1 u102_Rd u102_Pg u102_Pt u102_Mk u102_Lk u102_Ck u102_Jd u102_Ld u102_Pr) [])) : o_At p l e rm_Tx_sameString s m args below meth c Q o_cls D A 8 102 [] (o_cw ad ca u102_rt u102_Sj u102_a0 u102_T1 u102_Rd u102_Pg u102_Pt u102_Mk u102_Lk u102_Ck u102_Jd u102_Ld u102_Pr) [(0, .ref (ad 1)), (2, .ref (ad 1)), (4, .int u102_x4), (5, .int u102_x5), (6, .int u102_x6), (7, .int z)] := by
  unfold m_Tx_sameString_b102 at h
  intro H locs ls hP hS hl
  have C0 := C
  obtain ⟨hx, hb, -, -, -, hown, hts, hK, -, -⟩ := C0
  refine lv_iload hx hb d_Tx_sameString_102 (lv_at hl 5 rfl) ?_
  refine lv_iload hx hb d_Tx_sameString_104 (lv_at hl 4 rfl) ?_
  refine lv_icmp_ge (tgt := 140) hx hb d_Tx_sameString_106 (by decide) (fun c15 => ?_) (fun c15 => ?_)
  · replace h := o_tt c15 h
    cases h
    exact h1 (Nat.succ_ne_zero 1) _ _ _ hP hS (lv_sub hl [] rfl)
  · replace h := o_ff c15 h
    refine lv_aload_n hx hb d_Tx_sameString_109 rfl (lv_at hl 0 rfl) ?_
    refine o_get (v := .ref (ad 11)) C in_Tx hP 1 cw_1 rfl 9 (by decide) k_1_55 rfl rfl d_Tx_sameString_110 ?_
    refine lv_iload hx hb d_Tx_sameString_113 (lv_at hl 2 rfl) ?_
    refine lv_iload hx hb d_Tx_sameString_115 (lv_at hl 5 rfl) ?_
    refine lv_iadd hx hb d_Tx_sameString_117 ?_
    obtain ⟨g16, h⟩ := o_gd_some h
    refine o_iald (f := (Tx_cells u102_a0)) C hP 11 9 cw_11 rfl g16 d_Tx_sameString_118 ?_
    refine lv_aload_n hx hb d_Tx_sameString_119 rfl (lv_at hl 1 rfl) ?_
    refine o_get (v := .ref (ad 11)) C in_Tx hP 1 cw_1 rfl 9 (by decide) k_1_55 rfl rfl d_Tx_sameString_120 ?_
    refine lv_iload hx hb d_Tx_sameString_123 (lv_at hl 3 rfl) ?_
    refine lv_iload hx hb d_Tx_sameString_125 (lv_at hl 5 rfl) ?_
    refine lv_iadd hx hb d_Tx_sameString_127 ?_
    obtain ⟨g17, h⟩ := o_gd_some h
    refine o_iald (f := (Tx_cells u102_a0)) C hP 11 9 cw_11 rfl g17 d_Tx_sameString_128 ?_
    refine lv_icmp_eq (tgt := 134) hx hb d_Tx_sameString_129 (by decide) (fun c18 => ?_) (fun c18 => ?_)
    · replace h := o_tt c18 h
      obtain ⟨x7_134, ex7_134⟩ : ∃ y : Int32, y = z + (1:Int32) := ⟨_, rfl⟩
      replace h := o_nm_at ex7_134 h
      refine lv_iinc (v := x7_134) (lv' := [(7, .int x7_134), (0, .ref (ad 1)), (2, .ref (ad 1)), (4, .int u102_x4), (5, .int u102_x5), (6, .int u102_x6)]) hx hb d_Tx_sameString_134 hl (k := 5) rfl (by rw [ex7_134]; rfl) (by decide) rfl (fun ls hl => ?_)
      refine lv_goto (tgt := 102) hx hb d_Tx_sameString_137 (by decide) ?_
      cases h
      exact h0 rfl _ _ _ hP hS (lv_sub hl [1, 2, 3, 4, 5, 0] rfl)
    · replace h := o_ff c18 h
      cases h
      exact h1 (Nat.succ_ne_zero 0) _ _ _ hP hS (lv_sub hl [] rfl)
set_option maxHeartbeats 4000000 in
set_option maxRecDepth 100000 in
theorem c_Tx_sameString_00 {E : (Nat → Prop) → State → Heap → Prop} {D : va_G} {ad kd sd vd xd : Nat → Nat} {ca : Nat → ClassId} (hE : o_EK E kd sd vd xd) (l : Launch) (n : Nat) (x1 : Int32) (x3 : Int32) (a0 : STx) (Sj : SSJ) (T1 : STx) (Rd : SRd) (Pg : SPg) (Pt : SPt) (Mk : SMk) (Lk : SLk) (Ck : SCk) (Jd : SJd) (Ld : SLd) (Pr : SPr) (rt : Nat) {r : Int32} (h : m_Tx_sameString n x1 x3 a0 a0 = some r) : o_Cn E l D o_cls (o_tys ca) y_Tx_sameString cc_Tx_sameString rm_Tx_sameString [.ref (ad 1), .int x1, .ref (ad 1), .int x3] (o_cw ad ca rt Sj a0 T1 Rd Pg Pt Mk Lk Ck Jd Ld Pr) (o_cw ad ca rt Sj a0 T1 Rd Pg Pt Mk Lk Ck Jd Ld Pr) (some (.int r)) := by
  refine o_Cn_of (by decide) (Nat.le_of_ble_eq_true rfl) ?_
  intro p e s m below meth c A ls C hD hP hS hl
  have hDD : ∀ (rt : Nat) (Sj : SSJ) (T0 : STx) (T1 : STx) (Rd : SRd) (Pg : SPg) (Pt : SPt) (Mk : SMk) (Lk : SLk) (Ck : SCk) (Jd : SJd) (Ld : SLd) (Pr : SPr), va_D A (o_cw ad ca rt Sj T0 T1 Rd Pg Pt Mk Lk Ck Jd Ld Pr) := fun _ _ _ _ _ _ _ _ _ _ _ _ _ => o_D_map hD rfl
  have hl : lv_has ls 8 [(0, .ref (ad 1)), (1, .int x1), (2, .ref (ad 1)), (3, .int x3)] := hl
  unfold m_Tx_sameString at h
  have C0 := C
  obtain ⟨hx, hb, -, -, -, hown, hts, hK, -, -⟩ := C0
  refine lv_iload_n hx hb d_Tx_sameString_0 rfl (lv_at hl 1 rfl) ?_
  refine lv_if_lt (tgt := 39) hx hb d_Tx_sameString_1 (by decide) (fun c1 => ?_) (fun c1 => ?_)
  · replace h := o_tt c1 h
    refine lv_iconst (v := (0:Int32)) hx hb d_Tx_sameString_39 (by decide) ?_
    cases h
    exact o_rz (v := (0:Int32)) C o_nar0 hP hS d_Tx_sameString_40
  · replace h := o_ff c1 h
    refine lv_iload_n hx hb d_Tx_sameString_4 rfl (lv_at hl 1 rfl) ?_
    refine lv_aload_n hx hb d_Tx_sameString_5 rfl (lv_at hl 0 rfl) ?_
    refine o_get (v := .int (Tx_total a0)) C in_Tx hP 1 cw_1 rfl 10 (by decide) k_1_56 rfl rfl d_Tx_sameString_6 ?_
    refine lv_icmp_ge (tgt := 39) hx hb d_Tx_sameString_9 (by decide) (fun c2 => ?_) (fun c2 => ?_)
    · replace h := o_tt c2 h
      refine lv_iconst (v := (0:Int32)) hx hb d_Tx_sameString_39 (by decide) ?_
      cases h
      exact o_rz (v := (0:Int32)) C o_nar0 hP hS d_Tx_sameString_40
    · replace h := o_ff c2 h
      refine lv_iload_n hx hb d_Tx_sameString_12 rfl (lv_at hl 3 rfl) ?_
      refine lv_if_lt (tgt := 39) hx hb d_Tx_sameString_13 (by decide) (fun c3 => ?_) (fun c3 => ?_)
      · replace h := o_tt c3 h
        refine lv_iconst (v := (0:Int32)) hx hb d_Tx_sameString_39 (by decide) ?_
        cases h
        exact o_rz (v := (0:Int32)) C o_nar0 hP hS d_Tx_sameString_40
      · replace h := o_ff c3 h
        refine lv_iload_n hx hb d_Tx_sameString_16 rfl (lv_at hl 3 rfl) ?_
        refine lv_aload_n hx hb d_Tx_sameString_17 rfl (lv_at hl 2 rfl) ?_
        refine o_get (v := .int (Tx_total a0)) C in_Tx hP 1 cw_1 rfl 10 (by decide) k_1_56 rfl rfl d_Tx_sameString_18 ?_
        refine lv_icmp_ge (tgt := 39) hx hb d_Tx_sameString_21 (by decide) (fun c4 => ?_) (fun c4 => ?_)
        · replace h := o_tt c4 h
          refine lv_iconst (v := (0:Int32)) hx hb d_Tx_sameString_39 (by decide) ?_
          cases h
          exact o_rz (v := (0:Int32)) C o_nar0 hP hS d_Tx_sameString_40
        · replace h := o_ff c4 h
          refine lv_aload_n hx hb d_Tx_sameString_24 rfl (lv_at hl 0 rfl) ?_
          refine o_get (v := .ref (ad 4)) C in_Tx hP 1 cw_1 rfl 2 (by decide) k_1_48 rfl rfl d_Tx_sameString_25 ?_
          refine lv_iload_n hx hb d_Tx_sameString_28 rfl (lv_at hl 1 rfl) ?_
          obtain ⟨g5, h⟩ := o_gd_some h
          refine o_iald (f := (Tx_sizes a0)) C hP 4 2 cw_4 rfl g5 d_Tx_sameString_29 ?_
          refine lv_aload_n hx hb d_Tx_sameString_30 rfl (lv_at hl 2 rfl) ?_
          refine o_get (v := .ref (ad 4)) C in_Tx hP 1 cw_1 rfl 2 (by decide) k_1_48 rfl rfl d_Tx_sameString_31 ?_
          refine lv_iload_n hx hb d_Tx_sameString_34 rfl (lv_at hl 3 rfl) ?_
          obtain ⟨g6, h⟩ := o_gd_some h
          refine o_iald (f := (Tx_sizes a0)) C hP 4 2 cw_4 rfl g6 d_Tx_sameString_35 ?_
          refine lv_icmp_eq (tgt := 41) hx hb d_Tx_sameString_36 (by decide) (fun c7 => ?_) (fun c7 => ?_)
          · replace h := o_tt c7 h
            refine lv_aload_n hx hb d_Tx_sameString_41 rfl (lv_at hl 0 rfl) ?_
            refine o_get (v := .ref (ad 7)) C in_Tx hP 1 cw_1 rfl 5 (by decide) k_1_51 rfl rfl d_Tx_sameString_42 ?_
            refine lv_iload_n hx hb d_Tx_sameString_45 rfl (lv_at hl 1 rfl) ?_
            obtain ⟨g8, h⟩ := o_gd_some h
            refine o_iald (f := (Tx_starts a0)) C hP 7 5 cw_7 rfl g8 d_Tx_sameString_46 ?_
            refine lv_topi (fun x4_47 ex4_47 => ?_)
            replace h := o_nm_at ex4_47 h
            refine lv_istore (lv' := [(4, .int x4_47), (0, .ref (ad 1)), (1, .int x1), (2, .ref (ad 1)), (3, .int x3)]) hx hb d_Tx_sameString_47 hl (by decide) rfl (fun ls hl => ?_)
            refine lv_aload_n hx hb d_Tx_sameString_49 rfl (lv_at hl 3 rfl) ?_
            refine o_get (v := .ref (ad 7)) C in_Tx hP 1 cw_1 rfl 5 (by decide) k_1_51 rfl rfl d_Tx_sameString_50 ?_
            refine lv_iload_n hx hb d_Tx_sameString_53 rfl (lv_at hl 4 rfl) ?_
            obtain ⟨g9, h⟩ := o_gd_some h
            refine o_iald (f := (Tx_starts a0)) C hP 7 5 cw_7 rfl g9 d_Tx_sameString_54 ?_
            refine lv_topi (fun x5_55 ex5_55 => ?_)
            replace h := o_nm_at ex5_55 h
            refine lv_istore (lv' := [(5, .int x5_55), (4, .int x4_47), (0, .ref (ad 1)), (1, .int x1), (2, .ref (ad 1)), (3, .int x3)]) hx hb d_Tx_sameString_55 hl (by decide) rfl (fun ls hl => ?_)
            refine lv_aload_n hx hb d_Tx_sameString_57 rfl (lv_at hl 2 rfl) ?_
            refine o_get (v := .ref (ad 4)) C in_Tx hP 1 cw_1 rfl 2 (by decide) k_1_48 rfl rfl d_Tx_sameString_58 ?_
            refine lv_iload_n hx hb d_Tx_sameString_61 rfl (lv_at hl 3 rfl) ?_
            obtain ⟨g10, h⟩ := o_gd_some h
            refine o_iald (f := (Tx_sizes a0)) C hP 4 2 cw_4 rfl g10 d_Tx_sameString_62 ?_
            refine lv_topi (fun x6_63 ex6_63 => ?_)
            replace h := o_nm_at ex6_63 h
            refine lv_istore (lv' := [(6, .int x6_63), (5, .int x5_55), (4, .int x4_47), (0, .ref (ad 1)), (1, .int x1), (2, .ref (ad 1)), (3, .int x3)]) hx hb d_Tx_sameString_63 hl (by decide) rfl (fun ls hl => ?_)
            refine lv_iload hx hb d_Tx_sameString_65 (lv_at hl 2 rfl) ?_
            refine lv_if_lt (tgt := 97) hx hb d_Tx_sameString_67 (by decide) (fun c11 => ?_) (fun c11 => ?_)
            · replace h := o_tt c11 h
              refine lv_iconst (v := (0:Int32)) hx hb d_Tx_sameString_97 (by decide) ?_
              cases h
              exact o_rz (v := (0:Int32)) C o_nar0 hP hS d_Tx_sameString_98
            · replace h := o_ff c11 h
              refine lv_iload hx hb d_Tx_sameString_70 (lv_at hl 2 rfl) ?_
              refine lv_iload hx hb d_Tx_sameString_72 (lv_at hl 0 rfl) ?_
              refine lv_iadd hx hb d_Tx_sameString_74 ?_
              refine lv_sipush (v := (8192:Int32)) hx hb d_Tx_sameString_75 (by decide) ?_
              refine lv_icmp_gt (tgt := 97) hx hb d_Tx_sameString_78 (by decide) (fun c12 => ?_) (fun c12 => ?_)
              · replace h := o_tt c12 h
                refine lv_iconst (v := (0:Int32)) hx hb d_Tx_sameString_97 (by decide) ?_
                cases h
                exact o_rz (v := (0:Int32)) C o_nar0 hP hS d_Tx_sameString_98
              · replace h := o_ff c12 h
                refine lv_iload hx hb d_Tx_sameString_81 (lv_at hl 1 rfl) ?_
                refine lv_if_lt (tgt := 97) hx hb d_Tx_sameString_83 (by decide) (fun c13 => ?_) (fun c13 => ?_)
                · replace h := o_tt c13 h
                  refine lv_iconst (v := (0:Int32)) hx hb d_Tx_sameString_97 (by decide) ?_
                  cases h
                  exact o_rz (v := (0:Int32)) C o_nar0 hP hS d_Tx_sameString_98
                · replace h := o_ff c13 h
                  refine lv_iload hx hb d_Tx_sameString_86 (lv_at hl 1 rfl) ?_
                  refine lv_iload hx hb d_Tx_sameString_88 (lv_at hl 0 rfl) ?_
                  refine lv_iadd hx hb d_Tx_sameString_90 ?_
                  refine lv_sipush (v := (8192:Int32)) hx hb d_Tx_sameString_91 (by decide) ?_
                  refine lv_icmp_le (tgt := 99) hx hb d_Tx_sameString_94 (by decide) (fun c14 => ?_) (fun c14 => ?_)
                  · replace h := o_tt c14 h
                    refine lv_iconst (v := (0:Int32)) hx hb d_Tx_sameString_99 (by decide) ?_
                    refine lv_istore (lv' := [(7, .int (0:Int32)), (6, .int x6_63), (5, .int x5_55), (4, .int x4_47), (0, .ref (ad 1)), (1, .int x1), (2, .ref (ad 1)), (3, .int x3)]) hx hb d_Tx_sameString_100 hl (by decide) rfl (fun ls hl => ?_)
                    obtain ⟨q1, hq1, h⟩ := o_bd_some h
                    refine o_sim2 (AH := fun zz => o_At p l e rm_Tx_sameString s m _ below meth c _ o_cls D A 8 102 [] (o_cw ad ca rt Sj a0 T1 Rd Pg Pt Mk Lk Ck Jd Ld Pr) [(0, .ref (ad 1)), (2, .ref (ad 1)), (4, .int x4_47), (5, .int x5_55), (6, .int x6_63), (7, .int zz)]) (AX := fun qq => if qq.1 = 1 then o_At p l e rm_Tx_sameString s m _ below meth c _ o_cls D A 8 132 [] (o_cw ad ca rt Sj a0 T1 Rd Pg Pt Mk Lk Ck Jd Ld Pr) [] else o_At p l e rm_Tx_sameString s m _ below meth c _ o_cls D A 8 140 [] (o_cw ad ca rt Sj a0 T1 Rd Pg Pt Mk Lk Ck Jd Ld Pr) []) (fun zz qq h h0 h1 => w_Tx_sameString_b102_00 hE C hDD n x4_47 x5_55 x6_63 a0 Sj T1 Rd Pg Pt Mk Lk Ck Jd Ld Pr rt zz qq h h0 h1) n _ q1 hq1 ?_ _ _ _ hP hS (lv_sub hl [4, 6, 3, 2, 1, 0] rfl)
                    by_cases c19 : q1.1 = 1
                    · replace h := o_tt c19 h
                      refine o_ip c19 ?_
                      intro H locs ls hP hS hl
                      refine lv_iconst (v := (0:Int32)) hx hb d_Tx_sameString_132 (by decide) ?_
                      cases h
                      exact o_rz (v := (0:Int32)) C o_nar0 hP hS d_Tx_sameString_133
                    replace h := o_ff c19 h
                    refine o_in_ c19 ?_
                    intro H locs ls hP hS hl
                    refine lv_iconst (v := (1:Int32)) hx hb d_Tx_sameString_140 (by decide) ?_
                    cases h
                    exact o_rz (v := (1:Int32)) C o_nar1 hP hS d_Tx_sameString_141
                  · replace h := o_ff c14 h
                    refine lv_iconst (v := (0:Int32)) hx hb d_Tx_sameString_97 (by decide) ?_
                    cases h
                    exact o_rz (v := (0:Int32)) C o_nar0 hP hS d_Tx_sameString_98
          · replace h := o_ff c7 h
            refine lv_iconst (v := (0:Int32)) hx hb d_Tx_sameString_39 (by decide) ?_
            cases h
            exact o_rz (v := (0:Int32)) C o_nar0 hP hS d_Tx_sameString_40
