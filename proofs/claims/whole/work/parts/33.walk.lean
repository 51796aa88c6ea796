set_option maxHeartbeats 4000000 in
set_option maxRecDepth 100000 in
theorem w_Pg_inClasses_j194 {E : (Nat → Prop) → State → Heap → Prop} {p : Program} {l : Launch} {e : Env} {s : State} {m : MethodId} {args : Array Value} {below : List Frame} {meth : Method} {c : Code} {D : va_G} {ad kd sd : Nat → Nat} {ca : Nat → ClassId} {A : Nat → Prop} (hE : o_EK E kd sd) (C : o_Cx E p s m args meth c D o_cls (o_tys ca) "SchemaJudge$Program" b_Pg_inClasses (some .boolean) 5 cc_Pg_inClasses A) (hDD : ∀ (rt : Nat) (Sj : SSJ) (T0 : STx) (T1 : STx) (Rd : SRd) (Pg : SPg) (Pt : SPt) (Mk : SMk) (Lk : SLk) (Ck : SCk) (Jd : SJd) (Ld : SLd) (Pr : SPr), va_D A (o_cw ad ca rt Sj T0 T1 Rd Pg Pt Mk Lk Ck Jd Ld Pr)) (y0 : Int32) (y1 : Int32) (Sj : SSJ) (T0 : STx) (T1 : STx) (Rd : SRd) (Pg : SPg) (Pt : SPt) (Mk : SMk) (Lk : SLk) (Ck : SCk) (Jd : SJd) (Ld : SLd) (Pr : SPr) (rt : Nat) {r : Int32} (h : m_Pg_inClasses_j194 y0 y1 = some r) : o_At p l e rm_Pg_inClasses s m args below meth c (MQ below (o_Qx D o_cls (some (.int r)) (o_cw ad ca rt Sj T0 T1 Rd Pg Pt Mk Lk Ck Jd Ld Pr) A) args s 0 0 A) o_cls D A 5 194 [.int y1, .int y0] (o_cw ad ca rt Sj T0 T1 Rd Pg Pt Mk Lk Ck Jd Ld Pr) [] := by
  unfold m_Pg_inClasses_j194 at h
  intro H locs ls hP hS hl
  have C0 := C
  obtain ⟨hx, hb, -, -, -, hown, hts, hK, -, -⟩ := C0
  refine lv_iand hx hb d_Pg_inClasses_194 ?_
  refine lv_if_eq (tgt := 202) hx hb d_Pg_inClasses_195 (by decide) (fun c10 => ?_) (fun c10 => ?_)
  · replace h := o_tt c10 h
    refine lv_iconst (v := (0:Int32)) hx hb d_Pg_inClasses_202 (by decide) ?_
    cases h
    exact o_rz (v := (0:Int32)) C o_nar0 hP hS d_Pg_inClasses_203
  · replace h := o_ff c10 h
    refine lv_iconst (v := (1:Int32)) hx hb d_Pg_inClasses_198 (by decide) ?_
    refine lv_goto (tgt := 203) hx hb d_Pg_inClasses_199 (by decide) ?_
    cases h
    exact o_rz (v := (1:Int32)) C o_nar1 hP hS d_Pg_inClasses_203
set_option maxHeartbeats 4000000 in
set_option maxRecDepth 100000 in
theorem w_Pg_inClasses_j177 {E : (Nat → Prop) → State → Heap → Prop} {p : Program} {l : Launch} {e : Env} {s : State} {m : MethodId} {args : Array Value} {below : List Frame} {meth : Method} {c : Code} {D : va_G} {ad kd sd : Nat → Nat} {ca : Nat → ClassId} {A : Nat → Prop} (hE : o_EK E kd sd) (C : o_Cx E p s m args meth c D o_cls (o_tys ca) "SchemaJudge$Program" b_Pg_inClasses (some .boolean) 5 cc_Pg_inClasses A) (hDD : ∀ (rt : Nat) (Sj : SSJ) (T0 : STx) (T1 : STx) (Rd : SRd) (Pg : SPg) (Pt : SPt) (Mk : SMk) (Lk : SLk) (Ck : SCk) (Jd : SJd) (Ld : SLd) (Pr : SPr), va_D A (o_cw ad ca rt Sj T0 T1 Rd Pg Pt Mk Lk Ck Jd Ld Pr)) (x0 : Int32) (x4 : Int32) (y0 : Int32) (y1 : Int32) (Sj : SSJ) (T0 : STx) (T1 : STx) (Rd : SRd) (Pg : SPg) (Pt : SPt) (Mk : SMk) (Lk : SLk) (Ck : SCk) (Jd : SJd) (Ld : SLd) (Pr : SPr) (rt : Nat) {r : Int32} (h : m_Pg_inClasses_j177 x0 x4 y0 y1 = some r) : o_At p l e rm_Pg_inClasses s m args below meth c (MQ below (o_Qx D o_cls (some (.int r)) (o_cw ad ca rt Sj T0 T1 Rd Pg Pt Mk Lk Ck Jd Ld Pr) A) args s 0 0 A) o_cls D A 5 177 [.int y1, .int y0] (o_cw ad ca rt Sj T0 T1 Rd Pg Pt Mk Lk Ck Jd Ld Pr) [(0, .int x0), (4, .int x4)] := by
  unfold m_Pg_inClasses_j177 at h
  intro H locs ls hP hS hl
  have C0 := C
  obtain ⟨hx, hb, -, -, -, hown, hts, hK, -, -⟩ := C0
  refine lv_iand hx hb d_Pg_inClasses_177 ?_
  refine lv_if_ne (tgt := 198) hx hb d_Pg_inClasses_178 (by decide) (fun c8 => ?_) (fun c8 => ?_)
  · replace h := o_ff c8 h
    refine lv_iconst (v := (1:Int32)) hx hb d_Pg_inClasses_198 (by decide) ?_
    refine lv_goto (tgt := 203) hx hb d_Pg_inClasses_199 (by decide) ?_
    cases h
    exact o_rz (v := (1:Int32)) C o_nar1 hP hS d_Pg_inClasses_203
  · replace h := o_tt c8 h
    refine lv_iload_n hx hb d_Pg_inClasses_181 rfl (lv_at hl 0 rfl) ?_
    refine lv_iload hx hb d_Pg_inClasses_182 (lv_at hl 1 rfl) ?_
    refine lv_if_eq (tgt := 192) hx hb d_Pg_inClasses_184 (by decide) (fun c9 => ?_) (fun c9 => ?_)
    · replace h := o_tt c9 h
      refine lv_bipush (v := (32:Int32)) hx hb d_Pg_inClasses_192 (by decide) ?_
      exact w_Pg_inClasses_j194 hE C hDD x0 (32:Int32) Sj T0 T1 Rd Pg Pt Mk Lk Ck Jd Ld Pr rt h _ _ _ hP hS (lv_sub hl [] rfl)
    · replace h := o_ff c9 h
      refine lv_bipush (v := (16:Int32)) hx hb d_Pg_inClasses_187 (by decide) ?_
      refine lv_goto (tgt := 194) hx hb d_Pg_inClasses_189 (by decide) ?_
      exact w_Pg_inClasses_j194 hE C hDD x0 (16:Int32) Sj T0 T1 Rd Pg Pt Mk Lk Ck Jd Ld Pr rt h _ _ _ hP hS (lv_sub hl [] rfl)
set_option maxHeartbeats 4000000 in
set_option maxRecDepth 100000 in
theorem w_Pg_inClasses_j162 {E : (Nat → Prop) → State → Heap → Prop} {p : Program} {l : Launch} {e : Env} {s : State} {m : MethodId} {args : Array Value} {below : List Frame} {meth : Method} {c : Code} {D : va_G} {ad kd sd : Nat → Nat} {ca : Nat → ClassId} {A : Nat → Prop} (hE : o_EK E kd sd) (C : o_Cx E p s m args meth c D o_cls (o_tys ca) "SchemaJudge$Program" b_Pg_inClasses (some .boolean) 5 cc_Pg_inClasses A) (hDD : ∀ (rt : Nat) (Sj : SSJ) (T0 : STx) (T1 : STx) (Rd : SRd) (Pg : SPg) (Pt : SPt) (Mk : SMk) (Lk : SLk) (Ck : SCk) (Jd : SJd) (Ld : SLd) (Pr : SPr), va_D A (o_cw ad ca rt Sj T0 T1 Rd Pg Pt Mk Lk Ck Jd Ld Pr)) (x0 : Int32) (x3 : Int32) (x4 : Int32) (y0 : Int32) (y1 : Int32) (Sj : SSJ) (T0 : STx) (T1 : STx) (Rd : SRd) (Pg : SPg) (Pt : SPt) (Mk : SMk) (Lk : SLk) (Ck : SCk) (Jd : SJd) (Ld : SLd) (Pr : SPr) (rt : Nat) {r : Int32} (h : m_Pg_inClasses_j162 x0 x3 x4 y0 y1 = some r) : o_At p l e rm_Pg_inClasses s m args below meth c (MQ below (o_Qx D o_cls (some (.int r)) (o_cw ad ca rt Sj T0 T1 Rd Pg Pt Mk Lk Ck Jd Ld Pr) A) args s 0 0 A) o_cls D A 5 162 [.int y1, .int y0] (o_cw ad ca rt Sj T0 T1 Rd Pg Pt Mk Lk Ck Jd Ld Pr) [(0, .int x0), (3, .int x3), (4, .int x4)] := by
  unfold m_Pg_inClasses_j162 at h
  intro H locs ls hP hS hl
  have C0 := C
  obtain ⟨hx, hb, -, -, -, hown, hts, hK, -, -⟩ := C0
  refine lv_iand hx hb d_Pg_inClasses_162 ?_
  refine lv_if_ne (tgt := 198) hx hb d_Pg_inClasses_163 (by decide) (fun c6 => ?_) (fun c6 => ?_)
  · replace h := o_ff c6 h
    refine lv_iconst (v := (1:Int32)) hx hb d_Pg_inClasses_198 (by decide) ?_
    refine lv_goto (tgt := 203) hx hb d_Pg_inClasses_199 (by decide) ?_
    cases h
    exact o_rz (v := (1:Int32)) C o_nar1 hP hS d_Pg_inClasses_203
  · replace h := o_tt c6 h
    refine lv_iload_n hx hb d_Pg_inClasses_166 rfl (lv_at hl 0 rfl) ?_
    refine lv_iload_n hx hb d_Pg_inClasses_167 rfl (lv_at hl 1 rfl) ?_
    refine lv_if_eq (tgt := 175) hx hb d_Pg_inClasses_168 (by decide) (fun c7 => ?_) (fun c7 => ?_)
    · replace h := o_tt c7 h
      refine lv_bipush (v := (8:Int32)) hx hb d_Pg_inClasses_175 (by decide) ?_
      exact w_Pg_inClasses_j177 hE C hDD x0 x4 x0 (8:Int32) Sj T0 T1 Rd Pg Pt Mk Lk Ck Jd Ld Pr rt h _ _ _ hP hS (lv_sub hl [0, 2] rfl)
    · replace h := o_ff c7 h
      refine lv_iconst (v := (4:Int32)) hx hb d_Pg_inClasses_171 (by decide) ?_
      refine lv_goto (tgt := 177) hx hb d_Pg_inClasses_172 (by decide) ?_
      exact w_Pg_inClasses_j177 hE C hDD x0 x4 x0 (4:Int32) Sj T0 T1 Rd Pg Pt Mk Lk Ck Jd Ld Pr rt h _ _ _ hP hS (lv_sub hl [0, 2] rfl)
set_option maxHeartbeats 4000000 in
set_option maxRecDepth 100000 in
theorem w_Pg_inClasses_j150 {E : (Nat → Prop) → State → Heap → Prop} {p : Program} {l : Launch} {e : Env} {s : State} {m : MethodId} {args : Array Value} {below : List Frame} {meth : Method} {c : Code} {D : va_G} {ad kd sd : Nat → Nat} {ca : Nat → ClassId} {A : Nat → Prop} (hE : o_EK E kd sd) (C : o_Cx E p s m args meth c D o_cls (o_tys ca) "SchemaJudge$Program" b_Pg_inClasses (some .boolean) 5 cc_Pg_inClasses A) (hDD : ∀ (rt : Nat) (Sj : SSJ) (T0 : STx) (T1 : STx) (Rd : SRd) (Pg : SPg) (Pt : SPt) (Mk : SMk) (Lk : SLk) (Ck : SCk) (Jd : SJd) (Ld : SLd) (Pr : SPr), va_D A (o_cw ad ca rt Sj T0 T1 Rd Pg Pt Mk Lk Ck Jd Ld Pr)) (x0 : Int32) (x2 : Int32) (x3 : Int32) (y0 : Int32) (Sj : SSJ) (T0 : STx) (T1 : STx) (Rd : SRd) (Pg : SPg) (Pt : SPt) (Mk : SMk) (Lk : SLk) (Ck : SCk) (Jd : SJd) (Ld : SLd) (Pr : SPr) (rt : Nat) {r : Int32} (h : m_Pg_inClasses_j150 x0 x2 x3 y0 = some r) : o_At p l e rm_Pg_inClasses s m args below meth c (MQ below (o_Qx D o_cls (some (.int r)) (o_cw ad ca rt Sj T0 T1 Rd Pg Pt Mk Lk Ck Jd Ld Pr) A) args s 0 0 A) o_cls D A 5 150 [.int y0] (o_cw ad ca rt Sj T0 T1 Rd Pg Pt Mk Lk Ck Jd Ld Pr) [(0, .int x0), (2, .int x2), (3, .int x3)] := by
  unfold m_Pg_inClasses_j150 at h
  intro H locs ls hP hS hl
  have C0 := C
  obtain ⟨hx, hb, -, -, -, hown, hts, hK, -, -⟩ := C0
  refine lv_istore (lv' := [(4, .int y0), (0, .int x0), (2, .int x2), (3, .int x3)]) hx hb d_Pg_inClasses_150 hl (by decide) rfl (fun ls hl => ?_)
  refine lv_iload_n hx hb d_Pg_inClasses_152 rfl (lv_at hl 1 rfl) ?_
  refine lv_iload_n hx hb d_Pg_inClasses_153 rfl (lv_at hl 2 rfl) ?_
  refine lv_if_eq (tgt := 161) hx hb d_Pg_inClasses_154 (by decide) (fun c5 => ?_) (fun c5 => ?_)
  · replace h := o_tt c5 h
    refine lv_iconst (v := (2:Int32)) hx hb d_Pg_inClasses_161 (by decide) ?_
    exact w_Pg_inClasses_j162 hE C hDD x0 x3 y0 x0 (2:Int32) Sj T0 T1 Rd Pg Pt Mk Lk Ck Jd Ld Pr rt h _ _ _ hP hS (lv_sub hl [1, 3, 0] rfl)
  · replace h := o_ff c5 h
    refine lv_iconst (v := (1:Int32)) hx hb d_Pg_inClasses_157 (by decide) ?_
    refine lv_goto (tgt := 162) hx hb d_Pg_inClasses_158 (by decide) ?_
    exact w_Pg_inClasses_j162 hE C hDD x0 x3 y0 x0 (1:Int32) Sj T0 T1 Rd Pg Pt Mk Lk Ck Jd Ld Pr rt h _ _ _ hP hS (lv_sub hl [1, 3, 0] rfl)
set_option maxHeartbeats 4000000 in
set_option maxRecDepth 100000 in
theorem w_Pg_inClasses_j104 {E : (Nat → Prop) → State → Heap → Prop} {p : Program} {l : Launch} {e : Env} {s : State} {m : MethodId} {args : Array Value} {below : List Frame} {meth : Method} {c : Code} {D : va_G} {ad kd sd : Nat → Nat} {ca : Nat → ClassId} {A : Nat → Prop} (hE : o_EK E kd sd) (C : o_Cx E p s m args meth c D o_cls (o_tys ca) "SchemaJudge$Program" b_Pg_inClasses (some .boolean) 5 cc_Pg_inClasses A) (hDD : ∀ (rt : Nat) (Sj : SSJ) (T0 : STx) (T1 : STx) (Rd : SRd) (Pg : SPg) (Pt : SPt) (Mk : SMk) (Lk : SLk) (Ck : SCk) (Jd : SJd) (Ld : SLd) (Pr : SPr), va_D A (o_cw ad ca rt Sj T0 T1 Rd Pg Pt Mk Lk Ck Jd Ld Pr)) (x0 : Int32) (x1 : Int32) (x2 : Int32) (x3 : Int32) (Sj : SSJ) (T0 : STx) (T1 : STx) (Rd : SRd) (Pg : SPg) (Pt : SPt) (Mk : SMk) (Lk : SLk) (Ck : SCk) (Jd : SJd) (Ld : SLd) (Pr : SPr) (rt : Nat) {r : Int32} (h : m_Pg_inClasses_j104 x0 x1 x2 x3 = some r) : o_At p l e rm_Pg_inClasses s m args below meth c (MQ below (o_Qx D o_cls (some (.int r)) (o_cw ad ca rt Sj T0 T1 Rd Pg Pt Mk Lk Ck Jd Ld Pr) A) args s 0 0 A) o_cls D A 5 104 [] (o_cw ad ca rt Sj T0 T1 Rd Pg Pt Mk Lk Ck Jd Ld Pr) [(0, .int x0), (1, .int x1), (2, .int x2), (3, .int x3)] := by
  unfold m_Pg_inClasses_j104 at h
  intro H locs ls hP hS hl
  have C0 := C
  obtain ⟨hx, hb, -, -, -, hown, hts, hK, -, -⟩ := C0
  refine lv_iload_n hx hb d_Pg_inClasses_104 rfl (lv_at hl 1 rfl) ?_
  refine lv_sipush (v := (8232:Int32)) hx hb d_Pg_inClasses_105 (by decide) ?_
  refine lv_icmp_eq (tgt := 145) hx hb d_Pg_inClasses_108 (by decide) (fun c14 => ?_) (fun c14 => ?_)
  · replace h := o_tt c14 h
    refine lv_iconst (v := (1:Int32)) hx hb d_Pg_inClasses_145 (by decide) ?_
    refine lv_goto (tgt := 150) hx hb d_Pg_inClasses_146 (by decide) ?_
    exact w_Pg_inClasses_j150 hE C hDD x0 x2 x3 (1:Int32) Sj T0 T1 Rd Pg Pt Mk Lk Ck Jd Ld Pr rt h _ _ _ hP hS (lv_sub hl [0, 2, 3] rfl)
  · replace h := o_ff c14 h
    refine lv_iload_n hx hb d_Pg_inClasses_111 rfl (lv_at hl 1 rfl) ?_
    refine lv_sipush (v := (8233:Int32)) hx hb d_Pg_inClasses_112 (by decide) ?_
    refine lv_icmp_eq (tgt := 145) hx hb d_Pg_inClasses_115 (by decide) (fun c15 => ?_) (fun c15 => ?_)
    · replace h := o_tt c15 h
      refine lv_iconst (v := (1:Int32)) hx hb d_Pg_inClasses_145 (by decide) ?_
      refine lv_goto (tgt := 150) hx hb d_Pg_inClasses_146 (by decide) ?_
      exact w_Pg_inClasses_j150 hE C hDD x0 x2 x3 (1:Int32) Sj T0 T1 Rd Pg Pt Mk Lk Ck Jd Ld Pr rt h _ _ _ hP hS (lv_sub hl [0, 2, 3] rfl)
    · replace h := o_ff c15 h
      refine lv_iload_n hx hb d_Pg_inClasses_118 rfl (lv_at hl 1 rfl) ?_
      refine lv_sipush (v := (8239:Int32)) hx hb d_Pg_inClasses_119 (by decide) ?_
      refine lv_icmp_eq (tgt := 145) hx hb d_Pg_inClasses_122 (by decide) (fun c16 => ?_) (fun c16 => ?_)
      · replace h := o_tt c16 h
        refine lv_iconst (v := (1:Int32)) hx hb d_Pg_inClasses_145 (by decide) ?_
        refine lv_goto (tgt := 150) hx hb d_Pg_inClasses_146 (by decide) ?_
        exact w_Pg_inClasses_j150 hE C hDD x0 x2 x3 (1:Int32) Sj T0 T1 Rd Pg Pt Mk Lk Ck Jd Ld Pr rt h _ _ _ hP hS (lv_sub hl [0, 2, 3] rfl)
      · replace h := o_ff c16 h
        refine lv_iload_n hx hb d_Pg_inClasses_125 rfl (lv_at hl 1 rfl) ?_
        refine lv_sipush (v := (8287:Int32)) hx hb d_Pg_inClasses_126 (by decide) ?_
        refine lv_icmp_eq (tgt := 145) hx hb d_Pg_inClasses_129 (by decide) (fun c17 => ?_) (fun c17 => ?_)
        · replace h := o_tt c17 h
          refine lv_iconst (v := (1:Int32)) hx hb d_Pg_inClasses_145 (by decide) ?_
          refine lv_goto (tgt := 150) hx hb d_Pg_inClasses_146 (by decide) ?_
          exact w_Pg_inClasses_j150 hE C hDD x0 x2 x3 (1:Int32) Sj T0 T1 Rd Pg Pt Mk Lk Ck Jd Ld Pr rt h _ _ _ hP hS (lv_sub hl [0, 2, 3] rfl)
        · replace h := o_ff c17 h
          refine lv_iload_n hx hb d_Pg_inClasses_132 rfl (lv_at hl 1 rfl) ?_
          refine lv_sipush (v := (12288:Int32)) hx hb d_Pg_inClasses_133 (by decide) ?_
          refine lv_icmp_eq (tgt := 145) hx hb d_Pg_inClasses_136 (by decide) (fun c18 => ?_) (fun c18 => ?_)
          · replace h := o_tt c18 h
            refine lv_iconst (v := (1:Int32)) hx hb d_Pg_inClasses_145 (by decide) ?_
            refine lv_goto (tgt := 150) hx hb d_Pg_inClasses_146 (by decide) ?_
            exact w_Pg_inClasses_j150 hE C hDD x0 x2 x3 (1:Int32) Sj T0 T1 Rd Pg Pt Mk Lk Ck Jd Ld Pr rt h _ _ _ hP hS (lv_sub hl [0, 2, 3] rfl)
          · replace h := o_ff c18 h
            refine lv_iload_n hx hb d_Pg_inClasses_139 rfl (lv_at hl 1 rfl) ?_
            refine lv_ldc (v := (65279:Int32)) hx hb hown (hts _ k_6_106) d_Pg_inClasses_140 ?_
            refine lv_icmp_ne (tgt := 149) hx hb d_Pg_inClasses_142 (by decide) (fun c19 => ?_) (fun c19 => ?_)
            · replace h := o_ff c19 h
              refine lv_iconst (v := (0:Int32)) hx hb d_Pg_inClasses_149 (by decide) ?_
              exact w_Pg_inClasses_j150 hE C hDD x0 x2 x3 (0:Int32) Sj T0 T1 Rd Pg Pt Mk Lk Ck Jd Ld Pr rt h _ _ _ hP hS (lv_sub hl [0, 2, 3] rfl)
            · replace h := o_tt c19 h
              refine lv_iconst (v := (1:Int32)) hx hb d_Pg_inClasses_145 (by decide) ?_
              refine lv_goto (tgt := 150) hx hb d_Pg_inClasses_146 (by decide) ?_
              exact w_Pg_inClasses_j150 hE C hDD x0 x2 x3 (1:Int32) Sj T0 T1 Rd Pg Pt Mk Lk Ck Jd Ld Pr rt h _ _ _ hP hS (lv_sub hl [0, 2, 3] rfl)
set_option maxHeartbeats 4000000 in
set_option maxRecDepth 100000 in
theorem w_Pg_inClasses_j70 {E : (Nat → Prop) → State → Heap → Prop} {p : Program} {l : Launch} {e : Env} {s : State} {m : MethodId} {args : Array Value} {below : List Frame} {meth : Method} {c : Code} {D : va_G} {ad kd sd : Nat → Nat} {ca : Nat → ClassId} {A : Nat → Prop} (hE : o_EK E kd sd) (C : o_Cx E p s m args meth c D o_cls (o_tys ca) "SchemaJudge$Program" b_Pg_inClasses (some .boolean) 5 cc_Pg_inClasses A) (hDD : ∀ (rt : Nat) (Sj : SSJ) (T0 : STx) (T1 : STx) (Rd : SRd) (Pg : SPg) (Pt : SPt) (Mk : SMk) (Lk : SLk) (Ck : SCk) (Jd : SJd) (Ld : SLd) (Pr : SPr), va_D A (o_cw ad ca rt Sj T0 T1 Rd Pg Pt Mk Lk Ck Jd Ld Pr)) (x0 : Int32) (x1 : Int32) (x2 : Int32) (x3 : Int32) (Sj : SSJ) (T0 : STx) (T1 : STx) (Rd : SRd) (Pg : SPg) (Pt : SPt) (Mk : SMk) (Lk : SLk) (Ck : SCk) (Jd : SJd) (Ld : SLd) (Pr : SPr) (rt : Nat) {r : Int32} (h : m_Pg_inClasses_j70 x0 x1 x2 x3 = some r) : o_At p l e rm_Pg_inClasses s m args below meth c (MQ below (o_Qx D o_cls (some (.int r)) (o_cw ad ca rt Sj T0 T1 Rd Pg Pt Mk Lk Ck Jd Ld Pr) A) args s 0 0 A) o_cls D A 5 70 [] (o_cw ad ca rt Sj T0 T1 Rd Pg Pt Mk Lk Ck Jd Ld Pr) [(0, .int x0), (1, .int x1), (2, .int x2), (3, .int x3)] := by
  unfold m_Pg_inClasses_j70 at h
  intro H locs ls hP hS hl
  have C0 := C
  obtain ⟨hx, hb, -, -, -, hown, hts, hK, -, -⟩ := C0
  refine lv_iload_n hx hb d_Pg_inClasses_70 rfl (lv_at hl 1 rfl) ?_
  refine lv_bipush (v := (32:Int32)) hx hb d_Pg_inClasses_71 (by decide) ?_
  refine lv_icmp_eq (tgt := 145) hx hb d_Pg_inClasses_73 (by decide) (fun c4 => ?_) (fun c4 => ?_)
  · replace h := o_tt c4 h
    refine lv_iconst (v := (1:Int32)) hx hb d_Pg_inClasses_145 (by decide) ?_
    refine lv_goto (tgt := 150) hx hb d_Pg_inClasses_146 (by decide) ?_
    exact w_Pg_inClasses_j150 hE C hDD x0 x2 x3 (1:Int32) Sj T0 T1 Rd Pg Pt Mk Lk Ck Jd Ld Pr rt h _ _ _ hP hS (lv_sub hl [0, 2, 3] rfl)
  · replace h := o_ff c4 h
    refine lv_iload_n hx hb d_Pg_inClasses_76 rfl (lv_at hl 1 rfl) ?_
    refine lv_sipush (v := (160:Int32)) hx hb d_Pg_inClasses_77 (by decide) ?_
    refine lv_icmp_eq (tgt := 145) hx hb d_Pg_inClasses_80 (by decide) (fun c11 => ?_) (fun c11 => ?_)
    · replace h := o_tt c11 h
      refine lv_iconst (v := (1:Int32)) hx hb d_Pg_inClasses_145 (by decide) ?_
      refine lv_goto (tgt := 150) hx hb d_Pg_inClasses_146 (by decide) ?_
      exact w_Pg_inClasses_j150 hE C hDD x0 x2 x3 (1:Int32) Sj T0 T1 Rd Pg Pt Mk Lk Ck Jd Ld Pr rt h _ _ _ hP hS (lv_sub hl [0, 2, 3] rfl)
    · replace h := o_ff c11 h
      refine lv_iload_n hx hb d_Pg_inClasses_83 rfl (lv_at hl 1 rfl) ?_
      refine lv_sipush (v := (5760:Int32)) hx hb d_Pg_inClasses_84 (by decide) ?_
      refine lv_icmp_eq (tgt := 145) hx hb d_Pg_inClasses_87 (by decide) (fun c12 => ?_) (fun c12 => ?_)
      · replace h := o_tt c12 h
        refine lv_iconst (v := (1:Int32)) hx hb d_Pg_inClasses_145 (by decide) ?_
        refine lv_goto (tgt := 150) hx hb d_Pg_inClasses_146 (by decide) ?_
        exact w_Pg_inClasses_j150 hE C hDD x0 x2 x3 (1:Int32) Sj T0 T1 Rd Pg Pt Mk Lk Ck Jd Ld Pr rt h _ _ _ hP hS (lv_sub hl [0, 2, 3] rfl)
      · replace h := o_ff c12 h
        refine lv_iload_n hx hb d_Pg_inClasses_90 rfl (lv_at hl 1 rfl) ?_
        refine lv_sipush (v := (8192:Int32)) hx hb d_Pg_inClasses_91 (by decide) ?_
        refine lv_icmp_lt (tgt := 104) hx hb d_Pg_inClasses_94 (by decide) (fun c13 => ?_) (fun c13 => ?_)
        · replace h := o_tt c13 h
          exact w_Pg_inClasses_j104 hE C hDD x0 x1 x2 x3 Sj T0 T1 Rd Pg Pt Mk Lk Ck Jd Ld Pr rt h _ _ _ hP hS (lv_sub hl [0, 1, 2, 3] rfl)
        · replace h := o_ff c13 h
          refine lv_iload_n hx hb d_Pg_inClasses_97 rfl (lv_at hl 1 rfl) ?_
          refine lv_sipush (v := (8202:Int32)) hx hb d_Pg_inClasses_98 (by decide) ?_
          refine lv_icmp_le (tgt := 145) hx hb d_Pg_inClasses_101 (by decide) (fun c20 => ?_) (fun c20 => ?_)
          · replace h := o_tt c20 h
            refine lv_iconst (v := (1:Int32)) hx hb d_Pg_inClasses_145 (by decide) ?_
            refine lv_goto (tgt := 150) hx hb d_Pg_inClasses_146 (by decide) ?_
            exact w_Pg_inClasses_j150 hE C hDD x0 x2 x3 (1:Int32) Sj T0 T1 Rd Pg Pt Mk Lk Ck Jd Ld Pr rt h _ _ _ hP hS (lv_sub hl [0, 2, 3] rfl)
          · replace h := o_ff c20 h
            exact w_Pg_inClasses_j104 hE C hDD x0 x1 x2 x3 Sj T0 T1 Rd Pg Pt Mk Lk Ck Jd Ld Pr rt h _ _ _ hP hS (lv_sub hl [0, 1, 2, 3] rfl)
set_option maxHeartbeats 4000000 in
set_option maxRecDepth 100000 in
theorem w_Pg_inClasses_j57 {E : (Nat → Prop) → State → Heap → Prop} {p : Program} {l : Launch} {e : Env} {s : State} {m : MethodId} {args : Array Value} {below : List Frame} {meth : Method} {c : Code} {D : va_G} {ad kd sd : Nat → Nat} {ca : Nat → ClassId} {A : Nat → Prop} (hE : o_EK E kd sd) (C : o_Cx E p s m args meth c D o_cls (o_tys ca) "SchemaJudge$Program" b_Pg_inClasses (some .boolean) 5 cc_Pg_inClasses A) (hDD : ∀ (rt : Nat) (Sj : SSJ) (T0 : STx) (T1 : STx) (Rd : SRd) (Pg : SPg) (Pt : SPt) (Mk : SMk) (Lk : SLk) (Ck : SCk) (Jd : SJd) (Ld : SLd) (Pr : SPr), va_D A (o_cw ad ca rt Sj T0 T1 Rd Pg Pt Mk Lk Ck Jd Ld Pr)) (x0 : Int32) (x1 : Int32) (x2 : Int32) (y0 : Int32) (Sj : SSJ) (T0 : STx) (T1 : STx) (Rd : SRd) (Pg : SPg) (Pt : SPt) (Mk : SMk) (Lk : SLk) (Ck : SCk) (Jd : SJd) (Ld : SLd) (Pr : SPr) (rt : Nat) {r : Int32} (h : m_Pg_inClasses_j57 x0 x1 x2 y0 = some r) : o_At p l e rm_Pg_inClasses s m args below meth c (MQ below (o_Qx D o_cls (some (.int r)) (o_cw ad ca rt Sj T0 T1 Rd Pg Pt Mk Lk Ck Jd Ld Pr) A) args s 0 0 A) o_cls D A 5 57 [.int y0] (o_cw ad ca rt Sj T0 T1 Rd Pg Pt Mk Lk Ck Jd Ld Pr) [(0, .int x0), (1, .int x1), (2, .int x2)] := by
  unfold m_Pg_inClasses_j57 at h
  intro H locs ls hP hS hl
  have C0 := C
  obtain ⟨hx, hb, -, -, -, hown, hts, hK, -, -⟩ := C0
  refine lv_istore_n (lv' := [(3, .int y0), (0, .int x0), (1, .int x1), (2, .int x2)]) hx hb d_Pg_inClasses_57 rfl hl (by decide) rfl (fun ls hl => ?_)
  refine lv_iload_n hx hb d_Pg_inClasses_58 rfl (lv_at hl 2 rfl) ?_
  refine lv_bipush (v := (9:Int32)) hx hb d_Pg_inClasses_59 (by decide) ?_
  refine lv_icmp_lt (tgt := 70) hx hb d_Pg_inClasses_61 (by decide) (fun c3 => ?_) (fun c3 => ?_)
  · replace h := o_tt c3 h
    exact w_Pg_inClasses_j70 hE C hDD x0 x1 x2 y0 Sj T0 T1 Rd Pg Pt Mk Lk Ck Jd Ld Pr rt h _ _ _ hP hS (lv_sub hl [1, 2, 3, 0] rfl)
  · replace h := o_ff c3 h
    refine lv_iload_n hx hb d_Pg_inClasses_64 rfl (lv_at hl 2 rfl) ?_
    refine lv_bipush (v := (13:Int32)) hx hb d_Pg_inClasses_65 (by decide) ?_
    refine lv_icmp_le (tgt := 145) hx hb d_Pg_inClasses_67 (by decide) (fun c21 => ?_) (fun c21 => ?_)
    · replace h := o_tt c21 h
      refine lv_iconst (v := (1:Int32)) hx hb d_Pg_inClasses_145 (by decide) ?_
      refine lv_goto (tgt := 150) hx hb d_Pg_inClasses_146 (by decide) ?_
      exact w_Pg_inClasses_j150 hE C hDD x0 x2 y0 (1:Int32) Sj T0 T1 Rd Pg Pt Mk Lk Ck Jd Ld Pr rt h _ _ _ hP hS (lv_sub hl [1, 3, 0] rfl)
    · replace h := o_ff c21 h
      exact w_Pg_inClasses_j70 hE C hDD x0 x1 x2 y0 Sj T0 T1 Rd Pg Pt Mk Lk Ck Jd Ld Pr rt h _ _ _ hP hS (lv_sub hl [1, 2, 3, 0] rfl)
set_option maxHeartbeats 4000000 in
set_option maxRecDepth 100000 in
theorem w_Pg_inClasses_j46 {E : (Nat → Prop) → State → Heap → Prop} {p : Program} {l : Launch} {e : Env} {s : State} {m : MethodId} {args : Array Value} {below : List Frame} {meth : Method} {c : Code} {D : va_G} {ad kd sd : Nat → Nat} {ca : Nat → ClassId} {A : Nat → Prop} (hE : o_EK E kd sd) (C : o_Cx E p s m args meth c D o_cls (o_tys ca) "SchemaJudge$Program" b_Pg_inClasses (some .boolean) 5 cc_Pg_inClasses A) (hDD : ∀ (rt : Nat) (Sj : SSJ) (T0 : STx) (T1 : STx) (Rd : SRd) (Pg : SPg) (Pt : SPt) (Mk : SMk) (Lk : SLk) (Ck : SCk) (Jd : SJd) (Ld : SLd) (Pr : SPr), va_D A (o_cw ad ca rt Sj T0 T1 Rd Pg Pt Mk Lk Ck Jd Ld Pr)) (x0 : Int32) (x1 : Int32) (x2 : Int32) (Sj : SSJ) (T0 : STx) (T1 : STx) (Rd : SRd) (Pg : SPg) (Pt : SPt) (Mk : SMk) (Lk : SLk) (Ck : SCk) (Jd : SJd) (Ld : SLd) (Pr : SPr) (rt : Nat) {r : Int32} (h : m_Pg_inClasses_j46 x0 x1 x2 = some r) : o_At p l e rm_Pg_inClasses s m args below meth c (MQ below (o_Qx D o_cls (some (.int r)) (o_cw ad ca rt Sj T0 T1 Rd Pg Pt Mk Lk Ck Jd Ld Pr) A) args s 0 0 A) o_cls D A 5 46 [] (o_cw ad ca rt Sj T0 T1 Rd Pg Pt Mk Lk Ck Jd Ld Pr) [(0, .int x0), (1, .int x1), (2, .int x2)] := by
  unfold m_Pg_inClasses_j46 at h
  intro H locs ls hP hS hl
  have C0 := C
  obtain ⟨hx, hb, -, -, -, hown, hts, hK, -, -⟩ := C0
  refine lv_iload_n hx hb d_Pg_inClasses_46 rfl (lv_at hl 1 rfl) ?_
  refine lv_bipush (v := (95:Int32)) hx hb d_Pg_inClasses_47 (by decide) ?_
  refine lv_icmp_ne (tgt := 56) hx hb d_Pg_inClasses_49 (by decide) (fun c24 => ?_) (fun c24 => ?_)
  · replace h := o_ff c24 h
    refine lv_iconst (v := (0:Int32)) hx hb d_Pg_inClasses_56 (by decide) ?_
    exact w_Pg_inClasses_j57 hE C hDD x0 x1 x2 (0:Int32) Sj T0 T1 Rd Pg Pt Mk Lk Ck Jd Ld Pr rt h _ _ _ hP hS (lv_sub hl [0, 1, 2] rfl)
  · replace h := o_tt c24 h
    refine lv_iconst (v := (1:Int32)) hx hb d_Pg_inClasses_52 (by decide) ?_
    refine lv_goto (tgt := 57) hx hb d_Pg_inClasses_53 (by decide) ?_
    exact w_Pg_inClasses_j57 hE C hDD x0 x1 x2 (1:Int32) Sj T0 T1 Rd Pg Pt Mk Lk Ck Jd Ld Pr rt h _ _ _ hP hS (lv_sub hl [0, 1, 2] rfl)
set_option maxHeartbeats 4000000 in
set_option maxRecDepth 100000 in
theorem w_Pg_inClasses_j34 {E : (Nat → Prop) → State → Heap → Prop} {p : Program} {l : Launch} {e : Env} {s : State} {m : MethodId} {args : Array Value} {below : List Frame} {meth : Method} {c : Code} {D : va_G} {ad kd sd : Nat → Nat} {ca : Nat → ClassId} {A : Nat → Prop} (hE : o_EK E kd sd) (C : o_Cx E p s m args meth c D o_cls (o_tys ca) "SchemaJudge$Program" b_Pg_inClasses (some .boolean) 5 cc_Pg_inClasses A) (hDD : ∀ (rt : Nat) (Sj : SSJ) (T0 : STx) (T1 : STx) (Rd : SRd) (Pg : SPg) (Pt : SPt) (Mk : SMk) (Lk : SLk) (Ck : SCk) (Jd : SJd) (Ld : SLd) (Pr : SPr), va_D A (o_cw ad ca rt Sj T0 T1 Rd Pg Pt Mk Lk Ck Jd Ld Pr)) (x0 : Int32) (x1 : Int32) (x2 : Int32) (Sj : SSJ) (T0 : STx) (T1 : STx) (Rd : SRd) (Pg : SPg) (Pt : SPt) (Mk : SMk) (Lk : SLk) (Ck : SCk) (Jd : SJd) (Ld : SLd) (Pr : SPr) (rt : Nat) {r : Int32} (h : m_Pg_inClasses_j34 x0 x1 x2 = some r) : o_At p l e rm_Pg_inClasses s m args below meth c (MQ below (o_Qx D o_cls (some (.int r)) (o_cw ad ca rt Sj T0 T1 Rd Pg Pt Mk Lk Ck Jd Ld Pr) A) args s 0 0 A) o_cls D A 5 34 [] (o_cw ad ca rt Sj T0 T1 Rd Pg Pt Mk Lk Ck Jd Ld Pr) [(0, .int x0), (1, .int x1), (2, .int x2)] := by
  unfold m_Pg_inClasses_j34 at h
  intro H locs ls hP hS hl
  have C0 := C
  obtain ⟨hx, hb, -, -, -, hown, hts, hK, -, -⟩ := C0
  refine lv_iload_n hx hb d_Pg_inClasses_34 rfl (lv_at hl 1 rfl) ?_
  refine lv_bipush (v := (65:Int32)) hx hb d_Pg_inClasses_35 (by decide) ?_
  refine lv_icmp_lt (tgt := 46) hx hb d_Pg_inClasses_37 (by decide) (fun c23 => ?_) (fun c23 => ?_)
  · replace h := o_tt c23 h
    exact w_Pg_inClasses_j46 hE C hDD x0 x1 x2 Sj T0 T1 Rd Pg Pt Mk Lk Ck Jd Ld Pr rt h _ _ _ hP hS (lv_sub hl [0, 1, 2] rfl)
  · replace h := o_ff c23 h
    refine lv_iload_n hx hb d_Pg_inClasses_40 rfl (lv_at hl 1 rfl) ?_
    refine lv_bipush (v := (90:Int32)) hx hb d_Pg_inClasses_41 (by decide) ?_
    refine lv_icmp_le (tgt := 52) hx hb d_Pg_inClasses_43 (by decide) (fun c25 => ?_) (fun c25 => ?_)
    · replace h := o_tt c25 h
      refine lv_iconst (v := (1:Int32)) hx hb d_Pg_inClasses_52 (by decide) ?_
      refine lv_goto (tgt := 57) hx hb d_Pg_inClasses_53 (by decide) ?_
      exact w_Pg_inClasses_j57 hE C hDD x0 x1 x2 (1:Int32) Sj T0 T1 Rd Pg Pt Mk Lk Ck Jd Ld Pr rt h _ _ _ hP hS (lv_sub hl [0, 1, 2] rfl)
    · replace h := o_ff c25 h
      exact w_Pg_inClasses_j46 hE C hDD x0 x1 x2 Sj T0 T1 Rd Pg Pt Mk Lk Ck Jd Ld Pr rt h _ _ _ hP hS (lv_sub hl [0, 1, 2] rfl)
set_option maxHeartbeats 4000000 in
set_option maxRecDepth 100000 in
theorem w_Pg_inClasses_j17 {E : (Nat → Prop) → State → Heap → Prop} {p : Program} {l : Launch} {e : Env} {s : State} {m : MethodId} {args : Array Value} {below : List Frame} {meth : Method} {c : Code} {D : va_G} {ad kd sd : Nat → Nat} {ca : Nat → ClassId} {A : Nat → Prop} (hE : o_EK E kd sd) (C : o_Cx E p s m args meth c D o_cls (o_tys ca) "SchemaJudge$Program" b_Pg_inClasses (some .boolean) 5 cc_Pg_inClasses A) (hDD : ∀ (rt : Nat) (Sj : SSJ) (T0 : STx) (T1 : STx) (Rd : SRd) (Pg : SPg) (Pt : SPt) (Mk : SMk) (Lk : SLk) (Ck : SCk) (Jd : SJd) (Ld : SLd) (Pr : SPr), va_D A (o_cw ad ca rt Sj T0 T1 Rd Pg Pt Mk Lk Ck Jd Ld Pr)) (x0 : Int32) (x1 : Int32) (y0 : Int32) (Sj : SSJ) (T0 : STx) (T1 : STx) (Rd : SRd) (Pg : SPg) (Pt : SPt) (Mk : SMk) (Lk : SLk) (Ck : SCk) (Jd : SJd) (Ld : SLd) (Pr : SPr) (rt : Nat) {r : Int32} (h : m_Pg_inClasses_j17 x0 x1 y0 = some r) : o_At p l e rm_Pg_inClasses s m args below meth c (MQ below (o_Qx D o_cls (some (.int r)) (o_cw ad ca rt Sj T0 T1 Rd Pg Pt Mk Lk Ck Jd Ld Pr) A) args s 0 0 A) o_cls D A 5 17 [.int y0] (o_cw ad ca rt Sj T0 T1 Rd Pg Pt Mk Lk Ck Jd Ld Pr) [(0, .int x0), (1, .int x1)] := by
  unfold m_Pg_inClasses_j17 at h
  intro H locs ls hP hS hl
  have C0 := C
  obtain ⟨hx, hb, -, -, -, hown, hts, hK, -, -⟩ := C0
  refine lv_istore_n (lv' := [(2, .int y0), (0, .int x0), (1, .int x1)]) hx hb d_Pg_inClasses_17 rfl hl (by decide) rfl (fun ls hl => ?_)
  refine lv_iload_n hx hb d_Pg_inClasses_18 rfl (lv_at hl 0 rfl) ?_
  refine lv_if_ne (tgt := 52) hx hb d_Pg_inClasses_19 (by decide) (fun c2 => ?_) (fun c2 => ?_)
  · replace h := o_ff c2 h
    refine lv_iconst (v := (1:Int32)) hx hb d_Pg_inClasses_52 (by decide) ?_
    refine lv_goto (tgt := 57) hx hb d_Pg_inClasses_53 (by decide) ?_
    exact w_Pg_inClasses_j57 hE C hDD x0 x1 y0 (1:Int32) Sj T0 T1 Rd Pg Pt Mk Lk Ck Jd Ld Pr rt h _ _ _ hP hS (lv_sub hl [1, 2, 0] rfl)
  · replace h := o_tt c2 h
    refine lv_iload_n hx hb d_Pg_inClasses_22 rfl (lv_at hl 2 rfl) ?_
    refine lv_bipush (v := (97:Int32)) hx hb d_Pg_inClasses_23 (by decide) ?_
    refine lv_icmp_lt (tgt := 34) hx hb d_Pg_inClasses_25 (by decide) (fun c22 => ?_) (fun c22 => ?_)
    · replace h := o_tt c22 h
      exact w_Pg_inClasses_j34 hE C hDD x0 x1 y0 Sj T0 T1 Rd Pg Pt Mk Lk Ck Jd Ld Pr rt h _ _ _ hP hS (lv_sub hl [1, 2, 0] rfl)
    · replace h := o_ff c22 h
      refine lv_iload_n hx hb d_Pg_inClasses_28 rfl (lv_at hl 2 rfl) ?_
      refine lv_bipush (v := (122:Int32)) hx hb d_Pg_inClasses_29 (by decide) ?_
      refine lv_icmp_le (tgt := 52) hx hb d_Pg_inClasses_31 (by decide) (fun c26 => ?_) (fun c26 => ?_)
      · replace h := o_tt c26 h
        refine lv_iconst (v := (1:Int32)) hx hb d_Pg_inClasses_52 (by decide) ?_
        refine lv_goto (tgt := 57) hx hb d_Pg_inClasses_53 (by decide) ?_
        exact w_Pg_inClasses_j57 hE C hDD x0 x1 y0 (1:Int32) Sj T0 T1 Rd Pg Pt Mk Lk Ck Jd Ld Pr rt h _ _ _ hP hS (lv_sub hl [1, 2, 0] rfl)
      · replace h := o_ff c26 h
        exact w_Pg_inClasses_j34 hE C hDD x0 x1 y0 Sj T0 T1 Rd Pg Pt Mk Lk Ck Jd Ld Pr rt h _ _ _ hP hS (lv_sub hl [1, 2, 0] rfl)
set_option maxHeartbeats 4000000 in
set_option maxRecDepth 100000 in
theorem c_Pg_inClasses {E : (Nat → Prop) → State → Heap → Prop} {D : va_G} {ad kd sd : Nat → Nat} {ca : Nat → ClassId} (hE : o_EK E kd sd) (l : Launch) (x0 : Int32) (x1 : Int32) (Sj : SSJ) (T0 : STx) (T1 : STx) (Rd : SRd) (Pg : SPg) (Pt : SPt) (Mk : SMk) (Lk : SLk) (Ck : SCk) (Jd : SJd) (Ld : SLd) (Pr : SPr) (rt : Nat) {r : Int32} (h : m_Pg_inClasses x0 x1 = some r) : o_Cn E l D o_cls (o_tys ca) y_Pg_inClasses cc_Pg_inClasses rm_Pg_inClasses [.int x0, .int x1] (o_cw ad ca rt Sj T0 T1 Rd Pg Pt Mk Lk Ck Jd Ld Pr) (o_cw ad ca rt Sj T0 T1 Rd Pg Pt Mk Lk Ck Jd Ld Pr) (some (.int r)) := by
  refine o_Cn_of (by decide) (Nat.le_of_ble_eq_true rfl) ?_
  intro p e s m below meth c A ls C hD hP hS hl
  have hDD : ∀ (rt : Nat) (Sj : SSJ) (T0 : STx) (T1 : STx) (Rd : SRd) (Pg : SPg) (Pt : SPt) (Mk : SMk) (Lk : SLk) (Ck : SCk) (Jd : SJd) (Ld : SLd) (Pr : SPr), va_D A (o_cw ad ca rt Sj T0 T1 Rd Pg Pt Mk Lk Ck Jd Ld Pr) := fun _ _ _ _ _ _ _ _ _ _ _ _ _ => o_D_map hD rfl
  have hl : lv_has ls 5 [(0, .int x0), (1, .int x1)] := hl
  unfold m_Pg_inClasses at h
  have C0 := C
  obtain ⟨hx, hb, -, -, -, hown, hts, hK, -, -⟩ := C0
  refine lv_iload_n hx hb d_Pg_inClasses_0 rfl (lv_at hl 1 rfl) ?_
  refine lv_bipush (v := (48:Int32)) hx hb d_Pg_inClasses_1 (by decide) ?_
  refine lv_icmp_lt (tgt := 16) hx hb d_Pg_inClasses_3 (by decide) (fun c1 => ?_) (fun c1 => ?_)
  · replace h := o_tt c1 h
    refine lv_iconst (v := (0:Int32)) hx hb d_Pg_inClasses_16 (by decide) ?_
    exact w_Pg_inClasses_j17 hE C hDD x0 x1 (0:Int32) Sj T0 T1 Rd Pg Pt Mk Lk Ck Jd Ld Pr rt h _ _ _ hP hS (lv_sub hl [0, 1] rfl)
  · replace h := o_ff c1 h
    refine lv_iload_n hx hb d_Pg_inClasses_6 rfl (lv_at hl 1 rfl) ?_
    refine lv_bipush (v := (57:Int32)) hx hb d_Pg_inClasses_7 (by decide) ?_
    refine lv_icmp_gt (tgt := 16) hx hb d_Pg_inClasses_9 (by decide) (fun c27 => ?_) (fun c27 => ?_)
    · replace h := o_tt c27 h
      refine lv_iconst (v := (0:Int32)) hx hb d_Pg_inClasses_16 (by decide) ?_
      exact w_Pg_inClasses_j17 hE C hDD x0 x1 (0:Int32) Sj T0 T1 Rd Pg Pt Mk Lk Ck Jd Ld Pr rt h _ _ _ hP hS (lv_sub hl [0, 1] rfl)
    · replace h := o_ff c27 h
      refine lv_iconst (v := (1:Int32)) hx hb d_Pg_inClasses_12 (by decide) ?_
      refine lv_goto (tgt := 17) hx hb d_Pg_inClasses_13 (by decide) ?_
      exact w_Pg_inClasses_j17 hE C hDD x0 x1 (1:Int32) Sj T0 T1 Rd Pg Pt Mk Lk Ck Jd Ld Pr rt h _ _ _ hP hS (lv_sub hl [0, 1] rfl)
set_option maxHeartbeats 4000000 in
set_option maxRecDepth 100000 in
theorem w_Pg_inRanges_b27 {E : (Nat → Prop) → State → Heap → Prop} {p : Program} {l : Launch} {e : Env} {s : State} {m : MethodId} {args : Array Value} {below : List Frame} {meth : Method} {c : Code} {D : va_G} {ad kd sd : Nat → Nat} {ca : Nat → ClassId} {A : Nat → Prop} {Q : State → Prop} (hE : o_EK E kd sd) (C : o_Cx E p s m args meth c D o_cls (o_tys ca) "SchemaJudge$Program" b_Pg_inRanges (some .boolean) 6 cc_Pg_inRanges A) (hDD : ∀ (rt : Nat) (Sj : SSJ) (T0 : STx) (T1 : STx) (Rd : SRd) (Pg : SPg) (Pt : SPt) (Mk : SMk) (Lk : SLk) (Ck : SCk) (Jd : SJd) (Ld : SLd) (Pr : SPr), va_D A (o_cw ad ca rt Sj T0 T1 Rd Pg Pt Mk Lk Ck Jd Ld Pr)) (n : Nat) (u27_x1 : Int32) (u27_x2 : Int32) (u27_x3 : Int32) (u27_Pg : SPg) (u27_Sj : SSJ) (u27_T0 : STx) (u27_T1 : STx) (u27_Rd : SRd) (u27_Pt : SPt) (u27_Mk : SMk) (u27_Lk : SLk) (u27_Ck : SCk) (u27_Jd : SJd) (u27_Ld : SLd) (u27_Pr : SPr) (u27_rt : Nat) (z : Int32) (q : Nat × Int32) (h : m_Pg_inRanges_b27 n u27_x1 u27_x2 u27_x3 u27_Pg z = some q) (h0 : q.1 = 0 → o_At p l e rm_Pg_inRanges s m args below meth c Q o_cls D A 6 27 [] (o_cw ad ca u27_rt u27_Sj u27_T0 u27_T1 u27_Rd u27_Pg u27_Pt u27_Mk u27_Lk u27_Ck u27_Jd u27_Ld u27_Pr) [(0, .ref (ad 25)), (1, .int u27_x1), (2, .int u27_x2), (3, .int u27_x3), (4, .int q.2)]) (h1 : q.1 ≠ 0 → (if q.1 = 1 then o_At p l e rm_Pg_inRanges s m args below meth c Q o_cls D A 6 79 [] (o_cw ad ca u27_rt u27_Sj u27_T0 u27_T1 u27_Rd u27_Pg u27_Pt u27_Mk u27_Lk u27_Ck u27_Jd u27_Ld u27_Pr) [] else o_At p l e rm_Pg_inRanges s m args below meth c Q o_cls D A 6 87 [] (o_cw ad ca u27_rt u27_Sj u27_T0 u27_T1 u27_Rd u27_Pg u27_Pt u27_Mk u27_Lk u27_Ck u27_Jd u27_Ld u27_Pr) [])) : o_At p l e rm_Pg_inRanges s m args below meth c Q o_cls D A 6 27 [] (o_cw ad ca u27_rt u27_Sj u27_T0 u27_T1 u27_Rd u27_Pg u27_Pt u27_Mk u27_Lk u27_Ck u27_Jd u27_Ld u27_Pr) [(0, .ref (ad 25)), (1, .int u27_x1), (2, .int u27_x2), (3, .int u27_x3), (4, .int z)] := by
  unfold m_Pg_inRanges_b27 at h
  intro H locs ls hP hS hl
  have C0 := C
  obtain ⟨hx, hb, -, -, -, hown, hts, hK, -, -⟩ := C0
  refine lv_iload hx hb d_Pg_inRanges_27 (lv_at hl 4 rfl) ?_
  refine lv_iload_n hx hb d_Pg_inRanges_29 rfl (lv_at hl 3 rfl) ?_
  refine lv_icmp_ge (tgt := 87) hx hb d_Pg_inRanges_30 (by decide) (fun c2 => ?_) (fun c2 => ?_)
  · replace h := o_tt c2 h
    cases h
    exact h1 (Nat.succ_ne_zero 1) _ _ _ hP hS (lv_sub hl [] rfl)
  · replace h := o_ff c2 h
    refine lv_iload_n hx hb d_Pg_inRanges_33 rfl (lv_at hl 1 rfl) ?_
    refine lv_iconst (v := (2:Int32)) hx hb d_Pg_inRanges_34 (by decide) ?_
    refine lv_iadd hx hb d_Pg_inRanges_35 ?_
    refine lv_iconst (v := (2:Int32)) hx hb d_Pg_inRanges_36 (by decide) ?_
    refine lv_iload hx hb d_Pg_inRanges_37 (lv_at hl 4 rfl) ?_
    refine lv_imul hx hb d_Pg_inRanges_39 ?_
    refine lv_iadd hx hb d_Pg_inRanges_40 ?_
    refine lv_topi (fun x5_41 ex5_41 => ?_)
    replace h := o_nm_at ex5_41 h
    refine lv_istore (lv' := [(5, .int x5_41), (0, .ref (ad 25)), (1, .int u27_x1), (2, .int u27_x2), (3, .int u27_x3), (4, .int z)]) hx hb d_Pg_inRanges_41 hl (by decide) rfl (fun ls hl => ?_)
    refine lv_iload hx hb d_Pg_inRanges_43 (lv_at hl 0 rfl) ?_
    refine lv_iconst (v := (1:Int32)) hx hb d_Pg_inRanges_45 (by decide) ?_
    refine lv_iadd hx hb d_Pg_inRanges_46 ?_
    refine lv_aload_n hx hb d_Pg_inRanges_47 rfl (lv_at hl 1 rfl) ?_
    refine o_get (v := .ref (ad 28)) C in_Pg hP 25 cw_25 rfl 3 (by decide) k_1_123 rfl rfl d_Pg_inRanges_48 ?_
    refine va_alen (v := (8000:Int32)) hx hb hK hP 28 23 cw_28 rfl rfl d_Pg_inRanges_51 ?_
    refine lv_icmp_ge (tgt := 81) hx hb d_Pg_inRanges_52 (by decide) (fun c3 => ?_) (fun c3 => ?_)
    · replace h := o_tt c3 h
      obtain ⟨x4_81, ex4_81⟩ : ∃ y : Int32, y = z + (1:Int32) := ⟨_, rfl⟩
      replace h := o_nm_at ex4_81 h
      refine lv_iinc (v := x4_81) (lv' := [(4, .int x4_81), (5, .int x5_41), (0, .ref (ad 25)), (1, .int u27_x1), (2, .int u27_x2), (3, .int u27_x3)]) hx hb d_Pg_inRanges_81 hl (k := 5) rfl (by rw [ex4_81]; rfl) (by decide) rfl (fun ls hl => ?_)
      refine lv_goto (tgt := 27) hx hb d_Pg_inRanges_84 (by decide) ?_
      cases h
      exact h0 rfl _ _ _ hP hS (lv_sub hl [2, 3, 4, 5, 0] rfl)
    · replace h := o_ff c3 h
      refine lv_iload_n hx hb d_Pg_inRanges_55 rfl (lv_at hl 3 rfl) ?_
      refine lv_aload_n hx hb d_Pg_inRanges_56 rfl (lv_at hl 1 rfl) ?_
      refine o_get (v := .ref (ad 28)) C in_Pg hP 25 cw_25 rfl 3 (by decide) k_1_123 rfl rfl d_Pg_inRanges_57 ?_
      refine lv_iload hx hb d_Pg_inRanges_60 (lv_at hl 0 rfl) ?_
      obtain ⟨g4, h⟩ := o_gd_some h
      refine o_iald (f := (Pg_sets u27_Pg)) C hP 28 23 cw_28 rfl g4 d_Pg_inRanges_62 ?_
      refine lv_icmp_lt (tgt := 81) hx hb d_Pg_inRanges_63 (by decide) (fun c5 => ?_) (fun c5 => ?_)
      · replace h := o_tt c5 h
        obtain ⟨x4_81, ex4_81⟩ : ∃ y : Int32, y = z + (1:Int32) := ⟨_, rfl⟩
        replace h := o_nm_at ex4_81 h
        refine lv_iinc (v := x4_81) (lv' := [(4, .int x4_81), (5, .int x5_41), (0, .ref (ad 25)), (1, .int u27_x1), (2, .int u27_x2), (3, .int u27_x3)]) hx hb d_Pg_inRanges_81 hl (k := 5) rfl (by rw [ex4_81]; rfl) (by decide) rfl (fun ls hl => ?_)
        refine lv_goto (tgt := 27) hx hb d_Pg_inRanges_84 (by decide) ?_
        cases h
        exact h0 rfl _ _ _ hP hS (lv_sub hl [2, 3, 4, 5, 0] rfl)
      · replace h := o_ff c5 h
        refine lv_iload_n hx hb d_Pg_inRanges_66 rfl (lv_at hl 3 rfl) ?_
        refine lv_aload_n hx hb d_Pg_inRanges_67 rfl (lv_at hl 1 rfl) ?_
        refine o_get (v := .ref (ad 28)) C in_Pg hP 25 cw_25 rfl 3 (by decide) k_1_123 rfl rfl d_Pg_inRanges_68 ?_
        refine lv_iload hx hb d_Pg_inRanges_71 (lv_at hl 0 rfl) ?_
        refine lv_iconst (v := (1:Int32)) hx hb d_Pg_inRanges_73 (by decide) ?_
        refine lv_iadd hx hb d_Pg_inRanges_74 ?_
        obtain ⟨g6, h⟩ := o_gd_some h
        refine o_iald (f := (Pg_sets u27_Pg)) C hP 28 23 cw_28 rfl g6 d_Pg_inRanges_75 ?_
        refine lv_icmp_gt (tgt := 81) hx hb d_Pg_inRanges_76 (by decide) (fun c7 => ?_) (fun c7 => ?_)
        · replace h := o_tt c7 h
          obtain ⟨x4_81, ex4_81⟩ : ∃ y : Int32, y = z + (1:Int32) := ⟨_, rfl⟩
          replace h := o_nm_at ex4_81 h
          refine lv_iinc (v := x4_81) (lv' := [(4, .int x4_81), (5, .int x5_41), (0, .ref (ad 25)), (1, .int u27_x1), (2, .int u27_x2), (3, .int u27_x3)]) hx hb d_Pg_inRanges_81 hl (k := 5) rfl (by rw [ex4_81]; rfl) (by decide) rfl (fun ls hl => ?_)
          refine lv_goto (tgt := 27) hx hb d_Pg_inRanges_84 (by decide) ?_
          cases h
          exact h0 rfl _ _ _ hP hS (lv_sub hl [2, 3, 4, 5, 0] rfl)
        · replace h := o_ff c7 h
          cases h
          exact h1 (Nat.succ_ne_zero 0) _ _ _ hP hS (lv_sub hl [] rfl)
set_option maxHeartbeats 4000000 in
set_option maxRecDepth 100000 in
theorem c_Pg_inRanges {E : (Nat → Prop) → State → Heap → Prop} {D : va_G} {ad kd sd : Nat → Nat} {ca : Nat → ClassId} (hE : o_EK E kd sd) (l : Launch) (n : Nat) (x1 : Int32) (x2 : Int32) (Pg : SPg) (Sj : SSJ) (T0 : STx) (T1 : STx) (Rd : SRd) (Pt : SPt) (Mk : SMk) (Lk : SLk) (Ck : SCk) (Jd : SJd) (Ld : SLd) (Pr : SPr) (rt : Nat) {r : Int32} (h : m_Pg_inRanges n x1 x2 Pg = some r) : o_Cn E l D o_cls (o_tys ca) y_Pg_inRanges cc_Pg_inRanges rm_Pg_inRanges [.ref (ad 25), .int x1, .int x2] (o_cw ad ca rt Sj T0 T1 Rd Pg Pt Mk Lk Ck Jd Ld Pr) (o_cw ad ca rt Sj T0 T1 Rd Pg Pt Mk Lk Ck Jd Ld Pr) (some (.int r)) := by
  refine o_Cn_of (by decide) (Nat.le_of_ble_eq_true rfl) ?_
  intro p e s m below meth c A ls C hD hP hS hl
  have hDD : ∀ (rt : Nat) (Sj : SSJ) (T0 : STx) (T1 : STx) (Rd : SRd) (Pg : SPg) (Pt : SPt) (Mk : SMk) (Lk : SLk) (Ck : SCk) (Jd : SJd) (Ld : SLd) (Pr : SPr), va_D A (o_cw ad ca rt Sj T0 T1 Rd Pg Pt Mk Lk Ck Jd Ld Pr) := fun _ _ _ _ _ _ _ _ _ _ _ _ _ => o_D_map hD rfl
  have hl : lv_has ls 6 [(0, .ref (ad 25)), (1, .int x1), (2, .int x2)] := hl
  unfold m_Pg_inRanges at h
  have C0 := C
  obtain ⟨hx, hb, -, -, -, hown, hts, hK, -, -⟩ := C0
  refine lv_iload_n hx hb d_Pg_inRanges_0 rfl (lv_at hl 1 rfl) ?_
  refine lv_if_lt (tgt := 22) hx hb d_Pg_inRanges_1 (by decide) (fun c1 => ?_) (fun c1 => ?_)
  · replace h := o_tt c1 h
    refine lv_iconst (v := (0:Int32)) hx hb d_Pg_inRanges_22 (by decide) ?_
    refine lv_istore_n (lv' := [(3, .int (0:Int32)), (0, .ref (ad 25)), (1, .int x1), (2, .int x2)]) hx hb d_Pg_inRanges_23 rfl hl (by decide) rfl (fun ls hl => ?_)
    refine lv_iconst (v := (0:Int32)) hx hb d_Pg_inRanges_24 (by decide) ?_
    refine lv_istore (lv' := [(4, .int (0:Int32)), (3, .int (0:Int32)), (0, .ref (ad 25)), (1, .int x1), (2, .int x2)]) hx hb d_Pg_inRanges_25 hl (by decide) rfl (fun ls hl => ?_)
    obtain ⟨q1, hq1, h⟩ := o_bd_some h
    refine o_sim2 (AH := fun zz => o_At p l e rm_Pg_inRanges s m _ below meth c _ o_cls D A 6 27 [] (o_cw ad ca rt Sj T0 T1 Rd Pg Pt Mk Lk Ck Jd Ld Pr) [(0, .ref (ad 25)), (1, .int x1), (2, .int x2), (3, .int (0:Int32)), (4, .int zz)]) (AX := fun qq => if qq.1 = 1 then o_At p l e rm_Pg_inRanges s m _ below meth c _ o_cls D A 6 79 [] (o_cw ad ca rt Sj T0 T1 Rd Pg Pt Mk Lk Ck Jd Ld Pr) [] else o_At p l e rm_Pg_inRanges s m _ below meth c _ o_cls D A 6 87 [] (o_cw ad ca rt Sj T0 T1 Rd Pg Pt Mk Lk Ck Jd Ld Pr) []) (fun zz qq h h0 h1 => w_Pg_inRanges_b27 hE C hDD n x1 x2 (0:Int32) Pg Sj T0 T1 Rd Pt Mk Lk Ck Jd Ld Pr rt zz qq h h0 h1) n _ q1 hq1 ?_ _ _ _ hP hS (lv_sub hl [2, 3, 4, 1, 0] rfl)
    by_cases c8 : q1.1 = 1
    · replace h := o_tt c8 h
      refine o_ip c8 ?_
      intro H locs ls hP hS hl
      refine lv_iconst (v := (1:Int32)) hx hb d_Pg_inRanges_79 (by decide) ?_
      cases h
      exact o_rz (v := (1:Int32)) C o_nar1 hP hS d_Pg_inRanges_80
    replace h := o_ff c8 h
    refine o_in_ c8 ?_
    intro H locs ls hP hS hl
    refine lv_iconst (v := (0:Int32)) hx hb d_Pg_inRanges_87 (by decide) ?_
    cases h
    exact o_rz (v := (0:Int32)) C o_nar0 hP hS d_Pg_inRanges_88
  · replace h := o_ff c1 h
    refine lv_iload_n hx hb d_Pg_inRanges_4 rfl (lv_at hl 1 rfl) ?_
    refine lv_aload_n hx hb d_Pg_inRanges_5 rfl (lv_at hl 0 rfl) ?_
    refine o_get (v := .ref (ad 28)) C in_Pg hP 25 cw_25 rfl 3 (by decide) k_1_123 rfl rfl d_Pg_inRanges_6 ?_
    refine va_alen (v := (8000:Int32)) hx hb hK hP 28 23 cw_28 rfl rfl d_Pg_inRanges_9 ?_
    refine lv_icmp_ge (tgt := 22) hx hb d_Pg_inRanges_10 (by decide) (fun c9 => ?_) (fun c9 => ?_)
    · replace h := o_tt c9 h
      refine lv_iconst (v := (0:Int32)) hx hb d_Pg_inRanges_22 (by decide) ?_
      refine lv_istore_n (lv' := [(3, .int (0:Int32)), (0, .ref (ad 25)), (1, .int x1), (2, .int x2)]) hx hb d_Pg_inRanges_23 rfl hl (by decide) rfl (fun ls hl => ?_)
      refine lv_iconst (v := (0:Int32)) hx hb d_Pg_inRanges_24 (by decide) ?_
      refine lv_istore (lv' := [(4, .int (0:Int32)), (3, .int (0:Int32)), (0, .ref (ad 25)), (1, .int x1), (2, .int x2)]) hx hb d_Pg_inRanges_25 hl (by decide) rfl (fun ls hl => ?_)
      obtain ⟨q2, hq2, h⟩ := o_bd_some h
      refine o_sim2 (AH := fun zz => o_At p l e rm_Pg_inRanges s m _ below meth c _ o_cls D A 6 27 [] (o_cw ad ca rt Sj T0 T1 Rd Pg Pt Mk Lk Ck Jd Ld Pr) [(0, .ref (ad 25)), (1, .int x1), (2, .int x2), (3, .int (0:Int32)), (4, .int zz)]) (AX := fun qq => if qq.1 = 1 then o_At p l e rm_Pg_inRanges s m _ below meth c _ o_cls D A 6 79 [] (o_cw ad ca rt Sj T0 T1 Rd Pg Pt Mk Lk Ck Jd Ld Pr) [] else o_At p l e rm_Pg_inRanges s m _ below meth c _ o_cls D A 6 87 [] (o_cw ad ca rt Sj T0 T1 Rd Pg Pt Mk Lk Ck Jd Ld Pr) []) (fun zz qq h h0 h1 => w_Pg_inRanges_b27 hE C hDD n x1 x2 (0:Int32) Pg Sj T0 T1 Rd Pt Mk Lk Ck Jd Ld Pr rt zz qq h h0 h1) n _ q2 hq2 ?_ _ _ _ hP hS (lv_sub hl [2, 3, 4, 1, 0] rfl)
      by_cases c10 : q2.1 = 1
      · replace h := o_tt c10 h
        refine o_ip c10 ?_
        intro H locs ls hP hS hl
        refine lv_iconst (v := (1:Int32)) hx hb d_Pg_inRanges_79 (by decide) ?_
        cases h
        exact o_rz (v := (1:Int32)) C o_nar1 hP hS d_Pg_inRanges_80
      replace h := o_ff c10 h
      refine o_in_ c10 ?_
      intro H locs ls hP hS hl
      refine lv_iconst (v := (0:Int32)) hx hb d_Pg_inRanges_87 (by decide) ?_
      cases h
      exact o_rz (v := (0:Int32)) C o_nar0 hP hS d_Pg_inRanges_88
    · replace h := o_ff c9 h
      refine lv_aload_n hx hb d_Pg_inRanges_13 rfl (lv_at hl 0 rfl) ?_
      refine o_get (v := .ref (ad 28)) C in_Pg hP 25 cw_25 rfl 3 (by decide) k_1_123 rfl rfl d_Pg_inRanges_14 ?_
      refine lv_iload_n hx hb d_Pg_inRanges_17 rfl (lv_at hl 1 rfl) ?_
      obtain ⟨g11, h⟩ := o_gd_some h
      refine o_iald (f := (Pg_sets Pg)) C hP 28 23 cw_28 rfl g11 d_Pg_inRanges_18 ?_
      refine lv_goto (tgt := 23) hx hb d_Pg_inRanges_19 (by decide) ?_
      refine lv_topi (fun x3_23 ex3_23 => ?_)
      replace h := o_nm_at ex3_23 h
      refine lv_istore_n (lv' := [(3, .int x3_23), (0, .ref (ad 25)), (1, .int x1), (2, .int x2)]) hx hb d_Pg_inRanges_23 rfl hl (by decide) rfl (fun ls hl => ?_)
      refine lv_iconst (v := (0:Int32)) hx hb d_Pg_inRanges_24 (by decide) ?_
      refine lv_istore (lv' := [(4, .int (0:Int32)), (3, .int x3_23), (0, .ref (ad 25)), (1, .int x1), (2, .int x2)]) hx hb d_Pg_inRanges_25 hl (by decide) rfl (fun ls hl => ?_)
      obtain ⟨q3, hq3, h⟩ := o_bd_some h
      refine o_sim2 (AH := fun zz => o_At p l e rm_Pg_inRanges s m _ below meth c _ o_cls D A 6 27 [] (o_cw ad ca rt Sj T0 T1 Rd Pg Pt Mk Lk Ck Jd Ld Pr) [(0, .ref (ad 25)), (1, .int x1), (2, .int x2), (3, .int x3_23), (4, .int zz)]) (AX := fun qq => if qq.1 = 1 then o_At p l e rm_Pg_inRanges s m _ below meth c _ o_cls D A 6 79 [] (o_cw ad ca rt Sj T0 T1 Rd Pg Pt Mk Lk Ck Jd Ld Pr) [] else o_At p l e rm_Pg_inRanges s m _ below meth c _ o_cls D A 6 87 [] (o_cw ad ca rt Sj T0 T1 Rd Pg Pt Mk Lk Ck Jd Ld Pr) []) (fun zz qq h h0 h1 => w_Pg_inRanges_b27 hE C hDD n x1 x2 x3_23 Pg Sj T0 T1 Rd Pt Mk Lk Ck Jd Ld Pr rt zz qq h h0 h1) n _ q3 hq3 ?_ _ _ _ hP hS (lv_sub hl [2, 3, 4, 1, 0] rfl)
      by_cases c12 : q3.1 = 1
      · replace h := o_tt c12 h
        refine o_ip c12 ?_
        intro H locs ls hP hS hl
        refine lv_iconst (v := (1:Int32)) hx hb d_Pg_inRanges_79 (by decide) ?_
        cases h
        exact o_rz (v := (1:Int32)) C o_nar1 hP hS d_Pg_inRanges_80
      replace h := o_ff c12 h
      refine o_in_ c12 ?_
      intro H locs ls hP hS hl
      refine lv_iconst (v := (0:Int32)) hx hb d_Pg_inRanges_87 (by decide) ?_
      cases h
      exact o_rz (v := (0:Int32)) C o_nar0 hP hS d_Pg_inRanges_88
set_option maxHeartbeats 4000000 in
set_option maxRecDepth 100000 in
theorem w_Pg_accepts_j166 {E : (Nat → Prop) → State → Heap → Prop} {p : Program} {l : Launch} {e : Env} {s : State} {m : MethodId} {args : Array Value} {below : List Frame} {meth : Method} {c : Code} {D : va_G} {ad kd sd : Nat → Nat} {ca : Nat → ClassId} {A : Nat → Prop} (hE : o_EK E kd sd) (C : o_Cx E p s m args meth c D o_cls (o_tys ca) "SchemaJudge$Program" b_Pg_accepts (some .boolean) 5 cc_Pg_accepts A) (hDD : ∀ (rt : Nat) (Sj : SSJ) (T0 : STx) (T1 : STx) (Rd : SRd) (Pg : SPg) (Pt : SPt) (Mk : SMk) (Lk : SLk) (Ck : SCk) (Jd : SJd) (Ld : SLd) (Pr : SPr), va_D A (o_cw ad ca rt Sj T0 T1 Rd Pg Pt Mk Lk Ck Jd Ld Pr)) (n : Nat) (y0 : Int32) (y1 : Int32) (Pg : SPg) (Sj : SSJ) (T0 : STx) (T1 : STx) (Rd : SRd) (Pt : SPt) (Mk : SMk) (Lk : SLk) (Ck : SCk) (Jd : SJd) (Ld : SLd) (Pr : SPr) (rt : Nat) {r : Int32} (h : m_Pg_accepts_j166 n y0 y1 Pg = some r) : o_At p l e rm_Pg_accepts s m args below meth c (MQ below (o_Qx D o_cls (some (.int r)) (o_cw ad ca rt Sj T0 T1 Rd Pg Pt Mk Lk Ck Jd Ld Pr) A) args s 0 0 A) o_cls D A 5 166 [.int y1, .int y0] (o_cw ad ca rt Sj T0 T1 Rd Pg Pt Mk Lk Ck Jd Ld Pr) [] := by
  unfold m_Pg_accepts_j166 at h
  intro H locs ls hP hS hl
  have C0 := C
  obtain ⟨hx, hb, -, -, -, hown, hts, hK, -, -⟩ := C0
  refine lv_icmp_eq (tgt := 173) hx hb d_Pg_accepts_166 (by decide) (fun c17 => ?_) (fun c17 => ?_)
  · replace h := o_tt c17 h
    refine lv_iconst (v := (0:Int32)) hx hb d_Pg_accepts_173 (by decide) ?_
    cases h
    exact o_rz (v := (0:Int32)) C o_nar0 hP hS d_Pg_accepts_174
  · replace h := o_ff c17 h
    refine lv_iconst (v := (1:Int32)) hx hb d_Pg_accepts_169 (by decide) ?_
    refine lv_goto (tgt := 174) hx hb d_Pg_accepts_170 (by decide) ?_
    cases h
    exact o_rz (v := (1:Int32)) C o_nar1 hP hS d_Pg_accepts_174
set_option maxHeartbeats 4000000 in
set_option maxRecDepth 100000 in
theorem w_Pg_accepts_j153 {E : (Nat → Prop) → State → Heap → Prop} {p : Program} {l : Launch} {e : Env} {s : State} {m : MethodId} {args : Array Value} {below : List Frame} {meth : Method} {c : Code} {D : va_G} {ad kd sd : Nat → Nat} {ca : Nat → ClassId} {A : Nat → Prop} (hE : o_EK E kd sd) (C : o_Cx E p s m args meth c D o_cls (o_tys ca) "SchemaJudge$Program" b_Pg_accepts (some .boolean) 5 cc_Pg_accepts A) (hDD : ∀ (rt : Nat) (Sj : SSJ) (T0 : STx) (T1 : STx) (Rd : SRd) (Pg : SPg) (Pt : SPt) (Mk : SMk) (Lk : SLk) (Ck : SCk) (Jd : SJd) (Ld : SLd) (Pr : SPr), va_D A (o_cw ad ca rt Sj T0 T1 Rd Pg Pt Mk Lk Ck Jd Ld Pr)) (n : Nat) (x4 : Int32) (y0 : Int32) (Pg : SPg) (Sj : SSJ) (T0 : STx) (T1 : STx) (Rd : SRd) (Pt : SPt) (Mk : SMk) (Lk : SLk) (Ck : SCk) (Jd : SJd) (Ld : SLd) (Pr : SPr) (rt : Nat) {r : Int32} (h : m_Pg_accepts_j153 n x4 y0 Pg = some r) : o_At p l e rm_Pg_accepts s m args below meth c (MQ below (o_Qx D o_cls (some (.int r)) (o_cw ad ca rt Sj T0 T1 Rd Pg Pt Mk Lk Ck Jd Ld Pr) A) args s 0 0 A) o_cls D A 5 153 [.int y0] (o_cw ad ca rt Sj T0 T1 Rd Pg Pt Mk Lk Ck Jd Ld Pr) [(4, .int x4)] := by
  unfold m_Pg_accepts_j153 at h
  intro H locs ls hP hS hl
  have C0 := C
  obtain ⟨hx, hb, -, -, -, hown, hts, hK, -, -⟩ := C0
  refine lv_iload hx hb d_Pg_accepts_153 (lv_at hl 0 rfl) ?_
  refine lv_bipush (v := (64:Int32)) hx hb d_Pg_accepts_155 (by decide) ?_
  refine lv_iand hx hb d_Pg_accepts_157 ?_
  refine lv_if_eq (tgt := 165) hx hb d_Pg_accepts_158 (by decide) (fun c16 => ?_) (fun c16 => ?_)
  · replace h := o_tt c16 h
    refine lv_iconst (v := (0:Int32)) hx hb d_Pg_accepts_165 (by decide) ?_
    exact w_Pg_accepts_j166 hE C hDD n y0 (0:Int32) Pg Sj T0 T1 Rd Pt Mk Lk Ck Jd Ld Pr rt h _ _ _ hP hS (lv_sub hl [] rfl)
  · replace h := o_ff c16 h
    refine lv_iconst (v := (1:Int32)) hx hb d_Pg_accepts_161 (by decide) ?_
    refine lv_goto (tgt := 166) hx hb d_Pg_accepts_162 (by decide) ?_
    exact w_Pg_accepts_j166 hE C hDD n y0 (1:Int32) Pg Sj T0 T1 Rd Pt Mk Lk Ck Jd Ld Pr rt h _ _ _ hP hS (lv_sub hl [] rfl)
set_option maxHeartbeats 4000000 in
set_option maxRecDepth 100000 in
theorem w_Pg_accepts_j128 {E : (Nat → Prop) → State → Heap → Prop} {p : Program} {l : Launch} {e : Env} {s : State} {m : MethodId} {args : Array Value} {below : List Frame} {meth : Method} {c : Code} {D : va_G} {ad kd sd : Nat → Nat} {ca : Nat → ClassId} {A : Nat → Prop} (hE : o_EK E kd sd) (C : o_Cx E p s m args meth c D o_cls (o_tys ca) "SchemaJudge$Program" b_Pg_accepts (some .boolean) 5 cc_Pg_accepts A) (hDD : ∀ (rt : Nat) (Sj : SSJ) (T0 : STx) (T1 : STx) (Rd : SRd) (Pg : SPg) (Pt : SPt) (Mk : SMk) (Lk : SLk) (Ck : SCk) (Jd : SJd) (Ld : SLd) (Pr : SPr), va_D A (o_cw ad ca rt Sj T0 T1 Rd Pg Pt Mk Lk Ck Jd Ld Pr)) (n : Nat) (x2 : Int32) (x3 : Int32) (y0 : Int32) (Pg : SPg) (Sj : SSJ) (T0 : STx) (T1 : STx) (Rd : SRd) (Pt : SPt) (Mk : SMk) (Lk : SLk) (Ck : SCk) (Jd : SJd) (Ld : SLd) (Pr : SPr) (rt : Nat) {r : Int32} (h : m_Pg_accepts_j128 n x2 x3 y0 Pg = some r) : o_At p l e rm_Pg_accepts s m args below meth c (MQ below (o_Qx D o_cls (some (.int r)) (o_cw ad ca rt Sj T0 T1 Rd Pg Pt Mk Lk Ck Jd Ld Pr) A) args s 0 0 A) o_cls D A 5 128 [.int y0] (o_cw ad ca rt Sj T0 T1 Rd Pg Pt Mk Lk Ck Jd Ld Pr) [(0, .ref (ad 25)), (2, .int x2), (3, .int x3)] := by
  unfold m_Pg_accepts_j128 at h
  intro H locs ls hP hS hl
  have C0 := C
  obtain ⟨hx, hb, -, -, -, hown, hts, hK, -, -⟩ := C0
  refine lv_istore (lv' := [(4, .int y0), (0, .ref (ad 25)), (2, .int x2), (3, .int x3)]) hx hb d_Pg_accepts_128 hl (by decide) rfl (fun ls hl => ?_)
  refine lv_aload_n hx hb d_Pg_accepts_130 rfl (lv_at hl 1 rfl) ?_
  refine lv_iload_n hx hb d_Pg_accepts_131 rfl (lv_at hl 3 rfl) ?_
  refine lv_iload_n hx hb d_Pg_accepts_132 rfl (lv_at hl 2 rfl) ?_
  obtain ⟨q2, hq2, h⟩ := o_bd_some h
  refine o_V (st1 := [.int q2]) (w1 := (o_cw ad ca rt Sj T0 T1 Rd Pg Pt Mk Lk Ck Jd Ld Pr)) hE.1 C (c_Pg_inRanges hE l n x3 x2 Pg Sj T0 T1 Rd Pt Mk Lk Ck Jd Ld Pr rt hq2) hP (hDD _ _ _ _ _ _ _ _ _ _ _ _ _) hS hl.1 rfl cw_25 k_6_107 k_6_109 k_s_66 k_1_4 k_6_110 hv_Pg_inRanges rfl rfl ⟨(Nat.le_of_ble_eq_true rfl), (Nat.le_of_ble_eq_true rfl)⟩ rfl (Nat.le_of_ble_eq_true rfl) ⟨Nat.zero_le _, Nat.zero_le _⟩ rfl d_Pg_accepts_133 (fun H locs hP hS => ?_)
  refine lv_if_ne (tgt := 148) hx hb d_Pg_accepts_136 (by decide) (fun c15 => ?_) (fun c15 => ?_)
  · replace h := o_ff c15 h
    refine lv_iconst (v := (1:Int32)) hx hb d_Pg_accepts_148 (by decide) ?_
    refine lv_goto (tgt := 153) hx hb d_Pg_accepts_149 (by decide) ?_
    exact w_Pg_accepts_j153 hE C hDD n y0 (1:Int32) Pg Sj T0 T1 Rd Pt Mk Lk Ck Jd Ld Pr rt h _ _ _ hP hS (lv_sub hl [0] rfl)
  · replace h := o_tt c15 h
    refine lv_iload hx hb d_Pg_accepts_139 (lv_at hl 0 rfl) ?_
    refine lv_iload_n hx hb d_Pg_accepts_141 rfl (lv_at hl 2 rfl) ?_
    obtain ⟨q3, hq3, h⟩ := o_bd_some h
    refine o_S (st1 := [.int q3]) (w1 := (o_cw ad ca rt Sj T0 T1 Rd Pg Pt Mk Lk Ck Jd Ld Pr)) hE.1 C (c_Pg_inClasses hE l y0 x2 Sj T0 T1 Rd Pg Pt Mk Lk Ck Jd Ld Pr rt hq3) hP (hDD _ _ _ _ _ _ _ _ _ _ _ _ _) hS hl.1 k_6_103 k_6_104 k_1_4 k_6_105 hs_Pg_inClasses rfl rfl ⟨(Nat.le_of_ble_eq_true rfl), (Nat.le_of_ble_eq_true rfl)⟩ rfl (Nat.le_of_ble_eq_true rfl) ⟨Nat.zero_le _, Nat.zero_le _⟩ rfl d_Pg_accepts_142 (fun H locs hP hS => ?_)
    refine lv_if_eq (tgt := 152) hx hb d_Pg_accepts_145 (by decide) (fun c18 => ?_) (fun c18 => ?_)
    · replace h := o_tt c18 h
      refine lv_iconst (v := (0:Int32)) hx hb d_Pg_accepts_152 (by decide) ?_
      exact w_Pg_accepts_j153 hE C hDD n y0 (0:Int32) Pg Sj T0 T1 Rd Pt Mk Lk Ck Jd Ld Pr rt h _ _ _ hP hS (lv_sub hl [0] rfl)
    · replace h := o_ff c18 h
      refine lv_iconst (v := (1:Int32)) hx hb d_Pg_accepts_148 (by decide) ?_
      refine lv_goto (tgt := 153) hx hb d_Pg_accepts_149 (by decide) ?_
      exact w_Pg_accepts_j153 hE C hDD n y0 (1:Int32) Pg Sj T0 T1 Rd Pt Mk Lk Ck Jd Ld Pr rt h _ _ _ hP hS (lv_sub hl [0] rfl)
set_option maxHeartbeats 4000000 in
set_option maxRecDepth 100000 in
theorem c_Pg_accepts {E : (Nat → Prop) → State → Heap → Prop} {D : va_G} {ad kd sd : Nat → Nat} {ca : Nat → ClassId} (hE : o_EK E kd sd) (l : Launch) (n : Nat) (x1 : Int32) (x2 : Int32) (Pg : SPg) (Sj : SSJ) (T0 : STx) (T1 : STx) (Rd : SRd) (Pt : SPt) (Mk : SMk) (Lk : SLk) (Ck : SCk) (Jd : SJd) (Ld : SLd) (Pr : SPr) (rt : Nat) {r : Int32} (h : m_Pg_accepts n x1 x2 Pg = some r) : o_Cn E l D o_cls (o_tys ca) y_Pg_accepts cc_Pg_accepts rm_Pg_accepts [.ref (ad 25), .int x1, .int x2] (o_cw ad ca rt Sj T0 T1 Rd Pg Pt Mk Lk Ck Jd Ld Pr) (o_cw ad ca rt Sj T0 T1 Rd Pg Pt Mk Lk Ck Jd Ld Pr) (some (.int r)) := by
  refine o_Cn_of (by decide) (Nat.le_of_ble_eq_true rfl) ?_
  intro p e s m below meth c A ls C hD hP hS hl
  have hDD : ∀ (rt : Nat) (Sj : SSJ) (T0 : STx) (T1 : STx) (Rd : SRd) (Pg : SPg) (Pt : SPt) (Mk : SMk) (Lk : SLk) (Ck : SCk) (Jd : SJd) (Ld : SLd) (Pr : SPr), va_D A (o_cw ad ca rt Sj T0 T1 Rd Pg Pt Mk Lk Ck Jd Ld Pr) := fun _ _ _ _ _ _ _ _ _ _ _ _ _ => o_D_map hD rfl
  have hl : lv_has ls 5 [(0, .ref (ad 25)), (1, .int x1), (2, .int x2)] := hl
  unfold m_Pg_accepts at h
  have C0 := C
  obtain ⟨hx, hb, -, -, -, hown, hts, hK, -, -⟩ := C0
  refine lv_iload_n hx hb d_Pg_accepts_0 rfl (lv_at hl 1 rfl) ?_
  refine lv_if_lt (tgt := 11) hx hb d_Pg_accepts_1 (by decide) (fun c1 => ?_) (fun c1 => ?_)
  · replace h := o_tt c1 h
    refine lv_iconst (v := (0:Int32)) hx hb d_Pg_accepts_11 (by decide) ?_
    cases h
    exact o_rz (v := (0:Int32)) C o_nar0 hP hS d_Pg_accepts_12
  · replace h := o_ff c1 h
    refine lv_iload_n hx hb d_Pg_accepts_4 rfl (lv_at hl 1 rfl) ?_
    refine lv_sipush (v := (1300:Int32)) hx hb d_Pg_accepts_5 (by decide) ?_
    refine lv_icmp_lt (tgt := 13) hx hb d_Pg_accepts_8 (by decide) (fun c2 => ?_) (fun c2 => ?_)
    · replace h := o_tt c2 h
      refine lv_aload_n hx hb d_Pg_accepts_13 rfl (lv_at hl 0 rfl) ?_
      refine o_get (v := .ref (ad 27)) C in_Pg hP 25 cw_25 rfl 1 (by decide) k_1_120 rfl rfl d_Pg_accepts_14 ?_
      refine lv_iload_n hx hb d_Pg_accepts_17 rfl (lv_at hl 1 rfl) ?_
      obtain ⟨g3, h⟩ := o_gd_some h
      refine o_iald (f := (Pg_arguments Pg)) C hP 27 22 cw_27 rfl g3 d_Pg_accepts_18 ?_
      refine lv_topi (fun x3_19 ex3_19 => ?_)
      replace h := o_nm_at ex3_19 h
      refine lv_istore_n (lv' := [(3, .int x3_19), (0, .ref (ad 25)), (1, .int x1), (2, .int x2)]) hx hb d_Pg_accepts_19 rfl hl (by decide) rfl (fun ls hl => ?_)
      refine lv_aload_n hx hb d_Pg_accepts_20 rfl (lv_at hl 1 rfl) ?_
      refine o_get (v := .ref (ad 26)) C in_Pg hP 25 cw_25 rfl 0 (by decide) k_1_119 rfl rfl d_Pg_accepts_21 ?_
      refine lv_iload_n hx hb d_Pg_accepts_24 rfl (lv_at hl 2 rfl) ?_
      obtain ⟨g4, h⟩ := o_gd_some h
      refine o_iald (f := (Pg_operations Pg)) C hP 26 21 cw_26 rfl g4 d_Pg_accepts_25 ?_
      refine lv_topi (fun w26 ew26 => ?_)
      replace h := o_nm_at ew26 h
      by_cases c5 : w26 = (0:Int32)
      · replace h := o_tt c5 h
        refine lv_tableIn (off := 26) (tgt := 52) hx hb d_Pg_accepts_26 (by rw [c5]; decide) (by rw [c5]; decide) (by rw [c5]; rfl) (by decide) ?_
        refine lv_iload_n hx hb d_Pg_accepts_52 rfl (lv_at hl 0 rfl) ?_
        refine lv_iload_n hx hb d_Pg_accepts_53 rfl (lv_at hl 3 rfl) ?_
        refine lv_icmp_ne (tgt := 61) hx hb d_Pg_accepts_54 (by decide) (fun c6 => ?_) (fun c6 => ?_)
        · replace h := o_ff c6 h
          refine lv_iconst (v := (0:Int32)) hx hb d_Pg_accepts_61 (by decide) ?_
          cases h
          exact o_rz (v := (0:Int32)) C o_nar0 hP hS d_Pg_accepts_62
        · replace h := o_tt c6 h
          refine lv_iconst (v := (1:Int32)) hx hb d_Pg_accepts_57 (by decide) ?_
          refine lv_goto (tgt := 62) hx hb d_Pg_accepts_58 (by decide) ?_
          cases h
          exact o_rz (v := (1:Int32)) C o_nar1 hP hS d_Pg_accepts_62
      replace h := o_ff c5 h
      by_cases c7 : w26 = (1:Int32)
      · replace h := o_tt c7 h
        refine lv_tableIn (off := 37) (tgt := 63) hx hb d_Pg_accepts_26 (by rw [c7]; decide) (by rw [c7]; decide) (by rw [c7]; rfl) (by decide) ?_
        refine lv_iload_n hx hb d_Pg_accepts_63 rfl (lv_at hl 3 rfl) ?_
        refine lv_bipush (v := (10:Int32)) hx hb d_Pg_accepts_64 (by decide) ?_
        refine lv_icmp_eq (tgt := 93) hx hb d_Pg_accepts_66 (by decide) (fun c8 => ?_) (fun c8 => ?_)
        · replace h := o_tt c8 h
          refine lv_iconst (v := (0:Int32)) hx hb d_Pg_accepts_93 (by decide) ?_
          cases h
          exact o_rz (v := (0:Int32)) C o_nar0 hP hS d_Pg_accepts_94
        · replace h := o_ff c8 h
          refine lv_iload_n hx hb d_Pg_accepts_69 rfl (lv_at hl 3 rfl) ?_
          refine lv_bipush (v := (13:Int32)) hx hb d_Pg_accepts_70 (by decide) ?_
          refine lv_icmp_eq (tgt := 93) hx hb d_Pg_accepts_72 (by decide) (fun c9 => ?_) (fun c9 => ?_)
          · replace h := o_tt c9 h
            refine lv_iconst (v := (0:Int32)) hx hb d_Pg_accepts_93 (by decide) ?_
            cases h
            exact o_rz (v := (0:Int32)) C o_nar0 hP hS d_Pg_accepts_94
          · replace h := o_ff c9 h
            refine lv_iload_n hx hb d_Pg_accepts_75 rfl (lv_at hl 3 rfl) ?_
            refine lv_sipush (v := (8232:Int32)) hx hb d_Pg_accepts_76 (by decide) ?_
            refine lv_icmp_eq (tgt := 93) hx hb d_Pg_accepts_79 (by decide) (fun c10 => ?_) (fun c10 => ?_)
            · replace h := o_tt c10 h
              refine lv_iconst (v := (0:Int32)) hx hb d_Pg_accepts_93 (by decide) ?_
              cases h
              exact o_rz (v := (0:Int32)) C o_nar0 hP hS d_Pg_accepts_94
            · replace h := o_ff c10 h
              refine lv_iload_n hx hb d_Pg_accepts_82 rfl (lv_at hl 3 rfl) ?_
              refine lv_sipush (v := (8233:Int32)) hx hb d_Pg_accepts_83 (by decide) ?_
              refine lv_icmp_eq (tgt := 93) hx hb d_Pg_accepts_86 (by decide) (fun c11 => ?_) (fun c11 => ?_)
              · replace h := o_tt c11 h
                refine lv_iconst (v := (0:Int32)) hx hb d_Pg_accepts_93 (by decide) ?_
                cases h
                exact o_rz (v := (0:Int32)) C o_nar0 hP hS d_Pg_accepts_94
              · replace h := o_ff c11 h
                refine lv_iconst (v := (1:Int32)) hx hb d_Pg_accepts_89 (by decide) ?_
                refine lv_goto (tgt := 94) hx hb d_Pg_accepts_90 (by decide) ?_
                cases h
                exact o_rz (v := (1:Int32)) C o_nar1 hP hS d_Pg_accepts_94
      replace h := o_ff c7 h
      by_cases c12 : w26 = (2:Int32)
      · replace h := o_tt c12 h
        refine lv_tableIn (off := 69) (tgt := 95) hx hb d_Pg_accepts_26 (by rw [c12]; decide) (by rw [c12]; decide) (by rw [c12]; rfl) (by decide) ?_
        refine lv_iload_n hx hb d_Pg_accepts_95 rfl (lv_at hl 0 rfl) ?_
        refine lv_iload_n hx hb d_Pg_accepts_96 rfl (lv_at hl 3 rfl) ?_
        obtain ⟨q1, hq1, h⟩ := o_bd_some h
        refine o_S (st1 := [.int q1]) (w1 := (o_cw ad ca rt Sj T0 T1 Rd Pg Pt Mk Lk Ck Jd Ld Pr)) hE.1 C (c_Pg_inClasses hE l x3_19 x2 Sj T0 T1 Rd Pg Pt Mk Lk Ck Jd Ld Pr rt hq1) hP (hDD _ _ _ _ _ _ _ _ _ _ _ _ _) hS hl.1 k_6_103 k_6_104 k_1_4 k_6_105 hs_Pg_inClasses rfl rfl ⟨(Nat.le_of_ble_eq_true rfl), (Nat.le_of_ble_eq_true rfl)⟩ rfl (Nat.le_of_ble_eq_true rfl) ⟨Nat.zero_le _, Nat.zero_le _⟩ rfl d_Pg_accepts_97 (fun H locs hP hS => ?_)
        obtain ⟨g13, h⟩ := o_gd_some h
        cases h
        exact o_rz C (o_zb_nar g13) hP hS d_Pg_accepts_100
      replace h := o_ff c12 h
      refine lv_tableOut (tgt := 101) hx hb d_Pg_accepts_26 (by have ec5 := o_ne_i (n := 0) (by decide) c5; have ec7 := o_ne_i (n := 1) (by decide) c7; have ec12 := o_ne_i (n := 2) (by decide) c12; omega) (by decide) ?_
      refine lv_iload_n hx hb d_Pg_accepts_101 rfl (lv_at hl 0 rfl) ?_
      refine lv_if_lt (tgt := 127) hx hb d_Pg_accepts_102 (by decide) (fun c14 => ?_) (fun c14 => ?_)
      · replace h := o_tt c14 h
        refine lv_iconst (v := (0:Int32)) hx hb d_Pg_accepts_127 (by decide) ?_
        exact w_Pg_accepts_j128 hE C hDD n x2 x3_19 (0:Int32) Pg Sj T0 T1 Rd Pt Mk Lk Ck Jd Ld Pr rt h _ _ _ hP hS (lv_sub hl [1, 3, 0] rfl)
      · replace h := o_ff c14 h
        refine lv_iload_n hx hb d_Pg_accepts_105 rfl (lv_at hl 0 rfl) ?_
        refine lv_iconst (v := (1:Int32)) hx hb d_Pg_accepts_106 (by decide) ?_
        refine lv_iadd hx hb d_Pg_accepts_107 ?_
        refine lv_aload_n hx hb d_Pg_accepts_108 rfl (lv_at hl 1 rfl) ?_
        refine o_get (v := .ref (ad 28)) C in_Pg hP 25 cw_25 rfl 3 (by decide) k_1_123 rfl rfl d_Pg_accepts_109 ?_
        refine va_alen (v := (8000:Int32)) hx hb hK hP 28 23 cw_28 rfl rfl d_Pg_accepts_112 ?_
        refine lv_icmp_ge (tgt := 127) hx hb d_Pg_accepts_113 (by decide) (fun c19 => ?_) (fun c19 => ?_)
        · replace h := o_tt c19 h
          refine lv_iconst (v := (0:Int32)) hx hb d_Pg_accepts_127 (by decide) ?_
          exact w_Pg_accepts_j128 hE C hDD n x2 x3_19 (0:Int32) Pg Sj T0 T1 Rd Pt Mk Lk Ck Jd Ld Pr rt h _ _ _ hP hS (lv_sub hl [1, 3, 0] rfl)
        · replace h := o_ff c19 h
          refine lv_aload_n hx hb d_Pg_accepts_116 rfl (lv_at hl 1 rfl) ?_
          refine o_get (v := .ref (ad 28)) C in_Pg hP 25 cw_25 rfl 3 (by decide) k_1_123 rfl rfl d_Pg_accepts_117 ?_
          refine lv_iload_n hx hb d_Pg_accepts_120 rfl (lv_at hl 0 rfl) ?_
          refine lv_iconst (v := (1:Int32)) hx hb d_Pg_accepts_121 (by decide) ?_
          refine lv_iadd hx hb d_Pg_accepts_122 ?_
          obtain ⟨g20, h⟩ := o_gd_some h
          refine o_iald (f := (Pg_sets Pg)) C hP 28 23 cw_28 rfl g20 d_Pg_accepts_123 ?_
          refine lv_goto (tgt := 128) hx hb d_Pg_accepts_124 (by decide) ?_
          exact w_Pg_accepts_j128 hE C hDD n x2 x3_19 ((Pg_sets Pg) (x3_19 + (1:Int32)).toNatClampNeg) Pg Sj T0 T1 Rd Pt Mk Lk Ck Jd Ld Pr rt h _ _ _ hP hS (lv_sub hl [1, 3, 0] rfl)
    · replace h := o_ff c2 h
      refine lv_iconst (v := (0:Int32)) hx hb d_Pg_accepts_11 (by decide) ?_
      cases h
      exact o_rz (v := (0:Int32)) C o_nar0 hP hS d_Pg_accepts_12
set_option maxHeartbeats 4000000 in
set_option maxRecDepth 100000 in
theorem c_Tx_firstChild_1 {E : (Nat → Prop) → State → Heap → Prop} {D : va_G} {ad kd sd : Nat → Nat} {ca : Nat → ClassId} (hE : o_EK E kd sd) (l : Launch) (x1 : Int32) (a0 : STx) (Sj : SSJ) (T0 : STx) (Rd : SRd) (Pg : SPg) (Pt : SPt) (Mk : SMk) (Lk : SLk) (Ck : SCk) (Jd : SJd) (Ld : SLd) (Pr : SPr) (rt : Nat) {r : Int32} (h : m_Tx_firstChild x1 a0 = some r) : o_Cn E l D o_cls (o_tys ca) y_Tx_firstChild cc_Tx_firstChild rm_Tx_firstChild [.ref (ad 12), .int x1] (o_cw ad ca rt Sj T0 a0 Rd Pg Pt Mk Lk Ck Jd Ld Pr) (o_cw ad ca rt Sj T0 a0 Rd Pg Pt Mk Lk Ck Jd Ld Pr) (some (.int r)) := by
  refine o_Cn_of (by decide) (Nat.le_of_ble_eq_true rfl) ?_
  intro p e s m below meth c A ls C hD hP hS hl
  have hDD : ∀ (rt : Nat) (Sj : SSJ) (T0 : STx) (T1 : STx) (Rd : SRd) (Pg : SPg) (Pt : SPt) (Mk : SMk) (Lk : SLk) (Ck : SCk) (Jd : SJd) (Ld : SLd) (Pr : SPr), va_D A (o_cw ad ca rt Sj T0 T1 Rd Pg Pt Mk Lk Ck Jd Ld Pr) := fun _ _ _ _ _ _ _ _ _ _ _ _ _ => o_D_map hD rfl
  have hl : lv_has ls 2 [(0, .ref (ad 12)), (1, .int x1)] := hl
  unfold m_Tx_firstChild at h
  have C0 := C
  obtain ⟨hx, hb, -, -, -, hown, hts, hK, -, -⟩ := C0
  refine lv_iload_n hx hb d_Tx_firstChild_0 rfl (lv_at hl 1 rfl) ?_
  refine lv_if_lt (tgt := 31) hx hb d_Tx_firstChild_1 (by decide) (fun c1 => ?_) (fun c1 => ?_)
  · replace h := o_tt c1 h
    refine lv_iconst (v := (-1:Int32)) hx hb d_Tx_firstChild_31 (by decide) ?_
    cases h
    exact o_ri (v := (-1:Int32)) C hP hS d_Tx_firstChild_32
  · replace h := o_ff c1 h
    refine lv_iload_n hx hb d_Tx_firstChild_4 rfl (lv_at hl 1 rfl) ?_
    refine lv_aload_n hx hb d_Tx_firstChild_5 rfl (lv_at hl 0 rfl) ?_
    refine o_get (v := .int (Tx_total a0)) C in_Tx hP 12 cw_12 rfl 10 (by decide) k_1_56 rfl rfl d_Tx_firstChild_6 ?_
    refine lv_icmp_ge (tgt := 31) hx hb d_Tx_firstChild_9 (by decide) (fun c2 => ?_) (fun c2 => ?_)
    · replace h := o_tt c2 h
      refine lv_iconst (v := (-1:Int32)) hx hb d_Tx_firstChild_31 (by decide) ?_
      cases h
      exact o_ri (v := (-1:Int32)) C hP hS d_Tx_firstChild_32
    · replace h := o_ff c2 h
      refine lv_aload_n hx hb d_Tx_firstChild_12 rfl (lv_at hl 0 rfl) ?_
      refine o_get (v := .ref (ad 15)) C in_Tx hP 12 cw_12 rfl 2 (by decide) k_1_48 rfl rfl d_Tx_firstChild_13 ?_
      refine lv_iload_n hx hb d_Tx_firstChild_16 rfl (lv_at hl 1 rfl) ?_
      obtain ⟨g3, h⟩ := o_gd_some h
      refine o_iald (f := (Tx_sizes a0)) C hP 15 12 cw_15 rfl g3 d_Tx_firstChild_17 ?_
      refine lv_if_eq (tgt := 31) hx hb d_Tx_firstChild_18 (by decide) (fun c4 => ?_) (fun c4 => ?_)
      · replace h := o_tt c4 h
        refine lv_iconst (v := (-1:Int32)) hx hb d_Tx_firstChild_31 (by decide) ?_
        cases h
        exact o_ri (v := (-1:Int32)) C hP hS d_Tx_firstChild_32
      · replace h := o_ff c4 h
        refine lv_aload_n hx hb d_Tx_firstChild_21 rfl (lv_at hl 0 rfl) ?_
        refine o_get (v := .ref (ad 13)) C in_Tx hP 12 cw_12 rfl 0 (by decide) k_1_46 rfl rfl d_Tx_firstChild_22 ?_
        refine lv_iload_n hx hb d_Tx_firstChild_25 rfl (lv_at hl 1 rfl) ?_
        obtain ⟨g5, h⟩ := o_gd_some h
        refine o_iald (f := (Tx_kinds a0)) C hP 13 10 cw_13 rfl g5 d_Tx_firstChild_26 ?_
        refine lv_iconst (v := (5:Int32)) hx hb d_Tx_firstChild_27 (by decide) ?_
        refine lv_icmp_ge (tgt := 33) hx hb d_Tx_firstChild_28 (by decide) (fun c6 => ?_) (fun c6 => ?_)
        · replace h := o_tt c6 h
          refine lv_aload_n hx hb d_Tx_firstChild_33 rfl (lv_at hl 0 rfl) ?_
          refine o_get (v := .ref (ad 13)) C in_Tx hP 12 cw_12 rfl 0 (by decide) k_1_46 rfl rfl d_Tx_firstChild_34 ?_
          refine lv_iload_n hx hb d_Tx_firstChild_37 rfl (lv_at hl 1 rfl) ?_
          obtain ⟨g7, h⟩ := o_gd_some h
          refine o_iald (f := (Tx_kinds a0)) C hP 13 10 cw_13 rfl g7 d_Tx_firstChild_38 ?_
          refine lv_iconst (v := (5:Int32)) hx hb d_Tx_firstChild_39 (by decide) ?_
          refine lv_icmp_ne (tgt := 49) hx hb d_Tx_firstChild_40 (by decide) (fun c8 => ?_) (fun c8 => ?_)
          · replace h := o_ff c8 h
            refine lv_iload_n hx hb d_Tx_firstChild_49 rfl (lv_at hl 1 rfl) ?_
            refine lv_iconst (v := (2:Int32)) hx hb d_Tx_firstChild_50 (by decide) ?_
            refine lv_iadd hx hb d_Tx_firstChild_51 ?_
            cases h
            exact o_ri (v := (x1 + (2:Int32))) C hP hS d_Tx_firstChild_52
          · replace h := o_tt c8 h
            refine lv_iload_n hx hb d_Tx_firstChild_43 rfl (lv_at hl 1 rfl) ?_
            refine lv_iconst (v := (1:Int32)) hx hb d_Tx_firstChild_44 (by decide) ?_
            refine lv_iadd hx hb d_Tx_firstChild_45 ?_
            refine lv_goto (tgt := 52) hx hb d_Tx_firstChild_46 (by decide) ?_
            cases h
            exact o_ri (v := (x1 + (1:Int32))) C hP hS d_Tx_firstChild_52
        · replace h := o_ff c6 h
          refine lv_iconst (v := (-1:Int32)) hx hb d_Tx_firstChild_31 (by decide) ?_
          cases h
          exact o_ri (v := (-1:Int32)) C hP hS d_Tx_firstChild_32
set_option maxHeartbeats 4000000 in
set_option maxRecDepth 100000 in
theorem c_Tx_size_1 {E : (Nat → Prop) → State → Heap → Prop} {D : va_G} {ad kd sd : Nat → Nat} {ca : Nat → ClassId} (hE : o_EK E kd sd) (l : Launch) (x1 : Int32) (a0 : STx) (Sj : SSJ) (T0 : STx) (Rd : SRd) (Pg : SPg) (Pt : SPt) (Mk : SMk) (Lk : SLk) (Ck : SCk) (Jd : SJd) (Ld : SLd) (Pr : SPr) (rt : Nat) {r : Int32} (h : m_Tx_size x1 a0 = some r) : o_Cn E l D o_cls (o_tys ca) y_Tx_size cc_Tx_size rm_Tx_size [.ref (ad 12), .int x1] (o_cw ad ca rt Sj T0 a0 Rd Pg Pt Mk Lk Ck Jd Ld Pr) (o_cw ad ca rt Sj T0 a0 Rd Pg Pt Mk Lk Ck Jd Ld Pr) (some (.int r)) := by
  refine o_Cn_of (by decide) (Nat.le_of_ble_eq_true rfl) ?_
  intro p e s m below meth c A ls C hD hP hS hl
  have hDD : ∀ (rt : Nat) (Sj : SSJ) (T0 : STx) (T1 : STx) (Rd : SRd) (Pg : SPg) (Pt : SPt) (Mk : SMk) (Lk : SLk) (Ck : SCk) (Jd : SJd) (Ld : SLd) (Pr : SPr), va_D A (o_cw ad ca rt Sj T0 T1 Rd Pg Pt Mk Lk Ck Jd Ld Pr) := fun _ _ _ _ _ _ _ _ _ _ _ _ _ => o_D_map hD rfl
  have hl : lv_has ls 2 [(0, .ref (ad 12)), (1, .int x1)] := hl
  unfold m_Tx_size at h
  have C0 := C
  obtain ⟨hx, hb, -, -, -, hown, hts, hK, -, -⟩ := C0
  refine lv_iload_n hx hb d_Tx_size_0 rfl (lv_at hl 1 rfl) ?_
  refine lv_if_lt (tgt := 21) hx hb d_Tx_size_1 (by decide) (fun c1 => ?_) (fun c1 => ?_)
  · replace h := o_tt c1 h
    refine lv_iconst (v := (0:Int32)) hx hb d_Tx_size_21 (by decide) ?_
    cases h
    exact o_ri (v := (0:Int32)) C hP hS d_Tx_size_22
  · replace h := o_ff c1 h
    refine lv_iload_n hx hb d_Tx_size_4 rfl (lv_at hl 1 rfl) ?_
    refine lv_aload_n hx hb d_Tx_size_5 rfl (lv_at hl 0 rfl) ?_
    refine o_get (v := .int (Tx_total a0)) C in_Tx hP 12 cw_12 rfl 10 (by decide) k_1_56 rfl rfl d_Tx_size_6 ?_
    refine lv_icmp_ge (tgt := 21) hx hb d_Tx_size_9 (by decide) (fun c2 => ?_) (fun c2 => ?_)
    · replace h := o_tt c2 h
      refine lv_iconst (v := (0:Int32)) hx hb d_Tx_size_21 (by decide) ?_
      cases h
      exact o_ri (v := (0:Int32)) C hP hS d_Tx_size_22
    · replace h := o_ff c2 h
      refine lv_aload_n hx hb d_Tx_size_12 rfl (lv_at hl 0 rfl) ?_
      refine o_get (v := .ref (ad 15)) C in_Tx hP 12 cw_12 rfl 2 (by decide) k_1_48 rfl rfl d_Tx_size_13 ?_
      refine lv_iload_n hx hb d_Tx_size_16 rfl (lv_at hl 1 rfl) ?_
      obtain ⟨g3, h⟩ := o_gd_some h
      refine o_iald (f := (Tx_sizes a0)) C hP 15 12 cw_15 rfl g3 d_Tx_size_17 ?_
      refine lv_goto (tgt := 22) hx hb d_Tx_size_18 (by decide) ?_
      cases h
      exact o_ri (v := ((Tx_sizes a0) x1.toNatClampNeg)) C hP hS d_Tx_size_22
set_option maxHeartbeats 4000000 in
set_option maxRecDepth 100000 in
theorem w_Tx_sameString_b102_01 {E : (Nat → Prop) → State → Heap → Prop} {p : Program} {l : Launch} {e : Env} {s : State} {m : MethodId} {args : Array Value} {below : List Frame} {meth : Method} {c : Code} {D : va_G} {ad kd sd : Nat → Nat} {ca : Nat → ClassId} {A : Nat → Prop} {Q : State → Prop} (hE : o_EK E kd sd) (C : o_Cx E p s m args meth c D o_cls (o_tys ca) "SchemaJudge$Text" b_Tx_sameString (some .boolean) 8 cc_Tx_sameString A) (hDD : ∀ (rt : Nat) (Sj : SSJ) (T0 : STx) (T1 : STx) (Rd : SRd) (Pg : SPg) (Pt : SPt) (Mk : SMk) (Lk : SLk) (Ck : SCk) (Jd : SJd) (Ld : SLd) (Pr : SPr), va_D A (o_cw ad ca rt Sj T0 T1 Rd Pg Pt Mk Lk Ck Jd Ld Pr)) (n : Nat) (u102_x4 : Int32) (u102_x5 : Int32) (u102_x6 : Int32) (u102_a0 : STx) (u102_a2 : STx) (u102_Sj : SSJ) (u102_Rd : SRd) (u102_Pg : SPg) (u102_Pt : SPt) (u102_Mk : SMk) (u102_Lk : SLk) (u102_Ck : SCk) (u102_Jd : SJd) (u102_Ld : SLd) (u102_Pr : SPr) (u102_rt : Nat) (z : Int32) (q : Nat × Int32) (h : m_Tx_sameString_b102 n u102_x4 u102_x5 u102_x6 u102_a0 u102_a2 z = some q) (h0 : q.1 = 0 → o_At p l e rm_Tx_sameString s m args below meth c Q o_cls D A 8 102 [] (o_cw ad ca u102_rt u102_Sj u102_a0 u102_a2 u102_Rd u102_Pg u102_Pt u102_Mk u102_Lk u102_Ck u102_Jd u102_Ld u102_Pr) [(0, .ref (ad 1)), (2, .ref (ad 12)), (4, .int u102_x4), (5, .int u102_x5), (6, .int u102_x6), (7, .int q.2)]) (h1 : q.1 ≠ 0 → (if q.1 = 1 then o_At p l e rm_Tx_sameString s m args below meth c Q o_cls D A 8 132 [] (o_cw ad ca u102_rt u102_Sj u102_a0 u102_a2 u102_Rd u102_Pg u102_Pt u102_Mk u102_Lk u102_Ck u102_Jd u102_Ld u102_Pr) [] else o_At p l e rm_Tx_sameString s m args below meth c Q o_cls D A 8 140 [] (o_cw ad ca u102_rt u102_Sj u102_a0 u102_a2 u102_Rd u102_Pg u102_Pt u102_Mk u102_Lk u102_Ck u102_Jd u102_Ld u102_Pr) [])) : o_At p l e rm_Tx_sameString s m args below meth c Q o_cls D A 8 102 [] (o_cw ad ca u102_rt u102_Sj u102_a0 u102_a2 u102_Rd u102_Pg u102_Pt u102_Mk u102_Lk u102_Ck u102_Jd u102_Ld u102_Pr) [(0, .ref (ad 1)), (2, .ref (ad 12)), (4, .int u102_x4), (5, .int u102_x5), (6, .int u102_x6), (7, .int z)] := by
  unfold m_Tx_sameString_b102 at h
  intro H locs ls hP hS hl
  have C0 := C
  obtain ⟨hx, hb, -, -, -, hown, hts, hK, -, -⟩ := C0
  refine lv_iload hx hb d_Tx_sameString_102 (lv_at hl 5 rfl) ?_
  refine lv_iload hx hb d_Tx_sameString_104 (lv_at hl 4 rfl) ?_
  refine lv_icmp_ge (tgt := 140) hx hb d_Tx_sameString_106 (by decide) (fun c15 => ?_) (fun c15 => ?_)
  · replace h := o_tt c15 h
    cases h
    exact h1 (Nat.succ_ne_zero 1) _ _ _ hP hS (lv_sub hl [] rfl)
  · replace h := o_ff c15 h
    refine lv_aload_n hx hb d_Tx_sameString_109 rfl (lv_at hl 0 rfl) ?_
    refine o_get (v := .ref (ad 11)) C in_Tx hP 1 cw_1 rfl 9 (by decide) k_1_55 rfl rfl d_Tx_sameString_110 ?_
    refine lv_iload hx hb d_Tx_sameString_113 (lv_at hl 2 rfl) ?_
    refine lv_iload hx hb d_Tx_sameString_115 (lv_at hl 5 rfl) ?_
    refine lv_iadd hx hb d_Tx_sameString_117 ?_
    obtain ⟨g16, h⟩ := o_gd_some h
    refine o_iald (f := (Tx_cells u102_a0)) C hP 11 9 cw_11 rfl g16 d_Tx_sameString_118 ?_
    refine lv_aload_n hx hb d_Tx_sameString_119 rfl (lv_at hl 1 rfl) ?_
    refine o_get (v := .ref (ad 22)) C in_Tx hP 12 cw_12 rfl 9 (by decide) k_1_55 rfl rfl d_Tx_sameString_120 ?_
    refine lv_iload hx hb d_Tx_sameString_123 (lv_at hl 3 rfl) ?_
    refine lv_iload hx hb d_Tx_sameString_125 (lv_at hl 5 rfl) ?_
    refine lv_iadd hx hb d_Tx_sameString_127 ?_
    obtain ⟨g17, h⟩ := o_gd_some h
    refine o_iald (f := (Tx_cells u102_a2)) C hP 22 19 cw_22 rfl g17 d_Tx_sameString_128 ?_
    refine lv_icmp_eq (tgt := 134) hx hb d_Tx_sameString_129 (by decide) (fun c18 => ?_) (fun c18 => ?_)
    · replace h := o_tt c18 h
      obtain ⟨x7_134, ex7_134⟩ : ∃ y : Int32, y = z + (1:Int32) := ⟨_, rfl⟩
      replace h := o_nm_at ex7_134 h
      refine lv_iinc (v := x7_134) (lv' := [(7, .int x7_134), (0, .ref (ad 1)), (2, .ref (ad 12)), (4, .int u102_x4), (5, .int u102_x5), (6, .int u102_x6)]) hx hb d_Tx_sameString_134 hl (k := 5) rfl (by rw [ex7_134]; rfl) (by decide) rfl (fun ls hl => ?_)
      refine lv_goto (tgt := 102) hx hb d_Tx_sameString_137 (by decide) ?_
      cases h
      exact h0 rfl _ _ _ hP hS (lv_sub hl [1, 2, 3, 4, 5, 0] rfl)
    · replace h := o_ff c18 h
      cases h
      exact h1 (Nat.succ_ne_zero 0) _ _ _ hP hS (lv_sub hl [] rfl)
set_option maxHeartbeats 4000000 in
set_option maxRecDepth 100000 in
theorem c_Tx_sameString_01 {E : (Nat → Prop) → State → Heap → Prop} {D : va_G} {ad kd sd : Nat → Nat} {ca : Nat → ClassId} (hE : o_EK E kd sd) (l : Launch) (n : Nat) (x1 : Int32) (x3 : Int32) (a0 : STx) (a2 : STx) (Sj : SSJ) (Rd : SRd) (Pg : SPg) (Pt : SPt) (Mk : SMk) (Lk : SLk) (Ck : SCk) (Jd : SJd) (Ld : SLd) (Pr : SPr) (rt : Nat) {r : Int32} (h : m_Tx_sameString n x1 x3 a0 a2 = some r) : o_Cn E l D o_cls (o_tys ca) y_Tx_sameString cc_Tx_sameString rm_Tx_sameString [.ref (ad 1), .int x1, .ref (ad 12), .int x3] (o_cw ad ca rt Sj a0 a2 Rd Pg Pt Mk Lk Ck Jd Ld Pr) (o_cw ad ca rt Sj a0 a2 Rd Pg Pt Mk Lk Ck Jd Ld Pr) (some (.int r)) := by
  refine o_Cn_of (by decide) (Nat.le_of_ble_eq_true rfl) ?_
  intro p e s m below meth c A ls C hD hP hS hl
  have hDD : ∀ (rt : Nat) (Sj : SSJ) (T0 : STx) (T1 : STx) (Rd : SRd) (Pg : SPg) (Pt : SPt) (Mk : SMk) (Lk : SLk) (Ck : SCk) (Jd : SJd) (Ld : SLd) (Pr : SPr), va_D A (o_cw ad ca rt Sj T0 T1 Rd Pg Pt Mk Lk Ck Jd Ld Pr) := fun _ _ _ _ _ _ _ _ _ _ _ _ _ => o_D_map hD rfl
  have hl : lv_has ls 8 [(0, .ref (ad 1)), (1, .int x1), (2, .ref (ad 12)), (3, .int x3)] := hl
  unfold m_Tx_sameString at h
  have C0 := C
  obtain ⟨hx, hb, -, -, -, hown, hts, hK, -, -⟩ := C0
  refine lv_iload_n hx hb d_Tx_sameString_0 rfl (lv_at hl 1 rfl) ?_
  refine lv_if_lt (tgt := 39) hx hb d_Tx_sameString_1 (by decide) (fun c1 => ?_) (fun c1 => ?_)
  · replace h := o_tt c1 h
    refine lv_iconst (v := (0:Int32)) hx hb d_Tx_sameString_39 (by decide) ?_
    cases h
    exact o_rz (v := (0:Int32)) C o_nar0 hP hS d_Tx_sameString_40
  · replace h := o_ff c1 h
    refine lv_iload_n hx hb d_Tx_sameString_4 rfl (lv_at hl 1 rfl) ?_
    refine lv_aload_n hx hb d_Tx_sameString_5 rfl (lv_at hl 0 rfl) ?_
    refine o_get (v := .int (Tx_total a0)) C in_Tx hP 1 cw_1 rfl 10 (by decide) k_1_56 rfl rfl d_Tx_sameString_6 ?_
    refine lv_icmp_ge (tgt := 39) hx hb d_Tx_sameString_9 (by decide) (fun c2 => ?_) (fun c2 => ?_)
    · replace h := o_tt c2 h
      refine lv_iconst (v := (0:Int32)) hx hb d_Tx_sameString_39 (by decide) ?_
      cases h
      exact o_rz (v := (0:Int32)) C o_nar0 hP hS d_Tx_sameString_40
    · replace h := o_ff c2 h
      refine lv_iload_n hx hb d_Tx_sameString_12 rfl (lv_at hl 3 rfl) ?_
      refine lv_if_lt (tgt := 39) hx hb d_Tx_sameString_13 (by decide) (fun c3 => ?_) (fun c3 => ?_)
      · replace h := o_tt c3 h
        refine lv_iconst (v := (0:Int32)) hx hb d_Tx_sameString_39 (by decide) ?_
        cases h
        exact o_rz (v := (0:Int32)) C o_nar0 hP hS d_Tx_sameString_40
      · replace h := o_ff c3 h
        refine lv_iload_n hx hb d_Tx_sameString_16 rfl (lv_at hl 3 rfl) ?_
        refine lv_aload_n hx hb d_Tx_sameString_17 rfl (lv_at hl 2 rfl) ?_
        refine o_get (v := .int (Tx_total a2)) C in_Tx hP 12 cw_12 rfl 10 (by decide) k_1_56 rfl rfl d_Tx_sameString_18 ?_
        refine lv_icmp_ge (tgt := 39) hx hb d_Tx_sameString_21 (by decide) (fun c4 => ?_) (fun c4 => ?_)
        · replace h := o_tt c4 h
          refine lv_iconst (v := (0:Int32)) hx hb d_Tx_sameString_39 (by decide) ?_
          cases h
          exact o_rz (v := (0:Int32)) C o_nar0 hP hS d_Tx_sameString_40
        · replace h := o_ff c4 h
          refine lv_aload_n hx hb d_Tx_sameString_24 rfl (lv_at hl 0 rfl) ?_
          refine o_get (v := .ref (ad 4)) C in_Tx hP 1 cw_1 rfl 2 (by decide) k_1_48 rfl rfl d_Tx_sameString_25 ?_
          refine lv_iload_n hx hb d_Tx_sameString_28 rfl (lv_at hl 1 rfl) ?_
          obtain ⟨g5, h⟩ := o_gd_some h
          refine o_iald (f := (Tx_sizes a0)) C hP 4 2 cw_4 rfl g5 d_Tx_sameString_29 ?_
          refine lv_aload_n hx hb d_Tx_sameString_30 rfl (lv_at hl 2 rfl) ?_
          refine o_get (v := .ref (ad 15)) C in_Tx hP 12 cw_12 rfl 2 (by decide) k_1_48 rfl rfl d_Tx_sameString_31 ?_
          refine lv_iload_n hx hb d_Tx_sameString_34 rfl (lv_at hl 3 rfl) ?_
          obtain ⟨g6, h⟩ := o_gd_some h
          refine o_iald (f := (Tx_sizes a2)) C hP 15 12 cw_15 rfl g6 d_Tx_sameString_35 ?_
          refine lv_icmp_eq (tgt := 41) hx hb d_Tx_sameString_36 (by decide) (fun c7 => ?_) (fun c7 => ?_)
          · replace h := o_tt c7 h
            refine lv_aload_n hx hb d_Tx_sameString_41 rfl (lv_at hl 0 rfl) ?_
            refine o_get (v := .ref (ad 7)) C in_Tx hP 1 cw_1 rfl 5 (by decide) k_1_51 rfl rfl d_Tx_sameString_42 ?_
            refine lv_iload_n hx hb d_Tx_sameString_45 rfl (lv_at hl 1 rfl) ?_
            obtain ⟨g8, h⟩ := o_gd_some h
            refine o_iald (f := (Tx_starts a0)) C hP 7 5 cw_7 rfl g8 d_Tx_sameString_46 ?_
            refine lv_topi (fun x4_47 ex4_47 => ?_)
            replace h := o_nm_at ex4_47 h
            refine lv_istore (lv' := [(4, .int x4_47), (0, .ref (ad 1)), (1, .int x1), (2, .ref (ad 12)), (3, .int x3)]) hx hb d_Tx_sameString_47 hl (by decide) rfl (fun ls hl => ?_)
            refine lv_aload_n hx hb d_Tx_sameString_49 rfl (lv_at hl 3 rfl) ?_
            refine o_get (v := .ref (ad 18)) C in_Tx hP 12 cw_12 rfl 5 (by decide) k_1_51 rfl rfl d_Tx_sameString_50 ?_
            refine lv_iload_n hx hb d_Tx_sameString_53 rfl (lv_at hl 4 rfl) ?_
            obtain ⟨g9, h⟩ := o_gd_some h
            refine o_iald (f := (Tx_starts a2)) C hP 18 15 cw_18 rfl g9 d_Tx_sameString_54 ?_
            refine lv_topi (fun x5_55 ex5_55 => ?_)
            replace h := o_nm_at ex5_55 h
            refine lv_istore (lv' := [(5, .int x5_55), (4, .int x4_47), (0, .ref (ad 1)), (1, .int x1), (2, .ref (ad 12)), (3, .int x3)]) hx hb d_Tx_sameString_55 hl (by decide) rfl (fun ls hl => ?_)
            refine lv_aload_n hx hb d_Tx_sameString_57 rfl (lv_at hl 2 rfl) ?_
            refine o_get (v := .ref (ad 4)) C in_Tx hP 1 cw_1 rfl 2 (by decide) k_1_48 rfl rfl d_Tx_sameString_58 ?_
            refine lv_iload_n hx hb d_Tx_sameString_61 rfl (lv_at hl 3 rfl) ?_
            obtain ⟨g10, h⟩ := o_gd_some h
            refine o_iald (f := (Tx_sizes a0)) C hP 4 2 cw_4 rfl g10 d_Tx_sameString_62 ?_
            refine lv_topi (fun x6_63 ex6_63 => ?_)
            replace h := o_nm_at ex6_63 h
            refine lv_istore (lv' := [(6, .int x6_63), (5, .int x5_55), (4, .int x4_47), (0, .ref (ad 1)), (1, .int x1), (2, .ref (ad 12)), (3, .int x3)]) hx hb d_Tx_sameString_63 hl (by decide) rfl (fun ls hl => ?_)
            refine lv_iload hx hb d_Tx_sameString_65 (lv_at hl 2 rfl) ?_
            refine lv_if_lt (tgt := 97) hx hb d_Tx_sameString_67 (by decide) (fun c11 => ?_) (fun c11 => ?_)
            · replace h := o_tt c11 h
              refine lv_iconst (v := (0:Int32)) hx hb d_Tx_sameString_97 (by decide) ?_
              cases h
              exact o_rz (v := (0:Int32)) C o_nar0 hP hS d_Tx_sameString_98
            · replace h := o_ff c11 h
              refine lv_iload hx hb d_Tx_sameString_70 (lv_at hl 2 rfl) ?_
              refine lv_iload hx hb d_Tx_sameString_72 (lv_at hl 0 rfl) ?_
              refine lv_iadd hx hb d_Tx_sameString_74 ?_
              refine lv_sipush (v := (8192:Int32)) hx hb d_Tx_sameString_75 (by decide) ?_
              refine lv_icmp_gt (tgt := 97) hx hb d_Tx_sameString_78 (by decide) (fun c12 => ?_) (fun c12 => ?_)
              · replace h := o_tt c12 h
                refine lv_iconst (v := (0:Int32)) hx hb d_Tx_sameString_97 (by decide) ?_
                cases h
                exact o_rz (v := (0:Int32)) C o_nar0 hP hS d_Tx_sameString_98
              · replace h := o_ff c12 h
                refine lv_iload hx hb d_Tx_sameString_81 (lv_at hl 1 rfl) ?_
                refine lv_if_lt (tgt := 97) hx hb d_Tx_sameString_83 (by decide) (fun c13 => ?_) (fun c13 => ?_)
                · replace h := o_tt c13 h
                  refine lv_iconst (v := (0:Int32)) hx hb d_Tx_sameString_97 (by decide) ?_
                  cases h
                  exact o_rz (v := (0:Int32)) C o_nar0 hP hS d_Tx_sameString_98
                · replace h := o_ff c13 h
                  refine lv_iload hx hb d_Tx_sameString_86 (lv_at hl 1 rfl) ?_
                  refine lv_iload hx hb d_Tx_sameString_88 (lv_at hl 0 rfl) ?_
                  refine lv_iadd hx hb d_Tx_sameString_90 ?_
                  refine lv_sipush (v := (8192:Int32)) hx hb d_Tx_sameString_91 (by decide) ?_
                  refine lv_icmp_le (tgt := 99) hx hb d_Tx_sameString_94 (by decide) (fun c14 => ?_) (fun c14 => ?_)
                  · replace h := o_tt c14 h
                    refine lv_iconst (v := (0:Int32)) hx hb d_Tx_sameString_99 (by decide) ?_
                    refine lv_istore (lv' := [(7, .int (0:Int32)), (6, .int x6_63), (5, .int x5_55), (4, .int x4_47), (0, .ref (ad 1)), (1, .int x1), (2, .ref (ad 12)), (3, .int x3)]) hx hb d_Tx_sameString_100 hl (by decide) rfl (fun ls hl => ?_)
                    obtain ⟨q1, hq1, h⟩ := o_bd_some h
                    refine o_sim2 (AH := fun zz => o_At p l e rm_Tx_sameString s m _ below meth c _ o_cls D A 8 102 [] (o_cw ad ca rt Sj a0 a2 Rd Pg Pt Mk Lk Ck Jd Ld Pr) [(0, .ref (ad 1)), (2, .ref (ad 12)), (4, .int x4_47), (5, .int x5_55), (6, .int x6_63), (7, .int zz)]) (AX := fun qq => if qq.1 = 1 then o_At p l e rm_Tx_sameString s m _ below meth c _ o_cls D A 8 132 [] (o_cw ad ca rt Sj a0 a2 Rd Pg Pt Mk Lk Ck Jd Ld Pr) [] else o_At p l e rm_Tx_sameString s m _ below meth c _ o_cls D A 8 140 [] (o_cw ad ca rt Sj a0 a2 Rd Pg Pt Mk Lk Ck Jd Ld Pr) []) (fun zz qq h h0 h1 => w_Tx_sameString_b102_01 hE C hDD n x4_47 x5_55 x6_63 a0 a2 Sj Rd Pg Pt Mk Lk Ck Jd Ld Pr rt zz qq h h0 h1) n _ q1 hq1 ?_ _ _ _ hP hS (lv_sub hl [4, 6, 3, 2, 1, 0] rfl)
                    by_cases c19 : q1.1 = 1
                    · replace h := o_tt c19 h
                      refine o_ip c19 ?_
                      intro H locs ls hP hS hl
                      refine lv_iconst (v := (0:Int32)) hx hb d_Tx_sameString_132 (by decide) ?_
                      cases h
                      exact o_rz (v := (0:Int32)) C o_nar0 hP hS d_Tx_sameString_133
                    replace h := o_ff c19 h
                    refine o_in_ c19 ?_
                    intro H locs ls hP hS hl
                    refine lv_iconst (v := (1:Int32)) hx hb d_Tx_sameString_140 (by decide) ?_
                    cases h
                    exact o_rz (v := (1:Int32)) C o_nar1 hP hS d_Tx_sameString_141
                  · replace h := o_ff c14 h
                    refine lv_iconst (v := (0:Int32)) hx hb d_Tx_sameString_97 (by decide) ?_
                    cases h
                    exact o_rz (v := (0:Int32)) C o_nar0 hP hS d_Tx_sameString_98
          · replace h := o_ff c7 h
            refine lv_iconst (v := (0:Int32)) hx hb d_Tx_sameString_39 (by decide) ?_
            cases h
            exact o_rz (v := (0:Int32)) C o_nar0 hP hS d_Tx_sameString_40
set_option maxHeartbeats 4000000 in
set_option maxRecDepth 100000 in
theorem w_Tx_member_b10_01 {E : (Nat → Prop) → State → Heap → Prop} {p : Program} {l : Launch} {e : Env} {s : State} {m : MethodId} {args : Array Value} {below : List Frame} {meth : Method} {c : Code} {D : va_G} {ad kd sd : Nat → Nat} {ca : Nat → ClassId} {A : Nat → Prop} {Q : State → Prop} (hE : o_EK E kd sd) (C : o_Cx E p s m args meth c D o_cls (o_tys ca) "SchemaJudge$Text" b_Tx_member (some .int) 6 cc_Tx_member A) (hDD : ∀ (rt : Nat) (Sj : SSJ) (T0 : STx) (T1 : STx) (Rd : SRd) (Pg : SPg) (Pt : SPt) (Mk : SMk) (Lk : SLk) (Ck : SCk) (Jd : SJd) (Ld : SLd) (Pr : SPr), va_D A (o_cw ad ca rt Sj T0 T1 Rd Pg Pt Mk Lk Ck Jd Ld Pr)) (n : Nat) (u10_x1 : Int32) (u10_x3 : Int32) (u10_a0 : STx) (u10_a2 : STx) (u10_Sj : SSJ) (u10_Rd : SRd) (u10_Pg : SPg) (u10_Pt : SPt) (u10_Mk : SMk) (u10_Lk : SLk) (u10_Ck : SCk) (u10_Jd : SJd) (u10_Ld : SLd) (u10_Pr : SPr) (u10_rt : Nat) (z : Int32 × Int32) (q : Nat × Int32 × Int32) (h : m_Tx_member_b10 n u10_x1 u10_x3 u10_a0 u10_a2 z = some q) (h0 : q.1 = 0 → o_At p l e rm_Tx_member s m args below meth c Q o_cls D A 6 10 [] (o_cw ad ca u10_rt u10_Sj u10_a0 u10_a2 u10_Rd u10_Pg u10_Pt u10_Mk u10_Lk u10_Ck u10_Jd u10_Ld u10_Pr) [(0, .ref (ad 1)), (1, .int u10_x1), (2, .ref (ad 12)), (3, .int u10_x3), (4, .int q.2.1), (5, .int q.2.2)]) (h1 : q.1 ≠ 0 → (if q.1 = 1 then o_At p l e rm_Tx_member s m args below meth c Q o_cls D A 6 33 [] (o_cw ad ca u10_rt u10_Sj u10_a0 u10_a2 u10_Rd u10_Pg u10_Pt u10_Mk u10_Lk u10_Ck u10_Jd u10_Ld u10_Pr) [(4, .int q.2.1)] else o_At p l e rm_Tx_member s m args below meth c Q o_cls D A 6 50 [] (o_cw ad ca u10_rt u10_Sj u10_a0 u10_a2 u10_Rd u10_Pg u10_Pt u10_Mk u10_Lk u10_Ck u10_Jd u10_Ld u10_Pr) [])) : o_At p l e rm_Tx_member s m args below meth c Q o_cls D A 6 10 [] (o_cw ad ca u10_rt u10_Sj u10_a0 u10_a2 u10_Rd u10_Pg u10_Pt u10_Mk u10_Lk u10_Ck u10_Jd u10_Ld u10_Pr) [(0, .ref (ad 1)), (1, .int u10_x1), (2, .ref (ad 12)), (3, .int u10_x3), (4, .int z.1), (5, .int z.2)] := by
  unfold m_Tx_member_b10 at h
  intro H locs ls hP hS hl
  have C0 := C
  obtain ⟨hx, hb, -, -, -, hown, hts, hK, -, -⟩ := C0
  refine lv_iload hx hb d_Tx_member_10 (lv_at hl 5 rfl) ?_
  refine lv_aload_n hx hb d_Tx_member_12 rfl (lv_at hl 0 rfl) ?_
  refine lv_iload_n hx hb d_Tx_member_13 rfl (lv_at hl 1 rfl) ?_
  obtain ⟨q2, hq2, h⟩ := o_bd_some h
  refine o_V (st1 := [.int q2, .int z.2]) (w1 := (o_cw ad ca u10_rt u10_Sj u10_a0 u10_a2 u10_Rd u10_Pg u10_Pt u10_Mk u10_Lk u10_Ck u10_Jd u10_Ld u10_Pr)) hE.1 C (c_Tx_size_0 hE l u10_x1 u10_a0 u10_Sj u10_a2 u10_Rd u10_Pg u10_Pt u10_Mk u10_Lk u10_Ck u10_Jd u10_Ld u10_Pr u10_rt hq2) hP (hDD _ _ _ _ _ _ _ _ _ _ _ _ _) hS hl.1 rfl cw_1 k_3_214 k_3_215 k_3_216 k_1_2 k_3_217 hv_Tx_size rfl rfl ⟨(Nat.le_of_ble_eq_true rfl), (Nat.le_of_ble_eq_true rfl)⟩ rfl (Nat.le_of_ble_eq_true rfl) ⟨Nat.zero_le _, Nat.zero_le _⟩ rfl d_Tx_member_14 (fun H locs hP hS => ?_)
  refine lv_icmp_ge (tgt := 50) hx hb d_Tx_member_17 (by decide) (fun c1 => ?_) (fun c1 => ?_)
  · replace h := o_tt c1 h
    cases h
    exact h1 (Nat.succ_ne_zero 1) _ _ _ hP hS (lv_sub hl [] rfl)
  · replace h := o_ff c1 h
    refine lv_aload_n hx hb d_Tx_member_20 rfl (lv_at hl 0 rfl) ?_
    refine lv_iload hx hb d_Tx_member_21 (lv_at hl 4 rfl) ?_
    refine lv_iconst (v := (1:Int32)) hx hb d_Tx_member_23 (by decide) ?_
    refine lv_isub hx hb d_Tx_member_24 ?_
    refine lv_aload_n hx hb d_Tx_member_25 rfl (lv_at hl 2 rfl) ?_
    refine lv_iload_n hx hb d_Tx_member_26 rfl (lv_at hl 3 rfl) ?_
    obtain ⟨q3, hq3, h⟩ := o_bd_some h
    refine o_S (st1 := [.int q3]) (w1 := (o_cw ad ca u10_rt u10_Sj u10_a0 u10_a2 u10_Rd u10_Pg u10_Pt u10_Mk u10_Lk u10_Ck u10_Jd u10_Ld u10_Pr)) hE.1 C (c_Tx_sameString_01 hE l n (z.1 - (1:Int32)) u10_x3 u10_a0 u10_a2 u10_Sj u10_Rd u10_Pg u10_Pt u10_Mk u10_Lk u10_Ck u10_Jd u10_Ld u10_Pr u10_rt hq3) hP (hDD _ _ _ _ _ _ _ _ _ _ _ _ _) hS hl.1 k_3_218 k_3_219 k_1_2 k_3_220 hs_Tx_sameString rfl rfl ⟨(Nat.le_of_ble_eq_true rfl), (Nat.le_of_ble_eq_true rfl)⟩ rfl (Nat.le_of_ble_eq_true rfl) ⟨Nat.zero_le _, Nat.zero_le _⟩ rfl d_Tx_member_27 (fun H locs hP hS => ?_)
    refine lv_if_eq (tgt := 36) hx hb d_Tx_member_30 (by decide) (fun c2 => ?_) (fun c2 => ?_)
    · replace h := o_tt c2 h
      refine lv_aload_n hx hb d_Tx_member_36 rfl (lv_at hl 0 rfl) ?_
      refine lv_iload hx hb d_Tx_member_37 (lv_at hl 4 rfl) ?_
      obtain ⟨q4, hq4, h⟩ := o_bd_some h
      refine o_V (st1 := [.int q4]) (w1 := (o_cw ad ca u10_rt u10_Sj u10_a0 u10_a2 u10_Rd u10_Pg u10_Pt u10_Mk u10_Lk u10_Ck u10_Jd u10_Ld u10_Pr)) hE.1 C (c_Tx_nextChild_0 hE l z.1 u10_a0 u10_Sj u10_a2 u10_Rd u10_Pg u10_Pt u10_Mk u10_Lk u10_Ck u10_Jd u10_Ld u10_Pr u10_rt hq4) hP (hDD _ _ _ _ _ _ _ _ _ _ _ _ _) hS hl.1 rfl cw_1 k_3_221 k_3_222 k_3_223 k_1_2 k_3_224 hv_Tx_nextChild rfl rfl ⟨(Nat.le_of_ble_eq_true rfl), (Nat.le_of_ble_eq_true rfl)⟩ rfl (Nat.le_of_ble_eq_true rfl) ⟨Nat.zero_le _, Nat.zero_le _⟩ rfl d_Tx_member_39 (fun H locs hP hS => ?_)
      refine lv_istore (lv' := [(4, .int q4), (0, .ref (ad 1)), (1, .int u10_x1), (2, .ref (ad 12)), (3, .int u10_x3), (5, .int z.2)]) hx hb d_Tx_member_42 hl (by decide) rfl (fun ls hl => ?_)
      obtain ⟨x5_44, ex5_44⟩ : ∃ y : Int32, y = z.2 + (1:Int32) := ⟨_, rfl⟩
      replace h := o_nm_at ex5_44 h
      refine lv_iinc (v := x5_44) (lv' := [(5, .int x5_44), (4, .int q4), (0, .ref (ad 1)), (1, .int u10_x1), (2, .ref (ad 12)), (3, .int u10_x3)]) hx hb d_Tx_member_44 hl (k := 5) rfl (by rw [ex5_44]; rfl) (by decide) rfl (fun ls hl => ?_)
      refine lv_goto (tgt := 10) hx hb d_Tx_member_47 (by decide) ?_
      cases h
      exact h0 rfl _ _ _ hP hS (lv_sub hl [2, 3, 4, 5, 1, 0] rfl)
    · replace h := o_ff c2 h
      cases h
      exact h1 (Nat.succ_ne_zero 0) _ _ _ hP hS (lv_sub hl [4] rfl)
set_option maxHeartbeats 4000000 in
set_option maxRecDepth 100000 in
theorem c_Tx_member_01 {E : (Nat → Prop) → State → Heap → Prop} {D : va_G} {ad kd sd : Nat → Nat} {ca : Nat → ClassId} (hE : o_EK E kd sd) (l : Launch) (n : Nat) (x1 : Int32) (x3 : Int32) (a0 : STx) (a2 : STx) (Sj : SSJ) (Rd : SRd) (Pg : SPg) (Pt : SPt) (Mk : SMk) (Lk : SLk) (Ck : SCk) (Jd : SJd) (Ld : SLd) (Pr : SPr) (rt : Nat) {r : Int32} (h : m_Tx_member n x1 x3 a0 a2 = some r) : o_Cn E l D o_cls (o_tys ca) y_Tx_member cc_Tx_member rm_Tx_member [.ref (ad 1), .int x1, .ref (ad 12), .int x3] (o_cw ad ca rt Sj a0 a2 Rd Pg Pt Mk Lk Ck Jd Ld Pr) (o_cw ad ca rt Sj a0 a2 Rd Pg Pt Mk Lk Ck Jd Ld Pr) (some (.int r)) := by
  refine o_Cn_of (by decide) (Nat.le_of_ble_eq_true rfl) ?_
  intro p e s m below meth c A ls C hD hP hS hl
  have hDD : ∀ (rt : Nat) (Sj : SSJ) (T0 : STx) (T1 : STx) (Rd : SRd) (Pg : SPg) (Pt : SPt) (Mk : SMk) (Lk : SLk) (Ck : SCk) (Jd : SJd) (Ld : SLd) (Pr : SPr), va_D A (o_cw ad ca rt Sj T0 T1 Rd Pg Pt Mk Lk Ck Jd Ld Pr) := fun _ _ _ _ _ _ _ _ _ _ _ _ _ => o_D_map hD rfl
  have hl : lv_has ls 6 [(0, .ref (ad 1)), (1, .int x1), (2, .ref (ad 12)), (3, .int x3)] := hl
  unfold m_Tx_member at h
  have C0 := C
  obtain ⟨hx, hb, -, -, -, hown, hts, hK, -, -⟩ := C0
  refine lv_aload_n hx hb d_Tx_member_0 rfl (lv_at hl 0 rfl) ?_
  refine lv_iload_n hx hb d_Tx_member_1 rfl (lv_at hl 1 rfl) ?_
  obtain ⟨q1, hq1, h⟩ := o_bd_some h
  refine o_V (st1 := [.int q1]) (w1 := (o_cw ad ca rt Sj a0 a2 Rd Pg Pt Mk Lk Ck Jd Ld Pr)) hE.1 C (c_Tx_firstChild_0 hE l x1 a0 Sj a2 Rd Pg Pt Mk Lk Ck Jd Ld Pr rt hq1) hP (hDD _ _ _ _ _ _ _ _ _ _ _ _ _) hS hl.1 rfl cw_1 k_3_210 k_3_211 k_3_212 k_1_2 k_3_213 hv_Tx_firstChild rfl rfl ⟨(Nat.le_of_ble_eq_true rfl), (Nat.le_of_ble_eq_true rfl)⟩ rfl (Nat.le_of_ble_eq_true rfl) ⟨Nat.zero_le _, Nat.zero_le _⟩ rfl d_Tx_member_2 (fun H locs hP hS => ?_)
  refine lv_istore (lv' := [(4, .int q1), (0, .ref (ad 1)), (1, .int x1), (2, .ref (ad 12)), (3, .int x3)]) hx hb d_Tx_member_5 hl (by decide) rfl (fun ls hl => ?_)
  refine lv_iconst (v := (0:Int32)) hx hb d_Tx_member_7 (by decide) ?_
  refine lv_istore (lv' := [(5, .int (0:Int32)), (4, .int q1), (0, .ref (ad 1)), (1, .int x1), (2, .ref (ad 12)), (3, .int x3)]) hx hb d_Tx_member_8 hl (by decide) rfl (fun ls hl => ?_)
  obtain ⟨q5, hq5, h⟩ := o_bd_some h
  refine o_sim2 (AH := fun zz => o_At p l e rm_Tx_member s m _ below meth c _ o_cls D A 6 10 [] (o_cw ad ca rt Sj a0 a2 Rd Pg Pt Mk Lk Ck Jd Ld Pr) [(0, .ref (ad 1)), (1, .int x1), (2, .ref (ad 12)), (3, .int x3), (4, .int zz.1), (5, .int zz.2)]) (AX := fun qq => if qq.1 = 1 then o_At p l e rm_Tx_member s m _ below meth c _ o_cls D A 6 33 [] (o_cw ad ca rt Sj a0 a2 Rd Pg Pt Mk Lk Ck Jd Ld Pr) [(4, .int qq.2.1)] else o_At p l e rm_Tx_member s m _ below meth c _ o_cls D A 6 50 [] (o_cw ad ca rt Sj a0 a2 Rd Pg Pt Mk Lk Ck Jd Ld Pr) []) (fun zz qq h h0 h1 => w_Tx_member_b10_01 hE C hDD n x1 x3 a0 a2 Sj Rd Pg Pt Mk Lk Ck Jd Ld Pr rt zz qq h h0 h1) n _ q5 hq5 ?_ _ _ _ hP hS (lv_sub hl [2, 3, 4, 5, 1, 0] rfl)
  by_cases c3 : q5.1 = 1
  · replace h := o_tt c3 h
    refine o_ip c3 ?_
    intro H locs ls hP hS hl
    refine lv_iload hx hb d_Tx_member_33 (lv_at hl 0 rfl) ?_
    cases h
    exact o_ri C hP hS d_Tx_member_35
  replace h := o_ff c3 h
  refine o_in_ c3 ?_
  intro H locs ls hP hS hl
  refine lv_iconst (v := (-1:Int32)) hx hb d_Tx_member_50 (by decide) ?_
  cases h
  exact o_ri (v := (-1:Int32)) C hP hS d_Tx_member_51
set_option maxHeartbeats 4000000 in
set_option maxRecDepth 100000 in
theorem w_Tx_nextChild_j22_1 {E : (Nat → Prop) → State → Heap → Prop} {p : Program} {l : Launch} {e : Env} {s : State} {m : MethodId} {args : Array Value} {below : List Frame} {meth : Method} {c : Code} {D : va_G} {ad kd sd : Nat → Nat} {ca : Nat → ClassId} {A : Nat → Prop} (hE : o_EK E kd sd) (C : o_Cx E p s m args meth c D o_cls (o_tys ca) "SchemaJudge$Text" b_Tx_nextChild (some .int) 3 cc_Tx_nextChild A) (hDD : ∀ (rt : Nat) (Sj : SSJ) (T0 : STx) (T1 : STx) (Rd : SRd) (Pg : SPg) (Pt : SPt) (Mk : SMk) (Lk : SLk) (Ck : SCk) (Jd : SJd) (Ld : SLd) (Pr : SPr), va_D A (o_cw ad ca rt Sj T0 T1 Rd Pg Pt Mk Lk Ck Jd Ld Pr)) (x1 : Int32) (y0 : Int32) (a0 : STx) (Sj : SSJ) (T0 : STx) (Rd : SRd) (Pg : SPg) (Pt : SPt) (Mk : SMk) (Lk : SLk) (Ck : SCk) (Jd : SJd) (Ld : SLd) (Pr : SPr) (rt : Nat) {r : Int32} (h : m_Tx_nextChild_j22 x1 y0 a0 = some r) : o_At p l e rm_Tx_nextChild s m args below meth c (MQ below (o_Qx D o_cls (some (.int r)) (o_cw ad ca rt Sj T0 a0 Rd Pg Pt Mk Lk Ck Jd Ld Pr) A) args s 0 0 A) o_cls D A 3 22 [.int y0] (o_cw ad ca rt Sj T0 a0 Rd Pg Pt Mk Lk Ck Jd Ld Pr) [(0, .ref (ad 12)), (1, .int x1)] := by
  unfold m_Tx_nextChild_j22 at h
  intro H locs ls hP hS hl
  have C0 := C
  obtain ⟨hx, hb, -, -, -, hown, hts, hK, -, -⟩ := C0
  refine lv_istore_n (lv' := [(2, .int y0), (0, .ref (ad 12)), (1, .int x1)]) hx hb d_Tx_nextChild_22 rfl hl (by decide) rfl (fun ls hl => ?_)
  refine lv_iload_n hx hb d_Tx_nextChild_23 rfl (lv_at hl 0 rfl) ?_
  refine lv_if_lt (tgt := 52) hx hb d_Tx_nextChild_24 (by decide) (fun c2 => ?_) (fun c2 => ?_)
  · replace h := o_tt c2 h
    refine lv_iconst (v := (-1:Int32)) hx hb d_Tx_nextChild_52 (by decide) ?_
    cases h
    exact o_ri (v := (-1:Int32)) C hP hS d_Tx_nextChild_53
  · replace h := o_ff c2 h
    refine lv_iload_n hx hb d_Tx_nextChild_27 rfl (lv_at hl 0 rfl) ?_
    refine lv_aload_n hx hb d_Tx_nextChild_28 rfl (lv_at hl 1 rfl) ?_
    refine o_get (v := .int (Tx_total a0)) C in_Tx hP 12 cw_12 rfl 10 (by decide) k_1_56 rfl rfl d_Tx_nextChild_29 ?_
    refine lv_icmp_ge (tgt := 52) hx hb d_Tx_nextChild_32 (by decide) (fun c3 => ?_) (fun c3 => ?_)
    · replace h := o_tt c3 h
      refine lv_iconst (v := (-1:Int32)) hx hb d_Tx_nextChild_52 (by decide) ?_
      cases h
      exact o_ri (v := (-1:Int32)) C hP hS d_Tx_nextChild_53
    · replace h := o_ff c3 h
      refine lv_aload_n hx hb d_Tx_nextChild_35 rfl (lv_at hl 1 rfl) ?_
      refine o_get (v := .ref (ad 20)) C in_Tx hP 12 cw_12 rfl 7 (by decide) k_1_53 rfl rfl d_Tx_nextChild_36 ?_
      refine lv_iload_n hx hb d_Tx_nextChild_39 rfl (lv_at hl 2 rfl) ?_
      obtain ⟨g4, h⟩ := o_gd_some h
      refine o_iald (f := (Tx_slots a0)) C hP 20 17 cw_20 rfl g4 d_Tx_nextChild_40 ?_
      refine lv_iconst (v := (1:Int32)) hx hb d_Tx_nextChild_41 (by decide) ?_
      refine lv_iadd hx hb d_Tx_nextChild_42 ?_
      refine lv_aload_n hx hb d_Tx_nextChild_43 rfl (lv_at hl 1 rfl) ?_
      refine o_get (v := .ref (ad 15)) C in_Tx hP 12 cw_12 rfl 2 (by decide) k_1_48 rfl rfl d_Tx_nextChild_44 ?_
      refine lv_iload_n hx hb d_Tx_nextChild_47 rfl (lv_at hl 0 rfl) ?_
      obtain ⟨g5, h⟩ := o_gd_some h
      refine o_iald (f := (Tx_sizes a0)) C hP 15 12 cw_15 rfl g5 d_Tx_nextChild_48 ?_
      refine lv_icmp_lt (tgt := 54) hx hb d_Tx_nextChild_49 (by decide) (fun c6 => ?_) (fun c6 => ?_)
      · replace h := o_tt c6 h
        refine lv_aload_n hx hb d_Tx_nextChild_54 rfl (lv_at hl 1 rfl) ?_
        refine o_get (v := .ref (ad 13)) C in_Tx hP 12 cw_12 rfl 0 (by decide) k_1_46 rfl rfl d_Tx_nextChild_55 ?_
        refine lv_iload_n hx hb d_Tx_nextChild_58 rfl (lv_at hl 0 rfl) ?_
        obtain ⟨g7, h⟩ := o_gd_some h
        refine o_iald (f := (Tx_kinds a0)) C hP 13 10 cw_13 rfl g7 d_Tx_nextChild_59 ?_
        refine lv_iconst (v := (5:Int32)) hx hb d_Tx_nextChild_60 (by decide) ?_
        refine lv_icmp_ne (tgt := 73) hx hb d_Tx_nextChild_61 (by decide) (fun c8 => ?_) (fun c8 => ?_)
        · replace h := o_ff c8 h
          refine lv_aload_n hx hb d_Tx_nextChild_73 rfl (lv_at hl 1 rfl) ?_
          refine o_get (v := .ref (ad 19)) C in_Tx hP 12 cw_12 rfl 6 (by decide) k_1_52 rfl rfl d_Tx_nextChild_74 ?_
          refine lv_iload_n hx hb d_Tx_nextChild_77 rfl (lv_at hl 2 rfl) ?_
          obtain ⟨g9, h⟩ := o_gd_some h
          refine o_iald (f := (Tx_afters a0)) C hP 19 16 cw_19 rfl g9 d_Tx_nextChild_78 ?_
          refine lv_iconst (v := (1:Int32)) hx hb d_Tx_nextChild_79 (by decide) ?_
          refine lv_iadd hx hb d_Tx_nextChild_80 ?_
          cases h
          exact o_ri (v := (((Tx_afters a0) x1.toNatClampNeg) + (1:Int32))) C hP hS d_Tx_nextChild_81
        · replace h := o_tt c8 h
          refine lv_aload_n hx hb d_Tx_nextChild_64 rfl (lv_at hl 1 rfl) ?_
          refine o_get (v := .ref (ad 19)) C in_Tx hP 12 cw_12 rfl 6 (by decide) k_1_52 rfl rfl d_Tx_nextChild_65 ?_
          refine lv_iload_n hx hb d_Tx_nextChild_68 rfl (lv_at hl 2 rfl) ?_
          obtain ⟨g10, h⟩ := o_gd_some h
          refine o_iald (f := (Tx_afters a0)) C hP 19 16 cw_19 rfl g10 d_Tx_nextChild_69 ?_
          refine lv_goto (tgt := 81) hx hb d_Tx_nextChild_70 (by decide) ?_
          cases h
          exact o_ri (v := ((Tx_afters a0) x1.toNatClampNeg)) C hP hS d_Tx_nextChild_81
      · replace h := o_ff c6 h
        refine lv_iconst (v := (-1:Int32)) hx hb d_Tx_nextChild_52 (by decide) ?_
        cases h
        exact o_ri (v := (-1:Int32)) C hP hS d_Tx_nextChild_53
set_option maxHeartbeats 4000000 in
set_option maxRecDepth 100000 in
theorem c_Tx_nextChild_1 {E : (Nat → Prop) → State → Heap → Prop} {D : va_G} {ad kd sd : Nat → Nat} {ca : Nat → ClassId} (hE : o_EK E kd sd) (l : Launch) (x1 : Int32) (a0 : STx) (Sj : SSJ) (T0 : STx) (Rd : SRd) (Pg : SPg) (Pt : SPt) (Mk : SMk) (Lk : SLk) (Ck : SCk) (Jd : SJd) (Ld : SLd) (Pr : SPr) (rt : Nat) {r : Int32} (h : m_Tx_nextChild x1 a0 = some r) : o_Cn E l D o_cls (o_tys ca) y_Tx_nextChild cc_Tx_nextChild rm_Tx_nextChild [.ref (ad 12), .int x1] (o_cw ad ca rt Sj T0 a0 Rd Pg Pt Mk Lk Ck Jd Ld Pr) (o_cw ad ca rt Sj T0 a0 Rd Pg Pt Mk Lk Ck Jd Ld Pr) (some (.int r)) := by
  refine o_Cn_of (by decide) (Nat.le_of_ble_eq_true rfl) ?_
  intro p e s m below meth c A ls C hD hP hS hl
  have hDD : ∀ (rt : Nat) (Sj : SSJ) (T0 : STx) (T1 : STx) (Rd : SRd) (Pg : SPg) (Pt : SPt) (Mk : SMk) (Lk : SLk) (Ck : SCk) (Jd : SJd) (Ld : SLd) (Pr : SPr), va_D A (o_cw ad ca rt Sj T0 T1 Rd Pg Pt Mk Lk Ck Jd Ld Pr) := fun _ _ _ _ _ _ _ _ _ _ _ _ _ => o_D_map hD rfl
  have hl : lv_has ls 3 [(0, .ref (ad 12)), (1, .int x1)] := hl
  unfold m_Tx_nextChild at h
  have C0 := C
  obtain ⟨hx, hb, -, -, -, hown, hts, hK, -, -⟩ := C0
  refine lv_iload_n hx hb d_Tx_nextChild_0 rfl (lv_at hl 1 rfl) ?_
  refine lv_if_lt (tgt := 21) hx hb d_Tx_nextChild_1 (by decide) (fun c1 => ?_) (fun c1 => ?_)
  · replace h := o_tt c1 h
    refine lv_iconst (v := (-1:Int32)) hx hb d_Tx_nextChild_21 (by decide) ?_
    exact w_Tx_nextChild_j22_1 hE C hDD x1 (-1:Int32) a0 Sj T0 Rd Pg Pt Mk Lk Ck Jd Ld Pr rt h _ _ _ hP hS (lv_sub hl [0, 1] rfl)
  · replace h := o_ff c1 h
    refine lv_iload_n hx hb d_Tx_nextChild_4 rfl (lv_at hl 1 rfl) ?_
    refine lv_aload_n hx hb d_Tx_nextChild_5 rfl (lv_at hl 0 rfl) ?_
    refine o_get (v := .int (Tx_total a0)) C in_Tx hP 12 cw_12 rfl 10 (by decide) k_1_56 rfl rfl d_Tx_nextChild_6 ?_
    refine lv_icmp_ge (tgt := 21) hx hb d_Tx_nextChild_9 (by decide) (fun c11 => ?_) (fun c11 => ?_)
    · replace h := o_tt c11 h
      refine lv_iconst (v := (-1:Int32)) hx hb d_Tx_nextChild_21 (by decide) ?_
      exact w_Tx_nextChild_j22_1 hE C hDD x1 (-1:Int32) a0 Sj T0 Rd Pg Pt Mk Lk Ck Jd Ld Pr rt h _ _ _ hP hS (lv_sub hl [0, 1] rfl)
    · replace h := o_ff c11 h
      refine lv_aload_n hx hb d_Tx_nextChild_12 rfl (lv_at hl 0 rfl) ?_
      refine o_get (v := .ref (ad 16)) C in_Tx hP 12 cw_12 rfl 3 (by decide) k_1_49 rfl rfl d_Tx_nextChild_13 ?_
      refine lv_iload_n hx hb d_Tx_nextChild_16 rfl (lv_at hl 1 rfl) ?_
      obtain ⟨g12, h⟩ := o_gd_some h
      refine o_iald (f := (Tx_parents a0)) C hP 16 13 cw_16 rfl g12 d_Tx_nextChild_17 ?_
      refine lv_goto (tgt := 22) hx hb d_Tx_nextChild_18 (by decide) ?_
      exact w_Tx_nextChild_j22_1 hE C hDD x1 ((Tx_parents a0) x1.toNatClampNeg) a0 Sj T0 Rd Pg Pt Mk Lk Ck Jd Ld Pr rt h _ _ _ hP hS (lv_sub hl [0, 1] rfl)
set_option maxHeartbeats 4000000 in
set_option maxRecDepth 100000 in
theorem w_Jd_named_j55 {E : (Nat → Prop) → State → Heap → Prop} {p : Program} {l : Launch} {e : Env} {s : State} {m : MethodId} {args : Array Value} {below : List Frame} {meth : Method} {c : Code} {D : va_G} {ad kd sd : Nat → Nat} {ca : Nat → ClassId} {A : Nat → Prop} {Q : State → Prop} (hE : o_EK E kd sd) (C : o_Cx E p s m args meth c D o_cls (o_tys ca) "SchemaJudge$Judge" b_Jd_named (some .long) 7 cc_Jd_named A) (hDD : ∀ (rt : Nat) (Sj : SSJ) (T0 : STx) (T1 : STx) (Rd : SRd) (Pg : SPg) (Pt : SPt) (Mk : SMk) (Lk : SLk) (Ck : SCk) (Jd : SJd) (Ld : SLd) (Pr : SPr), va_D A (o_cw ad ca rt Sj T0 T1 Rd Pg Pt Mk Lk Ck Jd Ld Pr)) (n : Nat) (u15_x1 : Int32) (u15_x2 : Int32) (u15_T0 : STx) (u15_T1 : STx) (u15_Sj : SSJ) (u15_Rd : SRd) (u15_Pg : SPg) (u15_Pt : SPt) (u15_Mk : SMk) (u15_Lk : SLk) (u15_Ck : SCk) (u15_Jd : SJd) (u15_Ld : SLd) (u15_Pr : SPr) (u15_rt : Nat) (x3 : Int64) (x5 : Int32) (x6 : Int32) {q : Nat × Int64 × Int32 × Int32} (h : m_Jd_named_j55 n u15_x1 u15_x2 x3 x5 x6 u15_T0 u15_T1 = some q) (h0 : q.1 = 0 → o_At p l e rm_Jd_named s m args below meth c Q o_cls D A 7 15 [] (o_cw ad ca u15_rt u15_Sj u15_T0 u15_T1 u15_Rd u15_Pg u15_Pt u15_Mk u15_Lk u15_Ck u15_Jd u15_Ld u15_Pr) [(0, .ref (ad 49)), (1, .int u15_x1), (2, .int u15_x2), (3, .long q.2.1), (5, .int q.2.2.1), (6, .int q.2.2.2)]) (h1 : q.1 ≠ 0 → (o_At p l e rm_Jd_named s m args below meth c Q o_cls D A 7 72 [] (o_cw ad ca u15_rt u15_Sj u15_T0 u15_T1 u15_Rd u15_Pg u15_Pt u15_Mk u15_Lk u15_Ck u15_Jd u15_Ld u15_Pr) [(3, .long q.2.1)])) : o_At p l e rm_Jd_named s m args below meth c Q o_cls D A 7 55 [] (o_cw ad ca u15_rt u15_Sj u15_T0 u15_T1 u15_Rd u15_Pg u15_Pt u15_Mk u15_Lk u15_Ck u15_Jd u15_Ld u15_Pr) [(0, .ref (ad 49)), (1, .int u15_x1), (2, .int u15_x2), (3, .long x3), (5, .int x5), (6, .int x6)] := by
  unfold m_Jd_named_j55 at h
  intro H locs ls hP hS hl
  have C0 := C
  obtain ⟨hx, hb, -, -, -, hown, hts, hK, -, -⟩ := C0
  refine lv_aload_n hx hb d_Jd_named_55 rfl (lv_at hl 0 rfl) ?_
  refine o_get (v := .ref (ad 12)) C in_Jd hP 49 cw_49 rfl 2 (by decide) k_2_76 rfl rfl d_Jd_named_56 ?_
  refine lv_iload hx hb d_Jd_named_59 (lv_at hl 4 rfl) ?_
  obtain ⟨q4, hq4, h⟩ := o_bd_some h
  refine o_V (st1 := [.int q4]) (w1 := (o_cw ad ca u15_rt u15_Sj u15_T0 u15_T1 u15_Rd u15_Pg u15_Pt u15_Mk u15_Lk u15_Ck u15_Jd u15_Ld u15_Pr)) hE.1 C (c_Tx_nextChild_1 hE l x5 u15_T1 u15_Sj u15_T0 u15_Rd u15_Pg u15_Pt u15_Mk u15_Lk u15_Ck u15_Jd u15_Ld u15_Pr u15_rt hq4) hP (hDD _ _ _ _ _ _ _ _ _ _ _ _ _) hS hl.1 rfl cw_12 k_6_28 k_3_222 k_3_223 k_1_2 k_3_224 hv_Tx_nextChild rfl rfl ⟨(Nat.le_of_ble_eq_true rfl), (Nat.le_of_ble_eq_true rfl)⟩ rfl (Nat.le_of_ble_eq_true rfl) ⟨Nat.zero_le _, Nat.zero_le _⟩ rfl d_Jd_named_61 (fun H locs hP hS => ?_)
  refine lv_istore (lv' := [(5, .int q4), (0, .ref (ad 49)), (1, .int u15_x1), (2, .int u15_x2), (3, .long x3), (6, .int x6)]) hx hb d_Jd_named_64 hl (by decide) rfl (fun ls hl => ?_)
  obtain ⟨x6_66, ex6_66⟩ : ∃ y : Int32, y = x6 + (1:Int32) := ⟨_, rfl⟩
  replace h := o_nm_at ex6_66 h
  refine lv_iinc (v := x6_66) (lv' := [(6, .int x6_66), (5, .int q4), (0, .ref (ad 49)), (1, .int u15_x1), (2, .int u15_x2), (3, .long x3)]) hx hb d_Jd_named_66 hl (k := 5) rfl (by rw [ex6_66]; rfl) (by decide) rfl (fun ls hl => ?_)
  refine lv_goto (tgt := 15) hx hb d_Jd_named_69 (by decide) ?_
  cases h
  exact h0 rfl _ _ _ hP hS (lv_sub hl [2, 3, 4, 5, 1, 0] rfl)
set_option maxHeartbeats 4000000 in
set_option maxRecDepth 100000 in
theorem w_Jd_named_b15 {E : (Nat → Prop) → State → Heap → Prop} {p : Program} {l : Launch} {e : Env} {s : State} {m : MethodId} {args : Array Value} {below : List Frame} {meth : Method} {c : Code} {D : va_G} {ad kd sd : Nat → Nat} {ca : Nat → ClassId} {A : Nat → Prop} {Q : State → Prop} (hE : o_EK E kd sd) (C : o_Cx E p s m args meth c D o_cls (o_tys ca) "SchemaJudge$Judge" b_Jd_named (some .long) 7 cc_Jd_named A) (hDD : ∀ (rt : Nat) (Sj : SSJ) (T0 : STx) (T1 : STx) (Rd : SRd) (Pg : SPg) (Pt : SPt) (Mk : SMk) (Lk : SLk) (Ck : SCk) (Jd : SJd) (Ld : SLd) (Pr : SPr), va_D A (o_cw ad ca rt Sj T0 T1 Rd Pg Pt Mk Lk Ck Jd Ld Pr)) (n : Nat) (u15_x1 : Int32) (u15_x2 : Int32) (u15_T0 : STx) (u15_T1 : STx) (u15_Sj : SSJ) (u15_Rd : SRd) (u15_Pg : SPg) (u15_Pt : SPt) (u15_Mk : SMk) (u15_Lk : SLk) (u15_Ck : SCk) (u15_Jd : SJd) (u15_Ld : SLd) (u15_Pr : SPr) (u15_rt : Nat) (z : Int64 × Int32 × Int32) (q : Nat × Int64 × Int32 × Int32) (h : m_Jd_named_b15 n u15_x1 u15_x2 u15_T0 u15_T1 z = some q) (h0 : q.1 = 0 → o_At p l e rm_Jd_named s m args below meth c Q o_cls D A 7 15 [] (o_cw ad ca u15_rt u15_Sj u15_T0 u15_T1 u15_Rd u15_Pg u15_Pt u15_Mk u15_Lk u15_Ck u15_Jd u15_Ld u15_Pr) [(0, .ref (ad 49)), (1, .int u15_x1), (2, .int u15_x2), (3, .long q.2.1), (5, .int q.2.2.1), (6, .int q.2.2.2)]) (h1 : q.1 ≠ 0 → (o_At p l e rm_Jd_named s m args below meth c Q o_cls D A 7 72 [] (o_cw ad ca u15_rt u15_Sj u15_T0 u15_T1 u15_Rd u15_Pg u15_Pt u15_Mk u15_Lk u15_Ck u15_Jd u15_Ld u15_Pr) [(3, .long q.2.1)])) : o_At p l e rm_Jd_named s m args below meth c Q o_cls D A 7 15 [] (o_cw ad ca u15_rt u15_Sj u15_T0 u15_T1 u15_Rd u15_Pg u15_Pt u15_Mk u15_Lk u15_Ck u15_Jd u15_Ld u15_Pr) [(0, .ref (ad 49)), (1, .int u15_x1), (2, .int u15_x2), (3, .long z.1), (5, .int z.2.1), (6, .int z.2.2)] := by
  unfold m_Jd_named_b15 at h
  intro H locs ls hP hS hl
  have C0 := C
  obtain ⟨hx, hb, -, -, -, hown, hts, hK, -, -⟩ := C0
  refine lv_iload hx hb d_Jd_named_15 (lv_at hl 5 rfl) ?_
  refine lv_aload_n hx hb d_Jd_named_17 rfl (lv_at hl 0 rfl) ?_
  refine o_get (v := .ref (ad 12)) C in_Jd hP 49 cw_49 rfl 2 (by decide) k_2_76 rfl rfl d_Jd_named_18 ?_
  refine lv_iload_n hx hb d_Jd_named_21 rfl (lv_at hl 2 rfl) ?_
  obtain ⟨q2, hq2, h⟩ := o_bd_some h
  refine o_V (st1 := [.int q2, .int z.2.2]) (w1 := (o_cw ad ca u15_rt u15_Sj u15_T0 u15_T1 u15_Rd u15_Pg u15_Pt u15_Mk u15_Lk u15_Ck u15_Jd u15_Ld u15_Pr)) hE.1 C (c_Tx_size_1 hE l u15_x2 u15_T1 u15_Sj u15_T0 u15_Rd u15_Pg u15_Pt u15_Mk u15_Lk u15_Ck u15_Jd u15_Ld u15_Pr u15_rt hq2) hP (hDD _ _ _ _ _ _ _ _ _ _ _ _ _) hS hl.1 rfl cw_12 k_6_26 k_3_215 k_3_216 k_1_2 k_3_217 hv_Tx_size rfl rfl ⟨(Nat.le_of_ble_eq_true rfl), (Nat.le_of_ble_eq_true rfl)⟩ rfl (Nat.le_of_ble_eq_true rfl) ⟨Nat.zero_le _, Nat.zero_le _⟩ rfl d_Jd_named_22 (fun H locs hP hS => ?_)
  refine lv_icmp_ge (tgt := 72) hx hb d_Jd_named_25 (by decide) (fun c1 => ?_) (fun c1 => ?_)
  · replace h := o_tt c1 h
    cases h
    exact h1 (Nat.succ_ne_zero 0) _ _ _ hP hS (lv_sub hl [3] rfl)
  · replace h := o_ff c1 h
    refine lv_aload_n hx hb d_Jd_named_28 rfl (lv_at hl 0 rfl) ?_
    refine o_get (v := .ref (ad 1)) C in_Jd hP 49 cw_49 rfl 0 (by decide) k_2_74 rfl rfl d_Jd_named_29 ?_
    refine lv_iload_n hx hb d_Jd_named_32 rfl (lv_at hl 1 rfl) ?_
    refine lv_aload_n hx hb d_Jd_named_33 rfl (lv_at hl 0 rfl) ?_
    refine o_get (v := .ref (ad 12)) C in_Jd hP 49 cw_49 rfl 2 (by decide) k_2_76 rfl rfl d_Jd_named_34 ?_
    refine lv_iload hx hb d_Jd_named_37 (lv_at hl 4 rfl) ?_
    refine lv_iconst (v := (1:Int32)) hx hb d_Jd_named_39 (by decide) ?_
    refine lv_isub hx hb d_Jd_named_40 ?_
    obtain ⟨q3, hq3, h⟩ := o_bd_some h
    refine o_V (st1 := [.int q3]) (w1 := (o_cw ad ca u15_rt u15_Sj u15_T0 u15_T1 u15_Rd u15_Pg u15_Pt u15_Mk u15_Lk u15_Ck u15_Jd u15_Ld u15_Pr)) hE.1 C (c_Tx_member_01 hE l n u15_x1 (z.2.1 - (1:Int32)) u15_T0 u15_T1 u15_Sj u15_Rd u15_Pg u15_Pt u15_Mk u15_Lk u15_Ck u15_Jd u15_Ld u15_Pr u15_rt hq3) hP (hDD _ _ _ _ _ _ _ _ _ _ _ _ _) hS hl.1 rfl cw_1 k_6_118 k_3_207 k_3_208 k_1_2 k_3_209 hv_Tx_member rfl rfl ⟨(Nat.le_of_ble_eq_true rfl), (Nat.le_of_ble_eq_true rfl)⟩ rfl (Nat.le_of_ble_eq_true rfl) ⟨Nat.zero_le _, Nat.zero_le _⟩ rfl d_Jd_named_41 (fun H locs hP hS => ?_)
    refine lv_iconst (v := (-1:Int32)) hx hb d_Jd_named_44 (by decide) ?_
    refine lv_icmp_eq (tgt := 55) hx hb d_Jd_named_45 (by decide) (fun c2 => ?_) (fun c2 => ?_)
    · replace h := o_tt c2 h
      exact w_Jd_named_j55 hE C hDD n u15_x1 u15_x2 u15_T0 u15_T1 u15_Sj u15_Rd u15_Pg u15_Pt u15_Mk u15_Lk u15_Ck u15_Jd u15_Ld u15_Pr u15_rt z.1 z.2.1 z.2.2 h h0 h1 _ _ _ hP hS (lv_sub hl [0, 1, 2, 3, 4, 5] rfl)
    · replace h := o_ff c2 h
      refine lv_lload_n hx hb d_Jd_named_48 rfl (lv_at hl 3 rfl) ?_
      refine lv_lconst (v := (1:Int64)) hx hb d_Jd_named_49 (by decide) ?_
      refine lv_iload hx hb d_Jd_named_50 (lv_at hl 5 rfl) ?_
      refine lv_lshl hx hb d_Jd_named_52 rfl ?_
      refine lv_lor hx hb d_Jd_named_53 ?_
      refine lv_topl (fun x3_54 ex3_54 => ?_)
      replace h := o_nm_at ex3_54 h
      refine lv_lstore_n (lv' := [(3, .long x3_54), (0, .ref (ad 49)), (1, .int u15_x1), (2, .int u15_x2), (5, .int z.2.1), (6, .int z.2.2)]) hx hb d_Jd_named_54 rfl hl (by decide) rfl (fun ls hl => ?_)
      exact w_Jd_named_j55 hE C hDD n u15_x1 u15_x2 u15_T0 u15_T1 u15_Sj u15_Rd u15_Pg u15_Pt u15_Mk u15_Lk u15_Ck u15_Jd u15_Ld u15_Pr u15_rt x3_54 z.2.1 z.2.2 h h0 h1 _ _ _ hP hS (lv_sub hl [1, 2, 3, 0, 4, 5] rfl)
set_option maxHeartbeats 4000000 in
set_option maxRecDepth 100000 in
theorem c_Jd_named {E : (Nat → Prop) → State → Heap → Prop} {D : va_G} {ad kd sd : Nat → Nat} {ca : Nat → ClassId} (hE : o_EK E kd sd) (l : Launch) (n : Nat) (x1 : Int32) (x2 : Int32) (T0 : STx) (T1 : STx) (Sj : SSJ) (Rd : SRd) (Pg : SPg) (Pt : SPt) (Mk : SMk) (Lk : SLk) (Ck : SCk) (Jd : SJd) (Ld : SLd) (Pr : SPr) (rt : Nat) {r : Int64} (h : m_Jd_named n x1 x2 T0 T1 = some r) : o_Cn E l D o_cls (o_tys ca) y_Jd_named cc_Jd_named rm_Jd_named [.ref (ad 49), .int x1, .int x2] (o_cw ad ca rt Sj T0 T1 Rd Pg Pt Mk Lk Ck Jd Ld Pr) (o_cw ad ca rt Sj T0 T1 Rd Pg Pt Mk Lk Ck Jd Ld Pr) (some (.long r)) := by
  refine o_Cn_of (by decide) (Nat.le_of_ble_eq_true rfl) ?_
  intro p e s m below meth c A ls C hD hP hS hl
  have hDD : ∀ (rt : Nat) (Sj : SSJ) (T0 : STx) (T1 : STx) (Rd : SRd) (Pg : SPg) (Pt : SPt) (Mk : SMk) (Lk : SLk) (Ck : SCk) (Jd : SJd) (Ld : SLd) (Pr : SPr), va_D A (o_cw ad ca rt Sj T0 T1 Rd Pg Pt Mk Lk Ck Jd Ld Pr) := fun _ _ _ _ _ _ _ _ _ _ _ _ _ => o_D_map hD rfl
  have hl : lv_has ls 7 [(0, .ref (ad 49)), (1, .int x1), (2, .int x2)] := hl
  unfold m_Jd_named at h
  have C0 := C
  obtain ⟨hx, hb, -, -, -, hown, hts, hK, -, -⟩ := C0
  refine lv_lconst (v := (0:Int64)) hx hb d_Jd_named_0 (by decide) ?_
  refine lv_lstore_n (lv' := [(3, .long (0:Int64)), (0, .ref (ad 49)), (1, .int x1), (2, .int x2)]) hx hb d_Jd_named_1 rfl hl (by decide) rfl (fun ls hl => ?_)
  refine lv_aload_n hx hb d_Jd_named_2 rfl (lv_at hl 1 rfl) ?_
  refine o_get (v := .ref (ad 12)) C in_Jd hP 49 cw_49 rfl 2 (by decide) k_2_76 rfl rfl d_Jd_named_3 ?_
  refine lv_iload_n hx hb d_Jd_named_6 rfl (lv_at hl 3 rfl) ?_
  obtain ⟨q1, hq1, h⟩ := o_bd_some h
  refine o_V (st1 := [.int q1]) (w1 := (o_cw ad ca rt Sj T0 T1 Rd Pg Pt Mk Lk Ck Jd Ld Pr)) hE.1 C (c_Tx_firstChild_1 hE l x2 T1 Sj T0 Rd Pg Pt Mk Lk Ck Jd Ld Pr rt hq1) hP (hDD _ _ _ _ _ _ _ _ _ _ _ _ _) hS hl.1 rfl cw_12 k_6_25 k_3_211 k_3_212 k_1_2 k_3_213 hv_Tx_firstChild rfl rfl ⟨(Nat.le_of_ble_eq_true rfl), (Nat.le_of_ble_eq_true rfl)⟩ rfl (Nat.le_of_ble_eq_true rfl) ⟨Nat.zero_le _, Nat.zero_le _⟩ rfl d_Jd_named_7 (fun H locs hP hS => ?_)
  refine lv_istore (lv' := [(5, .int q1), (3, .long (0:Int64)), (0, .ref (ad 49)), (1, .int x1), (2, .int x2)]) hx hb d_Jd_named_10 hl (by decide) rfl (fun ls hl => ?_)
  refine lv_iconst (v := (0:Int32)) hx hb d_Jd_named_12 (by decide) ?_
  refine lv_istore (lv' := [(6, .int (0:Int32)), (5, .int q1), (3, .long (0:Int64)), (0, .ref (ad 49)), (1, .int x1), (2, .int x2)]) hx hb d_Jd_named_13 hl (by decide) rfl (fun ls hl => ?_)
  obtain ⟨q5, hq5, h⟩ := o_bd_some h
  refine o_sim2 (AH := fun zz => o_At p l e rm_Jd_named s m _ below meth c _ o_cls D A 7 15 [] (o_cw ad ca rt Sj T0 T1 Rd Pg Pt Mk Lk Ck Jd Ld Pr) [(0, .ref (ad 49)), (1, .int x1), (2, .int x2), (3, .long zz.1), (5, .int zz.2.1), (6, .int zz.2.2)]) (AX := fun qq => o_At p l e rm_Jd_named s m _ below meth c _ o_cls D A 7 72 [] (o_cw ad ca rt Sj T0 T1 Rd Pg Pt Mk Lk Ck Jd Ld Pr) [(3, .long qq.2.1)]) (fun zz qq h h0 h1 => w_Jd_named_b15 hE C hDD n x1 x2 T0 T1 Sj Rd Pg Pt Mk Lk Ck Jd Ld Pr rt zz qq h h0 h1) n _ q5 hq5 ?_ _ _ _ hP hS (lv_sub hl [3, 4, 5, 2, 1, 0] rfl)
  intro H locs ls hP hS hl
  refine lv_lload_n hx hb d_Jd_named_72 rfl (lv_at hl 0 rfl) ?_
  cases h
  exact o_rl C hP hS d_Jd_named_73
set_option maxHeartbeats 4000000 in
set_option maxRecDepth 100000 in
theorem c_Tx_kind_1 {E : (Nat → Prop) → State → Heap → Prop} {D : va_G} {ad kd sd : Nat → Nat} {ca : Nat → ClassId} (hE : o_EK E kd sd) (l : Launch) (x1 : Int32) (a0 : STx) (Sj : SSJ) (T0 : STx) (Rd : SRd) (Pg : SPg) (Pt : SPt) (Mk : SMk) (Lk : SLk) (Ck : SCk) (Jd : SJd) (Ld : SLd) (Pr : SPr) (rt : Nat) {r : Int32} (h : m_Tx_kind x1 a0 = some r) : o_Cn E l D o_cls (o_tys ca) y_Tx_kind cc_Tx_kind rm_Tx_kind [.ref (ad 12), .int x1] (o_cw ad ca rt Sj T0 a0 Rd Pg Pt Mk Lk Ck Jd Ld Pr) (o_cw ad ca rt Sj T0 a0 Rd Pg Pt Mk Lk Ck Jd Ld Pr) (some (.int r)) := by
  refine o_Cn_of (by decide) (Nat.le_of_ble_eq_true rfl) ?_
  intro p e s m below meth c A ls C hD hP hS hl
  have hDD : ∀ (rt : Nat) (Sj : SSJ) (T0 : STx) (T1 : STx) (Rd : SRd) (Pg : SPg) (Pt : SPt) (Mk : SMk) (Lk : SLk) (Ck : SCk) (Jd : SJd) (Ld : SLd) (Pr : SPr), va_D A (o_cw ad ca rt Sj T0 T1 Rd Pg Pt Mk Lk Ck Jd Ld Pr) := fun _ _ _ _ _ _ _ _ _ _ _ _ _ => o_D_map hD rfl
  have hl : lv_has ls 2 [(0, .ref (ad 12)), (1, .int x1)] := hl
  unfold m_Tx_kind at h
  have C0 := C
  obtain ⟨hx, hb, -, -, -, hown, hts, hK, -, -⟩ := C0
  refine lv_iload_n hx hb d_Tx_kind_0 rfl (lv_at hl 1 rfl) ?_
  refine lv_if_lt (tgt := 21) hx hb d_Tx_kind_1 (by decide) (fun c1 => ?_) (fun c1 => ?_)
  · replace h := o_tt c1 h
    refine lv_iconst (v := (-1:Int32)) hx hb d_Tx_kind_21 (by decide) ?_
    cases h
    exact o_ri (v := (-1:Int32)) C hP hS d_Tx_kind_22
  · replace h := o_ff c1 h
    refine lv_iload_n hx hb d_Tx_kind_4 rfl (lv_at hl 1 rfl) ?_
    refine lv_aload_n hx hb d_Tx_kind_5 rfl (lv_at hl 0 rfl) ?_
    refine o_get (v := .int (Tx_total a0)) C in_Tx hP 12 cw_12 rfl 10 (by decide) k_1_56 rfl rfl d_Tx_kind_6 ?_
    refine lv_icmp_ge (tgt := 21) hx hb d_Tx_kind_9 (by decide) (fun c2 => ?_) (fun c2 => ?_)
    · replace h := o_tt c2 h
      refine lv_iconst (v := (-1:Int32)) hx hb d_Tx_kind_21 (by decide) ?_
      cases h
      exact o_ri (v := (-1:Int32)) C hP hS d_Tx_kind_22
    · replace h := o_ff c2 h
      refine lv_aload_n hx hb d_Tx_kind_12 rfl (lv_at hl 0 rfl) ?_
      refine o_get (v := .ref (ad 13)) C in_Tx hP 12 cw_12 rfl 0 (by decide) k_1_46 rfl rfl d_Tx_kind_13 ?_
      refine lv_iload_n hx hb d_Tx_kind_16 rfl (lv_at hl 1 rfl) ?_
      obtain ⟨g3, h⟩ := o_gd_some h
      refine o_iald (f := (Tx_kinds a0)) C hP 13 10 cw_13 rfl g3 d_Tx_kind_17 ?_
      refine lv_goto (tgt := 22) hx hb d_Tx_kind_18 (by decide) ?_
      cases h
      exact o_ri (v := ((Tx_kinds a0) x1.toNatClampNeg)) C hP hS d_Tx_kind_22
set_option maxHeartbeats 4000000 in
set_option maxRecDepth 100000 in
theorem w_Tx_sameString_b102_10 {E : (Nat → Prop) → State → Heap → Prop} {p : Program} {l : Launch} {e : Env} {s : State} {m : MethodId} {args : Array Value} {below : List Frame} {meth : Method} {c : Code} {D : va_G} {ad kd sd : Nat → Nat} {ca : Nat → ClassId} {A : Nat → Prop} {Q : State → Prop} (hE : o_EK E kd sd) (C : o_Cx E p s m args meth c D o_cls (o_tys ca) "SchemaJudge$Text" b_Tx_sameString (some .boolean) 8 cc_Tx_sameString A) (hDD : ∀ (rt : Nat) (Sj : SSJ) (T0 : STx) (T1 : STx) (Rd : SRd) (Pg : SPg) (Pt : SPt) (Mk : SMk) (Lk : SLk) (Ck : SCk) (Jd : SJd) (Ld : SLd) (Pr : SPr), va_D A (o_cw ad ca rt Sj T0 T1 Rd Pg Pt Mk Lk Ck Jd Ld Pr)) (n : Nat) (u102_x4 : Int32) (u102_x5 : Int32) (u102_x6 : Int32) (u102_a0 : STx) (u102_a2 : STx) (u102_Sj : SSJ) (u102_Rd : SRd) (u102_Pg : SPg) (u102_Pt : SPt) (u102_Mk : SMk) (u102_Lk : SLk) (u102_Ck : SCk) (u102_Jd : SJd) (u102_Ld : SLd) (u102_Pr : SPr) (u102_rt : Nat) (z : Int32) (q : Nat × Int32) (h : m_Tx_sameString_b102 n u102_x4 u102_x5 u102_x6 u102_a0 u102_a2 z = some q) (h0 : q.1 = 0 → o_At p l e rm_Tx_sameString s m args below meth c Q o_cls D A 8 102 [] (o_cw ad ca u102_rt u102_Sj u102_a2 u102_a0 u102_Rd u102_Pg u102_Pt u102_Mk u102_Lk u102_Ck u102_Jd u102_Ld u102_Pr) [(0, .ref (ad 12)), (2, .ref (ad 1)), (4, .int u102_x4), (5, .int u102_x5), (6, .int u102_x6), (7, .int q.2)]) (h1 : q.1 ≠ 0 → (if q.1 = 1 then o_At p l e rm_Tx_sameString s m args below meth c Q o_cls D A 8 132 [] (o_cw ad ca u102_rt u102_Sj u102_a2 u102_a0 u102_Rd u102_Pg u102_Pt u102_Mk u102_Lk u102_Ck u102_Jd u102_Ld u102_Pr) [] else o_At p l e rm_Tx_sameString s m args below meth c Q o_cls D A 8 140 [] (o_cw ad ca u102_rt u102_Sj u102_a2 u102_a0 u102_Rd u102_Pg u102_Pt u102_Mk u102_Lk u102_Ck u102_Jd u102_Ld u102_Pr) [])) : o_At p l e rm_Tx_sameString s m args below meth c Q o_cls D A 8 102 [] (o_cw ad ca u102_rt u102_Sj u102_a2 u102_a0 u102_Rd u102_Pg u102_Pt u102_Mk u102_Lk u102_Ck u102_Jd u102_Ld u102_Pr) [(0, .ref (ad 12)), (2, .ref (ad 1)), (4, .int u102_x4), (5, .int u102_x5), (6, .int u102_x6), (7, .int z)] := by
  unfold m_Tx_sameString_b102 at h
  intro H locs ls hP hS hl
  have C0 := C
  obtain ⟨hx, hb, -, -, -, hown, hts, hK, -, -⟩ := C0
  refine lv_iload hx hb d_Tx_sameString_102 (lv_at hl 5 rfl) ?_
  refine lv_iload hx hb d_Tx_sameString_104 (lv_at hl 4 rfl) ?_
  refine lv_icmp_ge (tgt := 140) hx hb d_Tx_sameString_106 (by decide) (fun c15 => ?_) (fun c15 => ?_)
  · replace h := o_tt c15 h
    cases h
    exact h1 (Nat.succ_ne_zero 1) _ _ _ hP hS (lv_sub hl [] rfl)
  · replace h := o_ff c15 h
    refine lv_aload_n hx hb d_Tx_sameString_109 rfl (lv_at hl 0 rfl) ?_
    refine o_get (v := .ref (ad 22)) C in_Tx hP 12 cw_12 rfl 9 (by decide) k_1_55 rfl rfl d_Tx_sameString_110 ?_
    refine lv_iload hx hb d_Tx_sameString_113 (lv_at hl 2 rfl) ?_
    refine lv_iload hx hb d_Tx_sameString_115 (lv_at hl 5 rfl) ?_
    refine lv_iadd hx hb d_Tx_sameString_117 ?_
    obtain ⟨g16, h⟩ := o_gd_some h
    refine o_iald (f := (Tx_cells u102_a0)) C hP 22 19 cw_22 rfl g16 d_Tx_sameString_118 ?_
    refine lv_aload_n hx hb d_Tx_sameString_119 rfl (lv_at hl 1 rfl) ?_
    refine o_get (v := .ref (ad 11)) C in_Tx hP 1 cw_1 rfl 9 (by decide) k_1_55 rfl rfl d_Tx_sameString_120 ?_
    refine lv_iload hx hb d_Tx_sameString_123 (lv_at hl 3 rfl) ?_
    refine lv_iload hx hb d_Tx_sameString_125 (lv_at hl 5 rfl) ?_
    refine lv_iadd hx hb d_Tx_sameString_127 ?_
    obtain ⟨g17, h⟩ := o_gd_some h
    refine o_iald (f := (Tx_cells u102_a2)) C hP 11 9 cw_11 rfl g17 d_Tx_sameString_128 ?_
    refine lv_icmp_eq (tgt := 134) hx hb d_Tx_sameString_129 (by decide) (fun c18 => ?_) (fun c18 => ?_)
    · replace h := o_tt c18 h
      obtain ⟨x7_134, ex7_134⟩ : ∃ y : Int32, y = z + (1:Int32) := ⟨_, rfl⟩
      replace h := o_nm_at ex7_134 h
      refine lv_iinc (v := x7_134) (lv' := [(7, .int x7_134), (0, .ref (ad 12)), (2, .ref (ad 1)), (4, .int u102_x4), (5, .int u102_x5), (6, .int u102_x6)]) hx hb d_Tx_sameString_134 hl (k := 5) rfl (by rw [ex7_134]; rfl) (by decide) rfl (fun ls hl => ?_)
      refine lv_goto (tgt := 102) hx hb d_Tx_sameString_137 (by decide) ?_
      cases h
      exact h0 rfl _ _ _ hP hS (lv_sub hl [1, 2, 3, 4, 5, 0] rfl)
    · replace h := o_ff c18 h
      cases h
      exact h1 (Nat.succ_ne_zero 0) _ _ _ hP hS (lv_sub hl [] rfl)
set_option maxHeartbeats 4000000 in
set_option maxRecDepth 100000 in
theorem c_Tx_sameString_10 {E : (Nat → Prop) → State → Heap → Prop} {D : va_G} {ad kd sd : Nat → Nat} {ca : Nat → ClassId} (hE : o_EK E kd sd) (l : Launch) (n : Nat) (x1 : Int32) (x3 : Int32) (a0 : STx) (a2 : STx) (Sj : SSJ) (Rd : SRd) (Pg : SPg) (Pt : SPt) (Mk : SMk) (Lk : SLk) (Ck : SCk) (Jd : SJd) (Ld : SLd) (Pr : SPr) (rt : Nat) {r : Int32} (h : m_Tx_sameString n x1 x3 a0 a2 = some r) : o_Cn E l D o_cls (o_tys ca) y_Tx_sameString cc_Tx_sameString rm_Tx_sameString [.ref (ad 12), .int x1, .ref (ad 1), .int x3] (o_cw ad ca rt Sj a2 a0 Rd Pg Pt Mk Lk Ck Jd Ld Pr) (o_cw ad ca rt Sj a2 a0 Rd Pg Pt Mk Lk Ck Jd Ld Pr) (some (.int r)) := by
  refine o_Cn_of (by decide) (Nat.le_of_ble_eq_true rfl) ?_
  intro p e s m below meth c A ls C hD hP hS hl
  have hDD : ∀ (rt : Nat) (Sj : SSJ) (T0 : STx) (T1 : STx) (Rd : SRd) (Pg : SPg) (Pt : SPt) (Mk : SMk) (Lk : SLk) (Ck : SCk) (Jd : SJd) (Ld : SLd) (Pr : SPr), va_D A (o_cw ad ca rt Sj T0 T1 Rd Pg Pt Mk Lk Ck Jd Ld Pr) := fun _ _ _ _ _ _ _ _ _ _ _ _ _ => o_D_map hD rfl
  have hl : lv_has ls 8 [(0, .ref (ad 12)), (1, .int x1), (2, .ref (ad 1)), (3, .int x3)] := hl
  unfold m_Tx_sameString at h
  have C0 := C
  obtain ⟨hx, hb, -, -, -, hown, hts, hK, -, -⟩ := C0
  refine lv_iload_n hx hb d_Tx_sameString_0 rfl (lv_at hl 1 rfl) ?_
  refine lv_if_lt (tgt := 39) hx hb d_Tx_sameString_1 (by decide) (fun c1 => ?_) (fun c1 => ?_)
  · replace h := o_tt c1 h
    refine lv_iconst (v := (0:Int32)) hx hb d_Tx_sameString_39 (by decide) ?_
    cases h
    exact o_rz (v := (0:Int32)) C o_nar0 hP hS d_Tx_sameString_40
  · replace h := o_ff c1 h
    refine lv_iload_n hx hb d_Tx_sameString_4 rfl (lv_at hl 1 rfl) ?_
    refine lv_aload_n hx hb d_Tx_sameString_5 rfl (lv_at hl 0 rfl) ?_
    refine o_get (v := .int (Tx_total a0)) C in_Tx hP 12 cw_12 rfl 10 (by decide) k_1_56 rfl rfl d_Tx_sameString_6 ?_
    refine lv_icmp_ge (tgt := 39) hx hb d_Tx_sameString_9 (by decide) (fun c2 => ?_) (fun c2 => ?_)
    · replace h := o_tt c2 h
      refine lv_iconst (v := (0:Int32)) hx hb d_Tx_sameString_39 (by decide) ?_
      cases h
      exact o_rz (v := (0:Int32)) C o_nar0 hP hS d_Tx_sameString_40
    · replace h := o_ff c2 h
      refine lv_iload_n hx hb d_Tx_sameString_12 rfl (lv_at hl 3 rfl) ?_
      refine lv_if_lt (tgt := 39) hx hb d_Tx_sameString_13 (by decide) (fun c3 => ?_) (fun c3 => ?_)
      · replace h := o_tt c3 h
        refine lv_iconst (v := (0:Int32)) hx hb d_Tx_sameString_39 (by decide) ?_
        cases h
        exact o_rz (v := (0:Int32)) C o_nar0 hP hS d_Tx_sameString_40
      · replace h := o_ff c3 h
        refine lv_iload_n hx hb d_Tx_sameString_16 rfl (lv_at hl 3 rfl) ?_
        refine lv_aload_n hx hb d_Tx_sameString_17 rfl (lv_at hl 2 rfl) ?_
        refine o_get (v := .int (Tx_total a2)) C in_Tx hP 1 cw_1 rfl 10 (by decide) k_1_56 rfl rfl d_Tx_sameString_18 ?_
        refine lv_icmp_ge (tgt := 39) hx hb d_Tx_sameString_21 (by decide) (fun c4 => ?_) (fun c4 => ?_)
        · replace h := o_tt c4 h
          refine lv_iconst (v := (0:Int32)) hx hb d_Tx_sameString_39 (by decide) ?_
          cases h
          exact o_rz (v := (0:Int32)) C o_nar0 hP hS d_Tx_sameString_40
        · replace h := o_ff c4 h
          refine lv_aload_n hx hb d_Tx_sameString_24 rfl (lv_at hl 0 rfl) ?_
          refine o_get (v := .ref (ad 15)) C in_Tx hP 12 cw_12 rfl 2 (by decide) k_1_48 rfl rfl d_Tx_sameString_25 ?_
          refine lv_iload_n hx hb d_Tx_sameString_28 rfl (lv_at hl 1 rfl) ?_
          obtain ⟨g5, h⟩ := o_gd_some h
          refine o_iald (f := (Tx_sizes a0)) C hP 15 12 cw_15 rfl g5 d_Tx_sameString_29 ?_
          refine lv_aload_n hx hb d_Tx_sameString_30 rfl (lv_at hl 2 rfl) ?_
          refine o_get (v := .ref (ad 4)) C in_Tx hP 1 cw_1 rfl 2 (by decide) k_1_48 rfl rfl d_Tx_sameString_31 ?_
          refine lv_iload_n hx hb d_Tx_sameString_34 rfl (lv_at hl 3 rfl) ?_
          obtain ⟨g6, h⟩ := o_gd_some h
          refine o_iald (f := (Tx_sizes a2)) C hP 4 2 cw_4 rfl g6 d_Tx_sameString_35 ?_
          refine lv_icmp_eq (tgt := 41) hx hb d_Tx_sameString_36 (by decide) (fun c7 => ?_) (fun c7 => ?_)
          · replace h := o_tt c7 h
            refine lv_aload_n hx hb d_Tx_sameString_41 rfl (lv_at hl 0 rfl) ?_
            refine o_get (v := .ref (ad 18)) C in_Tx hP 12 cw_12 rfl 5 (by decide) k_1_51 rfl rfl d_Tx_sameString_42 ?_
            refine lv_iload_n hx hb d_Tx_sameString_45 rfl (lv_at hl 1 rfl) ?_
            obtain ⟨g8, h⟩ := o_gd_some h
            refine o_iald (f := (Tx_starts a0)) C hP 18 15 cw_18 rfl g8 d_Tx_sameString_46 ?_
            refine lv_topi (fun x4_47 ex4_47 => ?_)
            replace h := o_nm_at ex4_47 h
            refine lv_istore (lv' := [(4, .int x4_47), (0, .ref (ad 12)), (1, .int x1), (2, .ref (ad 1)), (3, .int x3)]) hx hb d_Tx_sameString_47 hl (by decide) rfl (fun ls hl => ?_)
            refine lv_aload_n hx hb d_Tx_sameString_49 rfl (lv_at hl 3 rfl) ?_
            refine o_get (v := .ref (ad 7)) C in_Tx hP 1 cw_1 rfl 5 (by decide) k_1_51 rfl rfl d_Tx_sameString_50 ?_
            refine lv_iload_n hx hb d_Tx_sameString_53 rfl (lv_at hl 4 rfl) ?_
            obtain ⟨g9, h⟩ := o_gd_some h
            refine o_iald (f := (Tx_starts a2)) C hP 7 5 cw_7 rfl g9 d_Tx_sameString_54 ?_
            refine lv_topi (fun x5_55 ex5_55 => ?_)
            replace h := o_nm_at ex5_55 h
            refine lv_istore (lv' := [(5, .int x5_55), (4, .int x4_47), (0, .ref (ad 12)), (1, .int x1), (2, .ref (ad 1)), (3, .int x3)]) hx hb d_Tx_sameString_55 hl (by decide) rfl (fun ls hl => ?_)
            refine lv_aload_n hx hb d_Tx_sameString_57 rfl (lv_at hl 2 rfl) ?_
            refine o_get (v := .ref (ad 15)) C in_Tx hP 12 cw_12 rfl 2 (by decide) k_1_48 rfl rfl d_Tx_sameString_58 ?_
            refine lv_iload_n hx hb d_Tx_sameString_61 rfl (lv_at hl 3 rfl) ?_
            obtain ⟨g10, h⟩ := o_gd_some h
            refine o_iald (f := (Tx_sizes a0)) C hP 15 12 cw_15 rfl g10 d_Tx_sameString_62 ?_
            refine lv_topi (fun x6_63 ex6_63 => ?_)
            replace h := o_nm_at ex6_63 h
            refine lv_istore (lv' := [(6, .int x6_63), (5, .int x5_55), (4, .int x4_47), (0, .ref (ad 12)), (1, .int x1), (2, .ref (ad 1)), (3, .int x3)]) hx hb d_Tx_sameString_63 hl (by decide) rfl (fun ls hl => ?_)
            refine lv_iload hx hb d_Tx_sameString_65 (lv_at hl 2 rfl) ?_
            refine lv_if_lt (tgt := 97) hx hb d_Tx_sameString_67 (by decide) (fun c11 => ?_) (fun c11 => ?_)
            · replace h := o_tt c11 h
              refine lv_iconst (v := (0:Int32)) hx hb d_Tx_sameString_97 (by decide) ?_
              cases h
              exact o_rz (v := (0:Int32)) C o_nar0 hP hS d_Tx_sameString_98
            · replace h := o_ff c11 h
              refine lv_iload hx hb d_Tx_sameString_70 (lv_at hl 2 rfl) ?_
              refine lv_iload hx hb d_Tx_sameString_72 (lv_at hl 0 rfl) ?_
              refine lv_iadd hx hb d_Tx_sameString_74 ?_
              refine lv_sipush (v := (8192:Int32)) hx hb d_Tx_sameString_75 (by decide) ?_
              refine lv_icmp_gt (tgt := 97) hx hb d_Tx_sameString_78 (by decide) (fun c12 => ?_) (fun c12 => ?_)
              · replace h := o_tt c12 h
                refine lv_iconst (v := (0:Int32)) hx hb d_Tx_sameString_97 (by decide) ?_
                cases h
                exact o_rz (v := (0:Int32)) C o_nar0 hP hS d_Tx_sameString_98
              · replace h := o_ff c12 h
                refine lv_iload hx hb d_Tx_sameString_81 (lv_at hl 1 rfl) ?_
                refine lv_if_lt (tgt := 97) hx hb d_Tx_sameString_83 (by decide) (fun c13 => ?_) (fun c13 => ?_)
                · replace h := o_tt c13 h
                  refine lv_iconst (v := (0:Int32)) hx hb d_Tx_sameString_97 (by decide) ?_
                  cases h
                  exact o_rz (v := (0:Int32)) C o_nar0 hP hS d_Tx_sameString_98
                · replace h := o_ff c13 h
                  refine lv_iload hx hb d_Tx_sameString_86 (lv_at hl 1 rfl) ?_
                  refine lv_iload hx hb d_Tx_sameString_88 (lv_at hl 0 rfl) ?_
                  refine lv_iadd hx hb d_Tx_sameString_90 ?_
                  refine lv_sipush (v := (8192:Int32)) hx hb d_Tx_sameString_91 (by decide) ?_
                  refine lv_icmp_le (tgt := 99) hx hb d_Tx_sameString_94 (by decide) (fun c14 => ?_) (fun c14 => ?_)
                  · replace h := o_tt c14 h
                    refine lv_iconst (v := (0:Int32)) hx hb d_Tx_sameString_99 (by decide) ?_
                    refine lv_istore (lv' := [(7, .int (0:Int32)), (6, .int x6_63), (5, .int x5_55), (4, .int x4_47), (0, .ref (ad 12)), (1, .int x1), (2, .ref (ad 1)), (3, .int x3)]) hx hb d_Tx_sameString_100 hl (by decide) rfl (fun ls hl => ?_)
                    obtain ⟨q1, hq1, h⟩ := o_bd_some h
                    refine o_sim2 (AH := fun zz => o_At p l e rm_Tx_sameString s m _ below meth c _ o_cls D A 8 102 [] (o_cw ad ca rt Sj a2 a0 Rd Pg Pt Mk Lk Ck Jd Ld Pr) [(0, .ref (ad 12)), (2, .ref (ad 1)), (4, .int x4_47), (5, .int x5_55), (6, .int x6_63), (7, .int zz)]) (AX := fun qq => if qq.1 = 1 then o_At p l e rm_Tx_sameString s m _ below meth c _ o_cls D A 8 132 [] (o_cw ad ca rt Sj a2 a0 Rd Pg Pt Mk Lk Ck Jd Ld Pr) [] else o_At p l e rm_Tx_sameString s m _ below meth c _ o_cls D A 8 140 [] (o_cw ad ca rt Sj a2 a0 Rd Pg Pt Mk Lk Ck Jd Ld Pr) []) (fun zz qq h h0 h1 => w_Tx_sameString_b102_10 hE C hDD n x4_47 x5_55 x6_63 a0 a2 Sj Rd Pg Pt Mk Lk Ck Jd Ld Pr rt zz qq h h0 h1) n _ q1 hq1 ?_ _ _ _ hP hS (lv_sub hl [4, 6, 3, 2, 1, 0] rfl)
                    by_cases c19 : q1.1 = 1
                    · replace h := o_tt c19 h
                      refine o_ip c19 ?_
                      intro H locs ls hP hS hl
                      refine lv_iconst (v := (0:Int32)) hx hb d_Tx_sameString_132 (by decide) ?_
                      cases h
                      exact o_rz (v := (0:Int32)) C o_nar0 hP hS d_Tx_sameString_133
                    replace h := o_ff c19 h
                    refine o_in_ c19 ?_
                    intro H locs ls hP hS hl
                    refine lv_iconst (v := (1:Int32)) hx hb d_Tx_sameString_140 (by decide) ?_
                    cases h
                    exact o_rz (v := (1:Int32)) C o_nar1 hP hS d_Tx_sameString_141
                  · replace h := o_ff c14 h
                    refine lv_iconst (v := (0:Int32)) hx hb d_Tx_sameString_97 (by decide) ?_
                    cases h
                    exact o_rz (v := (0:Int32)) C o_nar0 hP hS d_Tx_sameString_98
          · replace h := o_ff c7 h
            refine lv_iconst (v := (0:Int32)) hx hb d_Tx_sameString_39 (by decide) ?_
            cases h
            exact o_rz (v := (0:Int32)) C o_nar0 hP hS d_Tx_sameString_40
set_option maxHeartbeats 4000000 in
set_option maxRecDepth 100000 in
theorem w_Tx_member_b10_10 {E : (Nat → Prop) → State → Heap → Prop} {p : Program} {l : Launch} {e : Env} {s : State} {m : MethodId} {args : Array Value} {below : List Frame} {meth : Method} {c : Code} {D : va_G} {ad kd sd : Nat → Nat} {ca : Nat → ClassId} {A : Nat → Prop} {Q : State → Prop} (hE : o_EK E kd sd) (C : o_Cx E p s m args meth c D o_cls (o_tys ca) "SchemaJudge$Text" b_Tx_member (some .int) 6 cc_Tx_member A) (hDD : ∀ (rt : Nat) (Sj : SSJ) (T0 : STx) (T1 : STx) (Rd : SRd) (Pg : SPg) (Pt : SPt) (Mk : SMk) (Lk : SLk) (Ck : SCk) (Jd : SJd) (Ld : SLd) (Pr : SPr), va_D A (o_cw ad ca rt Sj T0 T1 Rd Pg Pt Mk Lk Ck Jd Ld Pr)) (n : Nat) (u10_x1 : Int32) (u10_x3 : Int32) (u10_a0 : STx) (u10_a2 : STx) (u10_Sj : SSJ) (u10_Rd : SRd) (u10_Pg : SPg) (u10_Pt : SPt) (u10_Mk : SMk) (u10_Lk : SLk) (u10_Ck : SCk) (u10_Jd : SJd) (u10_Ld : SLd) (u10_Pr : SPr) (u10_rt : Nat) (z : Int32 × Int32) (q : Nat × Int32 × Int32) (h : m_Tx_member_b10 n u10_x1 u10_x3 u10_a0 u10_a2 z = some q) (h0 : q.1 = 0 → o_At p l e rm_Tx_member s m args below meth c Q o_cls D A 6 10 [] (o_cw ad ca u10_rt u10_Sj u10_a2 u10_a0 u10_Rd u10_Pg u10_Pt u10_Mk u10_Lk u10_Ck u10_Jd u10_Ld u10_Pr) [(0, .ref (ad 12)), (1, .int u10_x1), (2, .ref (ad 1)), (3, .int u10_x3), (4, .int q.2.1), (5, .int q.2.2)]) (h1 : q.1 ≠ 0 → (if q.1 = 1 then o_At p l e rm_Tx_member s m args below meth c Q o_cls D A 6 33 [] (o_cw ad ca u10_rt u10_Sj u10_a2 u10_a0 u10_Rd u10_Pg u10_Pt u10_Mk u10_Lk u10_Ck u10_Jd u10_Ld u10_Pr) [(4, .int q.2.1)] else o_At p l e rm_Tx_member s m args below meth c Q o_cls D A 6 50 [] (o_cw ad ca u10_rt u10_Sj u10_a2 u10_a0 u10_Rd u10_Pg u10_Pt u10_Mk u10_Lk u10_Ck u10_Jd u10_Ld u10_Pr) [])) : o_At p l e rm_Tx_member s m args below meth c Q o_cls D A 6 10 [] (o_cw ad ca u10_rt u10_Sj u10_a2 u10_a0 u10_Rd u10_Pg u10_Pt u10_Mk u10_Lk u10_Ck u10_Jd u10_Ld u10_Pr) [(0, .ref (ad 12)), (1, .int u10_x1), (2, .ref (ad 1)), (3, .int u10_x3), (4, .int z.1), (5, .int z.2)] := by
  unfold m_Tx_member_b10 at h
  intro H locs ls hP hS hl
  have C0 := C
  obtain ⟨hx, hb, -, -, -, hown, hts, hK, -, -⟩ := C0
  refine lv_iload hx hb d_Tx_member_10 (lv_at hl 5 rfl) ?_
  refine lv_aload_n hx hb d_Tx_member_12 rfl (lv_at hl 0 rfl) ?_
  refine lv_iload_n hx hb d_Tx_member_13 rfl (lv_at hl 1 rfl) ?_
  obtain ⟨q2, hq2, h⟩ := o_bd_some h
  refine o_V (st1 := [.int q2, .int z.2]) (w1 := (o_cw ad ca u10_rt u10_Sj u10_a2 u10_a0 u10_Rd u10_Pg u10_Pt u10_Mk u10_Lk u10_Ck u10_Jd u10_Ld u10_Pr)) hE.1 C (c_Tx_size_1 hE l u10_x1 u10_a0 u10_Sj u10_a2 u10_Rd u10_Pg u10_Pt u10_Mk u10_Lk u10_Ck u10_Jd u10_Ld u10_Pr u10_rt hq2) hP (hDD _ _ _ _ _ _ _ _ _ _ _ _ _) hS hl.1 rfl cw_12 k_3_214 k_3_215 k_3_216 k_1_2 k_3_217 hv_Tx_size rfl rfl ⟨(Nat.le_of_ble_eq_true rfl), (Nat.le_of_ble_eq_true rfl)⟩ rfl (Nat.le_of_ble_eq_true rfl) ⟨Nat.zero_le _, Nat.zero_le _⟩ rfl d_Tx_member_14 (fun H locs hP hS => ?_)
  refine lv_icmp_ge (tgt := 50) hx hb d_Tx_member_17 (by decide) (fun c1 => ?_) (fun c1 => ?_)
  · replace h := o_tt c1 h
    cases h
    exact h1 (Nat.succ_ne_zero 1) _ _ _ hP hS (lv_sub hl [] rfl)
  · replace h := o_ff c1 h
    refine lv_aload_n hx hb d_Tx_member_20 rfl (lv_at hl 0 rfl) ?_
    refine lv_iload hx hb d_Tx_member_21 (lv_at hl 4 rfl) ?_
    refine lv_iconst (v := (1:Int32)) hx hb d_Tx_member_23 (by decide) ?_
    refine lv_isub hx hb d_Tx_member_24 ?_
    refine lv_aload_n hx hb d_Tx_member_25 rfl (lv_at hl 2 rfl) ?_
    refine lv_iload_n hx hb d_Tx_member_26 rfl (lv_at hl 3 rfl) ?_
    obtain ⟨q3, hq3, h⟩ := o_bd_some h
    refine o_S (st1 := [.int q3]) (w1 := (o_cw ad ca u10_rt u10_Sj u10_a2 u10_a0 u10_Rd u10_Pg u10_Pt u10_Mk u10_Lk u10_Ck u10_Jd u10_Ld u10_Pr)) hE.1 C (c_Tx_sameString_10 hE l n (z.1 - (1:Int32)) u10_x3 u10_a0 u10_a2 u10_Sj u10_Rd u10_Pg u10_Pt u10_Mk u10_Lk u10_Ck u10_Jd u10_Ld u10_Pr u10_rt hq3) hP (hDD _ _ _ _ _ _ _ _ _ _ _ _ _) hS hl.1 k_3_218 k_3_219 k_1_2 k_3_220 hs_Tx_sameString rfl rfl ⟨(Nat.le_of_ble_eq_true rfl), (Nat.le_of_ble_eq_true rfl)⟩ rfl (Nat.le_of_ble_eq_true rfl) ⟨Nat.zero_le _, Nat.zero_le _⟩ rfl d_Tx_member_27 (fun H locs hP hS => ?_)
    refine lv_if_eq (tgt := 36) hx hb d_Tx_member_30 (by decide) (fun c2 => ?_) (fun c2 => ?_)
    · replace h := o_tt c2 h
      refine lv_aload_n hx hb d_Tx_member_36 rfl (lv_at hl 0 rfl) ?_
      refine lv_iload hx hb d_Tx_member_37 (lv_at hl 4 rfl) ?_
      obtain ⟨q4, hq4, h⟩ := o_bd_some h
      refine o_V (st1 := [.int q4]) (w1 := (o_cw ad ca u10_rt u10_Sj u10_a2 u10_a0 u10_Rd u10_Pg u10_Pt u10_Mk u10_Lk u10_Ck u10_Jd u10_Ld u10_Pr)) hE.1 C (c_Tx_nextChild_1 hE l z.1 u10_a0 u10_Sj u10_a2 u10_Rd u10_Pg u10_Pt u10_Mk u10_Lk u10_Ck u10_Jd u10_Ld u10_Pr u10_rt hq4) hP (hDD _ _ _ _ _ _ _ _ _ _ _ _ _) hS hl.1 rfl cw_12 k_3_221 k_3_222 k_3_223 k_1_2 k_3_224 hv_Tx_nextChild rfl rfl ⟨(Nat.le_of_ble_eq_true rfl), (Nat.le_of_ble_eq_true rfl)⟩ rfl (Nat.le_of_ble_eq_true rfl) ⟨Nat.zero_le _, Nat.zero_le _⟩ rfl d_Tx_member_39 (fun H locs hP hS => ?_)
      refine lv_istore (lv' := [(4, .int q4), (0, .ref (ad 12)), (1, .int u10_x1), (2, .ref (ad 1)), (3, .int u10_x3), (5, .int z.2)]) hx hb d_Tx_member_42 hl (by decide) rfl (fun ls hl => ?_)
      obtain ⟨x5_44, ex5_44⟩ : ∃ y : Int32, y = z.2 + (1:Int32) := ⟨_, rfl⟩
      replace h := o_nm_at ex5_44 h
      refine lv_iinc (v := x5_44) (lv' := [(5, .int x5_44), (4, .int q4), (0, .ref (ad 12)), (1, .int u10_x1), (2, .ref (ad 1)), (3, .int u10_x3)]) hx hb d_Tx_member_44 hl (k := 5) rfl (by rw [ex5_44]; rfl) (by decide) rfl (fun ls hl => ?_)
      refine lv_goto (tgt := 10) hx hb d_Tx_member_47 (by decide) ?_
      cases h
      exact h0 rfl _ _ _ hP hS (lv_sub hl [2, 3, 4, 5, 1, 0] rfl)
    · replace h := o_ff c2 h
      cases h
      exact h1 (Nat.succ_ne_zero 0) _ _ _ hP hS (lv_sub hl [4] rfl)
set_option maxHeartbeats 4000000 in
set_option maxRecDepth 100000 in
theorem c_Tx_member_10 {E : (Nat → Prop) → State → Heap → Prop} {D : va_G} {ad kd sd : Nat → Nat} {ca : Nat → ClassId} (hE : o_EK E kd sd) (l : Launch) (n : Nat) (x1 : Int32) (x3 : Int32) (a0 : STx) (a2 : STx) (Sj : SSJ) (Rd : SRd) (Pg : SPg) (Pt : SPt) (Mk : SMk) (Lk : SLk) (Ck : SCk) (Jd : SJd) (Ld : SLd) (Pr : SPr) (rt : Nat) {r : Int32} (h : m_Tx_member n x1 x3 a0 a2 = some r) : o_Cn E l D o_cls (o_tys ca) y_Tx_member cc_Tx_member rm_Tx_member [.ref (ad 12), .int x1, .ref (ad 1), .int x3] (o_cw ad ca rt Sj a2 a0 Rd Pg Pt Mk Lk Ck Jd Ld Pr) (o_cw ad ca rt Sj a2 a0 Rd Pg Pt Mk Lk Ck Jd Ld Pr) (some (.int r)) := by
  refine o_Cn_of (by decide) (Nat.le_of_ble_eq_true rfl) ?_
  intro p e s m below meth c A ls C hD hP hS hl
  have hDD : ∀ (rt : Nat) (Sj : SSJ) (T0 : STx) (T1 : STx) (Rd : SRd) (Pg : SPg) (Pt : SPt) (Mk : SMk) (Lk : SLk) (Ck : SCk) (Jd : SJd) (Ld : SLd) (Pr : SPr), va_D A (o_cw ad ca rt Sj T0 T1 Rd Pg Pt Mk Lk Ck Jd Ld Pr) := fun _ _ _ _ _ _ _ _ _ _ _ _ _ => o_D_map hD rfl
  have hl : lv_has ls 6 [(0, .ref (ad 12)), (1, .int x1), (2, .ref (ad 1)), (3, .int x3)] := hl
  unfold m_Tx_member at h
  have C0 := C
  obtain ⟨hx, hb, -, -, -, hown, hts, hK, -, -⟩ := C0
  refine lv_aload_n hx hb d_Tx_member_0 rfl (lv_at hl 0 rfl) ?_
  refine lv_iload_n hx hb d_Tx_member_1 rfl (lv_at hl 1 rfl) ?_
  obtain ⟨q1, hq1, h⟩ := o_bd_some h
  refine o_V (st1 := [.int q1]) (w1 := (o_cw ad ca rt Sj a2 a0 Rd Pg Pt Mk Lk Ck Jd Ld Pr)) hE.1 C (c_Tx_firstChild_1 hE l x1 a0 Sj a2 Rd Pg Pt Mk Lk Ck Jd Ld Pr rt hq1) hP (hDD _ _ _ _ _ _ _ _ _ _ _ _ _) hS hl.1 rfl cw_12 k_3_210 k_3_211 k_3_212 k_1_2 k_3_213 hv_Tx_firstChild rfl rfl ⟨(Nat.le_of_ble_eq_true rfl), (Nat.le_of_ble_eq_true rfl)⟩ rfl (Nat.le_of_ble_eq_true rfl) ⟨Nat.zero_le _, Nat.zero_le _⟩ rfl d_Tx_member_2 (fun H locs hP hS => ?_)
  refine lv_istore (lv' := [(4, .int q1), (0, .ref (ad 12)), (1, .int x1), (2, .ref (ad 1)), (3, .int x3)]) hx hb d_Tx_member_5 hl (by decide) rfl (fun ls hl => ?_)
  refine lv_iconst (v := (0:Int32)) hx hb d_Tx_member_7 (by decide) ?_
  refine lv_istore (lv' := [(5, .int (0:Int32)), (4, .int q1), (0, .ref (ad 12)), (1, .int x1), (2, .ref (ad 1)), (3, .int x3)]) hx hb d_Tx_member_8 hl (by decide) rfl (fun ls hl => ?_)
  obtain ⟨q5, hq5, h⟩ := o_bd_some h
  refine o_sim2 (AH := fun zz => o_At p l e rm_Tx_member s m _ below meth c _ o_cls D A 6 10 [] (o_cw ad ca rt Sj a2 a0 Rd Pg Pt Mk Lk Ck Jd Ld Pr) [(0, .ref (ad 12)), (1, .int x1), (2, .ref (ad 1)), (3, .int x3), (4, .int zz.1), (5, .int zz.2)]) (AX := fun qq => if qq.1 = 1 then o_At p l e rm_Tx_member s m _ below meth c _ o_cls D A 6 33 [] (o_cw ad ca rt Sj a2 a0 Rd Pg Pt Mk Lk Ck Jd Ld Pr) [(4, .int qq.2.1)] else o_At p l e rm_Tx_member s m _ below meth c _ o_cls D A 6 50 [] (o_cw ad ca rt Sj a2 a0 Rd Pg Pt Mk Lk Ck Jd Ld Pr) []) (fun zz qq h h0 h1 => w_Tx_member_b10_10 hE C hDD n x1 x3 a0 a2 Sj Rd Pg Pt Mk Lk Ck Jd Ld Pr rt zz qq h h0 h1) n _ q5 hq5 ?_ _ _ _ hP hS (lv_sub hl [2, 3, 4, 5, 1, 0] rfl)
  by_cases c3 : q5.1 = 1
  · replace h := o_tt c3 h
    refine o_ip c3 ?_
    intro H locs ls hP hS hl
    refine lv_iload hx hb d_Tx_member_33 (lv_at hl 0 rfl) ?_
    cases h
    exact o_ri C hP hS d_Tx_member_35
  replace h := o_ff c3 h
  refine o_in_ c3 ?_
  intro H locs ls hP hS hl
  refine lv_iconst (v := (-1:Int32)) hx hb d_Tx_member_50 (by decide) ?_
  cases h
  exact o_ri (v := (-1:Int32)) C hP hS d_Tx_member_51
set_option maxHeartbeats 4000000 in
set_option maxRecDepth 100000 in
theorem c_Tx_sign_0 {E : (Nat → Prop) → State → Heap → Prop} {D : va_G} {ad kd sd : Nat → Nat} {ca : Nat → ClassId} (hE : o_EK E kd sd) (l : Launch) (x1 : Int32) (a0 : STx) (Sj : SSJ) (T1 : STx) (Rd : SRd) (Pg : SPg) (Pt : SPt) (Mk : SMk) (Lk : SLk) (Ck : SCk) (Jd : SJd) (Ld : SLd) (Pr : SPr) (rt : Nat) {r : Int32} (h : m_Tx_sign x1 a0 = some r) : o_Cn E l D o_cls (o_tys ca) y_Tx_sign cc_Tx_sign rm_Tx_sign [.ref (ad 1), .int x1] (o_cw ad ca rt Sj a0 T1 Rd Pg Pt Mk Lk Ck Jd Ld Pr) (o_cw ad ca rt Sj a0 T1 Rd Pg Pt Mk Lk Ck Jd Ld Pr) (some (.int r)) := by
  refine o_Cn_of (by decide) (Nat.le_of_ble_eq_true rfl) ?_
  intro p e s m below meth c A ls C hD hP hS hl
  have hDD : ∀ (rt : Nat) (Sj : SSJ) (T0 : STx) (T1 : STx) (Rd : SRd) (Pg : SPg) (Pt : SPt) (Mk : SMk) (Lk : SLk) (Ck : SCk) (Jd : SJd) (Ld : SLd) (Pr : SPr), va_D A (o_cw ad ca rt Sj T0 T1 Rd Pg Pt Mk Lk Ck Jd Ld Pr) := fun _ _ _ _ _ _ _ _ _ _ _ _ _ => o_D_map hD rfl
  have hl : lv_has ls 2 [(0, .ref (ad 1)), (1, .int x1)] := hl
  unfold m_Tx_sign at h
  have C0 := C
  obtain ⟨hx, hb, -, -, -, hown, hts, hK, -, -⟩ := C0
  refine lv_iload_n hx hb d_Tx_sign_0 rfl (lv_at hl 1 rfl) ?_
  refine lv_if_lt (tgt := 21) hx hb d_Tx_sign_1 (by decide) (fun c1 => ?_) (fun c1 => ?_)
  · replace h := o_tt c1 h
    refine lv_iconst (v := (0:Int32)) hx hb d_Tx_sign_21 (by decide) ?_
    cases h
    exact o_ri (v := (0:Int32)) C hP hS d_Tx_sign_22
  · replace h := o_ff c1 h
    refine lv_iload_n hx hb d_Tx_sign_4 rfl (lv_at hl 1 rfl) ?_
    refine lv_aload_n hx hb d_Tx_sign_5 rfl (lv_at hl 0 rfl) ?_
    refine o_get (v := .int (Tx_total a0)) C in_Tx hP 1 cw_1 rfl 10 (by decide) k_1_56 rfl rfl d_Tx_sign_6 ?_
    refine lv_icmp_ge (tgt := 21) hx hb d_Tx_sign_9 (by decide) (fun c2 => ?_) (fun c2 => ?_)
    · replace h := o_tt c2 h
      refine lv_iconst (v := (0:Int32)) hx hb d_Tx_sign_21 (by decide) ?_
      cases h
      exact o_ri (v := (0:Int32)) C hP hS d_Tx_sign_22
    · replace h := o_ff c2 h
      refine lv_aload_n hx hb d_Tx_sign_12 rfl (lv_at hl 0 rfl) ?_
      refine o_get (v := .ref (ad 4)) C in_Tx hP 1 cw_1 rfl 2 (by decide) k_1_48 rfl rfl d_Tx_sign_13 ?_
      refine lv_iload_n hx hb d_Tx_sign_16 rfl (lv_at hl 1 rfl) ?_
      obtain ⟨g3, h⟩ := o_gd_some h
      refine o_iald (f := (Tx_sizes a0)) C hP 4 2 cw_4 rfl g3 d_Tx_sign_17 ?_
      refine lv_if_ne (tgt := 23) hx hb d_Tx_sign_18 (by decide) (fun c4 => ?_) (fun c4 => ?_)
      · replace h := o_ff c4 h
        refine lv_aload_n hx hb d_Tx_sign_23 rfl (lv_at hl 0 rfl) ?_
        refine o_get (v := .ref (ad 10)) C in_Tx hP 1 cw_1 rfl 8 (by decide) k_1_54 rfl rfl d_Tx_sign_24 ?_
        refine lv_iload_n hx hb d_Tx_sign_27 rfl (lv_at hl 1 rfl) ?_
        obtain ⟨g5, h⟩ := o_gd_some h
        refine o_zald (f := (Tx_negatives a0)) C hP 10 8 cw_10 rfl g5 d_Tx_sign_28 ?_
        refine lv_if_eq (tgt := 36) hx hb d_Tx_sign_29 (by decide) (fun c6 => ?_) (fun c6 => ?_)
        · replace h := o_tt c6 h
          refine lv_iconst (v := (1:Int32)) hx hb d_Tx_sign_36 (by decide) ?_
          cases h
          exact o_ri (v := (1:Int32)) C hP hS d_Tx_sign_37
        · replace h := o_ff c6 h
          refine lv_iconst (v := (-1:Int32)) hx hb d_Tx_sign_32 (by decide) ?_
          refine lv_goto (tgt := 37) hx hb d_Tx_sign_33 (by decide) ?_
          cases h
          exact o_ri (v := (-1:Int32)) C hP hS d_Tx_sign_37
      · replace h := o_tt c4 h
        refine lv_iconst (v := (0:Int32)) hx hb d_Tx_sign_21 (by decide) ?_
        cases h
        exact o_ri (v := (0:Int32)) C hP hS d_Tx_sign_22
set_option maxHeartbeats 4000000 in
set_option maxRecDepth 100000 in
theorem c_Tx_sign_1 {E : (Nat → Prop) → State → Heap → Prop} {D : va_G} {ad kd sd : Nat → Nat} {ca : Nat → ClassId} (hE : o_EK E kd sd) (l : Launch) (x1 : Int32) (a0 : STx) (Sj : SSJ) (T0 : STx) (Rd : SRd) (Pg : SPg) (Pt : SPt) (Mk : SMk) (Lk : SLk) (Ck : SCk) (Jd : SJd) (Ld : SLd) (Pr : SPr) (rt : Nat) {r : Int32} (h : m_Tx_sign x1 a0 = some r) : o_Cn E l D o_cls (o_tys ca) y_Tx_sign cc_Tx_sign rm_Tx_sign [.ref (ad 12), .int x1] (o_cw ad ca rt Sj T0 a0 Rd Pg Pt Mk Lk Ck Jd Ld Pr) (o_cw ad ca rt Sj T0 a0 Rd Pg Pt Mk Lk Ck Jd Ld Pr) (some (.int r)) := by
  refine o_Cn_of (by decide) (Nat.le_of_ble_eq_true rfl) ?_
  intro p e s m below meth c A ls C hD hP hS hl
  have hDD : ∀ (rt : Nat) (Sj : SSJ) (T0 : STx) (T1 : STx) (Rd : SRd) (Pg : SPg) (Pt : SPt) (Mk : SMk) (Lk : SLk) (Ck : SCk) (Jd : SJd) (Ld : SLd) (Pr : SPr), va_D A (o_cw ad ca rt Sj T0 T1 Rd Pg Pt Mk Lk Ck Jd Ld Pr) := fun _ _ _ _ _ _ _ _ _ _ _ _ _ => o_D_map hD rfl
  have hl : lv_has ls 2 [(0, .ref (ad 12)), (1, .int x1)] := hl
  unfold m_Tx_sign at h
  have C0 := C
  obtain ⟨hx, hb, -, -, -, hown, hts, hK, -, -⟩ := C0
  refine lv_iload_n hx hb d_Tx_sign_0 rfl (lv_at hl 1 rfl) ?_
  refine lv_if_lt (tgt := 21) hx hb d_Tx_sign_1 (by decide) (fun c1 => ?_) (fun c1 => ?_)
  · replace h := o_tt c1 h
    refine lv_iconst (v := (0:Int32)) hx hb d_Tx_sign_21 (by decide) ?_
    cases h
    exact o_ri (v := (0:Int32)) C hP hS d_Tx_sign_22
  · replace h := o_ff c1 h
    refine lv_iload_n hx hb d_Tx_sign_4 rfl (lv_at hl 1 rfl) ?_
    refine lv_aload_n hx hb d_Tx_sign_5 rfl (lv_at hl 0 rfl) ?_
    refine o_get (v := .int (Tx_total a0)) C in_Tx hP 12 cw_12 rfl 10 (by decide) k_1_56 rfl rfl d_Tx_sign_6 ?_
    refine lv_icmp_ge (tgt := 21) hx hb d_Tx_sign_9 (by decide) (fun c2 => ?_) (fun c2 => ?_)
    · replace h := o_tt c2 h
      refine lv_iconst (v := (0:Int32)) hx hb d_Tx_sign_21 (by decide) ?_
      cases h
      exact o_ri (v := (0:Int32)) C hP hS d_Tx_sign_22
    · replace h := o_ff c2 h
      refine lv_aload_n hx hb d_Tx_sign_12 rfl (lv_at hl 0 rfl) ?_
      refine o_get (v := .ref (ad 15)) C in_Tx hP 12 cw_12 rfl 2 (by decide) k_1_48 rfl rfl d_Tx_sign_13 ?_
      refine lv_iload_n hx hb d_Tx_sign_16 rfl (lv_at hl 1 rfl) ?_
      obtain ⟨g3, h⟩ := o_gd_some h
      refine o_iald (f := (Tx_sizes a0)) C hP 15 12 cw_15 rfl g3 d_Tx_sign_17 ?_
      refine lv_if_ne (tgt := 23) hx hb d_Tx_sign_18 (by decide) (fun c4 => ?_) (fun c4 => ?_)
      · replace h := o_ff c4 h
        refine lv_aload_n hx hb d_Tx_sign_23 rfl (lv_at hl 0 rfl) ?_
        refine o_get (v := .ref (ad 21)) C in_Tx hP 12 cw_12 rfl 8 (by decide) k_1_54 rfl rfl d_Tx_sign_24 ?_
        refine lv_iload_n hx hb d_Tx_sign_27 rfl (lv_at hl 1 rfl) ?_
        obtain ⟨g5, h⟩ := o_gd_some h
        refine o_zald (f := (Tx_negatives a0)) C hP 21 18 cw_21 rfl g5 d_Tx_sign_28 ?_
        refine lv_if_eq (tgt := 36) hx hb d_Tx_sign_29 (by decide) (fun c6 => ?_) (fun c6 => ?_)
        · replace h := o_tt c6 h
          refine lv_iconst (v := (1:Int32)) hx hb d_Tx_sign_36 (by decide) ?_
          cases h
          exact o_ri (v := (1:Int32)) C hP hS d_Tx_sign_37
        · replace h := o_ff c6 h
          refine lv_iconst (v := (-1:Int32)) hx hb d_Tx_sign_32 (by decide) ?_
          refine lv_goto (tgt := 37) hx hb d_Tx_sign_33 (by decide) ?_
          cases h
          exact o_ri (v := (-1:Int32)) C hP hS d_Tx_sign_37
      · replace h := o_tt c4 h
        refine lv_iconst (v := (0:Int32)) hx hb d_Tx_sign_21 (by decide) ?_
        cases h
        exact o_ri (v := (0:Int32)) C hP hS d_Tx_sign_22
set_option maxHeartbeats 4000000 in
set_option maxRecDepth 100000 in
theorem c_Tx_exponent_0 {E : (Nat → Prop) → State → Heap → Prop} {D : va_G} {ad kd sd : Nat → Nat} {ca : Nat → ClassId} (hE : o_EK E kd sd) (l : Launch) (x1 : Int32) (a0 : STx) (Sj : SSJ) (T1 : STx) (Rd : SRd) (Pg : SPg) (Pt : SPt) (Mk : SMk) (Lk : SLk) (Ck : SCk) (Jd : SJd) (Ld : SLd) (Pr : SPr) (rt : Nat) {r : Int32} (h : m_Tx_exponent x1 a0 = some r) : o_Cn E l D o_cls (o_tys ca) y_Tx_exponent cc_Tx_exponent rm_Tx_exponent [.ref (ad 1), .int x1] (o_cw ad ca rt Sj a0 T1 Rd Pg Pt Mk Lk Ck Jd Ld Pr) (o_cw ad ca rt Sj a0 T1 Rd Pg Pt Mk Lk Ck Jd Ld Pr) (some (.int r)) := by
  refine o_Cn_of (by decide) (Nat.le_of_ble_eq_true rfl) ?_
  intro p e s m below meth c A ls C hD hP hS hl
  have hDD : ∀ (rt : Nat) (Sj : SSJ) (T0 : STx) (T1 : STx) (Rd : SRd) (Pg : SPg) (Pt : SPt) (Mk : SMk) (Lk : SLk) (Ck : SCk) (Jd : SJd) (Ld : SLd) (Pr : SPr), va_D A (o_cw ad ca rt Sj T0 T1 Rd Pg Pt Mk Lk Ck Jd Ld Pr) := fun _ _ _ _ _ _ _ _ _ _ _ _ _ => o_D_map hD rfl
  have hl : lv_has ls 2 [(0, .ref (ad 1)), (1, .int x1)] := hl
  unfold m_Tx_exponent at h
  have C0 := C
  obtain ⟨hx, hb, -, -, -, hown, hts, hK, -, -⟩ := C0
  refine lv_iload_n hx hb d_Tx_exponent_0 rfl (lv_at hl 1 rfl) ?_
  refine lv_if_lt (tgt := 21) hx hb d_Tx_exponent_1 (by decide) (fun c1 => ?_) (fun c1 => ?_)
  · replace h := o_tt c1 h
    refine lv_iconst (v := (0:Int32)) hx hb d_Tx_exponent_21 (by decide) ?_
    cases h
    exact o_ri (v := (0:Int32)) C hP hS d_Tx_exponent_22
  · replace h := o_ff c1 h
    refine lv_iload_n hx hb d_Tx_exponent_4 rfl (lv_at hl 1 rfl) ?_
    refine lv_aload_n hx hb d_Tx_exponent_5 rfl (lv_at hl 0 rfl) ?_
    refine o_get (v := .int (Tx_total a0)) C in_Tx hP 1 cw_1 rfl 10 (by decide) k_1_56 rfl rfl d_Tx_exponent_6 ?_
    refine lv_icmp_ge (tgt := 21) hx hb d_Tx_exponent_9 (by decide) (fun c2 => ?_) (fun c2 => ?_)
    · replace h := o_tt c2 h
      refine lv_iconst (v := (0:Int32)) hx hb d_Tx_exponent_21 (by decide) ?_
      cases h
      exact o_ri (v := (0:Int32)) C hP hS d_Tx_exponent_22
    · replace h := o_ff c2 h
      refine lv_aload_n hx hb d_Tx_exponent_12 rfl (lv_at hl 0 rfl) ?_
      refine o_get (v := .ref (ad 6)) C in_Tx hP 1 cw_1 rfl 4 (by decide) k_1_50 rfl rfl d_Tx_exponent_13 ?_
      refine lv_iload_n hx hb d_Tx_exponent_16 rfl (lv_at hl 1 rfl) ?_
      obtain ⟨g3, h⟩ := o_gd_some h
      refine o_iald (f := (Tx_exponents a0)) C hP 6 4 cw_6 rfl g3 d_Tx_exponent_17 ?_
      refine lv_goto (tgt := 22) hx hb d_Tx_exponent_18 (by decide) ?_
      cases h
      exact o_ri (v := ((Tx_exponents a0) x1.toNatClampNeg)) C hP hS d_Tx_exponent_22
set_option maxHeartbeats 4000000 in
set_option maxRecDepth 100000 in
theorem c_Tx_exponent_1 {E : (Nat → Prop) → State → Heap → Prop} {D : va_G} {ad kd sd : Nat → Nat} {ca : Nat → ClassId} (hE : o_EK E kd sd) (l : Launch) (x1 : Int32) (a0 : STx) (Sj : SSJ) (T0 : STx) (Rd : SRd) (Pg : SPg) (Pt : SPt) (Mk : SMk) (Lk : SLk) (Ck : SCk) (Jd : SJd) (Ld : SLd) (Pr : SPr) (rt : Nat) {r : Int32} (h : m_Tx_exponent x1 a0 = some r) : o_Cn E l D o_cls (o_tys ca) y_Tx_exponent cc_Tx_exponent rm_Tx_exponent [.ref (ad 12), .int x1] (o_cw ad ca rt Sj T0 a0 Rd Pg Pt Mk Lk Ck Jd Ld Pr) (o_cw ad ca rt Sj T0 a0 Rd Pg Pt Mk Lk Ck Jd Ld Pr) (some (.int r)) := by
  refine o_Cn_of (by decide) (Nat.le_of_ble_eq_true rfl) ?_
  intro p e s m below meth c A ls C hD hP hS hl
  have hDD : ∀ (rt : Nat) (Sj : SSJ) (T0 : STx) (T1 : STx) (Rd : SRd) (Pg : SPg) (Pt : SPt) (Mk : SMk) (Lk : SLk) (Ck : SCk) (Jd : SJd) (Ld : SLd) (Pr : SPr), va_D A (o_cw ad ca rt Sj T0 T1 Rd Pg Pt Mk Lk Ck Jd Ld Pr) := fun _ _ _ _ _ _ _ _ _ _ _ _ _ => o_D_map hD rfl
  have hl : lv_has ls 2 [(0, .ref (ad 12)), (1, .int x1)] := hl
  unfold m_Tx_exponent at h
  have C0 := C
  obtain ⟨hx, hb, -, -, -, hown, hts, hK, -, -⟩ := C0
  refine lv_iload_n hx hb d_Tx_exponent_0 rfl (lv_at hl 1 rfl) ?_
  refine lv_if_lt (tgt := 21) hx hb d_Tx_exponent_1 (by decide) (fun c1 => ?_) (fun c1 => ?_)
  · replace h := o_tt c1 h
    refine lv_iconst (v := (0:Int32)) hx hb d_Tx_exponent_21 (by decide) ?_
    cases h
    exact o_ri (v := (0:Int32)) C hP hS d_Tx_exponent_22
  · replace h := o_ff c1 h
    refine lv_iload_n hx hb d_Tx_exponent_4 rfl (lv_at hl 1 rfl) ?_
    refine lv_aload_n hx hb d_Tx_exponent_5 rfl (lv_at hl 0 rfl) ?_
    refine o_get (v := .int (Tx_total a0)) C in_Tx hP 12 cw_12 rfl 10 (by decide) k_1_56 rfl rfl d_Tx_exponent_6 ?_
    refine lv_icmp_ge (tgt := 21) hx hb d_Tx_exponent_9 (by decide) (fun c2 => ?_) (fun c2 => ?_)
    · replace h := o_tt c2 h
      refine lv_iconst (v := (0:Int32)) hx hb d_Tx_exponent_21 (by decide) ?_
      cases h
      exact o_ri (v := (0:Int32)) C hP hS d_Tx_exponent_22
    · replace h := o_ff c2 h
      refine lv_aload_n hx hb d_Tx_exponent_12 rfl (lv_at hl 0 rfl) ?_
      refine o_get (v := .ref (ad 17)) C in_Tx hP 12 cw_12 rfl 4 (by decide) k_1_50 rfl rfl d_Tx_exponent_13 ?_
      refine lv_iload_n hx hb d_Tx_exponent_16 rfl (lv_at hl 1 rfl) ?_
      obtain ⟨g3, h⟩ := o_gd_some h
      refine o_iald (f := (Tx_exponents a0)) C hP 17 14 cw_17 rfl g3 d_Tx_exponent_17 ?_
      refine lv_goto (tgt := 22) hx hb d_Tx_exponent_18 (by decide) ?_
      cases h
      exact o_ri (v := ((Tx_exponents a0) x1.toNatClampNeg)) C hP hS d_Tx_exponent_22
set_option maxHeartbeats 4000000 in
set_option maxRecDepth 100000 in
theorem c_Tx_cell_1 {E : (Nat → Prop) → State → Heap → Prop} {D : va_G} {ad kd sd : Nat → Nat} {ca : Nat → ClassId} (hE : o_EK E kd sd) (l : Launch) (x1 : Int32) (x2 : Int32) (a0 : STx) (Sj : SSJ) (T0 : STx) (Rd : SRd) (Pg : SPg) (Pt : SPt) (Mk : SMk) (Lk : SLk) (Ck : SCk) (Jd : SJd) (Ld : SLd) (Pr : SPr) (rt : Nat) {r : Int32} (h : m_Tx_cell x1 x2 a0 = some r) : o_Cn E l D o_cls (o_tys ca) y_Tx_cell cc_Tx_cell rm_Tx_cell [.ref (ad 12), .int x1, .int x2] (o_cw ad ca rt Sj T0 a0 Rd Pg Pt Mk Lk Ck Jd Ld Pr) (o_cw ad ca rt Sj T0 a0 Rd Pg Pt Mk Lk Ck Jd Ld Pr) (some (.int r)) := by
  refine o_Cn_of (by decide) (Nat.le_of_ble_eq_true rfl) ?_
  intro p e s m below meth c A ls C hD hP hS hl
  have hDD : ∀ (rt : Nat) (Sj : SSJ) (T0 : STx) (T1 : STx) (Rd : SRd) (Pg : SPg) (Pt : SPt) (Mk : SMk) (Lk : SLk) (Ck : SCk) (Jd : SJd) (Ld : SLd) (Pr : SPr), va_D A (o_cw ad ca rt Sj T0 T1 Rd Pg Pt Mk Lk Ck Jd Ld Pr) := fun _ _ _ _ _ _ _ _ _ _ _ _ _ => o_D_map hD rfl
  have hl : lv_has ls 4 [(0, .ref (ad 12)), (1, .int x1), (2, .int x2)] := hl
  unfold m_Tx_cell at h
  have C0 := C
  obtain ⟨hx, hb, -, -, -, hown, hts, hK, -, -⟩ := C0
  refine lv_iload_n hx hb d_Tx_cell_0 rfl (lv_at hl 1 rfl) ?_
  refine lv_if_lt (tgt := 26) hx hb d_Tx_cell_1 (by decide) (fun c1 => ?_) (fun c1 => ?_)
  · replace h := o_tt c1 h
    refine lv_iconst (v := (0:Int32)) hx hb d_Tx_cell_26 (by decide) ?_
    cases h
    exact o_ri (v := (0:Int32)) C hP hS d_Tx_cell_27
  · replace h := o_ff c1 h
    refine lv_iload_n hx hb d_Tx_cell_4 rfl (lv_at hl 1 rfl) ?_
    refine lv_aload_n hx hb d_Tx_cell_5 rfl (lv_at hl 0 rfl) ?_
    refine o_get (v := .int (Tx_total a0)) C in_Tx hP 12 cw_12 rfl 10 (by decide) k_1_56 rfl rfl d_Tx_cell_6 ?_
    refine lv_icmp_ge (tgt := 26) hx hb d_Tx_cell_9 (by decide) (fun c2 => ?_) (fun c2 => ?_)
    · replace h := o_tt c2 h
      refine lv_iconst (v := (0:Int32)) hx hb d_Tx_cell_26 (by decide) ?_
      cases h
      exact o_ri (v := (0:Int32)) C hP hS d_Tx_cell_27
    · replace h := o_ff c2 h
      refine lv_iload_n hx hb d_Tx_cell_12 rfl (lv_at hl 2 rfl) ?_
      refine lv_if_lt (tgt := 26) hx hb d_Tx_cell_13 (by decide) (fun c3 => ?_) (fun c3 => ?_)
      · replace h := o_tt c3 h
        refine lv_iconst (v := (0:Int32)) hx hb d_Tx_cell_26 (by decide) ?_
        cases h
        exact o_ri (v := (0:Int32)) C hP hS d_Tx_cell_27
      · replace h := o_ff c3 h
        refine lv_iload_n hx hb d_Tx_cell_16 rfl (lv_at hl 2 rfl) ?_
        refine lv_aload_n hx hb d_Tx_cell_17 rfl (lv_at hl 0 rfl) ?_
        refine o_get (v := .ref (ad 15)) C in_Tx hP 12 cw_12 rfl 2 (by decide) k_1_48 rfl rfl d_Tx_cell_18 ?_
        refine lv_iload_n hx hb d_Tx_cell_21 rfl (lv_at hl 1 rfl) ?_
        obtain ⟨g4, h⟩ := o_gd_some h
        refine o_iald (f := (Tx_sizes a0)) C hP 15 12 cw_15 rfl g4 d_Tx_cell_22 ?_
        refine lv_icmp_lt (tgt := 28) hx hb d_Tx_cell_23 (by decide) (fun c5 => ?_) (fun c5 => ?_)
        · replace h := o_tt c5 h
          refine lv_aload_n hx hb d_Tx_cell_28 rfl (lv_at hl 0 rfl) ?_
          refine o_get (v := .ref (ad 18)) C in_Tx hP 12 cw_12 rfl 5 (by decide) k_1_51 rfl rfl d_Tx_cell_29 ?_
          refine lv_iload_n hx hb d_Tx_cell_32 rfl (lv_at hl 1 rfl) ?_
          obtain ⟨g6, h⟩ := o_gd_some h
          refine o_iald (f := (Tx_starts a0)) C hP 18 15 cw_18 rfl g6 d_Tx_cell_33 ?_
          refine lv_iload_n hx hb d_Tx_cell_34 rfl (lv_at hl 2 rfl) ?_
          refine lv_iadd hx hb d_Tx_cell_35 ?_
          refine lv_topi (fun x3_36 ex3_36 => ?_)
          replace h := o_nm_at ex3_36 h
          refine lv_istore_n (lv' := [(3, .int x3_36), (0, .ref (ad 12)), (1, .int x1), (2, .int x2)]) hx hb d_Tx_cell_36 rfl hl (by decide) rfl (fun ls hl => ?_)
          refine lv_iload_n hx hb d_Tx_cell_37 rfl (lv_at hl 0 rfl) ?_
          refine lv_if_lt (tgt := 59) hx hb d_Tx_cell_38 (by decide) (fun c7 => ?_) (fun c7 => ?_)
          · replace h := o_tt c7 h
            refine lv_iconst (v := (0:Int32)) hx hb d_Tx_cell_59 (by decide) ?_
            cases h
            exact o_ri (v := (0:Int32)) C hP hS d_Tx_cell_60
          · replace h := o_ff c7 h
            refine lv_iload_n hx hb d_Tx_cell_41 rfl (lv_at hl 0 rfl) ?_
            refine lv_aload_n hx hb d_Tx_cell_42 rfl (lv_at hl 1 rfl) ?_
            refine o_get (v := .ref (ad 22)) C in_Tx hP 12 cw_12 rfl 9 (by decide) k_1_55 rfl rfl d_Tx_cell_43 ?_
            refine va_alen (v := (8192:Int32)) hx hb hK hP 22 19 cw_22 rfl rfl d_Tx_cell_46 ?_
            refine lv_icmp_ge (tgt := 59) hx hb d_Tx_cell_47 (by decide) (fun c8 => ?_) (fun c8 => ?_)
            · replace h := o_tt c8 h
              refine lv_iconst (v := (0:Int32)) hx hb d_Tx_cell_59 (by decide) ?_
              cases h
              exact o_ri (v := (0:Int32)) C hP hS d_Tx_cell_60
            · replace h := o_ff c8 h
              refine lv_aload_n hx hb d_Tx_cell_50 rfl (lv_at hl 1 rfl) ?_
              refine o_get (v := .ref (ad 22)) C in_Tx hP 12 cw_12 rfl 9 (by decide) k_1_55 rfl rfl d_Tx_cell_51 ?_
              refine lv_iload_n hx hb d_Tx_cell_54 rfl (lv_at hl 0 rfl) ?_
              obtain ⟨g9, h⟩ := o_gd_some h
              refine o_iald (f := (Tx_cells a0)) C hP 22 19 cw_22 rfl g9 d_Tx_cell_55 ?_
              refine lv_goto (tgt := 60) hx hb d_Tx_cell_56 (by decide) ?_
              cases h
              exact o_ri (v := ((Tx_cells a0) x3_36.toNatClampNeg)) C hP hS d_Tx_cell_60
        · replace h := o_ff c5 h
          refine lv_iconst (v := (0:Int32)) hx hb d_Tx_cell_26 (by decide) ?_
          cases h
          exact o_ri (v := (0:Int32)) C hP hS d_Tx_cell_27
set_option maxHeartbeats 4000000 in
set_option maxRecDepth 100000 in
theorem w_Tx_compare_j22_01 {E : (Nat → Prop) → State → Heap → Prop} {p : Program} {l : Launch} {e : Env} {s : State} {m : MethodId} {args : Array Value} {below : List Frame} {meth : Method} {c : Code} {D : va_G} {ad kd sd : Nat → Nat} {ca : Nat → ClassId} {A : Nat → Prop} (hE : o_EK E kd sd) (C : o_Cx E p s m args meth c D o_cls (o_tys ca) "SchemaJudge$Text" b_Tx_compare (some .int) 10 cc_Tx_compare A) (hDD : ∀ (rt : Nat) (Sj : SSJ) (T0 : STx) (T1 : STx) (Rd : SRd) (Pg : SPg) (Pt : SPt) (Mk : SMk) (Lk : SLk) (Ck : SCk) (Jd : SJd) (Ld : SLd) (Pr : SPr), va_D A (o_cw ad ca rt Sj T0 T1 Rd Pg Pt Mk Lk Ck Jd Ld Pr)) (n : Nat) (x3 : Int32) (x4 : Int32) (a0 : STx) (a2 : STx) (Sj : SSJ) (Rd : SRd) (Pg : SPg) (Pt : SPt) (Mk : SMk) (Lk : SLk) (Ck : SCk) (Jd : SJd) (Ld : SLd) (Pr : SPr) (rt : Nat) {r : Int32} (h : m_Tx_compare_j22 n x3 x4 a0 a2 = some r) : o_At p l e rm_Tx_compare s m args below meth c (MQ below (o_Qx D o_cls (some (.int r)) (o_cw ad ca rt Sj a0 a2 Rd Pg Pt Mk Lk Ck Jd Ld Pr) A) args s 0 0 A) o_cls D A 10 22 [] (o_cw ad ca rt Sj a0 a2 Rd Pg Pt Mk Lk Ck Jd Ld Pr) [(2, .ref (ad 12)), (3, .int x3), (4, .int x4)] := by
  unfold m_Tx_compare_j22 at h
  intro H locs ls hP hS hl
  have C0 := C
  obtain ⟨hx, hb, -, -, -, hown, hts, hK, -, -⟩ := C0
  refine lv_iload hx hb d_Tx_compare_22 (lv_at hl 2 rfl) ?_
  refine lv_aload_n hx hb d_Tx_compare_24 rfl (lv_at hl 0 rfl) ?_
  refine lv_iload_n hx hb d_Tx_compare_25 rfl (lv_at hl 1 rfl) ?_
  obtain ⟨q3, hq3, h⟩ := o_bd_some h
  refine o_V (st1 := [.int q3, .int x4]) (w1 := (o_cw ad ca rt Sj a0 a2 Rd Pg Pt Mk Lk Ck Jd Ld Pr)) hE.1 C (c_Tx_sign_1 hE l x3 a2 Sj a0 Rd Pg Pt Mk Lk Ck Jd Ld Pr rt hq3) hP (hDD _ _ _ _ _ _ _ _ _ _ _ _ _) hS hl.1 rfl cw_12 k_5_65 k_5_57 k_5_58 k_1_2 k_5_59 hv_Tx_sign rfl rfl ⟨(Nat.le_of_ble_eq_true rfl), (Nat.le_of_ble_eq_true rfl)⟩ rfl (Nat.le_of_ble_eq_true rfl) ⟨Nat.zero_le _, Nat.zero_le _⟩ rfl d_Tx_compare_26 (fun H locs hP hS => ?_)
  refine lv_isub hx hb d_Tx_compare_29 ?_
  cases h
  exact o_ri (v := (x4 - q3)) C hP hS d_Tx_compare_30
set_option maxHeartbeats 4000000 in
set_option maxRecDepth 100000 in
theorem w_Tx_compare_b83_01 {E : (Nat → Prop) → State → Heap → Prop} {p : Program} {l : Launch} {e : Env} {s : State} {m : MethodId} {args : Array Value} {below : List Frame} {meth : Method} {c : Code} {D : va_G} {ad kd sd : Nat → Nat} {ca : Nat → ClassId} {A : Nat → Prop} {Q : State → Prop} (hE : o_EK E kd sd) (C : o_Cx E p s m args meth c D o_cls (o_tys ca) "SchemaJudge$Text" b_Tx_compare (some .int) 10 cc_Tx_compare A) (hDD : ∀ (rt : Nat) (Sj : SSJ) (T0 : STx) (T1 : STx) (Rd : SRd) (Pg : SPg) (Pt : SPt) (Mk : SMk) (Lk : SLk) (Ck : SCk) (Jd : SJd) (Ld : SLd) (Pr : SPr), va_D A (o_cw ad ca rt Sj T0 T1 Rd Pg Pt Mk Lk Ck Jd Ld Pr)) (n : Nat) (u83_x1 : Int32) (u83_x3 : Int32) (u83_x4 : Int32) (u83_a0 : STx) (u83_a2 : STx) (u83_Sj : SSJ) (u83_Rd : SRd) (u83_Pg : SPg) (u83_Pt : SPt) (u83_Mk : SMk) (u83_Lk : SLk) (u83_Ck : SCk) (u83_Jd : SJd) (u83_Ld : SLd) (u83_Pr : SPr) (u83_rt : Nat) (z : Int32 × Int32 × Int32) (q : Nat × Int32 × Int32 × Int32) (h : m_Tx_compare_b83 n u83_x1 u83_x3 u83_x4 u83_a0 u83_a2 z = some q) (h0 : q.1 = 0 → o_At p l e rm_Tx_compare s m args below meth c Q o_cls D A 10 83 [] (o_cw ad ca u83_rt u83_Sj u83_a0 u83_a2 u83_Rd u83_Pg u83_Pt u83_Mk u83_Lk u83_Ck u83_Jd u83_Ld u83_Pr) [(0, .ref (ad 1)), (1, .int u83_x1), (2, .ref (ad 12)), (3, .int u83_x3), (4, .int u83_x4), (7, .int q.2.1)]) (h1 : q.1 ≠ 0 → (if q.1 = 1 then o_At p l e rm_Tx_compare s m args below meth c Q o_cls D A 10 115 [] (o_cw ad ca u83_rt u83_Sj u83_a0 u83_a2 u83_Rd u83_Pg u83_Pt u83_Mk u83_Lk u83_Ck u83_Jd u83_Ld u83_Pr) [(4, .int u83_x4), (8, .int q.2.2.1), (9, .int q.2.2.2)] else o_At p l e rm_Tx_compare s m args below meth c Q o_cls D A 10 137 [] (o_cw ad ca u83_rt u83_Sj u83_a0 u83_a2 u83_Rd u83_Pg u83_Pt u83_Mk u83_Lk u83_Ck u83_Jd u83_Ld u83_Pr) [])) : o_At p l e rm_Tx_compare s m args below meth c Q o_cls D A 10 83 [] (o_cw ad ca u83_rt u83_Sj u83_a0 u83_a2 u83_Rd u83_Pg u83_Pt u83_Mk u83_Lk u83_Ck u83_Jd u83_Ld u83_Pr) [(0, .ref (ad 1)), (1, .int u83_x1), (2, .ref (ad 12)), (3, .int u83_x3), (4, .int u83_x4), (7, .int z.1)] := by
  unfold m_Tx_compare_b83 at h
  intro H locs ls hP hS hl
  have C0 := C
  obtain ⟨hx, hb, -, -, -, hown, hts, hK, -, -⟩ := C0
  refine lv_iload hx hb d_Tx_compare_83 (lv_at hl 5 rfl) ?_
  refine lv_bipush (v := (60:Int32)) hx hb d_Tx_compare_85 (by decide) ?_
  refine lv_icmp_ge (tgt := 137) hx hb d_Tx_compare_87 (by decide) (fun c4 => ?_) (fun c4 => ?_)
  · replace h := o_tt c4 h
    cases h
    exact h1 (Nat.succ_ne_zero 1) _ _ _ hP hS (lv_sub hl [] rfl)
  · replace h := o_ff c4 h
    refine lv_aload_n hx hb d_Tx_compare_90 rfl (lv_at hl 0 rfl) ?_
    refine lv_iload_n hx hb d_Tx_compare_91 rfl (lv_at hl 1 rfl) ?_
    refine lv_iload hx hb d_Tx_compare_92 (lv_at hl 5 rfl) ?_
    obtain ⟨q8, hq8, h⟩ := o_bd_some h
    refine o_V (st1 := [.int q8]) (w1 := (o_cw ad ca u83_rt u83_Sj u83_a0 u83_a2 u83_Rd u83_Pg u83_Pt u83_Mk u83_Lk u83_Ck u83_Jd u83_Ld u83_Pr)) hE.1 C (c_Tx_cell_0 hE l u83_x1 z.1 u83_a0 u83_Sj u83_a2 u83_Rd u83_Pg u83_Pt u83_Mk u83_Lk u83_Ck u83_Jd u83_Ld u83_Pr u83_rt hq8) hP (hDD _ _ _ _ _ _ _ _ _ _ _ _ _) hS hl.1 rfl cw_1 k_5_70 k_4_117 k_4_118 k_1_2 k_4_119 hv_Tx_cell rfl rfl ⟨(Nat.le_of_ble_eq_true rfl), (Nat.le_of_ble_eq_true rfl)⟩ rfl (Nat.le_of_ble_eq_true rfl) ⟨Nat.zero_le _, Nat.zero_le _⟩ rfl d_Tx_compare_94 (fun H locs hP hS => ?_)
    refine lv_istore (lv' := [(8, .int q8), (0, .ref (ad 1)), (1, .int u83_x1), (2, .ref (ad 12)), (3, .int u83_x3), (4, .int u83_x4), (7, .int z.1)]) hx hb d_Tx_compare_97 hl (by decide) rfl (fun ls hl => ?_)
    refine lv_aload_n hx hb d_Tx_compare_99 rfl (lv_at hl 3 rfl) ?_
    refine lv_iload_n hx hb d_Tx_compare_100 rfl (lv_at hl 4 rfl) ?_
    refine lv_iload hx hb d_Tx_compare_101 (lv_at hl 6 rfl) ?_
    obtain ⟨q9, hq9, h⟩ := o_bd_some h
    refine o_V (st1 := [.int q9]) (w1 := (o_cw ad ca u83_rt u83_Sj u83_a0 u83_a2 u83_Rd u83_Pg u83_Pt u83_Mk u83_Lk u83_Ck u83_Jd u83_Ld u83_Pr)) hE.1 C (c_Tx_cell_1 hE l u83_x3 z.1 u83_a2 u83_Sj u83_a0 u83_Rd u83_Pg u83_Pt u83_Mk u83_Lk u83_Ck u83_Jd u83_Ld u83_Pr u83_rt hq9) hP (hDD _ _ _ _ _ _ _ _ _ _ _ _ _) hS hl.1 rfl cw_12 k_5_70 k_4_117 k_4_118 k_1_2 k_4_119 hv_Tx_cell rfl rfl ⟨(Nat.le_of_ble_eq_true rfl), (Nat.le_of_ble_eq_true rfl)⟩ rfl (Nat.le_of_ble_eq_true rfl) ⟨Nat.zero_le _, Nat.zero_le _⟩ rfl d_Tx_compare_103 (fun H locs hP hS => ?_)
    refine lv_istore (lv' := [(9, .int q9), (8, .int q8), (0, .ref (ad 1)), (1, .int u83_x1), (2, .ref (ad 12)), (3, .int u83_x3), (4, .int u83_x4), (7, .int z.1)]) hx hb d_Tx_compare_106 hl (by decide) rfl (fun ls hl => ?_)
    refine lv_iload hx hb d_Tx_compare_108 (lv_at hl 1 rfl) ?_
    refine lv_iload hx hb d_Tx_compare_110 (lv_at hl 0 rfl) ?_
    refine lv_icmp_eq (tgt := 131) hx hb d_Tx_compare_112 (by decide) (fun c5 => ?_) (fun c5 => ?_)
    · replace h := o_tt c5 h
      obtain ⟨x7_131, ex7_131⟩ : ∃ y : Int32, y = z.1 + (1:Int32) := ⟨_, rfl⟩
      replace h := o_nm_at ex7_131 h
      refine lv_iinc (v := x7_131) (lv' := [(7, .int x7_131), (9, .int q9), (8, .int q8), (0, .ref (ad 1)), (1, .int u83_x1), (2, .ref (ad 12)), (3, .int u83_x3), (4, .int u83_x4)]) hx hb d_Tx_compare_131 hl (k := 7) rfl (by rw [ex7_131]; rfl) (by decide) rfl (fun ls hl => ?_)
      refine lv_goto (tgt := 83) hx hb d_Tx_compare_134 (by decide) ?_
      cases h
      exact h0 rfl _ _ _ hP hS (lv_sub hl [3, 4, 5, 6, 7, 0] rfl)
    · replace h := o_ff c5 h
      cases h
      exact h1 (Nat.succ_ne_zero 0) _ _ _ hP hS (lv_sub hl [6, 1, 0] rfl)
set_option maxHeartbeats 4000000 in
set_option maxRecDepth 100000 in
theorem c_Tx_compare_01 {E : (Nat → Prop) → State → Heap → Prop} {D : va_G} {ad kd sd : Nat → Nat} {ca : Nat → ClassId} (hE : o_EK E kd sd) (l : Launch) (n : Nat) (x1 : Int32) (x3 : Int32) (a0 : STx) (a2 : STx) (Sj : SSJ) (Rd : SRd) (Pg : SPg) (Pt : SPt) (Mk : SMk) (Lk : SLk) (Ck : SCk) (Jd : SJd) (Ld : SLd) (Pr : SPr) (rt : Nat) {r : Int32} (h : m_Tx_compare n x1 x3 a0 a2 = some r) : o_Cn E l D o_cls (o_tys ca) y_Tx_compare cc_Tx_compare rm_Tx_compare [.ref (ad 1), .int x1, .ref (ad 12), .int x3] (o_cw ad ca rt Sj a0 a2 Rd Pg Pt Mk Lk Ck Jd Ld Pr) (o_cw ad ca rt Sj a0 a2 Rd Pg Pt Mk Lk Ck Jd Ld Pr) (some (.int r)) := by
  refine o_Cn_of (by decide) (Nat.le_of_ble_eq_true rfl) ?_
  intro p e s m below meth c A ls C hD hP hS hl
  have hDD : ∀ (rt : Nat) (Sj : SSJ) (T0 : STx) (T1 : STx) (Rd : SRd) (Pg : SPg) (Pt : SPt) (Mk : SMk) (Lk : SLk) (Ck : SCk) (Jd : SJd) (Ld : SLd) (Pr : SPr), va_D A (o_cw ad ca rt Sj T0 T1 Rd Pg Pt Mk Lk Ck Jd Ld Pr) := fun _ _ _ _ _ _ _ _ _ _ _ _ _ => o_D_map hD rfl
  have hl : lv_has ls 10 [(0, .ref (ad 1)), (1, .int x1), (2, .ref (ad 12)), (3, .int x3)] := hl
  unfold m_Tx_compare at h
  have C0 := C
  obtain ⟨hx, hb, -, -, -, hown, hts, hK, -, -⟩ := C0
  refine lv_aload_n hx hb d_Tx_compare_0 rfl (lv_at hl 0 rfl) ?_
  refine lv_iload_n hx hb d_Tx_compare_1 rfl (lv_at hl 1 rfl) ?_
  obtain ⟨q1, hq1, h⟩ := o_bd_some h
  refine o_V (st1 := [.int q1]) (w1 := (o_cw ad ca rt Sj a0 a2 Rd Pg Pt Mk Lk Ck Jd Ld Pr)) hE.1 C (c_Tx_sign_0 hE l x1 a0 Sj a2 Rd Pg Pt Mk Lk Ck Jd Ld Pr rt hq1) hP (hDD _ _ _ _ _ _ _ _ _ _ _ _ _) hS hl.1 rfl cw_1 k_5_65 k_5_57 k_5_58 k_1_2 k_5_59 hv_Tx_sign rfl rfl ⟨(Nat.le_of_ble_eq_true rfl), (Nat.le_of_ble_eq_true rfl)⟩ rfl (Nat.le_of_ble_eq_true rfl) ⟨Nat.zero_le _, Nat.zero_le _⟩ rfl d_Tx_compare_2 (fun H locs hP hS => ?_)
  refine lv_istore (lv' := [(4, .int q1), (0, .ref (ad 1)), (1, .int x1), (2, .ref (ad 12)), (3, .int x3)]) hx hb d_Tx_compare_5 hl (by decide) rfl (fun ls hl => ?_)
  refine lv_iload hx hb d_Tx_compare_7 (lv_at hl 0 rfl) ?_
  refine lv_aload_n hx hb d_Tx_compare_9 rfl (lv_at hl 3 rfl) ?_
  refine lv_iload_n hx hb d_Tx_compare_10 rfl (lv_at hl 4 rfl) ?_
  obtain ⟨q2, hq2, h⟩ := o_bd_some h
  refine o_V (st1 := [.int q2, .int q1]) (w1 := (o_cw ad ca rt Sj a0 a2 Rd Pg Pt Mk Lk Ck Jd Ld Pr)) hE.1 C (c_Tx_sign_1 hE l x3 a2 Sj a0 Rd Pg Pt Mk Lk Ck Jd Ld Pr rt hq2) hP (hDD _ _ _ _ _ _ _ _ _ _ _ _ _) hS hl.1 rfl cw_12 k_5_65 k_5_57 k_5_58 k_1_2 k_5_59 hv_Tx_sign rfl rfl ⟨(Nat.le_of_ble_eq_true rfl), (Nat.le_of_ble_eq_true rfl)⟩ rfl (Nat.le_of_ble_eq_true rfl) ⟨Nat.zero_le _, Nat.zero_le _⟩ rfl d_Tx_compare_11 (fun H locs hP hS => ?_)
  refine lv_icmp_ne (tgt := 22) hx hb d_Tx_compare_14 (by decide) (fun c1 => ?_) (fun c1 => ?_)
  · replace h := o_ff c1 h
    exact w_Tx_compare_j22_01 hE C hDD n x3 q1 a0 a2 Sj Rd Pg Pt Mk Lk Ck Jd Ld Pr rt h _ _ _ hP hS (lv_sub hl [3, 4, 0] rfl)
  · replace h := o_tt c1 h
    refine lv_iload hx hb d_Tx_compare_17 (lv_at hl 0 rfl) ?_
    refine lv_if_ne (tgt := 31) hx hb d_Tx_compare_19 (by decide) (fun c2 => ?_) (fun c2 => ?_)
    · replace h := o_ff c2 h
      refine lv_aload_n hx hb d_Tx_compare_31 rfl (lv_at hl 1 rfl) ?_
      refine lv_iload_n hx hb d_Tx_compare_32 rfl (lv_at hl 2 rfl) ?_
      obtain ⟨q4, hq4, h⟩ := o_bd_some h
      refine o_V (st1 := [.int q4]) (w1 := (o_cw ad ca rt Sj a0 a2 Rd Pg Pt Mk Lk Ck Jd Ld Pr)) hE.1 C (c_Tx_size_0 hE l x1 a0 Sj a2 Rd Pg Pt Mk Lk Ck Jd Ld Pr rt hq4) hP (hDD _ _ _ _ _ _ _ _ _ _ _ _ _) hS hl.1 rfl cw_1 k_3_214 k_3_215 k_3_216 k_1_2 k_3_217 hv_Tx_size rfl rfl ⟨(Nat.le_of_ble_eq_true rfl), (Nat.le_of_ble_eq_true rfl)⟩ rfl (Nat.le_of_ble_eq_true rfl) ⟨Nat.zero_le _, Nat.zero_le _⟩ rfl d_Tx_compare_33 (fun H locs hP hS => ?_)
      refine lv_aload_n hx hb d_Tx_compare_36 rfl (lv_at hl 1 rfl) ?_
      refine lv_iload_n hx hb d_Tx_compare_37 rfl (lv_at hl 2 rfl) ?_
      obtain ⟨q5, hq5, h⟩ := o_bd_some h
      refine o_V (st1 := [.int q5, .int q4]) (w1 := (o_cw ad ca rt Sj a0 a2 Rd Pg Pt Mk Lk Ck Jd Ld Pr)) hE.1 C (c_Tx_exponent_0 hE l x1 a0 Sj a2 Rd Pg Pt Mk Lk Ck Jd Ld Pr rt hq5) hP (hDD _ _ _ _ _ _ _ _ _ _ _ _ _) hS hl.1 rfl cw_1 k_5_66 k_5_67 k_5_68 k_1_2 k_5_69 hv_Tx_exponent rfl rfl ⟨(Nat.le_of_ble_eq_true rfl), (Nat.le_of_ble_eq_true rfl)⟩ rfl (Nat.le_of_ble_eq_true rfl) ⟨Nat.zero_le _, Nat.zero_le _⟩ rfl d_Tx_compare_38 (fun H locs hP hS => ?_)
      refine lv_iadd hx hb d_Tx_compare_41 ?_
      refine lv_topi (fun x5_42 ex5_42 => ?_)
      replace h := o_nm_at ex5_42 h
      refine lv_istore (lv' := [(5, .int x5_42), (4, .int q1), (0, .ref (ad 1)), (1, .int x1), (2, .ref (ad 12)), (3, .int x3)]) hx hb d_Tx_compare_42 hl (by decide) rfl (fun ls hl => ?_)
      refine lv_aload_n hx hb d_Tx_compare_44 rfl (lv_at hl 4 rfl) ?_
      refine lv_iload_n hx hb d_Tx_compare_45 rfl (lv_at hl 5 rfl) ?_
      obtain ⟨q6, hq6, h⟩ := o_bd_some h
      refine o_V (st1 := [.int q6]) (w1 := (o_cw ad ca rt Sj a0 a2 Rd Pg Pt Mk Lk Ck Jd Ld Pr)) hE.1 C (c_Tx_size_1 hE l x3 a2 Sj a0 Rd Pg Pt Mk Lk Ck Jd Ld Pr rt hq6) hP (hDD _ _ _ _ _ _ _ _ _ _ _ _ _) hS hl.1 rfl cw_12 k_3_214 k_3_215 k_3_216 k_1_2 k_3_217 hv_Tx_size rfl rfl ⟨(Nat.le_of_ble_eq_true rfl), (Nat.le_of_ble_eq_true rfl)⟩ rfl (Nat.le_of_ble_eq_true rfl) ⟨Nat.zero_le _, Nat.zero_le _⟩ rfl d_Tx_compare_46 (fun H locs hP hS => ?_)
      refine lv_aload_n hx hb d_Tx_compare_49 rfl (lv_at hl 4 rfl) ?_
      refine lv_iload_n hx hb d_Tx_compare_50 rfl (lv_at hl 5 rfl) ?_
      obtain ⟨q7, hq7, h⟩ := o_bd_some h
      refine o_V (st1 := [.int q7, .int q6]) (w1 := (o_cw ad ca rt Sj a0 a2 Rd Pg Pt Mk Lk Ck Jd Ld Pr)) hE.1 C (c_Tx_exponent_1 hE l x3 a2 Sj a0 Rd Pg Pt Mk Lk Ck Jd Ld Pr rt hq7) hP (hDD _ _ _ _ _ _ _ _ _ _ _ _ _) hS hl.1 rfl cw_12 k_5_66 k_5_67 k_5_68 k_1_2 k_5_69 hv_Tx_exponent rfl rfl ⟨(Nat.le_of_ble_eq_true rfl), (Nat.le_of_ble_eq_true rfl)⟩ rfl (Nat.le_of_ble_eq_true rfl) ⟨Nat.zero_le _, Nat.zero_le _⟩ rfl d_Tx_compare_51 (fun H locs hP hS => ?_)
      refine lv_iadd hx hb d_Tx_compare_54 ?_
      refine lv_topi (fun x6_55 ex6_55 => ?_)
      replace h := o_nm_at ex6_55 h
      refine lv_istore (lv' := [(6, .int x6_55), (5, .int x5_42), (4, .int q1), (0, .ref (ad 1)), (1, .int x1), (2, .ref (ad 12)), (3, .int x3)]) hx hb d_Tx_compare_55 hl (by decide) rfl (fun ls hl => ?_)
      refine lv_iload hx hb d_Tx_compare_57 (lv_at hl 1 rfl) ?_
      refine lv_iload hx hb d_Tx_compare_59 (lv_at hl 0 rfl) ?_
      refine lv_icmp_eq (tgt := 80) hx hb d_Tx_compare_61 (by decide) (fun c3 => ?_) (fun c3 => ?_)
      · replace h := o_tt c3 h
        refine lv_iconst (v := (0:Int32)) hx hb d_Tx_compare_80 (by decide) ?_
        refine lv_istore (lv' := [(7, .int (0:Int32)), (6, .int x6_55), (5, .int x5_42), (4, .int q1), (0, .ref (ad 1)), (1, .int x1), (2, .ref (ad 12)), (3, .int x3)]) hx hb d_Tx_compare_81 hl (by decide) rfl (fun ls hl => ?_)
        obtain ⟨q10, hq10, h⟩ := o_bd_some h
        refine o_sim2 (AH := fun zz => o_At p l e rm_Tx_compare s m _ below meth c _ o_cls D A 10 83 [] (o_cw ad ca rt Sj a0 a2 Rd Pg Pt Mk Lk Ck Jd Ld Pr) [(0, .ref (ad 1)), (1, .int x1), (2, .ref (ad 12)), (3, .int x3), (4, .int q1), (7, .int zz.1)]) (AX := fun qq => if qq.1 = 1 then o_At p l e rm_Tx_compare s m _ below meth c _ o_cls D A 10 115 [] (o_cw ad ca rt Sj a0 a2 Rd Pg Pt Mk Lk Ck Jd Ld Pr) [(4, .int q1), (8, .int qq.2.2.1), (9, .int qq.2.2.2)] else o_At p l e rm_Tx_compare s m _ below meth c _ o_cls D A 10 137 [] (o_cw ad ca rt Sj a0 a2 Rd Pg Pt Mk Lk Ck Jd Ld Pr) []) (fun zz qq h h0 h1 => w_Tx_compare_b83_01 hE C hDD n x1 x3 q1 a0 a2 Sj Rd Pg Pt Mk Lk Ck Jd Ld Pr rt zz qq h h0 h1) n _ q10 hq10 ?_ _ _ _ hP hS (lv_sub hl [4, 5, 6, 7, 3, 0] rfl)
        by_cases c7 : q10.1 = 1
        · replace h := o_tt c7 h
          refine o_ip c7 ?_
          intro H locs ls hP hS hl
          refine lv_iload hx hb d_Tx_compare_115 (lv_at hl 1 rfl) ?_
          refine lv_iload hx hb d_Tx_compare_117 (lv_at hl 2 rfl) ?_
          refine lv_icmp_ge (tgt := 128) hx hb d_Tx_compare_119 (by decide) (fun c6 => ?_) (fun c6 => ?_)
          · replace h := o_tt c6 h
            refine lv_iload hx hb d_Tx_compare_128 (lv_at hl 0 rfl) ?_
            cases h
            exact o_ri C hP hS d_Tx_compare_130
          · replace h := o_ff c6 h
            refine lv_iload hx hb d_Tx_compare_122 (lv_at hl 0 rfl) ?_
            refine lv_ineg hx hb d_Tx_compare_124 ?_
            refine lv_goto (tgt := 130) hx hb d_Tx_compare_125 (by decide) ?_
            cases h
            exact o_ri (v := (-q1)) C hP hS d_Tx_compare_130
        replace h := o_ff c7 h
        refine o_in_ c7 ?_
        intro H locs ls hP hS hl
        refine lv_iconst (v := (0:Int32)) hx hb d_Tx_compare_137 (by decide) ?_
        cases h
        exact o_ri (v := (0:Int32)) C hP hS d_Tx_compare_138
      · replace h := o_ff c3 h
        refine lv_iload hx hb d_Tx_compare_64 (lv_at hl 1 rfl) ?_
        refine lv_iload hx hb d_Tx_compare_66 (lv_at hl 0 rfl) ?_
        refine lv_icmp_ge (tgt := 77) hx hb d_Tx_compare_68 (by decide) (fun c8 => ?_) (fun c8 => ?_)
        · replace h := o_tt c8 h
          refine lv_iload hx hb d_Tx_compare_77 (lv_at hl 2 rfl) ?_
          cases h
          exact o_ri C hP hS d_Tx_compare_79
        · replace h := o_ff c8 h
          refine lv_iload hx hb d_Tx_compare_71 (lv_at hl 2 rfl) ?_
          refine lv_ineg hx hb d_Tx_compare_73 ?_
          refine lv_goto (tgt := 79) hx hb d_Tx_compare_74 (by decide) ?_
          cases h
          exact o_ri (v := (-q1)) C hP hS d_Tx_compare_79
    · replace h := o_tt c2 h
      exact w_Tx_compare_j22_01 hE C hDD n x3 q1 a0 a2 Sj Rd Pg Pt Mk Lk Ck Jd Ld Pr rt h _ _ _ hP hS (lv_sub hl [3, 4, 0] rfl)
set_option maxHeartbeats 4000000 in
set_option maxRecDepth 100000 in
theorem w_Tx_same_j125_01 {E : (Nat → Prop) → State → Heap → Prop} {p : Program} {l : Launch} {e : Env} {s : State} {m : MethodId} {args : Array Value} {below : List Frame} {meth : Method} {c : Code} {D : va_G} {ad kd sd : Nat → Nat} {ca : Nat → ClassId} {A : Nat → Prop} {Q : State → Prop} (hE : o_EK E kd sd) (C : o_Cx E p s m args meth c D o_cls (o_tys ca) "SchemaJudge$Text" b_Tx_same (some .boolean) 10 cc_Tx_same A) (hDD : ∀ (rt : Nat) (Sj : SSJ) (T0 : STx) (T1 : STx) (Rd : SRd) (Pg : SPg) (Pt : SPt) (Mk : SMk) (Lk : SLk) (Ck : SCk) (Jd : SJd) (Ld : SLd) (Pr : SPr), va_D A (o_cw ad ca rt Sj T0 T1 Rd Pg Pt Mk Lk Ck Jd Ld Pr)) (d : Nat) (rec : Int32 → Int32 → Int32 → STx → STx → Option (Int32)) (hrec : ∀ (x1 : Int32) (x3 : Int32) (x4 : Int32) (a0 : STx) (a2 : STx) (Sj : SSJ) (Rd : SRd) (Pg : SPg) (Pt : SPt) (Mk : SMk) (Lk : SLk) (Ck : SCk) (Jd : SJd) (Ld : SLd) (Pr : SPr) (rt : Nat) (r : Int32), rec x1 x3 x4 a0 a2 = some r → o_Cn E l D o_cls (o_tys ca) y_Tx_same cc_Tx_same (rm_Tx_same d) [.ref (ad 1), .int x1, .ref (ad 12), .int x3, .int x4] (o_cw ad ca rt Sj a0 a2 Rd Pg Pt Mk Lk Ck Jd Ld Pr) (o_cw ad ca rt Sj a0 a2 Rd Pg Pt Mk Lk Ck Jd Ld Pr) (some (.int r))) (n : Nat) (u94_x1 : Int32) (u94_x3 : Int32) (u94_x4 : Int32) (u94_x5 : Int32) (u94_a0 : STx) (u94_a2 : STx) (u94_Sj : SSJ) (u94_Rd : SRd) (u94_Pg : SPg) (u94_Pt : SPt) (u94_Mk : SMk) (u94_Lk : SLk) (u94_Ck : SCk) (u94_Jd : SJd) (u94_Ld : SLd) (u94_Pr : SPr) (u94_rt : Nat) (x6 : Int32) (x7 : Int32) (x8 : Int32) (y0 : Int32) {q : Nat × Int32 × Int32 × Int32} (h : m_Tx_same_j125 n rec u94_x1 u94_x3 u94_x4 u94_x5 x6 x7 x8 y0 u94_a0 u94_a2 = some q) (h0 : q.1 = 0 → o_At p l e (rm_Tx_same (d + 1)) s m args below meth c Q o_cls D A 10 94 [] (o_cw ad ca u94_rt u94_Sj u94_a0 u94_a2 u94_Rd u94_Pg u94_Pt u94_Mk u94_Lk u94_Ck u94_Jd u94_Ld u94_Pr) [(0, .ref (ad 1)), (1, .int u94_x1), (2, .ref (ad 12)), (3, .int u94_x3), (4, .int u94_x4), (5, .int u94_x5), (6, .int q.2.1), (7, .int q.2.2.1), (8, .int q.2.2.2)]) (h1 : q.1 ≠ 0 → (if q.1 = 1 then o_At p l e (rm_Tx_same (d + 1)) s m args below meth c Q o_cls D A 10 149 [] (o_cw ad ca u94_rt u94_Sj u94_a0 u94_a2 u94_Rd u94_Pg u94_Pt u94_Mk u94_Lk u94_Ck u94_Jd u94_Ld u94_Pr) [] else o_At p l e (rm_Tx_same (d + 1)) s m args below meth c Q o_cls D A 10 173 [] (o_cw ad ca u94_rt u94_Sj u94_a0 u94_a2 u94_Rd u94_Pg u94_Pt u94_Mk u94_Lk u94_Ck u94_Jd u94_Ld u94_Pr) [])) : o_At p l e (rm_Tx_same (d + 1)) s m args below meth c Q o_cls D A 10 125 [.int y0] (o_cw ad ca u94_rt u94_Sj u94_a0 u94_a2 u94_Rd u94_Pg u94_Pt u94_Mk u94_Lk u94_Ck u94_Jd u94_Ld u94_Pr) [(0, .ref (ad 1)), (1, .int u94_x1), (2, .ref (ad 12)), (3, .int u94_x3), (4, .int u94_x4), (5, .int u94_x5), (6, .int x6), (7, .int x7), (8, .int x8)] := by
  unfold m_Tx_same_j125 at h
  intro H locs ls hP hS hl
  have C0 := C
  obtain ⟨hx, hb, -, -, -, hown, hts, hK, -, -⟩ := C0
  refine lv_istore (lv' := [(9, .int y0), (0, .ref (ad 1)), (1, .int u94_x1), (2, .ref (ad 12)), (3, .int u94_x3), (4, .int u94_x4), (5, .int u94_x5), (6, .int x6), (7, .int x7), (8, .int x8)]) hx hb d_Tx_same_125 hl (by decide) rfl (fun ls hl => ?_)
  refine lv_iload hx hb d_Tx_same_127 (lv_at hl 0 rfl) ?_
  refine lv_iconst (v := (-1:Int32)) hx hb d_Tx_same_129 (by decide) ?_
  refine lv_icmp_eq (tgt := 149) hx hb d_Tx_same_130 (by decide) (fun c8 => ?_) (fun c8 => ?_)
  · replace h := o_tt c8 h
    cases h
    exact h1 (Nat.succ_ne_zero 0) _ _ _ hP hS (lv_sub hl [] rfl)
  · replace h := o_ff c8 h
    refine lv_aload_n hx hb d_Tx_same_133 rfl (lv_at hl 1 rfl) ?_
    refine lv_iload hx hb d_Tx_same_134 (lv_at hl 7 rfl) ?_
    refine lv_aload_n hx hb d_Tx_same_136 rfl (lv_at hl 3 rfl) ?_
    refine lv_iload hx hb d_Tx_same_137 (lv_at hl 0 rfl) ?_
    refine lv_iload hx hb d_Tx_same_139 (lv_at hl 5 rfl) ?_
    refine lv_iconst (v := (1:Int32)) hx hb d_Tx_same_141 (by decide) ?_
    refine lv_iadd hx hb d_Tx_same_142 ?_
    obtain ⟨q9, hq9, h⟩ := o_bd_some h
    refine o_S (st1 := [.int q9]) (w1 := (o_cw ad ca u94_rt u94_Sj u94_a0 u94_a2 u94_Rd u94_Pg u94_Pt u94_Mk u94_Lk u94_Ck u94_Jd u94_Ld u94_Pr)) hE.1 C (hrec x6 y0 (u94_x4 + (1:Int32)) u94_a0 u94_a2 u94_Sj u94_Rd u94_Pg u94_Pt u94_Mk u94_Lk u94_Ck u94_Jd u94_Ld u94_Pr u94_rt _ hq9) hP (hDD _ _ _ _ _ _ _ _ _ _ _ _ _) hS hl.1 k_6_188 k_6_182 k_1_2 k_6_183 hs_Tx_same rfl rfl ⟨(by dsimp only [rm_Tx_same, rm_Tx_same]; omega), (by dsimp only [rm_Tx_same, rm_Tx_same]; omega)⟩ rfl (Nat.le_of_ble_eq_true rfl) ⟨Nat.zero_le _, Nat.zero_le _⟩ rfl d_Tx_same_143 (fun H locs hP hS => ?_)
    refine lv_if_ne (tgt := 151) hx hb d_Tx_same_146 (by decide) (fun c9 => ?_) (fun c9 => ?_)
    · replace h := o_ff c9 h
      refine lv_aload_n hx hb d_Tx_same_151 rfl (lv_at hl 1 rfl) ?_
      refine lv_iload hx hb d_Tx_same_152 (lv_at hl 7 rfl) ?_
      obtain ⟨q10, hq10, h⟩ := o_bd_some h
      refine o_V (st1 := [.int q10]) (w1 := (o_cw ad ca u94_rt u94_Sj u94_a0 u94_a2 u94_Rd u94_Pg u94_Pt u94_Mk u94_Lk u94_Ck u94_Jd u94_Ld u94_Pr)) hE.1 C (c_Tx_nextChild_0 hE l x6 u94_a0 u94_Sj u94_a2 u94_Rd u94_Pg u94_Pt u94_Mk u94_Lk u94_Ck u94_Jd u94_Ld u94_Pr u94_rt hq10) hP (hDD _ _ _ _ _ _ _ _ _ _ _ _ _) hS hl.1 rfl cw_1 k_3_221 k_3_222 k_3_223 k_1_2 k_3_224 hv_Tx_nextChild rfl rfl ⟨(by dsimp only [rm_Tx_same, rm_Tx_nextChild]; omega), (by dsimp only [rm_Tx_same, rm_Tx_nextChild]; omega)⟩ rfl (Nat.le_of_ble_eq_true rfl) ⟨Nat.zero_le _, Nat.zero_le _⟩ rfl d_Tx_same_154 (fun H locs hP hS => ?_)
      refine lv_istore (lv' := [(6, .int q10), (9, .int y0), (0, .ref (ad 1)), (1, .int u94_x1), (2, .ref (ad 12)), (3, .int u94_x3), (4, .int u94_x4), (5, .int u94_x5), (7, .int x7), (8, .int x8)]) hx hb d_Tx_same_157 hl (by decide) rfl (fun ls hl => ?_)
      refine lv_aload_n hx hb d_Tx_same_159 rfl (lv_at hl 4 rfl) ?_
      refine lv_iload hx hb d_Tx_same_160 (lv_at hl 8 rfl) ?_
      obtain ⟨q11, hq11, h⟩ := o_bd_some h
      refine o_V (st1 := [.int q11]) (w1 := (o_cw ad ca u94_rt u94_Sj u94_a0 u94_a2 u94_Rd u94_Pg u94_Pt u94_Mk u94_Lk u94_Ck u94_Jd u94_Ld u94_Pr)) hE.1 C (c_Tx_nextChild_1 hE l x7 u94_a2 u94_Sj u94_a0 u94_Rd u94_Pg u94_Pt u94_Mk u94_Lk u94_Ck u94_Jd u94_Ld u94_Pr u94_rt hq11) hP (hDD _ _ _ _ _ _ _ _ _ _ _ _ _) hS hl.1 rfl cw_12 k_3_221 k_3_222 k_3_223 k_1_2 k_3_224 hv_Tx_nextChild rfl rfl ⟨(by dsimp only [rm_Tx_same, rm_Tx_nextChild]; omega), (by dsimp only [rm_Tx_same, rm_Tx_nextChild]; omega)⟩ rfl (Nat.le_of_ble_eq_true rfl) ⟨Nat.zero_le _, Nat.zero_le _⟩ rfl d_Tx_same_162 (fun H locs hP hS => ?_)
      refine lv_istore (lv' := [(7, .int q11), (6, .int q10), (9, .int y0), (0, .ref (ad 1)), (1, .int u94_x1), (2, .ref (ad 12)), (3, .int u94_x3), (4, .int u94_x4), (5, .int u94_x5), (8, .int x8)]) hx hb d_Tx_same_165 hl (by decide) rfl (fun ls hl => ?_)
      obtain ⟨x8_167, ex8_167⟩ : ∃ y : Int32, y = x8 + (1:Int32) := ⟨_, rfl⟩
      replace h := o_nm_at ex8_167 h
      refine lv_iinc (v := x8_167) (lv' := [(8, .int x8_167), (7, .int q11), (6, .int q10), (9, .int y0), (0, .ref (ad 1)), (1, .int u94_x1), (2, .ref (ad 12)), (3, .int u94_x3), (4, .int u94_x4), (5, .int u94_x5)]) hx hb d_Tx_same_167 hl (k := 9) rfl (by rw [ex8_167]; rfl) (by decide) rfl (fun ls hl => ?_)
      refine lv_goto (tgt := 94) hx hb d_Tx_same_170 (by decide) ?_
      cases h
      exact h0 rfl _ _ _ hP hS (lv_sub hl [4, 5, 6, 7, 8, 9, 2, 1, 0] rfl)
    · replace h := o_tt c9 h
      cases h
      exact h1 (Nat.succ_ne_zero 0) _ _ _ hP hS (lv_sub hl [] rfl)
set_option maxHeartbeats 4000000 in
set_option maxRecDepth 100000 in
theorem w_Tx_same_b94_01 {E : (Nat → Prop) → State → Heap → Prop} {p : Program} {l : Launch} {e : Env} {s : State} {m : MethodId} {args : Array Value} {below : List Frame} {meth : Method} {c : Code} {D : va_G} {ad kd sd : Nat → Nat} {ca : Nat → ClassId} {A : Nat → Prop} {Q : State → Prop} (hE : o_EK E kd sd) (C : o_Cx E p s m args meth c D o_cls (o_tys ca) "SchemaJudge$Text" b_Tx_same (some .boolean) 10 cc_Tx_same A) (hDD : ∀ (rt : Nat) (Sj : SSJ) (T0 : STx) (T1 : STx) (Rd : SRd) (Pg : SPg) (Pt : SPt) (Mk : SMk) (Lk : SLk) (Ck : SCk) (Jd : SJd) (Ld : SLd) (Pr : SPr), va_D A (o_cw ad ca rt Sj T0 T1 Rd Pg Pt Mk Lk Ck Jd Ld Pr)) (d : Nat) (rec : Int32 → Int32 → Int32 → STx → STx → Option (Int32)) (hrec : ∀ (x1 : Int32) (x3 : Int32) (x4 : Int32) (a0 : STx) (a2 : STx) (Sj : SSJ) (Rd : SRd) (Pg : SPg) (Pt : SPt) (Mk : SMk) (Lk : SLk) (Ck : SCk) (Jd : SJd) (Ld : SLd) (Pr : SPr) (rt : Nat) (r : Int32), rec x1 x3 x4 a0 a2 = some r → o_Cn E l D o_cls (o_tys ca) y_Tx_same cc_Tx_same (rm_Tx_same d) [.ref (ad 1), .int x1, .ref (ad 12), .int x3, .int x4] (o_cw ad ca rt Sj a0 a2 Rd Pg Pt Mk Lk Ck Jd Ld Pr) (o_cw ad ca rt Sj a0 a2 Rd Pg Pt Mk Lk Ck Jd Ld Pr) (some (.int r))) (n : Nat) (u94_x1 : Int32) (u94_x3 : Int32) (u94_x4 : Int32) (u94_x5 : Int32) (u94_a0 : STx) (u94_a2 : STx) (u94_Sj : SSJ) (u94_Rd : SRd) (u94_Pg : SPg) (u94_Pt : SPt) (u94_Mk : SMk) (u94_Lk : SLk) (u94_Ck : SCk) (u94_Jd : SJd) (u94_Ld : SLd) (u94_Pr : SPr) (u94_rt : Nat) (z : Int32 × Int32 × Int32) (q : Nat × Int32 × Int32 × Int32) (h : m_Tx_same_b94 n rec u94_x1 u94_x3 u94_x4 u94_x5 u94_a0 u94_a2 z = some q) (h0 : q.1 = 0 → o_At p l e (rm_Tx_same (d + 1)) s m args below meth c Q o_cls D A 10 94 [] (o_cw ad ca u94_rt u94_Sj u94_a0 u94_a2 u94_Rd u94_Pg u94_Pt u94_Mk u94_Lk u94_Ck u94_Jd u94_Ld u94_Pr) [(0, .ref (ad 1)), (1, .int u94_x1), (2, .ref (ad 12)), (3, .int u94_x3), (4, .int u94_x4), (5, .int u94_x5), (6, .int q.2.1), (7, .int q.2.2.1), (8, .int q.2.2.2)]) (h1 : q.1 ≠ 0 → (if q.1 = 1 then o_At p l e (rm_Tx_same (d + 1)) s m args below meth c Q o_cls D A 10 149 [] (o_cw ad ca u94_rt u94_Sj u94_a0 u94_a2 u94_Rd u94_Pg u94_Pt u94_Mk u94_Lk u94_Ck u94_Jd u94_Ld u94_Pr) [] else o_At p l e (rm_Tx_same (d + 1)) s m args below meth c Q o_cls D A 10 173 [] (o_cw ad ca u94_rt u94_Sj u94_a0 u94_a2 u94_Rd u94_Pg u94_Pt u94_Mk u94_Lk u94_Ck u94_Jd u94_Ld u94_Pr) [])) : o_At p l e (rm_Tx_same (d + 1)) s m args below meth c Q o_cls D A 10 94 [] (o_cw ad ca u94_rt u94_Sj u94_a0 u94_a2 u94_Rd u94_Pg u94_Pt u94_Mk u94_Lk u94_Ck u94_Jd u94_Ld u94_Pr) [(0, .ref (ad 1)), (1, .int u94_x1), (2, .ref (ad 12)), (3, .int u94_x3), (4, .int u94_x4), (5, .int u94_x5), (6, .int z.1), (7, .int z.2.1), (8, .int z.2.2)] := by
  unfold m_Tx_same_b94 at h
  intro H locs ls hP hS hl
  have C0 := C
  obtain ⟨hx, hb, -, -, -, hown, hts, hK, -, -⟩ := C0
  refine lv_iload hx hb d_Tx_same_94 (lv_at hl 8 rfl) ?_
  refine lv_aload_n hx hb d_Tx_same_96 rfl (lv_at hl 0 rfl) ?_
  refine lv_iload_n hx hb d_Tx_same_97 rfl (lv_at hl 1 rfl) ?_
  obtain ⟨q7, hq7, h⟩ := o_bd_some h
  refine o_V (st1 := [.int q7, .int z.2.2]) (w1 := (o_cw ad ca u94_rt u94_Sj u94_a0 u94_a2 u94_Rd u94_Pg u94_Pt u94_Mk u94_Lk u94_Ck u94_Jd u94_Ld u94_Pr)) hE.1 C (c_Tx_size_0 hE l u94_x1 u94_a0 u94_Sj u94_a2 u94_Rd u94_Pg u94_Pt u94_Mk u94_Lk u94_Ck u94_Jd u94_Ld u94_Pr u94_rt hq7) hP (hDD _ _ _ _ _ _ _ _ _ _ _ _ _) hS hl.1 rfl cw_1 k_3_214 k_3_215 k_3_216 k_1_2 k_3_217 hv_Tx_size rfl rfl ⟨(by dsimp only [rm_Tx_same, rm_Tx_size]; omega), (by dsimp only [rm_Tx_same, rm_Tx_size]; omega)⟩ rfl (Nat.le_of_ble_eq_true rfl) ⟨Nat.zero_le _, Nat.zero_le _⟩ rfl d_Tx_same_98 (fun H locs hP hS => ?_)
  refine lv_icmp_ge (tgt := 173) hx hb d_Tx_same_101 (by decide) (fun c6 => ?_) (fun c6 => ?_)
  · replace h := o_tt c6 h
    cases h
    exact h1 (Nat.succ_ne_zero 1) _ _ _ hP hS (lv_sub hl [] rfl)
  · replace h := o_ff c6 h
    refine lv_iload hx hb d_Tx_same_104 (lv_at hl 5 rfl) ?_
    refine lv_iconst (v := (5:Int32)) hx hb d_Tx_same_106 (by decide) ?_
    refine lv_icmp_ne (tgt := 115) hx hb d_Tx_same_107 (by decide) (fun c7 => ?_) (fun c7 => ?_)
    · replace h := o_ff c7 h
      refine lv_aload_n hx hb d_Tx_same_115 rfl (lv_at hl 2 rfl) ?_
      refine lv_iload_n hx hb d_Tx_same_116 rfl (lv_at hl 3 rfl) ?_
      refine lv_aload_n hx hb d_Tx_same_117 rfl (lv_at hl 0 rfl) ?_
      refine lv_iload hx hb d_Tx_same_118 (lv_at hl 6 rfl) ?_
      refine lv_iconst (v := (1:Int32)) hx hb d_Tx_same_120 (by decide) ?_
      refine lv_isub hx hb d_Tx_same_121 ?_
      obtain ⟨q8, hq8, h⟩ := o_bd_some h
      refine o_V (st1 := [.int q8]) (w1 := (o_cw ad ca u94_rt u94_Sj u94_a0 u94_a2 u94_Rd u94_Pg u94_Pt u94_Mk u94_Lk u94_Ck u94_Jd u94_Ld u94_Pr)) hE.1 C (c_Tx_member_10 hE l n u94_x3 (z.1 - (1:Int32)) u94_a2 u94_a0 u94_Sj u94_Rd u94_Pg u94_Pt u94_Mk u94_Lk u94_Ck u94_Jd u94_Ld u94_Pr u94_rt hq8) hP (hDD _ _ _ _ _ _ _ _ _ _ _ _ _) hS hl.1 rfl cw_12 k_6_187 k_3_207 k_3_208 k_1_2 k_3_209 hv_Tx_member rfl rfl ⟨(by dsimp only [rm_Tx_same, rm_Tx_member]; omega), (by dsimp only [rm_Tx_same, rm_Tx_member]; omega)⟩ rfl (Nat.le_of_ble_eq_true rfl) ⟨Nat.zero_le _, Nat.zero_le _⟩ rfl d_Tx_same_122 (fun H locs hP hS => ?_)
      exact w_Tx_same_j125_01 hE C hDD d rec hrec n u94_x1 u94_x3 u94_x4 u94_x5 u94_a0 u94_a2 u94_Sj u94_Rd u94_Pg u94_Pt u94_Mk u94_Lk u94_Ck u94_Jd u94_Ld u94_Pr u94_rt z.1 z.2.1 z.2.2 q8 h h0 h1 _ _ _ hP hS (lv_sub hl [0, 1, 2, 3, 4, 5, 6, 7, 8] rfl)
    · replace h := o_tt c7 h
      refine lv_iload hx hb d_Tx_same_110 (lv_at hl 7 rfl) ?_
      refine lv_goto (tgt := 125) hx hb d_Tx_same_112 (by decide) ?_
      exact w_Tx_same_j125_01 hE C hDD d rec hrec n u94_x1 u94_x3 u94_x4 u94_x5 u94_a0 u94_a2 u94_Sj u94_Rd u94_Pg u94_Pt u94_Mk u94_Lk u94_Ck u94_Jd u94_Ld u94_Pr u94_rt z.1 z.2.1 z.2.2 z.2.1 h h0 h1 _ _ _ hP hS (lv_sub hl [0, 1, 2, 3, 4, 5, 6, 7, 8] rfl)
set_option maxHeartbeats 4000000 in
set_option maxRecDepth 100000 in
theorem c_Tx_same_01_F {E : (Nat → Prop) → State → Heap → Prop} {D : va_G} {ad kd sd : Nat → Nat} {ca : Nat → ClassId} (hE : o_EK E kd sd) (l : Launch) (n : Nat) (d : Nat) (rec : Int32 → Int32 → Int32 → STx → STx → Option (Int32)) (hrec : ∀ (x1 : Int32) (x3 : Int32) (x4 : Int32) (a0 : STx) (a2 : STx) (Sj : SSJ) (Rd : SRd) (Pg : SPg) (Pt : SPt) (Mk : SMk) (Lk : SLk) (Ck : SCk) (Jd : SJd) (Ld : SLd) (Pr : SPr) (rt : Nat) (r : Int32), rec x1 x3 x4 a0 a2 = some r → o_Cn E l D o_cls (o_tys ca) y_Tx_same cc_Tx_same (rm_Tx_same d) [.ref (ad 1), .int x1, .ref (ad 12), .int x3, .int x4] (o_cw ad ca rt Sj a0 a2 Rd Pg Pt Mk Lk Ck Jd Ld Pr) (o_cw ad ca rt Sj a0 a2 Rd Pg Pt Mk Lk Ck Jd Ld Pr) (some (.int r))) (x1 : Int32) (x3 : Int32) (x4 : Int32) (a0 : STx) (a2 : STx) (Sj : SSJ) (Rd : SRd) (Pg : SPg) (Pt : SPt) (Mk : SMk) (Lk : SLk) (Ck : SCk) (Jd : SJd) (Ld : SLd) (Pr : SPr) (rt : Nat) {r : Int32} (h : m_Tx_same_F n rec x1 x3 x4 a0 a2 = some r) : o_Cn E l D o_cls (o_tys ca) y_Tx_same cc_Tx_same (rm_Tx_same (d + 1)) [.ref (ad 1), .int x1, .ref (ad 12), .int x3, .int x4] (o_cw ad ca rt Sj a0 a2 Rd Pg Pt Mk Lk Ck Jd Ld Pr) (o_cw ad ca rt Sj a0 a2 Rd Pg Pt Mk Lk Ck Jd Ld Pr) (some (.int r)) := by
  refine o_Cn_of (by decide) (Nat.le_of_ble_eq_true rfl) ?_
  intro p e s m below meth c A ls C hD hP hS hl
  have hDD : ∀ (rt : Nat) (Sj : SSJ) (T0 : STx) (T1 : STx) (Rd : SRd) (Pg : SPg) (Pt : SPt) (Mk : SMk) (Lk : SLk) (Ck : SCk) (Jd : SJd) (Ld : SLd) (Pr : SPr), va_D A (o_cw ad ca rt Sj T0 T1 Rd Pg Pt Mk Lk Ck Jd Ld Pr) := fun _ _ _ _ _ _ _ _ _ _ _ _ _ => o_D_map hD rfl
  have hl : lv_has ls 10 [(0, .ref (ad 1)), (1, .int x1), (2, .ref (ad 12)), (3, .int x3), (4, .int x4)] := hl
  unfold m_Tx_same_F at h
  have C0 := C
  obtain ⟨hx, hb, -, -, -, hown, hts, hK, -, -⟩ := C0
  refine lv_aload_n hx hb d_Tx_same_0 rfl (lv_at hl 0 rfl) ?_
  refine lv_iload_n hx hb d_Tx_same_1 rfl (lv_at hl 1 rfl) ?_
  obtain ⟨q1, hq1, h⟩ := o_bd_some h
  refine o_V (st1 := [.int q1]) (w1 := (o_cw ad ca rt Sj a0 a2 Rd Pg Pt Mk Lk Ck Jd Ld Pr)) hE.1 C (c_Tx_kind_0 hE l x1 a0 Sj a2 Rd Pg Pt Mk Lk Ck Jd Ld Pr rt hq1) hP (hDD _ _ _ _ _ _ _ _ _ _ _ _ _) hS hl.1 rfl cw_1 k_5_64 k_4_50 k_4_51 k_1_2 k_4_52 hv_Tx_kind rfl rfl ⟨(by dsimp only [rm_Tx_same, rm_Tx_kind]; omega), (by dsimp only [rm_Tx_same, rm_Tx_kind]; omega)⟩ rfl (Nat.le_of_ble_eq_true rfl) ⟨Nat.zero_le _, Nat.zero_le _⟩ rfl d_Tx_same_2 (fun H locs hP hS => ?_)
  refine lv_istore (lv' := [(5, .int q1), (0, .ref (ad 1)), (1, .int x1), (2, .ref (ad 12)), (3, .int x3), (4, .int x4)]) hx hb d_Tx_same_5 hl (by decide) rfl (fun ls hl => ?_)
  refine lv_iload hx hb d_Tx_same_7 (lv_at hl 0 rfl) ?_
  refine lv_aload_n hx hb d_Tx_same_9 rfl (lv_at hl 3 rfl) ?_
  refine lv_iload_n hx hb d_Tx_same_10 rfl (lv_at hl 4 rfl) ?_
  obtain ⟨q2, hq2, h⟩ := o_bd_some h
  refine o_V (st1 := [.int q2, .int q1]) (w1 := (o_cw ad ca rt Sj a0 a2 Rd Pg Pt Mk Lk Ck Jd Ld Pr)) hE.1 C (c_Tx_kind_1 hE l x3 a2 Sj a0 Rd Pg Pt Mk Lk Ck Jd Ld Pr rt hq2) hP (hDD _ _ _ _ _ _ _ _ _ _ _ _ _) hS hl.1 rfl cw_12 k_5_64 k_4_50 k_4_51 k_1_2 k_4_52 hv_Tx_kind rfl rfl ⟨(by dsimp only [rm_Tx_same, rm_Tx_kind]; omega), (by dsimp only [rm_Tx_same, rm_Tx_kind]; omega)⟩ rfl (Nat.le_of_ble_eq_true rfl) ⟨Nat.zero_le _, Nat.zero_le _⟩ rfl d_Tx_same_11 (fun H locs hP hS => ?_)
  refine lv_icmp_ne (tgt := 24) hx hb d_Tx_same_14 (by decide) (fun c1 => ?_) (fun c1 => ?_)
  · replace h := o_ff c1 h
    refine lv_iconst (v := (0:Int32)) hx hb d_Tx_same_24 (by decide) ?_
    cases h
    exact o_rz (v := (0:Int32)) C o_nar0 hP hS d_Tx_same_25
  · replace h := o_tt c1 h
    refine lv_iload hx hb d_Tx_same_17 (lv_at hl 5 rfl) ?_
    refine lv_bipush (v := (40:Int32)) hx hb d_Tx_same_19 (by decide) ?_
    refine lv_icmp_le (tgt := 26) hx hb d_Tx_same_21 (by decide) (fun c2 => ?_) (fun c2 => ?_)
    · replace h := o_tt c2 h
      refine lv_iload hx hb d_Tx_same_26 (lv_at hl 0 rfl) ?_
      refine lv_iconst (v := (3:Int32)) hx hb d_Tx_same_28 (by decide) ?_
      refine lv_icmp_ne (tgt := 48) hx hb d_Tx_same_29 (by decide) (fun c3 => ?_) (fun c3 => ?_)
      · replace h := o_ff c3 h
        refine lv_iload hx hb d_Tx_same_48 (lv_at hl 0 rfl) ?_
        refine lv_iconst (v := (4:Int32)) hx hb d_Tx_same_50 (by decide) ?_
        refine lv_icmp_ne (tgt := 62) hx hb d_Tx_same_51 (by decide) (fun c4 => ?_) (fun c4 => ?_)
        · replace h := o_ff c4 h
          refine lv_aload_n hx hb d_Tx_same_62 rfl (lv_at hl 1 rfl) ?_
          refine lv_iload_n hx hb d_Tx_same_63 rfl (lv_at hl 2 rfl) ?_
          obtain ⟨q3, hq3, h⟩ := o_bd_some h
          refine o_V (st1 := [.int q3]) (w1 := (o_cw ad ca rt Sj a0 a2 Rd Pg Pt Mk Lk Ck Jd Ld Pr)) hE.1 C (c_Tx_size_0 hE l x1 a0 Sj a2 Rd Pg Pt Mk Lk Ck Jd Ld Pr rt hq3) hP (hDD _ _ _ _ _ _ _ _ _ _ _ _ _) hS hl.1 rfl cw_1 k_3_214 k_3_215 k_3_216 k_1_2 k_3_217 hv_Tx_size rfl rfl ⟨(by dsimp only [rm_Tx_same, rm_Tx_size]; omega), (by dsimp only [rm_Tx_same, rm_Tx_size]; omega)⟩ rfl (Nat.le_of_ble_eq_true rfl) ⟨Nat.zero_le _, Nat.zero_le _⟩ rfl d_Tx_same_64 (fun H locs hP hS => ?_)
          refine lv_aload_n hx hb d_Tx_same_67 rfl (lv_at hl 3 rfl) ?_
          refine lv_iload_n hx hb d_Tx_same_68 rfl (lv_at hl 4 rfl) ?_
          obtain ⟨q4, hq4, h⟩ := o_bd_some h
          refine o_V (st1 := [.int q4, .int q3]) (w1 := (o_cw ad ca rt Sj a0 a2 Rd Pg Pt Mk Lk Ck Jd Ld Pr)) hE.1 C (c_Tx_size_1 hE l x3 a2 Sj a0 Rd Pg Pt Mk Lk Ck Jd Ld Pr rt hq4) hP (hDD _ _ _ _ _ _ _ _ _ _ _ _ _) hS hl.1 rfl cw_12 k_3_214 k_3_215 k_3_216 k_1_2 k_3_217 hv_Tx_size rfl rfl ⟨(by dsimp only [rm_Tx_same, rm_Tx_size]; omega), (by dsimp only [rm_Tx_same, rm_Tx_size]; omega)⟩ rfl (Nat.le_of_ble_eq_true rfl) ⟨Nat.zero_le _, Nat.zero_le _⟩ rfl d_Tx_same_69 (fun H locs hP hS => ?_)
          refine lv_icmp_eq (tgt := 77) hx hb d_Tx_same_72 (by decide) (fun c5 => ?_) (fun c5 => ?_)
          · replace h := o_tt c5 h
            refine lv_aload_n hx hb d_Tx_same_77 rfl (lv_at hl 1 rfl) ?_
            refine lv_iload_n hx hb d_Tx_same_78 rfl (lv_at hl 2 rfl) ?_
            obtain ⟨q5, hq5, h⟩ := o_bd_some h
            refine o_V (st1 := [.int q5]) (w1 := (o_cw ad ca rt Sj a0 a2 Rd Pg Pt Mk Lk Ck Jd Ld Pr)) hE.1 C (c_Tx_firstChild_0 hE l x1 a0 Sj a2 Rd Pg Pt Mk Lk Ck Jd Ld Pr rt hq5) hP (hDD _ _ _ _ _ _ _ _ _ _ _ _ _) hS hl.1 rfl cw_1 k_3_210 k_3_211 k_3_212 k_1_2 k_3_213 hv_Tx_firstChild rfl rfl ⟨(by dsimp only [rm_Tx_same, rm_Tx_firstChild]; omega), (by dsimp only [rm_Tx_same, rm_Tx_firstChild]; omega)⟩ rfl (Nat.le_of_ble_eq_true rfl) ⟨Nat.zero_le _, Nat.zero_le _⟩ rfl d_Tx_same_79 (fun H locs hP hS => ?_)
            refine lv_istore (lv' := [(6, .int q5), (5, .int q1), (0, .ref (ad 1)), (1, .int x1), (2, .ref (ad 12)), (3, .int x3), (4, .int x4)]) hx hb d_Tx_same_82 hl (by decide) rfl (fun ls hl => ?_)
            refine lv_aload_n hx hb d_Tx_same_84 rfl (lv_at hl 4 rfl) ?_
            refine lv_iload_n hx hb d_Tx_same_85 rfl (lv_at hl 5 rfl) ?_
            obtain ⟨q6, hq6, h⟩ := o_bd_some h
            refine o_V (st1 := [.int q6]) (w1 := (o_cw ad ca rt Sj a0 a2 Rd Pg Pt Mk Lk Ck Jd Ld Pr)) hE.1 C (c_Tx_firstChild_1 hE l x3 a2 Sj a0 Rd Pg Pt Mk Lk Ck Jd Ld Pr rt hq6) hP (hDD _ _ _ _ _ _ _ _ _ _ _ _ _) hS hl.1 rfl cw_12 k_3_210 k_3_211 k_3_212 k_1_2 k_3_213 hv_Tx_firstChild rfl rfl ⟨(by dsimp only [rm_Tx_same, rm_Tx_firstChild]; omega), (by dsimp only [rm_Tx_same, rm_Tx_firstChild]; omega)⟩ rfl (Nat.le_of_ble_eq_true rfl) ⟨Nat.zero_le _, Nat.zero_le _⟩ rfl d_Tx_same_86 (fun H locs hP hS => ?_)
            refine lv_istore (lv' := [(7, .int q6), (6, .int q5), (5, .int q1), (0, .ref (ad 1)), (1, .int x1), (2, .ref (ad 12)), (3, .int x3), (4, .int x4)]) hx hb d_Tx_same_89 hl (by decide) rfl (fun ls hl => ?_)
            refine lv_iconst (v := (0:Int32)) hx hb d_Tx_same_91 (by decide) ?_
            refine lv_istore (lv' := [(8, .int (0:Int32)), (7, .int q6), (6, .int q5), (5, .int q1), (0, .ref (ad 1)), (1, .int x1), (2, .ref (ad 12)), (3, .int x3), (4, .int x4)]) hx hb d_Tx_same_92 hl (by decide) rfl (fun ls hl => ?_)
            obtain ⟨q12, hq12, h⟩ := o_bd_some h
            refine o_sim2 (AH := fun zz => o_At p l e (rm_Tx_same (d + 1)) s m _ below meth c _ o_cls D A 10 94 [] (o_cw ad ca rt Sj a0 a2 Rd Pg Pt Mk Lk Ck Jd Ld Pr) [(0, .ref (ad 1)), (1, .int x1), (2, .ref (ad 12)), (3, .int x3), (4, .int x4), (5, .int q1), (6, .int zz.1), (7, .int zz.2.1), (8, .int zz.2.2)]) (AX := fun qq => if qq.1 = 1 then o_At p l e (rm_Tx_same (d + 1)) s m _ below meth c _ o_cls D A 10 149 [] (o_cw ad ca rt Sj a0 a2 Rd Pg Pt Mk Lk Ck Jd Ld Pr) [] else o_At p l e (rm_Tx_same (d + 1)) s m _ below meth c _ o_cls D A 10 173 [] (o_cw ad ca rt Sj a0 a2 Rd Pg Pt Mk Lk Ck Jd Ld Pr) []) (fun zz qq h h0 h1 => w_Tx_same_b94_01 hE C hDD d rec hrec n x1 x3 x4 q1 a0 a2 Sj Rd Pg Pt Mk Lk Ck Jd Ld Pr rt zz qq h h0 h1) n _ q12 hq12 ?_ _ _ _ hP hS (lv_sub hl [4, 5, 6, 7, 8, 3, 2, 1, 0] rfl)
            by_cases c10 : q12.1 = 1
            · replace h := o_tt c10 h
              refine o_ip c10 ?_
              intro H locs ls hP hS hl
              refine lv_iconst (v := (0:Int32)) hx hb d_Tx_same_149 (by decide) ?_
              cases h
              exact o_rz (v := (0:Int32)) C o_nar0 hP hS d_Tx_same_150
            replace h := o_ff c10 h
            refine o_in_ c10 ?_
            intro H locs ls hP hS hl
            refine lv_iconst (v := (1:Int32)) hx hb d_Tx_same_173 (by decide) ?_
            cases h
            exact o_rz (v := (1:Int32)) C o_nar1 hP hS d_Tx_same_174
          · replace h := o_ff c5 h
            refine lv_iconst (v := (0:Int32)) hx hb d_Tx_same_75 (by decide) ?_
            cases h
            exact o_rz (v := (0:Int32)) C o_nar0 hP hS d_Tx_same_76
        · replace h := o_tt c4 h
          refine lv_aload_n hx hb d_Tx_same_54 rfl (lv_at hl 1 rfl) ?_
          refine lv_iload_n hx hb d_Tx_same_55 rfl (lv_at hl 2 rfl) ?_
          refine lv_aload_n hx hb d_Tx_same_56 rfl (lv_at hl 3 rfl) ?_
          refine lv_iload_n hx hb d_Tx_same_57 rfl (lv_at hl 4 rfl) ?_
          obtain ⟨q13, hq13, h⟩ := o_bd_some h
          refine o_S (st1 := [.int q13]) (w1 := (o_cw ad ca rt Sj a0 a2 Rd Pg Pt Mk Lk Ck Jd Ld Pr)) hE.1 C (c_Tx_sameString_01 hE l n x1 x3 a0 a2 Sj Rd Pg Pt Mk Lk Ck Jd Ld Pr rt hq13) hP (hDD _ _ _ _ _ _ _ _ _ _ _ _ _) hS hl.1 k_3_218 k_3_219 k_1_2 k_3_220 hs_Tx_sameString rfl rfl ⟨(by dsimp only [rm_Tx_same, rm_Tx_sameString]; omega), (by dsimp only [rm_Tx_same, rm_Tx_sameString]; omega)⟩ rfl (Nat.le_of_ble_eq_true rfl) ⟨Nat.zero_le _, Nat.zero_le _⟩ rfl d_Tx_same_58 (fun H locs hP hS => ?_)
          obtain ⟨g11, h⟩ := o_gd_some h
          cases h
          exact o_rz C (o_zb_nar g11) hP hS d_Tx_same_61
      · replace h := o_tt c3 h
        refine lv_aload_n hx hb d_Tx_same_32 rfl (lv_at hl 1 rfl) ?_
        refine lv_iload_n hx hb d_Tx_same_33 rfl (lv_at hl 2 rfl) ?_
        refine lv_aload_n hx hb d_Tx_same_34 rfl (lv_at hl 3 rfl) ?_
        refine lv_iload_n hx hb d_Tx_same_35 rfl (lv_at hl 4 rfl) ?_
        obtain ⟨q14, hq14, h⟩ := o_bd_some h
        refine o_S (st1 := [.int q14]) (w1 := (o_cw ad ca rt Sj a0 a2 Rd Pg Pt Mk Lk Ck Jd Ld Pr)) hE.1 C (c_Tx_compare_01 hE l n x1 x3 a0 a2 Sj Rd Pg Pt Mk Lk Ck Jd Ld Pr rt hq14) hP (hDD _ _ _ _ _ _ _ _ _ _ _ _ _) hS hl.1 k_6_184 k_6_185 k_1_2 k_6_186 hs_Tx_compare rfl rfl ⟨(by dsimp only [rm_Tx_same, rm_Tx_compare]; omega), (by dsimp only [rm_Tx_same, rm_Tx_compare]; omega)⟩ rfl (Nat.le_of_ble_eq_true rfl) ⟨Nat.zero_le _, Nat.zero_le _⟩ rfl d_Tx_same_36 (fun H locs hP hS => ?_)
        refine lv_if_ne (tgt := 46) hx hb d_Tx_same_39 (by decide) (fun c12 => ?_) (fun c12 => ?_)
        · replace h := o_ff c12 h
          refine lv_iconst (v := (0:Int32)) hx hb d_Tx_same_46 (by decide) ?_
          cases h
          exact o_rz (v := (0:Int32)) C o_nar0 hP hS d_Tx_same_47
        · replace h := o_tt c12 h
          refine lv_iconst (v := (1:Int32)) hx hb d_Tx_same_42 (by decide) ?_
          refine lv_goto (tgt := 47) hx hb d_Tx_same_43 (by decide) ?_
          cases h
          exact o_rz (v := (1:Int32)) C o_nar1 hP hS d_Tx_same_47
    · replace h := o_ff c2 h
      refine lv_iconst (v := (0:Int32)) hx hb d_Tx_same_24 (by decide) ?_
      cases h
      exact o_rz (v := (0:Int32)) C o_nar0 hP hS d_Tx_same_25
set_option maxHeartbeats 4000000 in
set_option maxRecDepth 100000 in
theorem c_Tx_same_01 {E : (Nat → Prop) → State → Heap → Prop} {D : va_G} {ad kd sd : Nat → Nat} {ca : Nat → ClassId} (hE : o_EK E kd sd) (l : Launch) (n : Nat) (d : Nat) (x1 : Int32) (x3 : Int32) (x4 : Int32) (a0 : STx) (a2 : STx) (Sj : SSJ) (Rd : SRd) (Pg : SPg) (Pt : SPt) (Mk : SMk) (Lk : SLk) (Ck : SCk) (Jd : SJd) (Ld : SLd) (Pr : SPr) (rt : Nat) {r : Int32} (h : m_Tx_same n d x1 x3 x4 a0 a2 = some r) : o_Cn E l D o_cls (o_tys ca) y_Tx_same cc_Tx_same (rm_Tx_same d) [.ref (ad 1), .int x1, .ref (ad 12), .int x3, .int x4] (o_cw ad ca rt Sj a0 a2 Rd Pg Pt Mk Lk Ck Jd Ld Pr) (o_cw ad ca rt Sj a0 a2 Rd Pg Pt Mk Lk Ck Jd Ld Pr) (some (.int r)) := by
  induction d generalizing x1 x3 x4 a0 a2 Sj Rd Pg Pt Mk Lk Ck Jd Ld Pr rt r with
  | zero => cases h
  | succ d ih =>
    exact c_Tx_same_01_F hE l n d (m_Tx_same n d) (fun x1 x3 x4 a0 a2 Sj Rd Pg Pt Mk Lk Ck Jd Ld Pr rt r h => ih x1 x3 x4 a0 a2 Sj Rd Pg Pt Mk Lk Ck Jd Ld Pr rt h) _ _ _ _ _ _ _ _ _ _ _ _ _ _ _ _ h
set_option maxHeartbeats 4000000 in
set_option maxRecDepth 100000 in
theorem w_Jd_isOneOf_b12 {E : (Nat → Prop) → State → Heap → Prop} {p : Program} {l : Launch} {e : Env} {s : State} {m : MethodId} {args : Array Value} {below : List Frame} {meth : Method} {c : Code} {D : va_G} {ad kd sd : Nat → Nat} {ca : Nat → ClassId} {A : Nat → Prop} {Q : State → Prop} (hE : o_EK E kd sd) (C : o_Cx E p s m args meth c D o_cls (o_tys ca) "SchemaJudge$Judge" b_Jd_isOneOf (some .boolean) 5 cc_Jd_isOneOf A) (hDD : ∀ (rt : Nat) (Sj : SSJ) (T0 : STx) (T1 : STx) (Rd : SRd) (Pg : SPg) (Pt : SPt) (Mk : SMk) (Lk : SLk) (Ck : SCk) (Jd : SJd) (Ld : SLd) (Pr : SPr), va_D A (o_cw ad ca rt Sj T0 T1 Rd Pg Pt Mk Lk Ck Jd Ld Pr)) (n : Nat) (u12_x1 : Int32) (u12_x2 : Int32) (u12_T0 : STx) (u12_T1 : STx) (u12_Sj : SSJ) (u12_Rd : SRd) (u12_Pg : SPg) (u12_Pt : SPt) (u12_Mk : SMk) (u12_Lk : SLk) (u12_Ck : SCk) (u12_Jd : SJd) (u12_Ld : SLd) (u12_Pr : SPr) (u12_rt : Nat) (z : Int32 × Int32) (q : Nat × Int32 × Int32) (h : m_Jd_isOneOf_b12 n u12_x1 u12_x2 u12_T0 u12_T1 z = some q) (h0 : q.1 = 0 → o_At p l e rm_Jd_isOneOf s m args below meth c Q o_cls D A 5 12 [] (o_cw ad ca u12_rt u12_Sj u12_T0 u12_T1 u12_Rd u12_Pg u12_Pt u12_Mk u12_Lk u12_Ck u12_Jd u12_Ld u12_Pr) [(0, .ref (ad 49)), (1, .int u12_x1), (2, .int u12_x2), (3, .int q.2.1), (4, .int q.2.2)]) (h1 : q.1 ≠ 0 → (if q.1 = 1 then o_At p l e rm_Jd_isOneOf s m args below meth c Q o_cls D A 5 42 [] (o_cw ad ca u12_rt u12_Sj u12_T0 u12_T1 u12_Rd u12_Pg u12_Pt u12_Mk u12_Lk u12_Ck u12_Jd u12_Ld u12_Pr) [] else o_At p l e rm_Jd_isOneOf s m args below meth c Q o_cls D A 5 59 [] (o_cw ad ca u12_rt u12_Sj u12_T0 u12_T1 u12_Rd u12_Pg u12_Pt u12_Mk u12_Lk u12_Ck u12_Jd u12_Ld u12_Pr) [])) : o_At p l e rm_Jd_isOneOf s m args below meth c Q o_cls D A 5 12 [] (o_cw ad ca u12_rt u12_Sj u12_T0 u12_T1 u12_Rd u12_Pg u12_Pt u12_Mk u12_Lk u12_Ck u12_Jd u12_Ld u12_Pr) [(0, .ref (ad 49)), (1, .int u12_x1), (2, .int u12_x2), (3, .int z.1), (4, .int z.2)] := by
  unfold m_Jd_isOneOf_b12 at h
  intro H locs ls hP hS hl
  have C0 := C
  obtain ⟨hx, hb, -, -, -, hown, hts, hK, -, -⟩ := C0
  refine lv_iload hx hb d_Jd_isOneOf_12 (lv_at hl 4 rfl) ?_
  refine lv_aload_n hx hb d_Jd_isOneOf_14 rfl (lv_at hl 0 rfl) ?_
  refine o_get (v := .ref (ad 1)) C in_Jd hP 49 cw_49 rfl 0 (by decide) k_2_74 rfl rfl d_Jd_isOneOf_15 ?_
  refine lv_iload_n hx hb d_Jd_isOneOf_18 rfl (lv_at hl 1 rfl) ?_
  obtain ⟨q2, hq2, h⟩ := o_bd_some h
  refine o_V (st1 := [.int q2, .int z.2]) (w1 := (o_cw ad ca u12_rt u12_Sj u12_T0 u12_T1 u12_Rd u12_Pg u12_Pt u12_Mk u12_Lk u12_Ck u12_Jd u12_Ld u12_Pr)) hE.1 C (c_Tx_size_0 hE l u12_x1 u12_T0 u12_Sj u12_T1 u12_Rd u12_Pg u12_Pt u12_Mk u12_Lk u12_Ck u12_Jd u12_Ld u12_Pr u12_rt hq2) hP (hDD _ _ _ _ _ _ _ _ _ _ _ _ _) hS hl.1 rfl cw_1 k_6_26 k_3_215 k_3_216 k_1_2 k_3_217 hv_Tx_size rfl rfl ⟨(Nat.le_of_ble_eq_true rfl), (Nat.le_of_ble_eq_true rfl)⟩ rfl (Nat.le_of_ble_eq_true rfl) ⟨Nat.zero_le _, Nat.zero_le _⟩ rfl d_Jd_isOneOf_19 (fun H locs hP hS => ?_)
  refine lv_icmp_ge (tgt := 59) hx hb d_Jd_isOneOf_22 (by decide) (fun c1 => ?_) (fun c1 => ?_)
  · replace h := o_tt c1 h
    cases h
    exact h1 (Nat.succ_ne_zero 1) _ _ _ hP hS (lv_sub hl [] rfl)
  · replace h := o_ff c1 h
    refine lv_aload_n hx hb d_Jd_isOneOf_25 rfl (lv_at hl 0 rfl) ?_
    refine o_get (v := .ref (ad 1)) C in_Jd hP 49 cw_49 rfl 0 (by decide) k_2_74 rfl rfl d_Jd_isOneOf_26 ?_
    refine lv_iload_n hx hb d_Jd_isOneOf_29 rfl (lv_at hl 3 rfl) ?_
    refine lv_aload_n hx hb d_Jd_isOneOf_30 rfl (lv_at hl 0 rfl) ?_
    refine o_get (v := .ref (ad 12)) C in_Jd hP 49 cw_49 rfl 2 (by decide) k_2_76 rfl rfl d_Jd_isOneOf_31 ?_
    refine lv_iload_n hx hb d_Jd_isOneOf_34 rfl (lv_at hl 2 rfl) ?_
    refine lv_iconst (v := (0:Int32)) hx hb d_Jd_isOneOf_35 (by decide) ?_
    obtain ⟨q3, hq3, h⟩ := o_bd_some h
    refine o_S (st1 := [.int q3]) (w1 := (o_cw ad ca u12_rt u12_Sj u12_T0 u12_T1 u12_Rd u12_Pg u12_Pt u12_Mk u12_Lk u12_Ck u12_Jd u12_Ld u12_Pr)) hE.1 C (c_Tx_same_01 hE l n 43 z.1 u12_x2 (0:Int32) u12_T0 u12_T1 u12_Sj u12_Rd u12_Pg u12_Pt u12_Mk u12_Lk u12_Ck u12_Jd u12_Ld u12_Pr u12_rt hq3) hP (hDD _ _ _ _ _ _ _ _ _ _ _ _ _) hS hl.1 k_6_181 k_6_182 k_1_2 k_6_183 hs_Tx_same rfl rfl ⟨(Nat.le_of_ble_eq_true rfl), (Nat.le_of_ble_eq_true rfl)⟩ rfl (Nat.le_of_ble_eq_true rfl) ⟨Nat.zero_le _, Nat.zero_le _⟩ rfl d_Jd_isOneOf_36 (fun H locs hP hS => ?_)
    refine lv_if_eq (tgt := 44) hx hb d_Jd_isOneOf_39 (by decide) (fun c2 => ?_) (fun c2 => ?_)
    · replace h := o_tt c2 h
      refine lv_aload_n hx hb d_Jd_isOneOf_44 rfl (lv_at hl 0 rfl) ?_
      refine o_get (v := .ref (ad 1)) C in_Jd hP 49 cw_49 rfl 0 (by decide) k_2_74 rfl rfl d_Jd_isOneOf_45 ?_
      refine lv_iload_n hx hb d_Jd_isOneOf_48 rfl (lv_at hl 3 rfl) ?_
      obtain ⟨q4, hq4, h⟩ := o_bd_some h
      refine o_V (st1 := [.int q4]) (w1 := (o_cw ad ca u12_rt u12_Sj u12_T0 u12_T1 u12_Rd u12_Pg u12_Pt u12_Mk u12_Lk u12_Ck u12_Jd u12_Ld u12_Pr)) hE.1 C (c_Tx_nextChild_0 hE l z.1 u12_T0 u12_Sj u12_T1 u12_Rd u12_Pg u12_Pt u12_Mk u12_Lk u12_Ck u12_Jd u12_Ld u12_Pr u12_rt hq4) hP (hDD _ _ _ _ _ _ _ _ _ _ _ _ _) hS hl.1 rfl cw_1 k_6_28 k_3_222 k_3_223 k_1_2 k_3_224 hv_Tx_nextChild rfl rfl ⟨(Nat.le_of_ble_eq_true rfl), (Nat.le_of_ble_eq_true rfl)⟩ rfl (Nat.le_of_ble_eq_true rfl) ⟨Nat.zero_le _, Nat.zero_le _⟩ rfl d_Jd_isOneOf_49 (fun H locs hP hS => ?_)
      refine lv_istore_n (lv' := [(3, .int q4), (0, .ref (ad 49)), (1, .int u12_x1), (2, .int u12_x2), (4, .int z.2)]) hx hb d_Jd_isOneOf_52 rfl hl (by decide) rfl (fun ls hl => ?_)
      obtain ⟨x4_53, ex4_53⟩ : ∃ y : Int32, y = z.2 + (1:Int32) := ⟨_, rfl⟩
      replace h := o_nm_at ex4_53 h
      refine lv_iinc (v := x4_53) (lv' := [(4, .int x4_53), (3, .int q4), (0, .ref (ad 49)), (1, .int u12_x1), (2, .int u12_x2)]) hx hb d_Jd_isOneOf_53 hl (k := 4) rfl (by rw [ex4_53]; rfl) (by decide) rfl (fun ls hl => ?_)
      refine lv_goto (tgt := 12) hx hb d_Jd_isOneOf_56 (by decide) ?_
      cases h
      exact h0 rfl _ _ _ hP hS (lv_sub hl [2, 3, 4, 1, 0] rfl)
    · replace h := o_ff c2 h
      cases h
      exact h1 (Nat.succ_ne_zero 0) _ _ _ hP hS (lv_sub hl [] rfl)
set_option maxHeartbeats 4000000 in
set_option maxRecDepth 100000 in
theorem c_Jd_isOneOf {E : (Nat → Prop) → State → Heap → Prop} {D : va_G} {ad kd sd : Nat → Nat} {ca : Nat → ClassId} (hE : o_EK E kd sd) (l : Launch) (n : Nat) (x1 : Int32) (x2 : Int32) (T0 : STx) (T1 : STx) (Sj : SSJ) (Rd : SRd) (Pg : SPg) (Pt : SPt) (Mk : SMk) (Lk : SLk) (Ck : SCk) (Jd : SJd) (Ld : SLd) (Pr : SPr) (rt : Nat) {r : Int32} (h : m_Jd_isOneOf n x1 x2 T0 T1 = some r) : o_Cn E l D o_cls (o_tys ca) y_Jd_isOneOf cc_Jd_isOneOf rm_Jd_isOneOf [.ref (ad 49), .int x1, .int x2] (o_cw ad ca rt Sj T0 T1 Rd Pg Pt Mk Lk Ck Jd Ld Pr) (o_cw ad ca rt Sj T0 T1 Rd Pg Pt Mk Lk Ck Jd Ld Pr) (some (.int r)) := by
  refine o_Cn_of (by decide) (Nat.le_of_ble_eq_true rfl) ?_
  intro p e s m below meth c A ls C hD hP hS hl
  have hDD : ∀ (rt : Nat) (Sj : SSJ) (T0 : STx) (T1 : STx) (Rd : SRd) (Pg : SPg) (Pt : SPt) (Mk : SMk) (Lk : SLk) (Ck : SCk) (Jd : SJd) (Ld : SLd) (Pr : SPr), va_D A (o_cw ad ca rt Sj T0 T1 Rd Pg Pt Mk Lk Ck Jd Ld Pr) := fun _ _ _ _ _ _ _ _ _ _ _ _ _ => o_D_map hD rfl
  have hl : lv_has ls 5 [(0, .ref (ad 49)), (1, .int x1), (2, .int x2)] := hl
  unfold m_Jd_isOneOf at h
  have C0 := C
  obtain ⟨hx, hb, -, -, -, hown, hts, hK, -, -⟩ := C0
  refine lv_aload_n hx hb d_Jd_isOneOf_0 rfl (lv_at hl 0 rfl) ?_
  refine o_get (v := .ref (ad 1)) C in_Jd hP 49 cw_49 rfl 0 (by decide) k_2_74 rfl rfl d_Jd_isOneOf_1 ?_
  refine lv_iload_n hx hb d_Jd_isOneOf_4 rfl (lv_at hl 1 rfl) ?_
  obtain ⟨q1, hq1, h⟩ := o_bd_some h
  refine o_V (st1 := [.int q1]) (w1 := (o_cw ad ca rt Sj T0 T1 Rd Pg Pt Mk Lk Ck Jd Ld Pr)) hE.1 C (c_Tx_firstChild_0 hE l x1 T0 Sj T1 Rd Pg Pt Mk Lk Ck Jd Ld Pr rt hq1) hP (hDD _ _ _ _ _ _ _ _ _ _ _ _ _) hS hl.1 rfl cw_1 k_6_25 k_3_211 k_3_212 k_1_2 k_3_213 hv_Tx_firstChild rfl rfl ⟨(Nat.le_of_ble_eq_true rfl), (Nat.le_of_ble_eq_true rfl)⟩ rfl (Nat.le_of_ble_eq_true rfl) ⟨Nat.zero_le _, Nat.zero_le _⟩ rfl d_Jd_isOneOf_5 (fun H locs hP hS => ?_)
  refine lv_istore_n (lv' := [(3, .int q1), (0, .ref (ad 49)), (1, .int x1), (2, .int x2)]) hx hb d_Jd_isOneOf_8 rfl hl (by decide) rfl (fun ls hl => ?_)
  refine lv_iconst (v := (0:Int32)) hx hb d_Jd_isOneOf_9 (by decide) ?_
  refine lv_istore (lv' := [(4, .int (0:Int32)), (3, .int q1), (0, .ref (ad 49)), (1, .int x1), (2, .int x2)]) hx hb d_Jd_isOneOf_10 hl (by decide) rfl (fun ls hl => ?_)
  obtain ⟨q5, hq5, h⟩ := o_bd_some h
  refine o_sim2 (AH := fun zz => o_At p l e rm_Jd_isOneOf s m _ below meth c _ o_cls D A 5 12 [] (o_cw ad ca rt Sj T0 T1 Rd Pg Pt Mk Lk Ck Jd Ld Pr) [(0, .ref (ad 49)), (1, .int x1), (2, .int x2), (3, .int zz.1), (4, .int zz.2)]) (AX := fun qq => if qq.1 = 1 then o_At p l e rm_Jd_isOneOf s m _ below meth c _ o_cls D A 5 42 [] (o_cw ad ca rt Sj T0 T1 Rd Pg Pt Mk Lk Ck Jd Ld Pr) [] else o_At p l e rm_Jd_isOneOf s m _ below meth c _ o_cls D A 5 59 [] (o_cw ad ca rt Sj T0 T1 Rd Pg Pt Mk Lk Ck Jd Ld Pr) []) (fun zz qq h h0 h1 => w_Jd_isOneOf_b12 hE C hDD n x1 x2 T0 T1 Sj Rd Pg Pt Mk Lk Ck Jd Ld Pr rt zz qq h h0 h1) n _ q5 hq5 ?_ _ _ _ hP hS (lv_sub hl [2, 3, 4, 1, 0] rfl)
  by_cases c3 : q5.1 = 1
  · replace h := o_tt c3 h
    refine o_ip c3 ?_
    intro H locs ls hP hS hl
    refine lv_iconst (v := (1:Int32)) hx hb d_Jd_isOneOf_42 (by decide) ?_
    cases h
    exact o_rz (v := (1:Int32)) C o_nar1 hP hS d_Jd_isOneOf_43
  replace h := o_ff c3 h
  refine o_in_ c3 ?_
  intro H locs ls hP hS hl
  refine lv_iconst (v := (0:Int32)) hx hb d_Jd_isOneOf_59 (by decide) ?_
  cases h
  exact o_rz (v := (0:Int32)) C o_nar0 hP hS d_Jd_isOneOf_60
set_option maxHeartbeats 4000000 in
set_option maxRecDepth 100000 in
theorem w_Ld_restReaches_b3 {E : (Nat → Prop) → State → Heap → Prop} {p : Program} {l : Launch} {e : Env} {s : State} {m : MethodId} {args : Array Value} {below : List Frame} {meth : Method} {c : Code} {D : va_G} {ad kd sd : Nat → Nat} {ca : Nat → ClassId} {A : Nat → Prop} {Q : State → Prop} (hE : o_EK E kd sd) (C : o_Cx E p s m args meth c D o_cls (o_tys ca) "SchemaJudge$LongDivision" b_Ld_restReaches (some .boolean) 2 cc_Ld_restReaches A) (hDD : ∀ (rt : Nat) (Sj : SSJ) (T0 : STx) (T1 : STx) (Rd : SRd) (Pg : SPg) (Pt : SPt) (Mk : SMk) (Lk : SLk) (Ck : SCk) (Jd : SJd) (Ld : SLd) (Pr : SPr), va_D A (o_cw ad ca rt Sj T0 T1 Rd Pg Pt Mk Lk Ck Jd Ld Pr)) (n : Nat) (u3_Ld : SLd) (u3_Sj : SSJ) (u3_T0 : STx) (u3_T1 : STx) (u3_Rd : SRd) (u3_Pg : SPg) (u3_Pt : SPt) (u3_Mk : SMk) (u3_Lk : SLk) (u3_Ck : SCk) (u3_Jd : SJd) (u3_Pr : SPr) (u3_rt : Nat) (z : Int32) (q : Nat × Int32) (h : m_Ld_restReaches_b3 n u3_Ld z = some q) (h0 : q.1 = 0 → o_At p l e rm_Ld_restReaches s m args below meth c Q o_cls D A 2 3 [] (o_cw ad ca u3_rt u3_Sj u3_T0 u3_T1 u3_Rd u3_Pg u3_Pt u3_Mk u3_Lk u3_Ck u3_Jd u3_Ld u3_Pr) [(0, .ref (ad 51)), (1, .int q.2)]) (h1 : q.1 ≠ 0 → (if q.1 = 1 then o_At p l e rm_Ld_restReaches s m args below meth c Q o_cls D A 2 23 [] (o_cw ad ca u3_rt u3_Sj u3_T0 u3_T1 u3_Rd u3_Pg u3_Pt u3_Mk u3_Lk u3_Ck u3_Jd u3_Ld u3_Pr) [(0, .ref (ad 51)), (1, .int q.2)] else o_At p l e rm_Ld_restReaches s m args below meth c Q o_cls D A 2 51 [] (o_cw ad ca u3_rt u3_Sj u3_T0 u3_T1 u3_Rd u3_Pg u3_Pt u3_Mk u3_Lk u3_Ck u3_Jd u3_Ld u3_Pr) [])) : o_At p l e rm_Ld_restReaches s m args below meth c Q o_cls D A 2 3 [] (o_cw ad ca u3_rt u3_Sj u3_T0 u3_T1 u3_Rd u3_Pg u3_Pt u3_Mk u3_Lk u3_Ck u3_Jd u3_Ld u3_Pr) [(0, .ref (ad 51)), (1, .int z)] := by
  unfold m_Ld_restReaches_b3 at h
  intro H locs ls hP hS hl
  have C0 := C
  obtain ⟨hx, hb, -, -, -, hown, hts, hK, -, -⟩ := C0
  refine lv_iload_n hx hb d_Ld_restReaches_3 rfl (lv_at hl 1 rfl) ?_
  refine lv_if_lt (tgt := 51) hx hb d_Ld_restReaches_4 (by decide) (fun c1 => ?_) (fun c1 => ?_)
  · replace h := o_tt c1 h
    cases h
    exact h1 (Nat.succ_ne_zero 1) _ _ _ hP hS (lv_sub hl [] rfl)
  · replace h := o_ff c1 h
    refine lv_aload_n hx hb d_Ld_restReaches_7 rfl (lv_at hl 0 rfl) ?_
    refine o_get (v := .ref (ad 53)) C in_Ld hP 51 cw_51 rfl 1 (by decide) k_2_51 rfl rfl d_Ld_restReaches_8 ?_
    refine lv_iload_n hx hb d_Ld_restReaches_11 rfl (lv_at hl 1 rfl) ?_
    obtain ⟨g2, h⟩ := o_gd_some h
    refine o_lald (f := (Ld_rest u3_Ld)) C hP 53 42 cw_53 rfl g2 d_Ld_restReaches_12 ?_
    refine lv_aload_n hx hb d_Ld_restReaches_13 rfl (lv_at hl 0 rfl) ?_
    refine o_get (v := .ref (ad 52)) C in_Ld hP 51 cw_51 rfl 0 (by decide) k_2_50 rfl rfl d_Ld_restReaches_14 ?_
    refine lv_iload_n hx hb d_Ld_restReaches_17 rfl (lv_at hl 1 rfl) ?_
    obtain ⟨g3, h⟩ := o_gd_some h
    refine o_lald (f := (Ld_divisor u3_Ld)) C hP 52 41 cw_52 rfl g3 d_Ld_restReaches_18 ?_
    refine W.lcmp hx hb d_Ld_restReaches_19 ?_
    refine lv_if_eq (tgt := 45) hx hb d_Ld_restReaches_20 (by decide) (fun c4 => ?_) (fun c4 => ?_)
    · replace h := o_tt c4 h
      obtain ⟨x1_45, ex1_45⟩ : ∃ y : Int32, y = z + (-1:Int32) := ⟨_, rfl⟩
      replace h := o_nm_at ex1_45 h
      refine lv_iinc (v := x1_45) (lv' := [(1, .int x1_45), (0, .ref (ad 51))]) hx hb d_Ld_restReaches_45 hl (k := 1) rfl (by rw [ex1_45]; rfl) (by decide) rfl (fun ls hl => ?_)
      refine lv_goto (tgt := 3) hx hb d_Ld_restReaches_48 (by decide) ?_
      cases h
      exact h0 rfl _ _ _ hP hS (lv_sub hl [1, 0] rfl)
    · replace h := o_ff c4 h
      cases h
      exact h1 (Nat.succ_ne_zero 0) _ _ _ hP hS (lv_sub hl [0, 1] rfl)
set_option maxHeartbeats 4000000 in
set_option maxRecDepth 100000 in
theorem c_Ld_restReaches {E : (Nat → Prop) → State → Heap → Prop} {D : va_G} {ad kd sd : Nat → Nat} {ca : Nat → ClassId} (hE : o_EK E kd sd) (l : Launch) (n : Nat)  (Ld : SLd) (Sj : SSJ) (T0 : STx) (T1 : STx) (Rd : SRd) (Pg : SPg) (Pt : SPt) (Mk : SMk) (Lk : SLk) (Ck : SCk) (Jd : SJd) (Pr : SPr) (rt : Nat) {r : Int32} (h : m_Ld_restReaches n Ld = some r) : o_Cn E l D o_cls (o_tys ca) y_Ld_restReaches cc_Ld_restReaches rm_Ld_restReaches [.ref (ad 51)] (o_cw ad ca rt Sj T0 T1 Rd Pg Pt Mk Lk Ck Jd Ld Pr) (o_cw ad ca rt Sj T0 T1 Rd Pg Pt Mk Lk Ck Jd Ld Pr) (some (.int r)) := by
  refine o_Cn_of (by decide) (Nat.le_of_ble_eq_true rfl) ?_
  intro p e s m below meth c A ls C hD hP hS hl
  have hDD : ∀ (rt : Nat) (Sj : SSJ) (T0 : STx) (T1 : STx) (Rd : SRd) (Pg : SPg) (Pt : SPt) (Mk : SMk) (Lk : SLk) (Ck : SCk) (Jd : SJd) (Ld : SLd) (Pr : SPr), va_D A (o_cw ad ca rt Sj T0 T1 Rd Pg Pt Mk Lk Ck Jd Ld Pr) := fun _ _ _ _ _ _ _ _ _ _ _ _ _ => o_D_map hD rfl
  have hl : lv_has ls 2 [(0, .ref (ad 51))] := hl
  unfold m_Ld_restReaches at h
  have C0 := C
  obtain ⟨hx, hb, -, -, -, hown, hts, hK, -, -⟩ := C0
  refine lv_bipush (v := (6:Int32)) hx hb d_Ld_restReaches_0 (by decide) ?_
  refine lv_istore_n (lv' := [(1, .int (6:Int32)), (0, .ref (ad 51))]) hx hb d_Ld_restReaches_2 rfl hl (by decide) rfl (fun ls hl => ?_)
  obtain ⟨q1, hq1, h⟩ := o_bd_some h
  refine o_sim2 (AH := fun zz => o_At p l e rm_Ld_restReaches s m _ below meth c _ o_cls D A 2 3 [] (o_cw ad ca rt Sj T0 T1 Rd Pg Pt Mk Lk Ck Jd Ld Pr) [(0, .ref (ad 51)), (1, .int zz)]) (AX := fun qq => if qq.1 = 1 then o_At p l e rm_Ld_restReaches s m _ below meth c _ o_cls D A 2 23 [] (o_cw ad ca rt Sj T0 T1 Rd Pg Pt Mk Lk Ck Jd Ld Pr) [(0, .ref (ad 51)), (1, .int qq.2)] else o_At p l e rm_Ld_restReaches s m _ below meth c _ o_cls D A 2 51 [] (o_cw ad ca rt Sj T0 T1 Rd Pg Pt Mk Lk Ck Jd Ld Pr) []) (fun zz qq h h0 h1 => w_Ld_restReaches_b3 hE C hDD n Ld Sj T0 T1 Rd Pg Pt Mk Lk Ck Jd Pr rt zz qq h h0 h1) n _ q1 hq1 ?_ _ _ _ hP hS (lv_sub hl [1, 0] rfl)
  by_cases c8 : q1.1 = 1
  · replace h := o_tt c8 h
    refine o_ip c8 ?_
    intro H locs ls hP hS hl
    refine lv_aload_n hx hb d_Ld_restReaches_23 rfl (lv_at hl 0 rfl) ?_
    refine o_get (v := .ref (ad 53)) C in_Ld hP 51 cw_51 rfl 1 (by decide) k_2_51 rfl rfl d_Ld_restReaches_24 ?_
    refine lv_iload_n hx hb d_Ld_restReaches_27 rfl (lv_at hl 1 rfl) ?_
    obtain ⟨g5, h⟩ := o_gd_some h
    refine o_lald (f := (Ld_rest Ld)) C hP 53 42 cw_53 rfl g5 d_Ld_restReaches_28 ?_
    refine lv_aload_n hx hb d_Ld_restReaches_29 rfl (lv_at hl 0 rfl) ?_
    refine o_get (v := .ref (ad 52)) C in_Ld hP 51 cw_51 rfl 0 (by decide) k_2_50 rfl rfl d_Ld_restReaches_30 ?_
    refine lv_iload_n hx hb d_Ld_restReaches_33 rfl (lv_at hl 1 rfl) ?_
    obtain ⟨g6, h⟩ := o_gd_some h
    refine o_lald (f := (Ld_divisor Ld)) C hP 52 41 cw_52 rfl g6 d_Ld_restReaches_34 ?_
    refine W.lcmp hx hb d_Ld_restReaches_35 ?_
    refine lv_if_le (tgt := 43) hx hb d_Ld_restReaches_36 (by decide) (fun c7 => ?_) (fun c7 => ?_)
    · replace h := o_tt c7 h
      refine lv_iconst (v := (0:Int32)) hx hb d_Ld_restReaches_43 (by decide) ?_
      cases h
      exact o_rz (v := (0:Int32)) C o_nar0 hP hS d_Ld_restReaches_44
    · replace h := o_ff c7 h
      refine lv_iconst (v := (1:Int32)) hx hb d_Ld_restReaches_39 (by decide) ?_
      refine lv_goto (tgt := 44) hx hb d_Ld_restReaches_40 (by decide) ?_
      cases h
      exact o_rz (v := (1:Int32)) C o_nar1 hP hS d_Ld_restReaches_44
  replace h := o_ff c8 h
  refine o_in_ c8 ?_
  intro H locs ls hP hS hl
  refine lv_iconst (v := (1:Int32)) hx hb d_Ld_restReaches_51 (by decide) ?_
  cases h
  exact o_rz (v := (1:Int32)) C o_nar1 hP hS d_Ld_restReaches_52
