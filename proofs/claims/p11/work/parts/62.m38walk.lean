set_option maxHeartbeats 4000000 in
set_option maxRecDepth 100000 in
theorem w_Jd_evaluate_j252 {E : (Nat → Prop) → State → Heap → Prop} {p : Program} {l : Launch} {e : Env} {s : State} {m : MethodId} {args : Array Value} {below : List Frame} {meth : Method} {c : Code} {D : va_G} {ad kd sd vd xd : Nat → Nat} {ca : Nat → ClassId} {A : Nat → Prop} {Q : State → Prop} (hE : o_EK E kd sd vd xd) (C : o_Cx E p s m args meth c D o_cls (o_tys ca) "SchemaJudge$Judge" b_Jd_evaluate (some .boolean) 11 cc_Jd_evaluate A) (hDD : ∀ (rt : Nat) (Sj : SSJ) (T0 : STx) (T1 : STx) (Rd : SRd) (Pg : SPg) (Pt : SPt) (Mk : SMk) (Lk : SLk) (Ck : SCk) (Jd : SJd) (Ld : SLd) (Pr : SPr), va_D A (o_cw ad ca rt Sj T0 T1 Rd Pg Pt Mk Lk Ck Jd Ld Pr)) (d : Nat) (rec : Int32 → Int32 → Int32 → STx → STx → SPg → SPt → SMk → SLd → SPr → SJd → Option (Int32 × SPg × SPt × SLd × SPr × SJd)) (hrec : ∀ (x1 : Int32) (x2 : Int32) (x3 : Int32) (T0 : STx) (T1 : STx) (Pg : SPg) (Pt : SPt) (Mk : SMk) (Ld : SLd) (Pr : SPr) (Jd : SJd) (Sj : SSJ) (Rd : SRd) (Lk : SLk) (Ck : SCk) (rt : Nat) (r : Int32 × SPg × SPt × SLd × SPr × SJd), rec x1 x2 x3 T0 T1 Pg Pt Mk Ld Pr Jd = some r → o_Cn E l D o_cls (o_tys ca) y_Jd_evaluate cc_Jd_evaluate (rm_Jd_evaluate d) [.ref (ad 49), .int x1, .int x2, .int x3] (o_cw ad ca rt Sj T0 T1 Rd Pg Pt Mk Lk Ck Jd Ld Pr) (o_cw ad ca rt Sj T0 T1 Rd r.2.1 r.2.2.1 Mk Lk Ck r.2.2.2.2.2 r.2.2.2.1 r.2.2.2.2.1) (some (.int r.1))) (n : Nat) (u55_x1 : Int32) (u55_x2 : Int32) (u55_x3 : Int32) (u55_x5 : Int32) (u55_T0 : STx) (u55_T1 : STx) (u55_Mk : SMk) (u55_Sj : SSJ) (u55_Rd : SRd) (u55_Lk : SLk) (u55_Ck : SCk) (u55_rt : Nat) (x4 : Int32) (x6 : Int32) (x7 : Int32) (x8 : Int32) (y0 : Int32) (Pg : SPg) (Pt : SPt) (Ld : SLd) (Pr : SPr) (Jd : SJd) {q : Nat × Int32 × Int32 × Int32 × SPg × SPt × SLd × SPr × SJd} (h : m_Jd_evaluate_j252 n rec u55_x1 u55_x2 u55_x3 x4 u55_x5 x6 x7 x8 y0 u55_T0 u55_T1 Pg Pt u55_Mk Ld Pr Jd = some q) (h0 : q.1 = 0 → o_At p l e (rm_Jd_evaluate (d + 1)) s m args below meth c Q o_cls D A 11 55 [] (o_cw ad ca u55_rt u55_Sj u55_T0 u55_T1 u55_Rd q.2.2.2.2.1 q.2.2.2.2.2.1 u55_Mk u55_Lk u55_Ck q.2.2.2.2.2.2.2.2 q.2.2.2.2.2.2.1 q.2.2.2.2.2.2.2.1) [(0, .ref (ad 49)), (1, .int u55_x1), (2, .int u55_x2), (3, .int u55_x3), (4, .int q.2.1), (5, .int u55_x5), (6, .int q.2.2.1), (7, .int q.2.2.2.1)]) (h1 : q.1 ≠ 0 → (o_At p l e (rm_Jd_evaluate (d + 1)) s m args below meth c Q o_cls D A 11 275 [] (o_cw ad ca u55_rt u55_Sj u55_T0 u55_T1 u55_Rd q.2.2.2.2.1 q.2.2.2.2.2.1 u55_Mk u55_Lk u55_Ck q.2.2.2.2.2.2.2.2 q.2.2.2.2.2.2.1 q.2.2.2.2.2.2.2.1) [(0, .ref (ad 49)), (1, .int u55_x1), (2, .int u55_x2), (3, .int u55_x3), (4, .int q.2.1), (5, .int u55_x5)])) : o_At p l e (rm_Jd_evaluate (d + 1)) s m args below meth c Q o_cls D A 11 252 [.int y0] (o_cw ad ca u55_rt u55_Sj u55_T0 u55_T1 u55_Rd Pg Pt u55_Mk u55_Lk u55_Ck Jd Ld Pr) [(0, .ref (ad 49)), (1, .int u55_x1), (2, .int u55_x2), (3, .int u55_x3), (4, .int x4), (5, .int u55_x5), (6, .int x6), (7, .int x7), (8, .int x8)] := by
  unfold m_Jd_evaluate_j252 at h
  intro H locs ls hP hS hl
  have C0 := C
  obtain ⟨hx, hb, -, -, -, hown, hts, hK, -, -⟩ := C0
  refine lv_istore (lv' := [(10, .int y0), (0, .ref (ad 49)), (1, .int u55_x1), (2, .int u55_x2), (3, .int u55_x3), (4, .int x4), (5, .int u55_x5), (6, .int x6), (7, .int x7), (8, .int x8)]) hx hb d_Jd_evaluate_252 hl (by decide) rfl (fun ls hl => ?_)
  refine lv_iload hx hb d_Jd_evaluate_254 (lv_at hl 0 rfl) ?_
  refine lv_if_ne (tgt := 269) hx hb d_Jd_evaluate_256 (by decide) (fun c15 => ?_) (fun c15 => ?_)
  · replace h := o_ff c15 h
    obtain ⟨x7_269, ex7_269⟩ : ∃ y : Int32, y = x7 + (1:Int32) := ⟨_, rfl⟩
    replace h := o_nm_at ex7_269 h
    refine lv_iinc (v := x7_269) (lv' := [(7, .int x7_269), (10, .int y0), (0, .ref (ad 49)), (1, .int u55_x1), (2, .int u55_x2), (3, .int u55_x3), (4, .int x4), (5, .int u55_x5), (6, .int x6), (8, .int x8)]) hx hb d_Jd_evaluate_269 hl (k := 8) rfl (by rw [ex7_269]; rfl) (by decide) rfl (fun ls hl => ?_)
    refine lv_goto (tgt := 55) hx hb d_Jd_evaluate_272 (by decide) ?_
    cases h
    exact h0 rfl _ _ _ hP hS (lv_sub hl [2, 3, 4, 5, 6, 7, 8, 0] rfl)
  · replace h := o_tt c15 h
    refine lv_aload_n hx hb d_Jd_evaluate_259 rfl (lv_at hl 1 rfl) ?_
    refine lv_iload_n hx hb d_Jd_evaluate_260 rfl (lv_at hl 3 rfl) ?_
    refine lv_iload hx hb d_Jd_evaluate_261 (lv_at hl 9 rfl) ?_
    obtain ⟨q11, hq11, h⟩ := o_bd_some h
    refine o_V (st1 := []) (w1 := (o_cw ad ca u55_rt u55_Sj u55_T0 u55_T1 u55_Rd Pg Pt u55_Mk u55_Lk u55_Ck Jd Ld q11)) hE.1 C (c_Jd_tell hE l n u55_x2 x8 Pr Jd u55_Sj u55_T0 u55_T1 u55_Rd Pg Pt u55_Mk u55_Lk u55_Ck Ld u55_rt hq11) hP (hDD _ _ _ _ _ _ _ _ _ _ _ _ _) hS hl.1 rfl cw_49 k_6_17 k_6_19 k_s_59 k_1_9 k_6_20 hv_Jd_tell rfl rfl ⟨(by dsimp only [rm_Jd_evaluate, rm_Jd_tell]; omega), (by dsimp only [rm_Jd_evaluate, rm_Jd_tell]; omega)⟩ rfl (Nat.le_of_ble_eq_true rfl) ⟨Nat.zero_le _, Nat.zero_le _⟩ rfl d_Jd_evaluate_263 (fun H locs hP hS => ?_)
    refine lv_iconst (v := (0:Int32)) hx hb d_Jd_evaluate_266 (by decide) ?_
    refine lv_istore (lv' := [(4, .int (0:Int32)), (10, .int y0), (0, .ref (ad 49)), (1, .int u55_x1), (2, .int u55_x2), (3, .int u55_x3), (5, .int u55_x5), (6, .int x6), (7, .int x7), (8, .int x8)]) hx hb d_Jd_evaluate_267 hl (by decide) rfl (fun ls hl => ?_)
    obtain ⟨x7_269, ex7_269⟩ : ∃ y : Int32, y = x7 + (1:Int32) := ⟨_, rfl⟩
    replace h := o_nm_at ex7_269 h
    refine lv_iinc (v := x7_269) (lv' := [(7, .int x7_269), (4, .int (0:Int32)), (10, .int y0), (0, .ref (ad 49)), (1, .int u55_x1), (2, .int u55_x2), (3, .int u55_x3), (5, .int u55_x5), (6, .int x6), (8, .int x8)]) hx hb d_Jd_evaluate_269 hl (k := 8) rfl (by rw [ex7_269]; rfl) (by decide) rfl (fun ls hl => ?_)
    refine lv_goto (tgt := 55) hx hb d_Jd_evaluate_272 (by decide) ?_
    cases h
    exact h0 rfl _ _ _ hP hS (lv_sub hl [3, 4, 5, 6, 1, 7, 8, 0] rfl)
set_option maxHeartbeats 4000000 in
set_option maxRecDepth 100000 in
theorem w_Jd_evaluate_j194 {E : (Nat → Prop) → State → Heap → Prop} {p : Program} {l : Launch} {e : Env} {s : State} {m : MethodId} {args : Array Value} {below : List Frame} {meth : Method} {c : Code} {D : va_G} {ad kd sd vd xd : Nat → Nat} {ca : Nat → ClassId} {A : Nat → Prop} {Q : State → Prop} (hE : o_EK E kd sd vd xd) (C : o_Cx E p s m args meth c D o_cls (o_tys ca) "SchemaJudge$Judge" b_Jd_evaluate (some .boolean) 11 cc_Jd_evaluate A) (hDD : ∀ (rt : Nat) (Sj : SSJ) (T0 : STx) (T1 : STx) (Rd : SRd) (Pg : SPg) (Pt : SPt) (Mk : SMk) (Lk : SLk) (Ck : SCk) (Jd : SJd) (Ld : SLd) (Pr : SPr), va_D A (o_cw ad ca rt Sj T0 T1 Rd Pg Pt Mk Lk Ck Jd Ld Pr)) (d : Nat) (rec : Int32 → Int32 → Int32 → STx → STx → SPg → SPt → SMk → SLd → SPr → SJd → Option (Int32 × SPg × SPt × SLd × SPr × SJd)) (hrec : ∀ (x1 : Int32) (x2 : Int32) (x3 : Int32) (T0 : STx) (T1 : STx) (Pg : SPg) (Pt : SPt) (Mk : SMk) (Ld : SLd) (Pr : SPr) (Jd : SJd) (Sj : SSJ) (Rd : SRd) (Lk : SLk) (Ck : SCk) (rt : Nat) (r : Int32 × SPg × SPt × SLd × SPr × SJd), rec x1 x2 x3 T0 T1 Pg Pt Mk Ld Pr Jd = some r → o_Cn E l D o_cls (o_tys ca) y_Jd_evaluate cc_Jd_evaluate (rm_Jd_evaluate d) [.ref (ad 49), .int x1, .int x2, .int x3] (o_cw ad ca rt Sj T0 T1 Rd Pg Pt Mk Lk Ck Jd Ld Pr) (o_cw ad ca rt Sj T0 T1 Rd r.2.1 r.2.2.1 Mk Lk Ck r.2.2.2.2.2 r.2.2.2.1 r.2.2.2.2.1) (some (.int r.1))) (n : Nat) (u55_x1 : Int32) (u55_x2 : Int32) (u55_x3 : Int32) (u55_x5 : Int32) (u55_T0 : STx) (u55_T1 : STx) (u55_Mk : SMk) (u55_Sj : SSJ) (u55_Rd : SRd) (u55_Lk : SLk) (u55_Ck : SCk) (u55_rt : Nat) (x4 : Int32) (x6 : Int32) (x7 : Int32) (x8 : Int32) (x9 : Nat) (gx9 : o_kb x9 = true) (Pg : SPg) (Pt : SPt) (Ld : SLd) (Pr : SPr) (Jd : SJd) {q : Nat × Int32 × Int32 × Int32 × SPg × SPt × SLd × SPr × SJd} (h : m_Jd_evaluate_j194 n rec u55_x1 u55_x2 u55_x3 x4 u55_x5 x6 x7 x8 x9 u55_T0 u55_T1 Pg Pt u55_Mk Ld Pr Jd = some q) (h0 : q.1 = 0 → o_At p l e (rm_Jd_evaluate (d + 1)) s m args below meth c Q o_cls D A 11 55 [] (o_cw ad ca u55_rt u55_Sj u55_T0 u55_T1 u55_Rd q.2.2.2.2.1 q.2.2.2.2.2.1 u55_Mk u55_Lk u55_Ck q.2.2.2.2.2.2.2.2 q.2.2.2.2.2.2.1 q.2.2.2.2.2.2.2.1) [(0, .ref (ad 49)), (1, .int u55_x1), (2, .int u55_x2), (3, .int u55_x3), (4, .int q.2.1), (5, .int u55_x5), (6, .int q.2.2.1), (7, .int q.2.2.2.1)]) (h1 : q.1 ≠ 0 → (o_At p l e (rm_Jd_evaluate (d + 1)) s m args below meth c Q o_cls D A 11 275 [] (o_cw ad ca u55_rt u55_Sj u55_T0 u55_T1 u55_Rd q.2.2.2.2.1 q.2.2.2.2.2.1 u55_Mk u55_Lk u55_Ck q.2.2.2.2.2.2.2.2 q.2.2.2.2.2.2.1 q.2.2.2.2.2.2.2.1) [(0, .ref (ad 49)), (1, .int u55_x1), (2, .int u55_x2), (3, .int u55_x3), (4, .int q.2.1), (5, .int u55_x5)])) : o_At p l e (rm_Jd_evaluate (d + 1)) s m args below meth c Q o_cls D A 11 194 [] (o_cw ad ca u55_rt u55_Sj u55_T0 u55_T1 u55_Rd Pg Pt u55_Mk u55_Lk u55_Ck Jd Ld Pr) [(0, .ref (ad 49)), (1, .int u55_x1), (2, .int u55_x2), (3, .int u55_x3), (4, .int x4), (5, .int u55_x5), (6, .int x6), (7, .int x7), (8, .int x8), (9, .ref (kd x9))] := by
  unfold m_Jd_evaluate_j194 at h
  intro H locs ls hP hS hl
  have C0 := C
  obtain ⟨hx, hb, -, -, -, hown, hts, hK, -, -⟩ := C0
  refine lv_aload hx hb d_Jd_evaluate_194 (lv_at hl 9 rfl) ?_
  refine o_gkN (fi := 3) (v := (kw_reach x9)) hE C gx9 hS rfl rfl nw_25 d_Jd_evaluate_196 ?_
  refine lv_if_eq (tgt := 269) hx hb d_Jd_evaluate_199 (by decide) (fun c12 => ?_) (fun c12 => ?_)
  · replace h := o_tt c12 h
    obtain ⟨x7_269, ex7_269⟩ : ∃ y : Int32, y = x7 + (1:Int32) := ⟨_, rfl⟩
    replace h := o_nm_at ex7_269 h
    refine lv_iinc (v := x7_269) (lv' := [(7, .int x7_269), (0, .ref (ad 49)), (1, .int u55_x1), (2, .int u55_x2), (3, .int u55_x3), (4, .int x4), (5, .int u55_x5), (6, .int x6), (8, .int x8), (9, .ref (kd x9))]) hx hb d_Jd_evaluate_269 hl (k := 7) rfl (by rw [ex7_269]; rfl) (by decide) rfl (fun ls hl => ?_)
    refine lv_goto (tgt := 55) hx hb d_Jd_evaluate_272 (by decide) ?_
    cases h
    exact h0 rfl _ _ _ hP hS (lv_sub hl [1, 2, 3, 4, 5, 6, 7, 0] rfl)
  · replace h := o_ff c12 h
    refine lv_aload hx hb d_Jd_evaluate_202 (lv_at hl 9 rfl) ?_
    refine lv_aload_n hx hb d_Jd_evaluate_204 rfl (lv_at hl 0 rfl) ?_
    refine o_get (v := .ref (ad 12)) C in_Jd hP 49 cw_49 rfl 2 (by decide) k_2_76 rfl rfl d_Jd_evaluate_205 ?_
    refine lv_iload_n hx hb d_Jd_evaluate_208 rfl (lv_at hl 2 rfl) ?_
    obtain ⟨q8, hq8, h⟩ := o_bd_some h
    refine o_V (st1 := [.int q8, .ref (kd x9)]) (w1 := (o_cw ad ca u55_rt u55_Sj u55_T0 u55_T1 u55_Rd Pg Pt u55_Mk u55_Lk u55_Ck Jd Ld Pr)) hE.1 C (c_Tx_kind_1 hE l u55_x2 u55_T1 u55_Sj u55_T0 u55_Rd Pg Pt u55_Mk u55_Lk u55_Ck Jd Ld Pr u55_rt hq8) hP (hDD _ _ _ _ _ _ _ _ _ _ _ _ _) hS hl.1 rfl cw_12 k_6_16 k_4_50 k_4_51 k_1_2 k_4_52 hv_Tx_kind rfl rfl ⟨(by dsimp only [rm_Jd_evaluate, rm_Tx_kind]; omega), (by dsimp only [rm_Jd_evaluate, rm_Tx_kind]; omega)⟩ rfl (Nat.le_of_ble_eq_true rfl) ⟨Nat.zero_le _, Nat.zero_le _⟩ rfl d_Jd_evaluate_209 (fun H locs hP hS => ?_)
    obtain ⟨q9, hq9, h⟩ := o_bd_some h
    refine o_VR (K := "SchemaJudge$Keyword") (st1 := [.int q9]) (w1 := (o_cw ad ca u55_rt u55_Sj u55_T0 u55_T1 u55_Rd Pg Pt u55_Mk u55_Lk u55_Ck Jd Ld Pr)) hE.1 C (c_Kw_concerns hE l x9 gx9 q8 u55_Sj u55_T0 u55_T1 u55_Rd Pg Pt u55_Mk u55_Lk u55_Ck Jd Ld Pr u55_rt hq9) hP (hDD _ _ _ _ _ _ _ _ _ _ _ _ _) hS hl.1 (o_rk hE C gx9 hS) k_6_152 k_6_153 k_6_154 k_1_25 k_6_155 hv_Kw_concerns rfl rfl ⟨(by dsimp only [rm_Jd_evaluate, rm_Kw_concerns]; omega), (by dsimp only [rm_Jd_evaluate, rm_Kw_concerns]; omega)⟩ rfl (Nat.le_of_ble_eq_true rfl) ⟨Nat.zero_le _, Nat.zero_le _⟩ rfl d_Jd_evaluate_212 (fun H locs hP hS => ?_)
    refine lv_if_ne (tgt := 221) hx hb d_Jd_evaluate_215 (by decide) (fun c13 => ?_) (fun c13 => ?_)
    · replace h := o_ff c13 h
      refine lv_aload hx hb d_Jd_evaluate_221 (lv_at hl 9 rfl) ?_
      refine o_gkN (fi := 3) (v := (kw_reach x9)) hE C gx9 hS rfl rfl nw_25 d_Jd_evaluate_223 ?_
      refine lv_iconst (v := (1:Int32)) hx hb d_Jd_evaluate_226 (by decide) ?_
      refine lv_icmp_ne (tgt := 242) hx hb d_Jd_evaluate_227 (by decide) (fun c14 => ?_) (fun c14 => ?_)
      · replace h := o_ff c14 h
        refine lv_aload_n hx hb d_Jd_evaluate_242 rfl (lv_at hl 0 rfl) ?_
        refine lv_aload hx hb d_Jd_evaluate_243 (lv_at hl 9 rfl) ?_
        refine lv_iload hx hb d_Jd_evaluate_245 (lv_at hl 8 rfl) ?_
        refine lv_iload_n hx hb d_Jd_evaluate_247 rfl (lv_at hl 2 rfl) ?_
        refine lv_iload_n hx hb d_Jd_evaluate_248 rfl (lv_at hl 3 rfl) ?_
        obtain ⟨q10, hq10, h⟩ := o_bd_some h
        refine o_V (st1 := [.int q10.1]) (w1 := (o_cw ad ca u55_rt u55_Sj u55_T0 u55_T1 u55_Rd q10.2.1 q10.2.2.1 u55_Mk u55_Lk u55_Ck q10.2.2.2.2.2 q10.2.2.2.1 q10.2.2.2.2.1)) hE.1 C (c_Jd_apply hE l n d rec hrec x9 gx9 x8 u55_x2 u55_x3 u55_T0 u55_T1 Pg Pt u55_Mk Ld Pr Jd u55_Sj u55_Rd u55_Lk u55_Ck u55_rt hq10) hP (hDD _ _ _ _ _ _ _ _ _ _ _ _ _) hS hl.1 rfl cw_49 k_6_43 k_6_45 k_s_60 k_1_9 k_6_46 hv_Jd_apply rfl rfl ⟨(by dsimp only [rm_Jd_evaluate, rm_Jd_apply]; omega), (by dsimp only [rm_Jd_evaluate, rm_Jd_apply]; omega)⟩ rfl (Nat.le_of_ble_eq_true rfl) ⟨Nat.zero_le _, Nat.zero_le _⟩ rfl d_Jd_evaluate_249 (fun H locs hP hS => ?_)
        exact w_Jd_evaluate_j252 hE C hDD d rec hrec n u55_x1 u55_x2 u55_x3 u55_x5 u55_T0 u55_T1 u55_Mk u55_Sj u55_Rd u55_Lk u55_Ck u55_rt x4 x6 x7 x8 q10.1 q10.2.1 q10.2.2.1 q10.2.2.2.1 q10.2.2.2.2.1 q10.2.2.2.2.2 h h0 h1 _ _ _ hP hS (lv_sub hl [0, 1, 2, 3, 4, 5, 6, 7, 8] rfl)
      · replace h := o_tt c14 h
        refine lv_aload_n hx hb d_Jd_evaluate_230 rfl (lv_at hl 0 rfl) ?_
        refine lv_aload hx hb d_Jd_evaluate_231 (lv_at hl 9 rfl) ?_
        refine lv_iload hx hb d_Jd_evaluate_233 (lv_at hl 8 rfl) ?_
        refine lv_iload_n hx hb d_Jd_evaluate_235 rfl (lv_at hl 2 rfl) ?_
        obtain ⟨q12, hq12, h⟩ := o_bd_some h
        refine o_V (st1 := [.int q12.1]) (w1 := (o_cw ad ca u55_rt u55_Sj u55_T0 u55_T1 u55_Rd q12.2.1 q12.2.2.1 u55_Mk u55_Lk u55_Ck Jd q12.2.2.2 Pr)) hE.1 C (c_Jd_asserts hE l n x9 gx9 x8 u55_x2 u55_T0 u55_T1 Pg Pt Ld u55_Sj u55_Rd u55_Mk u55_Lk u55_Ck Jd Pr u55_rt hq12) hP (hDD _ _ _ _ _ _ _ _ _ _ _ _ _) hS hl.1 rfl cw_49 k_6_156 k_6_158 k_s_71 k_1_9 k_6_159 hv_Jd_asserts rfl rfl ⟨(by dsimp only [rm_Jd_evaluate, rm_Jd_asserts]; omega), (by dsimp only [rm_Jd_evaluate, rm_Jd_asserts]; omega)⟩ rfl (Nat.le_of_ble_eq_true rfl) ⟨Nat.zero_le _, Nat.zero_le _⟩ rfl d_Jd_evaluate_236 (fun H locs hP hS => ?_)
        refine lv_goto (tgt := 252) hx hb d_Jd_evaluate_239 (by decide) ?_
        exact w_Jd_evaluate_j252 hE C hDD d rec hrec n u55_x1 u55_x2 u55_x3 u55_x5 u55_T0 u55_T1 u55_Mk u55_Sj u55_Rd u55_Lk u55_Ck u55_rt x4 x6 x7 x8 q12.1 q12.2.1 q12.2.2.1 q12.2.2.2 Pr Jd h h0 h1 _ _ _ hP hS (lv_sub hl [0, 1, 2, 3, 4, 5, 6, 7, 8] rfl)
    · replace h := o_tt c13 h
      refine lv_goto (tgt := 269) hx hb d_Jd_evaluate_218 (by decide) ?_
      obtain ⟨x7_269, ex7_269⟩ : ∃ y : Int32, y = x7 + (1:Int32) := ⟨_, rfl⟩
      replace h := o_nm_at ex7_269 h
      refine lv_iinc (v := x7_269) (lv' := [(7, .int x7_269), (0, .ref (ad 49)), (1, .int u55_x1), (2, .int u55_x2), (3, .int u55_x3), (4, .int x4), (5, .int u55_x5), (6, .int x6), (8, .int x8), (9, .ref (kd x9))]) hx hb d_Jd_evaluate_269 hl (k := 7) rfl (by rw [ex7_269]; rfl) (by decide) rfl (fun ls hl => ?_)
      refine lv_goto (tgt := 55) hx hb d_Jd_evaluate_272 (by decide) ?_
      cases h
      exact h0 rfl _ _ _ hP hS (lv_sub hl [1, 2, 3, 4, 5, 6, 7, 0] rfl)
set_option maxHeartbeats 4000000 in
set_option maxRecDepth 100000 in
theorem w_Jd_evaluate_j178 {E : (Nat → Prop) → State → Heap → Prop} {p : Program} {l : Launch} {e : Env} {s : State} {m : MethodId} {args : Array Value} {below : List Frame} {meth : Method} {c : Code} {D : va_G} {ad kd sd vd xd : Nat → Nat} {ca : Nat → ClassId} {A : Nat → Prop} {Q : State → Prop} (hE : o_EK E kd sd vd xd) (C : o_Cx E p s m args meth c D o_cls (o_tys ca) "SchemaJudge$Judge" b_Jd_evaluate (some .boolean) 11 cc_Jd_evaluate A) (hDD : ∀ (rt : Nat) (Sj : SSJ) (T0 : STx) (T1 : STx) (Rd : SRd) (Pg : SPg) (Pt : SPt) (Mk : SMk) (Lk : SLk) (Ck : SCk) (Jd : SJd) (Ld : SLd) (Pr : SPr), va_D A (o_cw ad ca rt Sj T0 T1 Rd Pg Pt Mk Lk Ck Jd Ld Pr)) (d : Nat) (rec : Int32 → Int32 → Int32 → STx → STx → SPg → SPt → SMk → SLd → SPr → SJd → Option (Int32 × SPg × SPt × SLd × SPr × SJd)) (hrec : ∀ (x1 : Int32) (x2 : Int32) (x3 : Int32) (T0 : STx) (T1 : STx) (Pg : SPg) (Pt : SPt) (Mk : SMk) (Ld : SLd) (Pr : SPr) (Jd : SJd) (Sj : SSJ) (Rd : SRd) (Lk : SLk) (Ck : SCk) (rt : Nat) (r : Int32 × SPg × SPt × SLd × SPr × SJd), rec x1 x2 x3 T0 T1 Pg Pt Mk Ld Pr Jd = some r → o_Cn E l D o_cls (o_tys ca) y_Jd_evaluate cc_Jd_evaluate (rm_Jd_evaluate d) [.ref (ad 49), .int x1, .int x2, .int x3] (o_cw ad ca rt Sj T0 T1 Rd Pg Pt Mk Lk Ck Jd Ld Pr) (o_cw ad ca rt Sj T0 T1 Rd r.2.1 r.2.2.1 Mk Lk Ck r.2.2.2.2.2 r.2.2.2.1 r.2.2.2.2.1) (some (.int r.1))) (n : Nat) (u55_x1 : Int32) (u55_x2 : Int32) (u55_x3 : Int32) (u55_x5 : Int32) (u55_T0 : STx) (u55_T1 : STx) (u55_Mk : SMk) (u55_Sj : SSJ) (u55_Rd : SRd) (u55_Lk : SLk) (u55_Ck : SCk) (u55_rt : Nat) (x4 : Int32) (x6 : Int32) (x7 : Int32) (y1 : Int32) (y2 : Nat) (gy2 : o_kb y2 = true) (Pg : SPg) (Pt : SPt) (Ld : SLd) (Pr : SPr) (Jd : SJd) {q : Nat × Int32 × Int32 × Int32 × SPg × SPt × SLd × SPr × SJd} (h : m_Jd_evaluate_j178 n rec u55_x1 u55_x2 u55_x3 x4 u55_x5 x6 x7 y1 y2 u55_T0 u55_T1 Pg Pt u55_Mk Ld Pr Jd = some q) (h0 : q.1 = 0 → o_At p l e (rm_Jd_evaluate (d + 1)) s m args below meth c Q o_cls D A 11 55 [] (o_cw ad ca u55_rt u55_Sj u55_T0 u55_T1 u55_Rd q.2.2.2.2.1 q.2.2.2.2.2.1 u55_Mk u55_Lk u55_Ck q.2.2.2.2.2.2.2.2 q.2.2.2.2.2.2.1 q.2.2.2.2.2.2.2.1) [(0, .ref (ad 49)), (1, .int u55_x1), (2, .int u55_x2), (3, .int u55_x3), (4, .int q.2.1), (5, .int u55_x5), (6, .int q.2.2.1), (7, .int q.2.2.2.1)]) (h1 : q.1 ≠ 0 → (o_At p l e (rm_Jd_evaluate (d + 1)) s m args below meth c Q o_cls D A 11 275 [] (o_cw ad ca u55_rt u55_Sj u55_T0 u55_T1 u55_Rd q.2.2.2.2.1 q.2.2.2.2.2.1 u55_Mk u55_Lk u55_Ck q.2.2.2.2.2.2.2.2 q.2.2.2.2.2.2.1 q.2.2.2.2.2.2.2.1) [(0, .ref (ad 49)), (1, .int u55_x1), (2, .int u55_x2), (3, .int u55_x3), (4, .int q.2.1), (5, .int u55_x5)])) : o_At p l e (rm_Jd_evaluate (d + 1)) s m args below meth c Q o_cls D A 11 178 [.ref (kd y2), .int y1, .ref (ad 39)] (o_cw ad ca u55_rt u55_Sj u55_T0 u55_T1 u55_Rd Pg Pt u55_Mk u55_Lk u55_Ck Jd Ld Pr) [(0, .ref (ad 49)), (1, .int u55_x1), (2, .int u55_x2), (3, .int u55_x3), (4, .int x4), (5, .int u55_x5), (6, .int x6), (7, .int x7)] := by
  unfold m_Jd_evaluate_j178 at h
  intro H locs ls hP hS hl
  have C0 := C
  obtain ⟨hx, hb, -, -, -, hown, hts, hK, -, -⟩ := C0
  obtain ⟨q14, hq14, h⟩ := o_bd_some h
  refine o_V (st1 := [.int q14]) (w1 := (o_cw ad ca u55_rt u55_Sj u55_T0 u55_T1 u55_Rd Pg Pt u55_Mk u55_Lk u55_Ck Jd Ld Pr)) hE.1 C (c_Mk_find hE l n y1 y2 gy2 u55_T0 u55_Mk u55_Sj u55_T1 u55_Rd Pg Pt u55_Lk u55_Ck Jd Ld Pr u55_rt hq14) hP (hDD _ _ _ _ _ _ _ _ _ _ _ _ _) hS hl.1 rfl cw_39 k_6_73 k_6_74 k_6_75 k_1_6 k_6_76 hv_Mk_find rfl rfl ⟨(by dsimp only [rm_Jd_evaluate, rm_Mk_find]; omega), (by dsimp only [rm_Jd_evaluate, rm_Mk_find]; omega)⟩ rfl (Nat.le_of_ble_eq_true rfl) ⟨Nat.zero_le _, Nat.zero_le _⟩ rfl d_Jd_evaluate_178 (fun H locs hP hS => ?_)
  refine lv_istore (lv' := [(8, .int q14), (0, .ref (ad 49)), (1, .int u55_x1), (2, .int u55_x2), (3, .int u55_x3), (4, .int x4), (5, .int u55_x5), (6, .int x6), (7, .int x7)]) hx hb d_Jd_evaluate_181 hl (by decide) rfl (fun ls hl => ?_)
  refine lv_aload_n hx hb d_Jd_evaluate_183 rfl (lv_at hl 1 rfl) ?_
  refine o_get (v := .ref (ad 39)) C in_Jd hP 49 cw_49 rfl 1 (by decide) k_2_75 rfl rfl d_Jd_evaluate_184 ?_
  refine lv_iload hx hb d_Jd_evaluate_187 (lv_at hl 0 rfl) ?_
  obtain ⟨q15, hq15, h⟩ := o_bd_some h
  obtain ⟨g17, h⟩ := o_gd_some h
  refine o_V (st1 := [.ref (kd q15)]) (w1 := (o_cw ad ca u55_rt u55_Sj u55_T0 u55_T1 u55_Rd Pg Pt u55_Mk u55_Lk u55_Ck Jd Ld Pr)) hE.1 C (c_Mk_keyword hE l q14 u55_Mk u55_Sj u55_T0 u55_T1 u55_Rd Pg Pt u55_Lk u55_Ck Jd Ld Pr u55_rt hq15) hP (hDD _ _ _ _ _ _ _ _ _ _ _ _ _) hS hl.1 rfl cw_39 k_6_27 k_5_123 k_5_124 k_1_6 k_5_125 hv_Mk_keyword rfl rfl ⟨(by dsimp only [rm_Jd_evaluate, rm_Mk_keyword]; omega), (by dsimp only [rm_Jd_evaluate, rm_Mk_keyword]; omega)⟩ rfl (Nat.le_of_ble_eq_true rfl) ⟨Nat.zero_le _, Nat.zero_le _⟩ rfl d_Jd_evaluate_189 (fun H locs hP hS => ?_)
  refine lv_astore (lv' := [(9, .ref (kd q15)), (8, .int q14), (0, .ref (ad 49)), (1, .int u55_x1), (2, .int u55_x2), (3, .int u55_x3), (4, .int x4), (5, .int u55_x5), (6, .int x6), (7, .int x7)]) hx hb d_Jd_evaluate_192 hl (by decide) rfl (fun ls hl => ?_)
  exact w_Jd_evaluate_j194 hE C hDD d rec hrec n u55_x1 u55_x2 u55_x3 u55_x5 u55_T0 u55_T1 u55_Mk u55_Sj u55_Rd u55_Lk u55_Ck u55_rt x4 x6 x7 q14 q15 g17 Pg Pt Ld Pr Jd h h0 h1 _ _ _ hP hS (lv_sub hl [2, 3, 4, 5, 6, 7, 8, 9, 1, 0] rfl)
set_option maxHeartbeats 4000000 in
set_option maxRecDepth 100000 in
theorem w_Jd_evaluate_j117 {E : (Nat → Prop) → State → Heap → Prop} {p : Program} {l : Launch} {e : Env} {s : State} {m : MethodId} {args : Array Value} {below : List Frame} {meth : Method} {c : Code} {D : va_G} {ad kd sd vd xd : Nat → Nat} {ca : Nat → ClassId} {A : Nat → Prop} {Q : State → Prop} (hE : o_EK E kd sd vd xd) (C : o_Cx E p s m args meth c D o_cls (o_tys ca) "SchemaJudge$Judge" b_Jd_evaluate (some .boolean) 11 cc_Jd_evaluate A) (hDD : ∀ (rt : Nat) (Sj : SSJ) (T0 : STx) (T1 : STx) (Rd : SRd) (Pg : SPg) (Pt : SPt) (Mk : SMk) (Lk : SLk) (Ck : SCk) (Jd : SJd) (Ld : SLd) (Pr : SPr), va_D A (o_cw ad ca rt Sj T0 T1 Rd Pg Pt Mk Lk Ck Jd Ld Pr)) (d : Nat) (rec : Int32 → Int32 → Int32 → STx → STx → SPg → SPt → SMk → SLd → SPr → SJd → Option (Int32 × SPg × SPt × SLd × SPr × SJd)) (hrec : ∀ (x1 : Int32) (x2 : Int32) (x3 : Int32) (T0 : STx) (T1 : STx) (Pg : SPg) (Pt : SPt) (Mk : SMk) (Ld : SLd) (Pr : SPr) (Jd : SJd) (Sj : SSJ) (Rd : SRd) (Lk : SLk) (Ck : SCk) (rt : Nat) (r : Int32 × SPg × SPt × SLd × SPr × SJd), rec x1 x2 x3 T0 T1 Pg Pt Mk Ld Pr Jd = some r → o_Cn E l D o_cls (o_tys ca) y_Jd_evaluate cc_Jd_evaluate (rm_Jd_evaluate d) [.ref (ad 49), .int x1, .int x2, .int x3] (o_cw ad ca rt Sj T0 T1 Rd Pg Pt Mk Lk Ck Jd Ld Pr) (o_cw ad ca rt Sj T0 T1 Rd r.2.1 r.2.2.1 Mk Lk Ck r.2.2.2.2.2 r.2.2.2.1 r.2.2.2.2.1) (some (.int r.1))) (n : Nat) (u55_x1 : Int32) (u55_x2 : Int32) (u55_x3 : Int32) (u55_x5 : Int32) (u55_T0 : STx) (u55_T1 : STx) (u55_Mk : SMk) (u55_Sj : SSJ) (u55_Rd : SRd) (u55_Lk : SLk) (u55_Ck : SCk) (u55_rt : Nat) (x4 : Int32) (x6 : Int32) (x7 : Int32) (x8 : Int32) (x9 : Nat) (gx9 : o_kb x9 = true) (y0 : Int32) (y1 : Int32) (Pg : SPg) (Pt : SPt) (Ld : SLd) (Pr : SPr) (Jd : SJd) {q : Nat × Int32 × Int32 × Int32 × SPg × SPt × SLd × SPr × SJd} (h : m_Jd_evaluate_j117 n rec u55_x1 u55_x2 u55_x3 x4 u55_x5 x6 x7 x8 x9 y0 y1 u55_T0 u55_T1 Pg Pt u55_Mk Ld Pr Jd = some q) (h0 : q.1 = 0 → o_At p l e (rm_Jd_evaluate (d + 1)) s m args below meth c Q o_cls D A 11 55 [] (o_cw ad ca u55_rt u55_Sj u55_T0 u55_T1 u55_Rd q.2.2.2.2.1 q.2.2.2.2.2.1 u55_Mk u55_Lk u55_Ck q.2.2.2.2.2.2.2.2 q.2.2.2.2.2.2.1 q.2.2.2.2.2.2.2.1) [(0, .ref (ad 49)), (1, .int u55_x1), (2, .int u55_x2), (3, .int u55_x3), (4, .int q.2.1), (5, .int u55_x5), (6, .int q.2.2.1), (7, .int q.2.2.2.1)]) (h1 : q.1 ≠ 0 → (o_At p l e (rm_Jd_evaluate (d + 1)) s m args below meth c Q o_cls D A 11 275 [] (o_cw ad ca u55_rt u55_Sj u55_T0 u55_T1 u55_Rd q.2.2.2.2.1 q.2.2.2.2.2.1 u55_Mk u55_Lk u55_Ck q.2.2.2.2.2.2.2.2 q.2.2.2.2.2.2.1 q.2.2.2.2.2.2.2.1) [(0, .ref (ad 49)), (1, .int u55_x1), (2, .int u55_x2), (3, .int u55_x3), (4, .int q.2.1), (5, .int u55_x5)])) : o_At p l e (rm_Jd_evaluate (d + 1)) s m args below meth c Q o_cls D A 11 117 [.int y1, .int y0] (o_cw ad ca u55_rt u55_Sj u55_T0 u55_T1 u55_Rd Pg Pt u55_Mk u55_Lk u55_Ck Jd Ld Pr) [(0, .ref (ad 49)), (1, .int u55_x1), (2, .int u55_x2), (3, .int u55_x3), (4, .int x4), (5, .int u55_x5), (6, .int x6), (7, .int x7), (8, .int x8), (9, .ref (kd x9))] := by
  unfold m_Jd_evaluate_j117 at h
  intro H locs ls hP hS hl
  have C0 := C
  obtain ⟨hx, hb, -, -, -, hown, hts, hK, -, -⟩ := C0
  refine lv_icmp_ne (tgt := 269) hx hb d_Jd_evaluate_117 (by decide) (fun c8 => ?_) (fun c8 => ?_)
  · replace h := o_ff c8 h
    obtain ⟨x7_269, ex7_269⟩ : ∃ y : Int32, y = x7 + (1:Int32) := ⟨_, rfl⟩
    replace h := o_nm_at ex7_269 h
    refine lv_iinc (v := x7_269) (lv' := [(7, .int x7_269), (0, .ref (ad 49)), (1, .int u55_x1), (2, .int u55_x2), (3, .int u55_x3), (4, .int x4), (5, .int u55_x5), (6, .int x6), (8, .int x8), (9, .ref (kd x9))]) hx hb d_Jd_evaluate_269 hl (k := 7) rfl (by rw [ex7_269]; rfl) (by decide) rfl (fun ls hl => ?_)
    refine lv_goto (tgt := 55) hx hb d_Jd_evaluate_272 (by decide) ?_
    cases h
    exact h0 rfl _ _ _ hP hS (lv_sub hl [1, 2, 3, 4, 5, 6, 7, 0] rfl)
  · replace h := o_tt c8 h
    refine lv_aload hx hb d_Jd_evaluate_120 (lv_at hl 9 rfl) ?_
    refine va_gets (v := .ref (kd 3)) hx hb ((hE.2.2.1 _ _ _ C.2.2.2.2.2.2.2.2.2).1 3 (by decide)).1 hS hown (hts _ k_6_37) (fun _ h9 => h9) d_Jd_evaluate_122 ?_
    refine lv_acmp_eq (rx := some (kd x9)) (ry := some (kd 3)) (tgt := 269) hx hb d_Jd_evaluate_125 (by decide) (fun c9 => ?_) (fun c9 => ?_)
    · replace h := o_tt (o_ki hE C gx9 rfl c9) h
      obtain ⟨x7_269, ex7_269⟩ : ∃ y : Int32, y = x7 + (1:Int32) := ⟨_, rfl⟩
      replace h := o_nm_at ex7_269 h
      refine lv_iinc (v := x7_269) (lv' := [(7, .int x7_269), (0, .ref (ad 49)), (1, .int u55_x1), (2, .int u55_x2), (3, .int u55_x3), (4, .int x4), (5, .int u55_x5), (6, .int x6), (8, .int x8), (9, .ref (kd x9))]) hx hb d_Jd_evaluate_269 hl (k := 7) rfl (by rw [ex7_269]; rfl) (by decide) rfl (fun ls hl => ?_)
      refine lv_goto (tgt := 55) hx hb d_Jd_evaluate_272 (by decide) ?_
      cases h
      exact h0 rfl _ _ _ hP hS (lv_sub hl [1, 2, 3, 4, 5, 6, 7, 0] rfl)
    · replace h := o_ff (o_kn_ c9) h
      refine lv_aload hx hb d_Jd_evaluate_128 (lv_at hl 9 rfl) ?_
      refine va_gets (v := .ref (kd 4)) hx hb ((hE.2.2.1 _ _ _ C.2.2.2.2.2.2.2.2.2).1 4 (by decide)).1 hS hown (hts _ k_6_39) (fun _ h9 => h9) d_Jd_evaluate_130 ?_
      refine lv_acmp_ne (rx := some (kd x9)) (ry := some (kd 4)) (tgt := 139) hx hb d_Jd_evaluate_133 (by decide) (fun c10 => ?_) (fun c10 => ?_)
      · replace h := o_ff (o_kn_ c10) h
        refine lv_aload hx hb d_Jd_evaluate_139 (lv_at hl 9 rfl) ?_
        refine va_gets (v := .ref (kd 2)) hx hb ((hE.2.2.1 _ _ _ C.2.2.2.2.2.2.2.2.2).1 2 (by decide)).1 hS hown (hts _ k_6_41) (fun _ h9 => h9) d_Jd_evaluate_141 ?_
        refine lv_acmp_ne (rx := some (kd x9)) (ry := some (kd 2)) (tgt := 194) hx hb d_Jd_evaluate_144 (by decide) (fun c11 => ?_) (fun c11 => ?_)
        · replace h := o_ff (o_kn_ c11) h
          exact w_Jd_evaluate_j194 hE C hDD d rec hrec n u55_x1 u55_x2 u55_x3 u55_x5 u55_T0 u55_T1 u55_Mk u55_Sj u55_Rd u55_Lk u55_Ck u55_rt x4 x6 x7 x8 x9 gx9 Pg Pt Ld Pr Jd h h0 h1 _ _ _ hP hS (lv_sub hl [0, 1, 2, 3, 4, 5, 6, 7, 8, 9] rfl)
        · replace h := o_tt (o_ki hE C gx9 rfl c11) h
          refine lv_aload_n hx hb d_Jd_evaluate_147 rfl (lv_at hl 0 rfl) ?_
          refine lv_aload hx hb d_Jd_evaluate_148 (lv_at hl 9 rfl) ?_
          refine lv_iload hx hb d_Jd_evaluate_150 (lv_at hl 8 rfl) ?_
          refine lv_iload_n hx hb d_Jd_evaluate_152 rfl (lv_at hl 2 rfl) ?_
          refine lv_iload_n hx hb d_Jd_evaluate_153 rfl (lv_at hl 3 rfl) ?_
          obtain ⟨q13, hq13, h⟩ := o_bd_some h
          refine o_V (st1 := [.int q13.1]) (w1 := (o_cw ad ca u55_rt u55_Sj u55_T0 u55_T1 u55_Rd q13.2.1 q13.2.2.1 u55_Mk u55_Lk u55_Ck q13.2.2.2.2.2 q13.2.2.2.1 q13.2.2.2.2.1)) hE.1 C (c_Jd_apply hE l n d rec hrec x9 gx9 x8 u55_x2 u55_x3 u55_T0 u55_T1 Pg Pt u55_Mk Ld Pr Jd u55_Sj u55_Rd u55_Lk u55_Ck u55_rt hq13) hP (hDD _ _ _ _ _ _ _ _ _ _ _ _ _) hS hl.1 rfl cw_49 k_6_43 k_6_45 k_s_60 k_1_9 k_6_46 hv_Jd_apply rfl rfl ⟨(by dsimp only [rm_Jd_evaluate, rm_Jd_apply]; omega), (by dsimp only [rm_Jd_evaluate, rm_Jd_apply]; omega)⟩ rfl (Nat.le_of_ble_eq_true rfl) ⟨Nat.zero_le _, Nat.zero_le _⟩ rfl d_Jd_evaluate_154 (fun H locs hP hS => ?_)
          refine lv_istore (lv' := [(10, .int q13.1), (0, .ref (ad 49)), (1, .int u55_x1), (2, .int u55_x2), (3, .int u55_x3), (4, .int x4), (5, .int u55_x5), (6, .int x6), (7, .int x7), (8, .int x8), (9, .ref (kd x9))]) hx hb d_Jd_evaluate_157 hl (by decide) rfl (fun ls hl => ?_)
          refine lv_aload_n hx hb d_Jd_evaluate_159 rfl (lv_at hl 1 rfl) ?_
          refine o_get (v := .ref (ad 39)) C in_Jd hP 49 cw_49 rfl 1 (by decide) k_2_75 rfl rfl d_Jd_evaluate_160 ?_
          refine lv_iload_n hx hb d_Jd_evaluate_163 rfl (lv_at hl 2 rfl) ?_
          refine lv_iload hx hb d_Jd_evaluate_164 (lv_at hl 0 rfl) ?_
          refine lv_if_eq (tgt := 175) hx hb d_Jd_evaluate_166 (by decide) (fun c16 => ?_) (fun c16 => ?_)
          · replace h := o_tt c16 h
            refine va_gets (v := .ref (kd 4)) hx hb ((hE.2.2.1 _ _ _ C.2.2.2.2.2.2.2.2.2).1 4 (by decide)).1 hS hown (hts _ k_6_39) (fun _ h9 => h9) d_Jd_evaluate_175 ?_
            exact w_Jd_evaluate_j178 hE C hDD d rec hrec n u55_x1 u55_x2 u55_x3 u55_x5 u55_T0 u55_T1 u55_Mk u55_Sj u55_Rd u55_Lk u55_Ck u55_rt x4 x6 x7 u55_x1 4 rfl q13.2.1 q13.2.2.1 q13.2.2.2.1 q13.2.2.2.2.1 q13.2.2.2.2.2 h h0 h1 _ _ _ hP hS (lv_sub hl [1, 2, 3, 4, 5, 6, 7, 8] rfl)
          · replace h := o_ff c16 h
            refine va_gets (v := .ref (kd 3)) hx hb ((hE.2.2.1 _ _ _ C.2.2.2.2.2.2.2.2.2).1 3 (by decide)).1 hS hown (hts _ k_6_37) (fun _ h9 => h9) d_Jd_evaluate_169 ?_
            refine lv_goto (tgt := 178) hx hb d_Jd_evaluate_172 (by decide) ?_
            exact w_Jd_evaluate_j178 hE C hDD d rec hrec n u55_x1 u55_x2 u55_x3 u55_x5 u55_T0 u55_T1 u55_Mk u55_Sj u55_Rd u55_Lk u55_Ck u55_rt x4 x6 x7 u55_x1 3 rfl q13.2.1 q13.2.2.1 q13.2.2.2.1 q13.2.2.2.2.1 q13.2.2.2.2.2 h h0 h1 _ _ _ hP hS (lv_sub hl [1, 2, 3, 4, 5, 6, 7, 8] rfl)
      · replace h := o_tt (o_ki hE C gx9 rfl c10) h
        refine lv_goto (tgt := 269) hx hb d_Jd_evaluate_136 (by decide) ?_
        obtain ⟨x7_269, ex7_269⟩ : ∃ y : Int32, y = x7 + (1:Int32) := ⟨_, rfl⟩
        replace h := o_nm_at ex7_269 h
        refine lv_iinc (v := x7_269) (lv' := [(7, .int x7_269), (0, .ref (ad 49)), (1, .int u55_x1), (2, .int u55_x2), (3, .int u55_x3), (4, .int x4), (5, .int u55_x5), (6, .int x6), (8, .int x8), (9, .ref (kd x9))]) hx hb d_Jd_evaluate_269 hl (k := 7) rfl (by rw [ex7_269]; rfl) (by decide) rfl (fun ls hl => ?_)
        refine lv_goto (tgt := 55) hx hb d_Jd_evaluate_272 (by decide) ?_
        cases h
        exact h0 rfl _ _ _ hP hS (lv_sub hl [1, 2, 3, 4, 5, 6, 7, 0] rfl)
set_option maxHeartbeats 4000000 in
set_option maxRecDepth 100000 in
theorem w_Jd_evaluate_b55 {E : (Nat → Prop) → State → Heap → Prop} {p : Program} {l : Launch} {e : Env} {s : State} {m : MethodId} {args : Array Value} {below : List Frame} {meth : Method} {c : Code} {D : va_G} {ad kd sd vd xd : Nat → Nat} {ca : Nat → ClassId} {A : Nat → Prop} {Q : State → Prop} (hE : o_EK E kd sd vd xd) (C : o_Cx E p s m args meth c D o_cls (o_tys ca) "SchemaJudge$Judge" b_Jd_evaluate (some .boolean) 11 cc_Jd_evaluate A) (hDD : ∀ (rt : Nat) (Sj : SSJ) (T0 : STx) (T1 : STx) (Rd : SRd) (Pg : SPg) (Pt : SPt) (Mk : SMk) (Lk : SLk) (Ck : SCk) (Jd : SJd) (Ld : SLd) (Pr : SPr), va_D A (o_cw ad ca rt Sj T0 T1 Rd Pg Pt Mk Lk Ck Jd Ld Pr)) (d : Nat) (rec : Int32 → Int32 → Int32 → STx → STx → SPg → SPt → SMk → SLd → SPr → SJd → Option (Int32 × SPg × SPt × SLd × SPr × SJd)) (hrec : ∀ (x1 : Int32) (x2 : Int32) (x3 : Int32) (T0 : STx) (T1 : STx) (Pg : SPg) (Pt : SPt) (Mk : SMk) (Ld : SLd) (Pr : SPr) (Jd : SJd) (Sj : SSJ) (Rd : SRd) (Lk : SLk) (Ck : SCk) (rt : Nat) (r : Int32 × SPg × SPt × SLd × SPr × SJd), rec x1 x2 x3 T0 T1 Pg Pt Mk Ld Pr Jd = some r → o_Cn E l D o_cls (o_tys ca) y_Jd_evaluate cc_Jd_evaluate (rm_Jd_evaluate d) [.ref (ad 49), .int x1, .int x2, .int x3] (o_cw ad ca rt Sj T0 T1 Rd Pg Pt Mk Lk Ck Jd Ld Pr) (o_cw ad ca rt Sj T0 T1 Rd r.2.1 r.2.2.1 Mk Lk Ck r.2.2.2.2.2 r.2.2.2.1 r.2.2.2.2.1) (some (.int r.1))) (n : Nat) (u55_x1 : Int32) (u55_x2 : Int32) (u55_x3 : Int32) (u55_x5 : Int32) (u55_T0 : STx) (u55_T1 : STx) (u55_Mk : SMk) (u55_Sj : SSJ) (u55_Rd : SRd) (u55_Lk : SLk) (u55_Ck : SCk) (u55_rt : Nat) (z : Int32 × Int32 × Int32 × SPg × SPt × SLd × SPr × SJd) (q : Nat × Int32 × Int32 × Int32 × SPg × SPt × SLd × SPr × SJd) (h : m_Jd_evaluate_b55 n rec u55_x1 u55_x2 u55_x3 u55_x5 u55_T0 u55_T1 u55_Mk z = some q) (h0 : q.1 = 0 → o_At p l e (rm_Jd_evaluate (d + 1)) s m args below meth c Q o_cls D A 11 55 [] (o_cw ad ca u55_rt u55_Sj u55_T0 u55_T1 u55_Rd q.2.2.2.2.1 q.2.2.2.2.2.1 u55_Mk u55_Lk u55_Ck q.2.2.2.2.2.2.2.2 q.2.2.2.2.2.2.1 q.2.2.2.2.2.2.2.1) [(0, .ref (ad 49)), (1, .int u55_x1), (2, .int u55_x2), (3, .int u55_x3), (4, .int q.2.1), (5, .int u55_x5), (6, .int q.2.2.1), (7, .int q.2.2.2.1)]) (h1 : q.1 ≠ 0 → (o_At p l e (rm_Jd_evaluate (d + 1)) s m args below meth c Q o_cls D A 11 275 [] (o_cw ad ca u55_rt u55_Sj u55_T0 u55_T1 u55_Rd q.2.2.2.2.1 q.2.2.2.2.2.1 u55_Mk u55_Lk u55_Ck q.2.2.2.2.2.2.2.2 q.2.2.2.2.2.2.1 q.2.2.2.2.2.2.2.1) [(0, .ref (ad 49)), (1, .int u55_x1), (2, .int u55_x2), (3, .int u55_x3), (4, .int q.2.1), (5, .int u55_x5)])) : o_At p l e (rm_Jd_evaluate (d + 1)) s m args below meth c Q o_cls D A 11 55 [] (o_cw ad ca u55_rt u55_Sj u55_T0 u55_T1 u55_Rd z.2.2.2.1 z.2.2.2.2.1 u55_Mk u55_Lk u55_Ck z.2.2.2.2.2.2.2 z.2.2.2.2.2.1 z.2.2.2.2.2.2.1) [(0, .ref (ad 49)), (1, .int u55_x1), (2, .int u55_x2), (3, .int u55_x3), (4, .int z.1), (5, .int u55_x5), (6, .int z.2.1), (7, .int z.2.2.1)] := by
  unfold m_Jd_evaluate_b55 at h
  intro H locs ls hP hS hl
  have C0 := C
  obtain ⟨hx, hb, -, -, -, hown, hts, hK, -, -⟩ := C0
  refine lv_iload hx hb d_Jd_evaluate_55 (lv_at hl 7 rfl) ?_
  refine lv_aload_n hx hb d_Jd_evaluate_57 rfl (lv_at hl 0 rfl) ?_
  refine o_get (v := .ref (ad 1)) C in_Jd hP 49 cw_49 rfl 0 (by decide) k_2_74 rfl rfl d_Jd_evaluate_58 ?_
  refine lv_iload_n hx hb d_Jd_evaluate_61 rfl (lv_at hl 1 rfl) ?_
  obtain ⟨q4, hq4, h⟩ := o_bd_some h
  refine o_V (st1 := [.int q4, .int z.2.2.1]) (w1 := (o_cw ad ca u55_rt u55_Sj u55_T0 u55_T1 u55_Rd z.2.2.2.1 z.2.2.2.2.1 u55_Mk u55_Lk u55_Ck z.2.2.2.2.2.2.2 z.2.2.2.2.2.1 z.2.2.2.2.2.2.1)) hE.1 C (c_Tx_size_0 hE l u55_x1 u55_T0 u55_Sj u55_T1 u55_Rd z.2.2.2.1 z.2.2.2.2.1 u55_Mk u55_Lk u55_Ck z.2.2.2.2.2.2.2 z.2.2.2.2.2.1 z.2.2.2.2.2.2.1 u55_rt hq4) hP (hDD _ _ _ _ _ _ _ _ _ _ _ _ _) hS hl.1 rfl cw_1 k_6_26 k_3_215 k_3_216 k_1_2 k_3_217 hv_Tx_size rfl rfl ⟨(by dsimp only [rm_Jd_evaluate, rm_Tx_size]; omega), (by dsimp only [rm_Jd_evaluate, rm_Tx_size]; omega)⟩ rfl (Nat.le_of_ble_eq_true rfl) ⟨Nat.zero_le _, Nat.zero_le _⟩ rfl d_Jd_evaluate_62 (fun H locs hP hS => ?_)
  refine lv_icmp_ge (tgt := 275) hx hb d_Jd_evaluate_65 (by decide) (fun c4 => ?_) (fun c4 => ?_)
  · replace h := o_tt c4 h
    cases h
    exact h1 (Nat.succ_ne_zero 0) _ _ _ hP hS (lv_sub hl [0, 1, 2, 3, 4, 5] rfl)
  · replace h := o_ff c4 h
    refine lv_aload_n hx hb d_Jd_evaluate_68 rfl (lv_at hl 0 rfl) ?_
    refine o_get (v := .int (Jd_over z.2.2.2.2.2.2.2)) C in_Jd hP 49 cw_49 rfl 9 (by decide) k_2_83 rfl rfl d_Jd_evaluate_69 ?_
    refine lv_if_ne (tgt := 275) hx hb d_Jd_evaluate_72 (by decide) (fun c5 => ?_) (fun c5 => ?_)
    · replace h := o_ff c5 h
      cases h
      exact h1 (Nat.succ_ne_zero 0) _ _ _ hP hS (lv_sub hl [0, 1, 2, 3, 4, 5] rfl)
    · replace h := o_tt c5 h
      refine lv_iload hx hb d_Jd_evaluate_75 (lv_at hl 6 rfl) ?_
      refine lv_istore (lv' := [(8, .int z.2.1), (0, .ref (ad 49)), (1, .int u55_x1), (2, .int u55_x2), (3, .int u55_x3), (4, .int z.1), (5, .int u55_x5), (6, .int z.2.1), (7, .int z.2.2.1)]) hx hb d_Jd_evaluate_77 hl (by decide) rfl (fun ls hl => ?_)
      refine lv_aload_n hx hb d_Jd_evaluate_79 rfl (lv_at hl 1 rfl) ?_
      refine o_get (v := .ref (ad 39)) C in_Jd hP 49 cw_49 rfl 1 (by decide) k_2_75 rfl rfl d_Jd_evaluate_80 ?_
      refine lv_iload hx hb d_Jd_evaluate_83 (lv_at hl 7 rfl) ?_
      obtain ⟨q5, hq5, h⟩ := o_bd_some h
      obtain ⟨g6, h⟩ := o_gd_some h
      refine o_V (st1 := [.ref (kd q5)]) (w1 := (o_cw ad ca u55_rt u55_Sj u55_T0 u55_T1 u55_Rd z.2.2.2.1 z.2.2.2.2.1 u55_Mk u55_Lk u55_Ck z.2.2.2.2.2.2.2 z.2.2.2.2.2.1 z.2.2.2.2.2.2.1)) hE.1 C (c_Mk_keyword hE l z.2.1 u55_Mk u55_Sj u55_T0 u55_T1 u55_Rd z.2.2.2.1 z.2.2.2.2.1 u55_Lk u55_Ck z.2.2.2.2.2.2.2 z.2.2.2.2.2.1 z.2.2.2.2.2.2.1 u55_rt hq5) hP (hDD _ _ _ _ _ _ _ _ _ _ _ _ _) hS hl.1 rfl cw_39 k_6_27 k_5_123 k_5_124 k_1_6 k_5_125 hv_Mk_keyword rfl rfl ⟨(by dsimp only [rm_Jd_evaluate, rm_Mk_keyword]; omega), (by dsimp only [rm_Jd_evaluate, rm_Mk_keyword]; omega)⟩ rfl (Nat.le_of_ble_eq_true rfl) ⟨Nat.zero_le _, Nat.zero_le _⟩ rfl d_Jd_evaluate_85 (fun H locs hP hS => ?_)
      refine lv_astore (lv' := [(9, .ref (kd q5)), (8, .int z.2.1), (0, .ref (ad 49)), (1, .int u55_x1), (2, .int u55_x2), (3, .int u55_x3), (4, .int z.1), (5, .int u55_x5), (6, .int z.2.1), (7, .int z.2.2.1)]) hx hb d_Jd_evaluate_88 hl (by decide) rfl (fun ls hl => ?_)
      refine lv_aload_n hx hb d_Jd_evaluate_90 rfl (lv_at hl 2 rfl) ?_
      refine o_get (v := .ref (ad 1)) C in_Jd hP 49 cw_49 rfl 0 (by decide) k_2_74 rfl rfl d_Jd_evaluate_91 ?_
      refine lv_iload hx hb d_Jd_evaluate_94 (lv_at hl 8 rfl) ?_
      obtain ⟨q6, hq6, h⟩ := o_bd_some h
      refine o_V (st1 := [.int q6]) (w1 := (o_cw ad ca u55_rt u55_Sj u55_T0 u55_T1 u55_Rd z.2.2.2.1 z.2.2.2.2.1 u55_Mk u55_Lk u55_Ck z.2.2.2.2.2.2.2 z.2.2.2.2.2.1 z.2.2.2.2.2.2.1)) hE.1 C (c_Tx_nextChild_0 hE l z.2.1 u55_T0 u55_Sj u55_T1 u55_Rd z.2.2.2.1 z.2.2.2.2.1 u55_Mk u55_Lk u55_Ck z.2.2.2.2.2.2.2 z.2.2.2.2.2.1 z.2.2.2.2.2.2.1 u55_rt hq6) hP (hDD _ _ _ _ _ _ _ _ _ _ _ _ _) hS hl.1 rfl cw_1 k_6_28 k_3_222 k_3_223 k_1_2 k_3_224 hv_Tx_nextChild rfl rfl ⟨(by dsimp only [rm_Jd_evaluate, rm_Tx_nextChild]; omega), (by dsimp only [rm_Jd_evaluate, rm_Tx_nextChild]; omega)⟩ rfl (Nat.le_of_ble_eq_true rfl) ⟨Nat.zero_le _, Nat.zero_le _⟩ rfl d_Jd_evaluate_96 (fun H locs hP hS => ?_)
      refine lv_istore (lv' := [(6, .int q6), (9, .ref (kd q5)), (8, .int z.2.1), (0, .ref (ad 49)), (1, .int u55_x1), (2, .int u55_x2), (3, .int u55_x3), (4, .int z.1), (5, .int u55_x5), (7, .int z.2.2.1)]) hx hb d_Jd_evaluate_99 hl (by decide) rfl (fun ls hl => ?_)
      refine lv_aload hx hb d_Jd_evaluate_101 (lv_at hl 1 rfl) ?_
      obtain ⟨q7, hq7, h⟩ := o_bd_some h
      refine o_VR (K := "SchemaJudge$Keyword") (st1 := [.int q7]) (w1 := (o_cw ad ca u55_rt u55_Sj u55_T0 u55_T1 u55_Rd z.2.2.2.1 z.2.2.2.2.1 u55_Mk u55_Lk u55_Ck z.2.2.2.2.2.2.2 z.2.2.2.2.2.1 z.2.2.2.2.2.2.1)) hE.1 C (c_Kw_comesLast hE l q5 g6 u55_Sj u55_T0 u55_T1 u55_Rd z.2.2.2.1 z.2.2.2.2.1 u55_Mk u55_Lk u55_Ck z.2.2.2.2.2.2.2 z.2.2.2.2.2.1 z.2.2.2.2.2.2.1 u55_rt hq7) hP (hDD _ _ _ _ _ _ _ _ _ _ _ _ _) hS hl.1 (o_rk hE C g6 hS) k_6_29 k_6_30 k_6_31 k_1_25 k_6_32 hv_Kw_comesLast rfl rfl ⟨(by dsimp only [rm_Jd_evaluate, rm_Kw_comesLast]; omega), (by dsimp only [rm_Jd_evaluate, rm_Kw_comesLast]; omega)⟩ rfl (Nat.le_of_ble_eq_true rfl) ⟨Nat.zero_le _, Nat.zero_le _⟩ rfl d_Jd_evaluate_103 (fun H locs hP hS => ?_)
      refine lv_iload hx hb d_Jd_evaluate_106 (lv_at hl 8 rfl) ?_
      refine lv_iconst (v := (1:Int32)) hx hb d_Jd_evaluate_108 (by decide) ?_
      refine lv_icmp_ne (tgt := 116) hx hb d_Jd_evaluate_109 (by decide) (fun c7 => ?_) (fun c7 => ?_)
      · replace h := o_ff c7 h
        refine lv_iconst (v := (0:Int32)) hx hb d_Jd_evaluate_116 (by decide) ?_
        exact w_Jd_evaluate_j117 hE C hDD d rec hrec n u55_x1 u55_x2 u55_x3 u55_x5 u55_T0 u55_T1 u55_Mk u55_Sj u55_Rd u55_Lk u55_Ck u55_rt z.1 q6 z.2.2.1 z.2.1 q5 g6 q7 (0:Int32) z.2.2.2.1 z.2.2.2.2.1 z.2.2.2.2.2.1 z.2.2.2.2.2.2.1 z.2.2.2.2.2.2.2 h h0 h1 _ _ _ hP hS (lv_sub hl [3, 4, 5, 6, 7, 8, 0, 9, 2, 1] rfl)
      · replace h := o_tt c7 h
        refine lv_iconst (v := (1:Int32)) hx hb d_Jd_evaluate_112 (by decide) ?_
        refine lv_goto (tgt := 117) hx hb d_Jd_evaluate_113 (by decide) ?_
        exact w_Jd_evaluate_j117 hE C hDD d rec hrec n u55_x1 u55_x2 u55_x3 u55_x5 u55_T0 u55_T1 u55_Mk u55_Sj u55_Rd u55_Lk u55_Ck u55_rt z.1 q6 z.2.2.1 z.2.1 q5 g6 q7 (1:Int32) z.2.2.2.1 z.2.2.2.2.1 z.2.2.2.2.2.1 z.2.2.2.2.2.2.1 z.2.2.2.2.2.2.2 h h0 h1 _ _ _ hP hS (lv_sub hl [3, 4, 5, 6, 7, 8, 0, 9, 2, 1] rfl)
set_option maxHeartbeats 4000000 in
set_option maxRecDepth 100000 in
theorem w_Jd_evaluate_b36 {E : (Nat → Prop) → State → Heap → Prop} {p : Program} {l : Launch} {e : Env} {s : State} {m : MethodId} {args : Array Value} {below : List Frame} {meth : Method} {c : Code} {D : va_G} {ad kd sd vd xd : Nat → Nat} {ca : Nat → ClassId} {A : Nat → Prop} {Q : State → Prop} (hE : o_EK E kd sd vd xd) (C : o_Cx E p s m args meth c D o_cls (o_tys ca) "SchemaJudge$Judge" b_Jd_evaluate (some .boolean) 11 cc_Jd_evaluate A) (hDD : ∀ (rt : Nat) (Sj : SSJ) (T0 : STx) (T1 : STx) (Rd : SRd) (Pg : SPg) (Pt : SPt) (Mk : SMk) (Lk : SLk) (Ck : SCk) (Jd : SJd) (Ld : SLd) (Pr : SPr), va_D A (o_cw ad ca rt Sj T0 T1 Rd Pg Pt Mk Lk Ck Jd Ld Pr)) (d : Nat) (rec : Int32 → Int32 → Int32 → STx → STx → SPg → SPt → SMk → SLd → SPr → SJd → Option (Int32 × SPg × SPt × SLd × SPr × SJd)) (hrec : ∀ (x1 : Int32) (x2 : Int32) (x3 : Int32) (T0 : STx) (T1 : STx) (Pg : SPg) (Pt : SPt) (Mk : SMk) (Ld : SLd) (Pr : SPr) (Jd : SJd) (Sj : SSJ) (Rd : SRd) (Lk : SLk) (Ck : SCk) (rt : Nat) (r : Int32 × SPg × SPt × SLd × SPr × SJd), rec x1 x2 x3 T0 T1 Pg Pt Mk Ld Pr Jd = some r → o_Cn E l D o_cls (o_tys ca) y_Jd_evaluate cc_Jd_evaluate (rm_Jd_evaluate d) [.ref (ad 49), .int x1, .int x2, .int x3] (o_cw ad ca rt Sj T0 T1 Rd Pg Pt Mk Lk Ck Jd Ld Pr) (o_cw ad ca rt Sj T0 T1 Rd r.2.1 r.2.2.1 Mk Lk Ck r.2.2.2.2.2 r.2.2.2.1 r.2.2.2.2.1) (some (.int r.1))) (n : Nat) (u36_x1 : Int32) (u36_x2 : Int32) (u36_x3 : Int32) (u36_T0 : STx) (u36_T1 : STx) (u36_Mk : SMk) (u36_Sj : SSJ) (u36_Rd : SRd) (u36_Lk : SLk) (u36_Ck : SCk) (u36_rt : Nat) (z : Int32 × Int32 × SPg × SPt × SLd × SPr × SJd) (q : Nat × Int32 × Int32 × SPg × SPt × SLd × SPr × SJd) (h : m_Jd_evaluate_b36 n rec u36_x1 u36_x2 u36_x3 u36_T0 u36_T1 u36_Mk z = some q) (h0 : q.1 = 0 → o_At p l e (rm_Jd_evaluate (d + 1)) s m args below meth c Q o_cls D A 11 36 [] (o_cw ad ca u36_rt u36_Sj u36_T0 u36_T1 u36_Rd q.2.2.2.1 q.2.2.2.2.1 u36_Mk u36_Lk u36_Ck q.2.2.2.2.2.2.2 q.2.2.2.2.2.1 q.2.2.2.2.2.2.1) [(0, .ref (ad 49)), (1, .int u36_x1), (2, .int u36_x2), (3, .int u36_x3), (4, .int q.2.1), (5, .int q.2.2.1)]) (h1 : q.1 ≠ 0 → (o_At p l e (rm_Jd_evaluate (d + 1)) s m args below meth c Q o_cls D A 11 281 [] (o_cw ad ca u36_rt u36_Sj u36_T0 u36_T1 u36_Rd q.2.2.2.1 q.2.2.2.2.1 u36_Mk u36_Lk u36_Ck q.2.2.2.2.2.2.2 q.2.2.2.2.2.1 q.2.2.2.2.2.2.1) [(4, .int q.2.1)])) : o_At p l e (rm_Jd_evaluate (d + 1)) s m args below meth c Q o_cls D A 11 36 [] (o_cw ad ca u36_rt u36_Sj u36_T0 u36_T1 u36_Rd z.2.2.1 z.2.2.2.1 u36_Mk u36_Lk u36_Ck z.2.2.2.2.2.2 z.2.2.2.2.1 z.2.2.2.2.2.1) [(0, .ref (ad 49)), (1, .int u36_x1), (2, .int u36_x2), (3, .int u36_x3), (4, .int z.1), (5, .int z.2.1)] := by
  unfold m_Jd_evaluate_b36 at h
  intro H locs ls hP hS hl
  have C0 := C
  obtain ⟨hx, hb, -, -, -, hown, hts, hK, -, -⟩ := C0
  refine lv_iload hx hb d_Jd_evaluate_36 (lv_at hl 5 rfl) ?_
  refine lv_iconst (v := (2:Int32)) hx hb d_Jd_evaluate_38 (by decide) ?_
  refine lv_icmp_ge (tgt := 281) hx hb d_Jd_evaluate_39 (by decide) (fun c3 => ?_) (fun c3 => ?_)
  · replace h := o_tt c3 h
    cases h
    exact h1 (Nat.succ_ne_zero 0) _ _ _ hP hS (lv_sub hl [4] rfl)
  · replace h := o_ff c3 h
    refine lv_aload_n hx hb d_Jd_evaluate_42 rfl (lv_at hl 0 rfl) ?_
    refine o_get (v := .ref (ad 1)) C in_Jd hP 49 cw_49 rfl 0 (by decide) k_2_74 rfl rfl d_Jd_evaluate_43 ?_
    refine lv_iload_n hx hb d_Jd_evaluate_46 rfl (lv_at hl 1 rfl) ?_
    obtain ⟨q3, hq3, h⟩ := o_bd_some h
    refine o_V (st1 := [.int q3]) (w1 := (o_cw ad ca u36_rt u36_Sj u36_T0 u36_T1 u36_Rd z.2.2.1 z.2.2.2.1 u36_Mk u36_Lk u36_Ck z.2.2.2.2.2.2 z.2.2.2.2.1 z.2.2.2.2.2.1)) hE.1 C (c_Tx_firstChild_0 hE l u36_x1 u36_T0 u36_Sj u36_T1 u36_Rd z.2.2.1 z.2.2.2.1 u36_Mk u36_Lk u36_Ck z.2.2.2.2.2.2 z.2.2.2.2.1 z.2.2.2.2.2.1 u36_rt hq3) hP (hDD _ _ _ _ _ _ _ _ _ _ _ _ _) hS hl.1 rfl cw_1 k_6_25 k_3_211 k_3_212 k_1_2 k_3_213 hv_Tx_firstChild rfl rfl ⟨(by dsimp only [rm_Jd_evaluate, rm_Tx_firstChild]; omega), (by dsimp only [rm_Jd_evaluate, rm_Tx_firstChild]; omega)⟩ rfl (Nat.le_of_ble_eq_true rfl) ⟨Nat.zero_le _, Nat.zero_le _⟩ rfl d_Jd_evaluate_47 (fun H locs hP hS => ?_)
    refine lv_istore (lv' := [(6, .int q3), (0, .ref (ad 49)), (1, .int u36_x1), (2, .int u36_x2), (3, .int u36_x3), (4, .int z.1), (5, .int z.2.1)]) hx hb d_Jd_evaluate_50 hl (by decide) rfl (fun ls hl => ?_)
    refine lv_iconst (v := (0:Int32)) hx hb d_Jd_evaluate_52 (by decide) ?_
    refine lv_istore (lv' := [(7, .int (0:Int32)), (6, .int q3), (0, .ref (ad 49)), (1, .int u36_x1), (2, .int u36_x2), (3, .int u36_x3), (4, .int z.1), (5, .int z.2.1)]) hx hb d_Jd_evaluate_53 hl (by decide) rfl (fun ls hl => ?_)
    obtain ⟨q16, hq16, h⟩ := o_bd_some h
    refine o_sim2 (AH := fun zz => o_At p l e (rm_Jd_evaluate (d + 1)) s m args below meth c _ o_cls D A 11 55 [] (o_cw ad ca u36_rt u36_Sj u36_T0 u36_T1 u36_Rd zz.2.2.2.1 zz.2.2.2.2.1 u36_Mk u36_Lk u36_Ck zz.2.2.2.2.2.2.2 zz.2.2.2.2.2.1 zz.2.2.2.2.2.2.1) [(0, .ref (ad 49)), (1, .int u36_x1), (2, .int u36_x2), (3, .int u36_x3), (4, .int zz.1), (5, .int z.2.1), (6, .int zz.2.1), (7, .int zz.2.2.1)]) (AX := fun qq => o_At p l e (rm_Jd_evaluate (d + 1)) s m args below meth c _ o_cls D A 11 275 [] (o_cw ad ca u36_rt u36_Sj u36_T0 u36_T1 u36_Rd qq.2.2.2.2.1 qq.2.2.2.2.2.1 u36_Mk u36_Lk u36_Ck qq.2.2.2.2.2.2.2.2 qq.2.2.2.2.2.2.1 qq.2.2.2.2.2.2.2.1) [(0, .ref (ad 49)), (1, .int u36_x1), (2, .int u36_x2), (3, .int u36_x3), (4, .int qq.2.1), (5, .int z.2.1)]) (fun zz qq h h0 h1 => w_Jd_evaluate_b55 hE C hDD d rec hrec n u36_x1 u36_x2 u36_x3 z.2.1 u36_T0 u36_T1 u36_Mk u36_Sj u36_Rd u36_Lk u36_Ck u36_rt zz qq h h0 h1) n _ q16 hq16 ?_ _ _ _ hP hS (lv_sub hl [2, 3, 4, 5, 6, 7, 1, 0] rfl)
    intro H locs ls hP hS hl
    obtain ⟨x5_275, ex5_275⟩ : ∃ y : Int32, y = z.2.1 + (1:Int32) := ⟨_, rfl⟩
    replace h := o_nm_at ex5_275 h
    refine lv_iinc (v := x5_275) (lv' := [(5, .int x5_275), (0, .ref (ad 49)), (1, .int u36_x1), (2, .int u36_x2), (3, .int u36_x3), (4, .int q16.2.1)]) hx hb d_Jd_evaluate_275 hl (k := 5) rfl (by rw [ex5_275]; rfl) (by decide) rfl (fun ls hl => ?_)
    refine lv_goto (tgt := 36) hx hb d_Jd_evaluate_278 (by decide) ?_
    cases h
    exact h0 rfl _ _ _ hP hS (lv_sub hl [1, 2, 3, 4, 5, 0] rfl)
set_option maxHeartbeats 4000000 in
set_option maxRecDepth 100000 in
theorem c_Jd_evaluate_F {E : (Nat → Prop) → State → Heap → Prop} {D : va_G} {ad kd sd vd xd : Nat → Nat} {ca : Nat → ClassId} (hE : o_EK E kd sd vd xd) (l : Launch) (n : Nat) (d : Nat) (rec : Int32 → Int32 → Int32 → STx → STx → SPg → SPt → SMk → SLd → SPr → SJd → Option (Int32 × SPg × SPt × SLd × SPr × SJd)) (hrec : ∀ (x1 : Int32) (x2 : Int32) (x3 : Int32) (T0 : STx) (T1 : STx) (Pg : SPg) (Pt : SPt) (Mk : SMk) (Ld : SLd) (Pr : SPr) (Jd : SJd) (Sj : SSJ) (Rd : SRd) (Lk : SLk) (Ck : SCk) (rt : Nat) (r : Int32 × SPg × SPt × SLd × SPr × SJd), rec x1 x2 x3 T0 T1 Pg Pt Mk Ld Pr Jd = some r → o_Cn E l D o_cls (o_tys ca) y_Jd_evaluate cc_Jd_evaluate (rm_Jd_evaluate d) [.ref (ad 49), .int x1, .int x2, .int x3] (o_cw ad ca rt Sj T0 T1 Rd Pg Pt Mk Lk Ck Jd Ld Pr) (o_cw ad ca rt Sj T0 T1 Rd r.2.1 r.2.2.1 Mk Lk Ck r.2.2.2.2.2 r.2.2.2.1 r.2.2.2.2.1) (some (.int r.1))) (x1 : Int32) (x2 : Int32) (x3 : Int32) (T0 : STx) (T1 : STx) (Pg : SPg) (Pt : SPt) (Mk : SMk) (Ld : SLd) (Pr : SPr) (Jd : SJd) (Sj : SSJ) (Rd : SRd) (Lk : SLk) (Ck : SCk) (rt : Nat) {r : Int32 × SPg × SPt × SLd × SPr × SJd} (h : m_Jd_evaluate_F n rec x1 x2 x3 T0 T1 Pg Pt Mk Ld Pr Jd = some r) : o_Cn E l D o_cls (o_tys ca) y_Jd_evaluate cc_Jd_evaluate (rm_Jd_evaluate (d + 1)) [.ref (ad 49), .int x1, .int x2, .int x3] (o_cw ad ca rt Sj T0 T1 Rd Pg Pt Mk Lk Ck Jd Ld Pr) (o_cw ad ca rt Sj T0 T1 Rd r.2.1 r.2.2.1 Mk Lk Ck r.2.2.2.2.2 r.2.2.2.1 r.2.2.2.2.1) (some (.int r.1)) := by
  refine o_Cn_of (by decide) (Nat.le_of_ble_eq_true rfl) ?_
  intro p e s m below meth c A ls C hD hP hS hl
  have hDD : ∀ (rt : Nat) (Sj : SSJ) (T0 : STx) (T1 : STx) (Rd : SRd) (Pg : SPg) (Pt : SPt) (Mk : SMk) (Lk : SLk) (Ck : SCk) (Jd : SJd) (Ld : SLd) (Pr : SPr), va_D A (o_cw ad ca rt Sj T0 T1 Rd Pg Pt Mk Lk Ck Jd Ld Pr) := fun _ _ _ _ _ _ _ _ _ _ _ _ _ => o_D_map hD rfl
  have hl : lv_has ls 11 [(0, .ref (ad 49)), (1, .int x1), (2, .int x2), (3, .int x3)] := hl
  unfold m_Jd_evaluate_F at h
  have C0 := C
  obtain ⟨hx, hb, -, -, -, hown, hts, hK, -, -⟩ := C0
  refine lv_aload_n hx hb d_Jd_evaluate_0 rfl (lv_at hl 0 rfl) ?_
  refine lv_iload_n hx hb d_Jd_evaluate_1 rfl (lv_at hl 3 rfl) ?_
  obtain ⟨q1, hq1, h⟩ := o_bd_some h
  refine o_V (st1 := [.int q1.1]) (w1 := (o_cw ad ca rt Sj T0 T1 Rd Pg Pt Mk Lk Ck q1.2 Ld Pr)) hE.1 C (c_Jd_enter hE l x3 Jd Sj T0 T1 Rd Pg Pt Mk Lk Ck Ld Pr rt hq1) hP (hDD _ _ _ _ _ _ _ _ _ _ _ _ _) hS hl.1 rfl cw_49 k_6_11 k_6_13 k_s_58 k_1_9 k_6_14 hv_Jd_enter rfl rfl ⟨(by dsimp only [rm_Jd_evaluate, rm_Jd_enter]; omega), (by dsimp only [rm_Jd_evaluate, rm_Jd_enter]; omega)⟩ rfl (Nat.le_of_ble_eq_true rfl) ⟨Nat.zero_le _, Nat.zero_le _⟩ rfl d_Jd_evaluate_2 (fun H locs hP hS => ?_)
  refine lv_if_ne (tgt := 10) hx hb d_Jd_evaluate_5 (by decide) (fun c1 => ?_) (fun c1 => ?_)
  · replace h := o_ff c1 h
    refine lv_aload_n hx hb d_Jd_evaluate_10 rfl (lv_at hl 0 rfl) ?_
    refine o_get (v := .ref (ad 1)) C in_Jd hP 49 cw_49 rfl 0 (by decide) k_2_74 rfl rfl d_Jd_evaluate_11 ?_
    refine lv_iload_n hx hb d_Jd_evaluate_14 rfl (lv_at hl 1 rfl) ?_
    obtain ⟨q2, hq2, h⟩ := o_bd_some h
    refine o_V (st1 := [.int q2]) (w1 := (o_cw ad ca rt Sj T0 T1 Rd Pg Pt Mk Lk Ck q1.2 Ld Pr)) hE.1 C (c_Tx_kind_0 hE l x1 T0 Sj T1 Rd Pg Pt Mk Lk Ck q1.2 Ld Pr rt hq2) hP (hDD _ _ _ _ _ _ _ _ _ _ _ _ _) hS hl.1 rfl cw_1 k_6_16 k_4_50 k_4_51 k_1_2 k_4_52 hv_Tx_kind rfl rfl ⟨(by dsimp only [rm_Jd_evaluate, rm_Tx_kind]; omega), (by dsimp only [rm_Jd_evaluate, rm_Tx_kind]; omega)⟩ rfl (Nat.le_of_ble_eq_true rfl) ⟨Nat.zero_le _, Nat.zero_le _⟩ rfl d_Jd_evaluate_15 (fun H locs hP hS => ?_)
    refine lv_iconst (v := (1:Int32)) hx hb d_Jd_evaluate_18 (by decide) ?_
    refine lv_icmp_ne (tgt := 30) hx hb d_Jd_evaluate_19 (by decide) (fun c2 => ?_) (fun c2 => ?_)
    · replace h := o_ff c2 h
      refine lv_iconst (v := (1:Int32)) hx hb d_Jd_evaluate_30 (by decide) ?_
      refine lv_istore (lv' := [(4, .int (1:Int32)), (0, .ref (ad 49)), (1, .int x1), (2, .int x2), (3, .int x3)]) hx hb d_Jd_evaluate_31 hl (by decide) rfl (fun ls hl => ?_)
      refine lv_iconst (v := (0:Int32)) hx hb d_Jd_evaluate_33 (by decide) ?_
      refine lv_istore (lv' := [(5, .int (0:Int32)), (4, .int (1:Int32)), (0, .ref (ad 49)), (1, .int x1), (2, .int x2), (3, .int x3)]) hx hb d_Jd_evaluate_34 hl (by decide) rfl (fun ls hl => ?_)
      obtain ⟨q17, hq17, h⟩ := o_bd_some h
      refine o_sim2 (AH := fun zz => o_At p l e (rm_Jd_evaluate (d + 1)) s m _ below meth c _ o_cls D A 11 36 [] (o_cw ad ca rt Sj T0 T1 Rd zz.2.2.1 zz.2.2.2.1 Mk Lk Ck zz.2.2.2.2.2.2 zz.2.2.2.2.1 zz.2.2.2.2.2.1) [(0, .ref (ad 49)), (1, .int x1), (2, .int x2), (3, .int x3), (4, .int zz.1), (5, .int zz.2.1)]) (AX := fun qq => o_At p l e (rm_Jd_evaluate (d + 1)) s m _ below meth c _ o_cls D A 11 281 [] (o_cw ad ca rt Sj T0 T1 Rd qq.2.2.2.1 qq.2.2.2.2.1 Mk Lk Ck qq.2.2.2.2.2.2.2 qq.2.2.2.2.2.1 qq.2.2.2.2.2.2.1) [(4, .int qq.2.1)]) (fun zz qq h h0 h1 => w_Jd_evaluate_b36 hE C hDD d rec hrec n x1 x2 x3 T0 T1 Mk Sj Rd Lk Ck rt zz qq h h0 h1) n _ q17 hq17 ?_ _ _ _ hP hS (lv_sub hl [2, 3, 4, 5, 1, 0] rfl)
      intro H locs ls hP hS hl
      refine lv_iload hx hb d_Jd_evaluate_281 (lv_at hl 0 rfl) ?_
      obtain ⟨g18, h⟩ := o_gd_some h
      cases h
      exact o_rz C (o_zb_nar g18) hP hS d_Jd_evaluate_283
    · replace h := o_tt c2 h
      refine lv_aload_n hx hb d_Jd_evaluate_22 rfl (lv_at hl 0 rfl) ?_
      refine lv_iload_n hx hb d_Jd_evaluate_23 rfl (lv_at hl 2 rfl) ?_
      refine lv_iload_n hx hb d_Jd_evaluate_24 rfl (lv_at hl 1 rfl) ?_
      obtain ⟨q18, hq18, h⟩ := o_bd_some h
      refine o_V (st1 := []) (w1 := (o_cw ad ca rt Sj T0 T1 Rd Pg Pt Mk Lk Ck q1.2 Ld q18)) hE.1 C (c_Jd_tell hE l n x2 x1 Pr q1.2 Sj T0 T1 Rd Pg Pt Mk Lk Ck Ld rt hq18) hP (hDD _ _ _ _ _ _ _ _ _ _ _ _ _) hS hl.1 rfl cw_49 k_6_17 k_6_19 k_s_59 k_1_9 k_6_20 hv_Jd_tell rfl rfl ⟨(by dsimp only [rm_Jd_evaluate, rm_Jd_tell]; omega), (by dsimp only [rm_Jd_evaluate, rm_Jd_tell]; omega)⟩ rfl (Nat.le_of_ble_eq_true rfl) ⟨Nat.zero_le _, Nat.zero_le _⟩ rfl d_Jd_evaluate_25 (fun H locs hP hS => ?_)
      refine lv_iconst (v := (0:Int32)) hx hb d_Jd_evaluate_28 (by decide) ?_
      cases h
      exact o_rz (v := (0:Int32)) C o_nar0 hP hS d_Jd_evaluate_29
  · replace h := o_tt c1 h
    refine lv_iconst (v := (0:Int32)) hx hb d_Jd_evaluate_8 (by decide) ?_
    cases h
    exact o_rz (v := (0:Int32)) C o_nar0 hP hS d_Jd_evaluate_9
set_option maxHeartbeats 4000000 in
set_option maxRecDepth 100000 in
theorem c_Jd_evaluate {E : (Nat → Prop) → State → Heap → Prop} {D : va_G} {ad kd sd vd xd : Nat → Nat} {ca : Nat → ClassId} (hE : o_EK E kd sd vd xd) (l : Launch) (n : Nat) (d : Nat) (x1 : Int32) (x2 : Int32) (x3 : Int32) (T0 : STx) (T1 : STx) (Pg : SPg) (Pt : SPt) (Mk : SMk) (Ld : SLd) (Pr : SPr) (Jd : SJd) (Sj : SSJ) (Rd : SRd) (Lk : SLk) (Ck : SCk) (rt : Nat) {r : Int32 × SPg × SPt × SLd × SPr × SJd} (h : m_Jd_evaluate n d x1 x2 x3 T0 T1 Pg Pt Mk Ld Pr Jd = some r) : o_Cn E l D o_cls (o_tys ca) y_Jd_evaluate cc_Jd_evaluate (rm_Jd_evaluate d) [.ref (ad 49), .int x1, .int x2, .int x3] (o_cw ad ca rt Sj T0 T1 Rd Pg Pt Mk Lk Ck Jd Ld Pr) (o_cw ad ca rt Sj T0 T1 Rd r.2.1 r.2.2.1 Mk Lk Ck r.2.2.2.2.2 r.2.2.2.1 r.2.2.2.2.1) (some (.int r.1)) := by
  induction d generalizing x1 x2 x3 T0 T1 Pg Pt Mk Ld Pr Jd Sj Rd Lk Ck rt r with
  | zero => cases h
  | succ d ih =>
    exact c_Jd_evaluate_F hE l n d (m_Jd_evaluate n d) (fun x1 x2 x3 T0 T1 Pg Pt Mk Ld Pr Jd Sj Rd Lk Ck rt r h => ih x1 x2 x3 T0 T1 Pg Pt Mk Ld Pr Jd Sj Rd Lk Ck rt h) _ _ _ _ _ _ _ _ _ _ _ _ _ _ _ _ h
set_option maxHeartbeats 4000000 in
set_option maxRecDepth 100000 in
theorem w_Pr_sort_j71 {E : (Nat → Prop) → State → Heap → Prop} {p : Program} {l : Launch} {e : Env} {s : State} {m : MethodId} {args : Array Value} {below : List Frame} {meth : Method} {c : Code} {D : va_G} {ad kd sd vd xd : Nat → Nat} {ca : Nat → ClassId} {A : Nat → Prop} {Q : State → Prop} (hE : o_EK E kd sd vd xd) (C : o_Cx E p s m args meth c D o_cls (o_tys ca) "SchemaJudge$Pairs" b_Pr_sort none 5 cc_Pr_sort A) (hDD : ∀ (rt : Nat) (Sj : SSJ) (T0 : STx) (T1 : STx) (Rd : SRd) (Pg : SPg) (Pt : SPt) (Mk : SMk) (Lk : SLk) (Ck : SCk) (Jd : SJd) (Ld : SLd) (Pr : SPr), va_D A (o_cw ad ca rt Sj T0 T1 Rd Pg Pt Mk Lk Ck Jd Ld Pr)) (n : Nat) (u27_x1 : Int32) (u27_x2 : Int32) (u27_x3 : Int32) (u27_Sj : SSJ) (u27_T0 : STx) (u27_T1 : STx) (u27_Rd : SRd) (u27_Pg : SPg) (u27_Pt : SPt) (u27_Mk : SMk) (u27_Lk : SLk) (u27_Ck : SCk) (u27_Jd : SJd) (u27_Ld : SLd) (u27_rt : Nat) (x4 : Int32) (Pr : SPr) {q : Nat × Int32 × SPr} (h : m_Pr_sort_j71 n u27_x1 u27_x2 u27_x3 x4 Pr = some q) (h0 : q.1 = 0 → o_At p l e rm_Pr_sort s m args below meth c Q o_cls D A 5 27 [] (o_cw ad ca u27_rt u27_Sj u27_T0 u27_T1 u27_Rd u27_Pg u27_Pt u27_Mk u27_Lk u27_Ck u27_Jd u27_Ld q.2.2) [(0, .ref (ad 54)), (1, .int u27_x1), (2, .int u27_x2), (3, .int u27_x3), (4, .int q.2.1)]) (h1 : q.1 ≠ 0 → (o_At p l e rm_Pr_sort s m args below meth c Q o_cls D A 5 109 [] (o_cw ad ca u27_rt u27_Sj u27_T0 u27_T1 u27_Rd u27_Pg u27_Pt u27_Mk u27_Lk u27_Ck u27_Jd u27_Ld q.2.2) [(0, .ref (ad 54)), (1, .int u27_x1), (2, .int u27_x2), (3, .int u27_x3), (4, .int q.2.1)])) : o_At p l e rm_Pr_sort s m args below meth c Q o_cls D A 5 71 [] (o_cw ad ca u27_rt u27_Sj u27_T0 u27_T1 u27_Rd u27_Pg u27_Pt u27_Mk u27_Lk u27_Ck u27_Jd u27_Ld Pr) [(0, .ref (ad 54)), (1, .int u27_x1), (2, .int u27_x2), (3, .int u27_x3), (4, .int x4)] := by
  unfold m_Pr_sort_j71 at h
  intro H locs ls hP hS hl
  have C0 := C
  obtain ⟨hx, hb, -, -, -, hown, hts, hK, -, -⟩ := C0
  refine lv_aload_n hx hb d_Pr_sort_71 rfl (lv_at hl 0 rfl) ?_
  refine o_get (v := .ref (ad 55)) C in_Pr hP 54 cw_54 rfl 0 (by decide) k_2_64 rfl rfl d_Pr_sort_72 ?_
  refine lv_iload hx hb d_Pr_sort_75 (lv_at hl 4 rfl) ?_
  refine lv_aload_n hx hb d_Pr_sort_77 rfl (lv_at hl 0 rfl) ?_
  refine o_get (v := .ref (ad 55)) C in_Pr hP 54 cw_54 rfl 0 (by decide) k_2_64 rfl rfl d_Pr_sort_78 ?_
  refine lv_iload hx hb d_Pr_sort_81 (lv_at hl 4 rfl) ?_
  refine lv_iconst (v := (1:Int32)) hx hb d_Pr_sort_83 (by decide) ?_
  refine lv_isub hx hb d_Pr_sort_84 ?_
  obtain ⟨g7, h⟩ := o_gd_some h
  refine o_iald (f := (Pr_values Pr)) C hP 55 43 cw_55 rfl g7 d_Pr_sort_85 ?_
  obtain ⟨g8, h⟩ := o_gd_some h
  refine o_iast (f := (Pr_values Pr)) (w1 := (o_cw ad ca u27_rt u27_Sj u27_T0 u27_T1 u27_Rd u27_Pg u27_Pt u27_Mk u27_Lk u27_Ck u27_Jd u27_Ld (Pr_mk (upd (Pr_values Pr) x4.toNatClampNeg ((Pr_values Pr) (x4 - (1:Int32)).toNatClampNeg)) (Pr_keywords Pr) (Pr_size Pr)))) C hP (hDD _ _ _ _ _ _ _ _ _ _ _ _ _) hS 55 43 cw_55 rfl g8 rfl d_Pr_sort_86 (fun H locs hP hS => ?_)
  refine lv_aload_n hx hb d_Pr_sort_87 rfl (lv_at hl 0 rfl) ?_
  refine o_get (v := .ref (ad 56)) C in_Pr hP 54 cw_54 rfl 1 (by decide) k_2_65 rfl rfl d_Pr_sort_88 ?_
  refine lv_iload hx hb d_Pr_sort_91 (lv_at hl 4 rfl) ?_
  refine lv_aload_n hx hb d_Pr_sort_93 rfl (lv_at hl 0 rfl) ?_
  refine o_get (v := .ref (ad 56)) C in_Pr hP 54 cw_54 rfl 1 (by decide) k_2_65 rfl rfl d_Pr_sort_94 ?_
  refine lv_iload hx hb d_Pr_sort_97 (lv_at hl 4 rfl) ?_
  refine lv_iconst (v := (1:Int32)) hx hb d_Pr_sort_99 (by decide) ?_
  refine lv_isub hx hb d_Pr_sort_100 ?_
  obtain ⟨g9, h⟩ := o_gd_some h
  refine o_iald (f := (Pr_keywords Pr)) C hP 56 44 cw_56 rfl g9 d_Pr_sort_101 ?_
  obtain ⟨g10, h⟩ := o_gd_some h
  refine o_iast (f := (Pr_keywords Pr)) (w1 := (o_cw ad ca u27_rt u27_Sj u27_T0 u27_T1 u27_Rd u27_Pg u27_Pt u27_Mk u27_Lk u27_Ck u27_Jd u27_Ld (Pr_mk (upd (Pr_values Pr) x4.toNatClampNeg ((Pr_values Pr) (x4 - (1:Int32)).toNatClampNeg)) (upd (Pr_keywords Pr) x4.toNatClampNeg ((Pr_keywords Pr) (x4 - (1:Int32)).toNatClampNeg)) (Pr_size Pr)))) C hP (hDD _ _ _ _ _ _ _ _ _ _ _ _ _) hS 56 44 cw_56 rfl g10 rfl d_Pr_sort_102 (fun H locs hP hS => ?_)
  obtain ⟨x4_103, ex4_103⟩ : ∃ y : Int32, y = x4 + (-1:Int32) := ⟨_, rfl⟩
  replace h := o_nm_at ex4_103 h
  refine lv_iinc (v := x4_103) (lv' := [(4, .int x4_103), (0, .ref (ad 54)), (1, .int u27_x1), (2, .int u27_x2), (3, .int u27_x3)]) hx hb d_Pr_sort_103 hl (k := 4) rfl (by rw [ex4_103]; rfl) (by decide) rfl (fun ls hl => ?_)
  refine lv_goto (tgt := 27) hx hb d_Pr_sort_106 (by decide) ?_
  cases h
  exact h0 rfl _ _ _ hP hS (lv_sub hl [1, 2, 3, 4, 0] rfl)
set_option maxHeartbeats 4000000 in
set_option maxRecDepth 100000 in
theorem w_Pr_sort_b27 {E : (Nat → Prop) → State → Heap → Prop} {p : Program} {l : Launch} {e : Env} {s : State} {m : MethodId} {args : Array Value} {below : List Frame} {meth : Method} {c : Code} {D : va_G} {ad kd sd vd xd : Nat → Nat} {ca : Nat → ClassId} {A : Nat → Prop} {Q : State → Prop} (hE : o_EK E kd sd vd xd) (C : o_Cx E p s m args meth c D o_cls (o_tys ca) "SchemaJudge$Pairs" b_Pr_sort none 5 cc_Pr_sort A) (hDD : ∀ (rt : Nat) (Sj : SSJ) (T0 : STx) (T1 : STx) (Rd : SRd) (Pg : SPg) (Pt : SPt) (Mk : SMk) (Lk : SLk) (Ck : SCk) (Jd : SJd) (Ld : SLd) (Pr : SPr), va_D A (o_cw ad ca rt Sj T0 T1 Rd Pg Pt Mk Lk Ck Jd Ld Pr)) (n : Nat) (u27_x1 : Int32) (u27_x2 : Int32) (u27_x3 : Int32) (u27_Sj : SSJ) (u27_T0 : STx) (u27_T1 : STx) (u27_Rd : SRd) (u27_Pg : SPg) (u27_Pt : SPt) (u27_Mk : SMk) (u27_Lk : SLk) (u27_Ck : SCk) (u27_Jd : SJd) (u27_Ld : SLd) (u27_rt : Nat) (z : Int32 × SPr) (q : Nat × Int32 × SPr) (h : m_Pr_sort_b27 n u27_x1 u27_x2 u27_x3 z = some q) (h0 : q.1 = 0 → o_At p l e rm_Pr_sort s m args below meth c Q o_cls D A 5 27 [] (o_cw ad ca u27_rt u27_Sj u27_T0 u27_T1 u27_Rd u27_Pg u27_Pt u27_Mk u27_Lk u27_Ck u27_Jd u27_Ld q.2.2) [(0, .ref (ad 54)), (1, .int u27_x1), (2, .int u27_x2), (3, .int u27_x3), (4, .int q.2.1)]) (h1 : q.1 ≠ 0 → (o_At p l e rm_Pr_sort s m args below meth c Q o_cls D A 5 109 [] (o_cw ad ca u27_rt u27_Sj u27_T0 u27_T1 u27_Rd u27_Pg u27_Pt u27_Mk u27_Lk u27_Ck u27_Jd u27_Ld q.2.2) [(0, .ref (ad 54)), (1, .int u27_x1), (2, .int u27_x2), (3, .int u27_x3), (4, .int q.2.1)])) : o_At p l e rm_Pr_sort s m args below meth c Q o_cls D A 5 27 [] (o_cw ad ca u27_rt u27_Sj u27_T0 u27_T1 u27_Rd u27_Pg u27_Pt u27_Mk u27_Lk u27_Ck u27_Jd u27_Ld z.2) [(0, .ref (ad 54)), (1, .int u27_x1), (2, .int u27_x2), (3, .int u27_x3), (4, .int z.1)] := by
  unfold m_Pr_sort_b27 at h
  intro H locs ls hP hS hl
  have C0 := C
  obtain ⟨hx, hb, -, -, -, hown, hts, hK, -, -⟩ := C0
  refine lv_iload hx hb d_Pr_sort_27 (lv_at hl 4 rfl) ?_
  refine lv_if_le (tgt := 109) hx hb d_Pr_sort_29 (by decide) (fun c4 => ?_) (fun c4 => ?_)
  · replace h := o_tt c4 h
    cases h
    exact h1 (Nat.succ_ne_zero 0) _ _ _ hP hS (lv_sub hl [0, 1, 2, 3, 4] rfl)
  · replace h := o_ff c4 h
    refine lv_aload_n hx hb d_Pr_sort_32 rfl (lv_at hl 0 rfl) ?_
    refine o_get (v := .ref (ad 55)) C in_Pr hP 54 cw_54 rfl 0 (by decide) k_2_64 rfl rfl d_Pr_sort_33 ?_
    refine lv_iload hx hb d_Pr_sort_36 (lv_at hl 4 rfl) ?_
    refine lv_iconst (v := (1:Int32)) hx hb d_Pr_sort_38 (by decide) ?_
    refine lv_isub hx hb d_Pr_sort_39 ?_
    obtain ⟨g5, h⟩ := o_gd_some h
    refine o_iald (f := (Pr_values z.2)) C hP 55 43 cw_55 rfl g5 d_Pr_sort_40 ?_
    refine lv_iload_n hx hb d_Pr_sort_41 rfl (lv_at hl 2 rfl) ?_
    refine lv_icmp_gt (tgt := 71) hx hb d_Pr_sort_42 (by decide) (fun c6 => ?_) (fun c6 => ?_)
    · replace h := o_tt c6 h
      exact w_Pr_sort_j71 hE C hDD n u27_x1 u27_x2 u27_x3 u27_Sj u27_T0 u27_T1 u27_Rd u27_Pg u27_Pt u27_Mk u27_Lk u27_Ck u27_Jd u27_Ld u27_rt z.1 z.2 h h0 h1 _ _ _ hP hS (lv_sub hl [0, 1, 2, 3, 4] rfl)
    · replace h := o_ff c6 h
      refine lv_aload_n hx hb d_Pr_sort_45 rfl (lv_at hl 0 rfl) ?_
      refine o_get (v := .ref (ad 55)) C in_Pr hP 54 cw_54 rfl 0 (by decide) k_2_64 rfl rfl d_Pr_sort_46 ?_
      refine lv_iload hx hb d_Pr_sort_49 (lv_at hl 4 rfl) ?_
      refine lv_iconst (v := (1:Int32)) hx hb d_Pr_sort_51 (by decide) ?_
      refine lv_isub hx hb d_Pr_sort_52 ?_
      obtain ⟨g11, h⟩ := o_gd_some h
      refine o_iald (f := (Pr_values z.2)) C hP 55 43 cw_55 rfl g11 d_Pr_sort_53 ?_
      refine lv_iload_n hx hb d_Pr_sort_54 rfl (lv_at hl 2 rfl) ?_
      refine lv_icmp_ne (tgt := 109) hx hb d_Pr_sort_55 (by decide) (fun c12 => ?_) (fun c12 => ?_)
      · replace h := o_ff c12 h
        cases h
        exact h1 (Nat.succ_ne_zero 0) _ _ _ hP hS (lv_sub hl [0, 1, 2, 3, 4] rfl)
      · replace h := o_tt c12 h
        refine lv_aload_n hx hb d_Pr_sort_58 rfl (lv_at hl 0 rfl) ?_
        refine o_get (v := .ref (ad 56)) C in_Pr hP 54 cw_54 rfl 1 (by decide) k_2_65 rfl rfl d_Pr_sort_59 ?_
        refine lv_iload hx hb d_Pr_sort_62 (lv_at hl 4 rfl) ?_
        refine lv_iconst (v := (1:Int32)) hx hb d_Pr_sort_64 (by decide) ?_
        refine lv_isub hx hb d_Pr_sort_65 ?_
        obtain ⟨g13, h⟩ := o_gd_some h
        refine o_iald (f := (Pr_keywords z.2)) C hP 56 44 cw_56 rfl g13 d_Pr_sort_66 ?_
        refine lv_iload_n hx hb d_Pr_sort_67 rfl (lv_at hl 3 rfl) ?_
        refine lv_icmp_le (tgt := 109) hx hb d_Pr_sort_68 (by decide) (fun c14 => ?_) (fun c14 => ?_)
        · replace h := o_tt c14 h
          cases h
          exact h1 (Nat.succ_ne_zero 0) _ _ _ hP hS (lv_sub hl [0, 1, 2, 3, 4] rfl)
        · replace h := o_ff c14 h
          exact w_Pr_sort_j71 hE C hDD n u27_x1 u27_x2 u27_x3 u27_Sj u27_T0 u27_T1 u27_Rd u27_Pg u27_Pt u27_Mk u27_Lk u27_Ck u27_Jd u27_Ld u27_rt z.1 z.2 h h0 h1 _ _ _ hP hS (lv_sub hl [0, 1, 2, 3, 4] rfl)
set_option maxHeartbeats 4000000 in
set_option maxRecDepth 100000 in
theorem w_Pr_sort_j109 {E : (Nat → Prop) → State → Heap → Prop} {p : Program} {l : Launch} {e : Env} {s : State} {m : MethodId} {args : Array Value} {below : List Frame} {meth : Method} {c : Code} {D : va_G} {ad kd sd vd xd : Nat → Nat} {ca : Nat → ClassId} {A : Nat → Prop} {Q : State → Prop} (hE : o_EK E kd sd vd xd) (C : o_Cx E p s m args meth c D o_cls (o_tys ca) "SchemaJudge$Pairs" b_Pr_sort none 5 cc_Pr_sort A) (hDD : ∀ (rt : Nat) (Sj : SSJ) (T0 : STx) (T1 : STx) (Rd : SRd) (Pg : SPg) (Pt : SPt) (Mk : SMk) (Lk : SLk) (Ck : SCk) (Jd : SJd) (Ld : SLd) (Pr : SPr), va_D A (o_cw ad ca rt Sj T0 T1 Rd Pg Pt Mk Lk Ck Jd Ld Pr)) (n : Nat) (u2_Sj : SSJ) (u2_T0 : STx) (u2_T1 : STx) (u2_Rd : SRd) (u2_Pg : SPg) (u2_Pt : SPt) (u2_Mk : SMk) (u2_Lk : SLk) (u2_Ck : SCk) (u2_Jd : SJd) (u2_Ld : SLd) (u2_rt : Nat) (x1 : Int32) (x2 : Int32) (x3 : Int32) (x4 : Int32) (Pr : SPr) {q : Nat × Int32 × SPr} (h : m_Pr_sort_j109 n x1 x2 x3 x4 Pr = some q) (h0 : q.1 = 0 → o_At p l e rm_Pr_sort s m args below meth c Q o_cls D A 5 2 [] (o_cw ad ca u2_rt u2_Sj u2_T0 u2_T1 u2_Rd u2_Pg u2_Pt u2_Mk u2_Lk u2_Ck u2_Jd u2_Ld q.2.2) [(0, .ref (ad 54)), (1, .int q.2.1)]) (h1 : q.1 ≠ 0 → (o_At p l e rm_Pr_sort s m args below meth c Q o_cls D A 5 131 [] (o_cw ad ca u2_rt u2_Sj u2_T0 u2_T1 u2_Rd u2_Pg u2_Pt u2_Mk u2_Lk u2_Ck u2_Jd u2_Ld q.2.2) [])) : o_At p l e rm_Pr_sort s m args below meth c Q o_cls D A 5 109 [] (o_cw ad ca u2_rt u2_Sj u2_T0 u2_T1 u2_Rd u2_Pg u2_Pt u2_Mk u2_Lk u2_Ck u2_Jd u2_Ld Pr) [(0, .ref (ad 54)), (1, .int x1), (2, .int x2), (3, .int x3), (4, .int x4)] := by
  unfold m_Pr_sort_j109 at h
  intro H locs ls hP hS hl
  have C0 := C
  obtain ⟨hx, hb, -, -, -, hown, hts, hK, -, -⟩ := C0
  refine lv_aload_n hx hb d_Pr_sort_109 rfl (lv_at hl 0 rfl) ?_
  refine o_get (v := .ref (ad 55)) C in_Pr hP 54 cw_54 rfl 0 (by decide) k_2_64 rfl rfl d_Pr_sort_110 ?_
  refine lv_iload hx hb d_Pr_sort_113 (lv_at hl 4 rfl) ?_
  refine lv_iload_n hx hb d_Pr_sort_115 rfl (lv_at hl 2 rfl) ?_
  obtain ⟨g15, h⟩ := o_gd_some h
  refine o_iast (f := (Pr_values Pr)) (w1 := (o_cw ad ca u2_rt u2_Sj u2_T0 u2_T1 u2_Rd u2_Pg u2_Pt u2_Mk u2_Lk u2_Ck u2_Jd u2_Ld (Pr_mk (upd (Pr_values Pr) x4.toNatClampNeg x2) (Pr_keywords Pr) (Pr_size Pr)))) C hP (hDD _ _ _ _ _ _ _ _ _ _ _ _ _) hS 55 43 cw_55 rfl g15 rfl d_Pr_sort_116 (fun H locs hP hS => ?_)
  refine lv_aload_n hx hb d_Pr_sort_117 rfl (lv_at hl 0 rfl) ?_
  refine o_get (v := .ref (ad 56)) C in_Pr hP 54 cw_54 rfl 1 (by decide) k_2_65 rfl rfl d_Pr_sort_118 ?_
  refine lv_iload hx hb d_Pr_sort_121 (lv_at hl 4 rfl) ?_
  refine lv_iload_n hx hb d_Pr_sort_123 rfl (lv_at hl 3 rfl) ?_
  obtain ⟨g16, h⟩ := o_gd_some h
  refine o_iast (f := (Pr_keywords Pr)) (w1 := (o_cw ad ca u2_rt u2_Sj u2_T0 u2_T1 u2_Rd u2_Pg u2_Pt u2_Mk u2_Lk u2_Ck u2_Jd u2_Ld (Pr_mk (upd (Pr_values Pr) x4.toNatClampNeg x2) (upd (Pr_keywords Pr) x4.toNatClampNeg x3) (Pr_size Pr)))) C hP (hDD _ _ _ _ _ _ _ _ _ _ _ _ _) hS 56 44 cw_56 rfl g16 rfl d_Pr_sort_124 (fun H locs hP hS => ?_)
  obtain ⟨x1_125, ex1_125⟩ : ∃ y : Int32, y = x1 + (1:Int32) := ⟨_, rfl⟩
  replace h := o_nm_at ex1_125 h
  refine lv_iinc (v := x1_125) (lv' := [(1, .int x1_125), (0, .ref (ad 54)), (2, .int x2), (3, .int x3), (4, .int x4)]) hx hb d_Pr_sort_125 hl (k := 1) rfl (by rw [ex1_125]; rfl) (by decide) rfl (fun ls hl => ?_)
  refine lv_goto (tgt := 2) hx hb d_Pr_sort_128 (by decide) ?_
  cases h
  exact h0 rfl _ _ _ hP hS (lv_sub hl [1, 0] rfl)
set_option maxHeartbeats 4000000 in
set_option maxRecDepth 100000 in
theorem w_Pr_sort_b2 {E : (Nat → Prop) → State → Heap → Prop} {p : Program} {l : Launch} {e : Env} {s : State} {m : MethodId} {args : Array Value} {below : List Frame} {meth : Method} {c : Code} {D : va_G} {ad kd sd vd xd : Nat → Nat} {ca : Nat → ClassId} {A : Nat → Prop} {Q : State → Prop} (hE : o_EK E kd sd vd xd) (C : o_Cx E p s m args meth c D o_cls (o_tys ca) "SchemaJudge$Pairs" b_Pr_sort none 5 cc_Pr_sort A) (hDD : ∀ (rt : Nat) (Sj : SSJ) (T0 : STx) (T1 : STx) (Rd : SRd) (Pg : SPg) (Pt : SPt) (Mk : SMk) (Lk : SLk) (Ck : SCk) (Jd : SJd) (Ld : SLd) (Pr : SPr), va_D A (o_cw ad ca rt Sj T0 T1 Rd Pg Pt Mk Lk Ck Jd Ld Pr)) (n : Nat) (u2_Sj : SSJ) (u2_T0 : STx) (u2_T1 : STx) (u2_Rd : SRd) (u2_Pg : SPg) (u2_Pt : SPt) (u2_Mk : SMk) (u2_Lk : SLk) (u2_Ck : SCk) (u2_Jd : SJd) (u2_Ld : SLd) (u2_rt : Nat) (z : Int32 × SPr) (q : Nat × Int32 × SPr) (h : m_Pr_sort_b2 n z = some q) (h0 : q.1 = 0 → o_At p l e rm_Pr_sort s m args below meth c Q o_cls D A 5 2 [] (o_cw ad ca u2_rt u2_Sj u2_T0 u2_T1 u2_Rd u2_Pg u2_Pt u2_Mk u2_Lk u2_Ck u2_Jd u2_Ld q.2.2) [(0, .ref (ad 54)), (1, .int q.2.1)]) (h1 : q.1 ≠ 0 → (o_At p l e rm_Pr_sort s m args below meth c Q o_cls D A 5 131 [] (o_cw ad ca u2_rt u2_Sj u2_T0 u2_T1 u2_Rd u2_Pg u2_Pt u2_Mk u2_Lk u2_Ck u2_Jd u2_Ld q.2.2) [])) : o_At p l e rm_Pr_sort s m args below meth c Q o_cls D A 5 2 [] (o_cw ad ca u2_rt u2_Sj u2_T0 u2_T1 u2_Rd u2_Pg u2_Pt u2_Mk u2_Lk u2_Ck u2_Jd u2_Ld z.2) [(0, .ref (ad 54)), (1, .int z.1)] := by
  unfold m_Pr_sort_b2 at h
  intro H locs ls hP hS hl
  have C0 := C
  obtain ⟨hx, hb, -, -, -, hown, hts, hK, -, -⟩ := C0
  refine lv_iload_n hx hb d_Pr_sort_2 rfl (lv_at hl 1 rfl) ?_
  refine lv_aload_n hx hb d_Pr_sort_3 rfl (lv_at hl 0 rfl) ?_
  refine o_get (v := .int (Pr_size z.2)) C in_Pr hP 54 cw_54 rfl 2 (by decide) k_2_66 rfl rfl d_Pr_sort_4 ?_
  refine lv_icmp_ge (tgt := 131) hx hb d_Pr_sort_7 (by decide) (fun c1 => ?_) (fun c1 => ?_)
  · replace h := o_tt c1 h
    cases h
    exact h1 (Nat.succ_ne_zero 0) _ _ _ hP hS (lv_sub hl [] rfl)
  · replace h := o_ff c1 h
    refine lv_aload_n hx hb d_Pr_sort_10 rfl (lv_at hl 0 rfl) ?_
    refine o_get (v := .ref (ad 55)) C in_Pr hP 54 cw_54 rfl 0 (by decide) k_2_64 rfl rfl d_Pr_sort_11 ?_
    refine lv_iload_n hx hb d_Pr_sort_14 rfl (lv_at hl 1 rfl) ?_
    obtain ⟨g2, h⟩ := o_gd_some h
    refine o_iald (f := (Pr_values z.2)) C hP 55 43 cw_55 rfl g2 d_Pr_sort_15 ?_
    refine lv_topi (fun x2_16 ex2_16 => ?_)
    replace h := o_nm_at ex2_16 h
    refine lv_istore_n (lv' := [(2, .int x2_16), (0, .ref (ad 54)), (1, .int z.1)]) hx hb d_Pr_sort_16 rfl hl (by decide) rfl (fun ls hl => ?_)
    refine lv_aload_n hx hb d_Pr_sort_17 rfl (lv_at hl 1 rfl) ?_
    refine o_get (v := .ref (ad 56)) C in_Pr hP 54 cw_54 rfl 1 (by decide) k_2_65 rfl rfl d_Pr_sort_18 ?_
    refine lv_iload_n hx hb d_Pr_sort_21 rfl (lv_at hl 2 rfl) ?_
    obtain ⟨g3, h⟩ := o_gd_some h
    refine o_iald (f := (Pr_keywords z.2)) C hP 56 44 cw_56 rfl g3 d_Pr_sort_22 ?_
    refine lv_topi (fun x3_23 ex3_23 => ?_)
    replace h := o_nm_at ex3_23 h
    refine lv_istore_n (lv' := [(3, .int x3_23), (2, .int x2_16), (0, .ref (ad 54)), (1, .int z.1)]) hx hb d_Pr_sort_23 rfl hl (by decide) rfl (fun ls hl => ?_)
    refine lv_iload_n hx hb d_Pr_sort_24 rfl (lv_at hl 3 rfl) ?_
    refine lv_istore (lv' := [(4, .int z.1), (3, .int x3_23), (2, .int x2_16), (0, .ref (ad 54)), (1, .int z.1)]) hx hb d_Pr_sort_25 hl (by decide) rfl (fun ls hl => ?_)
    obtain ⟨q1, hq1, h⟩ := o_bd_some h
    refine o_sim2 (AH := fun zz => o_At p l e rm_Pr_sort s m args below meth c _ o_cls D A 5 27 [] (o_cw ad ca u2_rt u2_Sj u2_T0 u2_T1 u2_Rd u2_Pg u2_Pt u2_Mk u2_Lk u2_Ck u2_Jd u2_Ld zz.2) [(0, .ref (ad 54)), (1, .int z.1), (2, .int x2_16), (3, .int x3_23), (4, .int zz.1)]) (AX := fun qq => o_At p l e rm_Pr_sort s m args below meth c _ o_cls D A 5 109 [] (o_cw ad ca u2_rt u2_Sj u2_T0 u2_T1 u2_Rd u2_Pg u2_Pt u2_Mk u2_Lk u2_Ck u2_Jd u2_Ld qq.2.2) [(0, .ref (ad 54)), (1, .int z.1), (2, .int x2_16), (3, .int x3_23), (4, .int qq.2.1)]) (fun zz qq h h0 h1 => w_Pr_sort_b27 hE C hDD n z.1 x2_16 x3_23 u2_Sj u2_T0 u2_T1 u2_Rd u2_Pg u2_Pt u2_Mk u2_Lk u2_Ck u2_Jd u2_Ld u2_rt zz qq h h0 h1) n _ q1 hq1 ?_ _ _ _ hP hS (lv_sub hl [3, 4, 2, 1, 0] rfl)
    intro H locs ls hP hS hl
    exact w_Pr_sort_j109 hE C hDD n u2_Sj u2_T0 u2_T1 u2_Rd u2_Pg u2_Pt u2_Mk u2_Lk u2_Ck u2_Jd u2_Ld u2_rt z.1 x2_16 x3_23 q1.2.1 q1.2.2 h h0 h1 _ _ _ hP hS (lv_sub hl [0, 1, 2, 3, 4] rfl)
set_option maxHeartbeats 4000000 in
set_option maxRecDepth 100000 in
theorem c_Pr_sort {E : (Nat → Prop) → State → Heap → Prop} {D : va_G} {ad kd sd vd xd : Nat → Nat} {ca : Nat → ClassId} (hE : o_EK E kd sd vd xd) (l : Launch) (n : Nat)  (Pr : SPr) (Sj : SSJ) (T0 : STx) (T1 : STx) (Rd : SRd) (Pg : SPg) (Pt : SPt) (Mk : SMk) (Lk : SLk) (Ck : SCk) (Jd : SJd) (Ld : SLd) (rt : Nat) {r : SPr} (h : m_Pr_sort n Pr = some r) : o_Cn E l D o_cls (o_tys ca) y_Pr_sort cc_Pr_sort rm_Pr_sort [.ref (ad 54)] (o_cw ad ca rt Sj T0 T1 Rd Pg Pt Mk Lk Ck Jd Ld Pr) (o_cw ad ca rt Sj T0 T1 Rd Pg Pt Mk Lk Ck Jd Ld r) none := by
  refine o_Cn_of (by decide) (Nat.le_of_ble_eq_true rfl) ?_
  intro p e s m below meth c A ls C hD hP hS hl
  have hDD : ∀ (rt : Nat) (Sj : SSJ) (T0 : STx) (T1 : STx) (Rd : SRd) (Pg : SPg) (Pt : SPt) (Mk : SMk) (Lk : SLk) (Ck : SCk) (Jd : SJd) (Ld : SLd) (Pr : SPr), va_D A (o_cw ad ca rt Sj T0 T1 Rd Pg Pt Mk Lk Ck Jd Ld Pr) := fun _ _ _ _ _ _ _ _ _ _ _ _ _ => o_D_map hD rfl
  have hl : lv_has ls 5 [(0, .ref (ad 54))] := hl
  unfold m_Pr_sort at h
  have C0 := C
  obtain ⟨hx, hb, -, -, -, hown, hts, hK, -, -⟩ := C0
  refine lv_iconst (v := (1:Int32)) hx hb d_Pr_sort_0 (by decide) ?_
  refine lv_istore_n (lv' := [(1, .int (1:Int32)), (0, .ref (ad 54))]) hx hb d_Pr_sort_1 rfl hl (by decide) rfl (fun ls hl => ?_)
  obtain ⟨q2, hq2, h⟩ := o_bd_some h
  refine o_sim2 (AH := fun zz => o_At p l e rm_Pr_sort s m _ below meth c _ o_cls D A 5 2 [] (o_cw ad ca rt Sj T0 T1 Rd Pg Pt Mk Lk Ck Jd Ld zz.2) [(0, .ref (ad 54)), (1, .int zz.1)]) (AX := fun qq => o_At p l e rm_Pr_sort s m _ below meth c _ o_cls D A 5 131 [] (o_cw ad ca rt Sj T0 T1 Rd Pg Pt Mk Lk Ck Jd Ld qq.2.2) []) (fun zz qq h h0 h1 => w_Pr_sort_b2 hE C hDD n Sj T0 T1 Rd Pg Pt Mk Lk Ck Jd Ld rt zz qq h h0 h1) n _ q2 hq2 ?_ _ _ _ hP hS (lv_sub hl [1, 0] rfl)
  intro H locs ls hP hS hl
  cases h
  exact o_rv C hP hS d_Pr_sort_131
set_option maxHeartbeats 4000000 in
set_option maxRecDepth 100000 in
theorem w_Jd_finish_j15 {E : (Nat → Prop) → State → Heap → Prop} {p : Program} {l : Launch} {e : Env} {s : State} {m : MethodId} {args : Array Value} {below : List Frame} {meth : Method} {c : Code} {D : va_G} {ad kd sd vd xd : Nat → Nat} {ca : Nat → ClassId} {A : Nat → Prop} (hE : o_EK E kd sd vd xd) (C : o_Cx E p s m args meth c D o_cls (o_tys ca) "SchemaJudge$Judge" b_Jd_finish none 1 cc_Jd_finish A) (hDD : ∀ (rt : Nat) (Sj : SSJ) (T0 : STx) (T1 : STx) (Rd : SRd) (Pg : SPg) (Pt : SPt) (Mk : SMk) (Lk : SLk) (Ck : SCk) (Jd : SJd) (Ld : SLd) (Pr : SPr), va_D A (o_cw ad ca rt Sj T0 T1 Rd Pg Pt Mk Lk Ck Jd Ld Pr)) (n : Nat)  (Pr : SPr) (Jd : SJd) (Sj : SSJ) (T0 : STx) (T1 : STx) (Rd : SRd) (Pg : SPg) (Pt : SPt) (Mk : SMk) (Lk : SLk) (Ck : SCk) (Ld : SLd) (rt : Nat) {r : SPr} (h : m_Jd_finish_j15 n Pr Jd = some r) : o_At p l e rm_Jd_finish s m args below meth c (MQ below (o_Qx D o_cls none (o_cw ad ca rt Sj T0 T1 Rd Pg Pt Mk Lk Ck Jd Ld r) A) args s 0 0 A) o_cls D A 1 15 [] (o_cw ad ca rt Sj T0 T1 Rd Pg Pt Mk Lk Ck Jd Ld Pr) [(0, .ref (ad 49))] := by
  unfold m_Jd_finish_j15 at h
  intro H locs ls hP hS hl
  have C0 := C
  obtain ⟨hx, hb, -, -, -, hown, hts, hK, -, -⟩ := C0
  refine lv_aload_n hx hb d_Jd_finish_15 rfl (lv_at hl 0 rfl) ?_
  refine o_get (v := .ref (ad 54)) C in_Jd hP 49 cw_49 rfl 6 (by decide) k_2_80 rfl rfl d_Jd_finish_16 ?_
  obtain ⟨q1, hq1, h⟩ := o_bd_some h
  refine o_V (st1 := []) (w1 := (o_cw ad ca rt Sj T0 T1 Rd Pg Pt Mk Lk Ck Jd Ld q1)) hE.1 C (c_Pr_sort hE l n Pr Sj T0 T1 Rd Pg Pt Mk Lk Ck Jd Ld rt hq1) hP (hDD _ _ _ _ _ _ _ _ _ _ _ _ _) hS hl.1 rfl cw_54 k_6_234 k_6_235 k_6_236 k_1_11 k_6_237 hv_Pr_sort rfl rfl ⟨(Nat.le_of_ble_eq_true rfl), (Nat.le_of_ble_eq_true rfl)⟩ rfl (Nat.le_of_ble_eq_true rfl) ⟨Nat.zero_le _, Nat.zero_le _⟩ rfl d_Jd_finish_19 (fun H locs hP hS => ?_)
  cases h
  exact o_rv C hP hS d_Jd_finish_22
set_option maxHeartbeats 4000000 in
set_option maxRecDepth 100000 in
theorem c_Jd_finish {E : (Nat → Prop) → State → Heap → Prop} {D : va_G} {ad kd sd vd xd : Nat → Nat} {ca : Nat → ClassId} (hE : o_EK E kd sd vd xd) (l : Launch) (n : Nat)  (Pr : SPr) (Jd : SJd) (Sj : SSJ) (T0 : STx) (T1 : STx) (Rd : SRd) (Pg : SPg) (Pt : SPt) (Mk : SMk) (Lk : SLk) (Ck : SCk) (Ld : SLd) (rt : Nat) {r : SPr} (h : m_Jd_finish n Pr Jd = some r) : o_Cn E l D o_cls (o_tys ca) y_Jd_finish cc_Jd_finish rm_Jd_finish [.ref (ad 49)] (o_cw ad ca rt Sj T0 T1 Rd Pg Pt Mk Lk Ck Jd Ld Pr) (o_cw ad ca rt Sj T0 T1 Rd Pg Pt Mk Lk Ck Jd Ld r) none := by
  refine o_Cn_of (by decide) (Nat.le_of_ble_eq_true rfl) ?_
  intro p e s m below meth c A ls C hD hP hS hl
  have hDD : ∀ (rt : Nat) (Sj : SSJ) (T0 : STx) (T1 : STx) (Rd : SRd) (Pg : SPg) (Pt : SPt) (Mk : SMk) (Lk : SLk) (Ck : SCk) (Jd : SJd) (Ld : SLd) (Pr : SPr), va_D A (o_cw ad ca rt Sj T0 T1 Rd Pg Pt Mk Lk Ck Jd Ld Pr) := fun _ _ _ _ _ _ _ _ _ _ _ _ _ => o_D_map hD rfl
  have hl : lv_has ls 1 [(0, .ref (ad 49))] := hl
  unfold m_Jd_finish at h
  have C0 := C
  obtain ⟨hx, hb, -, -, -, hown, hts, hK, -, -⟩ := C0
  refine lv_aload_n hx hb d_Jd_finish_0 rfl (lv_at hl 0 rfl) ?_
  refine o_get (v := .int (Jd_over Jd)) C in_Jd hP 49 cw_49 rfl 9 (by decide) k_2_83 rfl rfl d_Jd_finish_1 ?_
  refine lv_if_eq (tgt := 15) hx hb d_Jd_finish_4 (by decide) (fun c1 => ?_) (fun c1 => ?_)
  · replace h := o_tt c1 h
    exact w_Jd_finish_j15 hE C hDD n Pr Jd Sj T0 T1 Rd Pg Pt Mk Lk Ck Ld rt h _ _ _ hP hS (lv_sub hl [0] rfl)
  · replace h := o_ff c1 h
    refine lv_aload_n hx hb d_Jd_finish_7 rfl (lv_at hl 0 rfl) ?_
    refine o_get (v := .ref (ad 54)) C in_Jd hP 49 cw_49 rfl 6 (by decide) k_2_80 rfl rfl d_Jd_finish_8 ?_
    refine lv_iconst (v := (0:Int32)) hx hb d_Jd_finish_11 (by decide) ?_
    obtain ⟨q2, hq2, h⟩ := o_bd_some h
    refine o_V (st1 := []) (w1 := (o_cw ad ca rt Sj T0 T1 Rd Pg Pt Mk Lk Ck Jd Ld q2)) hE.1 C (c_Pr_cut hE l (0:Int32) Pr Sj T0 T1 Rd Pg Pt Mk Lk Ck Jd Ld rt hq2) hP (hDD _ _ _ _ _ _ _ _ _ _ _ _ _) hS hl.1 rfl cw_54 k_6_3 k_6_4 k_6_5 k_1_11 k_6_6 hv_Pr_cut rfl rfl ⟨(Nat.le_of_ble_eq_true rfl), (Nat.le_of_ble_eq_true rfl)⟩ rfl (Nat.le_of_ble_eq_true rfl) ⟨Nat.zero_le _, Nat.zero_le _⟩ rfl d_Jd_finish_12 (fun H locs hP hS => ?_)
    exact w_Jd_finish_j15 hE C hDD n q2 Jd Sj T0 T1 Rd Pg Pt Mk Lk Ck Ld rt h _ _ _ hP hS (lv_sub hl [0] rfl)
set_option maxHeartbeats 4000000 in
set_option maxRecDepth 100000 in
theorem c_Jd_isOver {E : (Nat → Prop) → State → Heap → Prop} {D : va_G} {ad kd sd vd xd : Nat → Nat} {ca : Nat → ClassId} (hE : o_EK E kd sd vd xd) (l : Launch)  (Jd : SJd) (Sj : SSJ) (T0 : STx) (T1 : STx) (Rd : SRd) (Pg : SPg) (Pt : SPt) (Mk : SMk) (Lk : SLk) (Ck : SCk) (Ld : SLd) (Pr : SPr) (rt : Nat) {r : Int32} (h : m_Jd_isOver Jd = some r) : o_Cn E l D o_cls (o_tys ca) y_Jd_isOver cc_Jd_isOver rm_Jd_isOver [.ref (ad 49)] (o_cw ad ca rt Sj T0 T1 Rd Pg Pt Mk Lk Ck Jd Ld Pr) (o_cw ad ca rt Sj T0 T1 Rd Pg Pt Mk Lk Ck Jd Ld Pr) (some (.int r)) := by
  refine o_Cn_of (by decide) (Nat.le_of_ble_eq_true rfl) ?_
  intro p e s m below meth c A ls C hD hP hS hl
  have hDD : ∀ (rt : Nat) (Sj : SSJ) (T0 : STx) (T1 : STx) (Rd : SRd) (Pg : SPg) (Pt : SPt) (Mk : SMk) (Lk : SLk) (Ck : SCk) (Jd : SJd) (Ld : SLd) (Pr : SPr), va_D A (o_cw ad ca rt Sj T0 T1 Rd Pg Pt Mk Lk Ck Jd Ld Pr) := fun _ _ _ _ _ _ _ _ _ _ _ _ _ => o_D_map hD rfl
  have hl : lv_has ls 1 [(0, .ref (ad 49))] := hl
  unfold m_Jd_isOver at h
  have C0 := C
  obtain ⟨hx, hb, -, -, -, hown, hts, hK, -, -⟩ := C0
  refine lv_aload_n hx hb d_Jd_isOver_0 rfl (lv_at hl 0 rfl) ?_
  refine o_get (v := .int (Jd_over Jd)) C in_Jd hP 49 cw_49 rfl 9 (by decide) k_2_83 rfl rfl d_Jd_isOver_1 ?_
  obtain ⟨g1, h⟩ := o_gd_some h
  cases h
  exact o_rz (v := (Jd_over Jd)) C (o_zb_nar g1) hP hS d_Jd_isOver_4
set_option maxHeartbeats 4000000 in
set_option maxRecDepth 100000 in
theorem c_Jd_pairsKept {E : (Nat → Prop) → State → Heap → Prop} {D : va_G} {ad kd sd vd xd : Nat → Nat} {ca : Nat → ClassId} (hE : o_EK E kd sd vd xd) (l : Launch)  (Pr : SPr) (Sj : SSJ) (T0 : STx) (T1 : STx) (Rd : SRd) (Pg : SPg) (Pt : SPt) (Mk : SMk) (Lk : SLk) (Ck : SCk) (Jd : SJd) (Ld : SLd) (rt : Nat) {r : Int32} (h : m_Jd_pairsKept Pr = some r) : o_Cn E l D o_cls (o_tys ca) y_Jd_pairsKept cc_Jd_pairsKept rm_Jd_pairsKept [.ref (ad 49)] (o_cw ad ca rt Sj T0 T1 Rd Pg Pt Mk Lk Ck Jd Ld Pr) (o_cw ad ca rt Sj T0 T1 Rd Pg Pt Mk Lk Ck Jd Ld Pr) (some (.int r)) := by
  refine o_Cn_of (by decide) (Nat.le_of_ble_eq_true rfl) ?_
  intro p e s m below meth c A ls C hD hP hS hl
  have hDD : ∀ (rt : Nat) (Sj : SSJ) (T0 : STx) (T1 : STx) (Rd : SRd) (Pg : SPg) (Pt : SPt) (Mk : SMk) (Lk : SLk) (Ck : SCk) (Jd : SJd) (Ld : SLd) (Pr : SPr), va_D A (o_cw ad ca rt Sj T0 T1 Rd Pg Pt Mk Lk Ck Jd Ld Pr) := fun _ _ _ _ _ _ _ _ _ _ _ _ _ => o_D_map hD rfl
  have hl : lv_has ls 1 [(0, .ref (ad 49))] := hl
  unfold m_Jd_pairsKept at h
  have C0 := C
  obtain ⟨hx, hb, -, -, -, hown, hts, hK, -, -⟩ := C0
  refine lv_aload_n hx hb d_Jd_pairsKept_0 rfl (lv_at hl 0 rfl) ?_
  refine o_get (v := .ref (ad 54)) C in_Jd hP 49 cw_49 rfl 6 (by decide) k_2_80 rfl rfl d_Jd_pairsKept_1 ?_
  obtain ⟨q1, hq1, h⟩ := o_bd_some h
  refine o_V (st1 := [.int q1]) (w1 := (o_cw ad ca rt Sj T0 T1 Rd Pg Pt Mk Lk Ck Jd Ld Pr)) hE.1 C (c_Pr_size hE l Pr Sj T0 T1 Rd Pg Pt Mk Lk Ck Jd Ld rt hq1) hP (hDD _ _ _ _ _ _ _ _ _ _ _ _ _) hS hl.1 rfl cw_54 k_2_156 k_2_157 k_2_158 k_1_11 k_2_159 hv_Pr_size rfl rfl ⟨(Nat.le_of_ble_eq_true rfl), (Nat.le_of_ble_eq_true rfl)⟩ rfl (Nat.le_of_ble_eq_true rfl) ⟨Nat.zero_le _, Nat.zero_le _⟩ rfl d_Jd_pairsKept_4 (fun H locs hP hS => ?_)
  cases h
  exact o_ri C hP hS d_Jd_pairsKept_7
set_option maxHeartbeats 4000000 in
set_option maxRecDepth 100000 in
theorem c_Pr_at {E : (Nat → Prop) → State → Heap → Prop} {D : va_G} {ad kd sd vd xd : Nat → Nat} {ca : Nat → ClassId} (hE : o_EK E kd sd vd xd) (l : Launch) (x1 : Int32) (x2 : Int32) (Pr : SPr) (Sj : SSJ) (T0 : STx) (T1 : STx) (Rd : SRd) (Pg : SPg) (Pt : SPt) (Mk : SMk) (Lk : SLk) (Ck : SCk) (Jd : SJd) (Ld : SLd) (rt : Nat) {r : Int32} (h : m_Pr_at x1 x2 Pr = some r) : o_Cn E l D o_cls (o_tys ca) y_Pr_at cc_Pr_at rm_Pr_at [.ref (ad 54), .int x1, .int x2] (o_cw ad ca rt Sj T0 T1 Rd Pg Pt Mk Lk Ck Jd Ld Pr) (o_cw ad ca rt Sj T0 T1 Rd Pg Pt Mk Lk Ck Jd Ld Pr) (some (.int r)) := by
  refine o_Cn_of (by decide) (Nat.le_of_ble_eq_true rfl) ?_
  intro p e s m below meth c A ls C hD hP hS hl
  have hDD : ∀ (rt : Nat) (Sj : SSJ) (T0 : STx) (T1 : STx) (Rd : SRd) (Pg : SPg) (Pt : SPt) (Mk : SMk) (Lk : SLk) (Ck : SCk) (Jd : SJd) (Ld : SLd) (Pr : SPr), va_D A (o_cw ad ca rt Sj T0 T1 Rd Pg Pt Mk Lk Ck Jd Ld Pr) := fun _ _ _ _ _ _ _ _ _ _ _ _ _ => o_D_map hD rfl
  have hl : lv_has ls 3 [(0, .ref (ad 54)), (1, .int x1), (2, .int x2)] := hl
  unfold m_Pr_at at h
  have C0 := C
  obtain ⟨hx, hb, -, -, -, hown, hts, hK, -, -⟩ := C0
  refine lv_iload_n hx hb d_Pr_at_0 rfl (lv_at hl 1 rfl) ?_
  refine lv_if_lt (tgt := 12) hx hb d_Pr_at_1 (by decide) (fun c1 => ?_) (fun c1 => ?_)
  · replace h := o_tt c1 h
    refine lv_iconst (v := (-1:Int32)) hx hb d_Pr_at_12 (by decide) ?_
    cases h
    exact o_ri (v := (-1:Int32)) C hP hS d_Pr_at_13
  · replace h := o_ff c1 h
    refine lv_iload_n hx hb d_Pr_at_4 rfl (lv_at hl 1 rfl) ?_
    refine lv_aload_n hx hb d_Pr_at_5 rfl (lv_at hl 0 rfl) ?_
    refine o_get (v := .int (Pr_size Pr)) C in_Pr hP 54 cw_54 rfl 2 (by decide) k_2_66 rfl rfl d_Pr_at_6 ?_
    refine lv_icmp_lt (tgt := 14) hx hb d_Pr_at_9 (by decide) (fun c2 => ?_) (fun c2 => ?_)
    · replace h := o_tt c2 h
      refine lv_iload_n hx hb d_Pr_at_14 rfl (lv_at hl 2 rfl) ?_
      refine lv_if_eq (tgt := 27) hx hb d_Pr_at_15 (by decide) (fun c3 => ?_) (fun c3 => ?_)
      · replace h := o_tt c3 h
        refine lv_aload_n hx hb d_Pr_at_27 rfl (lv_at hl 0 rfl) ?_
        refine o_get (v := .ref (ad 55)) C in_Pr hP 54 cw_54 rfl 0 (by decide) k_2_64 rfl rfl d_Pr_at_28 ?_
        refine lv_iload_n hx hb d_Pr_at_31 rfl (lv_at hl 1 rfl) ?_
        obtain ⟨g4, h⟩ := o_gd_some h
        refine o_iald (f := (Pr_values Pr)) C hP 55 43 cw_55 rfl g4 d_Pr_at_32 ?_
        cases h
        exact o_ri (v := ((Pr_values Pr) x1.toNatClampNeg)) C hP hS d_Pr_at_33
      · replace h := o_ff c3 h
        refine lv_aload_n hx hb d_Pr_at_18 rfl (lv_at hl 0 rfl) ?_
        refine o_get (v := .ref (ad 56)) C in_Pr hP 54 cw_54 rfl 1 (by decide) k_2_65 rfl rfl d_Pr_at_19 ?_
        refine lv_iload_n hx hb d_Pr_at_22 rfl (lv_at hl 1 rfl) ?_
        obtain ⟨g5, h⟩ := o_gd_some h
        refine o_iald (f := (Pr_keywords Pr)) C hP 56 44 cw_56 rfl g5 d_Pr_at_23 ?_
        refine lv_goto (tgt := 33) hx hb d_Pr_at_24 (by decide) ?_
        cases h
        exact o_ri (v := ((Pr_keywords Pr) x1.toNatClampNeg)) C hP hS d_Pr_at_33
    · replace h := o_ff c2 h
      refine lv_iconst (v := (-1:Int32)) hx hb d_Pr_at_12 (by decide) ?_
      cases h
      exact o_ri (v := (-1:Int32)) C hP hS d_Pr_at_13
set_option maxHeartbeats 4000000 in
set_option maxRecDepth 100000 in
theorem c_Jd_pairAt {E : (Nat → Prop) → State → Heap → Prop} {D : va_G} {ad kd sd vd xd : Nat → Nat} {ca : Nat → ClassId} (hE : o_EK E kd sd vd xd) (l : Launch) (x1 : Int32) (x2 : Int32) (Pr : SPr) (Sj : SSJ) (T0 : STx) (T1 : STx) (Rd : SRd) (Pg : SPg) (Pt : SPt) (Mk : SMk) (Lk : SLk) (Ck : SCk) (Jd : SJd) (Ld : SLd) (rt : Nat) {r : Int32} (h : m_Jd_pairAt x1 x2 Pr = some r) : o_Cn E l D o_cls (o_tys ca) y_Jd_pairAt cc_Jd_pairAt rm_Jd_pairAt [.ref (ad 49), .int x1, .int x2] (o_cw ad ca rt Sj T0 T1 Rd Pg Pt Mk Lk Ck Jd Ld Pr) (o_cw ad ca rt Sj T0 T1 Rd Pg Pt Mk Lk Ck Jd Ld Pr) (some (.int r)) := by
  refine o_Cn_of (by decide) (Nat.le_of_ble_eq_true rfl) ?_
  intro p e s m below meth c A ls C hD hP hS hl
  have hDD : ∀ (rt : Nat) (Sj : SSJ) (T0 : STx) (T1 : STx) (Rd : SRd) (Pg : SPg) (Pt : SPt) (Mk : SMk) (Lk : SLk) (Ck : SCk) (Jd : SJd) (Ld : SLd) (Pr : SPr), va_D A (o_cw ad ca rt Sj T0 T1 Rd Pg Pt Mk Lk Ck Jd Ld Pr) := fun _ _ _ _ _ _ _ _ _ _ _ _ _ => o_D_map hD rfl
  have hl : lv_has ls 3 [(0, .ref (ad 49)), (1, .int x1), (2, .int x2)] := hl
  unfold m_Jd_pairAt at h
  have C0 := C
  obtain ⟨hx, hb, -, -, -, hown, hts, hK, -, -⟩ := C0
  refine lv_aload_n hx hb d_Jd_pairAt_0 rfl (lv_at hl 0 rfl) ?_
  refine o_get (v := .ref (ad 54)) C in_Jd hP 49 cw_49 rfl 6 (by decide) k_2_80 rfl rfl d_Jd_pairAt_1 ?_
  refine lv_iload_n hx hb d_Jd_pairAt_4 rfl (lv_at hl 1 rfl) ?_
  refine lv_iload_n hx hb d_Jd_pairAt_5 rfl (lv_at hl 2 rfl) ?_
  obtain ⟨q1, hq1, h⟩ := o_bd_some h
  refine o_V (st1 := [.int q1]) (w1 := (o_cw ad ca rt Sj T0 T1 Rd Pg Pt Mk Lk Ck Jd Ld Pr)) hE.1 C (c_Pr_at hE l x1 x2 Pr Sj T0 T1 Rd Pg Pt Mk Lk Ck Jd Ld rt hq1) hP (hDD _ _ _ _ _ _ _ _ _ _ _ _ _) hS hl.1 rfl cw_54 k_7_30 k_7_31 k_7_32 k_1_11 k_7_33 hv_Pr_at rfl rfl ⟨(Nat.le_of_ble_eq_true rfl), (Nat.le_of_ble_eq_true rfl)⟩ rfl (Nat.le_of_ble_eq_true rfl) ⟨Nat.zero_le _, Nat.zero_le _⟩ rfl d_Jd_pairAt_6 (fun H locs hP hS => ?_)
  cases h
  exact o_ri C hP hS d_Jd_pairAt_9
set_option maxHeartbeats 4000000 in
set_option maxRecDepth 100000 in
theorem c_Jd_evaluatedSchemas {E : (Nat → Prop) → State → Heap → Prop} {D : va_G} {ad kd sd vd xd : Nat → Nat} {ca : Nat → ClassId} (hE : o_EK E kd sd vd xd) (l : Launch)  (Jd : SJd) (Sj : SSJ) (T0 : STx) (T1 : STx) (Rd : SRd) (Pg : SPg) (Pt : SPt) (Mk : SMk) (Lk : SLk) (Ck : SCk) (Ld : SLd) (Pr : SPr) (rt : Nat) {r : Int32} (h : m_Jd_evaluatedSchemas Jd = some r) : o_Cn E l D o_cls (o_tys ca) y_Jd_evaluatedSchemas cc_Jd_evaluatedSchemas rm_Jd_evaluatedSchemas [.ref (ad 49)] (o_cw ad ca rt Sj T0 T1 Rd Pg Pt Mk Lk Ck Jd Ld Pr) (o_cw ad ca rt Sj T0 T1 Rd Pg Pt Mk Lk Ck Jd Ld Pr) (some (.int r)) := by
  refine o_Cn_of (by decide) (Nat.le_of_ble_eq_true rfl) ?_
  intro p e s m below meth c A ls C hD hP hS hl
  have hDD : ∀ (rt : Nat) (Sj : SSJ) (T0 : STx) (T1 : STx) (Rd : SRd) (Pg : SPg) (Pt : SPt) (Mk : SMk) (Lk : SLk) (Ck : SCk) (Jd : SJd) (Ld : SLd) (Pr : SPr), va_D A (o_cw ad ca rt Sj T0 T1 Rd Pg Pt Mk Lk Ck Jd Ld Pr) := fun _ _ _ _ _ _ _ _ _ _ _ _ _ => o_D_map hD rfl
  have hl : lv_has ls 1 [(0, .ref (ad 49))] := hl
  unfold m_Jd_evaluatedSchemas at h
  have C0 := C
  obtain ⟨hx, hb, -, -, -, hown, hts, hK, -, -⟩ := C0
  refine lv_aload_n hx hb d_Jd_evaluatedSchemas_0 rfl (lv_at hl 0 rfl) ?_
  refine o_get (v := .int (Jd_schemas Jd)) C in_Jd hP 49 cw_49 rfl 10 (by decide) k_2_84 rfl rfl d_Jd_evaluatedSchemas_1 ?_
  cases h
  exact o_ri (v := (Jd_schemas Jd)) C hP hS d_Jd_evaluatedSchemas_4
set_option maxHeartbeats 4000000 in
set_option maxRecDepth 100000 in
theorem c_Jd_deepest {E : (Nat → Prop) → State → Heap → Prop} {D : va_G} {ad kd sd vd xd : Nat → Nat} {ca : Nat → ClassId} (hE : o_EK E kd sd vd xd) (l : Launch)  (Jd : SJd) (Sj : SSJ) (T0 : STx) (T1 : STx) (Rd : SRd) (Pg : SPg) (Pt : SPt) (Mk : SMk) (Lk : SLk) (Ck : SCk) (Ld : SLd) (Pr : SPr) (rt : Nat) {r : Int32} (h : m_Jd_deepest Jd = some r) : o_Cn E l D o_cls (o_tys ca) y_Jd_deepest cc_Jd_deepest rm_Jd_deepest [.ref (ad 49)] (o_cw ad ca rt Sj T0 T1 Rd Pg Pt Mk Lk Ck Jd Ld Pr) (o_cw ad ca rt Sj T0 T1 Rd Pg Pt Mk Lk Ck Jd Ld Pr) (some (.int r)) := by
  refine o_Cn_of (by decide) (Nat.le_of_ble_eq_true rfl) ?_
  intro p e s m below meth c A ls C hD hP hS hl
  have hDD : ∀ (rt : Nat) (Sj : SSJ) (T0 : STx) (T1 : STx) (Rd : SRd) (Pg : SPg) (Pt : SPt) (Mk : SMk) (Lk : SLk) (Ck : SCk) (Jd : SJd) (Ld : SLd) (Pr : SPr), va_D A (o_cw ad ca rt Sj T0 T1 Rd Pg Pt Mk Lk Ck Jd Ld Pr) := fun _ _ _ _ _ _ _ _ _ _ _ _ _ => o_D_map hD rfl
  have hl : lv_has ls 1 [(0, .ref (ad 49))] := hl
  unfold m_Jd_deepest at h
  have C0 := C
  obtain ⟨hx, hb, -, -, -, hown, hts, hK, -, -⟩ := C0
  refine lv_aload_n hx hb d_Jd_deepest_0 rfl (lv_at hl 0 rfl) ?_
  refine o_get (v := .int (Jd_deepest Jd)) C in_Jd hP 49 cw_49 rfl 11 (by decide) k_2_85 rfl rfl d_Jd_deepest_1 ?_
  cases h
  exact o_ri (v := (Jd_deepest Jd)) C hP hS d_Jd_deepest_4
set_option maxHeartbeats 4000000 in
set_option maxRecDepth 100000 in
theorem c_Tx_clear_0 {E : (Nat → Prop) → State → Heap → Prop} {D : va_G} {ad kd sd vd xd : Nat → Nat} {ca : Nat → ClassId} (hE : o_EK E kd sd vd xd) (l : Launch)  (a0 : STx) (Sj : SSJ) (T1 : STx) (Rd : SRd) (Pg : SPg) (Pt : SPt) (Mk : SMk) (Lk : SLk) (Ck : SCk) (Jd : SJd) (Ld : SLd) (Pr : SPr) (rt : Nat) {r : STx} (h : m_Tx_clear a0 = some r) : o_Cn E l D o_cls (o_tys ca) y_Tx_clear cc_Tx_clear rm_Tx_clear [.ref (ad 1)] (o_cw ad ca rt Sj a0 T1 Rd Pg Pt Mk Lk Ck Jd Ld Pr) (o_cw ad ca rt Sj r T1 Rd Pg Pt Mk Lk Ck Jd Ld Pr) none := by
  refine o_Cn_of (by decide) (Nat.le_of_ble_eq_true rfl) ?_
  intro p e s m below meth c A ls C hD hP hS hl
  have hDD : ∀ (rt : Nat) (Sj : SSJ) (T0 : STx) (T1 : STx) (Rd : SRd) (Pg : SPg) (Pt : SPt) (Mk : SMk) (Lk : SLk) (Ck : SCk) (Jd : SJd) (Ld : SLd) (Pr : SPr), va_D A (o_cw ad ca rt Sj T0 T1 Rd Pg Pt Mk Lk Ck Jd Ld Pr) := fun _ _ _ _ _ _ _ _ _ _ _ _ _ => o_D_map hD rfl
  have hl : lv_has ls 1 [(0, .ref (ad 1))] := hl
  unfold m_Tx_clear at h
  have C0 := C
  obtain ⟨hx, hb, -, -, -, hown, hts, hK, -, -⟩ := C0
  refine lv_aload_n hx hb d_Tx_clear_0 rfl (lv_at hl 0 rfl) ?_
  refine lv_iconst (v := (0:Int32)) hx hb d_Tx_clear_1 (by decide) ?_
  refine o_put (v := .int (0:Int32)) (ty := .int) (w1 := (o_cw ad ca rt Sj (Tx_mk (Tx_kinds a0) (Tx_places a0) (Tx_sizes a0) (Tx_parents a0) (Tx_exponents a0) (Tx_starts a0) (Tx_afters a0) (Tx_slots a0) (Tx_negatives a0) (Tx_cells a0) (0:Int32) (Tx_used a0) (Tx_characters a0)) T1 Rd Pg Pt Mk Lk Ck Jd Ld Pr)) C in_Tx t_Tx t_Tx_ok n_Tx hP (hDD _ _ _ _ _ _ _ _ _ _ _ _ _) hS 1 cw_1 rfl 10 (by decide) k_1_56 rfl rfl (by decide +kernel) rfl rfl (Nat.le_of_ble_eq_true rfl) rfl d_Tx_clear_2 (fun H locs hP hS => ?_)
  refine lv_aload_n hx hb d_Tx_clear_5 rfl (lv_at hl 0 rfl) ?_
  refine lv_iconst (v := (0:Int32)) hx hb d_Tx_clear_6 (by decide) ?_
  refine o_put (v := .int (0:Int32)) (ty := .int) (w1 := (o_cw ad ca rt Sj (Tx_mk (Tx_kinds a0) (Tx_places a0) (Tx_sizes a0) (Tx_parents a0) (Tx_exponents a0) (Tx_starts a0) (Tx_afters a0) (Tx_slots a0) (Tx_negatives a0) (Tx_cells a0) (0:Int32) (0:Int32) (Tx_characters a0)) T1 Rd Pg Pt Mk Lk Ck Jd Ld Pr)) C in_Tx t_Tx t_Tx_ok n_Tx hP (hDD _ _ _ _ _ _ _ _ _ _ _ _ _) hS 1 cw_1 rfl 11 (by decide) k_1_57 rfl rfl (by decide +kernel) rfl rfl (Nat.le_of_ble_eq_true rfl) rfl d_Tx_clear_7 (fun H locs hP hS => ?_)
  refine lv_aload_n hx hb d_Tx_clear_10 rfl (lv_at hl 0 rfl) ?_
  refine lv_iconst (v := (0:Int32)) hx hb d_Tx_clear_11 (by decide) ?_
  refine o_put (v := .int (0:Int32)) (ty := .int) (w1 := (o_cw ad ca rt Sj (Tx_mk (Tx_kinds a0) (Tx_places a0) (Tx_sizes a0) (Tx_parents a0) (Tx_exponents a0) (Tx_starts a0) (Tx_afters a0) (Tx_slots a0) (Tx_negatives a0) (Tx_cells a0) (0:Int32) (0:Int32) (0:Int32)) T1 Rd Pg Pt Mk Lk Ck Jd Ld Pr)) C in_Tx t_Tx t_Tx_ok n_Tx hP (hDD _ _ _ _ _ _ _ _ _ _ _ _ _) hS 1 cw_1 rfl 12 (by decide) k_1_58 rfl rfl (by decide +kernel) rfl rfl (Nat.le_of_ble_eq_true rfl) rfl d_Tx_clear_12 (fun H locs hP hS => ?_)
  cases h
  exact o_rv C hP hS d_Tx_clear_15
set_option maxHeartbeats 4000000 in
set_option maxRecDepth 100000 in
theorem c_Tx_clear_1 {E : (Nat → Prop) → State → Heap → Prop} {D : va_G} {ad kd sd vd xd : Nat → Nat} {ca : Nat → ClassId} (hE : o_EK E kd sd vd xd) (l : Launch)  (a0 : STx) (Sj : SSJ) (T0 : STx) (Rd : SRd) (Pg : SPg) (Pt : SPt) (Mk : SMk) (Lk : SLk) (Ck : SCk) (Jd : SJd) (Ld : SLd) (Pr : SPr) (rt : Nat) {r : STx} (h : m_Tx_clear a0 = some r) : o_Cn E l D o_cls (o_tys ca) y_Tx_clear cc_Tx_clear rm_Tx_clear [.ref (ad 12)] (o_cw ad ca rt Sj T0 a0 Rd Pg Pt Mk Lk Ck Jd Ld Pr) (o_cw ad ca rt Sj T0 r Rd Pg Pt Mk Lk Ck Jd Ld Pr) none := by
  refine o_Cn_of (by decide) (Nat.le_of_ble_eq_true rfl) ?_
  intro p e s m below meth c A ls C hD hP hS hl
  have hDD : ∀ (rt : Nat) (Sj : SSJ) (T0 : STx) (T1 : STx) (Rd : SRd) (Pg : SPg) (Pt : SPt) (Mk : SMk) (Lk : SLk) (Ck : SCk) (Jd : SJd) (Ld : SLd) (Pr : SPr), va_D A (o_cw ad ca rt Sj T0 T1 Rd Pg Pt Mk Lk Ck Jd Ld Pr) := fun _ _ _ _ _ _ _ _ _ _ _ _ _ => o_D_map hD rfl
  have hl : lv_has ls 1 [(0, .ref (ad 12))] := hl
  unfold m_Tx_clear at h
  have C0 := C
  obtain ⟨hx, hb, -, -, -, hown, hts, hK, -, -⟩ := C0
  refine lv_aload_n hx hb d_Tx_clear_0 rfl (lv_at hl 0 rfl) ?_
  refine lv_iconst (v := (0:Int32)) hx hb d_Tx_clear_1 (by decide) ?_
  refine o_put (v := .int (0:Int32)) (ty := .int) (w1 := (o_cw ad ca rt Sj T0 (Tx_mk (Tx_kinds a0) (Tx_places a0) (Tx_sizes a0) (Tx_parents a0) (Tx_exponents a0) (Tx_starts a0) (Tx_afters a0) (Tx_slots a0) (Tx_negatives a0) (Tx_cells a0) (0:Int32) (Tx_used a0) (Tx_characters a0)) Rd Pg Pt Mk Lk Ck Jd Ld Pr)) C in_Tx t_Tx t_Tx_ok n_Tx hP (hDD _ _ _ _ _ _ _ _ _ _ _ _ _) hS 12 cw_12 rfl 10 (by decide) k_1_56 rfl rfl (by decide +kernel) rfl rfl (Nat.le_of_ble_eq_true rfl) rfl d_Tx_clear_2 (fun H locs hP hS => ?_)
  refine lv_aload_n hx hb d_Tx_clear_5 rfl (lv_at hl 0 rfl) ?_
  refine lv_iconst (v := (0:Int32)) hx hb d_Tx_clear_6 (by decide) ?_
  refine o_put (v := .int (0:Int32)) (ty := .int) (w1 := (o_cw ad ca rt Sj T0 (Tx_mk (Tx_kinds a0) (Tx_places a0) (Tx_sizes a0) (Tx_parents a0) (Tx_exponents a0) (Tx_starts a0) (Tx_afters a0) (Tx_slots a0) (Tx_negatives a0) (Tx_cells a0) (0:Int32) (0:Int32) (Tx_characters a0)) Rd Pg Pt Mk Lk Ck Jd Ld Pr)) C in_Tx t_Tx t_Tx_ok n_Tx hP (hDD _ _ _ _ _ _ _ _ _ _ _ _ _) hS 12 cw_12 rfl 11 (by decide) k_1_57 rfl rfl (by decide +kernel) rfl rfl (Nat.le_of_ble_eq_true rfl) rfl d_Tx_clear_7 (fun H locs hP hS => ?_)
  refine lv_aload_n hx hb d_Tx_clear_10 rfl (lv_at hl 0 rfl) ?_
  refine lv_iconst (v := (0:Int32)) hx hb d_Tx_clear_11 (by decide) ?_
  refine o_put (v := .int (0:Int32)) (ty := .int) (w1 := (o_cw ad ca rt Sj T0 (Tx_mk (Tx_kinds a0) (Tx_places a0) (Tx_sizes a0) (Tx_parents a0) (Tx_exponents a0) (Tx_starts a0) (Tx_afters a0) (Tx_slots a0) (Tx_negatives a0) (Tx_cells a0) (0:Int32) (0:Int32) (0:Int32)) Rd Pg Pt Mk Lk Ck Jd Ld Pr)) C in_Tx t_Tx t_Tx_ok n_Tx hP (hDD _ _ _ _ _ _ _ _ _ _ _ _ _) hS 12 cw_12 rfl 12 (by decide) k_1_58 rfl rfl (by decide +kernel) rfl rfl (Nat.le_of_ble_eq_true rfl) rfl d_Tx_clear_12 (fun H locs hP hS => ?_)
  cases h
  exact o_rv C hP hS d_Tx_clear_15
set_option maxHeartbeats 4000000 in
set_option maxRecDepth 100000 in
theorem c_Tx_begin_0 {E : (Nat → Prop) → State → Heap → Prop} {D : va_G} {ad kd sd vd xd : Nat → Nat} {ca : Nat → ClassId} (hE : o_EK E kd sd vd xd) (l : Launch) (x1 : Int32) (x2 : Int32) (x3 : Int32) (x4 : Int32) (a0 : STx) (Sj : SSJ) (T1 : STx) (Rd : SRd) (Pg : SPg) (Pt : SPt) (Mk : SMk) (Lk : SLk) (Ck : SCk) (Jd : SJd) (Ld : SLd) (Pr : SPr) (rt : Nat) {r : Int32 × STx} (h : m_Tx_begin x1 x2 x3 x4 a0 = some r) : o_Cn E l D o_cls (o_tys ca) y_Tx_begin cc_Tx_begin rm_Tx_begin [.ref (ad 1), .int x1, .int x2, .int x3, .int x4] (o_cw ad ca rt Sj a0 T1 Rd Pg Pt Mk Lk Ck Jd Ld Pr) (o_cw ad ca rt Sj r.2 T1 Rd Pg Pt Mk Lk Ck Jd Ld Pr) (some (.int r.1)) := by
  refine o_Cn_of (by decide) (Nat.le_of_ble_eq_true rfl) ?_
  intro p e s m below meth c A ls C hD hP hS hl
  have hDD : ∀ (rt : Nat) (Sj : SSJ) (T0 : STx) (T1 : STx) (Rd : SRd) (Pg : SPg) (Pt : SPt) (Mk : SMk) (Lk : SLk) (Ck : SCk) (Jd : SJd) (Ld : SLd) (Pr : SPr), va_D A (o_cw ad ca rt Sj T0 T1 Rd Pg Pt Mk Lk Ck Jd Ld Pr) := fun _ _ _ _ _ _ _ _ _ _ _ _ _ => o_D_map hD rfl
  have hl : lv_has ls 6 [(0, .ref (ad 1)), (1, .int x1), (2, .int x2), (3, .int x3), (4, .int x4)] := hl
  unfold m_Tx_begin at h
  have C0 := C
  obtain ⟨hx, hb, -, -, -, hown, hts, hK, -, -⟩ := C0
  refine lv_aload_n hx hb d_Tx_begin_0 rfl (lv_at hl 0 rfl) ?_
  refine o_get (v := .int (Tx_total a0)) C in_Tx hP 1 cw_1 rfl 10 (by decide) k_1_56 rfl rfl d_Tx_begin_1 ?_
  refine lv_sipush (v := (1000:Int32)) hx hb d_Tx_begin_4 (by decide) ?_
  refine lv_icmp_lt (tgt := 12) hx hb d_Tx_begin_7 (by decide) (fun c1 => ?_) (fun c1 => ?_)
  · replace h := o_tt c1 h
    refine lv_aload_n hx hb d_Tx_begin_12 rfl (lv_at hl 0 rfl) ?_
    refine o_get (v := .int (Tx_total a0)) C in_Tx hP 1 cw_1 rfl 10 (by decide) k_1_56 rfl rfl d_Tx_begin_13 ?_
    refine lv_topi (fun x5_16 ex5_16 => ?_)
    replace h := o_nm_at ex5_16 h
    refine lv_istore (lv' := [(5, .int x5_16), (0, .ref (ad 1)), (1, .int x1), (2, .int x2), (3, .int x3), (4, .int x4)]) hx hb d_Tx_begin_16 hl (by decide) rfl (fun ls hl => ?_)
    refine lv_aload_n hx hb d_Tx_begin_18 rfl (lv_at hl 1 rfl) ?_
    refine lv_dup hx hb d_Tx_begin_19 rfl ?_
    refine o_get (v := .int (Tx_total a0)) C in_Tx hP 1 cw_1 rfl 10 (by decide) k_1_56 rfl rfl d_Tx_begin_20 ?_
    refine lv_iconst (v := (1:Int32)) hx hb d_Tx_begin_23 (by decide) ?_
    refine lv_iadd hx hb d_Tx_begin_24 ?_
    refine o_put (v := .int ((Tx_total a0) + (1:Int32))) (ty := .int) (w1 := (o_cw ad ca rt Sj (Tx_mk (Tx_kinds a0) (Tx_places a0) (Tx_sizes a0) (Tx_parents a0) (Tx_exponents a0) (Tx_starts a0) (Tx_afters a0) (Tx_slots a0) (Tx_negatives a0) (Tx_cells a0) ((Tx_total a0) + (1:Int32)) (Tx_used a0) (Tx_characters a0)) T1 Rd Pg Pt Mk Lk Ck Jd Ld Pr)) C in_Tx t_Tx t_Tx_ok n_Tx hP (hDD _ _ _ _ _ _ _ _ _ _ _ _ _) hS 1 cw_1 rfl 10 (by decide) k_1_56 rfl rfl (by decide +kernel) rfl rfl (Nat.le_of_ble_eq_true rfl) rfl d_Tx_begin_25 (fun H locs hP hS => ?_)
    refine lv_aload_n hx hb d_Tx_begin_28 rfl (lv_at hl 1 rfl) ?_
    refine o_get (v := .ref (ad 2)) C in_Tx hP 1 cw_1 rfl 0 (by decide) k_1_46 rfl rfl d_Tx_begin_29 ?_
    refine lv_iload hx hb d_Tx_begin_32 (lv_at hl 0 rfl) ?_
    refine lv_iload_n hx hb d_Tx_begin_34 rfl (lv_at hl 2 rfl) ?_
    obtain ⟨g2, h⟩ := o_gd_some h
    refine o_iast (f := (Tx_kinds a0)) (w1 := (o_cw ad ca rt Sj (Tx_mk (upd (Tx_kinds a0) x5_16.toNatClampNeg x1) (Tx_places a0) (Tx_sizes a0) (Tx_parents a0) (Tx_exponents a0) (Tx_starts a0) (Tx_afters a0) (Tx_slots a0) (Tx_negatives a0) (Tx_cells a0) ((Tx_total a0) + (1:Int32)) (Tx_used a0) (Tx_characters a0)) T1 Rd Pg Pt Mk Lk Ck Jd Ld Pr)) C hP (hDD _ _ _ _ _ _ _ _ _ _ _ _ _) hS 2 0 cw_2 rfl g2 rfl d_Tx_begin_35 (fun H locs hP hS => ?_)
    refine lv_aload_n hx hb d_Tx_begin_36 rfl (lv_at hl 1 rfl) ?_
    refine o_get (v := .ref (ad 3)) C in_Tx hP 1 cw_1 rfl 1 (by decide) k_1_47 rfl rfl d_Tx_begin_37 ?_
    refine lv_iload hx hb d_Tx_begin_40 (lv_at hl 0 rfl) ?_
    refine lv_iload_n hx hb d_Tx_begin_42 rfl (lv_at hl 3 rfl) ?_
    obtain ⟨g3, h⟩ := o_gd_some h
    refine o_iast (f := (Tx_places a0)) (w1 := (o_cw ad ca rt Sj (Tx_mk (upd (Tx_kinds a0) x5_16.toNatClampNeg x1) (upd (Tx_places a0) x5_16.toNatClampNeg x2) (Tx_sizes a0) (Tx_parents a0) (Tx_exponents a0) (Tx_starts a0) (Tx_afters a0) (Tx_slots a0) (Tx_negatives a0) (Tx_cells a0) ((Tx_total a0) + (1:Int32)) (Tx_used a0) (Tx_characters a0)) T1 Rd Pg Pt Mk Lk Ck Jd Ld Pr)) C hP (hDD _ _ _ _ _ _ _ _ _ _ _ _ _) hS 3 1 cw_3 rfl g3 rfl d_Tx_begin_43 (fun H locs hP hS => ?_)
    refine lv_aload_n hx hb d_Tx_begin_44 rfl (lv_at hl 1 rfl) ?_
    refine o_get (v := .ref (ad 4)) C in_Tx hP 1 cw_1 rfl 2 (by decide) k_1_48 rfl rfl d_Tx_begin_45 ?_
    refine lv_iload hx hb d_Tx_begin_48 (lv_at hl 0 rfl) ?_
    refine lv_iconst (v := (0:Int32)) hx hb d_Tx_begin_50 (by decide) ?_
    obtain ⟨g4, h⟩ := o_gd_some h
    refine o_iast (f := (Tx_sizes a0)) (w1 := (o_cw ad ca rt Sj (Tx_mk (upd (Tx_kinds a0) x5_16.toNatClampNeg x1) (upd (Tx_places a0) x5_16.toNatClampNeg x2) (upd (Tx_sizes a0) x5_16.toNatClampNeg (0:Int32)) (Tx_parents a0) (Tx_exponents a0) (Tx_starts a0) (Tx_afters a0) (Tx_slots a0) (Tx_negatives a0) (Tx_cells a0) ((Tx_total a0) + (1:Int32)) (Tx_used a0) (Tx_characters a0)) T1 Rd Pg Pt Mk Lk Ck Jd Ld Pr)) C hP (hDD _ _ _ _ _ _ _ _ _ _ _ _ _) hS 4 2 cw_4 rfl g4 rfl d_Tx_begin_51 (fun H locs hP hS => ?_)
    refine lv_aload_n hx hb d_Tx_begin_52 rfl (lv_at hl 1 rfl) ?_
    refine o_get (v := .ref (ad 5)) C in_Tx hP 1 cw_1 rfl 3 (by decide) k_1_49 rfl rfl d_Tx_begin_53 ?_
    refine lv_iload hx hb d_Tx_begin_56 (lv_at hl 0 rfl) ?_
    refine lv_iload_n hx hb d_Tx_begin_58 rfl (lv_at hl 4 rfl) ?_
    obtain ⟨g5, h⟩ := o_gd_some h
    refine o_iast (f := (Tx_parents a0)) (w1 := (o_cw ad ca rt Sj (Tx_mk (upd (Tx_kinds a0) x5_16.toNatClampNeg x1) (upd (Tx_places a0) x5_16.toNatClampNeg x2) (upd (Tx_sizes a0) x5_16.toNatClampNeg (0:Int32)) (upd (Tx_parents a0) x5_16.toNatClampNeg x3) (Tx_exponents a0) (Tx_starts a0) (Tx_afters a0) (Tx_slots a0) (Tx_negatives a0) (Tx_cells a0) ((Tx_total a0) + (1:Int32)) (Tx_used a0) (Tx_characters a0)) T1 Rd Pg Pt Mk Lk Ck Jd Ld Pr)) C hP (hDD _ _ _ _ _ _ _ _ _ _ _ _ _) hS 5 3 cw_5 rfl g5 rfl d_Tx_begin_59 (fun H locs hP hS => ?_)
    refine lv_aload_n hx hb d_Tx_begin_60 rfl (lv_at hl 1 rfl) ?_
    refine o_get (v := .ref (ad 6)) C in_Tx hP 1 cw_1 rfl 4 (by decide) k_1_50 rfl rfl d_Tx_begin_61 ?_
    refine lv_iload hx hb d_Tx_begin_64 (lv_at hl 0 rfl) ?_
    refine lv_iconst (v := (0:Int32)) hx hb d_Tx_begin_66 (by decide) ?_
    obtain ⟨g6, h⟩ := o_gd_some h
    refine o_iast (f := (Tx_exponents a0)) (w1 := (o_cw ad ca rt Sj (Tx_mk (upd (Tx_kinds a0) x5_16.toNatClampNeg x1) (upd (Tx_places a0) x5_16.toNatClampNeg x2) (upd (Tx_sizes a0) x5_16.toNatClampNeg (0:Int32)) (upd (Tx_parents a0) x5_16.toNatClampNeg x3) (upd (Tx_exponents a0) x5_16.toNatClampNeg (0:Int32)) (Tx_starts a0) (Tx_afters a0) (Tx_slots a0) (Tx_negatives a0) (Tx_cells a0) ((Tx_total a0) + (1:Int32)) (Tx_used a0) (Tx_characters a0)) T1 Rd Pg Pt Mk Lk Ck Jd Ld Pr)) C hP (hDD _ _ _ _ _ _ _ _ _ _ _ _ _) hS 6 4 cw_6 rfl g6 rfl d_Tx_begin_67 (fun H locs hP hS => ?_)
    refine lv_aload_n hx hb d_Tx_begin_68 rfl (lv_at hl 1 rfl) ?_
    refine o_get (v := .ref (ad 7)) C in_Tx hP 1 cw_1 rfl 5 (by decide) k_1_51 rfl rfl d_Tx_begin_69 ?_
    refine lv_iload hx hb d_Tx_begin_72 (lv_at hl 0 rfl) ?_
    refine lv_aload_n hx hb d_Tx_begin_74 rfl (lv_at hl 1 rfl) ?_
    refine o_get (v := .int (Tx_used a0)) C in_Tx hP 1 cw_1 rfl 11 (by decide) k_1_57 rfl rfl d_Tx_begin_75 ?_
    obtain ⟨g7, h⟩ := o_gd_some h
    refine o_iast (f := (Tx_starts a0)) (w1 := (o_cw ad ca rt Sj (Tx_mk (upd (Tx_kinds a0) x5_16.toNatClampNeg x1) (upd (Tx_places a0) x5_16.toNatClampNeg x2) (upd (Tx_sizes a0) x5_16.toNatClampNeg (0:Int32)) (upd (Tx_parents a0) x5_16.toNatClampNeg x3) (upd (Tx_exponents a0) x5_16.toNatClampNeg (0:Int32)) (upd (Tx_starts a0) x5_16.toNatClampNeg (Tx_used a0)) (Tx_afters a0) (Tx_slots a0) (Tx_negatives a0) (Tx_cells a0) ((Tx_total a0) + (1:Int32)) (Tx_used a0) (Tx_characters a0)) T1 Rd Pg Pt Mk Lk Ck Jd Ld Pr)) C hP (hDD _ _ _ _ _ _ _ _ _ _ _ _ _) hS 7 5 cw_7 rfl g7 rfl d_Tx_begin_78 (fun H locs hP hS => ?_)
    refine lv_aload_n hx hb d_Tx_begin_79 rfl (lv_at hl 1 rfl) ?_
    refine o_get (v := .ref (ad 8)) C in_Tx hP 1 cw_1 rfl 6 (by decide) k_1_52 rfl rfl d_Tx_begin_80 ?_
    refine lv_iload hx hb d_Tx_begin_83 (lv_at hl 0 rfl) ?_
    refine lv_aload_n hx hb d_Tx_begin_85 rfl (lv_at hl 1 rfl) ?_
    refine o_get (v := .int ((Tx_total a0) + (1:Int32))) C in_Tx hP 1 cw_1 rfl 10 (by decide) k_1_56 rfl rfl d_Tx_begin_86 ?_
    obtain ⟨g8, h⟩ := o_gd_some h
    refine o_iast (f := (Tx_afters a0)) (w1 := (o_cw ad ca rt Sj (Tx_mk (upd (Tx_kinds a0) x5_16.toNatClampNeg x1) (upd (Tx_places a0) x5_16.toNatClampNeg x2) (upd (Tx_sizes a0) x5_16.toNatClampNeg (0:Int32)) (upd (Tx_parents a0) x5_16.toNatClampNeg x3) (upd (Tx_exponents a0) x5_16.toNatClampNeg (0:Int32)) (upd (Tx_starts a0) x5_16.toNatClampNeg (Tx_used a0)) (upd (Tx_afters a0) x5_16.toNatClampNeg ((Tx_total a0) + (1:Int32))) (Tx_slots a0) (Tx_negatives a0) (Tx_cells a0) ((Tx_total a0) + (1:Int32)) (Tx_used a0) (Tx_characters a0)) T1 Rd Pg Pt Mk Lk Ck Jd Ld Pr)) C hP (hDD _ _ _ _ _ _ _ _ _ _ _ _ _) hS 8 6 cw_8 rfl g8 rfl d_Tx_begin_89 (fun H locs hP hS => ?_)
    refine lv_aload_n hx hb d_Tx_begin_90 rfl (lv_at hl 1 rfl) ?_
    refine o_get (v := .ref (ad 9)) C in_Tx hP 1 cw_1 rfl 7 (by decide) k_1_53 rfl rfl d_Tx_begin_91 ?_
    refine lv_iload hx hb d_Tx_begin_94 (lv_at hl 0 rfl) ?_
    refine lv_iload hx hb d_Tx_begin_96 (lv_at hl 5 rfl) ?_
    obtain ⟨g9, h⟩ := o_gd_some h
    refine o_iast (f := (Tx_slots a0)) (w1 := (o_cw ad ca rt Sj (Tx_mk (upd (Tx_kinds a0) x5_16.toNatClampNeg x1) (upd (Tx_places a0) x5_16.toNatClampNeg x2) (upd (Tx_sizes a0) x5_16.toNatClampNeg (0:Int32)) (upd (Tx_parents a0) x5_16.toNatClampNeg x3) (upd (Tx_exponents a0) x5_16.toNatClampNeg (0:Int32)) (upd (Tx_starts a0) x5_16.toNatClampNeg (Tx_used a0)) (upd (Tx_afters a0) x5_16.toNatClampNeg ((Tx_total a0) + (1:Int32))) (upd (Tx_slots a0) x5_16.toNatClampNeg x4) (Tx_negatives a0) (Tx_cells a0) ((Tx_total a0) + (1:Int32)) (Tx_used a0) (Tx_characters a0)) T1 Rd Pg Pt Mk Lk Ck Jd Ld Pr)) C hP (hDD _ _ _ _ _ _ _ _ _ _ _ _ _) hS 9 7 cw_9 rfl g9 rfl d_Tx_begin_98 (fun H locs hP hS => ?_)
    refine lv_aload_n hx hb d_Tx_begin_99 rfl (lv_at hl 1 rfl) ?_
    refine o_get (v := .ref (ad 10)) C in_Tx hP 1 cw_1 rfl 8 (by decide) k_1_54 rfl rfl d_Tx_begin_100 ?_
    refine lv_iload hx hb d_Tx_begin_103 (lv_at hl 0 rfl) ?_
    refine lv_iconst (v := (0:Int32)) hx hb d_Tx_begin_105 (by decide) ?_
    obtain ⟨g10, h⟩ := o_gd_some h
    refine o_zast (f := (Tx_negatives a0)) (w1 := (o_cw ad ca rt Sj (Tx_mk (upd (Tx_kinds a0) x5_16.toNatClampNeg x1) (upd (Tx_places a0) x5_16.toNatClampNeg x2) (upd (Tx_sizes a0) x5_16.toNatClampNeg (0:Int32)) (upd (Tx_parents a0) x5_16.toNatClampNeg x3) (upd (Tx_exponents a0) x5_16.toNatClampNeg (0:Int32)) (upd (Tx_starts a0) x5_16.toNatClampNeg (Tx_used a0)) (upd (Tx_afters a0) x5_16.toNatClampNeg ((Tx_total a0) + (1:Int32))) (upd (Tx_slots a0) x5_16.toNatClampNeg x4) (upd (Tx_negatives a0) x5_16.toNatClampNeg (vp_nar .boolean (0:Int32))) (Tx_cells a0) ((Tx_total a0) + (1:Int32)) (Tx_used a0) (Tx_characters a0)) T1 Rd Pg Pt Mk Lk Ck Jd Ld Pr)) C hP (hDD _ _ _ _ _ _ _ _ _ _ _ _ _) hS 10 8 cw_10 rfl g10 rfl d_Tx_begin_106 (fun H locs hP hS => ?_)
    refine lv_iload hx hb d_Tx_begin_107 (lv_at hl 0 rfl) ?_
    cases h
    exact o_ri C hP hS d_Tx_begin_109
  · replace h := o_ff c1 h
    refine lv_iconst (v := (-1:Int32)) hx hb d_Tx_begin_10 (by decide) ?_
    cases h
    exact o_ri (v := (-1:Int32)) C hP hS d_Tx_begin_11
set_option maxHeartbeats 4000000 in
set_option maxRecDepth 100000 in
theorem c_Tx_begin_1 {E : (Nat → Prop) → State → Heap → Prop} {D : va_G} {ad kd sd vd xd : Nat → Nat} {ca : Nat → ClassId} (hE : o_EK E kd sd vd xd) (l : Launch) (x1 : Int32) (x2 : Int32) (x3 : Int32) (x4 : Int32) (a0 : STx) (Sj : SSJ) (T0 : STx) (Rd : SRd) (Pg : SPg) (Pt : SPt) (Mk : SMk) (Lk : SLk) (Ck : SCk) (Jd : SJd) (Ld : SLd) (Pr : SPr) (rt : Nat) {r : Int32 × STx} (h : m_Tx_begin x1 x2 x3 x4 a0 = some r) : o_Cn E l D o_cls (o_tys ca) y_Tx_begin cc_Tx_begin rm_Tx_begin [.ref (ad 12), .int x1, .int x2, .int x3, .int x4] (o_cw ad ca rt Sj T0 a0 Rd Pg Pt Mk Lk Ck Jd Ld Pr) (o_cw ad ca rt Sj T0 r.2 Rd Pg Pt Mk Lk Ck Jd Ld Pr) (some (.int r.1)) := by
  refine o_Cn_of (by decide) (Nat.le_of_ble_eq_true rfl) ?_
  intro p e s m below meth c A ls C hD hP hS hl
  have hDD : ∀ (rt : Nat) (Sj : SSJ) (T0 : STx) (T1 : STx) (Rd : SRd) (Pg : SPg) (Pt : SPt) (Mk : SMk) (Lk : SLk) (Ck : SCk) (Jd : SJd) (Ld : SLd) (Pr : SPr), va_D A (o_cw ad ca rt Sj T0 T1 Rd Pg Pt Mk Lk Ck Jd Ld Pr) := fun _ _ _ _ _ _ _ _ _ _ _ _ _ => o_D_map hD rfl
  have hl : lv_has ls 6 [(0, .ref (ad 12)), (1, .int x1), (2, .int x2), (3, .int x3), (4, .int x4)] := hl
  unfold m_Tx_begin at h
  have C0 := C
  obtain ⟨hx, hb, -, -, -, hown, hts, hK, -, -⟩ := C0
  refine lv_aload_n hx hb d_Tx_begin_0 rfl (lv_at hl 0 rfl) ?_
  refine o_get (v := .int (Tx_total a0)) C in_Tx hP 12 cw_12 rfl 10 (by decide) k_1_56 rfl rfl d_Tx_begin_1 ?_
  refine lv_sipush (v := (1000:Int32)) hx hb d_Tx_begin_4 (by decide) ?_
  refine lv_icmp_lt (tgt := 12) hx hb d_Tx_begin_7 (by decide) (fun c1 => ?_) (fun c1 => ?_)
  · replace h := o_tt c1 h
    refine lv_aload_n hx hb d_Tx_begin_12 rfl (lv_at hl 0 rfl) ?_
    refine o_get (v := .int (Tx_total a0)) C in_Tx hP 12 cw_12 rfl 10 (by decide) k_1_56 rfl rfl d_Tx_begin_13 ?_
    refine lv_topi (fun x5_16 ex5_16 => ?_)
    replace h := o_nm_at ex5_16 h
    refine lv_istore (lv' := [(5, .int x5_16), (0, .ref (ad 12)), (1, .int x1), (2, .int x2), (3, .int x3), (4, .int x4)]) hx hb d_Tx_begin_16 hl (by decide) rfl (fun ls hl => ?_)
    refine lv_aload_n hx hb d_Tx_begin_18 rfl (lv_at hl 1 rfl) ?_
    refine lv_dup hx hb d_Tx_begin_19 rfl ?_
    refine o_get (v := .int (Tx_total a0)) C in_Tx hP 12 cw_12 rfl 10 (by decide) k_1_56 rfl rfl d_Tx_begin_20 ?_
    refine lv_iconst (v := (1:Int32)) hx hb d_Tx_begin_23 (by decide) ?_
    refine lv_iadd hx hb d_Tx_begin_24 ?_
    refine o_put (v := .int ((Tx_total a0) + (1:Int32))) (ty := .int) (w1 := (o_cw ad ca rt Sj T0 (Tx_mk (Tx_kinds a0) (Tx_places a0) (Tx_sizes a0) (Tx_parents a0) (Tx_exponents a0) (Tx_starts a0) (Tx_afters a0) (Tx_slots a0) (Tx_negatives a0) (Tx_cells a0) ((Tx_total a0) + (1:Int32)) (Tx_used a0) (Tx_characters a0)) Rd Pg Pt Mk Lk Ck Jd Ld Pr)) C in_Tx t_Tx t_Tx_ok n_Tx hP (hDD _ _ _ _ _ _ _ _ _ _ _ _ _) hS 12 cw_12 rfl 10 (by decide) k_1_56 rfl rfl (by decide +kernel) rfl rfl (Nat.le_of_ble_eq_true rfl) rfl d_Tx_begin_25 (fun H locs hP hS => ?_)
    refine lv_aload_n hx hb d_Tx_begin_28 rfl (lv_at hl 1 rfl) ?_
    refine o_get (v := .ref (ad 13)) C in_Tx hP 12 cw_12 rfl 0 (by decide) k_1_46 rfl rfl d_Tx_begin_29 ?_
    refine lv_iload hx hb d_Tx_begin_32 (lv_at hl 0 rfl) ?_
    refine lv_iload_n hx hb d_Tx_begin_34 rfl (lv_at hl 2 rfl) ?_
    obtain ⟨g2, h⟩ := o_gd_some h
    refine o_iast (f := (Tx_kinds a0)) (w1 := (o_cw ad ca rt Sj T0 (Tx_mk (upd (Tx_kinds a0) x5_16.toNatClampNeg x1) (Tx_places a0) (Tx_sizes a0) (Tx_parents a0) (Tx_exponents a0) (Tx_starts a0) (Tx_afters a0) (Tx_slots a0) (Tx_negatives a0) (Tx_cells a0) ((Tx_total a0) + (1:Int32)) (Tx_used a0) (Tx_characters a0)) Rd Pg Pt Mk Lk Ck Jd Ld Pr)) C hP (hDD _ _ _ _ _ _ _ _ _ _ _ _ _) hS 13 10 cw_13 rfl g2 rfl d_Tx_begin_35 (fun H locs hP hS => ?_)
    refine lv_aload_n hx hb d_Tx_begin_36 rfl (lv_at hl 1 rfl) ?_
    refine o_get (v := .ref (ad 14)) C in_Tx hP 12 cw_12 rfl 1 (by decide) k_1_47 rfl rfl d_Tx_begin_37 ?_
    refine lv_iload hx hb d_Tx_begin_40 (lv_at hl 0 rfl) ?_
    refine lv_iload_n hx hb d_Tx_begin_42 rfl (lv_at hl 3 rfl) ?_
    obtain ⟨g3, h⟩ := o_gd_some h
    refine o_iast (f := (Tx_places a0)) (w1 := (o_cw ad ca rt Sj T0 (Tx_mk (upd (Tx_kinds a0) x5_16.toNatClampNeg x1) (upd (Tx_places a0) x5_16.toNatClampNeg x2) (Tx_sizes a0) (Tx_parents a0) (Tx_exponents a0) (Tx_starts a0) (Tx_afters a0) (Tx_slots a0) (Tx_negatives a0) (Tx_cells a0) ((Tx_total a0) + (1:Int32)) (Tx_used a0) (Tx_characters a0)) Rd Pg Pt Mk Lk Ck Jd Ld Pr)) C hP (hDD _ _ _ _ _ _ _ _ _ _ _ _ _) hS 14 11 cw_14 rfl g3 rfl d_Tx_begin_43 (fun H locs hP hS => ?_)
    refine lv_aload_n hx hb d_Tx_begin_44 rfl (lv_at hl 1 rfl) ?_
    refine o_get (v := .ref (ad 15)) C in_Tx hP 12 cw_12 rfl 2 (by decide) k_1_48 rfl rfl d_Tx_begin_45 ?_
    refine lv_iload hx hb d_Tx_begin_48 (lv_at hl 0 rfl) ?_
    refine lv_iconst (v := (0:Int32)) hx hb d_Tx_begin_50 (by decide) ?_
    obtain ⟨g4, h⟩ := o_gd_some h
    refine o_iast (f := (Tx_sizes a0)) (w1 := (o_cw ad ca rt Sj T0 (Tx_mk (upd (Tx_kinds a0) x5_16.toNatClampNeg x1) (upd (Tx_places a0) x5_16.toNatClampNeg x2) (upd (Tx_sizes a0) x5_16.toNatClampNeg (0:Int32)) (Tx_parents a0) (Tx_exponents a0) (Tx_starts a0) (Tx_afters a0) (Tx_slots a0) (Tx_negatives a0) (Tx_cells a0) ((Tx_total a0) + (1:Int32)) (Tx_used a0) (Tx_characters a0)) Rd Pg Pt Mk Lk Ck Jd Ld Pr)) C hP (hDD _ _ _ _ _ _ _ _ _ _ _ _ _) hS 15 12 cw_15 rfl g4 rfl d_Tx_begin_51 (fun H locs hP hS => ?_)
    refine lv_aload_n hx hb d_Tx_begin_52 rfl (lv_at hl 1 rfl) ?_
    refine o_get (v := .ref (ad 16)) C in_Tx hP 12 cw_12 rfl 3 (by decide) k_1_49 rfl rfl d_Tx_begin_53 ?_
    refine lv_iload hx hb d_Tx_begin_56 (lv_at hl 0 rfl) ?_
    refine lv_iload_n hx hb d_Tx_begin_58 rfl (lv_at hl 4 rfl) ?_
    obtain ⟨g5, h⟩ := o_gd_some h
    refine o_iast (f := (Tx_parents a0)) (w1 := (o_cw ad ca rt Sj T0 (Tx_mk (upd (Tx_kinds a0) x5_16.toNatClampNeg x1) (upd (Tx_places a0) x5_16.toNatClampNeg x2) (upd (Tx_sizes a0) x5_16.toNatClampNeg (0:Int32)) (upd (Tx_parents a0) x5_16.toNatClampNeg x3) (Tx_exponents a0) (Tx_starts a0) (Tx_afters a0) (Tx_slots a0) (Tx_negatives a0) (Tx_cells a0) ((Tx_total a0) + (1:Int32)) (Tx_used a0) (Tx_characters a0)) Rd Pg Pt Mk Lk Ck Jd Ld Pr)) C hP (hDD _ _ _ _ _ _ _ _ _ _ _ _ _) hS 16 13 cw_16 rfl g5 rfl d_Tx_begin_59 (fun H locs hP hS => ?_)
    refine lv_aload_n hx hb d_Tx_begin_60 rfl (lv_at hl 1 rfl) ?_
    refine o_get (v := .ref (ad 17)) C in_Tx hP 12 cw_12 rfl 4 (by decide) k_1_50 rfl rfl d_Tx_begin_61 ?_
    refine lv_iload hx hb d_Tx_begin_64 (lv_at hl 0 rfl) ?_
    refine lv_iconst (v := (0:Int32)) hx hb d_Tx_begin_66 (by decide) ?_
    obtain ⟨g6, h⟩ := o_gd_some h
    refine o_iast (f := (Tx_exponents a0)) (w1 := (o_cw ad ca rt Sj T0 (Tx_mk (upd (Tx_kinds a0) x5_16.toNatClampNeg x1) (upd (Tx_places a0) x5_16.toNatClampNeg x2) (upd (Tx_sizes a0) x5_16.toNatClampNeg (0:Int32)) (upd (Tx_parents a0) x5_16.toNatClampNeg x3) (upd (Tx_exponents a0) x5_16.toNatClampNeg (0:Int32)) (Tx_starts a0) (Tx_afters a0) (Tx_slots a0) (Tx_negatives a0) (Tx_cells a0) ((Tx_total a0) + (1:Int32)) (Tx_used a0) (Tx_characters a0)) Rd Pg Pt Mk Lk Ck Jd Ld Pr)) C hP (hDD _ _ _ _ _ _ _ _ _ _ _ _ _) hS 17 14 cw_17 rfl g6 rfl d_Tx_begin_67 (fun H locs hP hS => ?_)
    refine lv_aload_n hx hb d_Tx_begin_68 rfl (lv_at hl 1 rfl) ?_
    refine o_get (v := .ref (ad 18)) C in_Tx hP 12 cw_12 rfl 5 (by decide) k_1_51 rfl rfl d_Tx_begin_69 ?_
    refine lv_iload hx hb d_Tx_begin_72 (lv_at hl 0 rfl) ?_
    refine lv_aload_n hx hb d_Tx_begin_74 rfl (lv_at hl 1 rfl) ?_
    refine o_get (v := .int (Tx_used a0)) C in_Tx hP 12 cw_12 rfl 11 (by decide) k_1_57 rfl rfl d_Tx_begin_75 ?_
    obtain ⟨g7, h⟩ := o_gd_some h
    refine o_iast (f := (Tx_starts a0)) (w1 := (o_cw ad ca rt Sj T0 (Tx_mk (upd (Tx_kinds a0) x5_16.toNatClampNeg x1) (upd (Tx_places a0) x5_16.toNatClampNeg x2) (upd (Tx_sizes a0) x5_16.toNatClampNeg (0:Int32)) (upd (Tx_parents a0) x5_16.toNatClampNeg x3) (upd (Tx_exponents a0) x5_16.toNatClampNeg (0:Int32)) (upd (Tx_starts a0) x5_16.toNatClampNeg (Tx_used a0)) (Tx_afters a0) (Tx_slots a0) (Tx_negatives a0) (Tx_cells a0) ((Tx_total a0) + (1:Int32)) (Tx_used a0) (Tx_characters a0)) Rd Pg Pt Mk Lk Ck Jd Ld Pr)) C hP (hDD _ _ _ _ _ _ _ _ _ _ _ _ _) hS 18 15 cw_18 rfl g7 rfl d_Tx_begin_78 (fun H locs hP hS => ?_)
    refine lv_aload_n hx hb d_Tx_begin_79 rfl (lv_at hl 1 rfl) ?_
    refine o_get (v := .ref (ad 19)) C in_Tx hP 12 cw_12 rfl 6 (by decide) k_1_52 rfl rfl d_Tx_begin_80 ?_
    refine lv_iload hx hb d_Tx_begin_83 (lv_at hl 0 rfl) ?_
    refine lv_aload_n hx hb d_Tx_begin_85 rfl (lv_at hl 1 rfl) ?_
    refine o_get (v := .int ((Tx_total a0) + (1:Int32))) C in_Tx hP 12 cw_12 rfl 10 (by decide) k_1_56 rfl rfl d_Tx_begin_86 ?_
    obtain ⟨g8, h⟩ := o_gd_some h
    refine o_iast (f := (Tx_afters a0)) (w1 := (o_cw ad ca rt Sj T0 (Tx_mk (upd (Tx_kinds a0) x5_16.toNatClampNeg x1) (upd (Tx_places a0) x5_16.toNatClampNeg x2) (upd (Tx_sizes a0) x5_16.toNatClampNeg (0:Int32)) (upd (Tx_parents a0) x5_16.toNatClampNeg x3) (upd (Tx_exponents a0) x5_16.toNatClampNeg (0:Int32)) (upd (Tx_starts a0) x5_16.toNatClampNeg (Tx_used a0)) (upd (Tx_afters a0) x5_16.toNatClampNeg ((Tx_total a0) + (1:Int32))) (Tx_slots a0) (Tx_negatives a0) (Tx_cells a0) ((Tx_total a0) + (1:Int32)) (Tx_used a0) (Tx_characters a0)) Rd Pg Pt Mk Lk Ck Jd Ld Pr)) C hP (hDD _ _ _ _ _ _ _ _ _ _ _ _ _) hS 19 16 cw_19 rfl g8 rfl d_Tx_begin_89 (fun H locs hP hS => ?_)
    refine lv_aload_n hx hb d_Tx_begin_90 rfl (lv_at hl 1 rfl) ?_
    refine o_get (v := .ref (ad 20)) C in_Tx hP 12 cw_12 rfl 7 (by decide) k_1_53 rfl rfl d_Tx_begin_91 ?_
    refine lv_iload hx hb d_Tx_begin_94 (lv_at hl 0 rfl) ?_
    refine lv_iload hx hb d_Tx_begin_96 (lv_at hl 5 rfl) ?_
    obtain ⟨g9, h⟩ := o_gd_some h
    refine o_iast (f := (Tx_slots a0)) (w1 := (o_cw ad ca rt Sj T0 (Tx_mk (upd (Tx_kinds a0) x5_16.toNatClampNeg x1) (upd (Tx_places a0) x5_16.toNatClampNeg x2) (upd (Tx_sizes a0) x5_16.toNatClampNeg (0:Int32)) (upd (Tx_parents a0) x5_16.toNatClampNeg x3) (upd (Tx_exponents a0) x5_16.toNatClampNeg (0:Int32)) (upd (Tx_starts a0) x5_16.toNatClampNeg (Tx_used a0)) (upd (Tx_afters a0) x5_16.toNatClampNeg ((Tx_total a0) + (1:Int32))) (upd (Tx_slots a0) x5_16.toNatClampNeg x4) (Tx_negatives a0) (Tx_cells a0) ((Tx_total a0) + (1:Int32)) (Tx_used a0) (Tx_characters a0)) Rd Pg Pt Mk Lk Ck Jd Ld Pr)) C hP (hDD _ _ _ _ _ _ _ _ _ _ _ _ _) hS 20 17 cw_20 rfl g9 rfl d_Tx_begin_98 (fun H locs hP hS => ?_)
    refine lv_aload_n hx hb d_Tx_begin_99 rfl (lv_at hl 1 rfl) ?_
    refine o_get (v := .ref (ad 21)) C in_Tx hP 12 cw_12 rfl 8 (by decide) k_1_54 rfl rfl d_Tx_begin_100 ?_
    refine lv_iload hx hb d_Tx_begin_103 (lv_at hl 0 rfl) ?_
    refine lv_iconst (v := (0:Int32)) hx hb d_Tx_begin_105 (by decide) ?_
    obtain ⟨g10, h⟩ := o_gd_some h
    refine o_zast (f := (Tx_negatives a0)) (w1 := (o_cw ad ca rt Sj T0 (Tx_mk (upd (Tx_kinds a0) x5_16.toNatClampNeg x1) (upd (Tx_places a0) x5_16.toNatClampNeg x2) (upd (Tx_sizes a0) x5_16.toNatClampNeg (0:Int32)) (upd (Tx_parents a0) x5_16.toNatClampNeg x3) (upd (Tx_exponents a0) x5_16.toNatClampNeg (0:Int32)) (upd (Tx_starts a0) x5_16.toNatClampNeg (Tx_used a0)) (upd (Tx_afters a0) x5_16.toNatClampNeg ((Tx_total a0) + (1:Int32))) (upd (Tx_slots a0) x5_16.toNatClampNeg x4) (upd (Tx_negatives a0) x5_16.toNatClampNeg (vp_nar .boolean (0:Int32))) (Tx_cells a0) ((Tx_total a0) + (1:Int32)) (Tx_used a0) (Tx_characters a0)) Rd Pg Pt Mk Lk Ck Jd Ld Pr)) C hP (hDD _ _ _ _ _ _ _ _ _ _ _ _ _) hS 21 18 cw_21 rfl g10 rfl d_Tx_begin_106 (fun H locs hP hS => ?_)
    refine lv_iload hx hb d_Tx_begin_107 (lv_at hl 0 rfl) ?_
    cases h
    exact o_ri C hP hS d_Tx_begin_109
  · replace h := o_ff c1 h
    refine lv_iconst (v := (-1:Int32)) hx hb d_Tx_begin_10 (by decide) ?_
    cases h
    exact o_ri (v := (-1:Int32)) C hP hS d_Tx_begin_11
set_option maxHeartbeats 4000000 in
set_option maxRecDepth 100000 in
theorem c_Tx_addDigit_0 {E : (Nat → Prop) → State → Heap → Prop} {D : va_G} {ad kd sd vd xd : Nat → Nat} {ca : Nat → ClassId} (hE : o_EK E kd sd vd xd) (l : Launch) (x1 : Int32) (a0 : STx) (Sj : SSJ) (T1 : STx) (Rd : SRd) (Pg : SPg) (Pt : SPt) (Mk : SMk) (Lk : SLk) (Ck : SCk) (Jd : SJd) (Ld : SLd) (Pr : SPr) (rt : Nat) {r : STx} (h : m_Tx_addDigit x1 a0 = some r) : o_Cn E l D o_cls (o_tys ca) y_Tx_addDigit cc_Tx_addDigit rm_Tx_addDigit [.ref (ad 1), .int x1] (o_cw ad ca rt Sj a0 T1 Rd Pg Pt Mk Lk Ck Jd Ld Pr) (o_cw ad ca rt Sj r T1 Rd Pg Pt Mk Lk Ck Jd Ld Pr) none := by
  refine o_Cn_of (by decide) (Nat.le_of_ble_eq_true rfl) ?_
  intro p e s m below meth c A ls C hD hP hS hl
  have hDD : ∀ (rt : Nat) (Sj : SSJ) (T0 : STx) (T1 : STx) (Rd : SRd) (Pg : SPg) (Pt : SPt) (Mk : SMk) (Lk : SLk) (Ck : SCk) (Jd : SJd) (Ld : SLd) (Pr : SPr), va_D A (o_cw ad ca rt Sj T0 T1 Rd Pg Pt Mk Lk Ck Jd Ld Pr) := fun _ _ _ _ _ _ _ _ _ _ _ _ _ => o_D_map hD rfl
  have hl : lv_has ls 2 [(0, .ref (ad 1)), (1, .int x1)] := hl
  unfold m_Tx_addDigit at h
  have C0 := C
  obtain ⟨hx, hb, -, -, -, hown, hts, hK, -, -⟩ := C0
  refine lv_aload_n hx hb d_Tx_addDigit_0 rfl (lv_at hl 0 rfl) ?_
  refine o_get (v := .int (Tx_used a0)) C in_Tx hP 1 cw_1 rfl 11 (by decide) k_1_57 rfl rfl d_Tx_addDigit_1 ?_
  refine lv_aload_n hx hb d_Tx_addDigit_4 rfl (lv_at hl 0 rfl) ?_
  refine o_get (v := .ref (ad 11)) C in_Tx hP 1 cw_1 rfl 9 (by decide) k_1_55 rfl rfl d_Tx_addDigit_5 ?_
  refine va_alen (v := (8192:Int32)) hx hb hK hP 11 9 cw_11 rfl rfl d_Tx_addDigit_8 ?_
  refine lv_icmp_ge (tgt := 32) hx hb d_Tx_addDigit_9 (by decide) (fun c1 => ?_) (fun c1 => ?_)
  · replace h := o_tt c1 h
    cases h
    exact o_rv C hP hS d_Tx_addDigit_32
  · replace h := o_ff c1 h
    refine lv_aload_n hx hb d_Tx_addDigit_12 rfl (lv_at hl 0 rfl) ?_
    refine o_get (v := .ref (ad 11)) C in_Tx hP 1 cw_1 rfl 9 (by decide) k_1_55 rfl rfl d_Tx_addDigit_13 ?_
    refine lv_aload_n hx hb d_Tx_addDigit_16 rfl (lv_at hl 0 rfl) ?_
    refine o_get (v := .int (Tx_used a0)) C in_Tx hP 1 cw_1 rfl 11 (by decide) k_1_57 rfl rfl d_Tx_addDigit_17 ?_
    refine lv_iload_n hx hb d_Tx_addDigit_20 rfl (lv_at hl 1 rfl) ?_
    obtain ⟨g2, h⟩ := o_gd_some h
    refine o_iast (f := (Tx_cells a0)) (w1 := (o_cw ad ca rt Sj (Tx_mk (Tx_kinds a0) (Tx_places a0) (Tx_sizes a0) (Tx_parents a0) (Tx_exponents a0) (Tx_starts a0) (Tx_afters a0) (Tx_slots a0) (Tx_negatives a0) (upd (Tx_cells a0) (Tx_used a0).toNatClampNeg x1) (Tx_total a0) (Tx_used a0) (Tx_characters a0)) T1 Rd Pg Pt Mk Lk Ck Jd Ld Pr)) C hP (hDD _ _ _ _ _ _ _ _ _ _ _ _ _) hS 11 9 cw_11 rfl g2 rfl d_Tx_addDigit_21 (fun H locs hP hS => ?_)
    refine lv_aload_n hx hb d_Tx_addDigit_22 rfl (lv_at hl 0 rfl) ?_
    refine lv_dup hx hb d_Tx_addDigit_23 rfl ?_
    refine o_get (v := .int (Tx_used a0)) C in_Tx hP 1 cw_1 rfl 11 (by decide) k_1_57 rfl rfl d_Tx_addDigit_24 ?_
    refine lv_iconst (v := (1:Int32)) hx hb d_Tx_addDigit_27 (by decide) ?_
    refine lv_iadd hx hb d_Tx_addDigit_28 ?_
    refine o_put (v := .int ((Tx_used a0) + (1:Int32))) (ty := .int) (w1 := (o_cw ad ca rt Sj (Tx_mk (Tx_kinds a0) (Tx_places a0) (Tx_sizes a0) (Tx_parents a0) (Tx_exponents a0) (Tx_starts a0) (Tx_afters a0) (Tx_slots a0) (Tx_negatives a0) (upd (Tx_cells a0) (Tx_used a0).toNatClampNeg x1) (Tx_total a0) ((Tx_used a0) + (1:Int32)) (Tx_characters a0)) T1 Rd Pg Pt Mk Lk Ck Jd Ld Pr)) C in_Tx t_Tx t_Tx_ok n_Tx hP (hDD _ _ _ _ _ _ _ _ _ _ _ _ _) hS 1 cw_1 rfl 11 (by decide) k_1_57 rfl rfl (by decide +kernel) rfl rfl (Nat.le_of_ble_eq_true rfl) rfl d_Tx_addDigit_29 (fun H locs hP hS => ?_)
    cases h
    exact o_rv C hP hS d_Tx_addDigit_32
set_option maxHeartbeats 4000000 in
set_option maxRecDepth 100000 in
theorem c_Tx_addDigit_1 {E : (Nat → Prop) → State → Heap → Prop} {D : va_G} {ad kd sd vd xd : Nat → Nat} {ca : Nat → ClassId} (hE : o_EK E kd sd vd xd) (l : Launch) (x1 : Int32) (a0 : STx) (Sj : SSJ) (T0 : STx) (Rd : SRd) (Pg : SPg) (Pt : SPt) (Mk : SMk) (Lk : SLk) (Ck : SCk) (Jd : SJd) (Ld : SLd) (Pr : SPr) (rt : Nat) {r : STx} (h : m_Tx_addDigit x1 a0 = some r) : o_Cn E l D o_cls (o_tys ca) y_Tx_addDigit cc_Tx_addDigit rm_Tx_addDigit [.ref (ad 12), .int x1] (o_cw ad ca rt Sj T0 a0 Rd Pg Pt Mk Lk Ck Jd Ld Pr) (o_cw ad ca rt Sj T0 r Rd Pg Pt Mk Lk Ck Jd Ld Pr) none := by
  refine o_Cn_of (by decide) (Nat.le_of_ble_eq_true rfl) ?_
  intro p e s m below meth c A ls C hD hP hS hl
  have hDD : ∀ (rt : Nat) (Sj : SSJ) (T0 : STx) (T1 : STx) (Rd : SRd) (Pg : SPg) (Pt : SPt) (Mk : SMk) (Lk : SLk) (Ck : SCk) (Jd : SJd) (Ld : SLd) (Pr : SPr), va_D A (o_cw ad ca rt Sj T0 T1 Rd Pg Pt Mk Lk Ck Jd Ld Pr) := fun _ _ _ _ _ _ _ _ _ _ _ _ _ => o_D_map hD rfl
  have hl : lv_has ls 2 [(0, .ref (ad 12)), (1, .int x1)] := hl
  unfold m_Tx_addDigit at h
  have C0 := C
  obtain ⟨hx, hb, -, -, -, hown, hts, hK, -, -⟩ := C0
  refine lv_aload_n hx hb d_Tx_addDigit_0 rfl (lv_at hl 0 rfl) ?_
  refine o_get (v := .int (Tx_used a0)) C in_Tx hP 12 cw_12 rfl 11 (by decide) k_1_57 rfl rfl d_Tx_addDigit_1 ?_
  refine lv_aload_n hx hb d_Tx_addDigit_4 rfl (lv_at hl 0 rfl) ?_
  refine o_get (v := .ref (ad 22)) C in_Tx hP 12 cw_12 rfl 9 (by decide) k_1_55 rfl rfl d_Tx_addDigit_5 ?_
  refine va_alen (v := (8192:Int32)) hx hb hK hP 22 19 cw_22 rfl rfl d_Tx_addDigit_8 ?_
  refine lv_icmp_ge (tgt := 32) hx hb d_Tx_addDigit_9 (by decide) (fun c1 => ?_) (fun c1 => ?_)
  · replace h := o_tt c1 h
    cases h
    exact o_rv C hP hS d_Tx_addDigit_32
  · replace h := o_ff c1 h
    refine lv_aload_n hx hb d_Tx_addDigit_12 rfl (lv_at hl 0 rfl) ?_
    refine o_get (v := .ref (ad 22)) C in_Tx hP 12 cw_12 rfl 9 (by decide) k_1_55 rfl rfl d_Tx_addDigit_13 ?_
    refine lv_aload_n hx hb d_Tx_addDigit_16 rfl (lv_at hl 0 rfl) ?_
    refine o_get (v := .int (Tx_used a0)) C in_Tx hP 12 cw_12 rfl 11 (by decide) k_1_57 rfl rfl d_Tx_addDigit_17 ?_
    refine lv_iload_n hx hb d_Tx_addDigit_20 rfl (lv_at hl 1 rfl) ?_
    obtain ⟨g2, h⟩ := o_gd_some h
    refine o_iast (f := (Tx_cells a0)) (w1 := (o_cw ad ca rt Sj T0 (Tx_mk (Tx_kinds a0) (Tx_places a0) (Tx_sizes a0) (Tx_parents a0) (Tx_exponents a0) (Tx_starts a0) (Tx_afters a0) (Tx_slots a0) (Tx_negatives a0) (upd (Tx_cells a0) (Tx_used a0).toNatClampNeg x1) (Tx_total a0) (Tx_used a0) (Tx_characters a0)) Rd Pg Pt Mk Lk Ck Jd Ld Pr)) C hP (hDD _ _ _ _ _ _ _ _ _ _ _ _ _) hS 22 19 cw_22 rfl g2 rfl d_Tx_addDigit_21 (fun H locs hP hS => ?_)
    refine lv_aload_n hx hb d_Tx_addDigit_22 rfl (lv_at hl 0 rfl) ?_
    refine lv_dup hx hb d_Tx_addDigit_23 rfl ?_
    refine o_get (v := .int (Tx_used a0)) C in_Tx hP 12 cw_12 rfl 11 (by decide) k_1_57 rfl rfl d_Tx_addDigit_24 ?_
    refine lv_iconst (v := (1:Int32)) hx hb d_Tx_addDigit_27 (by decide) ?_
    refine lv_iadd hx hb d_Tx_addDigit_28 ?_
    refine o_put (v := .int ((Tx_used a0) + (1:Int32))) (ty := .int) (w1 := (o_cw ad ca rt Sj T0 (Tx_mk (Tx_kinds a0) (Tx_places a0) (Tx_sizes a0) (Tx_parents a0) (Tx_exponents a0) (Tx_starts a0) (Tx_afters a0) (Tx_slots a0) (Tx_negatives a0) (upd (Tx_cells a0) (Tx_used a0).toNatClampNeg x1) (Tx_total a0) ((Tx_used a0) + (1:Int32)) (Tx_characters a0)) Rd Pg Pt Mk Lk Ck Jd Ld Pr)) C in_Tx t_Tx t_Tx_ok n_Tx hP (hDD _ _ _ _ _ _ _ _ _ _ _ _ _) hS 12 cw_12 rfl 11 (by decide) k_1_57 rfl rfl (by decide +kernel) rfl rfl (Nat.le_of_ble_eq_true rfl) rfl d_Tx_addDigit_29 (fun H locs hP hS => ?_)
    cases h
    exact o_rv C hP hS d_Tx_addDigit_32
set_option maxHeartbeats 4000000 in
set_option maxRecDepth 100000 in
theorem w_Rd_readDigits_b2_0 {E : (Nat → Prop) → State → Heap → Prop} {p : Program} {l : Launch} {e : Env} {s : State} {m : MethodId} {args : Array Value} {below : List Frame} {meth : Method} {c : Code} {D : va_G} {ad kd sd vd xd : Nat → Nat} {ca : Nat → ClassId} {A : Nat → Prop} {Q : State → Prop} (hE : o_EK E kd sd vd xd) (C : o_Cx E p s m args meth c D o_cls (o_tys ca) "SchemaJudge$Reader" b_Rd_readDigits (some .int) 4 cc_Rd_readDigits A) (hDD : ∀ (rt : Nat) (Sj : SSJ) (T0 : STx) (T1 : STx) (Rd : SRd) (Pg : SPg) (Pt : SPt) (Mk : SMk) (Lk : SLk) (Ck : SCk) (Jd : SJd) (Ld : SLd) (Pr : SPr), va_D A (o_cw ad ca rt Sj T0 T1 Rd Pg Pt Mk Lk Ck Jd Ld Pr)) (n : Nat) (u2_x1 : Int32) (u2_Sj : SSJ) (u2_T1 : STx) (u2_Pg : SPg) (u2_Pt : SPt) (u2_Mk : SMk) (u2_Lk : SLk) (u2_Ck : SCk) (u2_Jd : SJd) (u2_Ld : SLd) (u2_Pr : SPr) (z : Int32 × STx × SRd) (q : Nat × Int32 × STx × SRd) (h : m_Rd_readDigits_b2 n u2_x1 z = some q) (h0 : q.1 = 0 → o_At p l e rm_Rd_readDigits s m args below meth c Q o_cls D A 4 2 [] (o_cw ad ca 1 u2_Sj q.2.2.1 u2_T1 q.2.2.2 u2_Pg u2_Pt u2_Mk u2_Lk u2_Ck u2_Jd u2_Ld u2_Pr) [(0, .ref (ad 23)), (1, .int u2_x1), (2, .int q.2.1)]) (h1 : q.1 ≠ 0 → (if q.1 = 1 then o_At p l e rm_Rd_readDigits s m args below meth c Q o_cls D A 4 19 [] (o_cw ad ca 1 u2_Sj q.2.2.1 u2_T1 q.2.2.2 u2_Pg u2_Pt u2_Mk u2_Lk u2_Ck u2_Jd u2_Ld u2_Pr) [(2, .int q.2.1)] else o_At p l e rm_Rd_readDigits s m args below meth c Q o_cls D A 4 48 [] (o_cw ad ca 1 u2_Sj q.2.2.1 u2_T1 q.2.2.2 u2_Pg u2_Pt u2_Mk u2_Lk u2_Ck u2_Jd u2_Ld u2_Pr) [(1, .int u2_x1)])) : o_At p l e rm_Rd_readDigits s m args below meth c Q o_cls D A 4 2 [] (o_cw ad ca 1 u2_Sj z.2.1 u2_T1 z.2.2 u2_Pg u2_Pt u2_Mk u2_Lk u2_Ck u2_Jd u2_Ld u2_Pr) [(0, .ref (ad 23)), (1, .int u2_x1), (2, .int z.1)] := by
  unfold m_Rd_readDigits_b2 at h
  intro H locs ls hP hS hl
  have C0 := C
  obtain ⟨hx, hb, -, -, -, hown, hts, hK, -, -⟩ := C0
  refine lv_iload_n hx hb d_Rd_readDigits_2 rfl (lv_at hl 2 rfl) ?_
  refine lv_iload_n hx hb d_Rd_readDigits_3 rfl (lv_at hl 1 rfl) ?_
  refine lv_icmp_ge (tgt := 48) hx hb d_Rd_readDigits_4 (by decide) (fun c1 => ?_) (fun c1 => ?_)
  · replace h := o_tt c1 h
    cases h
    exact h1 (Nat.succ_ne_zero 1) _ _ _ hP hS (lv_sub hl [1] rfl)
  · replace h := o_ff c1 h
    refine lv_aload_n hx hb d_Rd_readDigits_7 rfl (lv_at hl 0 rfl) ?_
    obtain ⟨q1, hq1, h⟩ := o_bd_some h
    refine o_V (st1 := [.int q1]) (w1 := (o_cw ad ca 1 u2_Sj z.2.1 u2_T1 z.2.2 u2_Pg u2_Pt u2_Mk u2_Lk u2_Ck u2_Jd u2_Ld u2_Pr)) hE.1 C (c_Rd_peek hE l z.2.2 u2_Sj z.2.1 u2_T1 u2_Pg u2_Pt u2_Mk u2_Lk u2_Ck u2_Jd u2_Ld u2_Pr 1 hq1) hP (hDD _ _ _ _ _ _ _ _ _ _ _ _ _) hS hl.1 rfl cw_23 k_3_38 k_3_40 k_s_3 k_1_3 k_3_41 hv_Rd_peek rfl rfl ⟨(Nat.le_of_ble_eq_true rfl), (Nat.le_of_ble_eq_true rfl)⟩ rfl (Nat.le_of_ble_eq_true rfl) ⟨Nat.zero_le _, Nat.zero_le _⟩ rfl d_Rd_readDigits_8 (fun H locs hP hS => ?_)
    refine lv_istore_n (lv' := [(3, .int q1), (0, .ref (ad 23)), (1, .int u2_x1), (2, .int z.1)]) hx hb d_Rd_readDigits_11 rfl hl (by decide) rfl (fun ls hl => ?_)
    refine lv_iload_n hx hb d_Rd_readDigits_12 rfl (lv_at hl 0 rfl) ?_
    obtain ⟨q2, hq2, h⟩ := o_bd_some h
    refine o_SN (st1 := [.int q2]) (w1 := (o_cw ad ca 1 u2_Sj z.2.1 u2_T1 z.2.2 u2_Pg u2_Pt u2_Mk u2_Lk u2_Ck u2_Jd u2_Ld u2_Pr)) hE.1 C (c_SJ_isDigit hE l q1 u2_Sj z.2.1 u2_T1 z.2.2 u2_Pg u2_Pt u2_Mk u2_Lk u2_Ck u2_Jd u2_Ld u2_Pr 1 hq2) hP (hDD _ _ _ _ _ _ _ _ _ _ _ _ _) hS hl.1 (hE.2.1 _ _ _ C.2.2.2.2.2.2.2.2.2 _ nw_4) k_3_46 k_1_1 k_3_47 hs_SJ_isDigit rfl rfl ⟨(Nat.le_of_ble_eq_true rfl), (Nat.le_of_ble_eq_true rfl)⟩ rfl (Nat.le_of_ble_eq_true rfl) ⟨Nat.zero_le _, Nat.zero_le _⟩ rfl d_Rd_readDigits_13 (fun H locs hP hS => ?_)
    refine lv_if_ne (tgt := 21) hx hb d_Rd_readDigits_16 (by decide) (fun c2 => ?_) (fun c2 => ?_)
    · replace h := o_ff c2 h
      refine lv_aload_n hx hb d_Rd_readDigits_21 rfl (lv_at hl 1 rfl) ?_
      refine o_get (v := .ref (ad 1)) C in_Rd hP 23 cw_23 rfl 2 (by decide) k_1_96 rfl rfl d_Rd_readDigits_22 ?_
      refine lv_iload_n hx hb d_Rd_readDigits_25 rfl (lv_at hl 0 rfl) ?_
      refine lv_bipush (v := (48:Int32)) hx hb d_Rd_readDigits_26 (by decide) ?_
      refine lv_isub hx hb d_Rd_readDigits_28 ?_
      obtain ⟨q3, hq3, h⟩ := o_bd_some h
      refine o_V (st1 := []) (w1 := (o_cw ad ca 1 u2_Sj q3 u2_T1 z.2.2 u2_Pg u2_Pt u2_Mk u2_Lk u2_Ck u2_Jd u2_Ld u2_Pr)) hE.1 C (c_Tx_addDigit_0 hE l (q1 - (48:Int32)) z.2.1 u2_Sj u2_T1 z.2.2 u2_Pg u2_Pt u2_Mk u2_Lk u2_Ck u2_Jd u2_Ld u2_Pr 1 hq3) hP (hDD _ _ _ _ _ _ _ _ _ _ _ _ _) hS hl.1 rfl cw_1 k_3_119 k_3_120 k_3_121 k_1_2 k_3_122 hv_Tx_addDigit rfl rfl ⟨(Nat.le_of_ble_eq_true rfl), (Nat.le_of_ble_eq_true rfl)⟩ rfl (Nat.le_of_ble_eq_true rfl) ⟨Nat.zero_le _, Nat.zero_le _⟩ rfl d_Rd_readDigits_29 (fun H locs hP hS => ?_)
      refine lv_aload_n hx hb d_Rd_readDigits_32 rfl (lv_at hl 1 rfl) ?_
      refine lv_dup hx hb d_Rd_readDigits_33 rfl ?_
      refine o_get (v := .int (Rd_position z.2.2)) C in_Rd hP 23 cw_23 rfl 3 (by decide) k_1_97 rfl rfl d_Rd_readDigits_34 ?_
      refine lv_iconst (v := (1:Int32)) hx hb d_Rd_readDigits_37 (by decide) ?_
      refine lv_iadd hx hb d_Rd_readDigits_38 ?_
      refine o_put (v := .int ((Rd_position z.2.2) + (1:Int32))) (ty := .int) (w1 := (o_cw ad ca 1 u2_Sj q3 u2_T1 (Rd_mk (Rd_words z.2.2) (Rd_wordCount z.2.2) ((Rd_position z.2.2) + (1:Int32)) (Rd_limit z.2.2) (Rd_wrongPlace z.2.2)) u2_Pg u2_Pt u2_Mk u2_Lk u2_Ck u2_Jd u2_Ld u2_Pr)) C in_Rd t_Rd t_Rd_ok n_Rd hP (hDD _ _ _ _ _ _ _ _ _ _ _ _ _) hS 23 cw_23 rfl 3 (by decide) k_1_97 rfl rfl (by decide +kernel) rfl rfl (Nat.le_of_ble_eq_true rfl) rfl d_Rd_readDigits_39 (fun H locs hP hS => ?_)
      obtain ⟨x2_42, ex2_42⟩ : ∃ y : Int32, y = z.1 + (1:Int32) := ⟨_, rfl⟩
      replace h := o_nm_at ex2_42 h
      refine lv_iinc (v := x2_42) (lv' := [(2, .int x2_42), (3, .int q1), (0, .ref (ad 23)), (1, .int u2_x1)]) hx hb d_Rd_readDigits_42 hl (k := 3) rfl (by rw [ex2_42]; rfl) (by decide) rfl (fun ls hl => ?_)
      refine lv_goto (tgt := 2) hx hb d_Rd_readDigits_45 (by decide) ?_
      cases h
      exact h0 rfl _ _ _ hP hS (lv_sub hl [2, 3, 0] rfl)
    · replace h := o_tt c2 h
      cases h
      exact h1 (Nat.succ_ne_zero 0) _ _ _ hP hS (lv_sub hl [3] rfl)
set_option maxHeartbeats 4000000 in
set_option maxRecDepth 100000 in
theorem c_Rd_readDigits_0 {E : (Nat → Prop) → State → Heap → Prop} {D : va_G} {ad kd sd vd xd : Nat → Nat} {ca : Nat → ClassId} (hE : o_EK E kd sd vd xd) (l : Launch) (n : Nat) (x1 : Int32) (tc : STx) (Rd : SRd) (Sj : SSJ) (T1 : STx) (Pg : SPg) (Pt : SPt) (Mk : SMk) (Lk : SLk) (Ck : SCk) (Jd : SJd) (Ld : SLd) (Pr : SPr) {r : Int32 × STx × SRd} (h : m_Rd_readDigits n x1 tc Rd = some r) : o_Cn E l D o_cls (o_tys ca) y_Rd_readDigits cc_Rd_readDigits rm_Rd_readDigits [.ref (ad 23), .int x1] (o_cw ad ca 1 Sj tc T1 Rd Pg Pt Mk Lk Ck Jd Ld Pr) (o_cw ad ca 1 Sj r.2.1 T1 r.2.2 Pg Pt Mk Lk Ck Jd Ld Pr) (some (.int r.1)) := by
  refine o_Cn_of (by decide) (Nat.le_of_ble_eq_true rfl) ?_
  intro p e s m below meth c A ls C hD hP hS hl
  have hDD : ∀ (rt : Nat) (Sj : SSJ) (T0 : STx) (T1 : STx) (Rd : SRd) (Pg : SPg) (Pt : SPt) (Mk : SMk) (Lk : SLk) (Ck : SCk) (Jd : SJd) (Ld : SLd) (Pr : SPr), va_D A (o_cw ad ca rt Sj T0 T1 Rd Pg Pt Mk Lk Ck Jd Ld Pr) := fun _ _ _ _ _ _ _ _ _ _ _ _ _ => o_D_map hD rfl
  have hl : lv_has ls 4 [(0, .ref (ad 23)), (1, .int x1)] := hl
  unfold m_Rd_readDigits at h
  have C0 := C
  obtain ⟨hx, hb, -, -, -, hown, hts, hK, -, -⟩ := C0
  refine lv_iconst (v := (0:Int32)) hx hb d_Rd_readDigits_0 (by decide) ?_
  refine lv_istore_n (lv' := [(2, .int (0:Int32)), (0, .ref (ad 23)), (1, .int x1)]) hx hb d_Rd_readDigits_1 rfl hl (by decide) rfl (fun ls hl => ?_)
  obtain ⟨q4, hq4, h⟩ := o_bd_some h
  refine o_sim2 (AH := fun zz => o_At p l e rm_Rd_readDigits s m _ below meth c _ o_cls D A 4 2 [] (o_cw ad ca 1 Sj zz.2.1 T1 zz.2.2 Pg Pt Mk Lk Ck Jd Ld Pr) [(0, .ref (ad 23)), (1, .int x1), (2, .int zz.1)]) (AX := fun qq => if qq.1 = 1 then o_At p l e rm_Rd_readDigits s m _ below meth c _ o_cls D A 4 19 [] (o_cw ad ca 1 Sj qq.2.2.1 T1 qq.2.2.2 Pg Pt Mk Lk Ck Jd Ld Pr) [(2, .int qq.2.1)] else o_At p l e rm_Rd_readDigits s m _ below meth c _ o_cls D A 4 48 [] (o_cw ad ca 1 Sj qq.2.2.1 T1 qq.2.2.2 Pg Pt Mk Lk Ck Jd Ld Pr) [(1, .int x1)]) (fun zz qq h h0 h1 => w_Rd_readDigits_b2_0 hE C hDD n x1 Sj T1 Pg Pt Mk Lk Ck Jd Ld Pr zz qq h h0 h1) n _ q4 hq4 ?_ _ _ _ hP hS (lv_sub hl [1, 2, 0] rfl)
  by_cases c3 : q4.1 = 1
  · replace h := o_tt c3 h
    refine o_ip c3 ?_
    intro H locs ls hP hS hl
    refine lv_iload_n hx hb d_Rd_readDigits_19 rfl (lv_at hl 0 rfl) ?_
    cases h
    exact o_ri C hP hS d_Rd_readDigits_20
  replace h := o_ff c3 h
  refine o_in_ c3 ?_
  intro H locs ls hP hS hl
  refine lv_iload_n hx hb d_Rd_readDigits_48 rfl (lv_at hl 0 rfl) ?_
  cases h
  exact o_ri C hP hS d_Rd_readDigits_49
set_option maxHeartbeats 4000000 in
set_option maxRecDepth 100000 in
theorem w_Rd_readDigits_b2_1 {E : (Nat → Prop) → State → Heap → Prop} {p : Program} {l : Launch} {e : Env} {s : State} {m : MethodId} {args : Array Value} {below : List Frame} {meth : Method} {c : Code} {D : va_G} {ad kd sd vd xd : Nat → Nat} {ca : Nat → ClassId} {A : Nat → Prop} {Q : State → Prop} (hE : o_EK E kd sd vd xd) (C : o_Cx E p s m args meth c D o_cls (o_tys ca) "SchemaJudge$Reader" b_Rd_readDigits (some .int) 4 cc_Rd_readDigits A) (hDD : ∀ (rt : Nat) (Sj : SSJ) (T0 : STx) (T1 : STx) (Rd : SRd) (Pg : SPg) (Pt : SPt) (Mk : SMk) (Lk : SLk) (Ck : SCk) (Jd : SJd) (Ld : SLd) (Pr : SPr), va_D A (o_cw ad ca rt Sj T0 T1 Rd Pg Pt Mk Lk Ck Jd Ld Pr)) (n : Nat) (u2_x1 : Int32) (u2_Sj : SSJ) (u2_T0 : STx) (u2_Pg : SPg) (u2_Pt : SPt) (u2_Mk : SMk) (u2_Lk : SLk) (u2_Ck : SCk) (u2_Jd : SJd) (u2_Ld : SLd) (u2_Pr : SPr) (z : Int32 × STx × SRd) (q : Nat × Int32 × STx × SRd) (h : m_Rd_readDigits_b2 n u2_x1 z = some q) (h0 : q.1 = 0 → o_At p l e rm_Rd_readDigits s m args below meth c Q o_cls D A 4 2 [] (o_cw ad ca 12 u2_Sj u2_T0 q.2.2.1 q.2.2.2 u2_Pg u2_Pt u2_Mk u2_Lk u2_Ck u2_Jd u2_Ld u2_Pr) [(0, .ref (ad 23)), (1, .int u2_x1), (2, .int q.2.1)]) (h1 : q.1 ≠ 0 → (if q.1 = 1 then o_At p l e rm_Rd_readDigits s m args below meth c Q o_cls D A 4 19 [] (o_cw ad ca 12 u2_Sj u2_T0 q.2.2.1 q.2.2.2 u2_Pg u2_Pt u2_Mk u2_Lk u2_Ck u2_Jd u2_Ld u2_Pr) [(2, .int q.2.1)] else o_At p l e rm_Rd_readDigits s m args below meth c Q o_cls D A 4 48 [] (o_cw ad ca 12 u2_Sj u2_T0 q.2.2.1 q.2.2.2 u2_Pg u2_Pt u2_Mk u2_Lk u2_Ck u2_Jd u2_Ld u2_Pr) [(1, .int u2_x1)])) : o_At p l e rm_Rd_readDigits s m args below meth c Q o_cls D A 4 2 [] (o_cw ad ca 12 u2_Sj u2_T0 z.2.1 z.2.2 u2_Pg u2_Pt u2_Mk u2_Lk u2_Ck u2_Jd u2_Ld u2_Pr) [(0, .ref (ad 23)), (1, .int u2_x1), (2, .int z.1)] := by
  unfold m_Rd_readDigits_b2 at h
  intro H locs ls hP hS hl
  have C0 := C
  obtain ⟨hx, hb, -, -, -, hown, hts, hK, -, -⟩ := C0
  refine lv_iload_n hx hb d_Rd_readDigits_2 rfl (lv_at hl 2 rfl) ?_
  refine lv_iload_n hx hb d_Rd_readDigits_3 rfl (lv_at hl 1 rfl) ?_
  refine lv_icmp_ge (tgt := 48) hx hb d_Rd_readDigits_4 (by decide) (fun c1 => ?_) (fun c1 => ?_)
  · replace h := o_tt c1 h
    cases h
    exact h1 (Nat.succ_ne_zero 1) _ _ _ hP hS (lv_sub hl [1] rfl)
  · replace h := o_ff c1 h
    refine lv_aload_n hx hb d_Rd_readDigits_7 rfl (lv_at hl 0 rfl) ?_
    obtain ⟨q1, hq1, h⟩ := o_bd_some h
    refine o_V (st1 := [.int q1]) (w1 := (o_cw ad ca 12 u2_Sj u2_T0 z.2.1 z.2.2 u2_Pg u2_Pt u2_Mk u2_Lk u2_Ck u2_Jd u2_Ld u2_Pr)) hE.1 C (c_Rd_peek hE l z.2.2 u2_Sj u2_T0 z.2.1 u2_Pg u2_Pt u2_Mk u2_Lk u2_Ck u2_Jd u2_Ld u2_Pr 12 hq1) hP (hDD _ _ _ _ _ _ _ _ _ _ _ _ _) hS hl.1 rfl cw_23 k_3_38 k_3_40 k_s_3 k_1_3 k_3_41 hv_Rd_peek rfl rfl ⟨(Nat.le_of_ble_eq_true rfl), (Nat.le_of_ble_eq_true rfl)⟩ rfl (Nat.le_of_ble_eq_true rfl) ⟨Nat.zero_le _, Nat.zero_le _⟩ rfl d_Rd_readDigits_8 (fun H locs hP hS => ?_)
    refine lv_istore_n (lv' := [(3, .int q1), (0, .ref (ad 23)), (1, .int u2_x1), (2, .int z.1)]) hx hb d_Rd_readDigits_11 rfl hl (by decide) rfl (fun ls hl => ?_)
    refine lv_iload_n hx hb d_Rd_readDigits_12 rfl (lv_at hl 0 rfl) ?_
    obtain ⟨q2, hq2, h⟩ := o_bd_some h
    refine o_SN (st1 := [.int q2]) (w1 := (o_cw ad ca 12 u2_Sj u2_T0 z.2.1 z.2.2 u2_Pg u2_Pt u2_Mk u2_Lk u2_Ck u2_Jd u2_Ld u2_Pr)) hE.1 C (c_SJ_isDigit hE l q1 u2_Sj u2_T0 z.2.1 z.2.2 u2_Pg u2_Pt u2_Mk u2_Lk u2_Ck u2_Jd u2_Ld u2_Pr 12 hq2) hP (hDD _ _ _ _ _ _ _ _ _ _ _ _ _) hS hl.1 (hE.2.1 _ _ _ C.2.2.2.2.2.2.2.2.2 _ nw_4) k_3_46 k_1_1 k_3_47 hs_SJ_isDigit rfl rfl ⟨(Nat.le_of_ble_eq_true rfl), (Nat.le_of_ble_eq_true rfl)⟩ rfl (Nat.le_of_ble_eq_true rfl) ⟨Nat.zero_le _, Nat.zero_le _⟩ rfl d_Rd_readDigits_13 (fun H locs hP hS => ?_)
    refine lv_if_ne (tgt := 21) hx hb d_Rd_readDigits_16 (by decide) (fun c2 => ?_) (fun c2 => ?_)
    · replace h := o_ff c2 h
      refine lv_aload_n hx hb d_Rd_readDigits_21 rfl (lv_at hl 1 rfl) ?_
      refine o_get (v := .ref (ad 12)) C in_Rd hP 23 cw_23 rfl 2 (by decide) k_1_96 rfl rfl d_Rd_readDigits_22 ?_
      refine lv_iload_n hx hb d_Rd_readDigits_25 rfl (lv_at hl 0 rfl) ?_
      refine lv_bipush (v := (48:Int32)) hx hb d_Rd_readDigits_26 (by decide) ?_
      refine lv_isub hx hb d_Rd_readDigits_28 ?_
      obtain ⟨q3, hq3, h⟩ := o_bd_some h
      refine o_V (st1 := []) (w1 := (o_cw ad ca 12 u2_Sj u2_T0 q3 z.2.2 u2_Pg u2_Pt u2_Mk u2_Lk u2_Ck u2_Jd u2_Ld u2_Pr)) hE.1 C (c_Tx_addDigit_1 hE l (q1 - (48:Int32)) z.2.1 u2_Sj u2_T0 z.2.2 u2_Pg u2_Pt u2_Mk u2_Lk u2_Ck u2_Jd u2_Ld u2_Pr 12 hq3) hP (hDD _ _ _ _ _ _ _ _ _ _ _ _ _) hS hl.1 rfl cw_12 k_3_119 k_3_120 k_3_121 k_1_2 k_3_122 hv_Tx_addDigit rfl rfl ⟨(Nat.le_of_ble_eq_true rfl), (Nat.le_of_ble_eq_true rfl)⟩ rfl (Nat.le_of_ble_eq_true rfl) ⟨Nat.zero_le _, Nat.zero_le _⟩ rfl d_Rd_readDigits_29 (fun H locs hP hS => ?_)
      refine lv_aload_n hx hb d_Rd_readDigits_32 rfl (lv_at hl 1 rfl) ?_
      refine lv_dup hx hb d_Rd_readDigits_33 rfl ?_
      refine o_get (v := .int (Rd_position z.2.2)) C in_Rd hP 23 cw_23 rfl 3 (by decide) k_1_97 rfl rfl d_Rd_readDigits_34 ?_
      refine lv_iconst (v := (1:Int32)) hx hb d_Rd_readDigits_37 (by decide) ?_
      refine lv_iadd hx hb d_Rd_readDigits_38 ?_
      refine o_put (v := .int ((Rd_position z.2.2) + (1:Int32))) (ty := .int) (w1 := (o_cw ad ca 12 u2_Sj u2_T0 q3 (Rd_mk (Rd_words z.2.2) (Rd_wordCount z.2.2) ((Rd_position z.2.2) + (1:Int32)) (Rd_limit z.2.2) (Rd_wrongPlace z.2.2)) u2_Pg u2_Pt u2_Mk u2_Lk u2_Ck u2_Jd u2_Ld u2_Pr)) C in_Rd t_Rd t_Rd_ok n_Rd hP (hDD _ _ _ _ _ _ _ _ _ _ _ _ _) hS 23 cw_23 rfl 3 (by decide) k_1_97 rfl rfl (by decide +kernel) rfl rfl (Nat.le_of_ble_eq_true rfl) rfl d_Rd_readDigits_39 (fun H locs hP hS => ?_)
      obtain ⟨x2_42, ex2_42⟩ : ∃ y : Int32, y = z.1 + (1:Int32) := ⟨_, rfl⟩
      replace h := o_nm_at ex2_42 h
      refine lv_iinc (v := x2_42) (lv' := [(2, .int x2_42), (3, .int q1), (0, .ref (ad 23)), (1, .int u2_x1)]) hx hb d_Rd_readDigits_42 hl (k := 3) rfl (by rw [ex2_42]; rfl) (by decide) rfl (fun ls hl => ?_)
      refine lv_goto (tgt := 2) hx hb d_Rd_readDigits_45 (by decide) ?_
      cases h
      exact h0 rfl _ _ _ hP hS (lv_sub hl [2, 3, 0] rfl)
    · replace h := o_tt c2 h
      cases h
      exact h1 (Nat.succ_ne_zero 0) _ _ _ hP hS (lv_sub hl [3] rfl)
set_option maxHeartbeats 4000000 in
set_option maxRecDepth 100000 in
theorem c_Rd_readDigits_1 {E : (Nat → Prop) → State → Heap → Prop} {D : va_G} {ad kd sd vd xd : Nat → Nat} {ca : Nat → ClassId} (hE : o_EK E kd sd vd xd) (l : Launch) (n : Nat) (x1 : Int32) (tc : STx) (Rd : SRd) (Sj : SSJ) (T0 : STx) (Pg : SPg) (Pt : SPt) (Mk : SMk) (Lk : SLk) (Ck : SCk) (Jd : SJd) (Ld : SLd) (Pr : SPr) {r : Int32 × STx × SRd} (h : m_Rd_readDigits n x1 tc Rd = some r) : o_Cn E l D o_cls (o_tys ca) y_Rd_readDigits cc_Rd_readDigits rm_Rd_readDigits [.ref (ad 23), .int x1] (o_cw ad ca 12 Sj T0 tc Rd Pg Pt Mk Lk Ck Jd Ld Pr) (o_cw ad ca 12 Sj T0 r.2.1 r.2.2 Pg Pt Mk Lk Ck Jd Ld Pr) (some (.int r.1)) := by
  refine o_Cn_of (by decide) (Nat.le_of_ble_eq_true rfl) ?_
  intro p e s m below meth c A ls C hD hP hS hl
  have hDD : ∀ (rt : Nat) (Sj : SSJ) (T0 : STx) (T1 : STx) (Rd : SRd) (Pg : SPg) (Pt : SPt) (Mk : SMk) (Lk : SLk) (Ck : SCk) (Jd : SJd) (Ld : SLd) (Pr : SPr), va_D A (o_cw ad ca rt Sj T0 T1 Rd Pg Pt Mk Lk Ck Jd Ld Pr) := fun _ _ _ _ _ _ _ _ _ _ _ _ _ => o_D_map hD rfl
  have hl : lv_has ls 4 [(0, .ref (ad 23)), (1, .int x1)] := hl
  unfold m_Rd_readDigits at h
  have C0 := C
  obtain ⟨hx, hb, -, -, -, hown, hts, hK, -, -⟩ := C0
  refine lv_iconst (v := (0:Int32)) hx hb d_Rd_readDigits_0 (by decide) ?_
  refine lv_istore_n (lv' := [(2, .int (0:Int32)), (0, .ref (ad 23)), (1, .int x1)]) hx hb d_Rd_readDigits_1 rfl hl (by decide) rfl (fun ls hl => ?_)
  obtain ⟨q4, hq4, h⟩ := o_bd_some h
  refine o_sim2 (AH := fun zz => o_At p l e rm_Rd_readDigits s m _ below meth c _ o_cls D A 4 2 [] (o_cw ad ca 12 Sj T0 zz.2.1 zz.2.2 Pg Pt Mk Lk Ck Jd Ld Pr) [(0, .ref (ad 23)), (1, .int x1), (2, .int zz.1)]) (AX := fun qq => if qq.1 = 1 then o_At p l e rm_Rd_readDigits s m _ below meth c _ o_cls D A 4 19 [] (o_cw ad ca 12 Sj T0 qq.2.2.1 qq.2.2.2 Pg Pt Mk Lk Ck Jd Ld Pr) [(2, .int qq.2.1)] else o_At p l e rm_Rd_readDigits s m _ below meth c _ o_cls D A 4 48 [] (o_cw ad ca 12 Sj T0 qq.2.2.1 qq.2.2.2 Pg Pt Mk Lk Ck Jd Ld Pr) [(1, .int x1)]) (fun zz qq h h0 h1 => w_Rd_readDigits_b2_1 hE C hDD n x1 Sj T0 Pg Pt Mk Lk Ck Jd Ld Pr zz qq h h0 h1) n _ q4 hq4 ?_ _ _ _ hP hS (lv_sub hl [1, 2, 0] rfl)
  by_cases c3 : q4.1 = 1
  · replace h := o_tt c3 h
    refine o_ip c3 ?_
    intro H locs ls hP hS hl
    refine lv_iload_n hx hb d_Rd_readDigits_19 rfl (lv_at hl 0 rfl) ?_
    cases h
    exact o_ri C hP hS d_Rd_readDigits_20
  replace h := o_ff c3 h
  refine o_in_ c3 ?_
  intro H locs ls hP hS hl
  refine lv_iload_n hx hb d_Rd_readDigits_48 rfl (lv_at hl 0 rfl) ?_
  cases h
  exact o_ri C hP hS d_Rd_readDigits_49
set_option maxHeartbeats 4000000 in
set_option maxRecDepth 100000 in
theorem w_Tx_endNumber_b27_0 {E : (Nat → Prop) → State → Heap → Prop} {p : Program} {l : Launch} {e : Env} {s : State} {m : MethodId} {args : Array Value} {below : List Frame} {meth : Method} {c : Code} {D : va_G} {ad kd sd vd xd : Nat → Nat} {ca : Nat → ClassId} {A : Nat → Prop} {Q : State → Prop} (hE : o_EK E kd sd vd xd) (C : o_Cx E p s m args meth c D o_cls (o_tys ca) "SchemaJudge$Text" b_Tx_endNumber none 6 cc_Tx_endNumber A) (hDD : ∀ (rt : Nat) (Sj : SSJ) (T0 : STx) (T1 : STx) (Rd : SRd) (Pg : SPg) (Pt : SPt) (Mk : SMk) (Lk : SLk) (Ck : SCk) (Jd : SJd) (Ld : SLd) (Pr : SPr), va_D A (o_cw ad ca rt Sj T0 T1 Rd Pg Pt Mk Lk Ck Jd Ld Pr)) (n : Nat) (u27_x1 : Int32) (u27_x2 : Int32) (u27_x3 : Int32) (u27_x4 : Int32) (u27_a0 : STx) (u27_Sj : SSJ) (u27_T1 : STx) (u27_Rd : SRd) (u27_Pg : SPg) (u27_Pt : SPt) (u27_Mk : SMk) (u27_Lk : SLk) (u27_Ck : SCk) (u27_Jd : SJd) (u27_Ld : SLd) (u27_Pr : SPr) (u27_rt : Nat) (z : Int32) (q : Nat × Int32) (h : m_Tx_endNumber_b27 n u27_x1 u27_x2 u27_x3 u27_x4 u27_a0 z = some q) (h0 : q.1 = 0 → o_At p l e rm_Tx_endNumber s m args below meth c Q o_cls D A 6 27 [] (o_cw ad ca u27_rt u27_Sj u27_a0 u27_T1 u27_Rd u27_Pg u27_Pt u27_Mk u27_Lk u27_Ck u27_Jd u27_Ld u27_Pr) [(0, .ref (ad 1)), (1, .int u27_x1), (2, .int u27_x2), (3, .int u27_x3), (4, .int u27_x4), (5, .int q.2)]) (h1 : q.1 ≠ 0 → (o_At p l e rm_Tx_endNumber s m args below meth c Q o_cls D A 6 52 [] (o_cw ad ca u27_rt u27_Sj u27_a0 u27_T1 u27_Rd u27_Pg u27_Pt u27_Mk u27_Lk u27_Ck u27_Jd u27_Ld u27_Pr) [(0, .ref (ad 1)), (1, .int u27_x1), (2, .int u27_x2), (3, .int u27_x3), (4, .int u27_x4), (5, .int q.2)])) : o_At p l e rm_Tx_endNumber s m args below meth c Q o_cls D A 6 27 [] (o_cw ad ca u27_rt u27_Sj u27_a0 u27_T1 u27_Rd u27_Pg u27_Pt u27_Mk u27_Lk u27_Ck u27_Jd u27_Ld u27_Pr) [(0, .ref (ad 1)), (1, .int u27_x1), (2, .int u27_x2), (3, .int u27_x3), (4, .int u27_x4), (5, .int z)] := by
  unfold m_Tx_endNumber_b27 at h
  intro H locs ls hP hS hl
  have C0 := C
  obtain ⟨hx, hb, -, -, -, hown, hts, hK, -, -⟩ := C0
  refine lv_iload hx hb d_Tx_endNumber_27 (lv_at hl 5 rfl) ?_
  refine lv_iload hx hb d_Tx_endNumber_29 (lv_at hl 4 rfl) ?_
  refine lv_icmp_le (tgt := 52) hx hb d_Tx_endNumber_31 (by decide) (fun c4 => ?_) (fun c4 => ?_)
  · replace h := o_tt c4 h
    cases h
    exact h1 (Nat.succ_ne_zero 0) _ _ _ hP hS (lv_sub hl [0, 1, 2, 3, 4, 5] rfl)
  · replace h := o_ff c4 h
    refine lv_aload_n hx hb d_Tx_endNumber_34 rfl (lv_at hl 0 rfl) ?_
    refine o_get (v := .ref (ad 11)) C in_Tx hP 1 cw_1 rfl 9 (by decide) k_1_55 rfl rfl d_Tx_endNumber_35 ?_
    refine lv_iload hx hb d_Tx_endNumber_38 (lv_at hl 5 rfl) ?_
    refine lv_iconst (v := (1:Int32)) hx hb d_Tx_endNumber_40 (by decide) ?_
    refine lv_isub hx hb d_Tx_endNumber_41 ?_
    obtain ⟨g5, h⟩ := o_gd_some h
    refine o_iald (f := (Tx_cells u27_a0)) C hP 11 9 cw_11 rfl g5 d_Tx_endNumber_42 ?_
    refine lv_if_ne (tgt := 52) hx hb d_Tx_endNumber_43 (by decide) (fun c6 => ?_) (fun c6 => ?_)
    · replace h := o_ff c6 h
      cases h
      exact h1 (Nat.succ_ne_zero 0) _ _ _ hP hS (lv_sub hl [0, 1, 2, 3, 4, 5] rfl)
    · replace h := o_tt c6 h
      obtain ⟨x5_46, ex5_46⟩ : ∃ y : Int32, y = z + (-1:Int32) := ⟨_, rfl⟩
      replace h := o_nm_at ex5_46 h
      refine lv_iinc (v := x5_46) (lv' := [(5, .int x5_46), (0, .ref (ad 1)), (1, .int u27_x1), (2, .int u27_x2), (3, .int u27_x3), (4, .int u27_x4)]) hx hb d_Tx_endNumber_46 hl (k := 5) rfl (by rw [ex5_46]; rfl) (by decide) rfl (fun ls hl => ?_)
      refine lv_goto (tgt := 27) hx hb d_Tx_endNumber_49 (by decide) ?_
      cases h
      exact h0 rfl _ _ _ hP hS (lv_sub hl [1, 2, 3, 4, 5, 0] rfl)
set_option maxHeartbeats 4000000 in
set_option maxRecDepth 100000 in
theorem w_Tx_endNumber_b52_0 {E : (Nat → Prop) → State → Heap → Prop} {p : Program} {l : Launch} {e : Env} {s : State} {m : MethodId} {args : Array Value} {below : List Frame} {meth : Method} {c : Code} {D : va_G} {ad kd sd vd xd : Nat → Nat} {ca : Nat → ClassId} {A : Nat → Prop} {Q : State → Prop} (hE : o_EK E kd sd vd xd) (C : o_Cx E p s m args meth c D o_cls (o_tys ca) "SchemaJudge$Text" b_Tx_endNumber none 6 cc_Tx_endNumber A) (hDD : ∀ (rt : Nat) (Sj : SSJ) (T0 : STx) (T1 : STx) (Rd : SRd) (Pg : SPg) (Pt : SPt) (Mk : SMk) (Lk : SLk) (Ck : SCk) (Jd : SJd) (Ld : SLd) (Pr : SPr), va_D A (o_cw ad ca rt Sj T0 T1 Rd Pg Pt Mk Lk Ck Jd Ld Pr)) (n : Nat) (u52_x1 : Int32) (u52_x2 : Int32) (u52_x3 : Int32) (u52_x5 : Int32) (u52_a0 : STx) (u52_Sj : SSJ) (u52_T1 : STx) (u52_Rd : SRd) (u52_Pg : SPg) (u52_Pt : SPt) (u52_Mk : SMk) (u52_Lk : SLk) (u52_Ck : SCk) (u52_Jd : SJd) (u52_Ld : SLd) (u52_Pr : SPr) (u52_rt : Nat) (z : Int32) (q : Nat × Int32) (h : m_Tx_endNumber_b52 n u52_x1 u52_x2 u52_x3 u52_x5 u52_a0 z = some q) (h0 : q.1 = 0 → o_At p l e rm_Tx_endNumber s m args below meth c Q o_cls D A 6 52 [] (o_cw ad ca u52_rt u52_Sj u52_a0 u52_T1 u52_Rd u52_Pg u52_Pt u52_Mk u52_Lk u52_Ck u52_Jd u52_Ld u52_Pr) [(0, .ref (ad 1)), (1, .int u52_x1), (2, .int u52_x2), (3, .int u52_x3), (4, .int q.2), (5, .int u52_x5)]) (h1 : q.1 ≠ 0 → (o_At p l e rm_Tx_endNumber s m args below meth c Q o_cls D A 6 75 [] (o_cw ad ca u52_rt u52_Sj u52_a0 u52_T1 u52_Rd u52_Pg u52_Pt u52_Mk u52_Lk u52_Ck u52_Jd u52_Ld u52_Pr) [(0, .ref (ad 1)), (1, .int u52_x1), (2, .int u52_x2), (3, .int u52_x3), (4, .int q.2), (5, .int u52_x5)])) : o_At p l e rm_Tx_endNumber s m args below meth c Q o_cls D A 6 52 [] (o_cw ad ca u52_rt u52_Sj u52_a0 u52_T1 u52_Rd u52_Pg u52_Pt u52_Mk u52_Lk u52_Ck u52_Jd u52_Ld u52_Pr) [(0, .ref (ad 1)), (1, .int u52_x1), (2, .int u52_x2), (3, .int u52_x3), (4, .int z), (5, .int u52_x5)] := by
  unfold m_Tx_endNumber_b52 at h
  intro H locs ls hP hS hl
  have C0 := C
  obtain ⟨hx, hb, -, -, -, hown, hts, hK, -, -⟩ := C0
  refine lv_iload hx hb d_Tx_endNumber_52 (lv_at hl 4 rfl) ?_
  refine lv_iload hx hb d_Tx_endNumber_54 (lv_at hl 5 rfl) ?_
  refine lv_icmp_ge (tgt := 75) hx hb d_Tx_endNumber_56 (by decide) (fun c7 => ?_) (fun c7 => ?_)
  · replace h := o_tt c7 h
    cases h
    exact h1 (Nat.succ_ne_zero 0) _ _ _ hP hS (lv_sub hl [0, 1, 2, 3, 4, 5] rfl)
  · replace h := o_ff c7 h
    refine lv_aload_n hx hb d_Tx_endNumber_59 rfl (lv_at hl 0 rfl) ?_
    refine o_get (v := .ref (ad 11)) C in_Tx hP 1 cw_1 rfl 9 (by decide) k_1_55 rfl rfl d_Tx_endNumber_60 ?_
    refine lv_iload hx hb d_Tx_endNumber_63 (lv_at hl 4 rfl) ?_
    obtain ⟨g8, h⟩ := o_gd_some h
    refine o_iald (f := (Tx_cells u52_a0)) C hP 11 9 cw_11 rfl g8 d_Tx_endNumber_65 ?_
    refine lv_if_ne (tgt := 75) hx hb d_Tx_endNumber_66 (by decide) (fun c9 => ?_) (fun c9 => ?_)
    · replace h := o_ff c9 h
      cases h
      exact h1 (Nat.succ_ne_zero 0) _ _ _ hP hS (lv_sub hl [0, 1, 2, 3, 4, 5] rfl)
    · replace h := o_tt c9 h
      obtain ⟨x4_69, ex4_69⟩ : ∃ y : Int32, y = z + (1:Int32) := ⟨_, rfl⟩
      replace h := o_nm_at ex4_69 h
      refine lv_iinc (v := x4_69) (lv' := [(4, .int x4_69), (0, .ref (ad 1)), (1, .int u52_x1), (2, .int u52_x2), (3, .int u52_x3), (5, .int u52_x5)]) hx hb d_Tx_endNumber_69 hl (k := 4) rfl (by rw [ex4_69]; rfl) (by decide) rfl (fun ls hl => ?_)
      refine lv_goto (tgt := 52) hx hb d_Tx_endNumber_72 (by decide) ?_
      cases h
      exact h0 rfl _ _ _ hP hS (lv_sub hl [1, 2, 3, 4, 0, 5] rfl)
set_option maxHeartbeats 4000000 in
set_option maxRecDepth 100000 in
theorem w_Tx_endNumber_j119_0 {E : (Nat → Prop) → State → Heap → Prop} {p : Program} {l : Launch} {e : Env} {s : State} {m : MethodId} {args : Array Value} {below : List Frame} {meth : Method} {c : Code} {D : va_G} {ad kd sd vd xd : Nat → Nat} {ca : Nat → ClassId} {A : Nat → Prop} (hE : o_EK E kd sd vd xd) (C : o_Cx E p s m args meth c D o_cls (o_tys ca) "SchemaJudge$Text" b_Tx_endNumber none 6 cc_Tx_endNumber A) (hDD : ∀ (rt : Nat) (Sj : SSJ) (T0 : STx) (T1 : STx) (Rd : SRd) (Pg : SPg) (Pt : SPt) (Mk : SMk) (Lk : SLk) (Ck : SCk) (Jd : SJd) (Ld : SLd) (Pr : SPr), va_D A (o_cw ad ca rt Sj T0 T1 Rd Pg Pt Mk Lk Ck Jd Ld Pr)) (n : Nat) (x1 : Int32) (x2 : Int32) (x4 : Int32) (x5 : Int32) (y1 : Int32) (y2 : Int32) (a0 : STx) (Sj : SSJ) (T1 : STx) (Rd : SRd) (Pg : SPg) (Pt : SPt) (Mk : SMk) (Lk : SLk) (Ck : SCk) (Jd : SJd) (Ld : SLd) (Pr : SPr) (rt : Nat) {r : STx} (h : m_Tx_endNumber_j119 n x1 x2 x4 x5 y1 y2 a0 = some r) : o_At p l e rm_Tx_endNumber s m args below meth c (MQ below (o_Qx D o_cls none (o_cw ad ca rt Sj r T1 Rd Pg Pt Mk Lk Ck Jd Ld Pr) A) args s 0 0 A) o_cls D A 6 119 [.int y2, .int y1, .ref (ad 6)] (o_cw ad ca rt Sj a0 T1 Rd Pg Pt Mk Lk Ck Jd Ld Pr) [(0, .ref (ad 1)), (1, .int x1), (2, .int x2), (4, .int x4), (5, .int x5)] := by
  unfold m_Tx_endNumber_j119 at h
  intro H locs ls hP hS hl
  have C0 := C
  obtain ⟨hx, hb, -, -, -, hown, hts, hK, -, -⟩ := C0
  obtain ⟨g13, h⟩ := o_gd_some h
  refine o_iast (f := (Tx_exponents a0)) (w1 := (o_cw ad ca rt Sj (Tx_mk (Tx_kinds a0) (Tx_places a0) (Tx_sizes a0) (Tx_parents a0) (upd (Tx_exponents a0) y1.toNatClampNeg y2) (Tx_starts a0) (Tx_afters a0) (Tx_slots a0) (Tx_negatives a0) (Tx_cells a0) (Tx_total a0) (Tx_used a0) (Tx_characters a0)) T1 Rd Pg Pt Mk Lk Ck Jd Ld Pr)) C hP (hDD _ _ _ _ _ _ _ _ _ _ _ _ _) hS 6 4 cw_6 rfl g13 rfl d_Tx_endNumber_119 (fun H locs hP hS => ?_)
  refine lv_aload_n hx hb d_Tx_endNumber_120 rfl (lv_at hl 0 rfl) ?_
  refine o_get (v := .ref (ad 10)) C in_Tx hP 1 cw_1 rfl 8 (by decide) k_1_54 rfl rfl d_Tx_endNumber_121 ?_
  refine lv_iload_n hx hb d_Tx_endNumber_124 rfl (lv_at hl 1 rfl) ?_
  refine lv_iload_n hx hb d_Tx_endNumber_125 rfl (lv_at hl 2 rfl) ?_
  refine lv_if_eq (tgt := 140) hx hb d_Tx_endNumber_126 (by decide) (fun c14 => ?_) (fun c14 => ?_)
  · replace h := o_tt c14 h
    refine lv_iconst (v := (0:Int32)) hx hb d_Tx_endNumber_140 (by decide) ?_
    obtain ⟨g15, h⟩ := o_gd_some h
    refine o_zast (f := (Tx_negatives a0)) (w1 := (o_cw ad ca rt Sj (Tx_mk (Tx_kinds a0) (Tx_places a0) (Tx_sizes a0) (Tx_parents a0) (upd (Tx_exponents a0) y1.toNatClampNeg y2) (Tx_starts a0) (Tx_afters a0) (Tx_slots a0) (upd (Tx_negatives a0) x1.toNatClampNeg (vp_nar .boolean (0:Int32))) (Tx_cells a0) (Tx_total a0) (Tx_used a0) (Tx_characters a0)) T1 Rd Pg Pt Mk Lk Ck Jd Ld Pr)) C hP (hDD _ _ _ _ _ _ _ _ _ _ _ _ _) hS 10 8 cw_10 rfl g15 rfl d_Tx_endNumber_141 (fun H locs hP hS => ?_)
    cases h
    exact o_rv C hP hS d_Tx_endNumber_142
  · replace h := o_ff c14 h
    refine lv_iload hx hb d_Tx_endNumber_129 (lv_at hl 4 rfl) ?_
    refine lv_iload hx hb d_Tx_endNumber_131 (lv_at hl 3 rfl) ?_
    refine lv_icmp_le (tgt := 140) hx hb d_Tx_endNumber_133 (by decide) (fun c16 => ?_) (fun c16 => ?_)
    · replace h := o_tt c16 h
      refine lv_iconst (v := (0:Int32)) hx hb d_Tx_endNumber_140 (by decide) ?_
      obtain ⟨g17, h⟩ := o_gd_some h
      refine o_zast (f := (Tx_negatives a0)) (w1 := (o_cw ad ca rt Sj (Tx_mk (Tx_kinds a0) (Tx_places a0) (Tx_sizes a0) (Tx_parents a0) (upd (Tx_exponents a0) y1.toNatClampNeg y2) (Tx_starts a0) (Tx_afters a0) (Tx_slots a0) (upd (Tx_negatives a0) x1.toNatClampNeg (vp_nar .boolean (0:Int32))) (Tx_cells a0) (Tx_total a0) (Tx_used a0) (Tx_characters a0)) T1 Rd Pg Pt Mk Lk Ck Jd Ld Pr)) C hP (hDD _ _ _ _ _ _ _ _ _ _ _ _ _) hS 10 8 cw_10 rfl g17 rfl d_Tx_endNumber_141 (fun H locs hP hS => ?_)
      cases h
      exact o_rv C hP hS d_Tx_endNumber_142
    · replace h := o_ff c16 h
      refine lv_iconst (v := (1:Int32)) hx hb d_Tx_endNumber_136 (by decide) ?_
      refine lv_goto (tgt := 141) hx hb d_Tx_endNumber_137 (by decide) ?_
      obtain ⟨g18, h⟩ := o_gd_some h
      refine o_zast (f := (Tx_negatives a0)) (w1 := (o_cw ad ca rt Sj (Tx_mk (Tx_kinds a0) (Tx_places a0) (Tx_sizes a0) (Tx_parents a0) (upd (Tx_exponents a0) y1.toNatClampNeg y2) (Tx_starts a0) (Tx_afters a0) (Tx_slots a0) (upd (Tx_negatives a0) x1.toNatClampNeg (vp_nar .boolean (1:Int32))) (Tx_cells a0) (Tx_total a0) (Tx_used a0) (Tx_characters a0)) T1 Rd Pg Pt Mk Lk Ck Jd Ld Pr)) C hP (hDD _ _ _ _ _ _ _ _ _ _ _ _ _) hS 10 8 cw_10 rfl g18 rfl d_Tx_endNumber_141 (fun H locs hP hS => ?_)
      cases h
      exact o_rv C hP hS d_Tx_endNumber_142
set_option maxHeartbeats 4000000 in
set_option maxRecDepth 100000 in
theorem w_Tx_endNumber_j75_0 {E : (Nat → Prop) → State → Heap → Prop} {p : Program} {l : Launch} {e : Env} {s : State} {m : MethodId} {args : Array Value} {below : List Frame} {meth : Method} {c : Code} {D : va_G} {ad kd sd vd xd : Nat → Nat} {ca : Nat → ClassId} {A : Nat → Prop} (hE : o_EK E kd sd vd xd) (C : o_Cx E p s m args meth c D o_cls (o_tys ca) "SchemaJudge$Text" b_Tx_endNumber none 6 cc_Tx_endNumber A) (hDD : ∀ (rt : Nat) (Sj : SSJ) (T0 : STx) (T1 : STx) (Rd : SRd) (Pg : SPg) (Pt : SPt) (Mk : SMk) (Lk : SLk) (Ck : SCk) (Jd : SJd) (Ld : SLd) (Pr : SPr), va_D A (o_cw ad ca rt Sj T0 T1 Rd Pg Pt Mk Lk Ck Jd Ld Pr)) (n : Nat) (x1 : Int32) (x2 : Int32) (x3 : Int32) (x4 : Int32) (x5 : Int32) (a0 : STx) (Sj : SSJ) (T1 : STx) (Rd : SRd) (Pg : SPg) (Pt : SPt) (Mk : SMk) (Lk : SLk) (Ck : SCk) (Jd : SJd) (Ld : SLd) (Pr : SPr) (rt : Nat) {r : STx} (h : m_Tx_endNumber_j75 n x1 x2 x3 x4 x5 a0 = some r) : o_At p l e rm_Tx_endNumber s m args below meth c (MQ below (o_Qx D o_cls none (o_cw ad ca rt Sj r T1 Rd Pg Pt Mk Lk Ck Jd Ld Pr) A) args s 0 0 A) o_cls D A 6 75 [] (o_cw ad ca rt Sj a0 T1 Rd Pg Pt Mk Lk Ck Jd Ld Pr) [(0, .ref (ad 1)), (1, .int x1), (2, .int x2), (3, .int x3), (4, .int x4), (5, .int x5)] := by
  unfold m_Tx_endNumber_j75 at h
  intro H locs ls hP hS hl
  have C0 := C
  obtain ⟨hx, hb, -, -, -, hown, hts, hK, -, -⟩ := C0
  refine lv_aload_n hx hb d_Tx_endNumber_75 rfl (lv_at hl 0 rfl) ?_
  refine o_get (v := .ref (ad 7)) C in_Tx hP 1 cw_1 rfl 5 (by decide) k_1_51 rfl rfl d_Tx_endNumber_76 ?_
  refine lv_iload_n hx hb d_Tx_endNumber_79 rfl (lv_at hl 1 rfl) ?_
  refine lv_iload hx hb d_Tx_endNumber_80 (lv_at hl 4 rfl) ?_
  obtain ⟨g10, h⟩ := o_gd_some h
  refine o_iast (f := (Tx_starts a0)) (w1 := (o_cw ad ca rt Sj (Tx_mk (Tx_kinds a0) (Tx_places a0) (Tx_sizes a0) (Tx_parents a0) (Tx_exponents a0) (upd (Tx_starts a0) x1.toNatClampNeg x4) (Tx_afters a0) (Tx_slots a0) (Tx_negatives a0) (Tx_cells a0) (Tx_total a0) (Tx_used a0) (Tx_characters a0)) T1 Rd Pg Pt Mk Lk Ck Jd Ld Pr)) C hP (hDD _ _ _ _ _ _ _ _ _ _ _ _ _) hS 7 5 cw_7 rfl g10 rfl d_Tx_endNumber_82 (fun H locs hP hS => ?_)
  refine lv_aload_n hx hb d_Tx_endNumber_83 rfl (lv_at hl 0 rfl) ?_
  refine o_get (v := .ref (ad 4)) C in_Tx hP 1 cw_1 rfl 2 (by decide) k_1_48 rfl rfl d_Tx_endNumber_84 ?_
  refine lv_iload_n hx hb d_Tx_endNumber_87 rfl (lv_at hl 1 rfl) ?_
  refine lv_iload hx hb d_Tx_endNumber_88 (lv_at hl 5 rfl) ?_
  refine lv_iload hx hb d_Tx_endNumber_90 (lv_at hl 4 rfl) ?_
  refine lv_isub hx hb d_Tx_endNumber_92 ?_
  obtain ⟨g11, h⟩ := o_gd_some h
  refine o_iast (f := (Tx_sizes a0)) (w1 := (o_cw ad ca rt Sj (Tx_mk (Tx_kinds a0) (Tx_places a0) (upd (Tx_sizes a0) x1.toNatClampNeg (x5 - x4)) (Tx_parents a0) (Tx_exponents a0) (upd (Tx_starts a0) x1.toNatClampNeg x4) (Tx_afters a0) (Tx_slots a0) (Tx_negatives a0) (Tx_cells a0) (Tx_total a0) (Tx_used a0) (Tx_characters a0)) T1 Rd Pg Pt Mk Lk Ck Jd Ld Pr)) C hP (hDD _ _ _ _ _ _ _ _ _ _ _ _ _) hS 4 2 cw_4 rfl g11 rfl d_Tx_endNumber_93 (fun H locs hP hS => ?_)
  refine lv_aload_n hx hb d_Tx_endNumber_94 rfl (lv_at hl 0 rfl) ?_
  refine o_get (v := .ref (ad 6)) C in_Tx hP 1 cw_1 rfl 4 (by decide) k_1_50 rfl rfl d_Tx_endNumber_95 ?_
  refine lv_iload_n hx hb d_Tx_endNumber_98 rfl (lv_at hl 1 rfl) ?_
  refine lv_iload hx hb d_Tx_endNumber_99 (lv_at hl 5 rfl) ?_
  refine lv_iload hx hb d_Tx_endNumber_101 (lv_at hl 4 rfl) ?_
  refine lv_icmp_ne (tgt := 110) hx hb d_Tx_endNumber_103 (by decide) (fun c12 => ?_) (fun c12 => ?_)
  · replace h := o_ff c12 h
    refine lv_iload_n hx hb d_Tx_endNumber_110 rfl (lv_at hl 3 rfl) ?_
    refine lv_aload_n hx hb d_Tx_endNumber_111 rfl (lv_at hl 0 rfl) ?_
    refine o_get (v := .int (Tx_used a0)) C in_Tx hP 1 cw_1 rfl 11 (by decide) k_1_57 rfl rfl d_Tx_endNumber_112 ?_
    refine lv_iadd hx hb d_Tx_endNumber_115 ?_
    refine lv_iload hx hb d_Tx_endNumber_116 (lv_at hl 5 rfl) ?_
    refine lv_isub hx hb d_Tx_endNumber_118 ?_
    exact w_Tx_endNumber_j119_0 hE C hDD n x1 x2 x4 x5 x1 ((x3 + (Tx_used a0)) - x5) (Tx_mk (Tx_kinds a0) (Tx_places a0) (upd (Tx_sizes a0) x1.toNatClampNeg (x5 - x4)) (Tx_parents a0) (Tx_exponents a0) (upd (Tx_starts a0) x1.toNatClampNeg x4) (Tx_afters a0) (Tx_slots a0) (Tx_negatives a0) (Tx_cells a0) (Tx_total a0) (Tx_used a0) (Tx_characters a0)) Sj T1 Rd Pg Pt Mk Lk Ck Jd Ld Pr rt h _ _ _ hP hS (lv_sub hl [0, 1, 2, 4, 5] rfl)
  · replace h := o_tt c12 h
    refine lv_iconst (v := (0:Int32)) hx hb d_Tx_endNumber_106 (by decide) ?_
    refine lv_goto (tgt := 119) hx hb d_Tx_endNumber_107 (by decide) ?_
    exact w_Tx_endNumber_j119_0 hE C hDD n x1 x2 x4 x5 x1 (0:Int32) (Tx_mk (Tx_kinds a0) (Tx_places a0) (upd (Tx_sizes a0) x1.toNatClampNeg (x5 - x4)) (Tx_parents a0) (Tx_exponents a0) (upd (Tx_starts a0) x1.toNatClampNeg x4) (Tx_afters a0) (Tx_slots a0) (Tx_negatives a0) (Tx_cells a0) (Tx_total a0) (Tx_used a0) (Tx_characters a0)) Sj T1 Rd Pg Pt Mk Lk Ck Jd Ld Pr rt h _ _ _ hP hS (lv_sub hl [0, 1, 2, 4, 5] rfl)
set_option maxHeartbeats 4000000 in
set_option maxRecDepth 100000 in
theorem c_Tx_endNumber_0 {E : (Nat → Prop) → State → Heap → Prop} {D : va_G} {ad kd sd vd xd : Nat → Nat} {ca : Nat → ClassId} (hE : o_EK E kd sd vd xd) (l : Launch) (n : Nat) (x1 : Int32) (x2 : Int32) (x3 : Int32) (a0 : STx) (Sj : SSJ) (T1 : STx) (Rd : SRd) (Pg : SPg) (Pt : SPt) (Mk : SMk) (Lk : SLk) (Ck : SCk) (Jd : SJd) (Ld : SLd) (Pr : SPr) (rt : Nat) {r : STx} (h : m_Tx_endNumber n x1 x2 x3 a0 = some r) : o_Cn E l D o_cls (o_tys ca) y_Tx_endNumber cc_Tx_endNumber rm_Tx_endNumber [.ref (ad 1), .int x1, .int x2, .int x3] (o_cw ad ca rt Sj a0 T1 Rd Pg Pt Mk Lk Ck Jd Ld Pr) (o_cw ad ca rt Sj r T1 Rd Pg Pt Mk Lk Ck Jd Ld Pr) none := by
  refine o_Cn_of (by decide) (Nat.le_of_ble_eq_true rfl) ?_
  intro p e s m below meth c A ls C hD hP hS hl
  have hDD : ∀ (rt : Nat) (Sj : SSJ) (T0 : STx) (T1 : STx) (Rd : SRd) (Pg : SPg) (Pt : SPt) (Mk : SMk) (Lk : SLk) (Ck : SCk) (Jd : SJd) (Ld : SLd) (Pr : SPr), va_D A (o_cw ad ca rt Sj T0 T1 Rd Pg Pt Mk Lk Ck Jd Ld Pr) := fun _ _ _ _ _ _ _ _ _ _ _ _ _ => o_D_map hD rfl
  have hl : lv_has ls 6 [(0, .ref (ad 1)), (1, .int x1), (2, .int x2), (3, .int x3)] := hl
  unfold m_Tx_endNumber at h
  have C0 := C
  obtain ⟨hx, hb, -, -, -, hown, hts, hK, -, -⟩ := C0
  refine lv_iload_n hx hb d_Tx_endNumber_0 rfl (lv_at hl 1 rfl) ?_
  refine lv_if_lt (tgt := 12) hx hb d_Tx_endNumber_1 (by decide) (fun c1 => ?_) (fun c1 => ?_)
  · replace h := o_tt c1 h
    cases h
    exact o_rv C hP hS d_Tx_endNumber_12
  · replace h := o_ff c1 h
    refine lv_iload_n hx hb d_Tx_endNumber_4 rfl (lv_at hl 1 rfl) ?_
    refine lv_aload_n hx hb d_Tx_endNumber_5 rfl (lv_at hl 0 rfl) ?_
    refine o_get (v := .int (Tx_total a0)) C in_Tx hP 1 cw_1 rfl 10 (by decide) k_1_56 rfl rfl d_Tx_endNumber_6 ?_
    refine lv_icmp_lt (tgt := 13) hx hb d_Tx_endNumber_9 (by decide) (fun c2 => ?_) (fun c2 => ?_)
    · replace h := o_tt c2 h
      refine lv_aload_n hx hb d_Tx_endNumber_13 rfl (lv_at hl 0 rfl) ?_
      refine o_get (v := .ref (ad 7)) C in_Tx hP 1 cw_1 rfl 5 (by decide) k_1_51 rfl rfl d_Tx_endNumber_14 ?_
      refine lv_iload_n hx hb d_Tx_endNumber_17 rfl (lv_at hl 1 rfl) ?_
      obtain ⟨g3, h⟩ := o_gd_some h
      refine o_iald (f := (Tx_starts a0)) C hP 7 5 cw_7 rfl g3 d_Tx_endNumber_18 ?_
      refine lv_topi (fun x4_19 ex4_19 => ?_)
      replace h := o_nm_at ex4_19 h
      refine lv_istore (lv' := [(4, .int x4_19), (0, .ref (ad 1)), (1, .int x1), (2, .int x2), (3, .int x3)]) hx hb d_Tx_endNumber_19 hl (by decide) rfl (fun ls hl => ?_)
      refine lv_aload_n hx hb d_Tx_endNumber_21 rfl (lv_at hl 1 rfl) ?_
      refine o_get (v := .int (Tx_used a0)) C in_Tx hP 1 cw_1 rfl 11 (by decide) k_1_57 rfl rfl d_Tx_endNumber_22 ?_
      refine lv_topi (fun x5_25 ex5_25 => ?_)
      replace h := o_nm_at ex5_25 h
      refine lv_istore (lv' := [(5, .int x5_25), (4, .int x4_19), (0, .ref (ad 1)), (1, .int x1), (2, .int x2), (3, .int x3)]) hx hb d_Tx_endNumber_25 hl (by decide) rfl (fun ls hl => ?_)
      obtain ⟨q1, hq1, h⟩ := o_bd_some h
      refine o_sim2 (AH := fun zz => o_At p l e rm_Tx_endNumber s m _ below meth c _ o_cls D A 6 27 [] (o_cw ad ca rt Sj a0 T1 Rd Pg Pt Mk Lk Ck Jd Ld Pr) [(0, .ref (ad 1)), (1, .int x1), (2, .int x2), (3, .int x3), (4, .int x4_19), (5, .int zz)]) (AX := fun qq => o_At p l e rm_Tx_endNumber s m _ below meth c _ o_cls D A 6 52 [] (o_cw ad ca rt Sj a0 T1 Rd Pg Pt Mk Lk Ck Jd Ld Pr) [(0, .ref (ad 1)), (1, .int x1), (2, .int x2), (3, .int x3), (4, .int x4_19), (5, .int qq.2)]) (fun zz qq h h0 h1 => w_Tx_endNumber_b27_0 hE C hDD n x1 x2 x3 x4_19 a0 Sj T1 Rd Pg Pt Mk Lk Ck Jd Ld Pr rt zz qq h h0 h1) n _ q1 hq1 ?_ _ _ _ hP hS (lv_sub hl [2, 3, 4, 5, 1, 0] rfl)
      intro H locs ls hP hS hl
      obtain ⟨q2, hq2, h⟩ := o_bd_some h
      refine o_sim2 (AH := fun zz => o_At p l e rm_Tx_endNumber s m _ below meth c _ o_cls D A 6 52 [] (o_cw ad ca rt Sj a0 T1 Rd Pg Pt Mk Lk Ck Jd Ld Pr) [(0, .ref (ad 1)), (1, .int x1), (2, .int x2), (3, .int x3), (4, .int zz), (5, .int q1.2)]) (AX := fun qq => o_At p l e rm_Tx_endNumber s m _ below meth c _ o_cls D A 6 75 [] (o_cw ad ca rt Sj a0 T1 Rd Pg Pt Mk Lk Ck Jd Ld Pr) [(0, .ref (ad 1)), (1, .int x1), (2, .int x2), (3, .int x3), (4, .int qq.2), (5, .int q1.2)]) (fun zz qq h h0 h1 => w_Tx_endNumber_b52_0 hE C hDD n x1 x2 x3 q1.2 a0 Sj T1 Rd Pg Pt Mk Lk Ck Jd Ld Pr rt zz qq h h0 h1) n _ q2 hq2 ?_ _ _ _ hP hS (lv_sub hl [0, 1, 2, 3, 4, 5] rfl)
      intro H locs ls hP hS hl
      exact w_Tx_endNumber_j75_0 hE C hDD n x1 x2 x3 q2.2 q1.2 a0 Sj T1 Rd Pg Pt Mk Lk Ck Jd Ld Pr rt h _ _ _ hP hS (lv_sub hl [0, 1, 2, 3, 4, 5] rfl)
    · replace h := o_ff c2 h
      cases h
      exact o_rv C hP hS d_Tx_endNumber_12
set_option maxHeartbeats 4000000 in
set_option maxRecDepth 100000 in
theorem w_Tx_endNumber_b27_1 {E : (Nat → Prop) → State → Heap → Prop} {p : Program} {l : Launch} {e : Env} {s : State} {m : MethodId} {args : Array Value} {below : List Frame} {meth : Method} {c : Code} {D : va_G} {ad kd sd vd xd : Nat → Nat} {ca : Nat → ClassId} {A : Nat → Prop} {Q : State → Prop} (hE : o_EK E kd sd vd xd) (C : o_Cx E p s m args meth c D o_cls (o_tys ca) "SchemaJudge$Text" b_Tx_endNumber none 6 cc_Tx_endNumber A) (hDD : ∀ (rt : Nat) (Sj : SSJ) (T0 : STx) (T1 : STx) (Rd : SRd) (Pg : SPg) (Pt : SPt) (Mk : SMk) (Lk : SLk) (Ck : SCk) (Jd : SJd) (Ld : SLd) (Pr : SPr), va_D A (o_cw ad ca rt Sj T0 T1 Rd Pg Pt Mk Lk Ck Jd Ld Pr)) (n : Nat) (u27_x1 : Int32) (u27_x2 : Int32) (u27_x3 : Int32) (u27_x4 : Int32) (u27_a0 : STx) (u27_Sj : SSJ) (u27_T0 : STx) (u27_Rd : SRd) (u27_Pg : SPg) (u27_Pt : SPt) (u27_Mk : SMk) (u27_Lk : SLk) (u27_Ck : SCk) (u27_Jd : SJd) (u27_Ld : SLd) (u27_Pr : SPr) (u27_rt : Nat) (z : Int32) (q : Nat × Int32) (h : m_Tx_endNumber_b27 n u27_x1 u27_x2 u27_x3 u27_x4 u27_a0 z = some q) (h0 : q.1 = 0 → o_At p l e rm_Tx_endNumber s m args below meth c Q o_cls D A 6 27 [] (o_cw ad ca u27_rt u27_Sj u27_T0 u27_a0 u27_Rd u27_Pg u27_Pt u27_Mk u27_Lk u27_Ck u27_Jd u27_Ld u27_Pr) [(0, .ref (ad 12)), (1, .int u27_x1), (2, .int u27_x2), (3, .int u27_x3), (4, .int u27_x4), (5, .int q.2)]) (h1 : q.1 ≠ 0 → (o_At p l e rm_Tx_endNumber s m args below meth c Q o_cls D A 6 52 [] (o_cw ad ca u27_rt u27_Sj u27_T0 u27_a0 u27_Rd u27_Pg u27_Pt u27_Mk u27_Lk u27_Ck u27_Jd u27_Ld u27_Pr) [(0, .ref (ad 12)), (1, .int u27_x1), (2, .int u27_x2), (3, .int u27_x3), (4, .int u27_x4), (5, .int q.2)])) : o_At p l e rm_Tx_endNumber s m args below meth c Q o_cls D A 6 27 [] (o_cw ad ca u27_rt u27_Sj u27_T0 u27_a0 u27_Rd u27_Pg u27_Pt u27_Mk u27_Lk u27_Ck u27_Jd u27_Ld u27_Pr) [(0, .ref (ad 12)), (1, .int u27_x1), (2, .int u27_x2), (3, .int u27_x3), (4, .int u27_x4), (5, .int z)] := by
  unfold m_Tx_endNumber_b27 at h
  intro H locs ls hP hS hl
  have C0 := C
  obtain ⟨hx, hb, -, -, -, hown, hts, hK, -, -⟩ := C0
  refine lv_iload hx hb d_Tx_endNumber_27 (lv_at hl 5 rfl) ?_
  refine lv_iload hx hb d_Tx_endNumber_29 (lv_at hl 4 rfl) ?_
  refine lv_icmp_le (tgt := 52) hx hb d_Tx_endNumber_31 (by decide) (fun c4 => ?_) (fun c4 => ?_)
  · replace h := o_tt c4 h
    cases h
    exact h1 (Nat.succ_ne_zero 0) _ _ _ hP hS (lv_sub hl [0, 1, 2, 3, 4, 5] rfl)
  · replace h := o_ff c4 h
    refine lv_aload_n hx hb d_Tx_endNumber_34 rfl (lv_at hl 0 rfl) ?_
    refine o_get (v := .ref (ad 22)) C in_Tx hP 12 cw_12 rfl 9 (by decide) k_1_55 rfl rfl d_Tx_endNumber_35 ?_
    refine lv_iload hx hb d_Tx_endNumber_38 (lv_at hl 5 rfl) ?_
    refine lv_iconst (v := (1:Int32)) hx hb d_Tx_endNumber_40 (by decide) ?_
    refine lv_isub hx hb d_Tx_endNumber_41 ?_
    obtain ⟨g5, h⟩ := o_gd_some h
    refine o_iald (f := (Tx_cells u27_a0)) C hP 22 19 cw_22 rfl g5 d_Tx_endNumber_42 ?_
    refine lv_if_ne (tgt := 52) hx hb d_Tx_endNumber_43 (by decide) (fun c6 => ?_) (fun c6 => ?_)
    · replace h := o_ff c6 h
      cases h
      exact h1 (Nat.succ_ne_zero 0) _ _ _ hP hS (lv_sub hl [0, 1, 2, 3, 4, 5] rfl)
    · replace h := o_tt c6 h
      obtain ⟨x5_46, ex5_46⟩ : ∃ y : Int32, y = z + (-1:Int32) := ⟨_, rfl⟩
      replace h := o_nm_at ex5_46 h
      refine lv_iinc (v := x5_46) (lv' := [(5, .int x5_46), (0, .ref (ad 12)), (1, .int u27_x1), (2, .int u27_x2), (3, .int u27_x3), (4, .int u27_x4)]) hx hb d_Tx_endNumber_46 hl (k := 5) rfl (by rw [ex5_46]; rfl) (by decide) rfl (fun ls hl => ?_)
      refine lv_goto (tgt := 27) hx hb d_Tx_endNumber_49 (by decide) ?_
      cases h
      exact h0 rfl _ _ _ hP hS (lv_sub hl [1, 2, 3, 4, 5, 0] rfl)
set_option maxHeartbeats 4000000 in
set_option maxRecDepth 100000 in
theorem w_Tx_endNumber_b52_1 {E : (Nat → Prop) → State → Heap → Prop} {p : Program} {l : Launch} {e : Env} {s : State} {m : MethodId} {args : Array Value} {below : List Frame} {meth : Method} {c : Code} {D : va_G} {ad kd sd vd xd : Nat → Nat} {ca : Nat → ClassId} {A : Nat → Prop} {Q : State → Prop} (hE : o_EK E kd sd vd xd) (C : o_Cx E p s m args meth c D o_cls (o_tys ca) "SchemaJudge$Text" b_Tx_endNumber none 6 cc_Tx_endNumber A) (hDD : ∀ (rt : Nat) (Sj : SSJ) (T0 : STx) (T1 : STx) (Rd : SRd) (Pg : SPg) (Pt : SPt) (Mk : SMk) (Lk : SLk) (Ck : SCk) (Jd : SJd) (Ld : SLd) (Pr : SPr), va_D A (o_cw ad ca rt Sj T0 T1 Rd Pg Pt Mk Lk Ck Jd Ld Pr)) (n : Nat) (u52_x1 : Int32) (u52_x2 : Int32) (u52_x3 : Int32) (u52_x5 : Int32) (u52_a0 : STx) (u52_Sj : SSJ) (u52_T0 : STx) (u52_Rd : SRd) (u52_Pg : SPg) (u52_Pt : SPt) (u52_Mk : SMk) (u52_Lk : SLk) (u52_Ck : SCk) (u52_Jd : SJd) (u52_Ld : SLd) (u52_Pr : SPr) (u52_rt : Nat) (z : Int32) (q : Nat × Int32) (h : m_Tx_endNumber_b52 n u52_x1 u52_x2 u52_x3 u52_x5 u52_a0 z = some q) (h0 : q.1 = 0 → o_At p l e rm_Tx_endNumber s m args below meth c Q o_cls D A 6 52 [] (o_cw ad ca u52_rt u52_Sj u52_T0 u52_a0 u52_Rd u52_Pg u52_Pt u52_Mk u52_Lk u52_Ck u52_Jd u52_Ld u52_Pr) [(0, .ref (ad 12)), (1, .int u52_x1), (2, .int u52_x2), (3, .int u52_x3), (4, .int q.2), (5, .int u52_x5)]) (h1 : q.1 ≠ 0 → (o_At p l e rm_Tx_endNumber s m args below meth c Q o_cls D A 6 75 [] (o_cw ad ca u52_rt u52_Sj u52_T0 u52_a0 u52_Rd u52_Pg u52_Pt u52_Mk u52_Lk u52_Ck u52_Jd u52_Ld u52_Pr) [(0, .ref (ad 12)), (1, .int u52_x1), (2, .int u52_x2), (3, .int u52_x3), (4, .int q.2), (5, .int u52_x5)])) : o_At p l e rm_Tx_endNumber s m args below meth c Q o_cls D A 6 52 [] (o_cw ad ca u52_rt u52_Sj u52_T0 u52_a0 u52_Rd u52_Pg u52_Pt u52_Mk u52_Lk u52_Ck u52_Jd u52_Ld u52_Pr) [(0, .ref (ad 12)), (1, .int u52_x1), (2, .int u52_x2), (3, .int u52_x3), (4, .int z), (5, .int u52_x5)] := by
  unfold m_Tx_endNumber_b52 at h
  intro H locs ls hP hS hl
  have C0 := C
  obtain ⟨hx, hb, -, -, -, hown, hts, hK, -, -⟩ := C0
  refine lv_iload hx hb d_Tx_endNumber_52 (lv_at hl 4 rfl) ?_
  refine lv_iload hx hb d_Tx_endNumber_54 (lv_at hl 5 rfl) ?_
  refine lv_icmp_ge (tgt := 75) hx hb d_Tx_endNumber_56 (by decide) (fun c7 => ?_) (fun c7 => ?_)
  · replace h := o_tt c7 h
    cases h
    exact h1 (Nat.succ_ne_zero 0) _ _ _ hP hS (lv_sub hl [0, 1, 2, 3, 4, 5] rfl)
  · replace h := o_ff c7 h
    refine lv_aload_n hx hb d_Tx_endNumber_59 rfl (lv_at hl 0 rfl) ?_
    refine o_get (v := .ref (ad 22)) C in_Tx hP 12 cw_12 rfl 9 (by decide) k_1_55 rfl rfl d_Tx_endNumber_60 ?_
    refine lv_iload hx hb d_Tx_endNumber_63 (lv_at hl 4 rfl) ?_
    obtain ⟨g8, h⟩ := o_gd_some h
    refine o_iald (f := (Tx_cells u52_a0)) C hP 22 19 cw_22 rfl g8 d_Tx_endNumber_65 ?_
    refine lv_if_ne (tgt := 75) hx hb d_Tx_endNumber_66 (by decide) (fun c9 => ?_) (fun c9 => ?_)
    · replace h := o_ff c9 h
      cases h
      exact h1 (Nat.succ_ne_zero 0) _ _ _ hP hS (lv_sub hl [0, 1, 2, 3, 4, 5] rfl)
    · replace h := o_tt c9 h
      obtain ⟨x4_69, ex4_69⟩ : ∃ y : Int32, y = z + (1:Int32) := ⟨_, rfl⟩
      replace h := o_nm_at ex4_69 h
      refine lv_iinc (v := x4_69) (lv' := [(4, .int x4_69), (0, .ref (ad 12)), (1, .int u52_x1), (2, .int u52_x2), (3, .int u52_x3), (5, .int u52_x5)]) hx hb d_Tx_endNumber_69 hl (k := 4) rfl (by rw [ex4_69]; rfl) (by decide) rfl (fun ls hl => ?_)
      refine lv_goto (tgt := 52) hx hb d_Tx_endNumber_72 (by decide) ?_
      cases h
      exact h0 rfl _ _ _ hP hS (lv_sub hl [1, 2, 3, 4, 0, 5] rfl)
set_option maxHeartbeats 4000000 in
set_option maxRecDepth 100000 in
theorem w_Tx_endNumber_j119_1 {E : (Nat → Prop) → State → Heap → Prop} {p : Program} {l : Launch} {e : Env} {s : State} {m : MethodId} {args : Array Value} {below : List Frame} {meth : Method} {c : Code} {D : va_G} {ad kd sd vd xd : Nat → Nat} {ca : Nat → ClassId} {A : Nat → Prop} (hE : o_EK E kd sd vd xd) (C : o_Cx E p s m args meth c D o_cls (o_tys ca) "SchemaJudge$Text" b_Tx_endNumber none 6 cc_Tx_endNumber A) (hDD : ∀ (rt : Nat) (Sj : SSJ) (T0 : STx) (T1 : STx) (Rd : SRd) (Pg : SPg) (Pt : SPt) (Mk : SMk) (Lk : SLk) (Ck : SCk) (Jd : SJd) (Ld : SLd) (Pr : SPr), va_D A (o_cw ad ca rt Sj T0 T1 Rd Pg Pt Mk Lk Ck Jd Ld Pr)) (n : Nat) (x1 : Int32) (x2 : Int32) (x4 : Int32) (x5 : Int32) (y1 : Int32) (y2 : Int32) (a0 : STx) (Sj : SSJ) (T0 : STx) (Rd : SRd) (Pg : SPg) (Pt : SPt) (Mk : SMk) (Lk : SLk) (Ck : SCk) (Jd : SJd) (Ld : SLd) (Pr : SPr) (rt : Nat) {r : STx} (h : m_Tx_endNumber_j119 n x1 x2 x4 x5 y1 y2 a0 = some r) : o_At p l e rm_Tx_endNumber s m args below meth c (MQ below (o_Qx D o_cls none (o_cw ad ca rt Sj T0 r Rd Pg Pt Mk Lk Ck Jd Ld Pr) A) args s 0 0 A) o_cls D A 6 119 [.int y2, .int y1, .ref (ad 17)] (o_cw ad ca rt Sj T0 a0 Rd Pg Pt Mk Lk Ck Jd Ld Pr) [(0, .ref (ad 12)), (1, .int x1), (2, .int x2), (4, .int x4), (5, .int x5)] := by
  unfold m_Tx_endNumber_j119 at h
  intro H locs ls hP hS hl
  have C0 := C
  obtain ⟨hx, hb, -, -, -, hown, hts, hK, -, -⟩ := C0
  obtain ⟨g13, h⟩ := o_gd_some h
  refine o_iast (f := (Tx_exponents a0)) (w1 := (o_cw ad ca rt Sj T0 (Tx_mk (Tx_kinds a0) (Tx_places a0) (Tx_sizes a0) (Tx_parents a0) (upd (Tx_exponents a0) y1.toNatClampNeg y2) (Tx_starts a0) (Tx_afters a0) (Tx_slots a0) (Tx_negatives a0) (Tx_cells a0) (Tx_total a0) (Tx_used a0) (Tx_characters a0)) Rd Pg Pt Mk Lk Ck Jd Ld Pr)) C hP (hDD _ _ _ _ _ _ _ _ _ _ _ _ _) hS 17 14 cw_17 rfl g13 rfl d_Tx_endNumber_119 (fun H locs hP hS => ?_)
  refine lv_aload_n hx hb d_Tx_endNumber_120 rfl (lv_at hl 0 rfl) ?_
  refine o_get (v := .ref (ad 21)) C in_Tx hP 12 cw_12 rfl 8 (by decide) k_1_54 rfl rfl d_Tx_endNumber_121 ?_
  refine lv_iload_n hx hb d_Tx_endNumber_124 rfl (lv_at hl 1 rfl) ?_
  refine lv_iload_n hx hb d_Tx_endNumber_125 rfl (lv_at hl 2 rfl) ?_
  refine lv_if_eq (tgt := 140) hx hb d_Tx_endNumber_126 (by decide) (fun c14 => ?_) (fun c14 => ?_)
  · replace h := o_tt c14 h
    refine lv_iconst (v := (0:Int32)) hx hb d_Tx_endNumber_140 (by decide) ?_
    obtain ⟨g15, h⟩ := o_gd_some h
    refine o_zast (f := (Tx_negatives a0)) (w1 := (o_cw ad ca rt Sj T0 (Tx_mk (Tx_kinds a0) (Tx_places a0) (Tx_sizes a0) (Tx_parents a0) (upd (Tx_exponents a0) y1.toNatClampNeg y2) (Tx_starts a0) (Tx_afters a0) (Tx_slots a0) (upd (Tx_negatives a0) x1.toNatClampNeg (vp_nar .boolean (0:Int32))) (Tx_cells a0) (Tx_total a0) (Tx_used a0) (Tx_characters a0)) Rd Pg Pt Mk Lk Ck Jd Ld Pr)) C hP (hDD _ _ _ _ _ _ _ _ _ _ _ _ _) hS 21 18 cw_21 rfl g15 rfl d_Tx_endNumber_141 (fun H locs hP hS => ?_)
    cases h
    exact o_rv C hP hS d_Tx_endNumber_142
  · replace h := o_ff c14 h
    refine lv_iload hx hb d_Tx_endNumber_129 (lv_at hl 4 rfl) ?_
    refine lv_iload hx hb d_Tx_endNumber_131 (lv_at hl 3 rfl) ?_
    refine lv_icmp_le (tgt := 140) hx hb d_Tx_endNumber_133 (by decide) (fun c16 => ?_) (fun c16 => ?_)
    · replace h := o_tt c16 h
      refine lv_iconst (v := (0:Int32)) hx hb d_Tx_endNumber_140 (by decide) ?_
      obtain ⟨g17, h⟩ := o_gd_some h
      refine o_zast (f := (Tx_negatives a0)) (w1 := (o_cw ad ca rt Sj T0 (Tx_mk (Tx_kinds a0) (Tx_places a0) (Tx_sizes a0) (Tx_parents a0) (upd (Tx_exponents a0) y1.toNatClampNeg y2) (Tx_starts a0) (Tx_afters a0) (Tx_slots a0) (upd (Tx_negatives a0) x1.toNatClampNeg (vp_nar .boolean (0:Int32))) (Tx_cells a0) (Tx_total a0) (Tx_used a0) (Tx_characters a0)) Rd Pg Pt Mk Lk Ck Jd Ld Pr)) C hP (hDD _ _ _ _ _ _ _ _ _ _ _ _ _) hS 21 18 cw_21 rfl g17 rfl d_Tx_endNumber_141 (fun H locs hP hS => ?_)
      cases h
      exact o_rv C hP hS d_Tx_endNumber_142
    · replace h := o_ff c16 h
      refine lv_iconst (v := (1:Int32)) hx hb d_Tx_endNumber_136 (by decide) ?_
      refine lv_goto (tgt := 141) hx hb d_Tx_endNumber_137 (by decide) ?_
      obtain ⟨g18, h⟩ := o_gd_some h
      refine o_zast (f := (Tx_negatives a0)) (w1 := (o_cw ad ca rt Sj T0 (Tx_mk (Tx_kinds a0) (Tx_places a0) (Tx_sizes a0) (Tx_parents a0) (upd (Tx_exponents a0) y1.toNatClampNeg y2) (Tx_starts a0) (Tx_afters a0) (Tx_slots a0) (upd (Tx_negatives a0) x1.toNatClampNeg (vp_nar .boolean (1:Int32))) (Tx_cells a0) (Tx_total a0) (Tx_used a0) (Tx_characters a0)) Rd Pg Pt Mk Lk Ck Jd Ld Pr)) C hP (hDD _ _ _ _ _ _ _ _ _ _ _ _ _) hS 21 18 cw_21 rfl g18 rfl d_Tx_endNumber_141 (fun H locs hP hS => ?_)
      cases h
      exact o_rv C hP hS d_Tx_endNumber_142
set_option maxHeartbeats 4000000 in
set_option maxRecDepth 100000 in
theorem w_Tx_endNumber_j75_1 {E : (Nat → Prop) → State → Heap → Prop} {p : Program} {l : Launch} {e : Env} {s : State} {m : MethodId} {args : Array Value} {below : List Frame} {meth : Method} {c : Code} {D : va_G} {ad kd sd vd xd : Nat → Nat} {ca : Nat → ClassId} {A : Nat → Prop} (hE : o_EK E kd sd vd xd) (C : o_Cx E p s m args meth c D o_cls (o_tys ca) "SchemaJudge$Text" b_Tx_endNumber none 6 cc_Tx_endNumber A) (hDD : ∀ (rt : Nat) (Sj : SSJ) (T0 : STx) (T1 : STx) (Rd : SRd) (Pg : SPg) (Pt : SPt) (Mk : SMk) (Lk : SLk) (Ck : SCk) (Jd : SJd) (Ld : SLd) (Pr : SPr), va_D A (o_cw ad ca rt Sj T0 T1 Rd Pg Pt Mk Lk Ck Jd Ld Pr)) (n : Nat) (x1 : Int32) (x2 : Int32) (x3 : Int32) (x4 : Int32) (x5 : Int32) (a0 : STx) (Sj : SSJ) (T0 : STx) (Rd : SRd) (Pg : SPg) (Pt : SPt) (Mk : SMk) (Lk : SLk) (Ck : SCk) (Jd : SJd) (Ld : SLd) (Pr : SPr) (rt : Nat) {r : STx} (h : m_Tx_endNumber_j75 n x1 x2 x3 x4 x5 a0 = some r) : o_At p l e rm_Tx_endNumber s m args below meth c (MQ below (o_Qx D o_cls none (o_cw ad ca rt Sj T0 r Rd Pg Pt Mk Lk Ck Jd Ld Pr) A) args s 0 0 A) o_cls D A 6 75 [] (o_cw ad ca rt Sj T0 a0 Rd Pg Pt Mk Lk Ck Jd Ld Pr) [(0, .ref (ad 12)), (1, .int x1), (2, .int x2), (3, .int x3), (4, .int x4), (5, .int x5)] := by
  unfold m_Tx_endNumber_j75 at h
  intro H locs ls hP hS hl
  have C0 := C
  obtain ⟨hx, hb, -, -, -, hown, hts, hK, -, -⟩ := C0
  refine lv_aload_n hx hb d_Tx_endNumber_75 rfl (lv_at hl 0 rfl) ?_
  refine o_get (v := .ref (ad 18)) C in_Tx hP 12 cw_12 rfl 5 (by decide) k_1_51 rfl rfl d_Tx_endNumber_76 ?_
  refine lv_iload_n hx hb d_Tx_endNumber_79 rfl (lv_at hl 1 rfl) ?_
  refine lv_iload hx hb d_Tx_endNumber_80 (lv_at hl 4 rfl) ?_
  obtain ⟨g10, h⟩ := o_gd_some h
  refine o_iast (f := (Tx_starts a0)) (w1 := (o_cw ad ca rt Sj T0 (Tx_mk (Tx_kinds a0) (Tx_places a0) (Tx_sizes a0) (Tx_parents a0) (Tx_exponents a0) (upd (Tx_starts a0) x1.toNatClampNeg x4) (Tx_afters a0) (Tx_slots a0) (Tx_negatives a0) (Tx_cells a0) (Tx_total a0) (Tx_used a0) (Tx_characters a0)) Rd Pg Pt Mk Lk Ck Jd Ld Pr)) C hP (hDD _ _ _ _ _ _ _ _ _ _ _ _ _) hS 18 15 cw_18 rfl g10 rfl d_Tx_endNumber_82 (fun H locs hP hS => ?_)
  refine lv_aload_n hx hb d_Tx_endNumber_83 rfl (lv_at hl 0 rfl) ?_
  refine o_get (v := .ref (ad 15)) C in_Tx hP 12 cw_12 rfl 2 (by decide) k_1_48 rfl rfl d_Tx_endNumber_84 ?_
  refine lv_iload_n hx hb d_Tx_endNumber_87 rfl (lv_at hl 1 rfl) ?_
  refine lv_iload hx hb d_Tx_endNumber_88 (lv_at hl 5 rfl) ?_
  refine lv_iload hx hb d_Tx_endNumber_90 (lv_at hl 4 rfl) ?_
  refine lv_isub hx hb d_Tx_endNumber_92 ?_
  obtain ⟨g11, h⟩ := o_gd_some h
  refine o_iast (f := (Tx_sizes a0)) (w1 := (o_cw ad ca rt Sj T0 (Tx_mk (Tx_kinds a0) (Tx_places a0) (upd (Tx_sizes a0) x1.toNatClampNeg (x5 - x4)) (Tx_parents a0) (Tx_exponents a0) (upd (Tx_starts a0) x1.toNatClampNeg x4) (Tx_afters a0) (Tx_slots a0) (Tx_negatives a0) (Tx_cells a0) (Tx_total a0) (Tx_used a0) (Tx_characters a0)) Rd Pg Pt Mk Lk Ck Jd Ld Pr)) C hP (hDD _ _ _ _ _ _ _ _ _ _ _ _ _) hS 15 12 cw_15 rfl g11 rfl d_Tx_endNumber_93 (fun H locs hP hS => ?_)
  refine lv_aload_n hx hb d_Tx_endNumber_94 rfl (lv_at hl 0 rfl) ?_
  refine o_get (v := .ref (ad 17)) C in_Tx hP 12 cw_12 rfl 4 (by decide) k_1_50 rfl rfl d_Tx_endNumber_95 ?_
  refine lv_iload_n hx hb d_Tx_endNumber_98 rfl (lv_at hl 1 rfl) ?_
  refine lv_iload hx hb d_Tx_endNumber_99 (lv_at hl 5 rfl) ?_
  refine lv_iload hx hb d_Tx_endNumber_101 (lv_at hl 4 rfl) ?_
  refine lv_icmp_ne (tgt := 110) hx hb d_Tx_endNumber_103 (by decide) (fun c12 => ?_) (fun c12 => ?_)
  · replace h := o_ff c12 h
    refine lv_iload_n hx hb d_Tx_endNumber_110 rfl (lv_at hl 3 rfl) ?_
    refine lv_aload_n hx hb d_Tx_endNumber_111 rfl (lv_at hl 0 rfl) ?_
    refine o_get (v := .int (Tx_used a0)) C in_Tx hP 12 cw_12 rfl 11 (by decide) k_1_57 rfl rfl d_Tx_endNumber_112 ?_
    refine lv_iadd hx hb d_Tx_endNumber_115 ?_
    refine lv_iload hx hb d_Tx_endNumber_116 (lv_at hl 5 rfl) ?_
    refine lv_isub hx hb d_Tx_endNumber_118 ?_
    exact w_Tx_endNumber_j119_1 hE C hDD n x1 x2 x4 x5 x1 ((x3 + (Tx_used a0)) - x5) (Tx_mk (Tx_kinds a0) (Tx_places a0) (upd (Tx_sizes a0) x1.toNatClampNeg (x5 - x4)) (Tx_parents a0) (Tx_exponents a0) (upd (Tx_starts a0) x1.toNatClampNeg x4) (Tx_afters a0) (Tx_slots a0) (Tx_negatives a0) (Tx_cells a0) (Tx_total a0) (Tx_used a0) (Tx_characters a0)) Sj T0 Rd Pg Pt Mk Lk Ck Jd Ld Pr rt h _ _ _ hP hS (lv_sub hl [0, 1, 2, 4, 5] rfl)
  · replace h := o_tt c12 h
    refine lv_iconst (v := (0:Int32)) hx hb d_Tx_endNumber_106 (by decide) ?_
    refine lv_goto (tgt := 119) hx hb d_Tx_endNumber_107 (by decide) ?_
    exact w_Tx_endNumber_j119_1 hE C hDD n x1 x2 x4 x5 x1 (0:Int32) (Tx_mk (Tx_kinds a0) (Tx_places a0) (upd (Tx_sizes a0) x1.toNatClampNeg (x5 - x4)) (Tx_parents a0) (Tx_exponents a0) (upd (Tx_starts a0) x1.toNatClampNeg x4) (Tx_afters a0) (Tx_slots a0) (Tx_negatives a0) (Tx_cells a0) (Tx_total a0) (Tx_used a0) (Tx_characters a0)) Sj T0 Rd Pg Pt Mk Lk Ck Jd Ld Pr rt h _ _ _ hP hS (lv_sub hl [0, 1, 2, 4, 5] rfl)
set_option maxHeartbeats 4000000 in
set_option maxRecDepth 100000 in
theorem c_Tx_endNumber_1 {E : (Nat → Prop) → State → Heap → Prop} {D : va_G} {ad kd sd vd xd : Nat → Nat} {ca : Nat → ClassId} (hE : o_EK E kd sd vd xd) (l : Launch) (n : Nat) (x1 : Int32) (x2 : Int32) (x3 : Int32) (a0 : STx) (Sj : SSJ) (T0 : STx) (Rd : SRd) (Pg : SPg) (Pt : SPt) (Mk : SMk) (Lk : SLk) (Ck : SCk) (Jd : SJd) (Ld : SLd) (Pr : SPr) (rt : Nat) {r : STx} (h : m_Tx_endNumber n x1 x2 x3 a0 = some r) : o_Cn E l D o_cls (o_tys ca) y_Tx_endNumber cc_Tx_endNumber rm_Tx_endNumber [.ref (ad 12), .int x1, .int x2, .int x3] (o_cw ad ca rt Sj T0 a0 Rd Pg Pt Mk Lk Ck Jd Ld Pr) (o_cw ad ca rt Sj T0 r Rd Pg Pt Mk Lk Ck Jd Ld Pr) none := by
  refine o_Cn_of (by decide) (Nat.le_of_ble_eq_true rfl) ?_
  intro p e s m below meth c A ls C hD hP hS hl
  have hDD : ∀ (rt : Nat) (Sj : SSJ) (T0 : STx) (T1 : STx) (Rd : SRd) (Pg : SPg) (Pt : SPt) (Mk : SMk) (Lk : SLk) (Ck : SCk) (Jd : SJd) (Ld : SLd) (Pr : SPr), va_D A (o_cw ad ca rt Sj T0 T1 Rd Pg Pt Mk Lk Ck Jd Ld Pr) := fun _ _ _ _ _ _ _ _ _ _ _ _ _ => o_D_map hD rfl
  have hl : lv_has ls 6 [(0, .ref (ad 12)), (1, .int x1), (2, .int x2), (3, .int x3)] := hl
  unfold m_Tx_endNumber at h
  have C0 := C
  obtain ⟨hx, hb, -, -, -, hown, hts, hK, -, -⟩ := C0
  refine lv_iload_n hx hb d_Tx_endNumber_0 rfl (lv_at hl 1 rfl) ?_
  refine lv_if_lt (tgt := 12) hx hb d_Tx_endNumber_1 (by decide) (fun c1 => ?_) (fun c1 => ?_)
  · replace h := o_tt c1 h
    cases h
    exact o_rv C hP hS d_Tx_endNumber_12
  · replace h := o_ff c1 h
    refine lv_iload_n hx hb d_Tx_endNumber_4 rfl (lv_at hl 1 rfl) ?_
    refine lv_aload_n hx hb d_Tx_endNumber_5 rfl (lv_at hl 0 rfl) ?_
    refine o_get (v := .int (Tx_total a0)) C in_Tx hP 12 cw_12 rfl 10 (by decide) k_1_56 rfl rfl d_Tx_endNumber_6 ?_
    refine lv_icmp_lt (tgt := 13) hx hb d_Tx_endNumber_9 (by decide) (fun c2 => ?_) (fun c2 => ?_)
    · replace h := o_tt c2 h
      refine lv_aload_n hx hb d_Tx_endNumber_13 rfl (lv_at hl 0 rfl) ?_
      refine o_get (v := .ref (ad 18)) C in_Tx hP 12 cw_12 rfl 5 (by decide) k_1_51 rfl rfl d_Tx_endNumber_14 ?_
      refine lv_iload_n hx hb d_Tx_endNumber_17 rfl (lv_at hl 1 rfl) ?_
      obtain ⟨g3, h⟩ := o_gd_some h
      refine o_iald (f := (Tx_starts a0)) C hP 18 15 cw_18 rfl g3 d_Tx_endNumber_18 ?_
      refine lv_topi (fun x4_19 ex4_19 => ?_)
      replace h := o_nm_at ex4_19 h
      refine lv_istore (lv' := [(4, .int x4_19), (0, .ref (ad 12)), (1, .int x1), (2, .int x2), (3, .int x3)]) hx hb d_Tx_endNumber_19 hl (by decide) rfl (fun ls hl => ?_)
      refine lv_aload_n hx hb d_Tx_endNumber_21 rfl (lv_at hl 1 rfl) ?_
      refine o_get (v := .int (Tx_used a0)) C in_Tx hP 12 cw_12 rfl 11 (by decide) k_1_57 rfl rfl d_Tx_endNumber_22 ?_
      refine lv_topi (fun x5_25 ex5_25 => ?_)
      replace h := o_nm_at ex5_25 h
      refine lv_istore (lv' := [(5, .int x5_25), (4, .int x4_19), (0, .ref (ad 12)), (1, .int x1), (2, .int x2), (3, .int x3)]) hx hb d_Tx_endNumber_25 hl (by decide) rfl (fun ls hl => ?_)
      obtain ⟨q1, hq1, h⟩ := o_bd_some h
      refine o_sim2 (AH := fun zz => o_At p l e rm_Tx_endNumber s m _ below meth c _ o_cls D A 6 27 [] (o_cw ad ca rt Sj T0 a0 Rd Pg Pt Mk Lk Ck Jd Ld Pr) [(0, .ref (ad 12)), (1, .int x1), (2, .int x2), (3, .int x3), (4, .int x4_19), (5, .int zz)]) (AX := fun qq => o_At p l e rm_Tx_endNumber s m _ below meth c _ o_cls D A 6 52 [] (o_cw ad ca rt Sj T0 a0 Rd Pg Pt Mk Lk Ck Jd Ld Pr) [(0, .ref (ad 12)), (1, .int x1), (2, .int x2), (3, .int x3), (4, .int x4_19), (5, .int qq.2)]) (fun zz qq h h0 h1 => w_Tx_endNumber_b27_1 hE C hDD n x1 x2 x3 x4_19 a0 Sj T0 Rd Pg Pt Mk Lk Ck Jd Ld Pr rt zz qq h h0 h1) n _ q1 hq1 ?_ _ _ _ hP hS (lv_sub hl [2, 3, 4, 5, 1, 0] rfl)
      intro H locs ls hP hS hl
      obtain ⟨q2, hq2, h⟩ := o_bd_some h
      refine o_sim2 (AH := fun zz => o_At p l e rm_Tx_endNumber s m _ below meth c _ o_cls D A 6 52 [] (o_cw ad ca rt Sj T0 a0 Rd Pg Pt Mk Lk Ck Jd Ld Pr) [(0, .ref (ad 12)), (1, .int x1), (2, .int x2), (3, .int x3), (4, .int zz), (5, .int q1.2)]) (AX := fun qq => o_At p l e rm_Tx_endNumber s m _ below meth c _ o_cls D A 6 75 [] (o_cw ad ca rt Sj T0 a0 Rd Pg Pt Mk Lk Ck Jd Ld Pr) [(0, .ref (ad 12)), (1, .int x1), (2, .int x2), (3, .int x3), (4, .int qq.2), (5, .int q1.2)]) (fun zz qq h h0 h1 => w_Tx_endNumber_b52_1 hE C hDD n x1 x2 x3 q1.2 a0 Sj T0 Rd Pg Pt Mk Lk Ck Jd Ld Pr rt zz qq h h0 h1) n _ q2 hq2 ?_ _ _ _ hP hS (lv_sub hl [0, 1, 2, 3, 4, 5] rfl)
      intro H locs ls hP hS hl
      exact w_Tx_endNumber_j75_1 hE C hDD n x1 x2 x3 q2.2 q1.2 a0 Sj T0 Rd Pg Pt Mk Lk Ck Jd Ld Pr rt h _ _ _ hP hS (lv_sub hl [0, 1, 2, 3, 4, 5] rfl)
    · replace h := o_ff c2 h
      cases h
      exact o_rv C hP hS d_Tx_endNumber_12
set_option maxHeartbeats 4000000 in
set_option maxRecDepth 100000 in
theorem w_Rd_readNumber_j275_0 {E : (Nat → Prop) → State → Heap → Prop} {p : Program} {l : Launch} {e : Env} {s : State} {m : MethodId} {args : Array Value} {below : List Frame} {meth : Method} {c : Code} {D : va_G} {ad kd sd vd xd : Nat → Nat} {ca : Nat → ClassId} {A : Nat → Prop} (hE : o_EK E kd sd vd xd) (C : o_Cx E p s m args meth c D o_cls (o_tys ca) "SchemaJudge$Reader" b_Rd_readNumber (some .boolean) 10 cc_Rd_readNumber A) (hDD : ∀ (rt : Nat) (Sj : SSJ) (T0 : STx) (T1 : STx) (Rd : SRd) (Pg : SPg) (Pt : SPt) (Mk : SMk) (Lk : SLk) (Ck : SCk) (Jd : SJd) (Ld : SLd) (Pr : SPr), va_D A (o_cw ad ca rt Sj T0 T1 Rd Pg Pt Mk Lk Ck Jd Ld Pr)) (n : Nat) (x1 : Int32) (x2 : Int32) (x3 : Int32) (x5 : Int32) (x6 : Int32) (x7 : Int32) (tc : STx) (Rd : SRd) (Sj : SSJ) (T1 : STx) (Pg : SPg) (Pt : SPt) (Mk : SMk) (Lk : SLk) (Ck : SCk) (Jd : SJd) (Ld : SLd) (Pr : SPr) {r : Int32 × STx × SRd} (h : m_Rd_readNumber_j275 n x1 x2 x3 x5 x6 x7 tc Rd = some r) : o_At p l e rm_Rd_readNumber s m args below meth c (MQ below (o_Qx D o_cls (some (.int r.1)) (o_cw ad ca 1 Sj r.2.1 T1 r.2.2 Pg Pt Mk Lk Ck Jd Ld Pr) A) args s 0 0 A) o_cls D A 10 275 [] (o_cw ad ca 1 Sj tc T1 Rd Pg Pt Mk Lk Ck Jd Ld Pr) [(0, .ref (ad 23)), (1, .int x1), (2, .int x2), (3, .int x3), (5, .int x5), (6, .int x6), (7, .int x7)] := by
  unfold m_Rd_readNumber_j275 at h
  intro H locs ls hP hS hl
  have C0 := C
  obtain ⟨hx, hb, -, -, -, hown, hts, hK, -, -⟩ := C0
  refine lv_iload hx hb d_Rd_readNumber_275 (lv_at hl 5 rfl) ?_
  refine lv_if_ne (tgt := 286) hx hb d_Rd_readNumber_277 (by decide) (fun c13 => ?_) (fun c13 => ?_)
  · replace h := o_ff c13 h
    refine lv_aload_n hx hb d_Rd_readNumber_286 rfl (lv_at hl 0 rfl) ?_
    refine o_get (v := .ref (ad 1)) C in_Rd hP 23 cw_23 rfl 2 (by decide) k_1_96 rfl rfl d_Rd_readNumber_287 ?_
    refine lv_iload_n hx hb d_Rd_readNumber_290 rfl (lv_at hl 1 rfl) ?_
    refine lv_iload_n hx hb d_Rd_readNumber_291 rfl (lv_at hl 3 rfl) ?_
    refine lv_iload hx hb d_Rd_readNumber_292 (lv_at hl 6 rfl) ?_
    refine lv_iload hx hb d_Rd_readNumber_294 (lv_at hl 4 rfl) ?_
    refine lv_isub hx hb d_Rd_readNumber_296 ?_
    obtain ⟨q8, hq8, h⟩ := o_bd_some h
    refine o_V (st1 := []) (w1 := (o_cw ad ca 1 Sj q8 T1 Rd Pg Pt Mk Lk Ck Jd Ld Pr)) hE.1 C (c_Tx_endNumber_0 hE l n x1 x3 (x7 - x5) tc Sj T1 Rd Pg Pt Mk Lk Ck Jd Ld Pr 1 hq8) hP (hDD _ _ _ _ _ _ _ _ _ _ _ _ _) hS hl.1 rfl cw_1 k_3_127 k_3_128 k_3_129 k_1_2 k_3_130 hv_Tx_endNumber rfl rfl ⟨(Nat.le_of_ble_eq_true rfl), (Nat.le_of_ble_eq_true rfl)⟩ rfl (Nat.le_of_ble_eq_true rfl) ⟨Nat.zero_le _, Nat.zero_le _⟩ rfl d_Rd_readNumber_297 (fun H locs hP hS => ?_)
    refine lv_iconst (v := (1:Int32)) hx hb d_Rd_readNumber_300 (by decide) ?_
    cases h
    exact o_rz (v := (1:Int32)) C o_nar1 hP hS d_Rd_readNumber_301
  · replace h := o_tt c13 h
    refine lv_aload_n hx hb d_Rd_readNumber_280 rfl (lv_at hl 0 rfl) ?_
    refine lv_iload_n hx hb d_Rd_readNumber_281 rfl (lv_at hl 2 rfl) ?_
    obtain ⟨q9, hq9, h⟩ := o_bd_some h
    refine o_V (st1 := [.int q9.1]) (w1 := (o_cw ad ca 1 Sj tc T1 q9.2 Pg Pt Mk Lk Ck Jd Ld Pr)) hE.1 C (c_Rd_refuse hE l x2 Rd Sj tc T1 Pg Pt Mk Lk Ck Jd Ld Pr 1 hq9) hP (hDD _ _ _ _ _ _ _ _ _ _ _ _ _) hS hl.1 rfl cw_23 k_3_48 k_3_50 k_s_4 k_1_3 k_3_51 hv_Rd_refuse rfl rfl ⟨(Nat.le_of_ble_eq_true rfl), (Nat.le_of_ble_eq_true rfl)⟩ rfl (Nat.le_of_ble_eq_true rfl) ⟨Nat.zero_le _, Nat.zero_le _⟩ rfl d_Rd_readNumber_282 (fun H locs hP hS => ?_)
    obtain ⟨g14, h⟩ := o_gd_some h
    cases h
    exact o_rz C (o_zb_nar g14) hP hS d_Rd_readNumber_285
set_option maxHeartbeats 4000000 in
set_option maxRecDepth 100000 in
theorem w_Rd_readNumber_j258_0 {E : (Nat → Prop) → State → Heap → Prop} {p : Program} {l : Launch} {e : Env} {s : State} {m : MethodId} {args : Array Value} {below : List Frame} {meth : Method} {c : Code} {D : va_G} {ad kd sd vd xd : Nat → Nat} {ca : Nat → ClassId} {A : Nat → Prop} (hE : o_EK E kd sd vd xd) (C : o_Cx E p s m args meth c D o_cls (o_tys ca) "SchemaJudge$Reader" b_Rd_readNumber (some .boolean) 10 cc_Rd_readNumber A) (hDD : ∀ (rt : Nat) (Sj : SSJ) (T0 : STx) (T1 : STx) (Rd : SRd) (Pg : SPg) (Pt : SPt) (Mk : SMk) (Lk : SLk) (Ck : SCk) (Jd : SJd) (Ld : SLd) (Pr : SPr), va_D A (o_cw ad ca rt Sj T0 T1 Rd Pg Pt Mk Lk Ck Jd Ld Pr)) (n : Nat) (x1 : Int32) (x2 : Int32) (x3 : Int32) (x5 : Int32) (x7 : Int32) (x8 : Int32) (y0 : Int32) (tc : STx) (Rd : SRd) (Sj : SSJ) (T1 : STx) (Pg : SPg) (Pt : SPt) (Mk : SMk) (Lk : SLk) (Ck : SCk) (Jd : SJd) (Ld : SLd) (Pr : SPr) {r : Int32 × STx × SRd} (h : m_Rd_readNumber_j258 n x1 x2 x3 x5 x7 x8 y0 tc Rd = some r) : o_At p l e rm_Rd_readNumber s m args below meth c (MQ below (o_Qx D o_cls (some (.int r.1)) (o_cw ad ca 1 Sj r.2.1 T1 r.2.2 Pg Pt Mk Lk Ck Jd Ld Pr) A) args s 0 0 A) o_cls D A 10 258 [.int y0] (o_cw ad ca 1 Sj tc T1 Rd Pg Pt Mk Lk Ck Jd Ld Pr) [(0, .ref (ad 23)), (1, .int x1), (2, .int x2), (3, .int x3), (5, .int x5), (7, .int x7), (8, .int x8)] := by
  unfold m_Rd_readNumber_j258 at h
  intro H locs ls hP hS hl
  have C0 := C
  obtain ⟨hx, hb, -, -, -, hown, hts, hK, -, -⟩ := C0
  refine lv_istore (lv' := [(6, .int y0), (0, .ref (ad 23)), (1, .int x1), (2, .int x2), (3, .int x3), (5, .int x5), (7, .int x7), (8, .int x8)]) hx hb d_Rd_readNumber_258 hl (by decide) rfl (fun ls hl => ?_)
  refine lv_iload hx hb d_Rd_readNumber_260 (lv_at hl 7 rfl) ?_
  refine lv_if_eq (tgt := 271) hx hb d_Rd_readNumber_262 (by decide) (fun c12 => ?_) (fun c12 => ?_)
  · replace h := o_tt c12 h
    refine lv_iload hx hb d_Rd_readNumber_271 (lv_at hl 6 rfl) ?_
    refine lv_istore (lv' := [(7, .int x7), (6, .int y0), (0, .ref (ad 23)), (1, .int x1), (2, .int x2), (3, .int x3), (5, .int x5), (8, .int x8)]) hx hb d_Rd_readNumber_273 hl (by decide) rfl (fun ls hl => ?_)
    exact w_Rd_readNumber_j275_0 hE C hDD n x1 x2 x3 x5 y0 x7 tc Rd Sj T1 Pg Pt Mk Lk Ck Jd Ld Pr h _ _ _ hP hS (lv_sub hl [2, 3, 4, 5, 6, 1, 0] rfl)
  · replace h := o_ff c12 h
    refine lv_iload hx hb d_Rd_readNumber_265 (lv_at hl 6 rfl) ?_
    refine lv_ineg hx hb d_Rd_readNumber_267 ?_
    refine lv_goto (tgt := 273) hx hb d_Rd_readNumber_268 (by decide) ?_
    refine lv_topi (fun x7_273 ex7_273 => ?_)
    replace h := o_nm_at ex7_273 h
    refine lv_istore (lv' := [(7, .int x7_273), (6, .int y0), (0, .ref (ad 23)), (1, .int x1), (2, .int x2), (3, .int x3), (5, .int x5), (8, .int x8)]) hx hb d_Rd_readNumber_273 hl (by decide) rfl (fun ls hl => ?_)
    exact w_Rd_readNumber_j275_0 hE C hDD n x1 x2 x3 x5 y0 x7_273 tc Rd Sj T1 Pg Pt Mk Lk Ck Jd Ld Pr h _ _ _ hP hS (lv_sub hl [2, 3, 4, 5, 6, 1, 0] rfl)
set_option maxHeartbeats 4000000 in
set_option maxRecDepth 100000 in
theorem w_Rd_readNumber_j207_0 {E : (Nat → Prop) → State → Heap → Prop} {p : Program} {l : Launch} {e : Env} {s : State} {m : MethodId} {args : Array Value} {below : List Frame} {meth : Method} {c : Code} {D : va_G} {ad kd sd vd xd : Nat → Nat} {ca : Nat → ClassId} {A : Nat → Prop} (hE : o_EK E kd sd vd xd) (C : o_Cx E p s m args meth c D o_cls (o_tys ca) "SchemaJudge$Reader" b_Rd_readNumber (some .boolean) 10 cc_Rd_readNumber A) (hDD : ∀ (rt : Nat) (Sj : SSJ) (T0 : STx) (T1 : STx) (Rd : SRd) (Pg : SPg) (Pt : SPt) (Mk : SMk) (Lk : SLk) (Ck : SCk) (Jd : SJd) (Ld : SLd) (Pr : SPr), va_D A (o_cw ad ca rt Sj T0 T1 Rd Pg Pt Mk Lk Ck Jd Ld Pr)) (n : Nat) (x1 : Int32) (x2 : Int32) (x3 : Int32) (x5 : Int32) (x6 : Int32) (x8 : Int32) (tc : STx) (Rd : SRd) (Sj : SSJ) (T1 : STx) (Pg : SPg) (Pt : SPt) (Mk : SMk) (Lk : SLk) (Ck : SCk) (Jd : SJd) (Ld : SLd) (Pr : SPr) {r : Int32 × STx × SRd} (h : m_Rd_readNumber_j207 n x1 x2 x3 x5 x6 x8 tc Rd = some r) : o_At p l e rm_Rd_readNumber s m args below meth c (MQ below (o_Qx D o_cls (some (.int r.1)) (o_cw ad ca 1 Sj r.2.1 T1 r.2.2 Pg Pt Mk Lk Ck Jd Ld Pr) A) args s 0 0 A) o_cls D A 10 207 [] (o_cw ad ca 1 Sj tc T1 Rd Pg Pt Mk Lk Ck Jd Ld Pr) [(0, .ref (ad 23)), (1, .int x1), (2, .int x2), (3, .int x3), (5, .int x5), (6, .int x6), (8, .int x8)] := by
  unfold m_Rd_readNumber_j207 at h
  intro H locs ls hP hS hl
  have C0 := C
  obtain ⟨hx, hb, -, -, -, hown, hts, hK, -, -⟩ := C0
  refine lv_aload_n hx hb d_Rd_readNumber_207 rfl (lv_at hl 0 rfl) ?_
  refine o_get (v := .int (Rd_position Rd)) C in_Rd hP 23 cw_23 rfl 3 (by decide) k_1_97 rfl rfl d_Rd_readNumber_208 ?_
  refine lv_topi (fun x9_211 ex9_211 => ?_)
  replace h := o_nm_at ex9_211 h
  refine lv_istore (lv' := [(9, .int x9_211), (0, .ref (ad 23)), (1, .int x1), (2, .int x2), (3, .int x3), (5, .int x5), (6, .int x6), (8, .int x8)]) hx hb d_Rd_readNumber_211 hl (by decide) rfl (fun ls hl => ?_)
  refine lv_aload_n hx hb d_Rd_readNumber_213 rfl (lv_at hl 1 rfl) ?_
  obtain ⟨q7, hq7, h⟩ := o_bd_some h
  refine o_V (st1 := [.int q7.1]) (w1 := (o_cw ad ca 1 Sj tc T1 q7.2 Pg Pt Mk Lk Ck Jd Ld Pr)) hE.1 C (c_Rd_readExponent hE l n Rd Sj tc T1 Pg Pt Mk Lk Ck Jd Ld Pr 1 hq7) hP (hDD _ _ _ _ _ _ _ _ _ _ _ _ _) hS hl.1 rfl cw_23 k_3_123 k_3_125 k_s_8 k_1_3 k_3_126 hv_Rd_readExponent rfl rfl ⟨(Nat.le_of_ble_eq_true rfl), (Nat.le_of_ble_eq_true rfl)⟩ rfl (Nat.le_of_ble_eq_true rfl) ⟨Nat.zero_le _, Nat.zero_le _⟩ rfl d_Rd_readNumber_214 (fun H locs hP hS => ?_)
  refine lv_istore (lv' := [(7, .int q7.1), (9, .int x9_211), (0, .ref (ad 23)), (1, .int x1), (2, .int x2), (3, .int x3), (5, .int x5), (6, .int x6), (8, .int x8)]) hx hb d_Rd_readNumber_217 hl (by decide) rfl (fun ls hl => ?_)
  refine lv_aload_n hx hb d_Rd_readNumber_219 rfl (lv_at hl 2 rfl) ?_
  refine o_get (v := .int (Rd_position q7.2)) C in_Rd hP 23 cw_23 rfl 3 (by decide) k_1_97 rfl rfl d_Rd_readNumber_220 ?_
  refine lv_iload hx hb d_Rd_readNumber_223 (lv_at hl 1 rfl) ?_
  refine lv_icmp_ne (tgt := 237) hx hb d_Rd_readNumber_225 (by decide) (fun c10 => ?_) (fun c10 => ?_)
  · replace h := o_ff c10 h
    refine lv_iload hx hb d_Rd_readNumber_237 (lv_at hl 7 rfl) ?_
    refine lv_if_eq (tgt := 257) hx hb d_Rd_readNumber_239 (by decide) (fun c11 => ?_) (fun c11 => ?_)
    · replace h := o_tt c11 h
      refine lv_iconst (v := (0:Int32)) hx hb d_Rd_readNumber_257 (by decide) ?_
      exact w_Rd_readNumber_j258_0 hE C hDD n x1 x2 x3 x5 q7.1 x8 (0:Int32) tc q7.2 Sj T1 Pg Pt Mk Lk Ck Jd Ld Pr h _ _ _ hP hS (lv_sub hl [2, 3, 4, 5, 6, 0, 8] rfl)
    · replace h := o_ff c11 h
      refine lv_aload_n hx hb d_Rd_readNumber_242 rfl (lv_at hl 2 rfl) ?_
      refine o_get (v := .int (Rd_position q7.2)) C in_Rd hP 23 cw_23 rfl 3 (by decide) k_1_97 rfl rfl d_Rd_readNumber_243 ?_
      refine lv_iload hx hb d_Rd_readNumber_246 (lv_at hl 1 rfl) ?_
      refine lv_isub hx hb d_Rd_readNumber_248 ?_
      refine lv_iconst (v := (3:Int32)) hx hb d_Rd_readNumber_249 (by decide) ?_
      refine lv_icmp_gt (tgt := 257) hx hb d_Rd_readNumber_250 (by decide) (fun c15 => ?_) (fun c15 => ?_)
      · replace h := o_tt c15 h
        refine lv_iconst (v := (0:Int32)) hx hb d_Rd_readNumber_257 (by decide) ?_
        exact w_Rd_readNumber_j258_0 hE C hDD n x1 x2 x3 x5 q7.1 x8 (0:Int32) tc q7.2 Sj T1 Pg Pt Mk Lk Ck Jd Ld Pr h _ _ _ hP hS (lv_sub hl [2, 3, 4, 5, 6, 0, 8] rfl)
      · replace h := o_ff c15 h
        refine lv_iconst (v := (1:Int32)) hx hb d_Rd_readNumber_253 (by decide) ?_
        refine lv_goto (tgt := 258) hx hb d_Rd_readNumber_254 (by decide) ?_
        exact w_Rd_readNumber_j258_0 hE C hDD n x1 x2 x3 x5 q7.1 x8 (1:Int32) tc q7.2 Sj T1 Pg Pt Mk Lk Ck Jd Ld Pr h _ _ _ hP hS (lv_sub hl [2, 3, 4, 5, 6, 0, 8] rfl)
  · replace h := o_tt c10 h
    refine lv_aload_n hx hb d_Rd_readNumber_228 rfl (lv_at hl 2 rfl) ?_
    refine lv_aload_n hx hb d_Rd_readNumber_229 rfl (lv_at hl 2 rfl) ?_
    refine o_get (v := .int (Rd_position q7.2)) C in_Rd hP 23 cw_23 rfl 3 (by decide) k_1_97 rfl rfl d_Rd_readNumber_230 ?_
    obtain ⟨q10, hq10, h⟩ := o_bd_some h
    refine o_V (st1 := [.int q10.1]) (w1 := (o_cw ad ca 1 Sj tc T1 q10.2 Pg Pt Mk Lk Ck Jd Ld Pr)) hE.1 C (c_Rd_refuse hE l (Rd_position q7.2) q7.2 Sj tc T1 Pg Pt Mk Lk Ck Jd Ld Pr 1 hq10) hP (hDD _ _ _ _ _ _ _ _ _ _ _ _ _) hS hl.1 rfl cw_23 k_3_48 k_3_50 k_s_4 k_1_3 k_3_51 hv_Rd_refuse rfl rfl ⟨(Nat.le_of_ble_eq_true rfl), (Nat.le_of_ble_eq_true rfl)⟩ rfl (Nat.le_of_ble_eq_true rfl) ⟨Nat.zero_le _, Nat.zero_le _⟩ rfl d_Rd_readNumber_233 (fun H locs hP hS => ?_)
    obtain ⟨g16, h⟩ := o_gd_some h
    cases h
    exact o_rz C (o_zb_nar g16) hP hS d_Rd_readNumber_236
set_option maxHeartbeats 4000000 in
set_option maxRecDepth 100000 in
theorem w_Rd_readNumber_j197_0 {E : (Nat → Prop) → State → Heap → Prop} {p : Program} {l : Launch} {e : Env} {s : State} {m : MethodId} {args : Array Value} {below : List Frame} {meth : Method} {c : Code} {D : va_G} {ad kd sd vd xd : Nat → Nat} {ca : Nat → ClassId} {A : Nat → Prop} (hE : o_EK E kd sd vd xd) (C : o_Cx E p s m args meth c D o_cls (o_tys ca) "SchemaJudge$Reader" b_Rd_readNumber (some .boolean) 10 cc_Rd_readNumber A) (hDD : ∀ (rt : Nat) (Sj : SSJ) (T0 : STx) (T1 : STx) (Rd : SRd) (Pg : SPg) (Pt : SPt) (Mk : SMk) (Lk : SLk) (Ck : SCk) (Jd : SJd) (Ld : SLd) (Pr : SPr), va_D A (o_cw ad ca rt Sj T0 T1 Rd Pg Pt Mk Lk Ck Jd Ld Pr)) (n : Nat) (x1 : Int32) (x2 : Int32) (x3 : Int32) (x5 : Int32) (x6 : Int32) (x8 : Int32) (tc : STx) (Rd : SRd) (Sj : SSJ) (T1 : STx) (Pg : SPg) (Pt : SPt) (Mk : SMk) (Lk : SLk) (Ck : SCk) (Jd : SJd) (Ld : SLd) (Pr : SPr) {r : Int32 × STx × SRd} (h : m_Rd_readNumber_j197 n x1 x2 x3 x5 x6 x8 tc Rd = some r) : o_At p l e rm_Rd_readNumber s m args below meth c (MQ below (o_Qx D o_cls (some (.int r.1)) (o_cw ad ca 1 Sj r.2.1 T1 r.2.2 Pg Pt Mk Lk Ck Jd Ld Pr) A) args s 0 0 A) o_cls D A 10 197 [] (o_cw ad ca 1 Sj tc T1 Rd Pg Pt Mk Lk Ck Jd Ld Pr) [(0, .ref (ad 23)), (1, .int x1), (2, .int x2), (3, .int x3), (5, .int x5), (6, .int x6), (8, .int x8)] := by
  unfold m_Rd_readNumber_j197 at h
  intro H locs ls hP hS hl
  have C0 := C
  obtain ⟨hx, hb, -, -, -, hown, hts, hK, -, -⟩ := C0
  refine lv_aload_n hx hb d_Rd_readNumber_197 rfl (lv_at hl 0 rfl) ?_
  refine lv_dup hx hb d_Rd_readNumber_198 rfl ?_
  refine o_get (v := .int (Rd_position Rd)) C in_Rd hP 23 cw_23 rfl 3 (by decide) k_1_97 rfl rfl d_Rd_readNumber_199 ?_
  refine lv_iconst (v := (1:Int32)) hx hb d_Rd_readNumber_202 (by decide) ?_
  refine lv_iadd hx hb d_Rd_readNumber_203 ?_
  refine o_put (v := .int ((Rd_position Rd) + (1:Int32))) (ty := .int) (w1 := (o_cw ad ca 1 Sj tc T1 (Rd_mk (Rd_words Rd) (Rd_wordCount Rd) ((Rd_position Rd) + (1:Int32)) (Rd_limit Rd) (Rd_wrongPlace Rd)) Pg Pt Mk Lk Ck Jd Ld Pr)) C in_Rd t_Rd t_Rd_ok n_Rd hP (hDD _ _ _ _ _ _ _ _ _ _ _ _ _) hS 23 cw_23 rfl 3 (by decide) k_1_97 rfl rfl (by decide +kernel) rfl rfl (Nat.le_of_ble_eq_true rfl) rfl d_Rd_readNumber_204 (fun H locs hP hS => ?_)
  exact w_Rd_readNumber_j207_0 hE C hDD n x1 x2 x3 x5 x6 x8 tc (Rd_mk (Rd_words Rd) (Rd_wordCount Rd) ((Rd_position Rd) + (1:Int32)) (Rd_limit Rd) (Rd_wrongPlace Rd)) Sj T1 Pg Pt Mk Lk Ck Jd Ld Pr h _ _ _ hP hS (lv_sub hl [0, 1, 2, 3, 4, 5, 6] rfl)
set_option maxHeartbeats 4000000 in
set_option maxRecDepth 100000 in
theorem w_Rd_readNumber_j181_0 {E : (Nat → Prop) → State → Heap → Prop} {p : Program} {l : Launch} {e : Env} {s : State} {m : MethodId} {args : Array Value} {below : List Frame} {meth : Method} {c : Code} {D : va_G} {ad kd sd vd xd : Nat → Nat} {ca : Nat → ClassId} {A : Nat → Prop} (hE : o_EK E kd sd vd xd) (C : o_Cx E p s m args meth c D o_cls (o_tys ca) "SchemaJudge$Reader" b_Rd_readNumber (some .boolean) 10 cc_Rd_readNumber A) (hDD : ∀ (rt : Nat) (Sj : SSJ) (T0 : STx) (T1 : STx) (Rd : SRd) (Pg : SPg) (Pt : SPt) (Mk : SMk) (Lk : SLk) (Ck : SCk) (Jd : SJd) (Ld : SLd) (Pr : SPr), va_D A (o_cw ad ca rt Sj T0 T1 Rd Pg Pt Mk Lk Ck Jd Ld Pr)) (n : Nat) (x1 : Int32) (x2 : Int32) (x3 : Int32) (x5 : Int32) (x6 : Int32) (y0 : Int32) (tc : STx) (Rd : SRd) (Sj : SSJ) (T1 : STx) (Pg : SPg) (Pt : SPt) (Mk : SMk) (Lk : SLk) (Ck : SCk) (Jd : SJd) (Ld : SLd) (Pr : SPr) {r : Int32 × STx × SRd} (h : m_Rd_readNumber_j181 n x1 x2 x3 x5 x6 y0 tc Rd = some r) : o_At p l e rm_Rd_readNumber s m args below meth c (MQ below (o_Qx D o_cls (some (.int r.1)) (o_cw ad ca 1 Sj r.2.1 T1 r.2.2 Pg Pt Mk Lk Ck Jd Ld Pr) A) args s 0 0 A) o_cls D A 10 181 [.int y0] (o_cw ad ca 1 Sj tc T1 Rd Pg Pt Mk Lk Ck Jd Ld Pr) [(0, .ref (ad 23)), (1, .int x1), (2, .int x2), (3, .int x3), (5, .int x5), (6, .int x6)] := by
  unfold m_Rd_readNumber_j181 at h
  intro H locs ls hP hS hl
  have C0 := C
  obtain ⟨hx, hb, -, -, -, hown, hts, hK, -, -⟩ := C0
  refine lv_istore (lv' := [(8, .int y0), (0, .ref (ad 23)), (1, .int x1), (2, .int x2), (3, .int x3), (5, .int x5), (6, .int x6)]) hx hb d_Rd_readNumber_181 hl (by decide) rfl (fun ls hl => ?_)
  refine lv_iload hx hb d_Rd_readNumber_183 (lv_at hl 0 rfl) ?_
  refine lv_if_ne (tgt := 197) hx hb d_Rd_readNumber_185 (by decide) (fun c9 => ?_) (fun c9 => ?_)
  · replace h := o_ff c9 h
    exact w_Rd_readNumber_j197_0 hE C hDD n x1 x2 x3 x5 x6 y0 tc Rd Sj T1 Pg Pt Mk Lk Ck Jd Ld Pr h _ _ _ hP hS (lv_sub hl [1, 2, 3, 4, 5, 6, 0] rfl)
  · replace h := o_tt c9 h
    refine lv_aload_n hx hb d_Rd_readNumber_188 rfl (lv_at hl 1 rfl) ?_
    obtain ⟨q11, hq11, h⟩ := o_bd_some h
    refine o_V (st1 := [.int q11]) (w1 := (o_cw ad ca 1 Sj tc T1 Rd Pg Pt Mk Lk Ck Jd Ld Pr)) hE.1 C (c_Rd_peek hE l Rd Sj tc T1 Pg Pt Mk Lk Ck Jd Ld Pr 1 hq11) hP (hDD _ _ _ _ _ _ _ _ _ _ _ _ _) hS hl.1 rfl cw_23 k_3_38 k_3_40 k_s_3 k_1_3 k_3_41 hv_Rd_peek rfl rfl ⟨(Nat.le_of_ble_eq_true rfl), (Nat.le_of_ble_eq_true rfl)⟩ rfl (Nat.le_of_ble_eq_true rfl) ⟨Nat.zero_le _, Nat.zero_le _⟩ rfl d_Rd_readNumber_189 (fun H locs hP hS => ?_)
    refine lv_bipush (v := (43:Int32)) hx hb d_Rd_readNumber_192 (by decide) ?_
    refine lv_icmp_ne (tgt := 207) hx hb d_Rd_readNumber_194 (by decide) (fun c17 => ?_) (fun c17 => ?_)
    · replace h := o_ff c17 h
      exact w_Rd_readNumber_j207_0 hE C hDD n x1 x2 x3 x5 x6 y0 tc Rd Sj T1 Pg Pt Mk Lk Ck Jd Ld Pr h _ _ _ hP hS (lv_sub hl [1, 2, 3, 4, 5, 6, 0] rfl)
    · replace h := o_tt c17 h
      exact w_Rd_readNumber_j197_0 hE C hDD n x1 x2 x3 x5 x6 y0 tc Rd Sj T1 Pg Pt Mk Lk Ck Jd Ld Pr h _ _ _ hP hS (lv_sub hl [1, 2, 3, 4, 5, 6, 0] rfl)
set_option maxHeartbeats 4000000 in
set_option maxRecDepth 100000 in
theorem w_Rd_readNumber_j157_0 {E : (Nat → Prop) → State → Heap → Prop} {p : Program} {l : Launch} {e : Env} {s : State} {m : MethodId} {args : Array Value} {below : List Frame} {meth : Method} {c : Code} {D : va_G} {ad kd sd vd xd : Nat → Nat} {ca : Nat → ClassId} {A : Nat → Prop} (hE : o_EK E kd sd vd xd) (C : o_Cx E p s m args meth c D o_cls (o_tys ca) "SchemaJudge$Reader" b_Rd_readNumber (some .boolean) 10 cc_Rd_readNumber A) (hDD : ∀ (rt : Nat) (Sj : SSJ) (T0 : STx) (T1 : STx) (Rd : SRd) (Pg : SPg) (Pt : SPt) (Mk : SMk) (Lk : SLk) (Ck : SCk) (Jd : SJd) (Ld : SLd) (Pr : SPr), va_D A (o_cw ad ca rt Sj T0 T1 Rd Pg Pt Mk Lk Ck Jd Ld Pr)) (n : Nat) (x1 : Int32) (x2 : Int32) (x3 : Int32) (x5 : Int32) (x6 : Int32) (tc : STx) (Rd : SRd) (Sj : SSJ) (T1 : STx) (Pg : SPg) (Pt : SPt) (Mk : SMk) (Lk : SLk) (Ck : SCk) (Jd : SJd) (Ld : SLd) (Pr : SPr) {r : Int32 × STx × SRd} (h : m_Rd_readNumber_j157 n x1 x2 x3 x5 x6 tc Rd = some r) : o_At p l e rm_Rd_readNumber s m args below meth c (MQ below (o_Qx D o_cls (some (.int r.1)) (o_cw ad ca 1 Sj r.2.1 T1 r.2.2 Pg Pt Mk Lk Ck Jd Ld Pr) A) args s 0 0 A) o_cls D A 10 157 [] (o_cw ad ca 1 Sj tc T1 Rd Pg Pt Mk Lk Ck Jd Ld Pr) [(0, .ref (ad 23)), (1, .int x1), (2, .int x2), (3, .int x3), (5, .int x5), (6, .int x6)] := by
  unfold m_Rd_readNumber_j157 at h
  intro H locs ls hP hS hl
  have C0 := C
  obtain ⟨hx, hb, -, -, -, hown, hts, hK, -, -⟩ := C0
  refine lv_aload_n hx hb d_Rd_readNumber_157 rfl (lv_at hl 0 rfl) ?_
  refine lv_dup hx hb d_Rd_readNumber_158 rfl ?_
  refine o_get (v := .int (Rd_position Rd)) C in_Rd hP 23 cw_23 rfl 3 (by decide) k_1_97 rfl rfl d_Rd_readNumber_159 ?_
  refine lv_iconst (v := (1:Int32)) hx hb d_Rd_readNumber_162 (by decide) ?_
  refine lv_iadd hx hb d_Rd_readNumber_163 ?_
  refine o_put (v := .int ((Rd_position Rd) + (1:Int32))) (ty := .int) (w1 := (o_cw ad ca 1 Sj tc T1 (Rd_mk (Rd_words Rd) (Rd_wordCount Rd) ((Rd_position Rd) + (1:Int32)) (Rd_limit Rd) (Rd_wrongPlace Rd)) Pg Pt Mk Lk Ck Jd Ld Pr)) C in_Rd t_Rd t_Rd_ok n_Rd hP (hDD _ _ _ _ _ _ _ _ _ _ _ _ _) hS 23 cw_23 rfl 3 (by decide) k_1_97 rfl rfl (by decide +kernel) rfl rfl (Nat.le_of_ble_eq_true rfl) rfl d_Rd_readNumber_164 (fun H locs hP hS => ?_)
  refine lv_aload_n hx hb d_Rd_readNumber_167 rfl (lv_at hl 0 rfl) ?_
  obtain ⟨q6, hq6, h⟩ := o_bd_some h
  refine o_V (st1 := [.int q6]) (w1 := (o_cw ad ca 1 Sj tc T1 (Rd_mk (Rd_words Rd) (Rd_wordCount Rd) ((Rd_position Rd) + (1:Int32)) (Rd_limit Rd) (Rd_wrongPlace Rd)) Pg Pt Mk Lk Ck Jd Ld Pr)) hE.1 C (c_Rd_peek hE l (Rd_mk (Rd_words Rd) (Rd_wordCount Rd) ((Rd_position Rd) + (1:Int32)) (Rd_limit Rd) (Rd_wrongPlace Rd)) Sj tc T1 Pg Pt Mk Lk Ck Jd Ld Pr 1 hq6) hP (hDD _ _ _ _ _ _ _ _ _ _ _ _ _) hS hl.1 rfl cw_23 k_3_38 k_3_40 k_s_3 k_1_3 k_3_41 hv_Rd_peek rfl rfl ⟨(Nat.le_of_ble_eq_true rfl), (Nat.le_of_ble_eq_true rfl)⟩ rfl (Nat.le_of_ble_eq_true rfl) ⟨Nat.zero_le _, Nat.zero_le _⟩ rfl d_Rd_readNumber_168 (fun H locs hP hS => ?_)
  refine lv_bipush (v := (45:Int32)) hx hb d_Rd_readNumber_171 (by decide) ?_
  refine lv_icmp_ne (tgt := 180) hx hb d_Rd_readNumber_173 (by decide) (fun c8 => ?_) (fun c8 => ?_)
  · replace h := o_ff c8 h
    refine lv_iconst (v := (0:Int32)) hx hb d_Rd_readNumber_180 (by decide) ?_
    exact w_Rd_readNumber_j181_0 hE C hDD n x1 x2 x3 x5 x6 (0:Int32) tc (Rd_mk (Rd_words Rd) (Rd_wordCount Rd) ((Rd_position Rd) + (1:Int32)) (Rd_limit Rd) (Rd_wrongPlace Rd)) Sj T1 Pg Pt Mk Lk Ck Jd Ld Pr h _ _ _ hP hS (lv_sub hl [0, 1, 2, 3, 4, 5] rfl)
  · replace h := o_tt c8 h
    refine lv_iconst (v := (1:Int32)) hx hb d_Rd_readNumber_176 (by decide) ?_
    refine lv_goto (tgt := 181) hx hb d_Rd_readNumber_177 (by decide) ?_
    exact w_Rd_readNumber_j181_0 hE C hDD n x1 x2 x3 x5 x6 (1:Int32) tc (Rd_mk (Rd_words Rd) (Rd_wordCount Rd) ((Rd_position Rd) + (1:Int32)) (Rd_limit Rd) (Rd_wrongPlace Rd)) Sj T1 Pg Pt Mk Lk Ck Jd Ld Pr h _ _ _ hP hS (lv_sub hl [0, 1, 2, 3, 4, 5] rfl)
set_option maxHeartbeats 4000000 in
set_option maxRecDepth 100000 in
theorem w_Rd_readNumber_j134_0 {E : (Nat → Prop) → State → Heap → Prop} {p : Program} {l : Launch} {e : Env} {s : State} {m : MethodId} {args : Array Value} {below : List Frame} {meth : Method} {c : Code} {D : va_G} {ad kd sd vd xd : Nat → Nat} {ca : Nat → ClassId} {A : Nat → Prop} (hE : o_EK E kd sd vd xd) (C : o_Cx E p s m args meth c D o_cls (o_tys ca) "SchemaJudge$Reader" b_Rd_readNumber (some .boolean) 10 cc_Rd_readNumber A) (hDD : ∀ (rt : Nat) (Sj : SSJ) (T0 : STx) (T1 : STx) (Rd : SRd) (Pg : SPg) (Pt : SPt) (Mk : SMk) (Lk : SLk) (Ck : SCk) (Jd : SJd) (Ld : SLd) (Pr : SPr), va_D A (o_cw ad ca rt Sj T0 T1 Rd Pg Pt Mk Lk Ck Jd Ld Pr)) (n : Nat) (x1 : Int32) (x2 : Int32) (x3 : Int32) (x5 : Int32) (y0 : Int32) (tc : STx) (Rd : SRd) (Sj : SSJ) (T1 : STx) (Pg : SPg) (Pt : SPt) (Mk : SMk) (Lk : SLk) (Ck : SCk) (Jd : SJd) (Ld : SLd) (Pr : SPr) {r : Int32 × STx × SRd} (h : m_Rd_readNumber_j134 n x1 x2 x3 x5 y0 tc Rd = some r) : o_At p l e rm_Rd_readNumber s m args below meth c (MQ below (o_Qx D o_cls (some (.int r.1)) (o_cw ad ca 1 Sj r.2.1 T1 r.2.2 Pg Pt Mk Lk Ck Jd Ld Pr) A) args s 0 0 A) o_cls D A 10 134 [.int y0] (o_cw ad ca 1 Sj tc T1 Rd Pg Pt Mk Lk Ck Jd Ld Pr) [(0, .ref (ad 23)), (1, .int x1), (2, .int x2), (3, .int x3), (5, .int x5)] := by
  unfold m_Rd_readNumber_j134 at h
  intro H locs ls hP hS hl
  have C0 := C
  obtain ⟨hx, hb, -, -, -, hown, hts, hK, -, -⟩ := C0
  refine lv_istore (lv' := [(6, .int y0), (0, .ref (ad 23)), (1, .int x1), (2, .int x2), (3, .int x3), (5, .int x5)]) hx hb d_Rd_readNumber_134 hl (by decide) rfl (fun ls hl => ?_)
  refine lv_iconst (v := (0:Int32)) hx hb d_Rd_readNumber_136 (by decide) ?_
  refine lv_istore (lv' := [(7, .int (0:Int32)), (6, .int y0), (0, .ref (ad 23)), (1, .int x1), (2, .int x2), (3, .int x3), (5, .int x5)]) hx hb d_Rd_readNumber_137 hl (by decide) rfl (fun ls hl => ?_)
  refine lv_aload_n hx hb d_Rd_readNumber_139 rfl (lv_at hl 2 rfl) ?_
  obtain ⟨q5, hq5, h⟩ := o_bd_some h
  refine o_V (st1 := [.int q5]) (w1 := (o_cw ad ca 1 Sj tc T1 Rd Pg Pt Mk Lk Ck Jd Ld Pr)) hE.1 C (c_Rd_peek hE l Rd Sj tc T1 Pg Pt Mk Lk Ck Jd Ld Pr 1 hq5) hP (hDD _ _ _ _ _ _ _ _ _ _ _ _ _) hS hl.1 rfl cw_23 k_3_38 k_3_40 k_s_3 k_1_3 k_3_41 hv_Rd_peek rfl rfl ⟨(Nat.le_of_ble_eq_true rfl), (Nat.le_of_ble_eq_true rfl)⟩ rfl (Nat.le_of_ble_eq_true rfl) ⟨Nat.zero_le _, Nat.zero_le _⟩ rfl d_Rd_readNumber_140 (fun H locs hP hS => ?_)
  refine lv_bipush (v := (101:Int32)) hx hb d_Rd_readNumber_143 (by decide) ?_
  refine lv_icmp_eq (tgt := 157) hx hb d_Rd_readNumber_145 (by decide) (fun c7 => ?_) (fun c7 => ?_)
  · replace h := o_tt c7 h
    exact w_Rd_readNumber_j157_0 hE C hDD n x1 x2 x3 x5 y0 tc Rd Sj T1 Pg Pt Mk Lk Ck Jd Ld Pr h _ _ _ hP hS (lv_sub hl [2, 3, 4, 5, 6, 1] rfl)
  · replace h := o_ff c7 h
    refine lv_aload_n hx hb d_Rd_readNumber_148 rfl (lv_at hl 2 rfl) ?_
    obtain ⟨q12, hq12, h⟩ := o_bd_some h
    refine o_V (st1 := [.int q12]) (w1 := (o_cw ad ca 1 Sj tc T1 Rd Pg Pt Mk Lk Ck Jd Ld Pr)) hE.1 C (c_Rd_peek hE l Rd Sj tc T1 Pg Pt Mk Lk Ck Jd Ld Pr 1 hq12) hP (hDD _ _ _ _ _ _ _ _ _ _ _ _ _) hS hl.1 rfl cw_23 k_3_38 k_3_40 k_s_3 k_1_3 k_3_41 hv_Rd_peek rfl rfl ⟨(Nat.le_of_ble_eq_true rfl), (Nat.le_of_ble_eq_true rfl)⟩ rfl (Nat.le_of_ble_eq_true rfl) ⟨Nat.zero_le _, Nat.zero_le _⟩ rfl d_Rd_readNumber_149 (fun H locs hP hS => ?_)
    refine lv_bipush (v := (69:Int32)) hx hb d_Rd_readNumber_152 (by decide) ?_
    refine lv_icmp_ne (tgt := 275) hx hb d_Rd_readNumber_154 (by decide) (fun c18 => ?_) (fun c18 => ?_)
    · replace h := o_ff c18 h
      exact w_Rd_readNumber_j275_0 hE C hDD n x1 x2 x3 x5 y0 (0:Int32) tc Rd Sj T1 Pg Pt Mk Lk Ck Jd Ld Pr h _ _ _ hP hS (lv_sub hl [2, 3, 4, 5, 6, 1, 0] rfl)
    · replace h := o_tt c18 h
      exact w_Rd_readNumber_j157_0 hE C hDD n x1 x2 x3 x5 y0 tc Rd Sj T1 Pg Pt Mk Lk Ck Jd Ld Pr h _ _ _ hP hS (lv_sub hl [2, 3, 4, 5, 6, 1] rfl)
set_option maxHeartbeats 4000000 in
set_option maxRecDepth 100000 in
theorem w_Rd_readNumber_j119_0 {E : (Nat → Prop) → State → Heap → Prop} {p : Program} {l : Launch} {e : Env} {s : State} {m : MethodId} {args : Array Value} {below : List Frame} {meth : Method} {c : Code} {D : va_G} {ad kd sd vd xd : Nat → Nat} {ca : Nat → ClassId} {A : Nat → Prop} (hE : o_EK E kd sd vd xd) (C : o_Cx E p s m args meth c D o_cls (o_tys ca) "SchemaJudge$Reader" b_Rd_readNumber (some .boolean) 10 cc_Rd_readNumber A) (hDD : ∀ (rt : Nat) (Sj : SSJ) (T0 : STx) (T1 : STx) (Rd : SRd) (Pg : SPg) (Pt : SPt) (Mk : SMk) (Lk : SLk) (Ck : SCk) (Jd : SJd) (Ld : SLd) (Pr : SPr), va_D A (o_cw ad ca rt Sj T0 T1 Rd Pg Pt Mk Lk Ck Jd Ld Pr)) (n : Nat) (x1 : Int32) (x2 : Int32) (x3 : Int32) (x4 : Int32) (x5 : Int32) (tc : STx) (Rd : SRd) (Sj : SSJ) (T1 : STx) (Pg : SPg) (Pt : SPt) (Mk : SMk) (Lk : SLk) (Ck : SCk) (Jd : SJd) (Ld : SLd) (Pr : SPr) {r : Int32 × STx × SRd} (h : m_Rd_readNumber_j119 n x1 x2 x3 x4 x5 tc Rd = some r) : o_At p l e rm_Rd_readNumber s m args below meth c (MQ below (o_Qx D o_cls (some (.int r.1)) (o_cw ad ca 1 Sj r.2.1 T1 r.2.2 Pg Pt Mk Lk Ck Jd Ld Pr) A) args s 0 0 A) o_cls D A 10 119 [] (o_cw ad ca 1 Sj tc T1 Rd Pg Pt Mk Lk Ck Jd Ld Pr) [(0, .ref (ad 23)), (1, .int x1), (2, .int x2), (3, .int x3), (4, .int x4), (5, .int x5)] := by
  unfold m_Rd_readNumber_j119 at h
  intro H locs ls hP hS hl
  have C0 := C
  obtain ⟨hx, hb, -, -, -, hown, hts, hK, -, -⟩ := C0
  refine lv_iload hx hb d_Rd_readNumber_119 (lv_at hl 4 rfl) ?_
  refine lv_iload hx hb d_Rd_readNumber_121 (lv_at hl 5 rfl) ?_
  refine lv_iadd hx hb d_Rd_readNumber_123 ?_
  refine lv_bipush (v := (60:Int32)) hx hb d_Rd_readNumber_124 (by decide) ?_
  refine lv_icmp_gt (tgt := 133) hx hb d_Rd_readNumber_126 (by decide) (fun c6 => ?_) (fun c6 => ?_)
  · replace h := o_tt c6 h
    refine lv_iconst (v := (0:Int32)) hx hb d_Rd_readNumber_133 (by decide) ?_
    exact w_Rd_readNumber_j134_0 hE C hDD n x1 x2 x3 x5 (0:Int32) tc Rd Sj T1 Pg Pt Mk Lk Ck Jd Ld Pr h _ _ _ hP hS (lv_sub hl [0, 1, 2, 3, 5] rfl)
  · replace h := o_ff c6 h
    refine lv_iconst (v := (1:Int32)) hx hb d_Rd_readNumber_129 (by decide) ?_
    refine lv_goto (tgt := 134) hx hb d_Rd_readNumber_130 (by decide) ?_
    exact w_Rd_readNumber_j134_0 hE C hDD n x1 x2 x3 x5 (1:Int32) tc Rd Sj T1 Pg Pt Mk Lk Ck Jd Ld Pr h _ _ _ hP hS (lv_sub hl [0, 1, 2, 3, 5] rfl)
set_option maxHeartbeats 4000000 in
set_option maxRecDepth 100000 in
theorem w_Rd_readNumber_j58_0 {E : (Nat → Prop) → State → Heap → Prop} {p : Program} {l : Launch} {e : Env} {s : State} {m : MethodId} {args : Array Value} {below : List Frame} {meth : Method} {c : Code} {D : va_G} {ad kd sd vd xd : Nat → Nat} {ca : Nat → ClassId} {A : Nat → Prop} (hE : o_EK E kd sd vd xd) (C : o_Cx E p s m args meth c D o_cls (o_tys ca) "SchemaJudge$Reader" b_Rd_readNumber (some .boolean) 10 cc_Rd_readNumber A) (hDD : ∀ (rt : Nat) (Sj : SSJ) (T0 : STx) (T1 : STx) (Rd : SRd) (Pg : SPg) (Pt : SPt) (Mk : SMk) (Lk : SLk) (Ck : SCk) (Jd : SJd) (Ld : SLd) (Pr : SPr), va_D A (o_cw ad ca rt Sj T0 T1 Rd Pg Pt Mk Lk Ck Jd Ld Pr)) (n : Nat) (x1 : Int32) (x2 : Int32) (x3 : Int32) (y0 : Int32) (tc : STx) (Rd : SRd) (Sj : SSJ) (T1 : STx) (Pg : SPg) (Pt : SPt) (Mk : SMk) (Lk : SLk) (Ck : SCk) (Jd : SJd) (Ld : SLd) (Pr : SPr) {r : Int32 × STx × SRd} (h : m_Rd_readNumber_j58 n x1 x2 x3 y0 tc Rd = some r) : o_At p l e rm_Rd_readNumber s m args below meth c (MQ below (o_Qx D o_cls (some (.int r.1)) (o_cw ad ca 1 Sj r.2.1 T1 r.2.2 Pg Pt Mk Lk Ck Jd Ld Pr) A) args s 0 0 A) o_cls D A 10 58 [.int y0] (o_cw ad ca 1 Sj tc T1 Rd Pg Pt Mk Lk Ck Jd Ld Pr) [(0, .ref (ad 23)), (1, .int x1), (2, .int x2), (3, .int x3)] := by
  unfold m_Rd_readNumber_j58 at h
  intro H locs ls hP hS hl
  have C0 := C
  obtain ⟨hx, hb, -, -, -, hown, hts, hK, -, -⟩ := C0
  refine lv_istore (lv' := [(4, .int y0), (0, .ref (ad 23)), (1, .int x1), (2, .int x2), (3, .int x3)]) hx hb d_Rd_readNumber_58 hl (by decide) rfl (fun ls hl => ?_)
  refine lv_iload hx hb d_Rd_readNumber_60 (lv_at hl 0 rfl) ?_
  refine lv_if_ne (tgt := 74) hx hb d_Rd_readNumber_62 (by decide) (fun c4 => ?_) (fun c4 => ?_)
  · replace h := o_ff c4 h
    refine lv_iconst (v := (0:Int32)) hx hb d_Rd_readNumber_74 (by decide) ?_
    refine lv_istore (lv' := [(5, .int (0:Int32)), (4, .int y0), (0, .ref (ad 23)), (1, .int x1), (2, .int x2), (3, .int x3)]) hx hb d_Rd_readNumber_75 hl (by decide) rfl (fun ls hl => ?_)
    refine lv_aload_n hx hb d_Rd_readNumber_77 rfl (lv_at hl 2 rfl) ?_
    obtain ⟨q4, hq4, h⟩ := o_bd_some h
    refine o_V (st1 := [.int q4]) (w1 := (o_cw ad ca 1 Sj tc T1 Rd Pg Pt Mk Lk Ck Jd Ld Pr)) hE.1 C (c_Rd_peek hE l Rd Sj tc T1 Pg Pt Mk Lk Ck Jd Ld Pr 1 hq4) hP (hDD _ _ _ _ _ _ _ _ _ _ _ _ _) hS hl.1 rfl cw_23 k_3_38 k_3_40 k_s_3 k_1_3 k_3_41 hv_Rd_peek rfl rfl ⟨(Nat.le_of_ble_eq_true rfl), (Nat.le_of_ble_eq_true rfl)⟩ rfl (Nat.le_of_ble_eq_true rfl) ⟨Nat.zero_le _, Nat.zero_le _⟩ rfl d_Rd_readNumber_78 (fun H locs hP hS => ?_)
    refine lv_bipush (v := (46:Int32)) hx hb d_Rd_readNumber_81 (by decide) ?_
    refine lv_icmp_ne (tgt := 119) hx hb d_Rd_readNumber_83 (by decide) (fun c5 => ?_) (fun c5 => ?_)
    · replace h := o_ff c5 h
      exact w_Rd_readNumber_j119_0 hE C hDD n x1 x2 x3 y0 (0:Int32) tc Rd Sj T1 Pg Pt Mk Lk Ck Jd Ld Pr h _ _ _ hP hS (lv_sub hl [2, 3, 4, 5, 1, 0] rfl)
    · replace h := o_tt c5 h
      refine lv_aload_n hx hb d_Rd_readNumber_86 rfl (lv_at hl 2 rfl) ?_
      refine lv_dup hx hb d_Rd_readNumber_87 rfl ?_
      refine o_get (v := .int (Rd_position Rd)) C in_Rd hP 23 cw_23 rfl 3 (by decide) k_1_97 rfl rfl d_Rd_readNumber_88 ?_
      refine lv_iconst (v := (1:Int32)) hx hb d_Rd_readNumber_91 (by decide) ?_
      refine lv_iadd hx hb d_Rd_readNumber_92 ?_
      refine o_put (v := .int ((Rd_position Rd) + (1:Int32))) (ty := .int) (w1 := (o_cw ad ca 1 Sj tc T1 (Rd_mk (Rd_words Rd) (Rd_wordCount Rd) ((Rd_position Rd) + (1:Int32)) (Rd_limit Rd) (Rd_wrongPlace Rd)) Pg Pt Mk Lk Ck Jd Ld Pr)) C in_Rd t_Rd t_Rd_ok n_Rd hP (hDD _ _ _ _ _ _ _ _ _ _ _ _ _) hS 23 cw_23 rfl 3 (by decide) k_1_97 rfl rfl (by decide +kernel) rfl rfl (Nat.le_of_ble_eq_true rfl) rfl d_Rd_readNumber_93 (fun H locs hP hS => ?_)
      refine lv_aload_n hx hb d_Rd_readNumber_96 rfl (lv_at hl 2 rfl) ?_
      refine lv_sipush (v := (8192:Int32)) hx hb d_Rd_readNumber_97 (by decide) ?_
      obtain ⟨q13, hq13, h⟩ := o_bd_some h
      refine o_V (st1 := [.int q13.1]) (w1 := (o_cw ad ca 1 Sj q13.2.1 T1 q13.2.2 Pg Pt Mk Lk Ck Jd Ld Pr)) hE.1 C (c_Rd_readDigits_0 hE l n (8192:Int32) tc (Rd_mk (Rd_words Rd) (Rd_wordCount Rd) ((Rd_position Rd) + (1:Int32)) (Rd_limit Rd) (Rd_wrongPlace Rd)) Sj T1 Pg Pt Mk Lk Ck Jd Ld Pr hq13) hP (hDD _ _ _ _ _ _ _ _ _ _ _ _ _) hS hl.1 rfl cw_23 k_3_115 k_3_117 k_s_7 k_1_3 k_3_118 hv_Rd_readDigits rfl rfl ⟨(Nat.le_of_ble_eq_true rfl), (Nat.le_of_ble_eq_true rfl)⟩ rfl (Nat.le_of_ble_eq_true rfl) ⟨Nat.zero_le _, Nat.zero_le _⟩ rfl d_Rd_readNumber_100 (fun H locs hP hS => ?_)
      refine lv_istore (lv' := [(5, .int q13.1), (4, .int y0), (0, .ref (ad 23)), (1, .int x1), (2, .int x2), (3, .int x3)]) hx hb d_Rd_readNumber_103 hl (by decide) rfl (fun ls hl => ?_)
      refine lv_iload hx hb d_Rd_readNumber_105 (lv_at hl 0 rfl) ?_
      refine lv_if_ne (tgt := 119) hx hb d_Rd_readNumber_107 (by decide) (fun c19 => ?_) (fun c19 => ?_)
      · replace h := o_ff c19 h
        exact w_Rd_readNumber_j119_0 hE C hDD n x1 x2 x3 y0 q13.1 q13.2.1 q13.2.2 Sj T1 Pg Pt Mk Lk Ck Jd Ld Pr h _ _ _ hP hS (lv_sub hl [2, 3, 4, 5, 1, 0] rfl)
      · replace h := o_tt c19 h
        refine lv_aload_n hx hb d_Rd_readNumber_110 rfl (lv_at hl 2 rfl) ?_
        refine lv_aload_n hx hb d_Rd_readNumber_111 rfl (lv_at hl 2 rfl) ?_
        refine o_get (v := .int (Rd_position q13.2.2)) C in_Rd hP 23 cw_23 rfl 3 (by decide) k_1_97 rfl rfl d_Rd_readNumber_112 ?_
        obtain ⟨q14, hq14, h⟩ := o_bd_some h
        refine o_V (st1 := [.int q14.1]) (w1 := (o_cw ad ca 1 Sj q13.2.1 T1 q14.2 Pg Pt Mk Lk Ck Jd Ld Pr)) hE.1 C (c_Rd_refuse hE l (Rd_position q13.2.2) q13.2.2 Sj q13.2.1 T1 Pg Pt Mk Lk Ck Jd Ld Pr 1 hq14) hP (hDD _ _ _ _ _ _ _ _ _ _ _ _ _) hS hl.1 rfl cw_23 k_3_48 k_3_50 k_s_4 k_1_3 k_3_51 hv_Rd_refuse rfl rfl ⟨(Nat.le_of_ble_eq_true rfl), (Nat.le_of_ble_eq_true rfl)⟩ rfl (Nat.le_of_ble_eq_true rfl) ⟨Nat.zero_le _, Nat.zero_le _⟩ rfl d_Rd_readNumber_115 (fun H locs hP hS => ?_)
        obtain ⟨g20, h⟩ := o_gd_some h
        cases h
        exact o_rz C (o_zb_nar g20) hP hS d_Rd_readNumber_118
  · replace h := o_tt c4 h
    refine lv_aload_n hx hb d_Rd_readNumber_65 rfl (lv_at hl 1 rfl) ?_
    refine lv_aload_n hx hb d_Rd_readNumber_66 rfl (lv_at hl 1 rfl) ?_
    refine o_get (v := .int (Rd_position Rd)) C in_Rd hP 23 cw_23 rfl 3 (by decide) k_1_97 rfl rfl d_Rd_readNumber_67 ?_
    obtain ⟨q15, hq15, h⟩ := o_bd_some h
    refine o_V (st1 := [.int q15.1]) (w1 := (o_cw ad ca 1 Sj tc T1 q15.2 Pg Pt Mk Lk Ck Jd Ld Pr)) hE.1 C (c_Rd_refuse hE l (Rd_position Rd) Rd Sj tc T1 Pg Pt Mk Lk Ck Jd Ld Pr 1 hq15) hP (hDD _ _ _ _ _ _ _ _ _ _ _ _ _) hS hl.1 rfl cw_23 k_3_48 k_3_50 k_s_4 k_1_3 k_3_51 hv_Rd_refuse rfl rfl ⟨(Nat.le_of_ble_eq_true rfl), (Nat.le_of_ble_eq_true rfl)⟩ rfl (Nat.le_of_ble_eq_true rfl) ⟨Nat.zero_le _, Nat.zero_le _⟩ rfl d_Rd_readNumber_70 (fun H locs hP hS => ?_)
    obtain ⟨g21, h⟩ := o_gd_some h
    cases h
    exact o_rz C (o_zb_nar g21) hP hS d_Rd_readNumber_73
set_option maxHeartbeats 4000000 in
set_option maxRecDepth 100000 in
theorem w_Rd_readNumber_j34_0 {E : (Nat → Prop) → State → Heap → Prop} {p : Program} {l : Launch} {e : Env} {s : State} {m : MethodId} {args : Array Value} {below : List Frame} {meth : Method} {c : Code} {D : va_G} {ad kd sd vd xd : Nat → Nat} {ca : Nat → ClassId} {A : Nat → Prop} (hE : o_EK E kd sd vd xd) (C : o_Cx E p s m args meth c D o_cls (o_tys ca) "SchemaJudge$Reader" b_Rd_readNumber (some .boolean) 10 cc_Rd_readNumber A) (hDD : ∀ (rt : Nat) (Sj : SSJ) (T0 : STx) (T1 : STx) (Rd : SRd) (Pg : SPg) (Pt : SPt) (Mk : SMk) (Lk : SLk) (Ck : SCk) (Jd : SJd) (Ld : SLd) (Pr : SPr), va_D A (o_cw ad ca rt Sj T0 T1 Rd Pg Pt Mk Lk Ck Jd Ld Pr)) (n : Nat) (x1 : Int32) (x2 : Int32) (x3 : Int32) (tc : STx) (Rd : SRd) (Sj : SSJ) (T1 : STx) (Pg : SPg) (Pt : SPt) (Mk : SMk) (Lk : SLk) (Ck : SCk) (Jd : SJd) (Ld : SLd) (Pr : SPr) {r : Int32 × STx × SRd} (h : m_Rd_readNumber_j34 n x1 x2 x3 tc Rd = some r) : o_At p l e rm_Rd_readNumber s m args below meth c (MQ below (o_Qx D o_cls (some (.int r.1)) (o_cw ad ca 1 Sj r.2.1 T1 r.2.2 Pg Pt Mk Lk Ck Jd Ld Pr) A) args s 0 0 A) o_cls D A 10 34 [] (o_cw ad ca 1 Sj tc T1 Rd Pg Pt Mk Lk Ck Jd Ld Pr) [(0, .ref (ad 23)), (1, .int x1), (2, .int x2), (3, .int x3)] := by
  unfold m_Rd_readNumber_j34 at h
  intro H locs ls hP hS hl
  have C0 := C
  obtain ⟨hx, hb, -, -, -, hown, hts, hK, -, -⟩ := C0
  refine lv_aload_n hx hb d_Rd_readNumber_34 rfl (lv_at hl 0 rfl) ?_
  obtain ⟨q2, hq2, h⟩ := o_bd_some h
  refine o_V (st1 := [.int q2]) (w1 := (o_cw ad ca 1 Sj tc T1 Rd Pg Pt Mk Lk Ck Jd Ld Pr)) hE.1 C (c_Rd_peek hE l Rd Sj tc T1 Pg Pt Mk Lk Ck Jd Ld Pr 1 hq2) hP (hDD _ _ _ _ _ _ _ _ _ _ _ _ _) hS hl.1 rfl cw_23 k_3_38 k_3_40 k_s_3 k_1_3 k_3_41 hv_Rd_peek rfl rfl ⟨(Nat.le_of_ble_eq_true rfl), (Nat.le_of_ble_eq_true rfl)⟩ rfl (Nat.le_of_ble_eq_true rfl) ⟨Nat.zero_le _, Nat.zero_le _⟩ rfl d_Rd_readNumber_35 (fun H locs hP hS => ?_)
  refine lv_bipush (v := (48:Int32)) hx hb d_Rd_readNumber_38 (by decide) ?_
  refine lv_icmp_ne (tgt := 51) hx hb d_Rd_readNumber_40 (by decide) (fun c3 => ?_) (fun c3 => ?_)
  · replace h := o_ff c3 h
    refine lv_aload_n hx hb d_Rd_readNumber_51 rfl (lv_at hl 0 rfl) ?_
    refine lv_sipush (v := (8192:Int32)) hx hb d_Rd_readNumber_52 (by decide) ?_
    obtain ⟨q3, hq3, h⟩ := o_bd_some h
    refine o_V (st1 := [.int q3.1]) (w1 := (o_cw ad ca 1 Sj q3.2.1 T1 q3.2.2 Pg Pt Mk Lk Ck Jd Ld Pr)) hE.1 C (c_Rd_readDigits_0 hE l n (8192:Int32) tc Rd Sj T1 Pg Pt Mk Lk Ck Jd Ld Pr hq3) hP (hDD _ _ _ _ _ _ _ _ _ _ _ _ _) hS hl.1 rfl cw_23 k_3_115 k_3_117 k_s_7 k_1_3 k_3_118 hv_Rd_readDigits rfl rfl ⟨(Nat.le_of_ble_eq_true rfl), (Nat.le_of_ble_eq_true rfl)⟩ rfl (Nat.le_of_ble_eq_true rfl) ⟨Nat.zero_le _, Nat.zero_le _⟩ rfl d_Rd_readNumber_55 (fun H locs hP hS => ?_)
    exact w_Rd_readNumber_j58_0 hE C hDD n x1 x2 x3 q3.1 q3.2.1 q3.2.2 Sj T1 Pg Pt Mk Lk Ck Jd Ld Pr h _ _ _ hP hS (lv_sub hl [0, 1, 2, 3] rfl)
  · replace h := o_tt c3 h
    refine lv_aload_n hx hb d_Rd_readNumber_43 rfl (lv_at hl 0 rfl) ?_
    refine lv_iconst (v := (1:Int32)) hx hb d_Rd_readNumber_44 (by decide) ?_
    obtain ⟨q16, hq16, h⟩ := o_bd_some h
    refine o_V (st1 := [.int q16.1]) (w1 := (o_cw ad ca 1 Sj q16.2.1 T1 q16.2.2 Pg Pt Mk Lk Ck Jd Ld Pr)) hE.1 C (c_Rd_readDigits_0 hE l n (1:Int32) tc Rd Sj T1 Pg Pt Mk Lk Ck Jd Ld Pr hq16) hP (hDD _ _ _ _ _ _ _ _ _ _ _ _ _) hS hl.1 rfl cw_23 k_3_115 k_3_117 k_s_7 k_1_3 k_3_118 hv_Rd_readDigits rfl rfl ⟨(Nat.le_of_ble_eq_true rfl), (Nat.le_of_ble_eq_true rfl)⟩ rfl (Nat.le_of_ble_eq_true rfl) ⟨Nat.zero_le _, Nat.zero_le _⟩ rfl d_Rd_readNumber_45 (fun H locs hP hS => ?_)
    refine lv_goto (tgt := 58) hx hb d_Rd_readNumber_48 (by decide) ?_
    exact w_Rd_readNumber_j58_0 hE C hDD n x1 x2 x3 q16.1 q16.2.1 q16.2.2 Sj T1 Pg Pt Mk Lk Ck Jd Ld Pr h _ _ _ hP hS (lv_sub hl [0, 1, 2, 3] rfl)
set_option maxHeartbeats 4000000 in
set_option maxRecDepth 100000 in
theorem w_Rd_readNumber_j19_0 {E : (Nat → Prop) → State → Heap → Prop} {p : Program} {l : Launch} {e : Env} {s : State} {m : MethodId} {args : Array Value} {below : List Frame} {meth : Method} {c : Code} {D : va_G} {ad kd sd vd xd : Nat → Nat} {ca : Nat → ClassId} {A : Nat → Prop} (hE : o_EK E kd sd vd xd) (C : o_Cx E p s m args meth c D o_cls (o_tys ca) "SchemaJudge$Reader" b_Rd_readNumber (some .boolean) 10 cc_Rd_readNumber A) (hDD : ∀ (rt : Nat) (Sj : SSJ) (T0 : STx) (T1 : STx) (Rd : SRd) (Pg : SPg) (Pt : SPt) (Mk : SMk) (Lk : SLk) (Ck : SCk) (Jd : SJd) (Ld : SLd) (Pr : SPr), va_D A (o_cw ad ca rt Sj T0 T1 Rd Pg Pt Mk Lk Ck Jd Ld Pr)) (n : Nat) (x1 : Int32) (x2 : Int32) (y0 : Int32) (tc : STx) (Rd : SRd) (Sj : SSJ) (T1 : STx) (Pg : SPg) (Pt : SPt) (Mk : SMk) (Lk : SLk) (Ck : SCk) (Jd : SJd) (Ld : SLd) (Pr : SPr) {r : Int32 × STx × SRd} (h : m_Rd_readNumber_j19 n x1 x2 y0 tc Rd = some r) : o_At p l e rm_Rd_readNumber s m args below meth c (MQ below (o_Qx D o_cls (some (.int r.1)) (o_cw ad ca 1 Sj r.2.1 T1 r.2.2 Pg Pt Mk Lk Ck Jd Ld Pr) A) args s 0 0 A) o_cls D A 10 19 [.int y0] (o_cw ad ca 1 Sj tc T1 Rd Pg Pt Mk Lk Ck Jd Ld Pr) [(0, .ref (ad 23)), (1, .int x1), (2, .int x2)] := by
  unfold m_Rd_readNumber_j19 at h
  intro H locs ls hP hS hl
  have C0 := C
  obtain ⟨hx, hb, -, -, -, hown, hts, hK, -, -⟩ := C0
  refine lv_istore_n (lv' := [(3, .int y0), (0, .ref (ad 23)), (1, .int x1), (2, .int x2)]) hx hb d_Rd_readNumber_19 rfl hl (by decide) rfl (fun ls hl => ?_)
  refine lv_iload_n hx hb d_Rd_readNumber_20 rfl (lv_at hl 0 rfl) ?_
  refine lv_if_eq (tgt := 34) hx hb d_Rd_readNumber_21 (by decide) (fun c2 => ?_) (fun c2 => ?_)
  · replace h := o_tt c2 h
    exact w_Rd_readNumber_j34_0 hE C hDD n x1 x2 y0 tc Rd Sj T1 Pg Pt Mk Lk Ck Jd Ld Pr h _ _ _ hP hS (lv_sub hl [1, 2, 3, 0] rfl)
  · replace h := o_ff c2 h
    refine lv_aload_n hx hb d_Rd_readNumber_24 rfl (lv_at hl 1 rfl) ?_
    refine lv_dup hx hb d_Rd_readNumber_25 rfl ?_
    refine o_get (v := .int (Rd_position Rd)) C in_Rd hP 23 cw_23 rfl 3 (by decide) k_1_97 rfl rfl d_Rd_readNumber_26 ?_
    refine lv_iconst (v := (1:Int32)) hx hb d_Rd_readNumber_29 (by decide) ?_
    refine lv_iadd hx hb d_Rd_readNumber_30 ?_
    refine o_put (v := .int ((Rd_position Rd) + (1:Int32))) (ty := .int) (w1 := (o_cw ad ca 1 Sj tc T1 (Rd_mk (Rd_words Rd) (Rd_wordCount Rd) ((Rd_position Rd) + (1:Int32)) (Rd_limit Rd) (Rd_wrongPlace Rd)) Pg Pt Mk Lk Ck Jd Ld Pr)) C in_Rd t_Rd t_Rd_ok n_Rd hP (hDD _ _ _ _ _ _ _ _ _ _ _ _ _) hS 23 cw_23 rfl 3 (by decide) k_1_97 rfl rfl (by decide +kernel) rfl rfl (Nat.le_of_ble_eq_true rfl) rfl d_Rd_readNumber_31 (fun H locs hP hS => ?_)
    exact w_Rd_readNumber_j34_0 hE C hDD n x1 x2 y0 tc (Rd_mk (Rd_words Rd) (Rd_wordCount Rd) ((Rd_position Rd) + (1:Int32)) (Rd_limit Rd) (Rd_wrongPlace Rd)) Sj T1 Pg Pt Mk Lk Ck Jd Ld Pr h _ _ _ hP hS (lv_sub hl [1, 2, 3, 0] rfl)
set_option maxHeartbeats 4000000 in
set_option maxRecDepth 100000 in
theorem c_Rd_readNumber_0 {E : (Nat → Prop) → State → Heap → Prop} {D : va_G} {ad kd sd vd xd : Nat → Nat} {ca : Nat → ClassId} (hE : o_EK E kd sd vd xd) (l : Launch) (n : Nat) (x1 : Int32) (tc : STx) (Rd : SRd) (Sj : SSJ) (T1 : STx) (Pg : SPg) (Pt : SPt) (Mk : SMk) (Lk : SLk) (Ck : SCk) (Jd : SJd) (Ld : SLd) (Pr : SPr) {r : Int32 × STx × SRd} (h : m_Rd_readNumber n x1 tc Rd = some r) : o_Cn E l D o_cls (o_tys ca) y_Rd_readNumber cc_Rd_readNumber rm_Rd_readNumber [.ref (ad 23), .int x1] (o_cw ad ca 1 Sj tc T1 Rd Pg Pt Mk Lk Ck Jd Ld Pr) (o_cw ad ca 1 Sj r.2.1 T1 r.2.2 Pg Pt Mk Lk Ck Jd Ld Pr) (some (.int r.1)) := by
  refine o_Cn_of (by decide) (Nat.le_of_ble_eq_true rfl) ?_
  intro p e s m below meth c A ls C hD hP hS hl
  have hDD : ∀ (rt : Nat) (Sj : SSJ) (T0 : STx) (T1 : STx) (Rd : SRd) (Pg : SPg) (Pt : SPt) (Mk : SMk) (Lk : SLk) (Ck : SCk) (Jd : SJd) (Ld : SLd) (Pr : SPr), va_D A (o_cw ad ca rt Sj T0 T1 Rd Pg Pt Mk Lk Ck Jd Ld Pr) := fun _ _ _ _ _ _ _ _ _ _ _ _ _ => o_D_map hD rfl
  have hl : lv_has ls 10 [(0, .ref (ad 23)), (1, .int x1)] := hl
  unfold m_Rd_readNumber at h
  have C0 := C
  obtain ⟨hx, hb, -, -, -, hown, hts, hK, -, -⟩ := C0
  refine lv_aload_n hx hb d_Rd_readNumber_0 rfl (lv_at hl 0 rfl) ?_
  refine o_get (v := .int (Rd_position Rd)) C in_Rd hP 23 cw_23 rfl 3 (by decide) k_1_97 rfl rfl d_Rd_readNumber_1 ?_
  refine lv_topi (fun x2_4 ex2_4 => ?_)
  replace h := o_nm_at ex2_4 h
  refine lv_istore_n (lv' := [(2, .int x2_4), (0, .ref (ad 23)), (1, .int x1)]) hx hb d_Rd_readNumber_4 rfl hl (by decide) rfl (fun ls hl => ?_)
  refine lv_aload_n hx hb d_Rd_readNumber_5 rfl (lv_at hl 1 rfl) ?_
  obtain ⟨q1, hq1, h⟩ := o_bd_some h
  refine o_V (st1 := [.int q1]) (w1 := (o_cw ad ca 1 Sj tc T1 Rd Pg Pt Mk Lk Ck Jd Ld Pr)) hE.1 C (c_Rd_peek hE l Rd Sj tc T1 Pg Pt Mk Lk Ck Jd Ld Pr 1 hq1) hP (hDD _ _ _ _ _ _ _ _ _ _ _ _ _) hS hl.1 rfl cw_23 k_3_38 k_3_40 k_s_3 k_1_3 k_3_41 hv_Rd_peek rfl rfl ⟨(Nat.le_of_ble_eq_true rfl), (Nat.le_of_ble_eq_true rfl)⟩ rfl (Nat.le_of_ble_eq_true rfl) ⟨Nat.zero_le _, Nat.zero_le _⟩ rfl d_Rd_readNumber_6 (fun H locs hP hS => ?_)
  refine lv_bipush (v := (45:Int32)) hx hb d_Rd_readNumber_9 (by decide) ?_
  refine lv_icmp_ne (tgt := 18) hx hb d_Rd_readNumber_11 (by decide) (fun c1 => ?_) (fun c1 => ?_)
  · replace h := o_ff c1 h
    refine lv_iconst (v := (0:Int32)) hx hb d_Rd_readNumber_18 (by decide) ?_
    exact w_Rd_readNumber_j19_0 hE C hDD n x1 x2_4 (0:Int32) tc Rd Sj T1 Pg Pt Mk Lk Ck Jd Ld Pr h _ _ _ hP hS (lv_sub hl [1, 2, 0] rfl)
  · replace h := o_tt c1 h
    refine lv_iconst (v := (1:Int32)) hx hb d_Rd_readNumber_14 (by decide) ?_
    refine lv_goto (tgt := 19) hx hb d_Rd_readNumber_15 (by decide) ?_
    exact w_Rd_readNumber_j19_0 hE C hDD n x1 x2_4 (1:Int32) tc Rd Sj T1 Pg Pt Mk Lk Ck Jd Ld Pr h _ _ _ hP hS (lv_sub hl [1, 2, 0] rfl)
