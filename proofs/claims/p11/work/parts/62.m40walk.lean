set_option maxHeartbeats 4000000 in
set_option maxRecDepth 100000 in
theorem w_Rd_readArray_j90_1 {E : (Nat → Prop) → State → Heap → Prop} {p : Program} {l : Launch} {e : Env} {s : State} {m : MethodId} {args : Array Value} {below : List Frame} {meth : Method} {c : Code} {D : va_G} {ad kd sd vd xd : Nat → Nat} {ca : Nat → ClassId} {A : Nat → Prop} {Q : State → Prop} (hE : o_EK E kd sd vd xd) (C : o_Cx E p s m args meth c D o_cls (o_tys ca) "SchemaJudge$Reader" b_Rd_readArray (some .boolean) 5 cc_Rd_readArray A) (hDD : ∀ (rt : Nat) (Sj : SSJ) (T0 : STx) (T1 : STx) (Rd : SRd) (Pg : SPg) (Pt : SPt) (Mk : SMk) (Lk : SLk) (Ck : SCk) (Jd : SJd) (Ld : SLd) (Pr : SPr), va_D A (o_cw ad ca rt Sj T0 T1 Rd Pg Pt Mk Lk Ck Jd Ld Pr)) (d : Nat) (rec : Int32 → Int32 → Int32 → STx → SRd → Option (Int32 × STx × SRd)) (hrec : ∀ (x1 : Int32) (x2 : Int32) (x3 : Int32) (tc : STx) (Rd : SRd) (Sj : SSJ) (T0 : STx) (Pg : SPg) (Pt : SPt) (Mk : SMk) (Lk : SLk) (Ck : SCk) (Jd : SJd) (Ld : SLd) (Pr : SPr) (r : Int32 × STx × SRd), rec x1 x2 x3 tc Rd = some r → o_Cn E l D o_cls (o_tys ca) y_Rd_readValue cc_Rd_readValue (rm_Rd_readValue d) [.ref (ad 23), .int x1, .int x2, .int x3] (o_cw ad ca 12 Sj T0 tc Rd Pg Pt Mk Lk Ck Jd Ld Pr) (o_cw ad ca 12 Sj T0 r.2.1 r.2.2 Pg Pt Mk Lk Ck Jd Ld Pr) (some (.int r.1))) (n : Nat) (u37_x1 : Int32) (u37_x2 : Int32) (u37_Sj : SSJ) (u37_T0 : STx) (u37_Pg : SPg) (u37_Pt : SPt) (u37_Mk : SMk) (u37_Lk : SLk) (u37_Ck : SCk) (u37_Jd : SJd) (u37_Ld : SLd) (u37_Pr : SPr) (x3 : Int32) (x4 : Int32) (tc : STx) (Rd : SRd) {q : Nat × Int32 × STx × SRd} (h : m_Rd_readArray_j90 n rec u37_x1 u37_x2 x3 x4 tc Rd = some q) (h0 : q.1 = 0 → o_At p l e (rm_Rd_readArray d) s m args below meth c Q o_cls D A 5 37 [] (o_cw ad ca 12 u37_Sj u37_T0 q.2.2.1 q.2.2.2 u37_Pg u37_Pt u37_Mk u37_Lk u37_Ck u37_Jd u37_Ld u37_Pr) [(0, .ref (ad 23)), (1, .int u37_x1), (2, .int u37_x2), (3, .int q.2.1)]) (h1 : q.1 ≠ 0 → (if q.1 = 1 then o_At p l e (rm_Rd_readArray d) s m args below meth c Q o_cls D A 5 55 [] (o_cw ad ca 12 u37_Sj u37_T0 q.2.2.1 q.2.2.2 u37_Pg u37_Pt u37_Mk u37_Lk u37_Ck u37_Jd u37_Ld u37_Pr) [] else if q.1 = 2 then o_At p l e (rm_Rd_readArray d) s m args below meth c Q o_cls D A 5 81 [] (o_cw ad ca 12 u37_Sj u37_T0 q.2.2.1 q.2.2.2 u37_Pg u37_Pt u37_Mk u37_Lk u37_Ck u37_Jd u37_Ld u37_Pr) [(0, .ref (ad 23))] else if q.1 = 3 then o_At p l e (rm_Rd_readArray d) s m args below meth c Q o_cls D A 5 107 [] (o_cw ad ca 12 u37_Sj u37_T0 q.2.2.1 q.2.2.2 u37_Pg u37_Pt u37_Mk u37_Lk u37_Ck u37_Jd u37_Ld u37_Pr) [(0, .ref (ad 23)), (1, .int u37_x1), (3, .int q.2.1)] else o_At p l e (rm_Rd_readArray d) s m args below meth c Q o_cls D A 5 126 [] (o_cw ad ca 12 u37_Sj u37_T0 q.2.2.1 q.2.2.2 u37_Pg u37_Pt u37_Mk u37_Lk u37_Ck u37_Jd u37_Ld u37_Pr) [(0, .ref (ad 23))])) : o_At p l e (rm_Rd_readArray d) s m args below meth c Q o_cls D A 5 90 [] (o_cw ad ca 12 u37_Sj u37_T0 tc Rd u37_Pg u37_Pt u37_Mk u37_Lk u37_Ck u37_Jd u37_Ld u37_Pr) [(0, .ref (ad 23)), (1, .int u37_x1), (2, .int u37_x2), (3, .int x3), (4, .int x4)] := by
  unfold m_Rd_readArray_j90 at h
  intro H locs ls hP hS hl
  have C0 := C
  obtain ⟨hx, hb, -, -, -, hown, hts, hK, -, -⟩ := C0
  refine lv_aload_n hx hb d_Rd_readArray_90 rfl (lv_at hl 0 rfl) ?_
  refine lv_dup hx hb d_Rd_readArray_91 rfl ?_
  refine o_get (v := .int (Rd_position Rd)) C in_Rd hP 23 cw_23 rfl 3 (by decide) k_1_97 rfl rfl d_Rd_readArray_92 ?_
  refine lv_iconst (v := (1:Int32)) hx hb d_Rd_readArray_95 (by decide) ?_
  refine lv_iadd hx hb d_Rd_readArray_96 ?_
  refine o_put (v := .int ((Rd_position Rd) + (1:Int32))) (ty := .int) (w1 := (o_cw ad ca 12 u37_Sj u37_T0 tc (Rd_mk (Rd_words Rd) (Rd_wordCount Rd) ((Rd_position Rd) + (1:Int32)) (Rd_limit Rd) (Rd_wrongPlace Rd)) u37_Pg u37_Pt u37_Mk u37_Lk u37_Ck u37_Jd u37_Ld u37_Pr)) C in_Rd t_Rd t_Rd_ok n_Rd hP (hDD _ _ _ _ _ _ _ _ _ _ _ _ _) hS 23 cw_23 rfl 3 (by decide) k_1_97 rfl rfl (by decide +kernel) rfl rfl (Nat.le_of_ble_eq_true rfl) rfl d_Rd_readArray_97 (fun H locs hP hS => ?_)
  refine lv_iload hx hb d_Rd_readArray_100 (lv_at hl 4 rfl) ?_
  refine lv_bipush (v := (93:Int32)) hx hb d_Rd_readArray_102 (by decide) ?_
  refine lv_icmp_ne (tgt := 120) hx hb d_Rd_readArray_104 (by decide) (fun c5 => ?_) (fun c5 => ?_)
  · replace h := o_ff c5 h
    obtain ⟨x3_120, ex3_120⟩ : ∃ y : Int32, y = x3 + (1:Int32) := ⟨_, rfl⟩
    replace h := o_nm_at ex3_120 h
    refine lv_iinc (v := x3_120) (lv' := [(3, .int x3_120), (0, .ref (ad 23)), (1, .int u37_x1), (2, .int u37_x2), (4, .int x4)]) hx hb d_Rd_readArray_120 hl (k := 3) rfl (by rw [ex3_120]; rfl) (by decide) rfl (fun ls hl => ?_)
    refine lv_goto (tgt := 37) hx hb d_Rd_readArray_123 (by decide) ?_
    cases h
    exact h0 rfl _ _ _ hP hS (lv_sub hl [1, 2, 3, 0] rfl)
  · replace h := o_tt c5 h
    cases h
    exact h1 (Nat.succ_ne_zero 2) _ _ _ hP hS (lv_sub hl [0, 1, 3] rfl)
set_option maxHeartbeats 4000000 in
set_option maxRecDepth 100000 in
theorem w_Rd_readArray_b37_1 {E : (Nat → Prop) → State → Heap → Prop} {p : Program} {l : Launch} {e : Env} {s : State} {m : MethodId} {args : Array Value} {below : List Frame} {meth : Method} {c : Code} {D : va_G} {ad kd sd vd xd : Nat → Nat} {ca : Nat → ClassId} {A : Nat → Prop} {Q : State → Prop} (hE : o_EK E kd sd vd xd) (C : o_Cx E p s m args meth c D o_cls (o_tys ca) "SchemaJudge$Reader" b_Rd_readArray (some .boolean) 5 cc_Rd_readArray A) (hDD : ∀ (rt : Nat) (Sj : SSJ) (T0 : STx) (T1 : STx) (Rd : SRd) (Pg : SPg) (Pt : SPt) (Mk : SMk) (Lk : SLk) (Ck : SCk) (Jd : SJd) (Ld : SLd) (Pr : SPr), va_D A (o_cw ad ca rt Sj T0 T1 Rd Pg Pt Mk Lk Ck Jd Ld Pr)) (d : Nat) (rec : Int32 → Int32 → Int32 → STx → SRd → Option (Int32 × STx × SRd)) (hrec : ∀ (x1 : Int32) (x2 : Int32) (x3 : Int32) (tc : STx) (Rd : SRd) (Sj : SSJ) (T0 : STx) (Pg : SPg) (Pt : SPt) (Mk : SMk) (Lk : SLk) (Ck : SCk) (Jd : SJd) (Ld : SLd) (Pr : SPr) (r : Int32 × STx × SRd), rec x1 x2 x3 tc Rd = some r → o_Cn E l D o_cls (o_tys ca) y_Rd_readValue cc_Rd_readValue (rm_Rd_readValue d) [.ref (ad 23), .int x1, .int x2, .int x3] (o_cw ad ca 12 Sj T0 tc Rd Pg Pt Mk Lk Ck Jd Ld Pr) (o_cw ad ca 12 Sj T0 r.2.1 r.2.2 Pg Pt Mk Lk Ck Jd Ld Pr) (some (.int r.1))) (n : Nat) (u37_x1 : Int32) (u37_x2 : Int32) (u37_Sj : SSJ) (u37_T0 : STx) (u37_Pg : SPg) (u37_Pt : SPt) (u37_Mk : SMk) (u37_Lk : SLk) (u37_Ck : SCk) (u37_Jd : SJd) (u37_Ld : SLd) (u37_Pr : SPr) (z : Int32 × STx × SRd) (q : Nat × Int32 × STx × SRd) (h : m_Rd_readArray_b37 n rec u37_x1 u37_x2 z = some q) (h0 : q.1 = 0 → o_At p l e (rm_Rd_readArray d) s m args below meth c Q o_cls D A 5 37 [] (o_cw ad ca 12 u37_Sj u37_T0 q.2.2.1 q.2.2.2 u37_Pg u37_Pt u37_Mk u37_Lk u37_Ck u37_Jd u37_Ld u37_Pr) [(0, .ref (ad 23)), (1, .int u37_x1), (2, .int u37_x2), (3, .int q.2.1)]) (h1 : q.1 ≠ 0 → (if q.1 = 1 then o_At p l e (rm_Rd_readArray d) s m args below meth c Q o_cls D A 5 55 [] (o_cw ad ca 12 u37_Sj u37_T0 q.2.2.1 q.2.2.2 u37_Pg u37_Pt u37_Mk u37_Lk u37_Ck u37_Jd u37_Ld u37_Pr) [] else if q.1 = 2 then o_At p l e (rm_Rd_readArray d) s m args below meth c Q o_cls D A 5 81 [] (o_cw ad ca 12 u37_Sj u37_T0 q.2.2.1 q.2.2.2 u37_Pg u37_Pt u37_Mk u37_Lk u37_Ck u37_Jd u37_Ld u37_Pr) [(0, .ref (ad 23))] else if q.1 = 3 then o_At p l e (rm_Rd_readArray d) s m args below meth c Q o_cls D A 5 107 [] (o_cw ad ca 12 u37_Sj u37_T0 q.2.2.1 q.2.2.2 u37_Pg u37_Pt u37_Mk u37_Lk u37_Ck u37_Jd u37_Ld u37_Pr) [(0, .ref (ad 23)), (1, .int u37_x1), (3, .int q.2.1)] else o_At p l e (rm_Rd_readArray d) s m args below meth c Q o_cls D A 5 126 [] (o_cw ad ca 12 u37_Sj u37_T0 q.2.2.1 q.2.2.2 u37_Pg u37_Pt u37_Mk u37_Lk u37_Ck u37_Jd u37_Ld u37_Pr) [(0, .ref (ad 23))])) : o_At p l e (rm_Rd_readArray d) s m args below meth c Q o_cls D A 5 37 [] (o_cw ad ca 12 u37_Sj u37_T0 z.2.1 z.2.2 u37_Pg u37_Pt u37_Mk u37_Lk u37_Ck u37_Jd u37_Ld u37_Pr) [(0, .ref (ad 23)), (1, .int u37_x1), (2, .int u37_x2), (3, .int z.1)] := by
  unfold m_Rd_readArray_b37 at h
  intro H locs ls hP hS hl
  have C0 := C
  obtain ⟨hx, hb, -, -, -, hown, hts, hK, -, -⟩ := C0
  refine lv_iload_n hx hb d_Rd_readArray_37 rfl (lv_at hl 3 rfl) ?_
  refine lv_bipush (v := (60:Int32)) hx hb d_Rd_readArray_38 (by decide) ?_
  refine lv_icmp_ge (tgt := 126) hx hb d_Rd_readArray_40 (by decide) (fun c2 => ?_) (fun c2 => ?_)
  · replace h := o_tt c2 h
    cases h
    exact h1 (Nat.succ_ne_zero 3) _ _ _ hP hS (lv_sub hl [0] rfl)
  · replace h := o_ff c2 h
    refine lv_aload_n hx hb d_Rd_readArray_43 rfl (lv_at hl 0 rfl) ?_
    refine lv_iload_n hx hb d_Rd_readArray_44 rfl (lv_at hl 1 rfl) ?_
    refine lv_iload_n hx hb d_Rd_readArray_45 rfl (lv_at hl 3 rfl) ?_
    refine lv_iload_n hx hb d_Rd_readArray_46 rfl (lv_at hl 2 rfl) ?_
    refine lv_iconst (v := (1:Int32)) hx hb d_Rd_readArray_47 (by decide) ?_
    refine lv_iadd hx hb d_Rd_readArray_48 ?_
    obtain ⟨q3, hq3, h⟩ := o_bd_some h
    refine o_V (st1 := [.int q3.1]) (w1 := (o_cw ad ca 12 u37_Sj u37_T0 q3.2.1 q3.2.2 u37_Pg u37_Pt u37_Mk u37_Lk u37_Ck u37_Jd u37_Ld u37_Pr)) hE.1 C (hrec u37_x1 z.1 (u37_x2 + (1:Int32)) z.2.1 z.2.2 u37_Sj u37_T0 u37_Pg u37_Pt u37_Mk u37_Lk u37_Ck u37_Jd u37_Ld u37_Pr _ hq3) hP (hDD _ _ _ _ _ _ _ _ _ _ _ _ _) hS hl.1 rfl cw_23 k_3_30 k_3_32 k_s_1 k_1_3 k_3_33 hv_Rd_readValue rfl rfl ⟨(by dsimp only [rm_Rd_readArray, rm_Rd_readValue]; omega), (by dsimp only [rm_Rd_readArray, rm_Rd_readValue]; omega)⟩ rfl (Nat.le_of_ble_eq_true rfl) ⟨Nat.zero_le _, Nat.zero_le _⟩ rfl d_Rd_readArray_49 (fun H locs hP hS => ?_)
    refine lv_if_ne (tgt := 57) hx hb d_Rd_readArray_52 (by decide) (fun c3 => ?_) (fun c3 => ?_)
    · replace h := o_ff c3 h
      refine lv_aload_n hx hb d_Rd_readArray_57 rfl (lv_at hl 0 rfl) ?_
      obtain ⟨q4, hq4, h⟩ := o_bd_some h
      refine o_V (st1 := []) (w1 := (o_cw ad ca 12 u37_Sj u37_T0 q3.2.1 q4 u37_Pg u37_Pt u37_Mk u37_Lk u37_Ck u37_Jd u37_Ld u37_Pr)) hE.1 C (c_Rd_skipBlanks hE l n q3.2.2 u37_Sj u37_T0 q3.2.1 u37_Pg u37_Pt u37_Mk u37_Lk u37_Ck u37_Jd u37_Ld u37_Pr 12 hq4) hP (hDD _ _ _ _ _ _ _ _ _ _ _ _ _) hS hl.1 rfl cw_23 k_3_34 k_3_36 k_s_2 k_1_3 k_3_37 hv_Rd_skipBlanks rfl rfl ⟨(by dsimp only [rm_Rd_readArray, rm_Rd_skipBlanks]; omega), (by dsimp only [rm_Rd_readArray, rm_Rd_skipBlanks]; omega)⟩ rfl (Nat.le_of_ble_eq_true rfl) ⟨Nat.zero_le _, Nat.zero_le _⟩ rfl d_Rd_readArray_58 (fun H locs hP hS => ?_)
      refine lv_aload_n hx hb d_Rd_readArray_61 rfl (lv_at hl 0 rfl) ?_
      obtain ⟨q5, hq5, h⟩ := o_bd_some h
      refine o_V (st1 := [.int q5]) (w1 := (o_cw ad ca 12 u37_Sj u37_T0 q3.2.1 q4 u37_Pg u37_Pt u37_Mk u37_Lk u37_Ck u37_Jd u37_Ld u37_Pr)) hE.1 C (c_Rd_peek hE l q4 u37_Sj u37_T0 q3.2.1 u37_Pg u37_Pt u37_Mk u37_Lk u37_Ck u37_Jd u37_Ld u37_Pr 12 hq5) hP (hDD _ _ _ _ _ _ _ _ _ _ _ _ _) hS hl.1 rfl cw_23 k_3_38 k_3_40 k_s_3 k_1_3 k_3_41 hv_Rd_peek rfl rfl ⟨(by dsimp only [rm_Rd_readArray, rm_Rd_peek]; omega), (by dsimp only [rm_Rd_readArray, rm_Rd_peek]; omega)⟩ rfl (Nat.le_of_ble_eq_true rfl) ⟨Nat.zero_le _, Nat.zero_le _⟩ rfl d_Rd_readArray_62 (fun H locs hP hS => ?_)
      refine lv_istore (lv' := [(4, .int q5), (0, .ref (ad 23)), (1, .int u37_x1), (2, .int u37_x2), (3, .int z.1)]) hx hb d_Rd_readArray_65 hl (by decide) rfl (fun ls hl => ?_)
      refine lv_iload hx hb d_Rd_readArray_67 (lv_at hl 0 rfl) ?_
      refine lv_bipush (v := (44:Int32)) hx hb d_Rd_readArray_69 (by decide) ?_
      refine lv_icmp_eq (tgt := 90) hx hb d_Rd_readArray_71 (by decide) (fun c4 => ?_) (fun c4 => ?_)
      · replace h := o_tt c4 h
        exact w_Rd_readArray_j90_1 hE C hDD d rec hrec n u37_x1 u37_x2 u37_Sj u37_T0 u37_Pg u37_Pt u37_Mk u37_Lk u37_Ck u37_Jd u37_Ld u37_Pr z.1 q5 q3.2.1 q4 h h0 h1 _ _ _ hP hS (lv_sub hl [1, 2, 3, 4, 0] rfl)
      · replace h := o_ff c4 h
        refine lv_iload hx hb d_Rd_readArray_74 (lv_at hl 0 rfl) ?_
        refine lv_bipush (v := (93:Int32)) hx hb d_Rd_readArray_76 (by decide) ?_
        refine lv_icmp_eq (tgt := 90) hx hb d_Rd_readArray_78 (by decide) (fun c6 => ?_) (fun c6 => ?_)
        · replace h := o_tt c6 h
          exact w_Rd_readArray_j90_1 hE C hDD d rec hrec n u37_x1 u37_x2 u37_Sj u37_T0 u37_Pg u37_Pt u37_Mk u37_Lk u37_Ck u37_Jd u37_Ld u37_Pr z.1 q5 q3.2.1 q4 h h0 h1 _ _ _ hP hS (lv_sub hl [1, 2, 3, 4, 0] rfl)
        · replace h := o_ff c6 h
          cases h
          exact h1 (Nat.succ_ne_zero 1) _ _ _ hP hS (lv_sub hl [1] rfl)
    · replace h := o_tt c3 h
      cases h
      exact h1 (Nat.succ_ne_zero 0) _ _ _ hP hS (lv_sub hl [] rfl)
set_option maxHeartbeats 4000000 in
set_option maxRecDepth 100000 in
theorem c_Rd_readArray_1 {E : (Nat → Prop) → State → Heap → Prop} {D : va_G} {ad kd sd vd xd : Nat → Nat} {ca : Nat → ClassId} (hE : o_EK E kd sd vd xd) (l : Launch) (n : Nat) (d : Nat) (rec : Int32 → Int32 → Int32 → STx → SRd → Option (Int32 × STx × SRd)) (hrec : ∀ (x1 : Int32) (x2 : Int32) (x3 : Int32) (tc : STx) (Rd : SRd) (Sj : SSJ) (T0 : STx) (Pg : SPg) (Pt : SPt) (Mk : SMk) (Lk : SLk) (Ck : SCk) (Jd : SJd) (Ld : SLd) (Pr : SPr) (r : Int32 × STx × SRd), rec x1 x2 x3 tc Rd = some r → o_Cn E l D o_cls (o_tys ca) y_Rd_readValue cc_Rd_readValue (rm_Rd_readValue d) [.ref (ad 23), .int x1, .int x2, .int x3] (o_cw ad ca 12 Sj T0 tc Rd Pg Pt Mk Lk Ck Jd Ld Pr) (o_cw ad ca 12 Sj T0 r.2.1 r.2.2 Pg Pt Mk Lk Ck Jd Ld Pr) (some (.int r.1))) (x1 : Int32) (x2 : Int32) (tc : STx) (Rd : SRd) (Sj : SSJ) (T0 : STx) (Pg : SPg) (Pt : SPt) (Mk : SMk) (Lk : SLk) (Ck : SCk) (Jd : SJd) (Ld : SLd) (Pr : SPr) {r : Int32 × STx × SRd} (h : m_Rd_readArray n rec x1 x2 tc Rd = some r) : o_Cn E l D o_cls (o_tys ca) y_Rd_readArray cc_Rd_readArray (rm_Rd_readArray d) [.ref (ad 23), .int x1, .int x2] (o_cw ad ca 12 Sj T0 tc Rd Pg Pt Mk Lk Ck Jd Ld Pr) (o_cw ad ca 12 Sj T0 r.2.1 r.2.2 Pg Pt Mk Lk Ck Jd Ld Pr) (some (.int r.1)) := by
  refine o_Cn_of (by decide) (Nat.le_of_ble_eq_true rfl) ?_
  intro p e s m below meth c A ls C hD hP hS hl
  have hDD : ∀ (rt : Nat) (Sj : SSJ) (T0 : STx) (T1 : STx) (Rd : SRd) (Pg : SPg) (Pt : SPt) (Mk : SMk) (Lk : SLk) (Ck : SCk) (Jd : SJd) (Ld : SLd) (Pr : SPr), va_D A (o_cw ad ca rt Sj T0 T1 Rd Pg Pt Mk Lk Ck Jd Ld Pr) := fun _ _ _ _ _ _ _ _ _ _ _ _ _ => o_D_map hD rfl
  have hl : lv_has ls 5 [(0, .ref (ad 23)), (1, .int x1), (2, .int x2)] := hl
  unfold m_Rd_readArray at h
  have C0 := C
  obtain ⟨hx, hb, -, -, -, hown, hts, hK, -, -⟩ := C0
  refine lv_aload_n hx hb d_Rd_readArray_0 rfl (lv_at hl 0 rfl) ?_
  refine lv_dup hx hb d_Rd_readArray_1 rfl ?_
  refine o_get (v := .int (Rd_position Rd)) C in_Rd hP 23 cw_23 rfl 3 (by decide) k_1_97 rfl rfl d_Rd_readArray_2 ?_
  refine lv_iconst (v := (1:Int32)) hx hb d_Rd_readArray_5 (by decide) ?_
  refine lv_iadd hx hb d_Rd_readArray_6 ?_
  refine o_put (v := .int ((Rd_position Rd) + (1:Int32))) (ty := .int) (w1 := (o_cw ad ca 12 Sj T0 tc (Rd_mk (Rd_words Rd) (Rd_wordCount Rd) ((Rd_position Rd) + (1:Int32)) (Rd_limit Rd) (Rd_wrongPlace Rd)) Pg Pt Mk Lk Ck Jd Ld Pr)) C in_Rd t_Rd t_Rd_ok n_Rd hP (hDD _ _ _ _ _ _ _ _ _ _ _ _ _) hS 23 cw_23 rfl 3 (by decide) k_1_97 rfl rfl (by decide +kernel) rfl rfl (Nat.le_of_ble_eq_true rfl) rfl d_Rd_readArray_7 (fun H locs hP hS => ?_)
  refine lv_aload_n hx hb d_Rd_readArray_10 rfl (lv_at hl 0 rfl) ?_
  obtain ⟨q1, hq1, h⟩ := o_bd_some h
  refine o_V (st1 := []) (w1 := (o_cw ad ca 12 Sj T0 tc q1 Pg Pt Mk Lk Ck Jd Ld Pr)) hE.1 C (c_Rd_skipBlanks hE l n (Rd_mk (Rd_words Rd) (Rd_wordCount Rd) ((Rd_position Rd) + (1:Int32)) (Rd_limit Rd) (Rd_wrongPlace Rd)) Sj T0 tc Pg Pt Mk Lk Ck Jd Ld Pr 12 hq1) hP (hDD _ _ _ _ _ _ _ _ _ _ _ _ _) hS hl.1 rfl cw_23 k_3_34 k_3_36 k_s_2 k_1_3 k_3_37 hv_Rd_skipBlanks rfl rfl ⟨(by dsimp only [rm_Rd_readArray, rm_Rd_skipBlanks]; omega), (by dsimp only [rm_Rd_readArray, rm_Rd_skipBlanks]; omega)⟩ rfl (Nat.le_of_ble_eq_true rfl) ⟨Nat.zero_le _, Nat.zero_le _⟩ rfl d_Rd_readArray_11 (fun H locs hP hS => ?_)
  refine lv_aload_n hx hb d_Rd_readArray_14 rfl (lv_at hl 0 rfl) ?_
  obtain ⟨q2, hq2, h⟩ := o_bd_some h
  refine o_V (st1 := [.int q2]) (w1 := (o_cw ad ca 12 Sj T0 tc q1 Pg Pt Mk Lk Ck Jd Ld Pr)) hE.1 C (c_Rd_peek hE l q1 Sj T0 tc Pg Pt Mk Lk Ck Jd Ld Pr 12 hq2) hP (hDD _ _ _ _ _ _ _ _ _ _ _ _ _) hS hl.1 rfl cw_23 k_3_38 k_3_40 k_s_3 k_1_3 k_3_41 hv_Rd_peek rfl rfl ⟨(by dsimp only [rm_Rd_readArray, rm_Rd_peek]; omega), (by dsimp only [rm_Rd_readArray, rm_Rd_peek]; omega)⟩ rfl (Nat.le_of_ble_eq_true rfl) ⟨Nat.zero_le _, Nat.zero_le _⟩ rfl d_Rd_readArray_15 (fun H locs hP hS => ?_)
  refine lv_bipush (v := (93:Int32)) hx hb d_Rd_readArray_18 (by decide) ?_
  refine lv_icmp_ne (tgt := 35) hx hb d_Rd_readArray_20 (by decide) (fun c1 => ?_) (fun c1 => ?_)
  · replace h := o_ff c1 h
    refine lv_iconst (v := (0:Int32)) hx hb d_Rd_readArray_35 (by decide) ?_
    refine lv_istore_n (lv' := [(3, .int (0:Int32)), (0, .ref (ad 23)), (1, .int x1), (2, .int x2)]) hx hb d_Rd_readArray_36 rfl hl (by decide) rfl (fun ls hl => ?_)
    obtain ⟨q6, hq6, h⟩ := o_bd_some h
    refine o_sim2 (AH := fun zz => o_At p l e (rm_Rd_readArray d) s m _ below meth c _ o_cls D A 5 37 [] (o_cw ad ca 12 Sj T0 zz.2.1 zz.2.2 Pg Pt Mk Lk Ck Jd Ld Pr) [(0, .ref (ad 23)), (1, .int x1), (2, .int x2), (3, .int zz.1)]) (AX := fun qq => if qq.1 = 1 then o_At p l e (rm_Rd_readArray d) s m _ below meth c _ o_cls D A 5 55 [] (o_cw ad ca 12 Sj T0 qq.2.2.1 qq.2.2.2 Pg Pt Mk Lk Ck Jd Ld Pr) [] else if qq.1 = 2 then o_At p l e (rm_Rd_readArray d) s m _ below meth c _ o_cls D A 5 81 [] (o_cw ad ca 12 Sj T0 qq.2.2.1 qq.2.2.2 Pg Pt Mk Lk Ck Jd Ld Pr) [(0, .ref (ad 23))] else if qq.1 = 3 then o_At p l e (rm_Rd_readArray d) s m _ below meth c _ o_cls D A 5 107 [] (o_cw ad ca 12 Sj T0 qq.2.2.1 qq.2.2.2 Pg Pt Mk Lk Ck Jd Ld Pr) [(0, .ref (ad 23)), (1, .int x1), (3, .int qq.2.1)] else o_At p l e (rm_Rd_readArray d) s m _ below meth c _ o_cls D A 5 126 [] (o_cw ad ca 12 Sj T0 qq.2.2.1 qq.2.2.2 Pg Pt Mk Lk Ck Jd Ld Pr) [(0, .ref (ad 23))]) (fun zz qq h h0 h1 => w_Rd_readArray_b37_1 hE C hDD d rec hrec n x1 x2 Sj T0 Pg Pt Mk Lk Ck Jd Ld Pr zz qq h h0 h1) n _ q6 hq6 ?_ _ _ _ hP hS (lv_sub hl [1, 2, 3, 0] rfl)
    by_cases c9 : q6.1 = 1
    · replace h := o_tt c9 h
      refine o_ip c9 ?_
      intro H locs ls hP hS hl
      refine lv_iconst (v := (0:Int32)) hx hb d_Rd_readArray_55 (by decide) ?_
      cases h
      exact o_rz (v := (0:Int32)) C o_nar0 hP hS d_Rd_readArray_56
    replace h := o_ff c9 h
    refine o_in_ c9 ?_
    by_cases c10 : q6.1 = 2
    · replace h := o_tt c10 h
      refine o_ip c10 ?_
      intro H locs ls hP hS hl
      refine lv_aload_n hx hb d_Rd_readArray_81 rfl (lv_at hl 0 rfl) ?_
      refine lv_aload_n hx hb d_Rd_readArray_82 rfl (lv_at hl 0 rfl) ?_
      refine o_get (v := .int (Rd_position q6.2.2.2)) C in_Rd hP 23 cw_23 rfl 3 (by decide) k_1_97 rfl rfl d_Rd_readArray_83 ?_
      obtain ⟨q7, hq7, h⟩ := o_bd_some h
      refine o_V (st1 := [.int q7.1]) (w1 := (o_cw ad ca 12 Sj T0 q6.2.2.1 q7.2 Pg Pt Mk Lk Ck Jd Ld Pr)) hE.1 C (c_Rd_refuse hE l (Rd_position q6.2.2.2) q6.2.2.2 Sj T0 q6.2.2.1 Pg Pt Mk Lk Ck Jd Ld Pr 12 hq7) hP (hDD _ _ _ _ _ _ _ _ _ _ _ _ _) hS hl.1 rfl cw_23 k_3_48 k_3_50 k_s_4 k_1_3 k_3_51 hv_Rd_refuse rfl rfl ⟨(by dsimp only [rm_Rd_readArray, rm_Rd_refuse]; omega), (by dsimp only [rm_Rd_readArray, rm_Rd_refuse]; omega)⟩ rfl (Nat.le_of_ble_eq_true rfl) ⟨Nat.zero_le _, Nat.zero_le _⟩ rfl d_Rd_readArray_86 (fun H locs hP hS => ?_)
      obtain ⟨g7, h⟩ := o_gd_some h
      cases h
      exact o_rz C (o_zb_nar g7) hP hS d_Rd_readArray_89
    replace h := o_ff c10 h
    refine o_in_ c10 ?_
    by_cases c11 : q6.1 = 3
    · replace h := o_tt c11 h
      refine o_ip c11 ?_
      intro H locs ls hP hS hl
      refine lv_aload_n hx hb d_Rd_readArray_107 rfl (lv_at hl 0 rfl) ?_
      refine o_get (v := .ref (ad 12)) C in_Rd hP 23 cw_23 rfl 2 (by decide) k_1_96 rfl rfl d_Rd_readArray_108 ?_
      refine lv_iload_n hx hb d_Rd_readArray_111 rfl (lv_at hl 1 rfl) ?_
      refine lv_iload_n hx hb d_Rd_readArray_112 rfl (lv_at hl 2 rfl) ?_
      refine lv_iconst (v := (1:Int32)) hx hb d_Rd_readArray_113 (by decide) ?_
      refine lv_iadd hx hb d_Rd_readArray_114 ?_
      obtain ⟨q8, hq8, h⟩ := o_bd_some h
      refine o_V (st1 := []) (w1 := (o_cw ad ca 12 Sj T0 q8 q6.2.2.2 Pg Pt Mk Lk Ck Jd Ld Pr)) hE.1 C (c_Tx_endParent_1 hE l x1 (q6.2.1 + (1:Int32)) q6.2.2.1 Sj T0 q6.2.2.2 Pg Pt Mk Lk Ck Jd Ld Pr 12 hq8) hP (hDD _ _ _ _ _ _ _ _ _ _ _ _ _) hS hl.1 rfl cw_12 k_3_190 k_3_191 k_3_192 k_1_2 k_3_193 hv_Tx_endParent rfl rfl ⟨(by dsimp only [rm_Rd_readArray, rm_Tx_endParent]; omega), (by dsimp only [rm_Rd_readArray, rm_Tx_endParent]; omega)⟩ rfl (Nat.le_of_ble_eq_true rfl) ⟨Nat.zero_le _, Nat.zero_le _⟩ rfl d_Rd_readArray_115 (fun H locs hP hS => ?_)
      refine lv_iconst (v := (1:Int32)) hx hb d_Rd_readArray_118 (by decide) ?_
      cases h
      exact o_rz (v := (1:Int32)) C o_nar1 hP hS d_Rd_readArray_119
    replace h := o_ff c11 h
    refine o_in_ c11 ?_
    intro H locs ls hP hS hl
    refine lv_aload_n hx hb d_Rd_readArray_126 rfl (lv_at hl 0 rfl) ?_
    obtain ⟨q9, hq9, h⟩ := o_bd_some h
    refine o_V (st1 := []) (w1 := (o_cw ad ca 12 Sj T0 q6.2.2.1 q9 Pg Pt Mk Lk Ck Jd Ld Pr)) hE.1 C (c_Rd_skipBlanks hE l n q6.2.2.2 Sj T0 q6.2.2.1 Pg Pt Mk Lk Ck Jd Ld Pr 12 hq9) hP (hDD _ _ _ _ _ _ _ _ _ _ _ _ _) hS hl.1 rfl cw_23 k_3_34 k_3_36 k_s_2 k_1_3 k_3_37 hv_Rd_skipBlanks rfl rfl ⟨(by dsimp only [rm_Rd_readArray, rm_Rd_skipBlanks]; omega), (by dsimp only [rm_Rd_readArray, rm_Rd_skipBlanks]; omega)⟩ rfl (Nat.le_of_ble_eq_true rfl) ⟨Nat.zero_le _, Nat.zero_le _⟩ rfl d_Rd_readArray_127 (fun H locs hP hS => ?_)
    refine lv_aload_n hx hb d_Rd_readArray_130 rfl (lv_at hl 0 rfl) ?_
    refine lv_aload_n hx hb d_Rd_readArray_131 rfl (lv_at hl 0 rfl) ?_
    refine o_get (v := .int (Rd_position q9)) C in_Rd hP 23 cw_23 rfl 3 (by decide) k_1_97 rfl rfl d_Rd_readArray_132 ?_
    obtain ⟨q10, hq10, h⟩ := o_bd_some h
    refine o_V (st1 := [.int q10.1]) (w1 := (o_cw ad ca 12 Sj T0 q6.2.2.1 q10.2 Pg Pt Mk Lk Ck Jd Ld Pr)) hE.1 C (c_Rd_refuse hE l (Rd_position q9) q9 Sj T0 q6.2.2.1 Pg Pt Mk Lk Ck Jd Ld Pr 12 hq10) hP (hDD _ _ _ _ _ _ _ _ _ _ _ _ _) hS hl.1 rfl cw_23 k_3_48 k_3_50 k_s_4 k_1_3 k_3_51 hv_Rd_refuse rfl rfl ⟨(by dsimp only [rm_Rd_readArray, rm_Rd_refuse]; omega), (by dsimp only [rm_Rd_readArray, rm_Rd_refuse]; omega)⟩ rfl (Nat.le_of_ble_eq_true rfl) ⟨Nat.zero_le _, Nat.zero_le _⟩ rfl d_Rd_readArray_135 (fun H locs hP hS => ?_)
    obtain ⟨g8, h⟩ := o_gd_some h
    cases h
    exact o_rz C (o_zb_nar g8) hP hS d_Rd_readArray_138
  · replace h := o_tt c1 h
    refine lv_aload_n hx hb d_Rd_readArray_23 rfl (lv_at hl 0 rfl) ?_
    refine lv_dup hx hb d_Rd_readArray_24 rfl ?_
    refine o_get (v := .int (Rd_position q1)) C in_Rd hP 23 cw_23 rfl 3 (by decide) k_1_97 rfl rfl d_Rd_readArray_25 ?_
    refine lv_iconst (v := (1:Int32)) hx hb d_Rd_readArray_28 (by decide) ?_
    refine lv_iadd hx hb d_Rd_readArray_29 ?_
    refine o_put (v := .int ((Rd_position q1) + (1:Int32))) (ty := .int) (w1 := (o_cw ad ca 12 Sj T0 tc (Rd_mk (Rd_words q1) (Rd_wordCount q1) ((Rd_position q1) + (1:Int32)) (Rd_limit q1) (Rd_wrongPlace q1)) Pg Pt Mk Lk Ck Jd Ld Pr)) C in_Rd t_Rd t_Rd_ok n_Rd hP (hDD _ _ _ _ _ _ _ _ _ _ _ _ _) hS 23 cw_23 rfl 3 (by decide) k_1_97 rfl rfl (by decide +kernel) rfl rfl (Nat.le_of_ble_eq_true rfl) rfl d_Rd_readArray_30 (fun H locs hP hS => ?_)
    refine lv_iconst (v := (1:Int32)) hx hb d_Rd_readArray_33 (by decide) ?_
    cases h
    exact o_rz (v := (1:Int32)) C o_nar1 hP hS d_Rd_readArray_34
set_option maxHeartbeats 4000000 in
set_option maxRecDepth 100000 in
theorem w_Rd_readValue_j31_0 {E : (Nat → Prop) → State → Heap → Prop} {p : Program} {l : Launch} {e : Env} {s : State} {m : MethodId} {args : Array Value} {below : List Frame} {meth : Method} {c : Code} {D : va_G} {ad kd sd vd xd : Nat → Nat} {ca : Nat → ClassId} {A : Nat → Prop} (hE : o_EK E kd sd vd xd) (C : o_Cx E p s m args meth c D o_cls (o_tys ca) "SchemaJudge$Reader" b_Rd_readValue (some .boolean) 6 cc_Rd_readValue A) (hDD : ∀ (rt : Nat) (Sj : SSJ) (T0 : STx) (T1 : STx) (Rd : SRd) (Pg : SPg) (Pt : SPt) (Mk : SMk) (Lk : SLk) (Ck : SCk) (Jd : SJd) (Ld : SLd) (Pr : SPr), va_D A (o_cw ad ca rt Sj T0 T1 Rd Pg Pt Mk Lk Ck Jd Ld Pr)) (d : Nat) (rec : Int32 → Int32 → Int32 → STx → SRd → Option (Int32 × STx × SRd)) (hrec : ∀ (x1 : Int32) (x2 : Int32) (x3 : Int32) (tc : STx) (Rd : SRd) (Sj : SSJ) (T1 : STx) (Pg : SPg) (Pt : SPt) (Mk : SMk) (Lk : SLk) (Ck : SCk) (Jd : SJd) (Ld : SLd) (Pr : SPr) (r : Int32 × STx × SRd), rec x1 x2 x3 tc Rd = some r → o_Cn E l D o_cls (o_tys ca) y_Rd_readValue cc_Rd_readValue (rm_Rd_readValue d) [.ref (ad 23), .int x1, .int x2, .int x3] (o_cw ad ca 1 Sj tc T1 Rd Pg Pt Mk Lk Ck Jd Ld Pr) (o_cw ad ca 1 Sj r.2.1 T1 r.2.2 Pg Pt Mk Lk Ck Jd Ld Pr) (some (.int r.1))) (n : Nat)  (tc : STx) (Rd : SRd) (Sj : SSJ) (T1 : STx) (Pg : SPg) (Pt : SPt) (Mk : SMk) (Lk : SLk) (Ck : SCk) (Jd : SJd) (Ld : SLd) (Pr : SPr) {r : Int32 × STx × SRd} (h : m_Rd_readValue_j31 n rec tc Rd = some r) : o_At p l e (rm_Rd_readValue (d + 1)) s m args below meth c (MQ below (o_Qx D o_cls (some (.int r.1)) (o_cw ad ca 1 Sj r.2.1 T1 r.2.2 Pg Pt Mk Lk Ck Jd Ld Pr) A) args s 0 0 A) o_cls D A 6 31 [] (o_cw ad ca 1 Sj tc T1 Rd Pg Pt Mk Lk Ck Jd Ld Pr) [(0, .ref (ad 23))] := by
  unfold m_Rd_readValue_j31 at h
  intro H locs ls hP hS hl
  have C0 := C
  obtain ⟨hx, hb, -, -, -, hown, hts, hK, -, -⟩ := C0
  refine lv_aload_n hx hb d_Rd_readValue_31 rfl (lv_at hl 0 rfl) ?_
  refine lv_aload_n hx hb d_Rd_readValue_32 rfl (lv_at hl 0 rfl) ?_
  refine o_get (v := .int (Rd_position Rd)) C in_Rd hP 23 cw_23 rfl 3 (by decide) k_1_97 rfl rfl d_Rd_readValue_33 ?_
  obtain ⟨q4, hq4, h⟩ := o_bd_some h
  refine o_V (st1 := [.int q4.1]) (w1 := (o_cw ad ca 1 Sj tc T1 q4.2 Pg Pt Mk Lk Ck Jd Ld Pr)) hE.1 C (c_Rd_refuse hE l (Rd_position Rd) Rd Sj tc T1 Pg Pt Mk Lk Ck Jd Ld Pr 1 hq4) hP (hDD _ _ _ _ _ _ _ _ _ _ _ _ _) hS hl.1 rfl cw_23 k_3_48 k_3_50 k_s_4 k_1_3 k_3_51 hv_Rd_refuse rfl rfl ⟨(by dsimp only [rm_Rd_readValue, rm_Rd_refuse]; omega), (by dsimp only [rm_Rd_readValue, rm_Rd_refuse]; omega)⟩ rfl (Nat.le_of_ble_eq_true rfl) ⟨Nat.zero_le _, Nat.zero_le _⟩ rfl d_Rd_readValue_36 (fun H locs hP hS => ?_)
  obtain ⟨g2, h⟩ := o_gd_some h
  cases h
  exact o_rz C (o_zb_nar g2) hP hS d_Rd_readValue_39
set_option maxHeartbeats 4000000 in
set_option maxRecDepth 100000 in
theorem w_Rd_readValue_j40_0 {E : (Nat → Prop) → State → Heap → Prop} {p : Program} {l : Launch} {e : Env} {s : State} {m : MethodId} {args : Array Value} {below : List Frame} {meth : Method} {c : Code} {D : va_G} {ad kd sd vd xd : Nat → Nat} {ca : Nat → ClassId} {A : Nat → Prop} (hE : o_EK E kd sd vd xd) (C : o_Cx E p s m args meth c D o_cls (o_tys ca) "SchemaJudge$Reader" b_Rd_readValue (some .boolean) 6 cc_Rd_readValue A) (hDD : ∀ (rt : Nat) (Sj : SSJ) (T0 : STx) (T1 : STx) (Rd : SRd) (Pg : SPg) (Pt : SPt) (Mk : SMk) (Lk : SLk) (Ck : SCk) (Jd : SJd) (Ld : SLd) (Pr : SPr), va_D A (o_cw ad ca rt Sj T0 T1 Rd Pg Pt Mk Lk Ck Jd Ld Pr)) (d : Nat) (rec : Int32 → Int32 → Int32 → STx → SRd → Option (Int32 × STx × SRd)) (hrec : ∀ (x1 : Int32) (x2 : Int32) (x3 : Int32) (tc : STx) (Rd : SRd) (Sj : SSJ) (T1 : STx) (Pg : SPg) (Pt : SPt) (Mk : SMk) (Lk : SLk) (Ck : SCk) (Jd : SJd) (Ld : SLd) (Pr : SPr) (r : Int32 × STx × SRd), rec x1 x2 x3 tc Rd = some r → o_Cn E l D o_cls (o_tys ca) y_Rd_readValue cc_Rd_readValue (rm_Rd_readValue d) [.ref (ad 23), .int x1, .int x2, .int x3] (o_cw ad ca 1 Sj tc T1 Rd Pg Pt Mk Lk Ck Jd Ld Pr) (o_cw ad ca 1 Sj r.2.1 T1 r.2.2 Pg Pt Mk Lk Ck Jd Ld Pr) (some (.int r.1))) (n : Nat) (x1 : Int32) (x2 : Int32) (x3 : Int32) (x4 : Int32) (tc : STx) (Rd : SRd) (Sj : SSJ) (T1 : STx) (Pg : SPg) (Pt : SPt) (Mk : SMk) (Lk : SLk) (Ck : SCk) (Jd : SJd) (Ld : SLd) (Pr : SPr) {r : Int32 × STx × SRd} (h : m_Rd_readValue_j40 n rec x1 x2 x3 x4 tc Rd = some r) : o_At p l e (rm_Rd_readValue (d + 1)) s m args below meth c (MQ below (o_Qx D o_cls (some (.int r.1)) (o_cw ad ca 1 Sj r.2.1 T1 r.2.2 Pg Pt Mk Lk Ck Jd Ld Pr) A) args s 0 0 A) o_cls D A 6 40 [] (o_cw ad ca 1 Sj tc T1 Rd Pg Pt Mk Lk Ck Jd Ld Pr) [(0, .ref (ad 23)), (1, .int x1), (2, .int x2), (3, .int x3), (4, .int x4)] := by
  unfold m_Rd_readValue_j40 at h
  intro H locs ls hP hS hl
  have C0 := C
  obtain ⟨hx, hb, -, -, -, hown, hts, hK, -, -⟩ := C0
  refine lv_aload_n hx hb d_Rd_readValue_40 rfl (lv_at hl 0 rfl) ?_
  refine o_get (v := .ref (ad 1)) C in_Rd hP 23 cw_23 rfl 2 (by decide) k_1_96 rfl rfl d_Rd_readValue_41 ?_
  refine lv_iload hx hb d_Rd_readValue_44 (lv_at hl 4 rfl) ?_
  refine lv_aload_n hx hb d_Rd_readValue_46 rfl (lv_at hl 0 rfl) ?_
  refine o_get (v := .int (Rd_position Rd)) C in_Rd hP 23 cw_23 rfl 3 (by decide) k_1_97 rfl rfl d_Rd_readValue_47 ?_
  refine lv_iload_n hx hb d_Rd_readValue_50 rfl (lv_at hl 1 rfl) ?_
  refine lv_iload_n hx hb d_Rd_readValue_51 rfl (lv_at hl 2 rfl) ?_
  obtain ⟨q5, hq5, h⟩ := o_bd_some h
  refine o_V (st1 := [.int q5.1]) (w1 := (o_cw ad ca 1 Sj q5.2 T1 Rd Pg Pt Mk Lk Ck Jd Ld Pr)) hE.1 C (c_Tx_begin_0 hE l x4 (Rd_position Rd) x1 x2 tc Sj T1 Rd Pg Pt Mk Lk Ck Jd Ld Pr 1 hq5) hP (hDD _ _ _ _ _ _ _ _ _ _ _ _ _) hS hl.1 rfl cw_1 k_3_52 k_3_53 k_3_54 k_1_2 k_3_55 hv_Tx_begin rfl rfl ⟨(by dsimp only [rm_Rd_readValue, rm_Tx_begin]; omega), (by dsimp only [rm_Rd_readValue, rm_Tx_begin]; omega)⟩ rfl (Nat.le_of_ble_eq_true rfl) ⟨Nat.zero_le _, Nat.zero_le _⟩ rfl d_Rd_readValue_52 (fun H locs hP hS => ?_)
  refine lv_istore (lv' := [(5, .int q5.1), (0, .ref (ad 23)), (1, .int x1), (2, .int x2), (3, .int x3), (4, .int x4)]) hx hb d_Rd_readValue_55 hl (by decide) rfl (fun ls hl => ?_)
  refine lv_iload hx hb d_Rd_readValue_57 (lv_at hl 0 rfl) ?_
  refine lv_iconst (v := (-1:Int32)) hx hb d_Rd_readValue_59 (by decide) ?_
  refine lv_icmp_ne (tgt := 72) hx hb d_Rd_readValue_60 (by decide) (fun c4 => ?_) (fun c4 => ?_)
  · replace h := o_ff c4 h
    refine lv_iload hx hb d_Rd_readValue_72 (lv_at hl 5 rfl) ?_
    by_cases c5 : x4 = (0:Int32)
    · replace h := o_tt c5 h
      refine lv_tableIn (off := 38) (tgt := 112) hx hb d_Rd_readValue_74 (by rw [c5]; decide) (by rw [c5]; decide) (by rw [c5]; rfl) (by decide) ?_
      refine lv_aload_n hx hb d_Rd_readValue_112 rfl (lv_at hl 1 rfl) ?_
      refine va_ldcS (q := sd 2) hx hb hown (hE.2.2.2.2.2.1 _ _ _ C.2.2.2.2.2.2.2.2.2 ("SchemaJudge$Reader", 63, "null", 2) (List.mem_of_getElem? (i := 2) rfl)) d_Rd_readValue_113 ?_
      obtain ⟨q6, hq6, h⟩ := o_bd_some h
      refine o_V (st1 := [.int q6.1]) (w1 := (o_cw ad ca 1 Sj q5.2 T1 q6.2 Pg Pt Mk Lk Ck Jd Ld Pr)) hE.1 C (c_Rd_readWord hE l n 2 rfl Rd Sj q5.2 T1 Pg Pt Mk Lk Ck Jd Ld Pr 1 hq6) hP (hDD _ _ _ _ _ _ _ _ _ _ _ _ _) hS hl.1 rfl cw_23 k_3_57 k_3_59 k_s_5 k_1_3 k_3_60 hv_Rd_readWord rfl rfl ⟨(by dsimp only [rm_Rd_readValue, rm_Rd_readWord]; omega), (by dsimp only [rm_Rd_readValue, rm_Rd_readWord]; omega)⟩ rfl (Nat.le_of_ble_eq_true rfl) ⟨Nat.zero_le _, Nat.zero_le _⟩ rfl d_Rd_readValue_115 (fun H locs hP hS => ?_)
      obtain ⟨g6, h⟩ := o_gd_some h
      cases h
      exact o_rz C (o_zb_nar g6) hP hS d_Rd_readValue_118
    replace h := o_ff c5 h
    by_cases c7 : x4 = (1:Int32)
    · replace h := o_tt c7 h
      refine lv_tableIn (off := 45) (tgt := 119) hx hb d_Rd_readValue_74 (by rw [c7]; decide) (by rw [c7]; decide) (by rw [c7]; rfl) (by decide) ?_
      refine lv_aload_n hx hb d_Rd_readValue_119 rfl (lv_at hl 1 rfl) ?_
      refine va_ldcS (q := sd 3) hx hb hown (hE.2.2.2.2.2.1 _ _ _ C.2.2.2.2.2.2.2.2.2 ("SchemaJudge$Reader", 69, "false", 3) (List.mem_of_getElem? (i := 3) rfl)) d_Rd_readValue_120 ?_
      obtain ⟨q7, hq7, h⟩ := o_bd_some h
      refine o_V (st1 := [.int q7.1]) (w1 := (o_cw ad ca 1 Sj q5.2 T1 q7.2 Pg Pt Mk Lk Ck Jd Ld Pr)) hE.1 C (c_Rd_readWord hE l n 3 rfl Rd Sj q5.2 T1 Pg Pt Mk Lk Ck Jd Ld Pr 1 hq7) hP (hDD _ _ _ _ _ _ _ _ _ _ _ _ _) hS hl.1 rfl cw_23 k_3_57 k_3_59 k_s_5 k_1_3 k_3_60 hv_Rd_readWord rfl rfl ⟨(by dsimp only [rm_Rd_readValue, rm_Rd_readWord]; omega), (by dsimp only [rm_Rd_readValue, rm_Rd_readWord]; omega)⟩ rfl (Nat.le_of_ble_eq_true rfl) ⟨Nat.zero_le _, Nat.zero_le _⟩ rfl d_Rd_readValue_122 (fun H locs hP hS => ?_)
      obtain ⟨g8, h⟩ := o_gd_some h
      cases h
      exact o_rz C (o_zb_nar g8) hP hS d_Rd_readValue_125
    replace h := o_ff c7 h
    by_cases c9 : x4 = (2:Int32)
    · replace h := o_tt c9 h
      refine lv_tableIn (off := 52) (tgt := 126) hx hb d_Rd_readValue_74 (by rw [c9]; decide) (by rw [c9]; decide) (by rw [c9]; rfl) (by decide) ?_
      refine lv_aload_n hx hb d_Rd_readValue_126 rfl (lv_at hl 1 rfl) ?_
      refine va_ldcS (q := sd 4) hx hb hown (hE.2.2.2.2.2.1 _ _ _ C.2.2.2.2.2.2.2.2.2 ("SchemaJudge$Reader", 71, "true", 4) (List.mem_of_getElem? (i := 4) rfl)) d_Rd_readValue_127 ?_
      obtain ⟨q8, hq8, h⟩ := o_bd_some h
      refine o_V (st1 := [.int q8.1]) (w1 := (o_cw ad ca 1 Sj q5.2 T1 q8.2 Pg Pt Mk Lk Ck Jd Ld Pr)) hE.1 C (c_Rd_readWord hE l n 4 rfl Rd Sj q5.2 T1 Pg Pt Mk Lk Ck Jd Ld Pr 1 hq8) hP (hDD _ _ _ _ _ _ _ _ _ _ _ _ _) hS hl.1 rfl cw_23 k_3_57 k_3_59 k_s_5 k_1_3 k_3_60 hv_Rd_readWord rfl rfl ⟨(by dsimp only [rm_Rd_readValue, rm_Rd_readWord]; omega), (by dsimp only [rm_Rd_readValue, rm_Rd_readWord]; omega)⟩ rfl (Nat.le_of_ble_eq_true rfl) ⟨Nat.zero_le _, Nat.zero_le _⟩ rfl d_Rd_readValue_129 (fun H locs hP hS => ?_)
      obtain ⟨g10, h⟩ := o_gd_some h
      cases h
      exact o_rz C (o_zb_nar g10) hP hS d_Rd_readValue_132
    replace h := o_ff c9 h
    by_cases c11 : x4 = (3:Int32)
    · replace h := o_tt c11 h
      refine lv_tableIn (off := 59) (tgt := 133) hx hb d_Rd_readValue_74 (by rw [c11]; decide) (by rw [c11]; decide) (by rw [c11]; rfl) (by decide) ?_
      refine lv_aload_n hx hb d_Rd_readValue_133 rfl (lv_at hl 1 rfl) ?_
      refine lv_iload hx hb d_Rd_readValue_134 (lv_at hl 0 rfl) ?_
      obtain ⟨q9, hq9, h⟩ := o_bd_some h
      refine o_V (st1 := [.int q9.1]) (w1 := (o_cw ad ca 1 Sj q9.2.1 T1 q9.2.2 Pg Pt Mk Lk Ck Jd Ld Pr)) hE.1 C (c_Rd_readNumber_0 hE l n q5.1 q5.2 Rd Sj T1 Pg Pt Mk Lk Ck Jd Ld Pr hq9) hP (hDD _ _ _ _ _ _ _ _ _ _ _ _ _) hS hl.1 rfl cw_23 k_3_111 k_3_113 k_s_6 k_1_3 k_3_114 hv_Rd_readNumber rfl rfl ⟨(by dsimp only [rm_Rd_readValue, rm_Rd_readNumber]; omega), (by dsimp only [rm_Rd_readValue, rm_Rd_readNumber]; omega)⟩ rfl (Nat.le_of_ble_eq_true rfl) ⟨Nat.zero_le _, Nat.zero_le _⟩ rfl d_Rd_readValue_136 (fun H locs hP hS => ?_)
      obtain ⟨g12, h⟩ := o_gd_some h
      cases h
      exact o_rz C (o_zb_nar g12) hP hS d_Rd_readValue_139
    replace h := o_ff c11 h
    by_cases c13 : x4 = (4:Int32)
    · replace h := o_tt c13 h
      refine lv_tableIn (off := 66) (tgt := 140) hx hb d_Rd_readValue_74 (by rw [c13]; decide) (by rw [c13]; decide) (by rw [c13]; rfl) (by decide) ?_
      refine lv_aload_n hx hb d_Rd_readValue_140 rfl (lv_at hl 1 rfl) ?_
      refine lv_iload hx hb d_Rd_readValue_141 (lv_at hl 0 rfl) ?_
      obtain ⟨q10, hq10, h⟩ := o_bd_some h
      refine o_V (st1 := [.int q10.1]) (w1 := (o_cw ad ca 1 Sj q10.2.1 T1 q10.2.2 Pg Pt Mk Lk Ck Jd Ld Pr)) hE.1 C (c_Rd_readString_0 hE l n q5.1 q5.2 Rd Sj T1 Pg Pt Mk Lk Ck Jd Ld Pr hq10) hP (hDD _ _ _ _ _ _ _ _ _ _ _ _ _) hS hl.1 rfl cw_23 k_3_131 k_3_133 k_s_9 k_1_3 k_3_134 hv_Rd_readString rfl rfl ⟨(by dsimp only [rm_Rd_readValue, rm_Rd_readString]; omega), (by dsimp only [rm_Rd_readValue, rm_Rd_readString]; omega)⟩ rfl (Nat.le_of_ble_eq_true rfl) ⟨Nat.zero_le _, Nat.zero_le _⟩ rfl d_Rd_readValue_143 (fun H locs hP hS => ?_)
      obtain ⟨g14, h⟩ := o_gd_some h
      cases h
      exact o_rz C (o_zb_nar g14) hP hS d_Rd_readValue_146
    replace h := o_ff c13 h
    by_cases c15 : x4 = (5:Int32)
    · replace h := o_tt c15 h
      refine lv_tableIn (off := 73) (tgt := 147) hx hb d_Rd_readValue_74 (by rw [c15]; decide) (by rw [c15]; decide) (by rw [c15]; rfl) (by decide) ?_
      refine lv_aload_n hx hb d_Rd_readValue_147 rfl (lv_at hl 1 rfl) ?_
      refine lv_iload hx hb d_Rd_readValue_148 (lv_at hl 0 rfl) ?_
      refine lv_iload_n hx hb d_Rd_readValue_150 rfl (lv_at hl 4 rfl) ?_
      obtain ⟨q11, hq11, h⟩ := o_bd_some h
      refine o_V (st1 := [.int q11.1]) (w1 := (o_cw ad ca 1 Sj q11.2.1 T1 q11.2.2 Pg Pt Mk Lk Ck Jd Ld Pr)) hE.1 C (c_Rd_readArray_0 hE l n d rec hrec q5.1 x3 q5.2 Rd Sj T1 Pg Pt Mk Lk Ck Jd Ld Pr hq11) hP (hDD _ _ _ _ _ _ _ _ _ _ _ _ _) hS hl.1 rfl cw_23 k_3_186 k_3_188 k_s_14 k_1_3 k_3_189 hv_Rd_readArray rfl rfl ⟨(by dsimp only [rm_Rd_readValue, rm_Rd_readArray]; omega), (by dsimp only [rm_Rd_readValue, rm_Rd_readArray]; omega)⟩ rfl (Nat.le_of_ble_eq_true rfl) ⟨Nat.zero_le _, Nat.zero_le _⟩ rfl d_Rd_readValue_151 (fun H locs hP hS => ?_)
      obtain ⟨g16, h⟩ := o_gd_some h
      cases h
      exact o_rz C (o_zb_nar g16) hP hS d_Rd_readValue_154
    replace h := o_ff c15 h
    refine lv_tableOut (tgt := 155) hx hb d_Rd_readValue_74 (by have ec5 := o_ne_i (n := 0) (by decide) c5; have ec7 := o_ne_i (n := 1) (by decide) c7; have ec9 := o_ne_i (n := 2) (by decide) c9; have ec11 := o_ne_i (n := 3) (by decide) c11; have ec13 := o_ne_i (n := 4) (by decide) c13; have ec15 := o_ne_i (n := 5) (by decide) c15; omega) (by decide) ?_
    refine lv_aload_n hx hb d_Rd_readValue_155 rfl (lv_at hl 1 rfl) ?_
    refine lv_iload hx hb d_Rd_readValue_156 (lv_at hl 0 rfl) ?_
    refine lv_iload_n hx hb d_Rd_readValue_158 rfl (lv_at hl 4 rfl) ?_
    obtain ⟨q12, hq12, h⟩ := o_bd_some h
    refine o_V (st1 := [.int q12.1]) (w1 := (o_cw ad ca 1 Sj q12.2.1 T1 q12.2.2 Pg Pt Mk Lk Ck Jd Ld Pr)) hE.1 C (c_Rd_readObject_0 hE l n d rec hrec q5.1 x3 q5.2 Rd Sj T1 Pg Pt Mk Lk Ck Jd Ld Pr hq12) hP (hDD _ _ _ _ _ _ _ _ _ _ _ _ _) hS hl.1 rfl cw_23 k_3_194 k_3_196 k_s_15 k_1_3 k_3_197 hv_Rd_readObject rfl rfl ⟨(by dsimp only [rm_Rd_readValue, rm_Rd_readObject]; omega), (by dsimp only [rm_Rd_readValue, rm_Rd_readObject]; omega)⟩ rfl (Nat.le_of_ble_eq_true rfl) ⟨Nat.zero_le _, Nat.zero_le _⟩ rfl d_Rd_readValue_159 (fun H locs hP hS => ?_)
    obtain ⟨g17, h⟩ := o_gd_some h
    cases h
    exact o_rz C (o_zb_nar g17) hP hS d_Rd_readValue_162
  · replace h := o_tt c4 h
    refine lv_aload_n hx hb d_Rd_readValue_63 rfl (lv_at hl 1 rfl) ?_
    refine lv_aload_n hx hb d_Rd_readValue_64 rfl (lv_at hl 1 rfl) ?_
    refine o_get (v := .int (Rd_position Rd)) C in_Rd hP 23 cw_23 rfl 3 (by decide) k_1_97 rfl rfl d_Rd_readValue_65 ?_
    obtain ⟨q13, hq13, h⟩ := o_bd_some h
    refine o_V (st1 := [.int q13.1]) (w1 := (o_cw ad ca 1 Sj q5.2 T1 q13.2 Pg Pt Mk Lk Ck Jd Ld Pr)) hE.1 C (c_Rd_refuse hE l (Rd_position Rd) Rd Sj q5.2 T1 Pg Pt Mk Lk Ck Jd Ld Pr 1 hq13) hP (hDD _ _ _ _ _ _ _ _ _ _ _ _ _) hS hl.1 rfl cw_23 k_3_48 k_3_50 k_s_4 k_1_3 k_3_51 hv_Rd_refuse rfl rfl ⟨(by dsimp only [rm_Rd_readValue, rm_Rd_refuse]; omega), (by dsimp only [rm_Rd_readValue, rm_Rd_refuse]; omega)⟩ rfl (Nat.le_of_ble_eq_true rfl) ⟨Nat.zero_le _, Nat.zero_le _⟩ rfl d_Rd_readValue_68 (fun H locs hP hS => ?_)
    obtain ⟨g18, h⟩ := o_gd_some h
    cases h
    exact o_rz C (o_zb_nar g18) hP hS d_Rd_readValue_71
set_option maxHeartbeats 4000000 in
set_option maxRecDepth 100000 in
theorem c_Rd_readValue_0_F {E : (Nat → Prop) → State → Heap → Prop} {D : va_G} {ad kd sd vd xd : Nat → Nat} {ca : Nat → ClassId} (hE : o_EK E kd sd vd xd) (l : Launch) (n : Nat) (d : Nat) (rec : Int32 → Int32 → Int32 → STx → SRd → Option (Int32 × STx × SRd)) (hrec : ∀ (x1 : Int32) (x2 : Int32) (x3 : Int32) (tc : STx) (Rd : SRd) (Sj : SSJ) (T1 : STx) (Pg : SPg) (Pt : SPt) (Mk : SMk) (Lk : SLk) (Ck : SCk) (Jd : SJd) (Ld : SLd) (Pr : SPr) (r : Int32 × STx × SRd), rec x1 x2 x3 tc Rd = some r → o_Cn E l D o_cls (o_tys ca) y_Rd_readValue cc_Rd_readValue (rm_Rd_readValue d) [.ref (ad 23), .int x1, .int x2, .int x3] (o_cw ad ca 1 Sj tc T1 Rd Pg Pt Mk Lk Ck Jd Ld Pr) (o_cw ad ca 1 Sj r.2.1 T1 r.2.2 Pg Pt Mk Lk Ck Jd Ld Pr) (some (.int r.1))) (x1 : Int32) (x2 : Int32) (x3 : Int32) (tc : STx) (Rd : SRd) (Sj : SSJ) (T1 : STx) (Pg : SPg) (Pt : SPt) (Mk : SMk) (Lk : SLk) (Ck : SCk) (Jd : SJd) (Ld : SLd) (Pr : SPr) {r : Int32 × STx × SRd} (h : m_Rd_readValue_F n rec x1 x2 x3 tc Rd = some r) : o_Cn E l D o_cls (o_tys ca) y_Rd_readValue cc_Rd_readValue (rm_Rd_readValue (d + 1)) [.ref (ad 23), .int x1, .int x2, .int x3] (o_cw ad ca 1 Sj tc T1 Rd Pg Pt Mk Lk Ck Jd Ld Pr) (o_cw ad ca 1 Sj r.2.1 T1 r.2.2 Pg Pt Mk Lk Ck Jd Ld Pr) (some (.int r.1)) := by
  refine o_Cn_of (by decide) (Nat.le_of_ble_eq_true rfl) ?_
  intro p e s m below meth c A ls C hD hP hS hl
  have hDD : ∀ (rt : Nat) (Sj : SSJ) (T0 : STx) (T1 : STx) (Rd : SRd) (Pg : SPg) (Pt : SPt) (Mk : SMk) (Lk : SLk) (Ck : SCk) (Jd : SJd) (Ld : SLd) (Pr : SPr), va_D A (o_cw ad ca rt Sj T0 T1 Rd Pg Pt Mk Lk Ck Jd Ld Pr) := fun _ _ _ _ _ _ _ _ _ _ _ _ _ => o_D_map hD rfl
  have hl : lv_has ls 6 [(0, .ref (ad 23)), (1, .int x1), (2, .int x2), (3, .int x3)] := hl
  unfold m_Rd_readValue_F at h
  have C0 := C
  obtain ⟨hx, hb, -, -, -, hown, hts, hK, -, -⟩ := C0
  refine lv_aload_n hx hb d_Rd_readValue_0 rfl (lv_at hl 0 rfl) ?_
  obtain ⟨q1, hq1, h⟩ := o_bd_some h
  refine o_V (st1 := []) (w1 := (o_cw ad ca 1 Sj tc T1 q1 Pg Pt Mk Lk Ck Jd Ld Pr)) hE.1 C (c_Rd_skipBlanks hE l n Rd Sj tc T1 Pg Pt Mk Lk Ck Jd Ld Pr 1 hq1) hP (hDD _ _ _ _ _ _ _ _ _ _ _ _ _) hS hl.1 rfl cw_23 k_3_34 k_3_36 k_s_2 k_1_3 k_3_37 hv_Rd_skipBlanks rfl rfl ⟨(by dsimp only [rm_Rd_readValue, rm_Rd_skipBlanks]; omega), (by dsimp only [rm_Rd_readValue, rm_Rd_skipBlanks]; omega)⟩ rfl (Nat.le_of_ble_eq_true rfl) ⟨Nat.zero_le _, Nat.zero_le _⟩ rfl d_Rd_readValue_1 (fun H locs hP hS => ?_)
  refine lv_aload_n hx hb d_Rd_readValue_4 rfl (lv_at hl 0 rfl) ?_
  obtain ⟨q2, hq2, h⟩ := o_bd_some h
  refine o_V (st1 := [.int q2]) (w1 := (o_cw ad ca 1 Sj tc T1 q1 Pg Pt Mk Lk Ck Jd Ld Pr)) hE.1 C (c_Rd_peek hE l q1 Sj tc T1 Pg Pt Mk Lk Ck Jd Ld Pr 1 hq2) hP (hDD _ _ _ _ _ _ _ _ _ _ _ _ _) hS hl.1 rfl cw_23 k_3_38 k_3_40 k_s_3 k_1_3 k_3_41 hv_Rd_peek rfl rfl ⟨(by dsimp only [rm_Rd_readValue, rm_Rd_peek]; omega), (by dsimp only [rm_Rd_readValue, rm_Rd_peek]; omega)⟩ rfl (Nat.le_of_ble_eq_true rfl) ⟨Nat.zero_le _, Nat.zero_le _⟩ rfl d_Rd_readValue_5 (fun H locs hP hS => ?_)
  obtain ⟨q3, hq3, h⟩ := o_bd_some h
  refine o_S (st1 := [.int q3]) (w1 := (o_cw ad ca 1 Sj tc T1 q1 Pg Pt Mk Lk Ck Jd Ld Pr)) hE.1 C (c_Rd_kindThatBegins hE l q2 Sj tc T1 q1 Pg Pt Mk Lk Ck Jd Ld Pr 1 hq3) hP (hDD _ _ _ _ _ _ _ _ _ _ _ _ _) hS hl.1 k_3_42 k_3_43 k_1_3 k_3_44 hs_Rd_kindThatBegins rfl rfl ⟨(by dsimp only [rm_Rd_readValue, rm_Rd_kindThatBegins]; omega), (by dsimp only [rm_Rd_readValue, rm_Rd_kindThatBegins]; omega)⟩ rfl (Nat.le_of_ble_eq_true rfl) ⟨Nat.zero_le _, Nat.zero_le _⟩ rfl d_Rd_readValue_8 (fun H locs hP hS => ?_)
  refine lv_istore (lv' := [(4, .int q3), (0, .ref (ad 23)), (1, .int x1), (2, .int x2), (3, .int x3)]) hx hb d_Rd_readValue_11 hl (by decide) rfl (fun ls hl => ?_)
  refine lv_iload hx hb d_Rd_readValue_13 (lv_at hl 0 rfl) ?_
  refine lv_iconst (v := (-1:Int32)) hx hb d_Rd_readValue_15 (by decide) ?_
  refine lv_icmp_eq (tgt := 31) hx hb d_Rd_readValue_16 (by decide) (fun c1 => ?_) (fun c1 => ?_)
  · replace h := o_tt c1 h
    exact w_Rd_readValue_j31_0 hE C hDD d rec hrec n tc q1 Sj T1 Pg Pt Mk Lk Ck Jd Ld Pr h _ _ _ hP hS (lv_sub hl [1] rfl)
  · replace h := o_ff c1 h
    refine lv_iload hx hb d_Rd_readValue_19 (lv_at hl 0 rfl) ?_
    refine lv_iconst (v := (5:Int32)) hx hb d_Rd_readValue_21 (by decide) ?_
    refine lv_icmp_lt (tgt := 40) hx hb d_Rd_readValue_22 (by decide) (fun c3 => ?_) (fun c3 => ?_)
    · replace h := o_tt c3 h
      exact w_Rd_readValue_j40_0 hE C hDD d rec hrec n x1 x2 x3 q3 tc q1 Sj T1 Pg Pt Mk Lk Ck Jd Ld Pr h _ _ _ hP hS (lv_sub hl [1, 2, 3, 4, 0] rfl)
    · replace h := o_ff c3 h
      refine lv_iload_n hx hb d_Rd_readValue_25 rfl (lv_at hl 4 rfl) ?_
      refine lv_bipush (v := (40:Int32)) hx hb d_Rd_readValue_26 (by decide) ?_
      refine lv_icmp_le (tgt := 40) hx hb d_Rd_readValue_28 (by decide) (fun c19 => ?_) (fun c19 => ?_)
      · replace h := o_tt c19 h
        exact w_Rd_readValue_j40_0 hE C hDD d rec hrec n x1 x2 x3 q3 tc q1 Sj T1 Pg Pt Mk Lk Ck Jd Ld Pr h _ _ _ hP hS (lv_sub hl [1, 2, 3, 4, 0] rfl)
      · replace h := o_ff c19 h
        exact w_Rd_readValue_j31_0 hE C hDD d rec hrec n tc q1 Sj T1 Pg Pt Mk Lk Ck Jd Ld Pr h _ _ _ hP hS (lv_sub hl [1] rfl)
set_option maxHeartbeats 4000000 in
set_option maxRecDepth 100000 in
theorem c_Rd_readValue_0 {E : (Nat → Prop) → State → Heap → Prop} {D : va_G} {ad kd sd vd xd : Nat → Nat} {ca : Nat → ClassId} (hE : o_EK E kd sd vd xd) (l : Launch) (n : Nat) (d : Nat) (x1 : Int32) (x2 : Int32) (x3 : Int32) (tc : STx) (Rd : SRd) (Sj : SSJ) (T1 : STx) (Pg : SPg) (Pt : SPt) (Mk : SMk) (Lk : SLk) (Ck : SCk) (Jd : SJd) (Ld : SLd) (Pr : SPr) {r : Int32 × STx × SRd} (h : m_Rd_readValue n d x1 x2 x3 tc Rd = some r) : o_Cn E l D o_cls (o_tys ca) y_Rd_readValue cc_Rd_readValue (rm_Rd_readValue d) [.ref (ad 23), .int x1, .int x2, .int x3] (o_cw ad ca 1 Sj tc T1 Rd Pg Pt Mk Lk Ck Jd Ld Pr) (o_cw ad ca 1 Sj r.2.1 T1 r.2.2 Pg Pt Mk Lk Ck Jd Ld Pr) (some (.int r.1)) := by
  induction d generalizing x1 x2 x3 tc Rd Sj T1 Pg Pt Mk Lk Ck Jd Ld Pr r with
  | zero => cases h
  | succ d ih =>
    exact c_Rd_readValue_0_F hE l n d (m_Rd_readValue n d) (fun x1 x2 x3 tc Rd Sj T1 Pg Pt Mk Lk Ck Jd Ld Pr r h => ih x1 x2 x3 tc Rd Sj T1 Pg Pt Mk Lk Ck Jd Ld Pr h) _ _ _ _ _ _ _ _ _ _ _ _ _ _ _ h
set_option maxHeartbeats 4000000 in
set_option maxRecDepth 100000 in
theorem w_Rd_readValue_j31_1 {E : (Nat → Prop) → State → Heap → Prop} {p : Program} {l : Launch} {e : Env} {s : State} {m : MethodId} {args : Array Value} {below : List Frame} {meth : Method} {c : Code} {D : va_G} {ad kd sd vd xd : Nat → Nat} {ca : Nat → ClassId} {A : Nat → Prop} (hE : o_EK E kd sd vd xd) (C : o_Cx E p s m args meth c D o_cls (o_tys ca) "SchemaJudge$Reader" b_Rd_readValue (some .boolean) 6 cc_Rd_readValue A) (hDD : ∀ (rt : Nat) (Sj : SSJ) (T0 : STx) (T1 : STx) (Rd : SRd) (Pg : SPg) (Pt : SPt) (Mk : SMk) (Lk : SLk) (Ck : SCk) (Jd : SJd) (Ld : SLd) (Pr : SPr), va_D A (o_cw ad ca rt Sj T0 T1 Rd Pg Pt Mk Lk Ck Jd Ld Pr)) (d : Nat) (rec : Int32 → Int32 → Int32 → STx → SRd → Option (Int32 × STx × SRd)) (hrec : ∀ (x1 : Int32) (x2 : Int32) (x3 : Int32) (tc : STx) (Rd : SRd) (Sj : SSJ) (T0 : STx) (Pg : SPg) (Pt : SPt) (Mk : SMk) (Lk : SLk) (Ck : SCk) (Jd : SJd) (Ld : SLd) (Pr : SPr) (r : Int32 × STx × SRd), rec x1 x2 x3 tc Rd = some r → o_Cn E l D o_cls (o_tys ca) y_Rd_readValue cc_Rd_readValue (rm_Rd_readValue d) [.ref (ad 23), .int x1, .int x2, .int x3] (o_cw ad ca 12 Sj T0 tc Rd Pg Pt Mk Lk Ck Jd Ld Pr) (o_cw ad ca 12 Sj T0 r.2.1 r.2.2 Pg Pt Mk Lk Ck Jd Ld Pr) (some (.int r.1))) (n : Nat)  (tc : STx) (Rd : SRd) (Sj : SSJ) (T0 : STx) (Pg : SPg) (Pt : SPt) (Mk : SMk) (Lk : SLk) (Ck : SCk) (Jd : SJd) (Ld : SLd) (Pr : SPr) {r : Int32 × STx × SRd} (h : m_Rd_readValue_j31 n rec tc Rd = some r) : o_At p l e (rm_Rd_readValue (d + 1)) s m args below meth c (MQ below (o_Qx D o_cls (some (.int r.1)) (o_cw ad ca 12 Sj T0 r.2.1 r.2.2 Pg Pt Mk Lk Ck Jd Ld Pr) A) args s 0 0 A) o_cls D A 6 31 [] (o_cw ad ca 12 Sj T0 tc Rd Pg Pt Mk Lk Ck Jd Ld Pr) [(0, .ref (ad 23))] := by
  unfold m_Rd_readValue_j31 at h
  intro H locs ls hP hS hl
  have C0 := C
  obtain ⟨hx, hb, -, -, -, hown, hts, hK, -, -⟩ := C0
  refine lv_aload_n hx hb d_Rd_readValue_31 rfl (lv_at hl 0 rfl) ?_
  refine lv_aload_n hx hb d_Rd_readValue_32 rfl (lv_at hl 0 rfl) ?_
  refine o_get (v := .int (Rd_position Rd)) C in_Rd hP 23 cw_23 rfl 3 (by decide) k_1_97 rfl rfl d_Rd_readValue_33 ?_
  obtain ⟨q4, hq4, h⟩ := o_bd_some h
  refine o_V (st1 := [.int q4.1]) (w1 := (o_cw ad ca 12 Sj T0 tc q4.2 Pg Pt Mk Lk Ck Jd Ld Pr)) hE.1 C (c_Rd_refuse hE l (Rd_position Rd) Rd Sj T0 tc Pg Pt Mk Lk Ck Jd Ld Pr 12 hq4) hP (hDD _ _ _ _ _ _ _ _ _ _ _ _ _) hS hl.1 rfl cw_23 k_3_48 k_3_50 k_s_4 k_1_3 k_3_51 hv_Rd_refuse rfl rfl ⟨(by dsimp only [rm_Rd_readValue, rm_Rd_refuse]; omega), (by dsimp only [rm_Rd_readValue, rm_Rd_refuse]; omega)⟩ rfl (Nat.le_of_ble_eq_true rfl) ⟨Nat.zero_le _, Nat.zero_le _⟩ rfl d_Rd_readValue_36 (fun H locs hP hS => ?_)
  obtain ⟨g2, h⟩ := o_gd_some h
  cases h
  exact o_rz C (o_zb_nar g2) hP hS d_Rd_readValue_39
set_option maxHeartbeats 4000000 in
set_option maxRecDepth 100000 in
theorem w_Rd_readValue_j40_1 {E : (Nat → Prop) → State → Heap → Prop} {p : Program} {l : Launch} {e : Env} {s : State} {m : MethodId} {args : Array Value} {below : List Frame} {meth : Method} {c : Code} {D : va_G} {ad kd sd vd xd : Nat → Nat} {ca : Nat → ClassId} {A : Nat → Prop} (hE : o_EK E kd sd vd xd) (C : o_Cx E p s m args meth c D o_cls (o_tys ca) "SchemaJudge$Reader" b_Rd_readValue (some .boolean) 6 cc_Rd_readValue A) (hDD : ∀ (rt : Nat) (Sj : SSJ) (T0 : STx) (T1 : STx) (Rd : SRd) (Pg : SPg) (Pt : SPt) (Mk : SMk) (Lk : SLk) (Ck : SCk) (Jd : SJd) (Ld : SLd) (Pr : SPr), va_D A (o_cw ad ca rt Sj T0 T1 Rd Pg Pt Mk Lk Ck Jd Ld Pr)) (d : Nat) (rec : Int32 → Int32 → Int32 → STx → SRd → Option (Int32 × STx × SRd)) (hrec : ∀ (x1 : Int32) (x2 : Int32) (x3 : Int32) (tc : STx) (Rd : SRd) (Sj : SSJ) (T0 : STx) (Pg : SPg) (Pt : SPt) (Mk : SMk) (Lk : SLk) (Ck : SCk) (Jd : SJd) (Ld : SLd) (Pr : SPr) (r : Int32 × STx × SRd), rec x1 x2 x3 tc Rd = some r → o_Cn E l D o_cls (o_tys ca) y_Rd_readValue cc_Rd_readValue (rm_Rd_readValue d) [.ref (ad 23), .int x1, .int x2, .int x3] (o_cw ad ca 12 Sj T0 tc Rd Pg Pt Mk Lk Ck Jd Ld Pr) (o_cw ad ca 12 Sj T0 r.2.1 r.2.2 Pg Pt Mk Lk Ck Jd Ld Pr) (some (.int r.1))) (n : Nat) (x1 : Int32) (x2 : Int32) (x3 : Int32) (x4 : Int32) (tc : STx) (Rd : SRd) (Sj : SSJ) (T0 : STx) (Pg : SPg) (Pt : SPt) (Mk : SMk) (Lk : SLk) (Ck : SCk) (Jd : SJd) (Ld : SLd) (Pr : SPr) {r : Int32 × STx × SRd} (h : m_Rd_readValue_j40 n rec x1 x2 x3 x4 tc Rd = some r) : o_At p l e (rm_Rd_readValue (d + 1)) s m args below meth c (MQ below (o_Qx D o_cls (some (.int r.1)) (o_cw ad ca 12 Sj T0 r.2.1 r.2.2 Pg Pt Mk Lk Ck Jd Ld Pr) A) args s 0 0 A) o_cls D A 6 40 [] (o_cw ad ca 12 Sj T0 tc Rd Pg Pt Mk Lk Ck Jd Ld Pr) [(0, .ref (ad 23)), (1, .int x1), (2, .int x2), (3, .int x3), (4, .int x4)] := by
  unfold m_Rd_readValue_j40 at h
  intro H locs ls hP hS hl
  have C0 := C
  obtain ⟨hx, hb, -, -, -, hown, hts, hK, -, -⟩ := C0
  refine lv_aload_n hx hb d_Rd_readValue_40 rfl (lv_at hl 0 rfl) ?_
  refine o_get (v := .ref (ad 12)) C in_Rd hP 23 cw_23 rfl 2 (by decide) k_1_96 rfl rfl d_Rd_readValue_41 ?_
  refine lv_iload hx hb d_Rd_readValue_44 (lv_at hl 4 rfl) ?_
  refine lv_aload_n hx hb d_Rd_readValue_46 rfl (lv_at hl 0 rfl) ?_
  refine o_get (v := .int (Rd_position Rd)) C in_Rd hP 23 cw_23 rfl 3 (by decide) k_1_97 rfl rfl d_Rd_readValue_47 ?_
  refine lv_iload_n hx hb d_Rd_readValue_50 rfl (lv_at hl 1 rfl) ?_
  refine lv_iload_n hx hb d_Rd_readValue_51 rfl (lv_at hl 2 rfl) ?_
  obtain ⟨q5, hq5, h⟩ := o_bd_some h
  refine o_V (st1 := [.int q5.1]) (w1 := (o_cw ad ca 12 Sj T0 q5.2 Rd Pg Pt Mk Lk Ck Jd Ld Pr)) hE.1 C (c_Tx_begin_1 hE l x4 (Rd_position Rd) x1 x2 tc Sj T0 Rd Pg Pt Mk Lk Ck Jd Ld Pr 12 hq5) hP (hDD _ _ _ _ _ _ _ _ _ _ _ _ _) hS hl.1 rfl cw_12 k_3_52 k_3_53 k_3_54 k_1_2 k_3_55 hv_Tx_begin rfl rfl ⟨(by dsimp only [rm_Rd_readValue, rm_Tx_begin]; omega), (by dsimp only [rm_Rd_readValue, rm_Tx_begin]; omega)⟩ rfl (Nat.le_of_ble_eq_true rfl) ⟨Nat.zero_le _, Nat.zero_le _⟩ rfl d_Rd_readValue_52 (fun H locs hP hS => ?_)
  refine lv_istore (lv' := [(5, .int q5.1), (0, .ref (ad 23)), (1, .int x1), (2, .int x2), (3, .int x3), (4, .int x4)]) hx hb d_Rd_readValue_55 hl (by decide) rfl (fun ls hl => ?_)
  refine lv_iload hx hb d_Rd_readValue_57 (lv_at hl 0 rfl) ?_
  refine lv_iconst (v := (-1:Int32)) hx hb d_Rd_readValue_59 (by decide) ?_
  refine lv_icmp_ne (tgt := 72) hx hb d_Rd_readValue_60 (by decide) (fun c4 => ?_) (fun c4 => ?_)
  · replace h := o_ff c4 h
    refine lv_iload hx hb d_Rd_readValue_72 (lv_at hl 5 rfl) ?_
    by_cases c5 : x4 = (0:Int32)
    · replace h := o_tt c5 h
      refine lv_tableIn (off := 38) (tgt := 112) hx hb d_Rd_readValue_74 (by rw [c5]; decide) (by rw [c5]; decide) (by rw [c5]; rfl) (by decide) ?_
      refine lv_aload_n hx hb d_Rd_readValue_112 rfl (lv_at hl 1 rfl) ?_
      refine va_ldcS (q := sd 2) hx hb hown (hE.2.2.2.2.2.1 _ _ _ C.2.2.2.2.2.2.2.2.2 ("SchemaJudge$Reader", 63, "null", 2) (List.mem_of_getElem? (i := 2) rfl)) d_Rd_readValue_113 ?_
      obtain ⟨q6, hq6, h⟩ := o_bd_some h
      refine o_V (st1 := [.int q6.1]) (w1 := (o_cw ad ca 12 Sj T0 q5.2 q6.2 Pg Pt Mk Lk Ck Jd Ld Pr)) hE.1 C (c_Rd_readWord hE l n 2 rfl Rd Sj T0 q5.2 Pg Pt Mk Lk Ck Jd Ld Pr 12 hq6) hP (hDD _ _ _ _ _ _ _ _ _ _ _ _ _) hS hl.1 rfl cw_23 k_3_57 k_3_59 k_s_5 k_1_3 k_3_60 hv_Rd_readWord rfl rfl ⟨(by dsimp only [rm_Rd_readValue, rm_Rd_readWord]; omega), (by dsimp only [rm_Rd_readValue, rm_Rd_readWord]; omega)⟩ rfl (Nat.le_of_ble_eq_true rfl) ⟨Nat.zero_le _, Nat.zero_le _⟩ rfl d_Rd_readValue_115 (fun H locs hP hS => ?_)
      obtain ⟨g6, h⟩ := o_gd_some h
      cases h
      exact o_rz C (o_zb_nar g6) hP hS d_Rd_readValue_118
    replace h := o_ff c5 h
    by_cases c7 : x4 = (1:Int32)
    · replace h := o_tt c7 h
      refine lv_tableIn (off := 45) (tgt := 119) hx hb d_Rd_readValue_74 (by rw [c7]; decide) (by rw [c7]; decide) (by rw [c7]; rfl) (by decide) ?_
      refine lv_aload_n hx hb d_Rd_readValue_119 rfl (lv_at hl 1 rfl) ?_
      refine va_ldcS (q := sd 3) hx hb hown (hE.2.2.2.2.2.1 _ _ _ C.2.2.2.2.2.2.2.2.2 ("SchemaJudge$Reader", 69, "false", 3) (List.mem_of_getElem? (i := 3) rfl)) d_Rd_readValue_120 ?_
      obtain ⟨q7, hq7, h⟩ := o_bd_some h
      refine o_V (st1 := [.int q7.1]) (w1 := (o_cw ad ca 12 Sj T0 q5.2 q7.2 Pg Pt Mk Lk Ck Jd Ld Pr)) hE.1 C (c_Rd_readWord hE l n 3 rfl Rd Sj T0 q5.2 Pg Pt Mk Lk Ck Jd Ld Pr 12 hq7) hP (hDD _ _ _ _ _ _ _ _ _ _ _ _ _) hS hl.1 rfl cw_23 k_3_57 k_3_59 k_s_5 k_1_3 k_3_60 hv_Rd_readWord rfl rfl ⟨(by dsimp only [rm_Rd_readValue, rm_Rd_readWord]; omega), (by dsimp only [rm_Rd_readValue, rm_Rd_readWord]; omega)⟩ rfl (Nat.le_of_ble_eq_true rfl) ⟨Nat.zero_le _, Nat.zero_le _⟩ rfl d_Rd_readValue_122 (fun H locs hP hS => ?_)
      obtain ⟨g8, h⟩ := o_gd_some h
      cases h
      exact o_rz C (o_zb_nar g8) hP hS d_Rd_readValue_125
    replace h := o_ff c7 h
    by_cases c9 : x4 = (2:Int32)
    · replace h := o_tt c9 h
      refine lv_tableIn (off := 52) (tgt := 126) hx hb d_Rd_readValue_74 (by rw [c9]; decide) (by rw [c9]; decide) (by rw [c9]; rfl) (by decide) ?_
      refine lv_aload_n hx hb d_Rd_readValue_126 rfl (lv_at hl 1 rfl) ?_
      refine va_ldcS (q := sd 4) hx hb hown (hE.2.2.2.2.2.1 _ _ _ C.2.2.2.2.2.2.2.2.2 ("SchemaJudge$Reader", 71, "true", 4) (List.mem_of_getElem? (i := 4) rfl)) d_Rd_readValue_127 ?_
      obtain ⟨q8, hq8, h⟩ := o_bd_some h
      refine o_V (st1 := [.int q8.1]) (w1 := (o_cw ad ca 12 Sj T0 q5.2 q8.2 Pg Pt Mk Lk Ck Jd Ld Pr)) hE.1 C (c_Rd_readWord hE l n 4 rfl Rd Sj T0 q5.2 Pg Pt Mk Lk Ck Jd Ld Pr 12 hq8) hP (hDD _ _ _ _ _ _ _ _ _ _ _ _ _) hS hl.1 rfl cw_23 k_3_57 k_3_59 k_s_5 k_1_3 k_3_60 hv_Rd_readWord rfl rfl ⟨(by dsimp only [rm_Rd_readValue, rm_Rd_readWord]; omega), (by dsimp only [rm_Rd_readValue, rm_Rd_readWord]; omega)⟩ rfl (Nat.le_of_ble_eq_true rfl) ⟨Nat.zero_le _, Nat.zero_le _⟩ rfl d_Rd_readValue_129 (fun H locs hP hS => ?_)
      obtain ⟨g10, h⟩ := o_gd_some h
      cases h
      exact o_rz C (o_zb_nar g10) hP hS d_Rd_readValue_132
    replace h := o_ff c9 h
    by_cases c11 : x4 = (3:Int32)
    · replace h := o_tt c11 h
      refine lv_tableIn (off := 59) (tgt := 133) hx hb d_Rd_readValue_74 (by rw [c11]; decide) (by rw [c11]; decide) (by rw [c11]; rfl) (by decide) ?_
      refine lv_aload_n hx hb d_Rd_readValue_133 rfl (lv_at hl 1 rfl) ?_
      refine lv_iload hx hb d_Rd_readValue_134 (lv_at hl 0 rfl) ?_
      obtain ⟨q9, hq9, h⟩ := o_bd_some h
      refine o_V (st1 := [.int q9.1]) (w1 := (o_cw ad ca 12 Sj T0 q9.2.1 q9.2.2 Pg Pt Mk Lk Ck Jd Ld Pr)) hE.1 C (c_Rd_readNumber_1 hE l n q5.1 q5.2 Rd Sj T0 Pg Pt Mk Lk Ck Jd Ld Pr hq9) hP (hDD _ _ _ _ _ _ _ _ _ _ _ _ _) hS hl.1 rfl cw_23 k_3_111 k_3_113 k_s_6 k_1_3 k_3_114 hv_Rd_readNumber rfl rfl ⟨(by dsimp only [rm_Rd_readValue, rm_Rd_readNumber]; omega), (by dsimp only [rm_Rd_readValue, rm_Rd_readNumber]; omega)⟩ rfl (Nat.le_of_ble_eq_true rfl) ⟨Nat.zero_le _, Nat.zero_le _⟩ rfl d_Rd_readValue_136 (fun H locs hP hS => ?_)
      obtain ⟨g12, h⟩ := o_gd_some h
      cases h
      exact o_rz C (o_zb_nar g12) hP hS d_Rd_readValue_139
    replace h := o_ff c11 h
    by_cases c13 : x4 = (4:Int32)
    · replace h := o_tt c13 h
      refine lv_tableIn (off := 66) (tgt := 140) hx hb d_Rd_readValue_74 (by rw [c13]; decide) (by rw [c13]; decide) (by rw [c13]; rfl) (by decide) ?_
      refine lv_aload_n hx hb d_Rd_readValue_140 rfl (lv_at hl 1 rfl) ?_
      refine lv_iload hx hb d_Rd_readValue_141 (lv_at hl 0 rfl) ?_
      obtain ⟨q10, hq10, h⟩ := o_bd_some h
      refine o_V (st1 := [.int q10.1]) (w1 := (o_cw ad ca 12 Sj T0 q10.2.1 q10.2.2 Pg Pt Mk Lk Ck Jd Ld Pr)) hE.1 C (c_Rd_readString_1 hE l n q5.1 q5.2 Rd Sj T0 Pg Pt Mk Lk Ck Jd Ld Pr hq10) hP (hDD _ _ _ _ _ _ _ _ _ _ _ _ _) hS hl.1 rfl cw_23 k_3_131 k_3_133 k_s_9 k_1_3 k_3_134 hv_Rd_readString rfl rfl ⟨(by dsimp only [rm_Rd_readValue, rm_Rd_readString]; omega), (by dsimp only [rm_Rd_readValue, rm_Rd_readString]; omega)⟩ rfl (Nat.le_of_ble_eq_true rfl) ⟨Nat.zero_le _, Nat.zero_le _⟩ rfl d_Rd_readValue_143 (fun H locs hP hS => ?_)
      obtain ⟨g14, h⟩ := o_gd_some h
      cases h
      exact o_rz C (o_zb_nar g14) hP hS d_Rd_readValue_146
    replace h := o_ff c13 h
    by_cases c15 : x4 = (5:Int32)
    · replace h := o_tt c15 h
      refine lv_tableIn (off := 73) (tgt := 147) hx hb d_Rd_readValue_74 (by rw [c15]; decide) (by rw [c15]; decide) (by rw [c15]; rfl) (by decide) ?_
      refine lv_aload_n hx hb d_Rd_readValue_147 rfl (lv_at hl 1 rfl) ?_
      refine lv_iload hx hb d_Rd_readValue_148 (lv_at hl 0 rfl) ?_
      refine lv_iload_n hx hb d_Rd_readValue_150 rfl (lv_at hl 4 rfl) ?_
      obtain ⟨q11, hq11, h⟩ := o_bd_some h
      refine o_V (st1 := [.int q11.1]) (w1 := (o_cw ad ca 12 Sj T0 q11.2.1 q11.2.2 Pg Pt Mk Lk Ck Jd Ld Pr)) hE.1 C (c_Rd_readArray_1 hE l n d rec hrec q5.1 x3 q5.2 Rd Sj T0 Pg Pt Mk Lk Ck Jd Ld Pr hq11) hP (hDD _ _ _ _ _ _ _ _ _ _ _ _ _) hS hl.1 rfl cw_23 k_3_186 k_3_188 k_s_14 k_1_3 k_3_189 hv_Rd_readArray rfl rfl ⟨(by dsimp only [rm_Rd_readValue, rm_Rd_readArray]; omega), (by dsimp only [rm_Rd_readValue, rm_Rd_readArray]; omega)⟩ rfl (Nat.le_of_ble_eq_true rfl) ⟨Nat.zero_le _, Nat.zero_le _⟩ rfl d_Rd_readValue_151 (fun H locs hP hS => ?_)
      obtain ⟨g16, h⟩ := o_gd_some h
      cases h
      exact o_rz C (o_zb_nar g16) hP hS d_Rd_readValue_154
    replace h := o_ff c15 h
    refine lv_tableOut (tgt := 155) hx hb d_Rd_readValue_74 (by have ec5 := o_ne_i (n := 0) (by decide) c5; have ec7 := o_ne_i (n := 1) (by decide) c7; have ec9 := o_ne_i (n := 2) (by decide) c9; have ec11 := o_ne_i (n := 3) (by decide) c11; have ec13 := o_ne_i (n := 4) (by decide) c13; have ec15 := o_ne_i (n := 5) (by decide) c15; omega) (by decide) ?_
    refine lv_aload_n hx hb d_Rd_readValue_155 rfl (lv_at hl 1 rfl) ?_
    refine lv_iload hx hb d_Rd_readValue_156 (lv_at hl 0 rfl) ?_
    refine lv_iload_n hx hb d_Rd_readValue_158 rfl (lv_at hl 4 rfl) ?_
    obtain ⟨q12, hq12, h⟩ := o_bd_some h
    refine o_V (st1 := [.int q12.1]) (w1 := (o_cw ad ca 12 Sj T0 q12.2.1 q12.2.2 Pg Pt Mk Lk Ck Jd Ld Pr)) hE.1 C (c_Rd_readObject_1 hE l n d rec hrec q5.1 x3 q5.2 Rd Sj T0 Pg Pt Mk Lk Ck Jd Ld Pr hq12) hP (hDD _ _ _ _ _ _ _ _ _ _ _ _ _) hS hl.1 rfl cw_23 k_3_194 k_3_196 k_s_15 k_1_3 k_3_197 hv_Rd_readObject rfl rfl ⟨(by dsimp only [rm_Rd_readValue, rm_Rd_readObject]; omega), (by dsimp only [rm_Rd_readValue, rm_Rd_readObject]; omega)⟩ rfl (Nat.le_of_ble_eq_true rfl) ⟨Nat.zero_le _, Nat.zero_le _⟩ rfl d_Rd_readValue_159 (fun H locs hP hS => ?_)
    obtain ⟨g17, h⟩ := o_gd_some h
    cases h
    exact o_rz C (o_zb_nar g17) hP hS d_Rd_readValue_162
  · replace h := o_tt c4 h
    refine lv_aload_n hx hb d_Rd_readValue_63 rfl (lv_at hl 1 rfl) ?_
    refine lv_aload_n hx hb d_Rd_readValue_64 rfl (lv_at hl 1 rfl) ?_
    refine o_get (v := .int (Rd_position Rd)) C in_Rd hP 23 cw_23 rfl 3 (by decide) k_1_97 rfl rfl d_Rd_readValue_65 ?_
    obtain ⟨q13, hq13, h⟩ := o_bd_some h
    refine o_V (st1 := [.int q13.1]) (w1 := (o_cw ad ca 12 Sj T0 q5.2 q13.2 Pg Pt Mk Lk Ck Jd Ld Pr)) hE.1 C (c_Rd_refuse hE l (Rd_position Rd) Rd Sj T0 q5.2 Pg Pt Mk Lk Ck Jd Ld Pr 12 hq13) hP (hDD _ _ _ _ _ _ _ _ _ _ _ _ _) hS hl.1 rfl cw_23 k_3_48 k_3_50 k_s_4 k_1_3 k_3_51 hv_Rd_refuse rfl rfl ⟨(by dsimp only [rm_Rd_readValue, rm_Rd_refuse]; omega), (by dsimp only [rm_Rd_readValue, rm_Rd_refuse]; omega)⟩ rfl (Nat.le_of_ble_eq_true rfl) ⟨Nat.zero_le _, Nat.zero_le _⟩ rfl d_Rd_readValue_68 (fun H locs hP hS => ?_)
    obtain ⟨g18, h⟩ := o_gd_some h
    cases h
    exact o_rz C (o_zb_nar g18) hP hS d_Rd_readValue_71
set_option maxHeartbeats 4000000 in
set_option maxRecDepth 100000 in
theorem c_Rd_readValue_1_F {E : (Nat → Prop) → State → Heap → Prop} {D : va_G} {ad kd sd vd xd : Nat → Nat} {ca : Nat → ClassId} (hE : o_EK E kd sd vd xd) (l : Launch) (n : Nat) (d : Nat) (rec : Int32 → Int32 → Int32 → STx → SRd → Option (Int32 × STx × SRd)) (hrec : ∀ (x1 : Int32) (x2 : Int32) (x3 : Int32) (tc : STx) (Rd : SRd) (Sj : SSJ) (T0 : STx) (Pg : SPg) (Pt : SPt) (Mk : SMk) (Lk : SLk) (Ck : SCk) (Jd : SJd) (Ld : SLd) (Pr : SPr) (r : Int32 × STx × SRd), rec x1 x2 x3 tc Rd = some r → o_Cn E l D o_cls (o_tys ca) y_Rd_readValue cc_Rd_readValue (rm_Rd_readValue d) [.ref (ad 23), .int x1, .int x2, .int x3] (o_cw ad ca 12 Sj T0 tc Rd Pg Pt Mk Lk Ck Jd Ld Pr) (o_cw ad ca 12 Sj T0 r.2.1 r.2.2 Pg Pt Mk Lk Ck Jd Ld Pr) (some (.int r.1))) (x1 : Int32) (x2 : Int32) (x3 : Int32) (tc : STx) (Rd : SRd) (Sj : SSJ) (T0 : STx) (Pg : SPg) (Pt : SPt) (Mk : SMk) (Lk : SLk) (Ck : SCk) (Jd : SJd) (Ld : SLd) (Pr : SPr) {r : Int32 × STx × SRd} (h : m_Rd_readValue_F n rec x1 x2 x3 tc Rd = some r) : o_Cn E l D o_cls (o_tys ca) y_Rd_readValue cc_Rd_readValue (rm_Rd_readValue (d + 1)) [.ref (ad 23), .int x1, .int x2, .int x3] (o_cw ad ca 12 Sj T0 tc Rd Pg Pt Mk Lk Ck Jd Ld Pr) (o_cw ad ca 12 Sj T0 r.2.1 r.2.2 Pg Pt Mk Lk Ck Jd Ld Pr) (some (.int r.1)) := by
  refine o_Cn_of (by decide) (Nat.le_of_ble_eq_true rfl) ?_
  intro p e s m below meth c A ls C hD hP hS hl
  have hDD : ∀ (rt : Nat) (Sj : SSJ) (T0 : STx) (T1 : STx) (Rd : SRd) (Pg : SPg) (Pt : SPt) (Mk : SMk) (Lk : SLk) (Ck : SCk) (Jd : SJd) (Ld : SLd) (Pr : SPr), va_D A (o_cw ad ca rt Sj T0 T1 Rd Pg Pt Mk Lk Ck Jd Ld Pr) := fun _ _ _ _ _ _ _ _ _ _ _ _ _ => o_D_map hD rfl
  have hl : lv_has ls 6 [(0, .ref (ad 23)), (1, .int x1), (2, .int x2), (3, .int x3)] := hl
  unfold m_Rd_readValue_F at h
  have C0 := C
  obtain ⟨hx, hb, -, -, -, hown, hts, hK, -, -⟩ := C0
  refine lv_aload_n hx hb d_Rd_readValue_0 rfl (lv_at hl 0 rfl) ?_
  obtain ⟨q1, hq1, h⟩ := o_bd_some h
  refine o_V (st1 := []) (w1 := (o_cw ad ca 12 Sj T0 tc q1 Pg Pt Mk Lk Ck Jd Ld Pr)) hE.1 C (c_Rd_skipBlanks hE l n Rd Sj T0 tc Pg Pt Mk Lk Ck Jd Ld Pr 12 hq1) hP (hDD _ _ _ _ _ _ _ _ _ _ _ _ _) hS hl.1 rfl cw_23 k_3_34 k_3_36 k_s_2 k_1_3 k_3_37 hv_Rd_skipBlanks rfl rfl ⟨(by dsimp only [rm_Rd_readValue, rm_Rd_skipBlanks]; omega), (by dsimp only [rm_Rd_readValue, rm_Rd_skipBlanks]; omega)⟩ rfl (Nat.le_of_ble_eq_true rfl) ⟨Nat.zero_le _, Nat.zero_le _⟩ rfl d_Rd_readValue_1 (fun H locs hP hS => ?_)
  refine lv_aload_n hx hb d_Rd_readValue_4 rfl (lv_at hl 0 rfl) ?_
  obtain ⟨q2, hq2, h⟩ := o_bd_some h
  refine o_V (st1 := [.int q2]) (w1 := (o_cw ad ca 12 Sj T0 tc q1 Pg Pt Mk Lk Ck Jd Ld Pr)) hE.1 C (c_Rd_peek hE l q1 Sj T0 tc Pg Pt Mk Lk Ck Jd Ld Pr 12 hq2) hP (hDD _ _ _ _ _ _ _ _ _ _ _ _ _) hS hl.1 rfl cw_23 k_3_38 k_3_40 k_s_3 k_1_3 k_3_41 hv_Rd_peek rfl rfl ⟨(by dsimp only [rm_Rd_readValue, rm_Rd_peek]; omega), (by dsimp only [rm_Rd_readValue, rm_Rd_peek]; omega)⟩ rfl (Nat.le_of_ble_eq_true rfl) ⟨Nat.zero_le _, Nat.zero_le _⟩ rfl d_Rd_readValue_5 (fun H locs hP hS => ?_)
  obtain ⟨q3, hq3, h⟩ := o_bd_some h
  refine o_S (st1 := [.int q3]) (w1 := (o_cw ad ca 12 Sj T0 tc q1 Pg Pt Mk Lk Ck Jd Ld Pr)) hE.1 C (c_Rd_kindThatBegins hE l q2 Sj T0 tc q1 Pg Pt Mk Lk Ck Jd Ld Pr 12 hq3) hP (hDD _ _ _ _ _ _ _ _ _ _ _ _ _) hS hl.1 k_3_42 k_3_43 k_1_3 k_3_44 hs_Rd_kindThatBegins rfl rfl ⟨(by dsimp only [rm_Rd_readValue, rm_Rd_kindThatBegins]; omega), (by dsimp only [rm_Rd_readValue, rm_Rd_kindThatBegins]; omega)⟩ rfl (Nat.le_of_ble_eq_true rfl) ⟨Nat.zero_le _, Nat.zero_le _⟩ rfl d_Rd_readValue_8 (fun H locs hP hS => ?_)
  refine lv_istore (lv' := [(4, .int q3), (0, .ref (ad 23)), (1, .int x1), (2, .int x2), (3, .int x3)]) hx hb d_Rd_readValue_11 hl (by decide) rfl (fun ls hl => ?_)
  refine lv_iload hx hb d_Rd_readValue_13 (lv_at hl 0 rfl) ?_
  refine lv_iconst (v := (-1:Int32)) hx hb d_Rd_readValue_15 (by decide) ?_
  refine lv_icmp_eq (tgt := 31) hx hb d_Rd_readValue_16 (by decide) (fun c1 => ?_) (fun c1 => ?_)
  · replace h := o_tt c1 h
    exact w_Rd_readValue_j31_1 hE C hDD d rec hrec n tc q1 Sj T0 Pg Pt Mk Lk Ck Jd Ld Pr h _ _ _ hP hS (lv_sub hl [1] rfl)
  · replace h := o_ff c1 h
    refine lv_iload hx hb d_Rd_readValue_19 (lv_at hl 0 rfl) ?_
    refine lv_iconst (v := (5:Int32)) hx hb d_Rd_readValue_21 (by decide) ?_
    refine lv_icmp_lt (tgt := 40) hx hb d_Rd_readValue_22 (by decide) (fun c3 => ?_) (fun c3 => ?_)
    · replace h := o_tt c3 h
      exact w_Rd_readValue_j40_1 hE C hDD d rec hrec n x1 x2 x3 q3 tc q1 Sj T0 Pg Pt Mk Lk Ck Jd Ld Pr h _ _ _ hP hS (lv_sub hl [1, 2, 3, 4, 0] rfl)
    · replace h := o_ff c3 h
      refine lv_iload_n hx hb d_Rd_readValue_25 rfl (lv_at hl 4 rfl) ?_
      refine lv_bipush (v := (40:Int32)) hx hb d_Rd_readValue_26 (by decide) ?_
      refine lv_icmp_le (tgt := 40) hx hb d_Rd_readValue_28 (by decide) (fun c19 => ?_) (fun c19 => ?_)
      · replace h := o_tt c19 h
        exact w_Rd_readValue_j40_1 hE C hDD d rec hrec n x1 x2 x3 q3 tc q1 Sj T0 Pg Pt Mk Lk Ck Jd Ld Pr h _ _ _ hP hS (lv_sub hl [1, 2, 3, 4, 0] rfl)
      · replace h := o_ff c19 h
        exact w_Rd_readValue_j31_1 hE C hDD d rec hrec n tc q1 Sj T0 Pg Pt Mk Lk Ck Jd Ld Pr h _ _ _ hP hS (lv_sub hl [1] rfl)
set_option maxHeartbeats 4000000 in
set_option maxRecDepth 100000 in
theorem c_Rd_readValue_1 {E : (Nat → Prop) → State → Heap → Prop} {D : va_G} {ad kd sd vd xd : Nat → Nat} {ca : Nat → ClassId} (hE : o_EK E kd sd vd xd) (l : Launch) (n : Nat) (d : Nat) (x1 : Int32) (x2 : Int32) (x3 : Int32) (tc : STx) (Rd : SRd) (Sj : SSJ) (T0 : STx) (Pg : SPg) (Pt : SPt) (Mk : SMk) (Lk : SLk) (Ck : SCk) (Jd : SJd) (Ld : SLd) (Pr : SPr) {r : Int32 × STx × SRd} (h : m_Rd_readValue n d x1 x2 x3 tc Rd = some r) : o_Cn E l D o_cls (o_tys ca) y_Rd_readValue cc_Rd_readValue (rm_Rd_readValue d) [.ref (ad 23), .int x1, .int x2, .int x3] (o_cw ad ca 12 Sj T0 tc Rd Pg Pt Mk Lk Ck Jd Ld Pr) (o_cw ad ca 12 Sj T0 r.2.1 r.2.2 Pg Pt Mk Lk Ck Jd Ld Pr) (some (.int r.1)) := by
  induction d generalizing x1 x2 x3 tc Rd Sj T0 Pg Pt Mk Lk Ck Jd Ld Pr r with
  | zero => cases h
  | succ d ih =>
    exact c_Rd_readValue_1_F hE l n d (m_Rd_readValue n d) (fun x1 x2 x3 tc Rd Sj T0 Pg Pt Mk Lk Ck Jd Ld Pr r h => ih x1 x2 x3 tc Rd Sj T0 Pg Pt Mk Lk Ck Jd Ld Pr h) _ _ _ _ _ _ _ _ _ _ _ _ _ _ _ h
set_option maxHeartbeats 4000000 in
set_option maxRecDepth 100000 in
theorem c_Tx_total_1 {E : (Nat → Prop) → State → Heap → Prop} {D : va_G} {ad kd sd vd xd : Nat → Nat} {ca : Nat → ClassId} (hE : o_EK E kd sd vd xd) (l : Launch)  (a0 : STx) (Sj : SSJ) (T0 : STx) (Rd : SRd) (Pg : SPg) (Pt : SPt) (Mk : SMk) (Lk : SLk) (Ck : SCk) (Jd : SJd) (Ld : SLd) (Pr : SPr) (rt : Nat) {r : Int32} (h : m_Tx_total a0 = some r) : o_Cn E l D o_cls (o_tys ca) y_Tx_total cc_Tx_total rm_Tx_total [.ref (ad 12)] (o_cw ad ca rt Sj T0 a0 Rd Pg Pt Mk Lk Ck Jd Ld Pr) (o_cw ad ca rt Sj T0 a0 Rd Pg Pt Mk Lk Ck Jd Ld Pr) (some (.int r)) := by
  refine o_Cn_of (by decide) (Nat.le_of_ble_eq_true rfl) ?_
  intro p e s m below meth c A ls C hD hP hS hl
  have hDD : ∀ (rt : Nat) (Sj : SSJ) (T0 : STx) (T1 : STx) (Rd : SRd) (Pg : SPg) (Pt : SPt) (Mk : SMk) (Lk : SLk) (Ck : SCk) (Jd : SJd) (Ld : SLd) (Pr : SPr), va_D A (o_cw ad ca rt Sj T0 T1 Rd Pg Pt Mk Lk Ck Jd Ld Pr) := fun _ _ _ _ _ _ _ _ _ _ _ _ _ => o_D_map hD rfl
  have hl : lv_has ls 1 [(0, .ref (ad 12))] := hl
  unfold m_Tx_total at h
  have C0 := C
  obtain ⟨hx, hb, -, -, -, hown, hts, hK, -, -⟩ := C0
  refine lv_aload_n hx hb d_Tx_total_0 rfl (lv_at hl 0 rfl) ?_
  refine o_get (v := .int (Tx_total a0)) C in_Tx hP 12 cw_12 rfl 10 (by decide) k_1_56 rfl rfl d_Tx_total_1 ?_
  cases h
  exact o_ri (v := (Tx_total a0)) C hP hS d_Tx_total_4
set_option maxHeartbeats 4000000 in
set_option maxRecDepth 100000 in
theorem w_Tx_spells_b50_1 {E : (Nat → Prop) → State → Heap → Prop} {p : Program} {l : Launch} {e : Env} {s : State} {m : MethodId} {args : Array Value} {below : List Frame} {meth : Method} {c : Code} {D : va_G} {ad kd sd vd xd : Nat → Nat} {ca : Nat → ClassId} {A : Nat → Prop} {Q : State → Prop} (hE : o_EK E kd sd vd xd) (C : o_Cx E p s m args meth c D o_cls (o_tys ca) "SchemaJudge$Text" b_Tx_spells (some .boolean) 4 cc_Tx_spells A) (hDD : ∀ (rt : Nat) (Sj : SSJ) (T0 : STx) (T1 : STx) (Rd : SRd) (Pg : SPg) (Pt : SPt) (Mk : SMk) (Lk : SLk) (Ck : SCk) (Jd : SJd) (Ld : SLd) (Pr : SPr), va_D A (o_cw ad ca rt Sj T0 T1 Rd Pg Pt Mk Lk Ck Jd Ld Pr)) (n : Nat) (u50_x1 : Int32) (u50_x2 : Nat) (gu50_x2 : o_sb u50_x2 = true) (u50_a0 : STx) (u50_Sj : SSJ) (u50_T0 : STx) (u50_Rd : SRd) (u50_Pg : SPg) (u50_Pt : SPt) (u50_Mk : SMk) (u50_Lk : SLk) (u50_Ck : SCk) (u50_Jd : SJd) (u50_Ld : SLd) (u50_Pr : SPr) (u50_rt : Nat) (z : Int32) (q : Nat × Int32) (h : m_Tx_spells_b50 n u50_x1 u50_x2 u50_a0 z = some q) (h0 : q.1 = 0 → o_At p l e rm_Tx_spells s m args below meth c Q o_cls D A 4 50 [] (o_cw ad ca u50_rt u50_Sj u50_T0 u50_a0 u50_Rd u50_Pg u50_Pt u50_Mk u50_Lk u50_Ck u50_Jd u50_Ld u50_Pr) [(0, .ref (ad 12)), (1, .int u50_x1), (2, .ref (sd u50_x2)), (3, .int q.2)]) (h1 : q.1 ≠ 0 → (if q.1 = 1 then o_At p l e rm_Tx_spells s m args below meth c Q o_cls D A 4 79 [] (o_cw ad ca u50_rt u50_Sj u50_T0 u50_a0 u50_Rd u50_Pg u50_Pt u50_Mk u50_Lk u50_Ck u50_Jd u50_Ld u50_Pr) [] else o_At p l e rm_Tx_spells s m args below meth c Q o_cls D A 4 87 [] (o_cw ad ca u50_rt u50_Sj u50_T0 u50_a0 u50_Rd u50_Pg u50_Pt u50_Mk u50_Lk u50_Ck u50_Jd u50_Ld u50_Pr) [])) : o_At p l e rm_Tx_spells s m args below meth c Q o_cls D A 4 50 [] (o_cw ad ca u50_rt u50_Sj u50_T0 u50_a0 u50_Rd u50_Pg u50_Pt u50_Mk u50_Lk u50_Ck u50_Jd u50_Ld u50_Pr) [(0, .ref (ad 12)), (1, .int u50_x1), (2, .ref (sd u50_x2)), (3, .int z)] := by
  unfold m_Tx_spells_b50 at h
  intro H locs ls hP hS hl
  have C0 := C
  obtain ⟨hx, hb, -, -, -, hown, hts, hK, -, -⟩ := C0
  refine lv_iload_n hx hb d_Tx_spells_50 rfl (lv_at hl 3 rfl) ?_
  refine lv_aload_n hx hb d_Tx_spells_51 rfl (lv_at hl 2 rfl) ?_
  obtain ⟨q2, hq2, h⟩ := o_bd_some h
  refine o_VR (K := "java/lang/String") (st1 := [.int q2, .int z]) (w1 := (o_cw ad ca u50_rt u50_Sj u50_T0 u50_a0 u50_Rd u50_Pg u50_Pt u50_Mk u50_Lk u50_Ck u50_Jd u50_Ld u50_Pr)) hE.1 C (c_JS_length hE l u50_x2 gu50_x2 u50_Sj u50_T0 u50_a0 u50_Rd u50_Pg u50_Pt u50_Mk u50_Lk u50_Ck u50_Jd u50_Ld u50_Pr u50_rt hq2) hP (hDD _ _ _ _ _ _ _ _ _ _ _ _ _) hS hl.1 (o_rs hE C gu50_x2 hS) k_4_85 k_3_62 k_3_63 k_1_18 k_3_64 hv_JS_length rfl rfl ⟨(Nat.le_of_ble_eq_true rfl), (Nat.le_of_ble_eq_true rfl)⟩ rfl (Nat.le_of_ble_eq_true rfl) ⟨Nat.zero_le _, Nat.zero_le _⟩ rfl d_Tx_spells_52 (fun H locs hP hS => ?_)
  refine lv_icmp_ge (tgt := 87) hx hb d_Tx_spells_55 (by decide) (fun c8 => ?_) (fun c8 => ?_)
  · replace h := o_tt c8 h
    cases h
    exact h1 (Nat.succ_ne_zero 1) _ _ _ hP hS (lv_sub hl [] rfl)
  · replace h := o_ff c8 h
    refine lv_aload_n hx hb d_Tx_spells_58 rfl (lv_at hl 0 rfl) ?_
    refine o_get (v := .ref (ad 22)) C in_Tx hP 12 cw_12 rfl 9 (by decide) k_1_55 rfl rfl d_Tx_spells_59 ?_
    refine lv_aload_n hx hb d_Tx_spells_62 rfl (lv_at hl 0 rfl) ?_
    refine o_get (v := .ref (ad 18)) C in_Tx hP 12 cw_12 rfl 5 (by decide) k_1_51 rfl rfl d_Tx_spells_63 ?_
    refine lv_iload_n hx hb d_Tx_spells_66 rfl (lv_at hl 1 rfl) ?_
    obtain ⟨g9, h⟩ := o_gd_some h
    refine o_iald (f := (Tx_starts u50_a0)) C hP 18 15 cw_18 rfl g9 d_Tx_spells_67 ?_
    refine lv_iload_n hx hb d_Tx_spells_68 rfl (lv_at hl 3 rfl) ?_
    refine lv_iadd hx hb d_Tx_spells_69 ?_
    obtain ⟨g10, h⟩ := o_gd_some h
    refine o_iald (f := (Tx_cells u50_a0)) C hP 22 19 cw_22 rfl g10 d_Tx_spells_70 ?_
    refine lv_aload_n hx hb d_Tx_spells_71 rfl (lv_at hl 2 rfl) ?_
    refine lv_iload_n hx hb d_Tx_spells_72 rfl (lv_at hl 3 rfl) ?_
    obtain ⟨q3, hq3, h⟩ := o_bd_some h
    refine o_VR (K := "java/lang/String") (st1 := [.int q3, .int ((Tx_cells u50_a0) (((Tx_starts u50_a0) u50_x1.toNatClampNeg) + z).toNatClampNeg)]) (w1 := (o_cw ad ca u50_rt u50_Sj u50_T0 u50_a0 u50_Rd u50_Pg u50_Pt u50_Mk u50_Lk u50_Ck u50_Jd u50_Ld u50_Pr)) hE.1 C (c_JS_charAt hE l u50_x2 gu50_x2 z u50_Sj u50_T0 u50_a0 u50_Rd u50_Pg u50_Pt u50_Mk u50_Lk u50_Ck u50_Jd u50_Ld u50_Pr u50_rt hq3) hP (hDD _ _ _ _ _ _ _ _ _ _ _ _ _) hS hl.1 (o_rs hE C gu50_x2 hS) k_4_86 k_3_72 k_3_73 k_1_18 k_3_74 hv_JS_charAt rfl rfl ⟨(Nat.le_of_ble_eq_true rfl), (Nat.le_of_ble_eq_true rfl)⟩ rfl (Nat.le_of_ble_eq_true rfl) ⟨Nat.zero_le _, Nat.zero_le _⟩ rfl d_Tx_spells_73 (fun H locs hP hS => ?_)
    refine lv_icmp_eq (tgt := 81) hx hb d_Tx_spells_76 (by decide) (fun c11 => ?_) (fun c11 => ?_)
    · replace h := o_tt c11 h
      obtain ⟨x3_81, ex3_81⟩ : ∃ y : Int32, y = z + (1:Int32) := ⟨_, rfl⟩
      replace h := o_nm_at ex3_81 h
      refine lv_iinc (v := x3_81) (lv' := [(3, .int x3_81), (0, .ref (ad 12)), (1, .int u50_x1), (2, .ref (sd u50_x2))]) hx hb d_Tx_spells_81 hl (k := 3) rfl (by rw [ex3_81]; rfl) (by decide) rfl (fun ls hl => ?_)
      refine lv_goto (tgt := 50) hx hb d_Tx_spells_84 (by decide) ?_
      cases h
      exact h0 rfl _ _ _ hP hS (lv_sub hl [1, 2, 3, 0] rfl)
    · replace h := o_ff c11 h
      cases h
      exact h1 (Nat.succ_ne_zero 0) _ _ _ hP hS (lv_sub hl [] rfl)
set_option maxHeartbeats 4000000 in
set_option maxRecDepth 100000 in
theorem c_Tx_spells_1 {E : (Nat → Prop) → State → Heap → Prop} {D : va_G} {ad kd sd vd xd : Nat → Nat} {ca : Nat → ClassId} (hE : o_EK E kd sd vd xd) (l : Launch) (n : Nat) (x1 : Int32) (x2 : Nat) (gx2 : o_sb x2 = true) (a0 : STx) (Sj : SSJ) (T0 : STx) (Rd : SRd) (Pg : SPg) (Pt : SPt) (Mk : SMk) (Lk : SLk) (Ck : SCk) (Jd : SJd) (Ld : SLd) (Pr : SPr) (rt : Nat) {r : Int32} (h : m_Tx_spells n x1 x2 a0 = some r) : o_Cn E l D o_cls (o_tys ca) y_Tx_spells cc_Tx_spells rm_Tx_spells [.ref (ad 12), .int x1, .ref (sd x2)] (o_cw ad ca rt Sj T0 a0 Rd Pg Pt Mk Lk Ck Jd Ld Pr) (o_cw ad ca rt Sj T0 a0 Rd Pg Pt Mk Lk Ck Jd Ld Pr) (some (.int r)) := by
  refine o_Cn_of (by decide) (Nat.le_of_ble_eq_true rfl) ?_
  intro p e s m below meth c A ls C hD hP hS hl
  have hDD : ∀ (rt : Nat) (Sj : SSJ) (T0 : STx) (T1 : STx) (Rd : SRd) (Pg : SPg) (Pt : SPt) (Mk : SMk) (Lk : SLk) (Ck : SCk) (Jd : SJd) (Ld : SLd) (Pr : SPr), va_D A (o_cw ad ca rt Sj T0 T1 Rd Pg Pt Mk Lk Ck Jd Ld Pr) := fun _ _ _ _ _ _ _ _ _ _ _ _ _ => o_D_map hD rfl
  have hl : lv_has ls 4 [(0, .ref (ad 12)), (1, .int x1), (2, .ref (sd x2))] := hl
  unfold m_Tx_spells at h
  have C0 := C
  obtain ⟨hx, hb, -, -, -, hown, hts, hK, -, -⟩ := C0
  refine lv_iload_n hx hb d_Tx_spells_0 rfl (lv_at hl 1 rfl) ?_
  refine lv_if_lt (tgt := 46) hx hb d_Tx_spells_1 (by decide) (fun c1 => ?_) (fun c1 => ?_)
  · replace h := o_tt c1 h
    refine lv_iconst (v := (0:Int32)) hx hb d_Tx_spells_46 (by decide) ?_
    cases h
    exact o_rz (v := (0:Int32)) C o_nar0 hP hS d_Tx_spells_47
  · replace h := o_ff c1 h
    refine lv_iload_n hx hb d_Tx_spells_4 rfl (lv_at hl 1 rfl) ?_
    refine lv_aload_n hx hb d_Tx_spells_5 rfl (lv_at hl 0 rfl) ?_
    refine o_get (v := .int (Tx_total a0)) C in_Tx hP 12 cw_12 rfl 10 (by decide) k_1_56 rfl rfl d_Tx_spells_6 ?_
    refine lv_icmp_ge (tgt := 46) hx hb d_Tx_spells_9 (by decide) (fun c2 => ?_) (fun c2 => ?_)
    · replace h := o_tt c2 h
      refine lv_iconst (v := (0:Int32)) hx hb d_Tx_spells_46 (by decide) ?_
      cases h
      exact o_rz (v := (0:Int32)) C o_nar0 hP hS d_Tx_spells_47
    · replace h := o_ff c2 h
      refine lv_aload_n hx hb d_Tx_spells_12 rfl (lv_at hl 0 rfl) ?_
      refine o_get (v := .ref (ad 15)) C in_Tx hP 12 cw_12 rfl 2 (by decide) k_1_48 rfl rfl d_Tx_spells_13 ?_
      refine lv_iload_n hx hb d_Tx_spells_16 rfl (lv_at hl 1 rfl) ?_
      obtain ⟨g3, h⟩ := o_gd_some h
      refine o_iald (f := (Tx_sizes a0)) C hP 15 12 cw_15 rfl g3 d_Tx_spells_17 ?_
      refine lv_aload_n hx hb d_Tx_spells_18 rfl (lv_at hl 2 rfl) ?_
      obtain ⟨q1, hq1, h⟩ := o_bd_some h
      refine o_VR (K := "java/lang/String") (st1 := [.int q1, .int ((Tx_sizes a0) x1.toNatClampNeg)]) (w1 := (o_cw ad ca rt Sj T0 a0 Rd Pg Pt Mk Lk Ck Jd Ld Pr)) hE.1 C (c_JS_length hE l x2 gx2 Sj T0 a0 Rd Pg Pt Mk Lk Ck Jd Ld Pr rt hq1) hP (hDD _ _ _ _ _ _ _ _ _ _ _ _ _) hS hl.1 (o_rs hE C gx2 hS) k_4_85 k_3_62 k_3_63 k_1_18 k_3_64 hv_JS_length rfl rfl ⟨(Nat.le_of_ble_eq_true rfl), (Nat.le_of_ble_eq_true rfl)⟩ rfl (Nat.le_of_ble_eq_true rfl) ⟨Nat.zero_le _, Nat.zero_le _⟩ rfl d_Tx_spells_19 (fun H locs hP hS => ?_)
      refine lv_icmp_ne (tgt := 46) hx hb d_Tx_spells_22 (by decide) (fun c4 => ?_) (fun c4 => ?_)
      · replace h := o_ff c4 h
        refine lv_iconst (v := (0:Int32)) hx hb d_Tx_spells_46 (by decide) ?_
        cases h
        exact o_rz (v := (0:Int32)) C o_nar0 hP hS d_Tx_spells_47
      · replace h := o_tt c4 h
        refine lv_aload_n hx hb d_Tx_spells_25 rfl (lv_at hl 0 rfl) ?_
        refine o_get (v := .ref (ad 18)) C in_Tx hP 12 cw_12 rfl 5 (by decide) k_1_51 rfl rfl d_Tx_spells_26 ?_
        refine lv_iload_n hx hb d_Tx_spells_29 rfl (lv_at hl 1 rfl) ?_
        obtain ⟨g5, h⟩ := o_gd_some h
        refine o_iald (f := (Tx_starts a0)) C hP 18 15 cw_18 rfl g5 d_Tx_spells_30 ?_
        refine lv_aload_n hx hb d_Tx_spells_31 rfl (lv_at hl 0 rfl) ?_
        refine o_get (v := .ref (ad 15)) C in_Tx hP 12 cw_12 rfl 2 (by decide) k_1_48 rfl rfl d_Tx_spells_32 ?_
        refine lv_iload_n hx hb d_Tx_spells_35 rfl (lv_at hl 1 rfl) ?_
        obtain ⟨g6, h⟩ := o_gd_some h
        refine o_iald (f := (Tx_sizes a0)) C hP 15 12 cw_15 rfl g6 d_Tx_spells_36 ?_
        refine lv_iadd hx hb d_Tx_spells_37 ?_
        refine lv_aload_n hx hb d_Tx_spells_38 rfl (lv_at hl 0 rfl) ?_
        refine o_get (v := .ref (ad 22)) C in_Tx hP 12 cw_12 rfl 9 (by decide) k_1_55 rfl rfl d_Tx_spells_39 ?_
        refine va_alen (v := (8192:Int32)) hx hb hK hP 22 19 cw_22 rfl rfl d_Tx_spells_42 ?_
        refine lv_icmp_le (tgt := 48) hx hb d_Tx_spells_43 (by decide) (fun c7 => ?_) (fun c7 => ?_)
        · replace h := o_tt c7 h
          refine lv_iconst (v := (0:Int32)) hx hb d_Tx_spells_48 (by decide) ?_
          refine lv_istore_n (lv' := [(3, .int (0:Int32)), (0, .ref (ad 12)), (1, .int x1), (2, .ref (sd x2))]) hx hb d_Tx_spells_49 rfl hl (by decide) rfl (fun ls hl => ?_)
          obtain ⟨q4, hq4, h⟩ := o_bd_some h
          refine o_sim2 (AH := fun zz => o_At p l e rm_Tx_spells s m _ below meth c _ o_cls D A 4 50 [] (o_cw ad ca rt Sj T0 a0 Rd Pg Pt Mk Lk Ck Jd Ld Pr) [(0, .ref (ad 12)), (1, .int x1), (2, .ref (sd x2)), (3, .int zz)]) (AX := fun qq => if qq.1 = 1 then o_At p l e rm_Tx_spells s m _ below meth c _ o_cls D A 4 79 [] (o_cw ad ca rt Sj T0 a0 Rd Pg Pt Mk Lk Ck Jd Ld Pr) [] else o_At p l e rm_Tx_spells s m _ below meth c _ o_cls D A 4 87 [] (o_cw ad ca rt Sj T0 a0 Rd Pg Pt Mk Lk Ck Jd Ld Pr) []) (fun zz qq h h0 h1 => w_Tx_spells_b50_1 hE C hDD n x1 x2 gx2 a0 Sj T0 Rd Pg Pt Mk Lk Ck Jd Ld Pr rt zz qq h h0 h1) n _ q4 hq4 ?_ _ _ _ hP hS (lv_sub hl [1, 2, 3, 0] rfl)
          by_cases c12 : q4.1 = 1
          · replace h := o_tt c12 h
            refine o_ip c12 ?_
            intro H locs ls hP hS hl
            refine lv_iconst (v := (0:Int32)) hx hb d_Tx_spells_79 (by decide) ?_
            cases h
            exact o_rz (v := (0:Int32)) C o_nar0 hP hS d_Tx_spells_80
          replace h := o_ff c12 h
          refine o_in_ c12 ?_
          intro H locs ls hP hS hl
          refine lv_iconst (v := (1:Int32)) hx hb d_Tx_spells_87 (by decide) ?_
          cases h
          exact o_rz (v := (1:Int32)) C o_nar1 hP hS d_Tx_spells_88
        · replace h := o_ff c7 h
          refine lv_iconst (v := (0:Int32)) hx hb d_Tx_spells_46 (by decide) ?_
          cases h
          exact o_rz (v := (0:Int32)) C o_nar0 hP hS d_Tx_spells_47
set_option maxHeartbeats 4000000 in
set_option maxRecDepth 100000 in
theorem w_Kw_placeOf_b2_1 {E : (Nat → Prop) → State → Heap → Prop} {p : Program} {l : Launch} {e : Env} {s : State} {m : MethodId} {args : Array Value} {below : List Frame} {meth : Method} {c : Code} {D : va_G} {ad kd sd vd xd : Nat → Nat} {ca : Nat → ClassId} {A : Nat → Prop} {Q : State → Prop} (hE : o_EK E kd sd vd xd) (C : o_Cx E p s m args meth c D o_cls (o_tys ca) "SchemaJudge$Keyword" b_Kw_placeOf (some .int) 3 cc_Kw_placeOf A) (hDD : ∀ (rt : Nat) (Sj : SSJ) (T0 : STx) (T1 : STx) (Rd : SRd) (Pg : SPg) (Pt : SPt) (Mk : SMk) (Lk : SLk) (Ck : SCk) (Jd : SJd) (Ld : SLd) (Pr : SPr), va_D A (o_cw ad ca rt Sj T0 T1 Rd Pg Pt Mk Lk Ck Jd Ld Pr)) (n : Nat) (u2_x1 : Int32) (u2_a0 : STx) (u2_Sj : SSJ) (u2_T0 : STx) (u2_Rd : SRd) (u2_Pg : SPg) (u2_Pt : SPt) (u2_Mk : SMk) (u2_Lk : SLk) (u2_Ck : SCk) (u2_Jd : SJd) (u2_Ld : SLd) (u2_Pr : SPr) (u2_rt : Nat) (z : Int32) (q : Nat × Int32) (h : m_Kw_placeOf_b2 n u2_x1 u2_a0 z = some q) (h0 : q.1 = 0 → o_At p l e rm_Kw_placeOf s m args below meth c Q o_cls D A 3 2 [] (o_cw ad ca u2_rt u2_Sj u2_T0 u2_a0 u2_Rd u2_Pg u2_Pt u2_Mk u2_Lk u2_Ck u2_Jd u2_Ld u2_Pr) [(0, .ref (ad 12)), (1, .int u2_x1), (2, .int q.2)]) (h1 : q.1 ≠ 0 → (if q.1 = 1 then o_At p l e rm_Kw_placeOf s m args below meth c Q o_cls D A 3 26 [] (o_cw ad ca u2_rt u2_Sj u2_T0 u2_a0 u2_Rd u2_Pg u2_Pt u2_Mk u2_Lk u2_Ck u2_Jd u2_Ld u2_Pr) [(2, .int q.2)] else o_At p l e rm_Kw_placeOf s m args below meth c Q o_cls D A 3 34 [] (o_cw ad ca u2_rt u2_Sj u2_T0 u2_a0 u2_Rd u2_Pg u2_Pt u2_Mk u2_Lk u2_Ck u2_Jd u2_Ld u2_Pr) [])) : o_At p l e rm_Kw_placeOf s m args below meth c Q o_cls D A 3 2 [] (o_cw ad ca u2_rt u2_Sj u2_T0 u2_a0 u2_Rd u2_Pg u2_Pt u2_Mk u2_Lk u2_Ck u2_Jd u2_Ld u2_Pr) [(0, .ref (ad 12)), (1, .int u2_x1), (2, .int z)] := by
  unfold m_Kw_placeOf_b2 at h
  intro H locs ls hP hS hl
  have C0 := C
  obtain ⟨hx, hb, -, -, -, hown, hts, hK, -, -⟩ := C0
  refine lv_iload_n hx hb d_Kw_placeOf_2 rfl (lv_at hl 2 rfl) ?_
  refine va_gets (v := .ref (xd 0)) hx hb (hE.2.2.2.1 _ _ _ C.2.2.2.2.2.2.2.2.2).1 hS hown (hts _ k_4_79) (fun _ h9 => h9) d_Kw_placeOf_3 ?_
  refine va_tlen (v := (45:Int32)) hx hb (hE.2.2.2.1 _ _ _ C.2.2.2.2.2.2.2.2.2).2 hS rfl d_Kw_placeOf_6 ?_
  refine lv_icmp_ge (tgt := 34) hx hb d_Kw_placeOf_7 (by decide) (fun c1 => ?_) (fun c1 => ?_)
  · replace h := o_tt c1 h
    cases h
    exact h1 (Nat.succ_ne_zero 1) _ _ _ hP hS (lv_sub hl [] rfl)
  · replace h := o_ff c1 h
    refine lv_aload_n hx hb d_Kw_placeOf_10 rfl (lv_at hl 0 rfl) ?_
    refine lv_iload_n hx hb d_Kw_placeOf_11 rfl (lv_at hl 1 rfl) ?_
    refine va_gets (v := .ref (xd 0)) hx hb (hE.2.2.2.1 _ _ _ C.2.2.2.2.2.2.2.2.2).1 hS hown (hts _ k_4_79) (fun _ h9 => h9) d_Kw_placeOf_12 ?_
    refine lv_iload_n hx hb d_Kw_placeOf_15 rfl (lv_at hl 2 rfl) ?_
    obtain ⟨g2, h⟩ := o_gd_some h
    refine vb_tq (v := .ref (kd z.toNatClampNeg)) hx hb (hE.2.2.2.1 _ _ _ C.2.2.2.2.2.2.2.2.2).2 hS (o_in_in g2) rfl d_Kw_placeOf_16 ?_
    refine va_getX (i := z.toNatClampNeg) hx hb (hE.2.2.2.2.2.2.2.1 _ _ _ C.2.2.2.2.2.2.2.2.2) (o_kl (o_in_kb g2)) hS hown (hts _ k_10_103) (fun _ h9 => h9) d_Kw_placeOf_17 ?_
    obtain ⟨q1, hq1, h⟩ := o_bd_some h
    refine o_V (st1 := [.int q1]) (w1 := (o_cw ad ca u2_rt u2_Sj u2_T0 u2_a0 u2_Rd u2_Pg u2_Pt u2_Mk u2_Lk u2_Ck u2_Jd u2_Ld u2_Pr)) hE.1 C (c_Tx_spells_1 hE l n u2_x1 (kw_str (z.toNatClampNeg)) (o_kws (o_in_kb g2)) u2_a0 u2_Sj u2_T0 u2_Rd u2_Pg u2_Pt u2_Mk u2_Lk u2_Ck u2_Jd u2_Ld u2_Pr u2_rt hq1) hP (hDD _ _ _ _ _ _ _ _ _ _ _ _ _) hS hl.1 rfl cw_12 k_4_81 k_4_82 k_4_83 k_1_2 k_4_84 hv_Tx_spells rfl rfl ⟨(Nat.le_of_ble_eq_true rfl), (Nat.le_of_ble_eq_true rfl)⟩ rfl (Nat.le_of_ble_eq_true rfl) ⟨Nat.zero_le _, Nat.zero_le _⟩ rfl d_Kw_placeOf_20 (fun H locs hP hS => ?_)
    refine lv_if_eq (tgt := 28) hx hb d_Kw_placeOf_23 (by decide) (fun c3 => ?_) (fun c3 => ?_)
    · replace h := o_tt c3 h
      obtain ⟨x2_28, ex2_28⟩ : ∃ y : Int32, y = z + (1:Int32) := ⟨_, rfl⟩
      replace h := o_nm_at ex2_28 h
      refine lv_iinc (v := x2_28) (lv' := [(2, .int x2_28), (0, .ref (ad 12)), (1, .int u2_x1)]) hx hb d_Kw_placeOf_28 hl (k := 2) rfl (by rw [ex2_28]; rfl) (by decide) rfl (fun ls hl => ?_)
      refine lv_goto (tgt := 2) hx hb d_Kw_placeOf_31 (by decide) ?_
      cases h
      exact h0 rfl _ _ _ hP hS (lv_sub hl [1, 2, 0] rfl)
    · replace h := o_ff c3 h
      cases h
      exact h1 (Nat.succ_ne_zero 0) _ _ _ hP hS (lv_sub hl [2] rfl)
set_option maxHeartbeats 4000000 in
set_option maxRecDepth 100000 in
theorem c_Kw_placeOf_1 {E : (Nat → Prop) → State → Heap → Prop} {D : va_G} {ad kd sd vd xd : Nat → Nat} {ca : Nat → ClassId} (hE : o_EK E kd sd vd xd) (l : Launch) (n : Nat) (x1 : Int32) (a0 : STx) (Sj : SSJ) (T0 : STx) (Rd : SRd) (Pg : SPg) (Pt : SPt) (Mk : SMk) (Lk : SLk) (Ck : SCk) (Jd : SJd) (Ld : SLd) (Pr : SPr) (rt : Nat) {r : Int32} (h : m_Kw_placeOf n x1 a0 = some r) : o_Cn E l D o_cls (o_tys ca) y_Kw_placeOf cc_Kw_placeOf rm_Kw_placeOf [.ref (ad 12), .int x1] (o_cw ad ca rt Sj T0 a0 Rd Pg Pt Mk Lk Ck Jd Ld Pr) (o_cw ad ca rt Sj T0 a0 Rd Pg Pt Mk Lk Ck Jd Ld Pr) (some (.int r)) := by
  refine o_Cn_of (by decide) (Nat.le_of_ble_eq_true rfl) ?_
  intro p e s m below meth c A ls C hD hP hS hl
  have hDD : ∀ (rt : Nat) (Sj : SSJ) (T0 : STx) (T1 : STx) (Rd : SRd) (Pg : SPg) (Pt : SPt) (Mk : SMk) (Lk : SLk) (Ck : SCk) (Jd : SJd) (Ld : SLd) (Pr : SPr), va_D A (o_cw ad ca rt Sj T0 T1 Rd Pg Pt Mk Lk Ck Jd Ld Pr) := fun _ _ _ _ _ _ _ _ _ _ _ _ _ => o_D_map hD rfl
  have hl : lv_has ls 3 [(0, .ref (ad 12)), (1, .int x1)] := hl
  unfold m_Kw_placeOf at h
  have C0 := C
  obtain ⟨hx, hb, -, -, -, hown, hts, hK, -, -⟩ := C0
  refine lv_iconst (v := (1:Int32)) hx hb d_Kw_placeOf_0 (by decide) ?_
  refine lv_istore_n (lv' := [(2, .int (1:Int32)), (0, .ref (ad 12)), (1, .int x1)]) hx hb d_Kw_placeOf_1 rfl hl (by decide) rfl (fun ls hl => ?_)
  obtain ⟨q2, hq2, h⟩ := o_bd_some h
  refine o_sim2 (AH := fun zz => o_At p l e rm_Kw_placeOf s m _ below meth c _ o_cls D A 3 2 [] (o_cw ad ca rt Sj T0 a0 Rd Pg Pt Mk Lk Ck Jd Ld Pr) [(0, .ref (ad 12)), (1, .int x1), (2, .int zz)]) (AX := fun qq => if qq.1 = 1 then o_At p l e rm_Kw_placeOf s m _ below meth c _ o_cls D A 3 26 [] (o_cw ad ca rt Sj T0 a0 Rd Pg Pt Mk Lk Ck Jd Ld Pr) [(2, .int qq.2)] else o_At p l e rm_Kw_placeOf s m _ below meth c _ o_cls D A 3 34 [] (o_cw ad ca rt Sj T0 a0 Rd Pg Pt Mk Lk Ck Jd Ld Pr) []) (fun zz qq h h0 h1 => w_Kw_placeOf_b2_1 hE C hDD n x1 a0 Sj T0 Rd Pg Pt Mk Lk Ck Jd Ld Pr rt zz qq h h0 h1) n _ q2 hq2 ?_ _ _ _ hP hS (lv_sub hl [1, 2, 0] rfl)
  by_cases c4 : q2.1 = 1
  · replace h := o_tt c4 h
    refine o_ip c4 ?_
    intro H locs ls hP hS hl
    refine lv_iload_n hx hb d_Kw_placeOf_26 rfl (lv_at hl 0 rfl) ?_
    cases h
    exact o_ri C hP hS d_Kw_placeOf_27
  replace h := o_ff c4 h
  refine o_in_ c4 ?_
  intro H locs ls hP hS hl
  refine lv_iconst (v := (0:Int32)) hx hb d_Kw_placeOf_34 (by decide) ?_
  cases h
  exact o_ri (v := (0:Int32)) C hP hS d_Kw_placeOf_35
set_option maxHeartbeats 4000000 in
set_option maxRecDepth 100000 in
theorem w_Tx_wholeNumber_b47_1 {E : (Nat → Prop) → State → Heap → Prop} {p : Program} {l : Launch} {e : Env} {s : State} {m : MethodId} {args : Array Value} {below : List Frame} {meth : Method} {c : Code} {D : va_G} {ad kd sd vd xd : Nat → Nat} {ca : Nat → ClassId} {A : Nat → Prop} {Q : State → Prop} (hE : o_EK E kd sd vd xd) (C : o_Cx E p s m args meth c D o_cls (o_tys ca) "SchemaJudge$Text" b_Tx_wholeNumber (some .int) 4 cc_Tx_wholeNumber A) (hDD : ∀ (rt : Nat) (Sj : SSJ) (T0 : STx) (T1 : STx) (Rd : SRd) (Pg : SPg) (Pt : SPt) (Mk : SMk) (Lk : SLk) (Ck : SCk) (Jd : SJd) (Ld : SLd) (Pr : SPr), va_D A (o_cw ad ca rt Sj T0 T1 Rd Pg Pt Mk Lk Ck Jd Ld Pr)) (n : Nat) (u47_x1 : Int32) (u47_a0 : STx) (u47_Sj : SSJ) (u47_T0 : STx) (u47_Rd : SRd) (u47_Pg : SPg) (u47_Pt : SPt) (u47_Mk : SMk) (u47_Lk : SLk) (u47_Ck : SCk) (u47_Jd : SJd) (u47_Ld : SLd) (u47_Pr : SPr) (u47_rt : Nat) (z : Int32 × Int32) (q : Nat × Int32 × Int32) (h : m_Tx_wholeNumber_b47 n u47_x1 u47_a0 z = some q) (h0 : q.1 = 0 → o_At p l e rm_Tx_wholeNumber s m args below meth c Q o_cls D A 4 47 [] (o_cw ad ca u47_rt u47_Sj u47_T0 u47_a0 u47_Rd u47_Pg u47_Pt u47_Mk u47_Lk u47_Ck u47_Jd u47_Ld u47_Pr) [(0, .ref (ad 12)), (1, .int u47_x1), (2, .int q.2.1), (3, .int q.2.2)]) (h1 : q.1 ≠ 0 → (o_At p l e rm_Tx_wholeNumber s m args below meth c Q o_cls D A 4 80 [] (o_cw ad ca u47_rt u47_Sj u47_T0 u47_a0 u47_Rd u47_Pg u47_Pt u47_Mk u47_Lk u47_Ck u47_Jd u47_Ld u47_Pr) [(2, .int q.2.1)])) : o_At p l e rm_Tx_wholeNumber s m args below meth c Q o_cls D A 4 47 [] (o_cw ad ca u47_rt u47_Sj u47_T0 u47_a0 u47_Rd u47_Pg u47_Pt u47_Mk u47_Lk u47_Ck u47_Jd u47_Ld u47_Pr) [(0, .ref (ad 12)), (1, .int u47_x1), (2, .int z.1), (3, .int z.2)] := by
  unfold m_Tx_wholeNumber_b47 at h
  intro H locs ls hP hS hl
  have C0 := C
  obtain ⟨hx, hb, -, -, -, hown, hts, hK, -, -⟩ := C0
  refine lv_iload_n hx hb d_Tx_wholeNumber_47 rfl (lv_at hl 3 rfl) ?_
  refine lv_aload_n hx hb d_Tx_wholeNumber_48 rfl (lv_at hl 0 rfl) ?_
  refine lv_iload_n hx hb d_Tx_wholeNumber_49 rfl (lv_at hl 1 rfl) ?_
  obtain ⟨q6, hq6, h⟩ := o_bd_some h
  refine o_V (st1 := [.int q6, .int z.2]) (w1 := (o_cw ad ca u47_rt u47_Sj u47_T0 u47_a0 u47_Rd u47_Pg u47_Pt u47_Mk u47_Lk u47_Ck u47_Jd u47_Ld u47_Pr)) hE.1 C (c_Tx_size_1 hE l u47_x1 u47_a0 u47_Sj u47_T0 u47_Rd u47_Pg u47_Pt u47_Mk u47_Lk u47_Ck u47_Jd u47_Ld u47_Pr u47_rt hq6) hP (hDD _ _ _ _ _ _ _ _ _ _ _ _ _) hS hl.1 rfl cw_12 k_3_214 k_3_215 k_3_216 k_1_2 k_3_217 hv_Tx_size rfl rfl ⟨(Nat.le_of_ble_eq_true rfl), (Nat.le_of_ble_eq_true rfl)⟩ rfl (Nat.le_of_ble_eq_true rfl) ⟨Nat.zero_le _, Nat.zero_le _⟩ rfl d_Tx_wholeNumber_50 (fun H locs hP hS => ?_)
  refine lv_aload_n hx hb d_Tx_wholeNumber_53 rfl (lv_at hl 0 rfl) ?_
  refine lv_iload_n hx hb d_Tx_wholeNumber_54 rfl (lv_at hl 1 rfl) ?_
  obtain ⟨q7, hq7, h⟩ := o_bd_some h
  refine o_V (st1 := [.int q7, .int q6, .int z.2]) (w1 := (o_cw ad ca u47_rt u47_Sj u47_T0 u47_a0 u47_Rd u47_Pg u47_Pt u47_Mk u47_Lk u47_Ck u47_Jd u47_Ld u47_Pr)) hE.1 C (c_Tx_exponent_1 hE l u47_x1 u47_a0 u47_Sj u47_T0 u47_Rd u47_Pg u47_Pt u47_Mk u47_Lk u47_Ck u47_Jd u47_Ld u47_Pr u47_rt hq7) hP (hDD _ _ _ _ _ _ _ _ _ _ _ _ _) hS hl.1 rfl cw_12 k_5_66 k_5_67 k_5_68 k_1_2 k_5_69 hv_Tx_exponent rfl rfl ⟨(Nat.le_of_ble_eq_true rfl), (Nat.le_of_ble_eq_true rfl)⟩ rfl (Nat.le_of_ble_eq_true rfl) ⟨Nat.zero_le _, Nat.zero_le _⟩ rfl d_Tx_wholeNumber_55 (fun H locs hP hS => ?_)
  refine lv_iadd hx hb d_Tx_wholeNumber_58 ?_
  refine lv_icmp_ge (tgt := 80) hx hb d_Tx_wholeNumber_59 (by decide) (fun c5 => ?_) (fun c5 => ?_)
  · replace h := o_tt c5 h
    cases h
    exact h1 (Nat.succ_ne_zero 0) _ _ _ hP hS (lv_sub hl [2] rfl)
  · replace h := o_ff c5 h
    refine lv_iload_n hx hb d_Tx_wholeNumber_62 rfl (lv_at hl 2 rfl) ?_
    refine lv_bipush (v := (10:Int32)) hx hb d_Tx_wholeNumber_63 (by decide) ?_
    refine lv_imul hx hb d_Tx_wholeNumber_65 ?_
    refine lv_aload_n hx hb d_Tx_wholeNumber_66 rfl (lv_at hl 0 rfl) ?_
    refine lv_iload_n hx hb d_Tx_wholeNumber_67 rfl (lv_at hl 1 rfl) ?_
    refine lv_iload_n hx hb d_Tx_wholeNumber_68 rfl (lv_at hl 3 rfl) ?_
    obtain ⟨q8, hq8, h⟩ := o_bd_some h
    refine o_V (st1 := [.int q8, .int (z.1 * (10:Int32))]) (w1 := (o_cw ad ca u47_rt u47_Sj u47_T0 u47_a0 u47_Rd u47_Pg u47_Pt u47_Mk u47_Lk u47_Ck u47_Jd u47_Ld u47_Pr)) hE.1 C (c_Tx_cell_1 hE l u47_x1 z.2 u47_a0 u47_Sj u47_T0 u47_Rd u47_Pg u47_Pt u47_Mk u47_Lk u47_Ck u47_Jd u47_Ld u47_Pr u47_rt hq8) hP (hDD _ _ _ _ _ _ _ _ _ _ _ _ _) hS hl.1 rfl cw_12 k_5_70 k_4_117 k_4_118 k_1_2 k_4_119 hv_Tx_cell rfl rfl ⟨(Nat.le_of_ble_eq_true rfl), (Nat.le_of_ble_eq_true rfl)⟩ rfl (Nat.le_of_ble_eq_true rfl) ⟨Nat.zero_le _, Nat.zero_le _⟩ rfl d_Tx_wholeNumber_69 (fun H locs hP hS => ?_)
    refine lv_iadd hx hb d_Tx_wholeNumber_72 ?_
    refine lv_topi (fun x2_73 ex2_73 => ?_)
    replace h := o_nm_at ex2_73 h
    refine lv_istore_n (lv' := [(2, .int x2_73), (0, .ref (ad 12)), (1, .int u47_x1), (3, .int z.2)]) hx hb d_Tx_wholeNumber_73 rfl hl (by decide) rfl (fun ls hl => ?_)
    obtain ⟨x3_74, ex3_74⟩ : ∃ y : Int32, y = z.2 + (1:Int32) := ⟨_, rfl⟩
    replace h := o_nm_at ex3_74 h
    refine lv_iinc (v := x3_74) (lv' := [(3, .int x3_74), (2, .int x2_73), (0, .ref (ad 12)), (1, .int u47_x1)]) hx hb d_Tx_wholeNumber_74 hl (k := 3) rfl (by rw [ex3_74]; rfl) (by decide) rfl (fun ls hl => ?_)
    refine lv_goto (tgt := 47) hx hb d_Tx_wholeNumber_77 (by decide) ?_
    cases h
    exact h0 rfl _ _ _ hP hS (lv_sub hl [2, 3, 1, 0] rfl)
set_option maxHeartbeats 4000000 in
set_option maxRecDepth 100000 in
theorem c_Tx_wholeNumber_1 {E : (Nat → Prop) → State → Heap → Prop} {D : va_G} {ad kd sd vd xd : Nat → Nat} {ca : Nat → ClassId} (hE : o_EK E kd sd vd xd) (l : Launch) (n : Nat) (x1 : Int32) (a0 : STx) (Sj : SSJ) (T0 : STx) (Rd : SRd) (Pg : SPg) (Pt : SPt) (Mk : SMk) (Lk : SLk) (Ck : SCk) (Jd : SJd) (Ld : SLd) (Pr : SPr) (rt : Nat) {r : Int32} (h : m_Tx_wholeNumber n x1 a0 = some r) : o_Cn E l D o_cls (o_tys ca) y_Tx_wholeNumber cc_Tx_wholeNumber rm_Tx_wholeNumber [.ref (ad 12), .int x1] (o_cw ad ca rt Sj T0 a0 Rd Pg Pt Mk Lk Ck Jd Ld Pr) (o_cw ad ca rt Sj T0 a0 Rd Pg Pt Mk Lk Ck Jd Ld Pr) (some (.int r)) := by
  refine o_Cn_of (by decide) (Nat.le_of_ble_eq_true rfl) ?_
  intro p e s m below meth c A ls C hD hP hS hl
  have hDD : ∀ (rt : Nat) (Sj : SSJ) (T0 : STx) (T1 : STx) (Rd : SRd) (Pg : SPg) (Pt : SPt) (Mk : SMk) (Lk : SLk) (Ck : SCk) (Jd : SJd) (Ld : SLd) (Pr : SPr), va_D A (o_cw ad ca rt Sj T0 T1 Rd Pg Pt Mk Lk Ck Jd Ld Pr) := fun _ _ _ _ _ _ _ _ _ _ _ _ _ => o_D_map hD rfl
  have hl : lv_has ls 4 [(0, .ref (ad 12)), (1, .int x1)] := hl
  unfold m_Tx_wholeNumber at h
  have C0 := C
  obtain ⟨hx, hb, -, -, -, hown, hts, hK, -, -⟩ := C0
  refine lv_aload_n hx hb d_Tx_wholeNumber_0 rfl (lv_at hl 0 rfl) ?_
  refine lv_iload_n hx hb d_Tx_wholeNumber_1 rfl (lv_at hl 1 rfl) ?_
  obtain ⟨q1, hq1, h⟩ := o_bd_some h
  refine o_V (st1 := [.int q1]) (w1 := (o_cw ad ca rt Sj T0 a0 Rd Pg Pt Mk Lk Ck Jd Ld Pr)) hE.1 C (c_Tx_kind_1 hE l x1 a0 Sj T0 Rd Pg Pt Mk Lk Ck Jd Ld Pr rt hq1) hP (hDD _ _ _ _ _ _ _ _ _ _ _ _ _) hS hl.1 rfl cw_12 k_5_64 k_4_50 k_4_51 k_1_2 k_4_52 hv_Tx_kind rfl rfl ⟨(Nat.le_of_ble_eq_true rfl), (Nat.le_of_ble_eq_true rfl)⟩ rfl (Nat.le_of_ble_eq_true rfl) ⟨Nat.zero_le _, Nat.zero_le _⟩ rfl d_Tx_wholeNumber_2 (fun H locs hP hS => ?_)
  refine lv_iconst (v := (3:Int32)) hx hb d_Tx_wholeNumber_5 (by decide) ?_
  refine lv_icmp_ne (tgt := 41) hx hb d_Tx_wholeNumber_6 (by decide) (fun c1 => ?_) (fun c1 => ?_)
  · replace h := o_ff c1 h
    refine lv_iconst (v := (-1:Int32)) hx hb d_Tx_wholeNumber_41 (by decide) ?_
    cases h
    exact o_ri (v := (-1:Int32)) C hP hS d_Tx_wholeNumber_42
  · replace h := o_tt c1 h
    refine lv_aload_n hx hb d_Tx_wholeNumber_9 rfl (lv_at hl 0 rfl) ?_
    refine lv_iload_n hx hb d_Tx_wholeNumber_10 rfl (lv_at hl 1 rfl) ?_
    obtain ⟨q2, hq2, h⟩ := o_bd_some h
    refine o_V (st1 := [.int q2]) (w1 := (o_cw ad ca rt Sj T0 a0 Rd Pg Pt Mk Lk Ck Jd Ld Pr)) hE.1 C (c_Tx_sign_1 hE l x1 a0 Sj T0 Rd Pg Pt Mk Lk Ck Jd Ld Pr rt hq2) hP (hDD _ _ _ _ _ _ _ _ _ _ _ _ _) hS hl.1 rfl cw_12 k_5_65 k_5_57 k_5_58 k_1_2 k_5_59 hv_Tx_sign rfl rfl ⟨(Nat.le_of_ble_eq_true rfl), (Nat.le_of_ble_eq_true rfl)⟩ rfl (Nat.le_of_ble_eq_true rfl) ⟨Nat.zero_le _, Nat.zero_le _⟩ rfl d_Tx_wholeNumber_11 (fun H locs hP hS => ?_)
    refine lv_if_lt (tgt := 41) hx hb d_Tx_wholeNumber_14 (by decide) (fun c2 => ?_) (fun c2 => ?_)
    · replace h := o_tt c2 h
      refine lv_iconst (v := (-1:Int32)) hx hb d_Tx_wholeNumber_41 (by decide) ?_
      cases h
      exact o_ri (v := (-1:Int32)) C hP hS d_Tx_wholeNumber_42
    · replace h := o_ff c2 h
      refine lv_aload_n hx hb d_Tx_wholeNumber_17 rfl (lv_at hl 0 rfl) ?_
      refine lv_iload_n hx hb d_Tx_wholeNumber_18 rfl (lv_at hl 1 rfl) ?_
      obtain ⟨q3, hq3, h⟩ := o_bd_some h
      refine o_V (st1 := [.int q3]) (w1 := (o_cw ad ca rt Sj T0 a0 Rd Pg Pt Mk Lk Ck Jd Ld Pr)) hE.1 C (c_Tx_exponent_1 hE l x1 a0 Sj T0 Rd Pg Pt Mk Lk Ck Jd Ld Pr rt hq3) hP (hDD _ _ _ _ _ _ _ _ _ _ _ _ _) hS hl.1 rfl cw_12 k_5_66 k_5_67 k_5_68 k_1_2 k_5_69 hv_Tx_exponent rfl rfl ⟨(Nat.le_of_ble_eq_true rfl), (Nat.le_of_ble_eq_true rfl)⟩ rfl (Nat.le_of_ble_eq_true rfl) ⟨Nat.zero_le _, Nat.zero_le _⟩ rfl d_Tx_wholeNumber_19 (fun H locs hP hS => ?_)
      refine lv_if_lt (tgt := 41) hx hb d_Tx_wholeNumber_22 (by decide) (fun c3 => ?_) (fun c3 => ?_)
      · replace h := o_tt c3 h
        refine lv_iconst (v := (-1:Int32)) hx hb d_Tx_wholeNumber_41 (by decide) ?_
        cases h
        exact o_ri (v := (-1:Int32)) C hP hS d_Tx_wholeNumber_42
      · replace h := o_ff c3 h
        refine lv_aload_n hx hb d_Tx_wholeNumber_25 rfl (lv_at hl 0 rfl) ?_
        refine lv_iload_n hx hb d_Tx_wholeNumber_26 rfl (lv_at hl 1 rfl) ?_
        obtain ⟨q4, hq4, h⟩ := o_bd_some h
        refine o_V (st1 := [.int q4]) (w1 := (o_cw ad ca rt Sj T0 a0 Rd Pg Pt Mk Lk Ck Jd Ld Pr)) hE.1 C (c_Tx_size_1 hE l x1 a0 Sj T0 Rd Pg Pt Mk Lk Ck Jd Ld Pr rt hq4) hP (hDD _ _ _ _ _ _ _ _ _ _ _ _ _) hS hl.1 rfl cw_12 k_3_214 k_3_215 k_3_216 k_1_2 k_3_217 hv_Tx_size rfl rfl ⟨(Nat.le_of_ble_eq_true rfl), (Nat.le_of_ble_eq_true rfl)⟩ rfl (Nat.le_of_ble_eq_true rfl) ⟨Nat.zero_le _, Nat.zero_le _⟩ rfl d_Tx_wholeNumber_27 (fun H locs hP hS => ?_)
        refine lv_aload_n hx hb d_Tx_wholeNumber_30 rfl (lv_at hl 0 rfl) ?_
        refine lv_iload_n hx hb d_Tx_wholeNumber_31 rfl (lv_at hl 1 rfl) ?_
        obtain ⟨q5, hq5, h⟩ := o_bd_some h
        refine o_V (st1 := [.int q5, .int q4]) (w1 := (o_cw ad ca rt Sj T0 a0 Rd Pg Pt Mk Lk Ck Jd Ld Pr)) hE.1 C (c_Tx_exponent_1 hE l x1 a0 Sj T0 Rd Pg Pt Mk Lk Ck Jd Ld Pr rt hq5) hP (hDD _ _ _ _ _ _ _ _ _ _ _ _ _) hS hl.1 rfl cw_12 k_5_66 k_5_67 k_5_68 k_1_2 k_5_69 hv_Tx_exponent rfl rfl ⟨(Nat.le_of_ble_eq_true rfl), (Nat.le_of_ble_eq_true rfl)⟩ rfl (Nat.le_of_ble_eq_true rfl) ⟨Nat.zero_le _, Nat.zero_le _⟩ rfl d_Tx_wholeNumber_32 (fun H locs hP hS => ?_)
        refine lv_iadd hx hb d_Tx_wholeNumber_35 ?_
        refine lv_bipush (v := (7:Int32)) hx hb d_Tx_wholeNumber_36 (by decide) ?_
        refine lv_icmp_le (tgt := 43) hx hb d_Tx_wholeNumber_38 (by decide) (fun c4 => ?_) (fun c4 => ?_)
        · replace h := o_tt c4 h
          refine lv_iconst (v := (0:Int32)) hx hb d_Tx_wholeNumber_43 (by decide) ?_
          refine lv_istore_n (lv' := [(2, .int (0:Int32)), (0, .ref (ad 12)), (1, .int x1)]) hx hb d_Tx_wholeNumber_44 rfl hl (by decide) rfl (fun ls hl => ?_)
          refine lv_iconst (v := (0:Int32)) hx hb d_Tx_wholeNumber_45 (by decide) ?_
          refine lv_istore_n (lv' := [(3, .int (0:Int32)), (2, .int (0:Int32)), (0, .ref (ad 12)), (1, .int x1)]) hx hb d_Tx_wholeNumber_46 rfl hl (by decide) rfl (fun ls hl => ?_)
          obtain ⟨q9, hq9, h⟩ := o_bd_some h
          refine o_sim2 (AH := fun zz => o_At p l e rm_Tx_wholeNumber s m _ below meth c _ o_cls D A 4 47 [] (o_cw ad ca rt Sj T0 a0 Rd Pg Pt Mk Lk Ck Jd Ld Pr) [(0, .ref (ad 12)), (1, .int x1), (2, .int zz.1), (3, .int zz.2)]) (AX := fun qq => o_At p l e rm_Tx_wholeNumber s m _ below meth c _ o_cls D A 4 80 [] (o_cw ad ca rt Sj T0 a0 Rd Pg Pt Mk Lk Ck Jd Ld Pr) [(2, .int qq.2.1)]) (fun zz qq h h0 h1 => w_Tx_wholeNumber_b47_1 hE C hDD n x1 a0 Sj T0 Rd Pg Pt Mk Lk Ck Jd Ld Pr rt zz qq h h0 h1) n _ q9 hq9 ?_ _ _ _ hP hS (lv_sub hl [2, 3, 1, 0] rfl)
          intro H locs ls hP hS hl
          refine lv_iload_n hx hb d_Tx_wholeNumber_80 rfl (lv_at hl 0 rfl) ?_
          refine lv_ldc (v := (1000000:Int32)) hx hb hown (hts _ k_5_71) d_Tx_wholeNumber_81 ?_
          refine lv_icmp_le (tgt := 90) hx hb d_Tx_wholeNumber_83 (by decide) (fun c6 => ?_) (fun c6 => ?_)
          · replace h := o_tt c6 h
            refine lv_iload_n hx hb d_Tx_wholeNumber_90 rfl (lv_at hl 0 rfl) ?_
            cases h
            exact o_ri C hP hS d_Tx_wholeNumber_91
          · replace h := o_ff c6 h
            refine lv_iconst (v := (-1:Int32)) hx hb d_Tx_wholeNumber_86 (by decide) ?_
            refine lv_goto (tgt := 91) hx hb d_Tx_wholeNumber_87 (by decide) ?_
            cases h
            exact o_ri (v := (-1:Int32)) C hP hS d_Tx_wholeNumber_91
        · replace h := o_ff c4 h
          refine lv_iconst (v := (-1:Int32)) hx hb d_Tx_wholeNumber_41 (by decide) ?_
          cases h
          exact o_ri (v := (-1:Int32)) C hP hS d_Tx_wholeNumber_42
set_option maxHeartbeats 4000000 in
set_option maxRecDepth 100000 in
theorem c_Tx_parent_1 {E : (Nat → Prop) → State → Heap → Prop} {D : va_G} {ad kd sd vd xd : Nat → Nat} {ca : Nat → ClassId} (hE : o_EK E kd sd vd xd) (l : Launch) (x1 : Int32) (a0 : STx) (Sj : SSJ) (T0 : STx) (Rd : SRd) (Pg : SPg) (Pt : SPt) (Mk : SMk) (Lk : SLk) (Ck : SCk) (Jd : SJd) (Ld : SLd) (Pr : SPr) (rt : Nat) {r : Int32} (h : m_Tx_parent x1 a0 = some r) : o_Cn E l D o_cls (o_tys ca) y_Tx_parent cc_Tx_parent rm_Tx_parent [.ref (ad 12), .int x1] (o_cw ad ca rt Sj T0 a0 Rd Pg Pt Mk Lk Ck Jd Ld Pr) (o_cw ad ca rt Sj T0 a0 Rd Pg Pt Mk Lk Ck Jd Ld Pr) (some (.int r)) := by
  refine o_Cn_of (by decide) (Nat.le_of_ble_eq_true rfl) ?_
  intro p e s m below meth c A ls C hD hP hS hl
  have hDD : ∀ (rt : Nat) (Sj : SSJ) (T0 : STx) (T1 : STx) (Rd : SRd) (Pg : SPg) (Pt : SPt) (Mk : SMk) (Lk : SLk) (Ck : SCk) (Jd : SJd) (Ld : SLd) (Pr : SPr), va_D A (o_cw ad ca rt Sj T0 T1 Rd Pg Pt Mk Lk Ck Jd Ld Pr) := fun _ _ _ _ _ _ _ _ _ _ _ _ _ => o_D_map hD rfl
  have hl : lv_has ls 2 [(0, .ref (ad 12)), (1, .int x1)] := hl
  unfold m_Tx_parent at h
  have C0 := C
  obtain ⟨hx, hb, -, -, -, hown, hts, hK, -, -⟩ := C0
  refine lv_iload_n hx hb d_Tx_parent_0 rfl (lv_at hl 1 rfl) ?_
  refine lv_if_lt (tgt := 21) hx hb d_Tx_parent_1 (by decide) (fun c1 => ?_) (fun c1 => ?_)
  · replace h := o_tt c1 h
    refine lv_iconst (v := (-1:Int32)) hx hb d_Tx_parent_21 (by decide) ?_
    cases h
    exact o_ri (v := (-1:Int32)) C hP hS d_Tx_parent_22
  · replace h := o_ff c1 h
    refine lv_iload_n hx hb d_Tx_parent_4 rfl (lv_at hl 1 rfl) ?_
    refine lv_aload_n hx hb d_Tx_parent_5 rfl (lv_at hl 0 rfl) ?_
    refine o_get (v := .int (Tx_total a0)) C in_Tx hP 12 cw_12 rfl 10 (by decide) k_1_56 rfl rfl d_Tx_parent_6 ?_
    refine lv_icmp_ge (tgt := 21) hx hb d_Tx_parent_9 (by decide) (fun c2 => ?_) (fun c2 => ?_)
    · replace h := o_tt c2 h
      refine lv_iconst (v := (-1:Int32)) hx hb d_Tx_parent_21 (by decide) ?_
      cases h
      exact o_ri (v := (-1:Int32)) C hP hS d_Tx_parent_22
    · replace h := o_ff c2 h
      refine lv_aload_n hx hb d_Tx_parent_12 rfl (lv_at hl 0 rfl) ?_
      refine o_get (v := .ref (ad 16)) C in_Tx hP 12 cw_12 rfl 3 (by decide) k_1_49 rfl rfl d_Tx_parent_13 ?_
      refine lv_iload_n hx hb d_Tx_parent_16 rfl (lv_at hl 1 rfl) ?_
      obtain ⟨g3, h⟩ := o_gd_some h
      refine o_iald (f := (Tx_parents a0)) C hP 16 13 cw_16 rfl g3 d_Tx_parent_17 ?_
      refine lv_goto (tgt := 22) hx hb d_Tx_parent_18 (by decide) ?_
      cases h
      exact o_ri (v := ((Tx_parents a0) x1.toNatClampNeg)) C hP hS d_Tx_parent_22
set_option maxHeartbeats 4000000 in
set_option maxRecDepth 100000 in
theorem c_Tx_has_0 {E : (Nat → Prop) → State → Heap → Prop} {D : va_G} {ad kd sd vd xd : Nat → Nat} {ca : Nat → ClassId} (hE : o_EK E kd sd vd xd) (l : Launch) (x1 : Int32) (a0 : STx) (Sj : SSJ) (T1 : STx) (Rd : SRd) (Pg : SPg) (Pt : SPt) (Mk : SMk) (Lk : SLk) (Ck : SCk) (Jd : SJd) (Ld : SLd) (Pr : SPr) (rt : Nat) {r : Int32} (h : m_Tx_has x1 a0 = some r) : o_Cn E l D o_cls (o_tys ca) y_Tx_has cc_Tx_has rm_Tx_has [.ref (ad 1), .int x1] (o_cw ad ca rt Sj a0 T1 Rd Pg Pt Mk Lk Ck Jd Ld Pr) (o_cw ad ca rt Sj a0 T1 Rd Pg Pt Mk Lk Ck Jd Ld Pr) (some (.int r)) := by
  refine o_Cn_of (by decide) (Nat.le_of_ble_eq_true rfl) ?_
  intro p e s m below meth c A ls C hD hP hS hl
  have hDD : ∀ (rt : Nat) (Sj : SSJ) (T0 : STx) (T1 : STx) (Rd : SRd) (Pg : SPg) (Pt : SPt) (Mk : SMk) (Lk : SLk) (Ck : SCk) (Jd : SJd) (Ld : SLd) (Pr : SPr), va_D A (o_cw ad ca rt Sj T0 T1 Rd Pg Pt Mk Lk Ck Jd Ld Pr) := fun _ _ _ _ _ _ _ _ _ _ _ _ _ => o_D_map hD rfl
  have hl : lv_has ls 2 [(0, .ref (ad 1)), (1, .int x1)] := hl
  unfold m_Tx_has at h
  have C0 := C
  obtain ⟨hx, hb, -, -, -, hown, hts, hK, -, -⟩ := C0
  refine lv_iload_n hx hb d_Tx_has_0 rfl (lv_at hl 1 rfl) ?_
  refine lv_if_lt (tgt := 16) hx hb d_Tx_has_1 (by decide) (fun c1 => ?_) (fun c1 => ?_)
  · replace h := o_tt c1 h
    refine lv_iconst (v := (0:Int32)) hx hb d_Tx_has_16 (by decide) ?_
    cases h
    exact o_rz (v := (0:Int32)) C o_nar0 hP hS d_Tx_has_17
  · replace h := o_ff c1 h
    refine lv_iload_n hx hb d_Tx_has_4 rfl (lv_at hl 1 rfl) ?_
    refine lv_aload_n hx hb d_Tx_has_5 rfl (lv_at hl 0 rfl) ?_
    refine o_get (v := .int (Tx_total a0)) C in_Tx hP 1 cw_1 rfl 10 (by decide) k_1_56 rfl rfl d_Tx_has_6 ?_
    refine lv_icmp_ge (tgt := 16) hx hb d_Tx_has_9 (by decide) (fun c2 => ?_) (fun c2 => ?_)
    · replace h := o_tt c2 h
      refine lv_iconst (v := (0:Int32)) hx hb d_Tx_has_16 (by decide) ?_
      cases h
      exact o_rz (v := (0:Int32)) C o_nar0 hP hS d_Tx_has_17
    · replace h := o_ff c2 h
      refine lv_iconst (v := (1:Int32)) hx hb d_Tx_has_12 (by decide) ?_
      refine lv_goto (tgt := 17) hx hb d_Tx_has_13 (by decide) ?_
      cases h
      exact o_rz (v := (1:Int32)) C o_nar1 hP hS d_Tx_has_17
set_option maxHeartbeats 4000000 in
set_option maxRecDepth 100000 in
theorem c_Tx_has_1 {E : (Nat → Prop) → State → Heap → Prop} {D : va_G} {ad kd sd vd xd : Nat → Nat} {ca : Nat → ClassId} (hE : o_EK E kd sd vd xd) (l : Launch) (x1 : Int32) (a0 : STx) (Sj : SSJ) (T0 : STx) (Rd : SRd) (Pg : SPg) (Pt : SPt) (Mk : SMk) (Lk : SLk) (Ck : SCk) (Jd : SJd) (Ld : SLd) (Pr : SPr) (rt : Nat) {r : Int32} (h : m_Tx_has x1 a0 = some r) : o_Cn E l D o_cls (o_tys ca) y_Tx_has cc_Tx_has rm_Tx_has [.ref (ad 12), .int x1] (o_cw ad ca rt Sj T0 a0 Rd Pg Pt Mk Lk Ck Jd Ld Pr) (o_cw ad ca rt Sj T0 a0 Rd Pg Pt Mk Lk Ck Jd Ld Pr) (some (.int r)) := by
  refine o_Cn_of (by decide) (Nat.le_of_ble_eq_true rfl) ?_
  intro p e s m below meth c A ls C hD hP hS hl
  have hDD : ∀ (rt : Nat) (Sj : SSJ) (T0 : STx) (T1 : STx) (Rd : SRd) (Pg : SPg) (Pt : SPt) (Mk : SMk) (Lk : SLk) (Ck : SCk) (Jd : SJd) (Ld : SLd) (Pr : SPr), va_D A (o_cw ad ca rt Sj T0 T1 Rd Pg Pt Mk Lk Ck Jd Ld Pr) := fun _ _ _ _ _ _ _ _ _ _ _ _ _ => o_D_map hD rfl
  have hl : lv_has ls 2 [(0, .ref (ad 12)), (1, .int x1)] := hl
  unfold m_Tx_has at h
  have C0 := C
  obtain ⟨hx, hb, -, -, -, hown, hts, hK, -, -⟩ := C0
  refine lv_iload_n hx hb d_Tx_has_0 rfl (lv_at hl 1 rfl) ?_
  refine lv_if_lt (tgt := 16) hx hb d_Tx_has_1 (by decide) (fun c1 => ?_) (fun c1 => ?_)
  · replace h := o_tt c1 h
    refine lv_iconst (v := (0:Int32)) hx hb d_Tx_has_16 (by decide) ?_
    cases h
    exact o_rz (v := (0:Int32)) C o_nar0 hP hS d_Tx_has_17
  · replace h := o_ff c1 h
    refine lv_iload_n hx hb d_Tx_has_4 rfl (lv_at hl 1 rfl) ?_
    refine lv_aload_n hx hb d_Tx_has_5 rfl (lv_at hl 0 rfl) ?_
    refine o_get (v := .int (Tx_total a0)) C in_Tx hP 12 cw_12 rfl 10 (by decide) k_1_56 rfl rfl d_Tx_has_6 ?_
    refine lv_icmp_ge (tgt := 16) hx hb d_Tx_has_9 (by decide) (fun c2 => ?_) (fun c2 => ?_)
    · replace h := o_tt c2 h
      refine lv_iconst (v := (0:Int32)) hx hb d_Tx_has_16 (by decide) ?_
      cases h
      exact o_rz (v := (0:Int32)) C o_nar0 hP hS d_Tx_has_17
    · replace h := o_ff c2 h
      refine lv_iconst (v := (1:Int32)) hx hb d_Tx_has_12 (by decide) ?_
      refine lv_goto (tgt := 17) hx hb d_Tx_has_13 (by decide) ?_
      cases h
      exact o_rz (v := (1:Int32)) C o_nar1 hP hS d_Tx_has_17
