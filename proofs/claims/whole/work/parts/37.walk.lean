set_option maxHeartbeats 4000000 in
set_option maxRecDepth 100000 in
theorem w_Rd_readObject_j123_1 {E : (Nat → Prop) → State → Heap → Prop} {p : Program} {l : Launch} {e : Env} {s : State} {m : MethodId} {args : Array Value} {below : List Frame} {meth : Method} {c : Code} {D : va_G} {ad kd sd vd xd : Nat → Nat} {ca : Nat → ClassId} {A : Nat → Prop} {Q : State → Prop} (hE : o_EK E kd sd vd xd) (C : o_Cx E p s m args meth c D o_cls (o_tys ca) "SchemaJudge$Reader" b_Rd_readObject (some .boolean) 6 cc_Rd_readObject A) (hDD : ∀ (rt : Nat) (Sj : SSJ) (T0 : STx) (T1 : STx) (Rd : SRd) (Pg : SPg) (Pt : SPt) (Mk : SMk) (Lk : SLk) (Ck : SCk) (Jd : SJd) (Ld : SLd) (Pr : SPr), va_D A (o_cw ad ca rt Sj T0 T1 Rd Pg Pt Mk Lk Ck Jd Ld Pr)) (d : Nat) (rec : Int32 → Int32 → Int32 → STx → SRd → Option (Int32 × STx × SRd)) (hrec : ∀ (x1 : Int32) (x2 : Int32) (x3 : Int32) (tc : STx) (Rd : SRd) (Sj : SSJ) (T0 : STx) (Pg : SPg) (Pt : SPt) (Mk : SMk) (Lk : SLk) (Ck : SCk) (Jd : SJd) (Ld : SLd) (Pr : SPr) (r : Int32 × STx × SRd), rec x1 x2 x3 tc Rd = some r → o_Cn E l D o_cls (o_tys ca) y_Rd_readValue cc_Rd_readValue (rm_Rd_readValue d) [.ref (ad 23), .int x1, .int x2, .int x3] (o_cw ad ca 12 Sj T0 tc Rd Pg Pt Mk Lk Ck Jd Ld Pr) (o_cw ad ca 12 Sj T0 r.2.1 r.2.2 Pg Pt Mk Lk Ck Jd Ld Pr) (some (.int r.1))) (n : Nat) (u37_x1 : Int32) (u37_x2 : Int32) (u37_Sj : SSJ) (u37_T0 : STx) (u37_Pg : SPg) (u37_Pt : SPt) (u37_Mk : SMk) (u37_Lk : SLk) (u37_Ck : SCk) (u37_Jd : SJd) (u37_Ld : SLd) (u37_Pr : SPr) (x3 : Int32) (x5 : Int32) (tc : STx) (Rd : SRd) {q : Nat × Int32 × STx × SRd} (h : m_Rd_readObject_j123 n rec u37_x1 u37_x2 x3 x5 tc Rd = some q) (h0 : q.1 = 0 → o_At p l e (rm_Rd_readObject d) s m args below meth c Q o_cls D A 6 37 [] (o_cw ad ca 12 u37_Sj u37_T0 q.2.2.1 q.2.2.2 u37_Pg u37_Pt u37_Mk u37_Lk u37_Ck u37_Jd u37_Ld u37_Pr) [(0, .ref (ad 23)), (1, .int u37_x1), (2, .int u37_x2), (3, .int q.2.1)]) (h1 : q.1 ≠ 0 → (if q.1 = 1 then o_At p l e (rm_Rd_readObject d) s m args below meth c Q o_cls D A 6 88 [] (o_cw ad ca 12 u37_Sj u37_T0 q.2.2.1 q.2.2.2 u37_Pg u37_Pt u37_Mk u37_Lk u37_Ck u37_Jd u37_Ld u37_Pr) [] else if q.1 = 2 then o_At p l e (rm_Rd_readObject d) s m args below meth c Q o_cls D A 6 114 [] (o_cw ad ca 12 u37_Sj u37_T0 q.2.2.1 q.2.2.2 u37_Pg u37_Pt u37_Mk u37_Lk u37_Ck u37_Jd u37_Ld u37_Pr) [(0, .ref (ad 23))] else if q.1 = 3 then o_At p l e (rm_Rd_readObject d) s m args below meth c Q o_cls D A 6 151 [] (o_cw ad ca 12 u37_Sj u37_T0 q.2.2.1 q.2.2.2 u37_Pg u37_Pt u37_Mk u37_Lk u37_Ck u37_Jd u37_Ld u37_Pr) [] else o_At p l e (rm_Rd_readObject d) s m args below meth c Q o_cls D A 6 159 [] (o_cw ad ca 12 u37_Sj u37_T0 q.2.2.1 q.2.2.2 u37_Pg u37_Pt u37_Mk u37_Lk u37_Ck u37_Jd u37_Ld u37_Pr) [(0, .ref (ad 23))])) : o_At p l e (rm_Rd_readObject d) s m args below meth c Q o_cls D A 6 123 [] (o_cw ad ca 12 u37_Sj u37_T0 tc Rd u37_Pg u37_Pt u37_Mk u37_Lk u37_Ck u37_Jd u37_Ld u37_Pr) [(0, .ref (ad 23)), (1, .int u37_x1), (2, .int u37_x2), (3, .int x3), (5, .int x5)] := by
  unfold m_Rd_readObject_j123 at h
  intro H locs ls hP hS hl
  have C0 := C
  obtain ⟨hx, hb, -, -, -, hown, hts, hK, -, -⟩ := C0
  refine lv_aload_n hx hb d_Rd_readObject_123 rfl (lv_at hl 0 rfl) ?_
  refine lv_dup hx hb d_Rd_readObject_124 rfl ?_
  refine o_get (v := .int (Rd_position Rd)) C in_Rd hP 23 cw_23 rfl 3 (by decide) k_1_97 rfl rfl d_Rd_readObject_125 ?_
  refine lv_iconst (v := (1:Int32)) hx hb d_Rd_readObject_128 (by decide) ?_
  refine lv_iadd hx hb d_Rd_readObject_129 ?_
  refine o_put (v := .int ((Rd_position Rd) + (1:Int32))) (ty := .int) (w1 := (o_cw ad ca 12 u37_Sj u37_T0 tc (Rd_mk (Rd_words Rd) (Rd_wordCount Rd) ((Rd_position Rd) + (1:Int32)) (Rd_limit Rd) (Rd_wrongPlace Rd)) u37_Pg u37_Pt u37_Mk u37_Lk u37_Ck u37_Jd u37_Ld u37_Pr)) C in_Rd t_Rd t_Rd_ok n_Rd hP (hDD _ _ _ _ _ _ _ _ _ _ _ _ _) hS 23 cw_23 rfl 3 (by decide) k_1_97 rfl rfl (by decide +kernel) rfl rfl (Nat.le_of_ble_eq_true rfl) rfl d_Rd_readObject_130 (fun H locs hP hS => ?_)
  refine lv_aload_n hx hb d_Rd_readObject_133 rfl (lv_at hl 0 rfl) ?_
  refine o_get (v := .ref (ad 12)) C in_Rd hP 23 cw_23 rfl 2 (by decide) k_1_96 rfl rfl d_Rd_readObject_134 ?_
  refine lv_iload_n hx hb d_Rd_readObject_137 rfl (lv_at hl 1 rfl) ?_
  refine lv_iload_n hx hb d_Rd_readObject_138 rfl (lv_at hl 3 rfl) ?_
  refine lv_iconst (v := (1:Int32)) hx hb d_Rd_readObject_139 (by decide) ?_
  refine lv_iadd hx hb d_Rd_readObject_140 ?_
  obtain ⟨q9, hq9, h⟩ := o_bd_some h
  refine o_V (st1 := []) (w1 := (o_cw ad ca 12 u37_Sj u37_T0 q9 (Rd_mk (Rd_words Rd) (Rd_wordCount Rd) ((Rd_position Rd) + (1:Int32)) (Rd_limit Rd) (Rd_wrongPlace Rd)) u37_Pg u37_Pt u37_Mk u37_Lk u37_Ck u37_Jd u37_Ld u37_Pr)) hE.1 C (c_Tx_endParent_1 hE l u37_x1 (x3 + (1:Int32)) tc u37_Sj u37_T0 (Rd_mk (Rd_words Rd) (Rd_wordCount Rd) ((Rd_position Rd) + (1:Int32)) (Rd_limit Rd) (Rd_wrongPlace Rd)) u37_Pg u37_Pt u37_Mk u37_Lk u37_Ck u37_Jd u37_Ld u37_Pr 12 hq9) hP (hDD _ _ _ _ _ _ _ _ _ _ _ _ _) hS hl.1 rfl cw_12 k_3_190 k_3_191 k_3_192 k_1_2 k_3_193 hv_Tx_endParent rfl rfl ⟨(by dsimp only [rm_Rd_readObject, rm_Tx_endParent]; omega), (by dsimp only [rm_Rd_readObject, rm_Tx_endParent]; omega)⟩ rfl (Nat.le_of_ble_eq_true rfl) ⟨Nat.zero_le _, Nat.zero_le _⟩ rfl d_Rd_readObject_141 (fun H locs hP hS => ?_)
  refine lv_iload hx hb d_Rd_readObject_144 (lv_at hl 4 rfl) ?_
  refine lv_bipush (v := (125:Int32)) hx hb d_Rd_readObject_146 (by decide) ?_
  refine lv_icmp_ne (tgt := 153) hx hb d_Rd_readObject_148 (by decide) (fun c8 => ?_) (fun c8 => ?_)
  · replace h := o_ff c8 h
    obtain ⟨x3_153, ex3_153⟩ : ∃ y : Int32, y = x3 + (1:Int32) := ⟨_, rfl⟩
    replace h := o_nm_at ex3_153 h
    refine lv_iinc (v := x3_153) (lv' := [(3, .int x3_153), (0, .ref (ad 23)), (1, .int u37_x1), (2, .int u37_x2), (5, .int x5)]) hx hb d_Rd_readObject_153 hl (k := 3) rfl (by rw [ex3_153]; rfl) (by decide) rfl (fun ls hl => ?_)
    refine lv_goto (tgt := 37) hx hb d_Rd_readObject_156 (by decide) ?_
    cases h
    exact h0 rfl _ _ _ hP hS (lv_sub hl [1, 2, 3, 0] rfl)
  · replace h := o_tt c8 h
    cases h
    exact h1 (Nat.succ_ne_zero 2) _ _ _ hP hS (lv_sub hl [] rfl)
set_option maxHeartbeats 4000000 in
set_option maxRecDepth 100000 in
theorem w_Rd_readObject_b37_1 {E : (Nat → Prop) → State → Heap → Prop} {p : Program} {l : Launch} {e : Env} {s : State} {m : MethodId} {args : Array Value} {below : List Frame} {meth : Method} {c : Code} {D : va_G} {ad kd sd vd xd : Nat → Nat} {ca : Nat → ClassId} {A : Nat → Prop} {Q : State → Prop} (hE : o_EK E kd sd vd xd) (C : o_Cx E p s m args meth c D o_cls (o_tys ca) "SchemaJudge$Reader" b_Rd_readObject (some .boolean) 6 cc_Rd_readObject A) (hDD : ∀ (rt : Nat) (Sj : SSJ) (T0 : STx) (T1 : STx) (Rd : SRd) (Pg : SPg) (Pt : SPt) (Mk : SMk) (Lk : SLk) (Ck : SCk) (Jd : SJd) (Ld : SLd) (Pr : SPr), va_D A (o_cw ad ca rt Sj T0 T1 Rd Pg Pt Mk Lk Ck Jd Ld Pr)) (d : Nat) (rec : Int32 → Int32 → Int32 → STx → SRd → Option (Int32 × STx × SRd)) (hrec : ∀ (x1 : Int32) (x2 : Int32) (x3 : Int32) (tc : STx) (Rd : SRd) (Sj : SSJ) (T0 : STx) (Pg : SPg) (Pt : SPt) (Mk : SMk) (Lk : SLk) (Ck : SCk) (Jd : SJd) (Ld : SLd) (Pr : SPr) (r : Int32 × STx × SRd), rec x1 x2 x3 tc Rd = some r → o_Cn E l D o_cls (o_tys ca) y_Rd_readValue cc_Rd_readValue (rm_Rd_readValue d) [.ref (ad 23), .int x1, .int x2, .int x3] (o_cw ad ca 12 Sj T0 tc Rd Pg Pt Mk Lk Ck Jd Ld Pr) (o_cw ad ca 12 Sj T0 r.2.1 r.2.2 Pg Pt Mk Lk Ck Jd Ld Pr) (some (.int r.1))) (n : Nat) (u37_x1 : Int32) (u37_x2 : Int32) (u37_Sj : SSJ) (u37_T0 : STx) (u37_Pg : SPg) (u37_Pt : SPt) (u37_Mk : SMk) (u37_Lk : SLk) (u37_Ck : SCk) (u37_Jd : SJd) (u37_Ld : SLd) (u37_Pr : SPr) (z : Int32 × STx × SRd) (q : Nat × Int32 × STx × SRd) (h : m_Rd_readObject_b37 n rec u37_x1 u37_x2 z = some q) (h0 : q.1 = 0 → o_At p l e (rm_Rd_readObject d) s m args below meth c Q o_cls D A 6 37 [] (o_cw ad ca 12 u37_Sj u37_T0 q.2.2.1 q.2.2.2 u37_Pg u37_Pt u37_Mk u37_Lk u37_Ck u37_Jd u37_Ld u37_Pr) [(0, .ref (ad 23)), (1, .int u37_x1), (2, .int u37_x2), (3, .int q.2.1)]) (h1 : q.1 ≠ 0 → (if q.1 = 1 then o_At p l e (rm_Rd_readObject d) s m args below meth c Q o_cls D A 6 88 [] (o_cw ad ca 12 u37_Sj u37_T0 q.2.2.1 q.2.2.2 u37_Pg u37_Pt u37_Mk u37_Lk u37_Ck u37_Jd u37_Ld u37_Pr) [] else if q.1 = 2 then o_At p l e (rm_Rd_readObject d) s m args below meth c Q o_cls D A 6 114 [] (o_cw ad ca 12 u37_Sj u37_T0 q.2.2.1 q.2.2.2 u37_Pg u37_Pt u37_Mk u37_Lk u37_Ck u37_Jd u37_Ld u37_Pr) [(0, .ref (ad 23))] else if q.1 = 3 then o_At p l e (rm_Rd_readObject d) s m args below meth c Q o_cls D A 6 151 [] (o_cw ad ca 12 u37_Sj u37_T0 q.2.2.1 q.2.2.2 u37_Pg u37_Pt u37_Mk u37_Lk u37_Ck u37_Jd u37_Ld u37_Pr) [] else o_At p l e (rm_Rd_readObject d) s m args below meth c Q o_cls D A 6 159 [] (o_cw ad ca 12 u37_Sj u37_T0 q.2.2.1 q.2.2.2 u37_Pg u37_Pt u37_Mk u37_Lk u37_Ck u37_Jd u37_Ld u37_Pr) [(0, .ref (ad 23))])) : o_At p l e (rm_Rd_readObject d) s m args below meth c Q o_cls D A 6 37 [] (o_cw ad ca 12 u37_Sj u37_T0 z.2.1 z.2.2 u37_Pg u37_Pt u37_Mk u37_Lk u37_Ck u37_Jd u37_Ld u37_Pr) [(0, .ref (ad 23)), (1, .int u37_x1), (2, .int u37_x2), (3, .int z.1)] := by
  unfold m_Rd_readObject_b37 at h
  intro H locs ls hP hS hl
  have C0 := C
  obtain ⟨hx, hb, -, -, -, hown, hts, hK, -, -⟩ := C0
  refine lv_iload_n hx hb d_Rd_readObject_37 rfl (lv_at hl 3 rfl) ?_
  refine lv_bipush (v := (60:Int32)) hx hb d_Rd_readObject_38 (by decide) ?_
  refine lv_icmp_ge (tgt := 159) hx hb d_Rd_readObject_40 (by decide) (fun c2 => ?_) (fun c2 => ?_)
  · replace h := o_tt c2 h
    cases h
    exact h1 (Nat.succ_ne_zero 3) _ _ _ hP hS (lv_sub hl [0] rfl)
  · replace h := o_ff c2 h
    refine lv_aload_n hx hb d_Rd_readObject_43 rfl (lv_at hl 0 rfl) ?_
    refine lv_iload_n hx hb d_Rd_readObject_44 rfl (lv_at hl 1 rfl) ?_
    refine lv_iload_n hx hb d_Rd_readObject_45 rfl (lv_at hl 3 rfl) ?_
    obtain ⟨q3, hq3, h⟩ := o_bd_some h
    refine o_V (st1 := [.int q3.1]) (w1 := (o_cw ad ca 12 u37_Sj u37_T0 q3.2.1 q3.2.2 u37_Pg u37_Pt u37_Mk u37_Lk u37_Ck u37_Jd u37_Ld u37_Pr)) hE.1 C (c_Rd_beginName_1 hE l n u37_x1 z.1 z.2.1 z.2.2 u37_Sj u37_T0 u37_Pg u37_Pt u37_Mk u37_Lk u37_Ck u37_Jd u37_Ld u37_Pr hq3) hP (hDD _ _ _ _ _ _ _ _ _ _ _ _ _) hS hl.1 rfl cw_23 k_3_198 k_3_200 k_s_16 k_1_3 k_3_201 hv_Rd_beginName rfl rfl ⟨(by dsimp only [rm_Rd_readObject, rm_Rd_beginName]; omega), (by dsimp only [rm_Rd_readObject, rm_Rd_beginName]; omega)⟩ rfl (Nat.le_of_ble_eq_true rfl) ⟨Nat.zero_le _, Nat.zero_le _⟩ rfl d_Rd_readObject_46 (fun H locs hP hS => ?_)
    refine lv_istore (lv' := [(4, .int q3.1), (0, .ref (ad 23)), (1, .int u37_x1), (2, .int u37_x2), (3, .int z.1)]) hx hb d_Rd_readObject_49 hl (by decide) rfl (fun ls hl => ?_)
    refine lv_iload hx hb d_Rd_readObject_51 (lv_at hl 0 rfl) ?_
    refine lv_iconst (v := (-1:Int32)) hx hb d_Rd_readObject_53 (by decide) ?_
    refine lv_icmp_eq (tgt := 88) hx hb d_Rd_readObject_54 (by decide) (fun c3 => ?_) (fun c3 => ?_)
    · replace h := o_tt c3 h
      cases h
      exact h1 (Nat.succ_ne_zero 0) _ _ _ hP hS (lv_sub hl [] rfl)
    · replace h := o_ff c3 h
      refine lv_aload_n hx hb d_Rd_readObject_57 rfl (lv_at hl 1 rfl) ?_
      refine lv_iload hx hb d_Rd_readObject_58 (lv_at hl 0 rfl) ?_
      obtain ⟨q4, hq4, h⟩ := o_bd_some h
      refine o_V (st1 := [.int q4.1]) (w1 := (o_cw ad ca 12 u37_Sj u37_T0 q4.2.1 q4.2.2 u37_Pg u37_Pt u37_Mk u37_Lk u37_Ck u37_Jd u37_Ld u37_Pr)) hE.1 C (c_Rd_readString_1 hE l n q3.1 q3.2.1 q3.2.2 u37_Sj u37_T0 u37_Pg u37_Pt u37_Mk u37_Lk u37_Ck u37_Jd u37_Ld u37_Pr hq4) hP (hDD _ _ _ _ _ _ _ _ _ _ _ _ _) hS hl.1 rfl cw_23 k_3_131 k_3_133 k_s_9 k_1_3 k_3_134 hv_Rd_readString rfl rfl ⟨(by dsimp only [rm_Rd_readObject, rm_Rd_readString]; omega), (by dsimp only [rm_Rd_readObject, rm_Rd_readString]; omega)⟩ rfl (Nat.le_of_ble_eq_true rfl) ⟨Nat.zero_le _, Nat.zero_le _⟩ rfl d_Rd_readObject_60 (fun H locs hP hS => ?_)
      refine lv_if_eq (tgt := 88) hx hb d_Rd_readObject_63 (by decide) (fun c4 => ?_) (fun c4 => ?_)
      · replace h := o_tt c4 h
        cases h
        exact h1 (Nat.succ_ne_zero 0) _ _ _ hP hS (lv_sub hl [] rfl)
      · replace h := o_ff c4 h
        refine lv_aload_n hx hb d_Rd_readObject_66 rfl (lv_at hl 1 rfl) ?_
        refine lv_iload_n hx hb d_Rd_readObject_67 rfl (lv_at hl 2 rfl) ?_
        refine lv_iload hx hb d_Rd_readObject_68 (lv_at hl 0 rfl) ?_
        obtain ⟨q5, hq5, h⟩ := o_bd_some h
        refine o_V (st1 := [.int q5.1]) (w1 := (o_cw ad ca 12 u37_Sj u37_T0 q4.2.1 q5.2 u37_Pg u37_Pt u37_Mk u37_Lk u37_Ck u37_Jd u37_Ld u37_Pr)) hE.1 C (c_Rd_endName_1 hE l n u37_x1 q3.1 q4.2.1 q4.2.2 u37_Sj u37_T0 u37_Pg u37_Pt u37_Mk u37_Lk u37_Ck u37_Jd u37_Ld u37_Pr hq5) hP (hDD _ _ _ _ _ _ _ _ _ _ _ _ _) hS hl.1 rfl cw_23 k_3_202 k_3_204 k_s_17 k_1_3 k_3_205 hv_Rd_endName rfl rfl ⟨(by dsimp only [rm_Rd_readObject, rm_Rd_endName]; omega), (by dsimp only [rm_Rd_readObject, rm_Rd_endName]; omega)⟩ rfl (Nat.le_of_ble_eq_true rfl) ⟨Nat.zero_le _, Nat.zero_le _⟩ rfl d_Rd_readObject_70 (fun H locs hP hS => ?_)
        refine lv_if_eq (tgt := 88) hx hb d_Rd_readObject_73 (by decide) (fun c5 => ?_) (fun c5 => ?_)
        · replace h := o_tt c5 h
          cases h
          exact h1 (Nat.succ_ne_zero 0) _ _ _ hP hS (lv_sub hl [] rfl)
        · replace h := o_ff c5 h
          refine lv_aload_n hx hb d_Rd_readObject_76 rfl (lv_at hl 1 rfl) ?_
          refine lv_iload_n hx hb d_Rd_readObject_77 rfl (lv_at hl 2 rfl) ?_
          refine lv_iload_n hx hb d_Rd_readObject_78 rfl (lv_at hl 4 rfl) ?_
          refine lv_iload_n hx hb d_Rd_readObject_79 rfl (lv_at hl 3 rfl) ?_
          refine lv_iconst (v := (1:Int32)) hx hb d_Rd_readObject_80 (by decide) ?_
          refine lv_iadd hx hb d_Rd_readObject_81 ?_
          obtain ⟨q6, hq6, h⟩ := o_bd_some h
          refine o_V (st1 := [.int q6.1]) (w1 := (o_cw ad ca 12 u37_Sj u37_T0 q6.2.1 q6.2.2 u37_Pg u37_Pt u37_Mk u37_Lk u37_Ck u37_Jd u37_Ld u37_Pr)) hE.1 C (hrec u37_x1 z.1 (u37_x2 + (1:Int32)) q4.2.1 q5.2 u37_Sj u37_T0 u37_Pg u37_Pt u37_Mk u37_Lk u37_Ck u37_Jd u37_Ld u37_Pr _ hq6) hP (hDD _ _ _ _ _ _ _ _ _ _ _ _ _) hS hl.1 rfl cw_23 k_3_30 k_3_32 k_s_1 k_1_3 k_3_33 hv_Rd_readValue rfl rfl ⟨(by dsimp only [rm_Rd_readObject, rm_Rd_readValue]; omega), (by dsimp only [rm_Rd_readObject, rm_Rd_readValue]; omega)⟩ rfl (Nat.le_of_ble_eq_true rfl) ⟨Nat.zero_le _, Nat.zero_le _⟩ rfl d_Rd_readObject_82 (fun H locs hP hS => ?_)
          refine lv_if_ne (tgt := 90) hx hb d_Rd_readObject_85 (by decide) (fun c6 => ?_) (fun c6 => ?_)
          · replace h := o_ff c6 h
            refine lv_aload_n hx hb d_Rd_readObject_90 rfl (lv_at hl 1 rfl) ?_
            obtain ⟨q7, hq7, h⟩ := o_bd_some h
            refine o_V (st1 := []) (w1 := (o_cw ad ca 12 u37_Sj u37_T0 q6.2.1 q7 u37_Pg u37_Pt u37_Mk u37_Lk u37_Ck u37_Jd u37_Ld u37_Pr)) hE.1 C (c_Rd_skipBlanks hE l n q6.2.2 u37_Sj u37_T0 q6.2.1 u37_Pg u37_Pt u37_Mk u37_Lk u37_Ck u37_Jd u37_Ld u37_Pr 12 hq7) hP (hDD _ _ _ _ _ _ _ _ _ _ _ _ _) hS hl.1 rfl cw_23 k_3_34 k_3_36 k_s_2 k_1_3 k_3_37 hv_Rd_skipBlanks rfl rfl ⟨(by dsimp only [rm_Rd_readObject, rm_Rd_skipBlanks]; omega), (by dsimp only [rm_Rd_readObject, rm_Rd_skipBlanks]; omega)⟩ rfl (Nat.le_of_ble_eq_true rfl) ⟨Nat.zero_le _, Nat.zero_le _⟩ rfl d_Rd_readObject_91 (fun H locs hP hS => ?_)
            refine lv_aload_n hx hb d_Rd_readObject_94 rfl (lv_at hl 1 rfl) ?_
            obtain ⟨q8, hq8, h⟩ := o_bd_some h
            refine o_V (st1 := [.int q8]) (w1 := (o_cw ad ca 12 u37_Sj u37_T0 q6.2.1 q7 u37_Pg u37_Pt u37_Mk u37_Lk u37_Ck u37_Jd u37_Ld u37_Pr)) hE.1 C (c_Rd_peek hE l q7 u37_Sj u37_T0 q6.2.1 u37_Pg u37_Pt u37_Mk u37_Lk u37_Ck u37_Jd u37_Ld u37_Pr 12 hq8) hP (hDD _ _ _ _ _ _ _ _ _ _ _ _ _) hS hl.1 rfl cw_23 k_3_38 k_3_40 k_s_3 k_1_3 k_3_41 hv_Rd_peek rfl rfl ⟨(by dsimp only [rm_Rd_readObject, rm_Rd_peek]; omega), (by dsimp only [rm_Rd_readObject, rm_Rd_peek]; omega)⟩ rfl (Nat.le_of_ble_eq_true rfl) ⟨Nat.zero_le _, Nat.zero_le _⟩ rfl d_Rd_readObject_95 (fun H locs hP hS => ?_)
            refine lv_istore (lv' := [(5, .int q8), (4, .int q3.1), (0, .ref (ad 23)), (1, .int u37_x1), (2, .int u37_x2), (3, .int z.1)]) hx hb d_Rd_readObject_98 hl (by decide) rfl (fun ls hl => ?_)
            refine lv_iload hx hb d_Rd_readObject_100 (lv_at hl 0 rfl) ?_
            refine lv_bipush (v := (44:Int32)) hx hb d_Rd_readObject_102 (by decide) ?_
            refine lv_icmp_eq (tgt := 123) hx hb d_Rd_readObject_104 (by decide) (fun c7 => ?_) (fun c7 => ?_)
            · replace h := o_tt c7 h
              exact w_Rd_readObject_j123_1 hE C hDD d rec hrec n u37_x1 u37_x2 u37_Sj u37_T0 u37_Pg u37_Pt u37_Mk u37_Lk u37_Ck u37_Jd u37_Ld u37_Pr z.1 q8 q6.2.1 q7 h h0 h1 _ _ _ hP hS (lv_sub hl [2, 3, 4, 5, 0] rfl)
            · replace h := o_ff c7 h
              refine lv_iload hx hb d_Rd_readObject_107 (lv_at hl 0 rfl) ?_
              refine lv_bipush (v := (125:Int32)) hx hb d_Rd_readObject_109 (by decide) ?_
              refine lv_icmp_eq (tgt := 123) hx hb d_Rd_readObject_111 (by decide) (fun c9 => ?_) (fun c9 => ?_)
              · replace h := o_tt c9 h
                exact w_Rd_readObject_j123_1 hE C hDD d rec hrec n u37_x1 u37_x2 u37_Sj u37_T0 u37_Pg u37_Pt u37_Mk u37_Lk u37_Ck u37_Jd u37_Ld u37_Pr z.1 q8 q6.2.1 q7 h h0 h1 _ _ _ hP hS (lv_sub hl [2, 3, 4, 5, 0] rfl)
              · replace h := o_ff c9 h
                cases h
                exact h1 (Nat.succ_ne_zero 1) _ _ _ hP hS (lv_sub hl [2] rfl)
          · replace h := o_tt c6 h
            cases h
            exact h1 (Nat.succ_ne_zero 0) _ _ _ hP hS (lv_sub hl [] rfl)
set_option maxHeartbeats 4000000 in
set_option maxRecDepth 100000 in
theorem c_Rd_readObject_1 {E : (Nat → Prop) → State → Heap → Prop} {D : va_G} {ad kd sd vd xd : Nat → Nat} {ca : Nat → ClassId} (hE : o_EK E kd sd vd xd) (l : Launch) (n : Nat) (d : Nat) (rec : Int32 → Int32 → Int32 → STx → SRd → Option (Int32 × STx × SRd)) (hrec : ∀ (x1 : Int32) (x2 : Int32) (x3 : Int32) (tc : STx) (Rd : SRd) (Sj : SSJ) (T0 : STx) (Pg : SPg) (Pt : SPt) (Mk : SMk) (Lk : SLk) (Ck : SCk) (Jd : SJd) (Ld : SLd) (Pr : SPr) (r : Int32 × STx × SRd), rec x1 x2 x3 tc Rd = some r → o_Cn E l D o_cls (o_tys ca) y_Rd_readValue cc_Rd_readValue (rm_Rd_readValue d) [.ref (ad 23), .int x1, .int x2, .int x3] (o_cw ad ca 12 Sj T0 tc Rd Pg Pt Mk Lk Ck Jd Ld Pr) (o_cw ad ca 12 Sj T0 r.2.1 r.2.2 Pg Pt Mk Lk Ck Jd Ld Pr) (some (.int r.1))) (x1 : Int32) (x2 : Int32) (tc : STx) (Rd : SRd) (Sj : SSJ) (T0 : STx) (Pg : SPg) (Pt : SPt) (Mk : SMk) (Lk : SLk) (Ck : SCk) (Jd : SJd) (Ld : SLd) (Pr : SPr) {r : Int32 × STx × SRd} (h : m_Rd_readObject n rec x1 x2 tc Rd = some r) : o_Cn E l D o_cls (o_tys ca) y_Rd_readObject cc_Rd_readObject (rm_Rd_readObject d) [.ref (ad 23), .int x1, .int x2] (o_cw ad ca 12 Sj T0 tc Rd Pg Pt Mk Lk Ck Jd Ld Pr) (o_cw ad ca 12 Sj T0 r.2.1 r.2.2 Pg Pt Mk Lk Ck Jd Ld Pr) (some (.int r.1)) := by
  refine o_Cn_of (by decide) (Nat.le_of_ble_eq_true rfl) ?_
  intro p e s m below meth c A ls C hD hP hS hl
  have hDD : ∀ (rt : Nat) (Sj : SSJ) (T0 : STx) (T1 : STx) (Rd : SRd) (Pg : SPg) (Pt : SPt) (Mk : SMk) (Lk : SLk) (Ck : SCk) (Jd : SJd) (Ld : SLd) (Pr : SPr), va_D A (o_cw ad ca rt Sj T0 T1 Rd Pg Pt Mk Lk Ck Jd Ld Pr) := fun _ _ _ _ _ _ _ _ _ _ _ _ _ => o_D_map hD rfl
  have hl : lv_has ls 6 [(0, .ref (ad 23)), (1, .int x1), (2, .int x2)] := hl
  unfold m_Rd_readObject at h
  have C0 := C
  obtain ⟨hx, hb, -, -, -, hown, hts, hK, -, -⟩ := C0
  refine lv_aload_n hx hb d_Rd_readObject_0 rfl (lv_at hl 0 rfl) ?_
  refine lv_dup hx hb d_Rd_readObject_1 rfl ?_
  refine o_get (v := .int (Rd_position Rd)) C in_Rd hP 23 cw_23 rfl 3 (by decide) k_1_97 rfl rfl d_Rd_readObject_2 ?_
  refine lv_iconst (v := (1:Int32)) hx hb d_Rd_readObject_5 (by decide) ?_
  refine lv_iadd hx hb d_Rd_readObject_6 ?_
  refine o_put (v := .int ((Rd_position Rd) + (1:Int32))) (ty := .int) (w1 := (o_cw ad ca 12 Sj T0 tc (Rd_mk (Rd_words Rd) (Rd_wordCount Rd) ((Rd_position Rd) + (1:Int32)) (Rd_limit Rd) (Rd_wrongPlace Rd)) Pg Pt Mk Lk Ck Jd Ld Pr)) C in_Rd t_Rd t_Rd_ok n_Rd hP (hDD _ _ _ _ _ _ _ _ _ _ _ _ _) hS 23 cw_23 rfl 3 (by decide) k_1_97 rfl rfl (by decide +kernel) rfl rfl (Nat.le_of_ble_eq_true rfl) rfl d_Rd_readObject_7 (fun H locs hP hS => ?_)
  refine lv_aload_n hx hb d_Rd_readObject_10 rfl (lv_at hl 0 rfl) ?_
  obtain ⟨q1, hq1, h⟩ := o_bd_some h
  refine o_V (st1 := []) (w1 := (o_cw ad ca 12 Sj T0 tc q1 Pg Pt Mk Lk Ck Jd Ld Pr)) hE.1 C (c_Rd_skipBlanks hE l n (Rd_mk (Rd_words Rd) (Rd_wordCount Rd) ((Rd_position Rd) + (1:Int32)) (Rd_limit Rd) (Rd_wrongPlace Rd)) Sj T0 tc Pg Pt Mk Lk Ck Jd Ld Pr 12 hq1) hP (hDD _ _ _ _ _ _ _ _ _ _ _ _ _) hS hl.1 rfl cw_23 k_3_34 k_3_36 k_s_2 k_1_3 k_3_37 hv_Rd_skipBlanks rfl rfl ⟨(by dsimp only [rm_Rd_readObject, rm_Rd_skipBlanks]; omega), (by dsimp only [rm_Rd_readObject, rm_Rd_skipBlanks]; omega)⟩ rfl (Nat.le_of_ble_eq_true rfl) ⟨Nat.zero_le _, Nat.zero_le _⟩ rfl d_Rd_readObject_11 (fun H locs hP hS => ?_)
  refine lv_aload_n hx hb d_Rd_readObject_14 rfl (lv_at hl 0 rfl) ?_
  obtain ⟨q2, hq2, h⟩ := o_bd_some h
  refine o_V (st1 := [.int q2]) (w1 := (o_cw ad ca 12 Sj T0 tc q1 Pg Pt Mk Lk Ck Jd Ld Pr)) hE.1 C (c_Rd_peek hE l q1 Sj T0 tc Pg Pt Mk Lk Ck Jd Ld Pr 12 hq2) hP (hDD _ _ _ _ _ _ _ _ _ _ _ _ _) hS hl.1 rfl cw_23 k_3_38 k_3_40 k_s_3 k_1_3 k_3_41 hv_Rd_peek rfl rfl ⟨(by dsimp only [rm_Rd_readObject, rm_Rd_peek]; omega), (by dsimp only [rm_Rd_readObject, rm_Rd_peek]; omega)⟩ rfl (Nat.le_of_ble_eq_true rfl) ⟨Nat.zero_le _, Nat.zero_le _⟩ rfl d_Rd_readObject_15 (fun H locs hP hS => ?_)
  refine lv_bipush (v := (125:Int32)) hx hb d_Rd_readObject_18 (by decide) ?_
  refine lv_icmp_ne (tgt := 35) hx hb d_Rd_readObject_20 (by decide) (fun c1 => ?_) (fun c1 => ?_)
  · replace h := o_ff c1 h
    refine lv_iconst (v := (0:Int32)) hx hb d_Rd_readObject_35 (by decide) ?_
    refine lv_istore_n (lv' := [(3, .int (0:Int32)), (0, .ref (ad 23)), (1, .int x1), (2, .int x2)]) hx hb d_Rd_readObject_36 rfl hl (by decide) rfl (fun ls hl => ?_)
    obtain ⟨q10, hq10, h⟩ := o_bd_some h
    refine o_sim2 (AH := fun zz => o_At p l e (rm_Rd_readObject d) s m _ below meth c _ o_cls D A 6 37 [] (o_cw ad ca 12 Sj T0 zz.2.1 zz.2.2 Pg Pt Mk Lk Ck Jd Ld Pr) [(0, .ref (ad 23)), (1, .int x1), (2, .int x2), (3, .int zz.1)]) (AX := fun qq => if qq.1 = 1 then o_At p l e (rm_Rd_readObject d) s m _ below meth c _ o_cls D A 6 88 [] (o_cw ad ca 12 Sj T0 qq.2.2.1 qq.2.2.2 Pg Pt Mk Lk Ck Jd Ld Pr) [] else if qq.1 = 2 then o_At p l e (rm_Rd_readObject d) s m _ below meth c _ o_cls D A 6 114 [] (o_cw ad ca 12 Sj T0 qq.2.2.1 qq.2.2.2 Pg Pt Mk Lk Ck Jd Ld Pr) [(0, .ref (ad 23))] else if qq.1 = 3 then o_At p l e (rm_Rd_readObject d) s m _ below meth c _ o_cls D A 6 151 [] (o_cw ad ca 12 Sj T0 qq.2.2.1 qq.2.2.2 Pg Pt Mk Lk Ck Jd Ld Pr) [] else o_At p l e (rm_Rd_readObject d) s m _ below meth c _ o_cls D A 6 159 [] (o_cw ad ca 12 Sj T0 qq.2.2.1 qq.2.2.2 Pg Pt Mk Lk Ck Jd Ld Pr) [(0, .ref (ad 23))]) (fun zz qq h h0 h1 => w_Rd_readObject_b37_1 hE C hDD d rec hrec n x1 x2 Sj T0 Pg Pt Mk Lk Ck Jd Ld Pr zz qq h h0 h1) n _ q10 hq10 ?_ _ _ _ hP hS (lv_sub hl [1, 2, 3, 0] rfl)
    by_cases c12 : q10.1 = 1
    · replace h := o_tt c12 h
      refine o_ip c12 ?_
      intro H locs ls hP hS hl
      refine lv_iconst (v := (0:Int32)) hx hb d_Rd_readObject_88 (by decide) ?_
      cases h
      exact o_rz (v := (0:Int32)) C o_nar0 hP hS d_Rd_readObject_89
    replace h := o_ff c12 h
    refine o_in_ c12 ?_
    by_cases c13 : q10.1 = 2
    · replace h := o_tt c13 h
      refine o_ip c13 ?_
      intro H locs ls hP hS hl
      refine lv_aload_n hx hb d_Rd_readObject_114 rfl (lv_at hl 0 rfl) ?_
      refine lv_aload_n hx hb d_Rd_readObject_115 rfl (lv_at hl 0 rfl) ?_
      refine o_get (v := .int (Rd_position q10.2.2.2)) C in_Rd hP 23 cw_23 rfl 3 (by decide) k_1_97 rfl rfl d_Rd_readObject_116 ?_
      obtain ⟨q11, hq11, h⟩ := o_bd_some h
      refine o_V (st1 := [.int q11.1]) (w1 := (o_cw ad ca 12 Sj T0 q10.2.2.1 q11.2 Pg Pt Mk Lk Ck Jd Ld Pr)) hE.1 C (c_Rd_refuse hE l (Rd_position q10.2.2.2) q10.2.2.2 Sj T0 q10.2.2.1 Pg Pt Mk Lk Ck Jd Ld Pr 12 hq11) hP (hDD _ _ _ _ _ _ _ _ _ _ _ _ _) hS hl.1 rfl cw_23 k_3_48 k_3_50 k_s_4 k_1_3 k_3_51 hv_Rd_refuse rfl rfl ⟨(by dsimp only [rm_Rd_readObject, rm_Rd_refuse]; omega), (by dsimp only [rm_Rd_readObject, rm_Rd_refuse]; omega)⟩ rfl (Nat.le_of_ble_eq_true rfl) ⟨Nat.zero_le _, Nat.zero_le _⟩ rfl d_Rd_readObject_119 (fun H locs hP hS => ?_)
      obtain ⟨g10, h⟩ := o_gd_some h
      cases h
      exact o_rz C (o_zb_nar g10) hP hS d_Rd_readObject_122
    replace h := o_ff c13 h
    refine o_in_ c13 ?_
    by_cases c14 : q10.1 = 3
    · replace h := o_tt c14 h
      refine o_ip c14 ?_
      intro H locs ls hP hS hl
      refine lv_iconst (v := (1:Int32)) hx hb d_Rd_readObject_151 (by decide) ?_
      cases h
      exact o_rz (v := (1:Int32)) C o_nar1 hP hS d_Rd_readObject_152
    replace h := o_ff c14 h
    refine o_in_ c14 ?_
    intro H locs ls hP hS hl
    refine lv_aload_n hx hb d_Rd_readObject_159 rfl (lv_at hl 0 rfl) ?_
    obtain ⟨q12, hq12, h⟩ := o_bd_some h
    refine o_V (st1 := []) (w1 := (o_cw ad ca 12 Sj T0 q10.2.2.1 q12 Pg Pt Mk Lk Ck Jd Ld Pr)) hE.1 C (c_Rd_skipBlanks hE l n q10.2.2.2 Sj T0 q10.2.2.1 Pg Pt Mk Lk Ck Jd Ld Pr 12 hq12) hP (hDD _ _ _ _ _ _ _ _ _ _ _ _ _) hS hl.1 rfl cw_23 k_3_34 k_3_36 k_s_2 k_1_3 k_3_37 hv_Rd_skipBlanks rfl rfl ⟨(by dsimp only [rm_Rd_readObject, rm_Rd_skipBlanks]; omega), (by dsimp only [rm_Rd_readObject, rm_Rd_skipBlanks]; omega)⟩ rfl (Nat.le_of_ble_eq_true rfl) ⟨Nat.zero_le _, Nat.zero_le _⟩ rfl d_Rd_readObject_160 (fun H locs hP hS => ?_)
    refine lv_aload_n hx hb d_Rd_readObject_163 rfl (lv_at hl 0 rfl) ?_
    refine lv_aload_n hx hb d_Rd_readObject_164 rfl (lv_at hl 0 rfl) ?_
    refine o_get (v := .int (Rd_position q12)) C in_Rd hP 23 cw_23 rfl 3 (by decide) k_1_97 rfl rfl d_Rd_readObject_165 ?_
    obtain ⟨q13, hq13, h⟩ := o_bd_some h
    refine o_V (st1 := [.int q13.1]) (w1 := (o_cw ad ca 12 Sj T0 q10.2.2.1 q13.2 Pg Pt Mk Lk Ck Jd Ld Pr)) hE.1 C (c_Rd_refuse hE l (Rd_position q12) q12 Sj T0 q10.2.2.1 Pg Pt Mk Lk Ck Jd Ld Pr 12 hq13) hP (hDD _ _ _ _ _ _ _ _ _ _ _ _ _) hS hl.1 rfl cw_23 k_3_48 k_3_50 k_s_4 k_1_3 k_3_51 hv_Rd_refuse rfl rfl ⟨(by dsimp only [rm_Rd_readObject, rm_Rd_refuse]; omega), (by dsimp only [rm_Rd_readObject, rm_Rd_refuse]; omega)⟩ rfl (Nat.le_of_ble_eq_true rfl) ⟨Nat.zero_le _, Nat.zero_le _⟩ rfl d_Rd_readObject_168 (fun H locs hP hS => ?_)
    obtain ⟨g11, h⟩ := o_gd_some h
    cases h
    exact o_rz C (o_zb_nar g11) hP hS d_Rd_readObject_171
  · replace h := o_tt c1 h
    refine lv_aload_n hx hb d_Rd_readObject_23 rfl (lv_at hl 0 rfl) ?_
    refine lv_dup hx hb d_Rd_readObject_24 rfl ?_
    refine o_get (v := .int (Rd_position q1)) C in_Rd hP 23 cw_23 rfl 3 (by decide) k_1_97 rfl rfl d_Rd_readObject_25 ?_
    refine lv_iconst (v := (1:Int32)) hx hb d_Rd_readObject_28 (by decide) ?_
    refine lv_iadd hx hb d_Rd_readObject_29 ?_
    refine o_put (v := .int ((Rd_position q1) + (1:Int32))) (ty := .int) (w1 := (o_cw ad ca 12 Sj T0 tc (Rd_mk (Rd_words q1) (Rd_wordCount q1) ((Rd_position q1) + (1:Int32)) (Rd_limit q1) (Rd_wrongPlace q1)) Pg Pt Mk Lk Ck Jd Ld Pr)) C in_Rd t_Rd t_Rd_ok n_Rd hP (hDD _ _ _ _ _ _ _ _ _ _ _ _ _) hS 23 cw_23 rfl 3 (by decide) k_1_97 rfl rfl (by decide +kernel) rfl rfl (Nat.le_of_ble_eq_true rfl) rfl d_Rd_readObject_30 (fun H locs hP hS => ?_)
    refine lv_iconst (v := (1:Int32)) hx hb d_Rd_readObject_33 (by decide) ?_
    cases h
    exact o_rz (v := (1:Int32)) C o_nar1 hP hS d_Rd_readObject_34
set_option maxHeartbeats 4000000 in
set_option maxRecDepth 100000 in
theorem w_Rd_readArray_j90_0 {E : (Nat → Prop) → State → Heap → Prop} {p : Program} {l : Launch} {e : Env} {s : State} {m : MethodId} {args : Array Value} {below : List Frame} {meth : Method} {c : Code} {D : va_G} {ad kd sd vd xd : Nat → Nat} {ca : Nat → ClassId} {A : Nat → Prop} {Q : State → Prop} (hE : o_EK E kd sd vd xd) (C : o_Cx E p s m args meth c D o_cls (o_tys ca) "SchemaJudge$Reader" b_Rd_readArray (some .boolean) 5 cc_Rd_readArray A) (hDD : ∀ (rt : Nat) (Sj : SSJ) (T0 : STx) (T1 : STx) (Rd : SRd) (Pg : SPg) (Pt : SPt) (Mk : SMk) (Lk : SLk) (Ck : SCk) (Jd : SJd) (Ld : SLd) (Pr : SPr), va_D A (o_cw ad ca rt Sj T0 T1 Rd Pg Pt Mk Lk Ck Jd Ld Pr)) (d : Nat) (rec : Int32 → Int32 → Int32 → STx → SRd → Option (Int32 × STx × SRd)) (hrec : ∀ (x1 : Int32) (x2 : Int32) (x3 : Int32) (tc : STx) (Rd : SRd) (Sj : SSJ) (T1 : STx) (Pg : SPg) (Pt : SPt) (Mk : SMk) (Lk : SLk) (Ck : SCk) (Jd : SJd) (Ld : SLd) (Pr : SPr) (r : Int32 × STx × SRd), rec x1 x2 x3 tc Rd = some r → o_Cn E l D o_cls (o_tys ca) y_Rd_readValue cc_Rd_readValue (rm_Rd_readValue d) [.ref (ad 23), .int x1, .int x2, .int x3] (o_cw ad ca 1 Sj tc T1 Rd Pg Pt Mk Lk Ck Jd Ld Pr) (o_cw ad ca 1 Sj r.2.1 T1 r.2.2 Pg Pt Mk Lk Ck Jd Ld Pr) (some (.int r.1))) (n : Nat) (u37_x1 : Int32) (u37_x2 : Int32) (u37_Sj : SSJ) (u37_T1 : STx) (u37_Pg : SPg) (u37_Pt : SPt) (u37_Mk : SMk) (u37_Lk : SLk) (u37_Ck : SCk) (u37_Jd : SJd) (u37_Ld : SLd) (u37_Pr : SPr) (x3 : Int32) (x4 : Int32) (tc : STx) (Rd : SRd) {q : Nat × Int32 × STx × SRd} (h : m_Rd_readArray_j90 n rec u37_x1 u37_x2 x3 x4 tc Rd = some q) (h0 : q.1 = 0 → o_At p l e (rm_Rd_readArray d) s m args below meth c Q o_cls D A 5 37 [] (o_cw ad ca 1 u37_Sj q.2.2.1 u37_T1 q.2.2.2 u37_Pg u37_Pt u37_Mk u37_Lk u37_Ck u37_Jd u37_Ld u37_Pr) [(0, .ref (ad 23)), (1, .int u37_x1), (2, .int u37_x2), (3, .int q.2.1)]) (h1 : q.1 ≠ 0 → (if q.1 = 1 then o_At p l e (rm_Rd_readArray d) s m args below meth c Q o_cls D A 5 55 [] (o_cw ad ca 1 u37_Sj q.2.2.1 u37_T1 q.2.2.2 u37_Pg u37_Pt u37_Mk u37_Lk u37_Ck u37_Jd u37_Ld u37_Pr) [] else if q.1 = 2 then o_At p l e (rm_Rd_readArray d) s m args below meth c Q o_cls D A 5 81 [] (o_cw ad ca 1 u37_Sj q.2.2.1 u37_T1 q.2.2.2 u37_Pg u37_Pt u37_Mk u37_Lk u37_Ck u37_Jd u37_Ld u37_Pr) [(0, .ref (ad 23))] else if q.1 = 3 then o_At p l e (rm_Rd_readArray d) s m args below meth c Q o_cls D A 5 107 [] (o_cw ad ca 1 u37_Sj q.2.2.1 u37_T1 q.2.2.2 u37_Pg u37_Pt u37_Mk u37_Lk u37_Ck u37_Jd u37_Ld u37_Pr) [(0, .ref (ad 23)), (1, .int u37_x1), (3, .int q.2.1)] else o_At p l e (rm_Rd_readArray d) s m args below meth c Q o_cls D A 5 126 [] (o_cw ad ca 1 u37_Sj q.2.2.1 u37_T1 q.2.2.2 u37_Pg u37_Pt u37_Mk u37_Lk u37_Ck u37_Jd u37_Ld u37_Pr) [(0, .ref (ad 23))])) : o_At p l e (rm_Rd_readArray d) s m args below meth c Q o_cls D A 5 90 [] (o_cw ad ca 1 u37_Sj tc u37_T1 Rd u37_Pg u37_Pt u37_Mk u37_Lk u37_Ck u37_Jd u37_Ld u37_Pr) [(0, .ref (ad 23)), (1, .int u37_x1), (2, .int u37_x2), (3, .int x3), (4, .int x4)] := by
  unfold m_Rd_readArray_j90 at h
  intro H locs ls hP hS hl
  have C0 := C
  obtain ⟨hx, hb, -, -, -, hown, hts, hK, -, -⟩ := C0
  refine lv_aload_n hx hb d_Rd_readArray_90 rfl (lv_at hl 0 rfl) ?_
  refine lv_dup hx hb d_Rd_readArray_91 rfl ?_
  refine o_get (v := .int (Rd_position Rd)) C in_Rd hP 23 cw_23 rfl 3 (by decide) k_1_97 rfl rfl d_Rd_readArray_92 ?_
  refine lv_iconst (v := (1:Int32)) hx hb d_Rd_readArray_95 (by decide) ?_
  refine lv_iadd hx hb d_Rd_readArray_96 ?_
  refine o_put (v := .int ((Rd_position Rd) + (1:Int32))) (ty := .int) (w1 := (o_cw ad ca 1 u37_Sj tc u37_T1 (Rd_mk (Rd_words Rd) (Rd_wordCount Rd) ((Rd_position Rd) + (1:Int32)) (Rd_limit Rd) (Rd_wrongPlace Rd)) u37_Pg u37_Pt u37_Mk u37_Lk u37_Ck u37_Jd u37_Ld u37_Pr)) C in_Rd t_Rd t_Rd_ok n_Rd hP (hDD _ _ _ _ _ _ _ _ _ _ _ _ _) hS 23 cw_23 rfl 3 (by decide) k_1_97 rfl rfl (by decide +kernel) rfl rfl (Nat.le_of_ble_eq_true rfl) rfl d_Rd_readArray_97 (fun H locs hP hS => ?_)
  refine lv_iload hx hb d_Rd_readArray_100 (lv_at hl 4 rfl) ?_
  refine lv_bipush (v := (93:Int32)) hx hb d_Rd_readArray_102 (by decide) ?_
  refine lv_icmp_ne (tgt := 120) hx hb d_Rd_readArray_104 (by decide) (fun c5 => ?_) (fun c5 => ?_)
  · replace h := o_ff c5 h
    obtain ⟨x3_120, ex3_120⟩ : ∃ y : Int32, y = x3 + (1:Int32) := ⟨_, rfl⟩
    replace h := o_nm_at ex3_120 h
    refine lv_iinc (v := x3_120) (lv' := [(3, .int x3_120), (0, .ref (ad 23)), (1, .int u37_x1), (2, .int u37_x2), (4, .int x4)]) hx hb d_Rd_readArray_120 hl (k := 3) rfl (by rw [ex3_120]; rfl) (by decide) rfl (fun ls hl => ?_)
    refine lv_goto (tgt := 37) hx hb d_Rd_readArray_123 (by decide) ?_
    cases h
    exact h0 rfl _ _ _ hP hS (lv_sub hl [1, 2, 3, 0] rfl)
  · replace h := o_tt c5 h
    cases h
    exact h1 (Nat.succ_ne_zero 2) _ _ _ hP hS (lv_sub hl [0, 1, 3] rfl)
set_option maxHeartbeats 4000000 in
set_option maxRecDepth 100000 in
theorem w_Rd_readArray_b37_0 {E : (Nat → Prop) → State → Heap → Prop} {p : Program} {l : Launch} {e : Env} {s : State} {m : MethodId} {args : Array Value} {below : List Frame} {meth : Method} {c : Code} {D : va_G} {ad kd sd vd xd : Nat → Nat} {ca : Nat → ClassId} {A : Nat → Prop} {Q : State → Prop} (hE : o_EK E kd sd vd xd) (C : o_Cx E p s m args meth c D o_cls (o_tys ca) "SchemaJudge$Reader" b_Rd_readArray (some .boolean) 5 cc_Rd_readArray A) (hDD : ∀ (rt : Nat) (Sj : SSJ) (T0 : STx) (T1 : STx) (Rd : SRd) (Pg : SPg) (Pt : SPt) (Mk : SMk) (Lk : SLk) (Ck : SCk) (Jd : SJd) (Ld : SLd) (Pr : SPr), va_D A (o_cw ad ca rt Sj T0 T1 Rd Pg Pt Mk Lk Ck Jd Ld Pr)) (d : Nat) (rec : Int32 → Int32 → Int32 → STx → SRd → Option (Int32 × STx × SRd)) (hrec : ∀ (x1 : Int32) (x2 : Int32) (x3 : Int32) (tc : STx) (Rd : SRd) (Sj : SSJ) (T1 : STx) (Pg : SPg) (Pt : SPt) (Mk : SMk) (Lk : SLk) (Ck : SCk) (Jd : SJd) (Ld : SLd) (Pr : SPr) (r : Int32 × STx × SRd), rec x1 x2 x3 tc Rd = some r → o_Cn E l D o_cls (o_tys ca) y_Rd_readValue cc_Rd_readValue (rm_Rd_readValue d) [.ref (ad 23), .int x1, .int x2, .int x3] (o_cw ad ca 1 Sj tc T1 Rd Pg Pt Mk Lk Ck Jd Ld Pr) (o_cw ad ca 1 Sj r.2.1 T1 r.2.2 Pg Pt Mk Lk Ck Jd Ld Pr) (some (.int r.1))) (n : Nat) (u37_x1 : Int32) (u37_x2 : Int32) (u37_Sj : SSJ) (u37_T1 : STx) (u37_Pg : SPg) (u37_Pt : SPt) (u37_Mk : SMk) (u37_Lk : SLk) (u37_Ck : SCk) (u37_Jd : SJd) (u37_Ld : SLd) (u37_Pr : SPr) (z : Int32 × STx × SRd) (q : Nat × Int32 × STx × SRd) (h : m_Rd_readArray_b37 n rec u37_x1 u37_x2 z = some q) (h0 : q.1 = 0 → o_At p l e (rm_Rd_readArray d) s m args below meth c Q o_cls D A 5 37 [] (o_cw ad ca 1 u37_Sj q.2.2.1 u37_T1 q.2.2.2 u37_Pg u37_Pt u37_Mk u37_Lk u37_Ck u37_Jd u37_Ld u37_Pr) [(0, .ref (ad 23)), (1, .int u37_x1), (2, .int u37_x2), (3, .int q.2.1)]) (h1 : q.1 ≠ 0 → (if q.1 = 1 then o_At p l e (rm_Rd_readArray d) s m args below meth c Q o_cls D A 5 55 [] (o_cw ad ca 1 u37_Sj q.2.2.1 u37_T1 q.2.2.2 u37_Pg u37_Pt u37_Mk u37_Lk u37_Ck u37_Jd u37_Ld u37_Pr) [] else if q.1 = 2 then o_At p l e (rm_Rd_readArray d) s m args below meth c Q o_cls D A 5 81 [] (o_cw ad ca 1 u37_Sj q.2.2.1 u37_T1 q.2.2.2 u37_Pg u37_Pt u37_Mk u37_Lk u37_Ck u37_Jd u37_Ld u37_Pr) [(0, .ref (ad 23))] else if q.1 = 3 then o_At p l e (rm_Rd_readArray d) s m args below meth c Q o_cls D A 5 107 [] (o_cw ad ca 1 u37_Sj q.2.2.1 u37_T1 q.2.2.2 u37_Pg u37_Pt u37_Mk u37_Lk u37_Ck u37_Jd u37_Ld u37_Pr) [(0, .ref (ad 23)), (1, .int u37_x1), (3, .int q.2.1)] else o_At p l e (rm_Rd_readArray d) s m args below meth c Q o_cls D A 5 126 [] (o_cw ad ca 1 u37_Sj q.2.2.1 u37_T1 q.2.2.2 u37_Pg u37_Pt u37_Mk u37_Lk u37_Ck u37_Jd u37_Ld u37_Pr) [(0, .ref (ad 23))])) : o_At p l e (rm_Rd_readArray d) s m args below meth c Q o_cls D A 5 37 [] (o_cw ad ca 1 u37_Sj z.2.1 u37_T1 z.2.2 u37_Pg u37_Pt u37_Mk u37_Lk u37_Ck u37_Jd u37_Ld u37_Pr) [(0, .ref (ad 23)), (1, .int u37_x1), (2, .int u37_x2), (3, .int z.1)] := by
  unfold m_Rd_readArray_b37 at h
  intro H locs ls hP hS hl
  have C0 := C
  obtain ⟨hx, hb, -, -, -, hown, hts, hK, -, -⟩ := C0
  refine lv_iload_n hx hb d_Rd_readArray_37 rfl (lv_at hl 3 rfl) ?_
  refine lv_bipush (v := (60:Int32)) hx hb d_Rd_readArray_38 (by decide) ?_
  refine lv_icmp_ge (tgt := 126) hx hb d_Rd_readArray_40 (by decide) (fun c2 => ?_) (fun c2 => ?_)
  · replace h := o_tt c2 h
    cases h
    exact h1 (Nat.succ_ne_zero 3) _ _ _ hP hS (lv_sub hl [0] rfl)
  · replace h := o_ff c2 h
    refine lv_aload_n hx hb d_Rd_readArray_43 rfl (lv_at hl 0 rfl) ?_
    refine lv_iload_n hx hb d_Rd_readArray_44 rfl (lv_at hl 1 rfl) ?_
    refine lv_iload_n hx hb d_Rd_readArray_45 rfl (lv_at hl 3 rfl) ?_
    refine lv_iload_n hx hb d_Rd_readArray_46 rfl (lv_at hl 2 rfl) ?_
    refine lv_iconst (v := (1:Int32)) hx hb d_Rd_readArray_47 (by decide) ?_
    refine lv_iadd hx hb d_Rd_readArray_48 ?_
    obtain ⟨q3, hq3, h⟩ := o_bd_some h
    refine o_V (st1 := [.int q3.1]) (w1 := (o_cw ad ca 1 u37_Sj q3.2.1 u37_T1 q3.2.2 u37_Pg u37_Pt u37_Mk u37_Lk u37_Ck u37_Jd u37_Ld u37_Pr)) hE.1 C (hrec u37_x1 z.1 (u37_x2 + (1:Int32)) z.2.1 z.2.2 u37_Sj u37_T1 u37_Pg u37_Pt u37_Mk u37_Lk u37_Ck u37_Jd u37_Ld u37_Pr _ hq3) hP (hDD _ _ _ _ _ _ _ _ _ _ _ _ _) hS hl.1 rfl cw_23 k_3_30 k_3_32 k_s_1 k_1_3 k_3_33 hv_Rd_readValue rfl rfl ⟨(by dsimp only [rm_Rd_readArray, rm_Rd_readValue]; omega), (by dsimp only [rm_Rd_readArray, rm_Rd_readValue]; omega)⟩ rfl (Nat.le_of_ble_eq_true rfl) ⟨Nat.zero_le _, Nat.zero_le _⟩ rfl d_Rd_readArray_49 (fun H locs hP hS => ?_)
    refine lv_if_ne (tgt := 57) hx hb d_Rd_readArray_52 (by decide) (fun c3 => ?_) (fun c3 => ?_)
    · replace h := o_ff c3 h
      refine lv_aload_n hx hb d_Rd_readArray_57 rfl (lv_at hl 0 rfl) ?_
      obtain ⟨q4, hq4, h⟩ := o_bd_some h
      refine o_V (st1 := []) (w1 := (o_cw ad ca 1 u37_Sj q3.2.1 u37_T1 q4 u37_Pg u37_Pt u37_Mk u37_Lk u37_Ck u37_Jd u37_Ld u37_Pr)) hE.1 C (c_Rd_skipBlanks hE l n q3.2.2 u37_Sj q3.2.1 u37_T1 u37_Pg u37_Pt u37_Mk u37_Lk u37_Ck u37_Jd u37_Ld u37_Pr 1 hq4) hP (hDD _ _ _ _ _ _ _ _ _ _ _ _ _) hS hl.1 rfl cw_23 k_3_34 k_3_36 k_s_2 k_1_3 k_3_37 hv_Rd_skipBlanks rfl rfl ⟨(by dsimp only [rm_Rd_readArray, rm_Rd_skipBlanks]; omega), (by dsimp only [rm_Rd_readArray, rm_Rd_skipBlanks]; omega)⟩ rfl (Nat.le_of_ble_eq_true rfl) ⟨Nat.zero_le _, Nat.zero_le _⟩ rfl d_Rd_readArray_58 (fun H locs hP hS => ?_)
      refine lv_aload_n hx hb d_Rd_readArray_61 rfl (lv_at hl 0 rfl) ?_
      obtain ⟨q5, hq5, h⟩ := o_bd_some h
      refine o_V (st1 := [.int q5]) (w1 := (o_cw ad ca 1 u37_Sj q3.2.1 u37_T1 q4 u37_Pg u37_Pt u37_Mk u37_Lk u37_Ck u37_Jd u37_Ld u37_Pr)) hE.1 C (c_Rd_peek hE l q4 u37_Sj q3.2.1 u37_T1 u37_Pg u37_Pt u37_Mk u37_Lk u37_Ck u37_Jd u37_Ld u37_Pr 1 hq5) hP (hDD _ _ _ _ _ _ _ _ _ _ _ _ _) hS hl.1 rfl cw_23 k_3_38 k_3_40 k_s_3 k_1_3 k_3_41 hv_Rd_peek rfl rfl ⟨(by dsimp only [rm_Rd_readArray, rm_Rd_peek]; omega), (by dsimp only [rm_Rd_readArray, rm_Rd_peek]; omega)⟩ rfl (Nat.le_of_ble_eq_true rfl) ⟨Nat.zero_le _, Nat.zero_le _⟩ rfl d_Rd_readArray_62 (fun H locs hP hS => ?_)
      refine lv_istore (lv' := [(4, .int q5), (0, .ref (ad 23)), (1, .int u37_x1), (2, .int u37_x2), (3, .int z.1)]) hx hb d_Rd_readArray_65 hl (by decide) rfl (fun ls hl => ?_)
      refine lv_iload hx hb d_Rd_readArray_67 (lv_at hl 0 rfl) ?_
      refine lv_bipush (v := (44:Int32)) hx hb d_Rd_readArray_69 (by decide) ?_
      refine lv_icmp_eq (tgt := 90) hx hb d_Rd_readArray_71 (by decide) (fun c4 => ?_) (fun c4 => ?_)
      · replace h := o_tt c4 h
        exact w_Rd_readArray_j90_0 hE C hDD d rec hrec n u37_x1 u37_x2 u37_Sj u37_T1 u37_Pg u37_Pt u37_Mk u37_Lk u37_Ck u37_Jd u37_Ld u37_Pr z.1 q5 q3.2.1 q4 h h0 h1 _ _ _ hP hS (lv_sub hl [1, 2, 3, 4, 0] rfl)
      · replace h := o_ff c4 h
        refine lv_iload hx hb d_Rd_readArray_74 (lv_at hl 0 rfl) ?_
        refine lv_bipush (v := (93:Int32)) hx hb d_Rd_readArray_76 (by decide) ?_
        refine lv_icmp_eq (tgt := 90) hx hb d_Rd_readArray_78 (by decide) (fun c6 => ?_) (fun c6 => ?_)
        · replace h := o_tt c6 h
          exact w_Rd_readArray_j90_0 hE C hDD d rec hrec n u37_x1 u37_x2 u37_Sj u37_T1 u37_Pg u37_Pt u37_Mk u37_Lk u37_Ck u37_Jd u37_Ld u37_Pr z.1 q5 q3.2.1 q4 h h0 h1 _ _ _ hP hS (lv_sub hl [1, 2, 3, 4, 0] rfl)
        · replace h := o_ff c6 h
          cases h
          exact h1 (Nat.succ_ne_zero 1) _ _ _ hP hS (lv_sub hl [1] rfl)
    · replace h := o_tt c3 h
      cases h
      exact h1 (Nat.succ_ne_zero 0) _ _ _ hP hS (lv_sub hl [] rfl)
set_option maxHeartbeats 4000000 in
set_option maxRecDepth 100000 in
theorem c_Rd_readArray_0 {E : (Nat → Prop) → State → Heap → Prop} {D : va_G} {ad kd sd vd xd : Nat → Nat} {ca : Nat → ClassId} (hE : o_EK E kd sd vd xd) (l : Launch) (n : Nat) (d : Nat) (rec : Int32 → Int32 → Int32 → STx → SRd → Option (Int32 × STx × SRd)) (hrec : ∀ (x1 : Int32) (x2 : Int32) (x3 : Int32) (tc : STx) (Rd : SRd) (Sj : SSJ) (T1 : STx) (Pg : SPg) (Pt : SPt) (Mk : SMk) (Lk : SLk) (Ck : SCk) (Jd : SJd) (Ld : SLd) (Pr : SPr) (r : Int32 × STx × SRd), rec x1 x2 x3 tc Rd = some r → o_Cn E l D o_cls (o_tys ca) y_Rd_readValue cc_Rd_readValue (rm_Rd_readValue d) [.ref (ad 23), .int x1, .int x2, .int x3] (o_cw ad ca 1 Sj tc T1 Rd Pg Pt Mk Lk Ck Jd Ld Pr) (o_cw ad ca 1 Sj r.2.1 T1 r.2.2 Pg Pt Mk Lk Ck Jd Ld Pr) (some (.int r.1))) (x1 : Int32) (x2 : Int32) (tc : STx) (Rd : SRd) (Sj : SSJ) (T1 : STx) (Pg : SPg) (Pt : SPt) (Mk : SMk) (Lk : SLk) (Ck : SCk) (Jd : SJd) (Ld : SLd) (Pr : SPr) {r : Int32 × STx × SRd} (h : m_Rd_readArray n rec x1 x2 tc Rd = some r) : o_Cn E l D o_cls (o_tys ca) y_Rd_readArray cc_Rd_readArray (rm_Rd_readArray d) [.ref (ad 23), .int x1, .int x2] (o_cw ad ca 1 Sj tc T1 Rd Pg Pt Mk Lk Ck Jd Ld Pr) (o_cw ad ca 1 Sj r.2.1 T1 r.2.2 Pg Pt Mk Lk Ck Jd Ld Pr) (some (.int r.1)) := by
  refine o_Cn_of (by decide) (Nat.le_of_ble_eq_true rfl) ?_
  intro p e s m below meth c A ls C hD hP hS hl
  have hDD : ∀ (rt : Nat) (Sj : SSJ) (T0 : STx) (T1 : STx) (Rd : SRd) (Pg : SPg) (Pt : SPt) (Mk : SMk) (Lk : SLk) (Ck : SCk) (Jd : SJd) (Ld : SLd) (Pr : SPr), va_D A (o_cw ad ca rt Sj T0 T1 Rd Pg Pt Mk Lk Ck Jd Ld Pr) := fun _ _ _ _ _ _ _ _ _ _ _ _ _ => o_D_map hD rfl
  have hl : lv_has ls 5 [(0, .ref (ad 23)), (1, .int x1), (2, .int x2)] := hl
  unfold m_Rd_readArray at h
  have C0 := C
  obtain ⟨hx, hb, -, -, -, hown, hts, hK, -, -⟩ := C0
  refine lv_aload_n hx hb d_Rd_readArray_0 rfl (lv_at hl 0 rfl) ?_
  refine lv_dup hx hb d_Rd_readArray_1 rfl ?_
  refine o_get (v := .int (Rd_position Rd)) C in_Rd hP 23 cw_23 rfl 3 (by decide) k_1_97 rfl rfl d_Rd_readArray_2 ?_
  refine lv_iconst (v := (1:Int32)) hx hb d_Rd_readArray_5 (by decide) ?_
  refine lv_iadd hx hb d_Rd_readArray_6 ?_
  refine o_put (v := .int ((Rd_position Rd) + (1:Int32))) (ty := .int) (w1 := (o_cw ad ca 1 Sj tc T1 (Rd_mk (Rd_words Rd) (Rd_wordCount Rd) ((Rd_position Rd) + (1:Int32)) (Rd_limit Rd) (Rd_wrongPlace Rd)) Pg Pt Mk Lk Ck Jd Ld Pr)) C in_Rd t_Rd t_Rd_ok n_Rd hP (hDD _ _ _ _ _ _ _ _ _ _ _ _ _) hS 23 cw_23 rfl 3 (by decide) k_1_97 rfl rfl (by decide +kernel) rfl rfl (Nat.le_of_ble_eq_true rfl) rfl d_Rd_readArray_7 (fun H locs hP hS => ?_)
  refine lv_aload_n hx hb d_Rd_readArray_10 rfl (lv_at hl 0 rfl) ?_
  obtain ⟨q1, hq1, h⟩ := o_bd_some h
  refine o_V (st1 := []) (w1 := (o_cw ad ca 1 Sj tc T1 q1 Pg Pt Mk Lk Ck Jd Ld Pr)) hE.1 C (c_Rd_skipBlanks hE l n (Rd_mk (Rd_words Rd) (Rd_wordCount Rd) ((Rd_position Rd) + (1:Int32)) (Rd_limit Rd) (Rd_wrongPlace Rd)) Sj tc T1 Pg Pt Mk Lk Ck Jd Ld Pr 1 hq1) hP (hDD _ _ _ _ _ _ _ _ _ _ _ _ _) hS hl.1 rfl cw_23 k_3_34 k_3_36 k_s_2 k_1_3 k_3_37 hv_Rd_skipBlanks rfl rfl ⟨(by dsimp only [rm_Rd_readArray, rm_Rd_skipBlanks]; omega), (by dsimp only [rm_Rd_readArray, rm_Rd_skipBlanks]; omega)⟩ rfl (Nat.le_of_ble_eq_true rfl) ⟨Nat.zero_le _, Nat.zero_le _⟩ rfl d_Rd_readArray_11 (fun H locs hP hS => ?_)
  refine lv_aload_n hx hb d_Rd_readArray_14 rfl (lv_at hl 0 rfl) ?_
  obtain ⟨q2, hq2, h⟩ := o_bd_some h
  refine o_V (st1 := [.int q2]) (w1 := (o_cw ad ca 1 Sj tc T1 q1 Pg Pt Mk Lk Ck Jd Ld Pr)) hE.1 C (c_Rd_peek hE l q1 Sj tc T1 Pg Pt Mk Lk Ck Jd Ld Pr 1 hq2) hP (hDD _ _ _ _ _ _ _ _ _ _ _ _ _) hS hl.1 rfl cw_23 k_3_38 k_3_40 k_s_3 k_1_3 k_3_41 hv_Rd_peek rfl rfl ⟨(by dsimp only [rm_Rd_readArray, rm_Rd_peek]; omega), (by dsimp only [rm_Rd_readArray, rm_Rd_peek]; omega)⟩ rfl (Nat.le_of_ble_eq_true rfl) ⟨Nat.zero_le _, Nat.zero_le _⟩ rfl d_Rd_readArray_15 (fun H locs hP hS => ?_)
  refine lv_bipush (v := (93:Int32)) hx hb d_Rd_readArray_18 (by decide) ?_
  refine lv_icmp_ne (tgt := 35) hx hb d_Rd_readArray_20 (by decide) (fun c1 => ?_) (fun c1 => ?_)
  · replace h := o_ff c1 h
    refine lv_iconst (v := (0:Int32)) hx hb d_Rd_readArray_35 (by decide) ?_
    refine lv_istore_n (lv' := [(3, .int (0:Int32)), (0, .ref (ad 23)), (1, .int x1), (2, .int x2)]) hx hb d_Rd_readArray_36 rfl hl (by decide) rfl (fun ls hl => ?_)
    obtain ⟨q6, hq6, h⟩ := o_bd_some h
    refine o_sim2 (AH := fun zz => o_At p l e (rm_Rd_readArray d) s m _ below meth c _ o_cls D A 5 37 [] (o_cw ad ca 1 Sj zz.2.1 T1 zz.2.2 Pg Pt Mk Lk Ck Jd Ld Pr) [(0, .ref (ad 23)), (1, .int x1), (2, .int x2), (3, .int zz.1)]) (AX := fun qq => if qq.1 = 1 then o_At p l e (rm_Rd_readArray d) s m _ below meth c _ o_cls D A 5 55 [] (o_cw ad ca 1 Sj qq.2.2.1 T1 qq.2.2.2 Pg Pt Mk Lk Ck Jd Ld Pr) [] else if qq.1 = 2 then o_At p l e (rm_Rd_readArray d) s m _ below meth c _ o_cls D A 5 81 [] (o_cw ad ca 1 Sj qq.2.2.1 T1 qq.2.2.2 Pg Pt Mk Lk Ck Jd Ld Pr) [(0, .ref (ad 23))] else if qq.1 = 3 then o_At p l e (rm_Rd_readArray d) s m _ below meth c _ o_cls D A 5 107 [] (o_cw ad ca 1 Sj qq.2.2.1 T1 qq.2.2.2 Pg Pt Mk Lk Ck Jd Ld Pr) [(0, .ref (ad 23)), (1, .int x1), (3, .int qq.2.1)] else o_At p l e (rm_Rd_readArray d) s m _ below meth c _ o_cls D A 5 126 [] (o_cw ad ca 1 Sj qq.2.2.1 T1 qq.2.2.2 Pg Pt Mk Lk Ck Jd Ld Pr) [(0, .ref (ad 23))]) (fun zz qq h h0 h1 => w_Rd_readArray_b37_0 hE C hDD d rec hrec n x1 x2 Sj T1 Pg Pt Mk Lk Ck Jd Ld Pr zz qq h h0 h1) n _ q6 hq6 ?_ _ _ _ hP hS (lv_sub hl [1, 2, 3, 0] rfl)
    by_cases c9 : q6.1 = 1
    · replace h := o_tt c9 h
      refine o_ip c9 ?_
      intro H locs ls hP hS hl
      refine lv_iconst (v := (0:Int32)) hx hb d_Rd_readArray_55 (by decide) ?_
      cases h
      exact o_rz (v := (0:Int32)) C o_nar0 hP hS d_Rd_readArray_56
    replace h := o_ff c9 h
    refine o_in_ c9 ?_
    by_cases c10 : q6.1 = 2
    · replace h := o_tt c10 h
      refine o_ip c10 ?_
      intro H locs ls hP hS hl
      refine lv_aload_n hx hb d_Rd_readArray_81 rfl (lv_at hl 0 rfl) ?_
      refine lv_aload_n hx hb d_Rd_readArray_82 rfl (lv_at hl 0 rfl) ?_
      refine o_get (v := .int (Rd_position q6.2.2.2)) C in_Rd hP 23 cw_23 rfl 3 (by decide) k_1_97 rfl rfl d_Rd_readArray_83 ?_
      obtain ⟨q7, hq7, h⟩ := o_bd_some h
      refine o_V (st1 := [.int q7.1]) (w1 := (o_cw ad ca 1 Sj q6.2.2.1 T1 q7.2 Pg Pt Mk Lk Ck Jd Ld Pr)) hE.1 C (c_Rd_refuse hE l (Rd_position q6.2.2.2) q6.2.2.2 Sj q6.2.2.1 T1 Pg Pt Mk Lk Ck Jd Ld Pr 1 hq7) hP (hDD _ _ _ _ _ _ _ _ _ _ _ _ _) hS hl.1 rfl cw_23 k_3_48 k_3_50 k_s_4 k_1_3 k_3_51 hv_Rd_refuse rfl rfl ⟨(by dsimp only [rm_Rd_readArray, rm_Rd_refuse]; omega), (by dsimp only [rm_Rd_readArray, rm_Rd_refuse]; omega)⟩ rfl (Nat.le_of_ble_eq_true rfl) ⟨Nat.zero_le _, Nat.zero_le _⟩ rfl d_Rd_readArray_86 (fun H locs hP hS => ?_)
      obtain ⟨g7, h⟩ := o_gd_some h
      cases h
      exact o_rz C (o_zb_nar g7) hP hS d_Rd_readArray_89
    replace h := o_ff c10 h
    refine o_in_ c10 ?_
    by_cases c11 : q6.1 = 3
    · replace h := o_tt c11 h
      refine o_ip c11 ?_
      intro H locs ls hP hS hl
      refine lv_aload_n hx hb d_Rd_readArray_107 rfl (lv_at hl 0 rfl) ?_
      refine o_get (v := .ref (ad 1)) C in_Rd hP 23 cw_23 rfl 2 (by decide) k_1_96 rfl rfl d_Rd_readArray_108 ?_
      refine lv_iload_n hx hb d_Rd_readArray_111 rfl (lv_at hl 1 rfl) ?_
      refine lv_iload_n hx hb d_Rd_readArray_112 rfl (lv_at hl 2 rfl) ?_
      refine lv_iconst (v := (1:Int32)) hx hb d_Rd_readArray_113 (by decide) ?_
      refine lv_iadd hx hb d_Rd_readArray_114 ?_
      obtain ⟨q8, hq8, h⟩ := o_bd_some h
      refine o_V (st1 := []) (w1 := (o_cw ad ca 1 Sj q8 T1 q6.2.2.2 Pg Pt Mk Lk Ck Jd Ld Pr)) hE.1 C (c_Tx_endParent_0 hE l x1 (q6.2.1 + (1:Int32)) q6.2.2.1 Sj T1 q6.2.2.2 Pg Pt Mk Lk Ck Jd Ld Pr 1 hq8) hP (hDD _ _ _ _ _ _ _ _ _ _ _ _ _) hS hl.1 rfl cw_1 k_3_190 k_3_191 k_3_192 k_1_2 k_3_193 hv_Tx_endParent rfl rfl ⟨(by dsimp only [rm_Rd_readArray, rm_Tx_endParent]; omega), (by dsimp only [rm_Rd_readArray, rm_Tx_endParent]; omega)⟩ rfl (Nat.le_of_ble_eq_true rfl) ⟨Nat.zero_le _, Nat.zero_le _⟩ rfl d_Rd_readArray_115 (fun H locs hP hS => ?_)
      refine lv_iconst (v := (1:Int32)) hx hb d_Rd_readArray_118 (by decide) ?_
      cases h
      exact o_rz (v := (1:Int32)) C o_nar1 hP hS d_Rd_readArray_119
    replace h := o_ff c11 h
    refine o_in_ c11 ?_
    intro H locs ls hP hS hl
    refine lv_aload_n hx hb d_Rd_readArray_126 rfl (lv_at hl 0 rfl) ?_
    obtain ⟨q9, hq9, h⟩ := o_bd_some h
    refine o_V (st1 := []) (w1 := (o_cw ad ca 1 Sj q6.2.2.1 T1 q9 Pg Pt Mk Lk Ck Jd Ld Pr)) hE.1 C (c_Rd_skipBlanks hE l n q6.2.2.2 Sj q6.2.2.1 T1 Pg Pt Mk Lk Ck Jd Ld Pr 1 hq9) hP (hDD _ _ _ _ _ _ _ _ _ _ _ _ _) hS hl.1 rfl cw_23 k_3_34 k_3_36 k_s_2 k_1_3 k_3_37 hv_Rd_skipBlanks rfl rfl ⟨(by dsimp only [rm_Rd_readArray, rm_Rd_skipBlanks]; omega), (by dsimp only [rm_Rd_readArray, rm_Rd_skipBlanks]; omega)⟩ rfl (Nat.le_of_ble_eq_true rfl) ⟨Nat.zero_le _, Nat.zero_le _⟩ rfl d_Rd_readArray_127 (fun H locs hP hS => ?_)
    refine lv_aload_n hx hb d_Rd_readArray_130 rfl (lv_at hl 0 rfl) ?_
    refine lv_aload_n hx hb d_Rd_readArray_131 rfl (lv_at hl 0 rfl) ?_
    refine o_get (v := .int (Rd_position q9)) C in_Rd hP 23 cw_23 rfl 3 (by decide) k_1_97 rfl rfl d_Rd_readArray_132 ?_
    obtain ⟨q10, hq10, h⟩ := o_bd_some h
    refine o_V (st1 := [.int q10.1]) (w1 := (o_cw ad ca 1 Sj q6.2.2.1 T1 q10.2 Pg Pt Mk Lk Ck Jd Ld Pr)) hE.1 C (c_Rd_refuse hE l (Rd_position q9) q9 Sj q6.2.2.1 T1 Pg Pt Mk Lk Ck Jd Ld Pr 1 hq10) hP (hDD _ _ _ _ _ _ _ _ _ _ _ _ _) hS hl.1 rfl cw_23 k_3_48 k_3_50 k_s_4 k_1_3 k_3_51 hv_Rd_refuse rfl rfl ⟨(by dsimp only [rm_Rd_readArray, rm_Rd_refuse]; omega), (by dsimp only [rm_Rd_readArray, rm_Rd_refuse]; omega)⟩ rfl (Nat.le_of_ble_eq_true rfl) ⟨Nat.zero_le _, Nat.zero_le _⟩ rfl d_Rd_readArray_135 (fun H locs hP hS => ?_)
    obtain ⟨g8, h⟩ := o_gd_some h
    cases h
    exact o_rz C (o_zb_nar g8) hP hS d_Rd_readArray_138
  · replace h := o_tt c1 h
    refine lv_aload_n hx hb d_Rd_readArray_23 rfl (lv_at hl 0 rfl) ?_
    refine lv_dup hx hb d_Rd_readArray_24 rfl ?_
    refine o_get (v := .int (Rd_position q1)) C in_Rd hP 23 cw_23 rfl 3 (by decide) k_1_97 rfl rfl d_Rd_readArray_25 ?_
    refine lv_iconst (v := (1:Int32)) hx hb d_Rd_readArray_28 (by decide) ?_
    refine lv_iadd hx hb d_Rd_readArray_29 ?_
    refine o_put (v := .int ((Rd_position q1) + (1:Int32))) (ty := .int) (w1 := (o_cw ad ca 1 Sj tc T1 (Rd_mk (Rd_words q1) (Rd_wordCount q1) ((Rd_position q1) + (1:Int32)) (Rd_limit q1) (Rd_wrongPlace q1)) Pg Pt Mk Lk Ck Jd Ld Pr)) C in_Rd t_Rd t_Rd_ok n_Rd hP (hDD _ _ _ _ _ _ _ _ _ _ _ _ _) hS 23 cw_23 rfl 3 (by decide) k_1_97 rfl rfl (by decide +kernel) rfl rfl (Nat.le_of_ble_eq_true rfl) rfl d_Rd_readArray_30 (fun H locs hP hS => ?_)
    refine lv_iconst (v := (1:Int32)) hx hb d_Rd_readArray_33 (by decide) ?_
    cases h
    exact o_rz (v := (1:Int32)) C o_nar1 hP hS d_Rd_readArray_34
set_option maxHeartbeats 4000000 in
set_option maxRecDepth 100000 in
theorem w_Rd_readArray_j90_1 {E : (Nat → Prop) → State → Heap → Prop} {p : Program} {l : Launch} {e : Env} {s : State} {m : MethodId} {args : Array Value} {below : List Frame} {meth : Method} {c : Code} {D : va_G} {ad kd sd vd xd : Nat → Nat} {ca : Nat → ClassId} {A : Nat → Prop} {Q : State → Prop} (hE : o_EK E kd sd vd xd) (C : o_Cx E p s m args meth c D o_cls (o_tys ca) "SchemaJudge$Reader" b_Rd_readArray (some .boolean) 5 cc_Rd_readArray A) (hDD : ∀ (rt : Nat) (Sj : SSJ) (T0 : STx) (T1 : STx) (Rd : SRd) (Pg : SPg) (Pt : SPt) (Mk : SMk) (Lk : SLk) (Ck : SCk) (Jd : SJd) (Ld : SLd) (Pr : SPr), va_D A (o_cw ad ca rt Sj T0 T1 Rd Pg Pt Mk Lk Ck Jd Ld Pr)) (d : Nat) (rec : Int32 → Int32 → Int32 → STx → SRd → Option (Int32 × STx × SRd)) (hrec : ∀ (x1 : Int32) (x2 : Int32) (x3 : Int32) (tc : STx) (Rd : SRd) (Sj : SSJ) (T0 : STx) (Pg : SPg) (Pt : SPt) (Mk : SMk) (Lk : SLk) (Ck : SCk) (Jd : SJd) (Ld : SLd) (Pr : SPr) (r : Int32 × STx × SRd), rec x1 x2 x3 tc Rd = some r → o_Cn E l D o_cls (o_tys ca) y_Rd_readValue cc_Rd_readValue (rm_Rd_readValue d) [.ref (ad 23), .int x1, .int x2, .int x3] (o_cw ad ca 12 Sj T0 tc Rd Pg Pt Mk Lk Ck Jd Ld Pr) (o_cw ad ca 12 Sj T0 r.2.1 r.2.2 Pg Pt Mk Lk Ck Jd Ld Pr) (some (.int r.1))) (n : Nat) (u37_x1 : Int32) (u37_x2 : Int32) (u37_Sj : SSJ) (u37_T0 : STx) (u37_Pg : SPg) (u37_Pt : SPt) (u37_Mk : SMk) (u37_Lk : SLk) (u37_Ck : SCk) (u37_Jd : SJd) (u37_Ld : SLd) (u37_Pr : SPr) (x3 : Int32) (x4 : Int32) (tc : STx) (Rd : SRd) {q : Nat × Int32 × STx × SRd} (h : m_Rd_readArray_j90 n rec u37_x1 u37_x2 x3 x4 tc Rd = some q) (h0 : q.1 = 0 → o_At p l e (rm_Rd_readArray d) s m args below meth c Q o_cls D A 5 37 [] (o_cw ad ca 12 u37_Sj u37_T0 q.2.2.1 q.2.2.2 u37_Pg u37_Pt u37_Mk u37_Lk u37_Ck u37_Jd u37_Ld u37_Pr) [(0, .ref (ad 23)), (1, .int u37_x1), (2, .int u37_x2), (3, .int q.2.1)]) (h1 : q.1 ≠ 0 → (if q.1 = 1 then o_At p l e (rm_Rd_readArray d) s m args below meth c Q o_cls D A 5 55 [] (o_cw ad ca 12 u37_Sj u37_T0 q.2.2.1 q.2.2.2 u37_Pg u37_Pt u37_Mk u37_Lk u37_Ck u37_Jd u37_Ld u37_Pr) [] else if q.1 = 2 then o_At p l e (rm_Rd_readArray d) s m args below meth c Q o_cls D A 5 81 [] (o_cw ad ca 12 u37_Sj u37_T0 q.2.2.1 q.2.2.2 u37_Pg u37_Pt u37_Mk u37_Lk u37_Ck u37_Jd u37_Ld u37_Pr) [(0, .ref (ad 23))] else if q.1 = 3 then o_At p l e (rm_Rd_readArray d) s m args below meth c Q o_cls D A 5 107 [] (o_cw ad ca 12 u37_Sj u37_T0 q.2.2.1 q.2.2.2 u37_Pg u37_Pt u37_Mk u37_Lk u37_Ck u37_Jd u37_Ld u37_Pr) [(0, .ref (ad 23)), (1, .int u37_x1), (3, .int q.2.1)] else o_At p l e (rm_Rd_readArray d) s m args below meth c Q o_cls D A 5 126 [] (o_cw ad ca 12 u37_Sj u37_T0 q.2.2.1 q.2.2.2 u37_Pg u37_Pt u37_Mk u37_Lk u37_Ck u37_Jd u37_Ld u37_Pr) [(0, .ref (ad 23))])) : o_At p l e (rm_Rd_readArray d) s m args below meth c Q o_cls D A 5 90 [] (o_cw ad ca 12 u37_Sj u37_T0 tc Rd u37_Pg u37_Pt u37_Mk u37_Lk u37_Ck u37_Jd u37_Ld u37_Pr) [(0, .ref (ad 23)), (1, .int u37_x1), (2, .int u37_x2), (3, .int x3), (4, .int x4)] := by
  unfold m_Rd_readArray_j90 at h
  intro H locs ls hP hS hl
  have C0 := C
  obtain ⟨hx, hb, -, -, -, hown, hts, hK, -, -⟩ := C0
  refine lv_aload_n hx hb d_Rd_readArray_90 rfl (lv_at hl 0 rfl) ?_
  refine lv_dup hx hb d_Rd_readArray_91 rfl ?_
  refine o_get (v := .int (Rd_position Rd)) C in_Rd hP 23 cw_23 rfl 3 (by decide) k_1_97 rfl rfl d_Rd_readArray_92 ?_
  refine lv_iconst (v := (1:Int32)) hx hb d_Rd_readArray_95 (by decide) ?_
  refine lv_iadd hx hb d_Rd_readArray_96 ?_
  refine o_put (v := .int ((Rd_position Rd) + (1:Int32))) (ty := .int) (w1 := (o_cw ad ca 12 u37_Sj u37_T0 tc (Rd_mk (Rd_words Rd) (Rd_wordCount Rd) ((Rd_position Rd) + (1:Int32)) (Rd_limit Rd) (Rd_wrongPlace Rd)) u37_Pg u37_Pt u37_Mk u37_Lk u37_Ck u37_Jd u37_Ld u37_Pr)) C in_Rd t_Rd t_Rd_ok n_Rd hP (hDD _ _ _ _ _ _ _ _ _ _ _ _ _) hS 23 cw_23 rfl 3 (by decide) k_1_97 rfl rfl (by decide +kernel) rfl rfl (Nat.le_of_ble_eq_true rfl) rfl d_Rd_readArray_97 (fun H locs hP hS => ?_)
  refine lv_iload hx hb d_Rd_readArray_100 (lv_at hl 4 rfl) ?_
  refine lv_bipush (v := (93:Int32)) hx hb d_Rd_readArray_102 (by decide) ?_
  refine lv_icmp_ne (tgt := 120) hx hb d_Rd_readArray_104 (by decide) (fun c5 => ?_) (fun c5 => ?_)
  · replace h := o_ff c5 h
    obtain ⟨x3_120, ex3_120⟩ : ∃ y : Int32, y = x3 + (1:Int32) := ⟨_, rfl⟩
    replace h := o_nm_at ex3_120 h
    refine lv_iinc (v := x3_120) (lv' := [(3, .int x3_120), (0, .ref (ad 23)), (1, .int u37_x1), (2, .int u37_x2), (4, .int x4)]) hx hb d_Rd_readArray_120 hl (k := 3) rfl (by rw [ex3_120]; rfl) (by decide) rfl (fun ls hl => ?_)
    refine lv_goto (tgt := 37) hx hb d_Rd_readArray_123 (by decide) ?_
    cases h
    exact h0 rfl _ _ _ hP hS (lv_sub hl [1, 2, 3, 0] rfl)
  · replace h := o_tt c5 h
    cases h
    exact h1 (Nat.succ_ne_zero 2) _ _ _ hP hS (lv_sub hl [0, 1, 3] rfl)
set_option maxHeartbeats 4000000 in
set_option maxRecDepth 100000 in
theorem w_Rd_readArray_b37_1 {E : (Nat → Prop) → State → Heap → Prop} {p : Program} {l : Launch} {e : Env} {s : State} {m : MethodId} {args : Array Value} {below : List Frame} {meth : Method} {c : Code} {D : va_G} {ad kd sd vd xd : Nat → Nat} {ca : Nat → ClassId} {A : Nat → Prop} {Q : State → Prop} (hE : o_EK E kd sd vd xd) (C : o_Cx E p s m args meth c D o_cls (o_tys ca) "SchemaJudge$Reader" b_Rd_readArray (some .boolean) 5 cc_Rd_readArray A) (hDD : ∀ (rt : Nat) (Sj : SSJ) (T0 : STx) (T1 : STx) (Rd : SRd) (Pg : SPg) (Pt : SPt) (Mk : SMk) (Lk : SLk) (Ck : SCk) (Jd : SJd) (Ld : SLd) (Pr : SPr), va_D A (o_cw ad ca rt Sj T0 T1 Rd Pg Pt Mk Lk Ck Jd Ld Pr)) (d : Nat) (rec : Int32 → Int32 → Int32 → STx → SRd → Option (Int32 × STx × SRd)) (hrec : ∀ (x1 : Int32) (x2 : Int32) (x3 : Int32) (tc : STx) (Rd : SRd) (Sj : SSJ) (T0 : STx) (Pg : SPg) (Pt : SPt) (Mk : SMk) (Lk : SLk) (Ck : SCk) (Jd : SJd) (Ld : SLd) (Pr : SPr) (r : Int32 × STx × SRd), rec x1 x2 x3 tc Rd = some r → o_Cn E l D o_cls (o_tys ca) y_Rd_readValue cc_Rd_readValue (rm_Rd_readValue d) [.ref (ad 23), .int x1, .int x2, .int x3] (o_cw ad ca 12 Sj T0 tc Rd Pg Pt Mk Lk Ck Jd Ld Pr) (o_cw ad ca 12 Sj T0 r.2.1 r.2.2 Pg Pt Mk Lk Ck Jd Ld Pr) (some (.int r.1))) (n : Nat) (u37_x1 : Int32) (u37_x2 : Int32) (u37_Sj : SSJ) (u37_T0 : STx) (u37_Pg : SPg) (u37_Pt : SPt) (u37_Mk : SMk) (u37_Lk : SLk) (u37_Ck : SCk) (u37_Jd : SJd) (u37_Ld : SLd) (u37_Pr : SPr) (z : Int32 × STx × SRd) (q : Nat × Int32 × STx × SRd) (h : m_Rd_readArray_b37 n rec u37_x1 u37_x2 z = some q) (h0 : q.1 = 0 → o_At p l e (rm_Rd_readArray d) s m args below meth c Q o_cls D A 5 37 [] (o_cw ad ca 12 u37_Sj u37_T0 q.2.2.1 q.2.2.2 u37_Pg u37_Pt u37_Mk u37_Lk u37_Ck u37_Jd u37_Ld u37_Pr) [(0, .ref (ad 23)), (1, .int u37_x1), (2, .int u37_x2), (3, .int q.2.1)]) (h1 : q.1 ≠ 0 → (if q.1 = 1 then o_At p l e (rm_Rd_readArray d) s m args below meth c Q o_cls D A 5 55 [] (o_cw ad ca 12 u37_Sj u37_T0 q.2.2.1 q.2.2.2 u37_Pg u37_Pt u37_Mk u37_Lk u37_Ck u37_Jd u37_Ld u37_Pr) [] else if q.1 = 2 then o_At p l e (rm_Rd_readArray d) s m args below meth c Q o_cls D A 5 81 [] (o_cw ad ca 12 u37_Sj u37_T0 q.2.2.1 q.2.2.2 u37_Pg u37_Pt u37_Mk u37_Lk u37_Ck u37_Jd u37_Ld u37_Pr) [(0, .ref (ad 23))] else if q.1 = 3 then o_At p l e (rm_Rd_readArray d) s m args below meth c Q o_cls D A 5 107 [] (o_cw ad ca 12 u37_Sj u37_T0 q.2.2.1 q.2.2.2 u37_Pg u37_Pt u37_Mk u37_Lk u37_Ck u37_Jd u37_Ld u37_Pr) [(0, .ref (ad 23)), (1, .int u37_x1), (3, .int q.2.1)] else o_At p l e (rm_Rd_readArray d) s m args below meth c Q o_cls D A 5 126 [] (o_cw ad ca 12 u37_Sj u37_T0 q.2.2.1 q.2.2.2 u37_Pg u37_Pt u37_Mk u37_Lk u37_Ck u37_Jd u37_Ld u37_Pr) [(0, .ref (ad 23))])) : o_At p l e (rm_Rd_readArray d) s m args below meth c Q o_cls D A 5 37 [] (o_cw ad ca 12 u37_Sj u37_T0 z.2.1 z.2.2 u37_Pg u37_Pt u37_Mk u37_Lk u37_Ck u37_Jd u37_Ld u37_Pr) [(0, .ref (ad 23)), (1, .int u37_x1), (2, .int u37_x2), (3, .int z.1)] := by
  unfold m_Rd_readArray_b37 at h
  intro H locs ls hP hS hl
  have C0 := C
  obtain ⟨hx, hb, -, -, -, hown, hts, hK, -, -⟩ := C0
  refine lv_iload_n hx hb d_Rd_readArray_37 rfl (lv_at hl 3 rfl) ?_
  refine lv_bipush (v := (60:Int32)) hx hb d_Rd_readArray_38 (by decide) ?_
  refine lv_icmp_ge (tgt := 126) hx hb d_Rd_readArray_40 (by decide) (fun c2 => ?_) (fun c2 => ?_)
  · replace h := o_tt c2 h
    cases h
    exact h1 (Nat.succ_ne_zero 3) _ _ _ hP hS (lv_sub hl [0] rfl)
  · replace h := o_ff c2 h
    refine lv_aload_n hx hb d_Rd_readArray_43 rfl (lv_at hl 0 rfl) ?_
    refine lv_iload_n hx hb d_Rd_readArray_44 rfl (lv_at hl 1 rfl) ?_
    refine lv_iload_n hx hb d_Rd_readArray_45 rfl (lv_at hl 3 rfl) ?_
    refine lv_iload_n hx hb d_Rd_readArray_46 rfl (lv_at hl 2 rfl) ?_
    refine lv_iconst (v := (1:Int32)) hx hb d_Rd_readArray_47 (by decide) ?_
    refine lv_iadd hx hb d_Rd_readArray_48 ?_
    obtain ⟨q3, hq3, h⟩ := o_bd_some h
    refine o_V (st1 := [.int q3.1]) (w1 := (o_cw ad ca 12 u37_Sj u37_T0 q3.2.1 q3.2.2 u37_Pg u37_Pt u37_Mk u37_Lk u37_Ck u37_Jd u37_Ld u37_Pr)) hE.1 C (hrec u37_x1 z.1 (u37_x2 + (1:Int32)) z.2.1 z.2.2 u37_Sj u37_T0 u37_Pg u37_Pt u37_Mk u37_Lk u37_Ck u37_Jd u37_Ld u37_Pr _ hq3) hP (hDD _ _ _ _ _ _ _ _ _ _ _ _ _) hS hl.1 rfl cw_23 k_3_30 k_3_32 k_s_1 k_1_3 k_3_33 hv_Rd_readValue rfl rfl ⟨(by dsimp only [rm_Rd_readArray, rm_Rd_readValue]; omega), (by dsimp only [rm_Rd_readArray, rm_Rd_readValue]; omega)⟩ rfl (Nat.le_of_ble_eq_true rfl) ⟨Nat.zero_le _, Nat.zero_le _⟩ rfl d_Rd_readArray_49 (fun H locs hP hS => ?_)
    refine lv_if_ne (tgt := 57) hx hb d_Rd_readArray_52 (by decide) (fun c3 => ?_) (fun c3 => ?_)
    · replace h := o_ff c3 h
      refine lv_aload_n hx hb d_Rd_readArray_57 rfl (lv_at hl 0 rfl) ?_
      obtain ⟨q4, hq4, h⟩ := o_bd_some h
      refine o_V (st1 := []) (w1 := (o_cw ad ca 12 u37_Sj u37_T0 q3.2.1 q4 u37_Pg u37_Pt u37_Mk u37_Lk u37_Ck u37_Jd u37_Ld u37_Pr)) hE.1 C (c_Rd_skipBlanks hE l n q3.2.2 u37_Sj u37_T0 q3.2.1 u37_Pg u37_Pt u37_Mk u37_Lk u37_Ck u37_Jd u37_Ld u37_Pr 12 hq4) hP (hDD _ _ _ _ _ _ _ _ _ _ _ _ _) hS hl.1 rfl cw_23 k_3_34 k_3_36 k_s_2 k_1_3 k_3_37 hv_Rd_skipBlanks rfl rfl ⟨(by dsimp only [rm_Rd_readArray, rm_Rd_skipBlanks]; omega), (by dsimp only [rm_Rd_readArray, rm_Rd_skipBlanks]; omega)⟩ rfl (Nat.le_of_ble_eq_true rfl) ⟨Nat.zero_le _, Nat.zero_le _⟩ rfl d_Rd_readArray_58 (fun H locs hP hS => ?_)
      refine lv_aload_n hx hb d_Rd_readArray_61 rfl (lv_at hl 0 rfl) ?_
      obtain ⟨q5, hq5, h⟩ := o_bd_some h
      refine o_V (st1 := [.int q5]) (w1 := (o_cw ad ca 12 u37_Sj u37_T0 q3.2.1 q4 u37_Pg u37_Pt u37_Mk u37_Lk u37_Ck u37_Jd u37_Ld u37_Pr)) hE.1 C (c_Rd_peek hE l q4 u37_Sj u37_T0 q3.2.1 u37_Pg u37_Pt u37_Mk u37_Lk u37_Ck u37_Jd u37_Ld u37_Pr 12 hq5) hP (hDD _ _ _ _ _ _ _ _ _ _ _ _ _) hS hl.1 rfl cw_23 k_3_38 k_3_40 k_s_3 k_1_3 k_3_41 hv_Rd_peek rfl rfl ⟨(by dsimp only [rm_Rd_readArray, rm_Rd_peek]; omega), (by dsimp only [rm_Rd_readArray, rm_Rd_peek]; omega)⟩ rfl (Nat.le_of_ble_eq_true rfl) ⟨Nat.zero_le _, Nat.zero_le _⟩ rfl d_Rd_readArray_62 (fun H locs hP hS => ?_)
      refine lv_istore (lv' := [(4, .int q5), (0, .ref (ad 23)), (1, .int u37_x1), (2, .int u37_x2), (3, .int z.1)]) hx hb d_Rd_readArray_65 hl (by decide) rfl (fun ls hl => ?_)
      refine lv_iload hx hb d_Rd_readArray_67 (lv_at hl 0 rfl) ?_
      refine lv_bipush (v := (44:Int32)) hx hb d_Rd_readArray_69 (by decide) ?_
      refine lv_icmp_eq (tgt := 90) hx hb d_Rd_readArray_71 (by decide) (fun c4 => ?_) (fun c4 => ?_)
      · replace h := o_tt c4 h
        exact w_Rd_readArray_j90_1 hE C hDD d rec hrec n u37_x1 u37_x2 u37_Sj u37_T0 u37_Pg u37_Pt u37_Mk u37_Lk u37_Ck u37_Jd u37_Ld u37_Pr z.1 q5 q3.2.1 q4 h h0 h1 _ _ _ hP hS (lv_sub hl [1, 2, 3, 4, 0] rfl)
      · replace h := o_ff c4 h
        refine lv_iload hx hb d_Rd_readArray_74 (lv_at hl 0 rfl) ?_
        refine lv_bipush (v := (93:Int32)) hx hb d_Rd_readArray_76 (by decide) ?_
        refine lv_icmp_eq (tgt := 90) hx hb d_Rd_readArray_78 (by decide) (fun c6 => ?_) (fun c6 => ?_)
        · replace h := o_tt c6 h
          exact w_Rd_readArray_j90_1 hE C hDD d rec hrec n u37_x1 u37_x2 u37_Sj u37_T0 u37_Pg u37_Pt u37_Mk u37_Lk u37_Ck u37_Jd u37_Ld u37_Pr z.1 q5 q3.2.1 q4 h h0 h1 _ _ _ hP hS (lv_sub hl [1, 2, 3, 4, 0] rfl)
        · replace h := o_ff c6 h
          cases h
          exact h1 (Nat.succ_ne_zero 1) _ _ _ hP hS (lv_sub hl [1] rfl)
    · replace h := o_tt c3 h
      cases h
      exact h1 (Nat.succ_ne_zero 0) _ _ _ hP hS (lv_sub hl [] rfl)
set_option maxHeartbeats 4000000 in
set_option maxRecDepth 100000 in
theorem c_Rd_readArray_1 {E : (Nat → Prop) → State → Heap → Prop} {D : va_G} {ad kd sd vd xd : Nat → Nat} {ca : Nat → ClassId} (hE : o_EK E kd sd vd xd) (l : Launch) (n : Nat) (d : Nat) (rec : Int32 → Int32 → Int32 → STx → SRd → Option (Int32 × STx × SRd)) (hrec : ∀ (x1 : Int32) (x2 : Int32) (x3 : Int32) (tc : STx) (Rd : SRd) (Sj : SSJ) (T0 : STx) (Pg : SPg) (Pt : SPt) (Mk : SMk) (Lk : SLk) (Ck : SCk) (Jd : SJd) (Ld : SLd) (Pr : SPr) (r : Int32 × STx × SRd), rec x1 x2 x3 tc Rd = some r → o_Cn E l D o_cls (o_tys ca) y_Rd_readValue cc_Rd_readValue (rm_Rd_readValue d) [.ref (ad 23), .int x1, .int x2, .int x3] (o_cw ad ca 12 Sj T0 tc Rd Pg Pt Mk Lk Ck Jd Ld Pr) (o_cw ad ca 12 Sj T0 r.2.1 r.2.2 Pg Pt Mk Lk Ck Jd Ld Pr) (some (.int r.1))) (x1 : Int32) (x2 : Int32) (tc : STx) (Rd : SRd) (Sj : SSJ) (T0 : STx) (Pg : SPg) (Pt : SPt) (Mk : SMk) (Lk : SLk) (Ck : SCk) (Jd : SJd) (Ld : SLd) (Pr : SPr) {r : Int32 × STx × SRd} (h : m_Rd_readArray n rec x1 x2 tc Rd = some r) : o_Cn E l D o_cls (o_tys ca) y_Rd_readArray cc_Rd_readArray (rm_Rd_readArray d) [.ref (ad 23), .int x1, .int x2] (o_cw ad ca 12 Sj T0 tc Rd Pg Pt Mk Lk Ck Jd Ld Pr) (o_cw ad ca 12 Sj T0 r.2.1 r.2.2 Pg Pt Mk Lk Ck Jd Ld Pr) (some (.int r.1)) := by
  refine o_Cn_of (by decide) (Nat.le_of_ble_eq_true rfl) ?_
  intro p e s m below meth c A ls C hD hP hS hl
  have hDD : ∀ (rt : Nat) (Sj : SSJ) (T0 : STx) (T1 : STx) (Rd : SRd) (Pg : SPg) (Pt : SPt) (Mk : SMk) (Lk : SLk) (Ck : SCk) (Jd : SJd) (Ld : SLd) (Pr : SPr), va_D A (o_cw ad ca rt Sj T0 T1 Rd Pg Pt Mk Lk Ck Jd Ld Pr) := fun _ _ _ _ _ _ _ _ _ _ _ _ _ => o_D_map hD rfl
  have hl : lv_has ls 5 [(0, .ref (ad 23)), (1, .int x1), (2, .int x2)] := hl
  unfold m_Rd_readArray at h
  have C0 := C
  obtain ⟨hx, hb, -, -, -, hown, hts, hK, -, -⟩ := C0
  refine lv_aload_n hx hb d_Rd_readArray_0 rfl (lv_at hl 0 rfl) ?_
  refine lv_dup hx hb d_Rd_readArray_1 rfl ?_
  refine o_get (v := .int (Rd_position Rd)) C in_Rd hP 23 cw_23 rfl 3 (by decide) k_1_97 rfl rfl d_Rd_readArray_2 ?_
  refine lv_iconst (v := (1:Int32)) hx hb d_Rd_readArray_5 (by decide) ?_
  refine lv_iadd hx hb d_Rd_readArray_6 ?_
  refine o_put (v := .int ((Rd_position Rd) + (1:Int32))) (ty := .int) (w1 := (o_cw ad ca 12 Sj T0 tc (Rd_mk (Rd_words Rd) (Rd_wordCount Rd) ((Rd_position Rd) + (1:Int32)) (Rd_limit Rd) (Rd_wrongPlace Rd)) Pg Pt Mk Lk Ck Jd Ld Pr)) C in_Rd t_Rd t_Rd_ok n_Rd hP (hDD _ _ _ _ _ _ _ _ _ _ _ _ _) hS 23 cw_23 rfl 3 (by decide) k_1_97 rfl rfl (by decide +kernel) rfl rfl (Nat.le_of_ble_eq_true rfl) rfl d_Rd_readArray_7 (fun H locs hP hS => ?_)
  refine lv_aload_n hx hb d_Rd_readArray_10 rfl (lv_at hl 0 rfl) ?_
  obtain ⟨q1, hq1, h⟩ := o_bd_some h
  refine o_V (st1 := []) (w1 := (o_cw ad ca 12 Sj T0 tc q1 Pg Pt Mk Lk Ck Jd Ld Pr)) hE.1 C (c_Rd_skipBlanks hE l n (Rd_mk (Rd_words Rd) (Rd_wordCount Rd) ((Rd_position Rd) + (1:Int32)) (Rd_limit Rd) (Rd_wrongPlace Rd)) Sj T0 tc Pg Pt Mk Lk Ck Jd Ld Pr 12 hq1) hP (hDD _ _ _ _ _ _ _ _ _ _ _ _ _) hS hl.1 rfl cw_23 k_3_34 k_3_36 k_s_2 k_1_3 k_3_37 hv_Rd_skipBlanks rfl rfl ⟨(by dsimp only [rm_Rd_readArray, rm_Rd_skipBlanks]; omega), (by dsimp only [rm_Rd_readArray, rm_Rd_skipBlanks]; omega)⟩ rfl (Nat.le_of_ble_eq_true rfl) ⟨Nat.zero_le _, Nat.zero_le _⟩ rfl d_Rd_readArray_11 (fun H locs hP hS => ?_)
  refine lv_aload_n hx hb d_Rd_readArray_14 rfl (lv_at hl 0 rfl) ?_
  obtain ⟨q2, hq2, h⟩ := o_bd_some h
  refine o_V (st1 := [.int q2]) (w1 := (o_cw ad ca 12 Sj T0 tc q1 Pg Pt Mk Lk Ck Jd Ld Pr)) hE.1 C (c_Rd_peek hE l q1 Sj T0 tc Pg Pt Mk Lk Ck Jd Ld Pr 12 hq2) hP (hDD _ _ _ _ _ _ _ _ _ _ _ _ _) hS hl.1 rfl cw_23 k_3_38 k_3_40 k_s_3 k_1_3 k_3_41 hv_Rd_peek rfl rfl ⟨(by dsimp only [rm_Rd_readArray, rm_Rd_peek]; omega), (by dsimp only [rm_Rd_readArray, rm_Rd_peek]; omega)⟩ rfl (Nat.le_of_ble_eq_true rfl) ⟨Nat.zero_le _, Nat.zero_le _⟩ rfl d_Rd_readArray_15 (fun H locs hP hS => ?_)
  refine lv_bipush (v := (93:Int32)) hx hb d_Rd_readArray_18 (by decide) ?_
  refine lv_icmp_ne (tgt := 35) hx hb d_Rd_readArray_20 (by decide) (fun c1 => ?_) (fun c1 => ?_)
  · replace h := o_ff c1 h
    refine lv_iconst (v := (0:Int32)) hx hb d_Rd_readArray_35 (by decide) ?_
    refine lv_istore_n (lv' := [(3, .int (0:Int32)), (0, .ref (ad 23)), (1, .int x1), (2, .int x2)]) hx hb d_Rd_readArray_36 rfl hl (by decide) rfl (fun ls hl => ?_)
    obtain ⟨q6, hq6, h⟩ := o_bd_some h
    refine o_sim2 (AH := fun zz => o_At p l e (rm_Rd_readArray d) s m _ below meth c _ o_cls D A 5 37 [] (o_cw ad ca 12 Sj T0 zz.2.1 zz.2.2 Pg Pt Mk Lk Ck Jd Ld Pr) [(0, .ref (ad 23)), (1, .int x1), (2, .int x2), (3, .int zz.1)]) (AX := fun qq => if qq.1 = 1 then o_At p l e (rm_Rd_readArray d) s m _ below meth c _ o_cls D A 5 55 [] (o_cw ad ca 12 Sj T0 qq.2.2.1 qq.2.2.2 Pg Pt Mk Lk Ck Jd Ld Pr) [] else if qq.1 = 2 then o_At p l e (rm_Rd_readArray d) s m _ below meth c _ o_cls D A 5 81 [] (o_cw ad ca 12 Sj T0 qq.2.2.1 qq.2.2.2 Pg Pt Mk Lk Ck Jd Ld Pr) [(0, .ref (ad 23))] else if qq.1 = 3 then o_At p l e (rm_Rd_readArray d) s m _ below meth c _ o_cls D A 5 107 [] (o_cw ad ca 12 Sj T0 qq.2.2.1 qq.2.2.2 Pg Pt Mk Lk Ck Jd Ld Pr) [(0, .ref (ad 23)), (1, .int x1), (3, .int qq.2.1)] else o_At p l e (rm_Rd_readArray d) s m _ below meth c _ o_cls D A 5 126 [] (o_cw ad ca 12 Sj T0 qq.2.2.1 qq.2.2.2 Pg Pt Mk Lk Ck Jd Ld Pr) [(0, .ref (ad 23))]) (fun zz qq h h0 h1 => w_Rd_readArray_b37_1 hE C hDD d rec hrec n x1 x2 Sj T0 Pg Pt Mk Lk Ck Jd Ld Pr zz qq h h0 h1) n _ q6 hq6 ?_ _ _ _ hP hS (lv_sub hl [1, 2, 3, 0] rfl)
    by_cases c9 : q6.1 = 1
    · replace h := o_tt c9 h
      refine o_ip c9 ?_
      intro H locs ls hP hS hl
      refine lv_iconst (v := (0:Int32)) hx hb d_Rd_readArray_55 (by decide) ?_
      cases h
      exact o_rz (v := (0:Int32)) C o_nar0 hP hS d_Rd_readArray_56
    replace h := o_ff c9 h
    refine o_in_ c9 ?_
    by_cases c10 : q6.1 = 2
    · replace h := o_tt c10 h
      refine o_ip c10 ?_
      intro H locs ls hP hS hl
      refine lv_aload_n hx hb d_Rd_readArray_81 rfl (lv_at hl 0 rfl) ?_
      refine lv_aload_n hx hb d_Rd_readArray_82 rfl (lv_at hl 0 rfl) ?_
      refine o_get (v := .int (Rd_position q6.2.2.2)) C in_Rd hP 23 cw_23 rfl 3 (by decide) k_1_97 rfl rfl d_Rd_readArray_83 ?_
      obtain ⟨q7, hq7, h⟩ := o_bd_some h
      refine o_V (st1 := [.int q7.1]) (w1 := (o_cw ad ca 12 Sj T0 q6.2.2.1 q7.2 Pg Pt Mk Lk Ck Jd Ld Pr)) hE.1 C (c_Rd_refuse hE l (Rd_position q6.2.2.2) q6.2.2.2 Sj T0 q6.2.2.1 Pg Pt Mk Lk Ck Jd Ld Pr 12 hq7) hP (hDD _ _ _ _ _ _ _ _ _ _ _ _ _) hS hl.1 rfl cw_23 k_3_48 k_3_50 k_s_4 k_1_3 k_3_51 hv_Rd_refuse rfl rfl ⟨(by dsimp only [rm_Rd_readArray, rm_Rd_refuse]; omega), (by dsimp only [rm_Rd_readArray, rm_Rd_refuse]; omega)⟩ rfl (Nat.le_of_ble_eq_true rfl) ⟨Nat.zero_le _, Nat.zero_le _⟩ rfl d_Rd_readArray_86 (fun H locs hP hS => ?_)
      obtain ⟨g7, h⟩ := o_gd_some h
      cases h
      exact o_rz C (o_zb_nar g7) hP hS d_Rd_readArray_89
    replace h := o_ff c10 h
    refine o_in_ c10 ?_
    by_cases c11 : q6.1 = 3
    · replace h := o_tt c11 h
      refine o_ip c11 ?_
      intro H locs ls hP hS hl
      refine lv_aload_n hx hb d_Rd_readArray_107 rfl (lv_at hl 0 rfl) ?_
      refine o_get (v := .ref (ad 12)) C in_Rd hP 23 cw_23 rfl 2 (by decide) k_1_96 rfl rfl d_Rd_readArray_108 ?_
      refine lv_iload_n hx hb d_Rd_readArray_111 rfl (lv_at hl 1 rfl) ?_
      refine lv_iload_n hx hb d_Rd_readArray_112 rfl (lv_at hl 2 rfl) ?_
      refine lv_iconst (v := (1:Int32)) hx hb d_Rd_readArray_113 (by decide) ?_
      refine lv_iadd hx hb d_Rd_readArray_114 ?_
      obtain ⟨q8, hq8, h⟩ := o_bd_some h
      refine o_V (st1 := []) (w1 := (o_cw ad ca 12 Sj T0 q8 q6.2.2.2 Pg Pt Mk Lk Ck Jd Ld Pr)) hE.1 C (c_Tx_endParent_1 hE l x1 (q6.2.1 + (1:Int32)) q6.2.2.1 Sj T0 q6.2.2.2 Pg Pt Mk Lk Ck Jd Ld Pr 12 hq8) hP (hDD _ _ _ _ _ _ _ _ _ _ _ _ _) hS hl.1 rfl cw_12 k_3_190 k_3_191 k_3_192 k_1_2 k_3_193 hv_Tx_endParent rfl rfl ⟨(by dsimp only [rm_Rd_readArray, rm_Tx_endParent]; omega), (by dsimp only [rm_Rd_readArray, rm_Tx_endParent]; omega)⟩ rfl (Nat.le_of_ble_eq_true rfl) ⟨Nat.zero_le _, Nat.zero_le _⟩ rfl d_Rd_readArray_115 (fun H locs hP hS => ?_)
      refine lv_iconst (v := (1:Int32)) hx hb d_Rd_readArray_118 (by decide) ?_
      cases h
      exact o_rz (v := (1:Int32)) C o_nar1 hP hS d_Rd_readArray_119
    replace h := o_ff c11 h
    refine o_in_ c11 ?_
    intro H locs ls hP hS hl
    refine lv_aload_n hx hb d_Rd_readArray_126 rfl (lv_at hl 0 rfl) ?_
    obtain ⟨q9, hq9, h⟩ := o_bd_some h
    refine o_V (st1 := []) (w1 := (o_cw ad ca 12 Sj T0 q6.2.2.1 q9 Pg Pt Mk Lk Ck Jd Ld Pr)) hE.1 C (c_Rd_skipBlanks hE l n q6.2.2.2 Sj T0 q6.2.2.1 Pg Pt Mk Lk Ck Jd Ld Pr 12 hq9) hP (hDD _ _ _ _ _ _ _ _ _ _ _ _ _) hS hl.1 rfl cw_23 k_3_34 k_3_36 k_s_2 k_1_3 k_3_37 hv_Rd_skipBlanks rfl rfl ⟨(by dsimp only [rm_Rd_readArray, rm_Rd_skipBlanks]; omega), (by dsimp only [rm_Rd_readArray, rm_Rd_skipBlanks]; omega)⟩ rfl (Nat.le_of_ble_eq_true rfl) ⟨Nat.zero_le _, Nat.zero_le _⟩ rfl d_Rd_readArray_127 (fun H locs hP hS => ?_)
    refine lv_aload_n hx hb d_Rd_readArray_130 rfl (lv_at hl 0 rfl) ?_
    refine lv_aload_n hx hb d_Rd_readArray_131 rfl (lv_at hl 0 rfl) ?_
    refine o_get (v := .int (Rd_position q9)) C in_Rd hP 23 cw_23 rfl 3 (by decide) k_1_97 rfl rfl d_Rd_readArray_132 ?_
    obtain ⟨q10, hq10, h⟩ := o_bd_some h
    refine o_V (st1 := [.int q10.1]) (w1 := (o_cw ad ca 12 Sj T0 q6.2.2.1 q10.2 Pg Pt Mk Lk Ck Jd Ld Pr)) hE.1 C (c_Rd_refuse hE l (Rd_position q9) q9 Sj T0 q6.2.2.1 Pg Pt Mk Lk Ck Jd Ld Pr 12 hq10) hP (hDD _ _ _ _ _ _ _ _ _ _ _ _ _) hS hl.1 rfl cw_23 k_3_48 k_3_50 k_s_4 k_1_3 k_3_51 hv_Rd_refuse rfl rfl ⟨(by dsimp only [rm_Rd_readArray, rm_Rd_refuse]; omega), (by dsimp only [rm_Rd_readArray, rm_Rd_refuse]; omega)⟩ rfl (Nat.le_of_ble_eq_true rfl) ⟨Nat.zero_le _, Nat.zero_le _⟩ rfl d_Rd_readArray_135 (fun H locs hP hS => ?_)
    obtain ⟨g8, h⟩ := o_gd_some h
    cases h
    exact o_rz C (o_zb_nar g8) hP hS d_Rd_readArray_138
  · replace h := o_tt c1 h
    refine lv_aload_n hx hb d_Rd_readArray_23 rfl (lv_at hl 0 rfl) ?_
    refine lv_dup hx hb d_Rd_readArray_24 rfl ?_
    refine o_get (v := .int (Rd_position q1)) C in_Rd hP 23 cw_23 rfl 3 (by decide) k_1_97 rfl rfl d_Rd_readArray_25 ?_
    refine lv_iconst (v := (1:Int32)) hx hb d_Rd_readArray_28 (by decide) ?_
    refine lv_iadd hx hb d_Rd_readArray_29 ?_
    refine o_put (v := .int ((Rd_position q1) + (1:Int32))) (ty := .int) (w1 := (o_cw ad ca 12 Sj T0 tc (Rd_mk (Rd_words q1) (Rd_wordCount q1) ((Rd_position q1) + (1:Int32)) (Rd_limit q1) (Rd_wrongPlace q1)) Pg Pt Mk Lk Ck Jd Ld Pr)) C in_Rd t_Rd t_Rd_ok n_Rd hP (hDD _ _ _ _ _ _ _ _ _ _ _ _ _) hS 23 cw_23 rfl 3 (by decide) k_1_97 rfl rfl (by decide +kernel) rfl rfl (Nat.le_of_ble_eq_true rfl) rfl d_Rd_readArray_30 (fun H locs hP hS => ?_)
    refine lv_iconst (v := (1:Int32)) hx hb d_Rd_readArray_33 (by decide) ?_
    cases h
    exact o_rz (v := (1:Int32)) C o_nar1 hP hS d_Rd_readArray_34
set_option maxHeartbeats 4000000 in
set_option maxRecDepth 100000 in
theorem c_Tx_total_1 {E : (Nat → Prop) → State → Heap → Prop} {D : va_G} {ad kd sd vd xd : Nat → Nat} {ca : Nat → ClassId} (hE : o_EK E kd sd vd xd) (l : Launch)  (a0 : STx) (Sj : SSJ) (T0 : STx) (Rd : SRd) (Pg : SPg) (Pt : SPt) (Mk : SMk) (Lk : SLk) (Ck : SCk) (Jd : SJd) (Ld : SLd) (Pr : SPr) (rt : Nat) {r : Int32} (h : m_Tx_total a0 = some r) : o_Cn E l D o_cls (o_tys ca) y_Tx_total cc_Tx_total rm_Tx_total [.ref (ad 12)] (o_cw ad ca rt Sj T0 a0 Rd Pg Pt Mk Lk Ck Jd Ld Pr) (o_cw ad ca rt Sj T0 a0 Rd Pg Pt Mk Lk Ck Jd Ld Pr) (some (.int r)) := by
  refine o_Cn_of (by decide) (Nat.le_of_ble_eq_true rfl) ?_
  intro p e s m below meth c A ls C hD hP hS hl
  have hDD : ∀ (rt : Nat) (Sj : SSJ) (T0 : STx) (T1 : STx) (Rd : SRd) (Pg : SPg) (Pt : SPt) (Mk : SMk) (Lk : SLk) (Ck : SCk) (Jd : SJd) (Ld : SLd) (Pr : SPr), va_D A (o_cw ad ca rt Sj T0 T1 Rd Pg Pt Mk Lk Ck Jd Ld Pr) := fun _ _ _ _ _ _ _ _ _ _ _ _ _ => o_D_map hD rfl
  have hl : lv_has ls 1 [(0, .ref (ad 12))] := hl
  unfold m_Tx_total at h
  have C0 := C
  obtain ⟨hx, hb, -, -, -, hown, hts, hK, -, -⟩ := C0
  refine lv_aload_n hx hb d_Tx_total_0 rfl (lv_at hl 0 rfl) ?_
  refine o_get (v := .int (Tx_total a0)) C in_Tx hP 12 cw_12 rfl 10 (by decide) k_1_56 rfl rfl d_Tx_total_1 ?_
  cases h
  exact o_ri (v := (Tx_total a0)) C hP hS d_Tx_total_4
set_option maxHeartbeats 4000000 in
set_option maxRecDepth 100000 in
theorem w_Tx_wholeNumber_b47_1 {E : (Nat → Prop) → State → Heap → Prop} {p : Program} {l : Launch} {e : Env} {s : State} {m : MethodId} {args : Array Value} {below : List Frame} {meth : Method} {c : Code} {D : va_G} {ad kd sd vd xd : Nat → Nat} {ca : Nat → ClassId} {A : Nat → Prop} {Q : State → Prop} (hE : o_EK E kd sd vd xd) (C : o_Cx E p s m args meth c D o_cls (o_tys ca) "SchemaJudge$Text" b_Tx_wholeNumber (some .int) 4 cc_Tx_wholeNumber A) (hDD : ∀ (rt : Nat) (Sj : SSJ) (T0 : STx) (T1 : STx) (Rd : SRd) (Pg : SPg) (Pt : SPt) (Mk : SMk) (Lk : SLk) (Ck : SCk) (Jd : SJd) (Ld : SLd) (Pr : SPr), va_D A (o_cw ad ca rt Sj T0 T1 Rd Pg Pt Mk Lk Ck Jd Ld Pr)) (n : Nat) (u47_x1 : Int32) (u47_a0 : STx) (u47_Sj : SSJ) (u47_T0 : STx) (u47_Rd : SRd) (u47_Pg : SPg) (u47_Pt : SPt) (u47_Mk : SMk) (u47_Lk : SLk) (u47_Ck : SCk) (u47_Jd : SJd) (u47_Ld : SLd) (u47_Pr : SPr) (u47_rt : Nat) (z : Int32 × Int32) (q : Nat × Int32 × Int32) (h : m_Tx_wholeNumber_b47 n u47_x1 u47_a0 z = some q) (h0 : q.1 = 0 → o_At p l e rm_Tx_wholeNumber s m args below meth c Q o_cls D A 4 47 [] (o_cw ad ca u47_rt u47_Sj u47_T0 u47_a0 u47_Rd u47_Pg u47_Pt u47_Mk u47_Lk u47_Ck u47_Jd u47_Ld u47_Pr) [(0, .ref (ad 12)), (1, .int u47_x1), (2, .int q.2.1), (3, .int q.2.2)]) (h1 : q.1 ≠ 0 → (o_At p l e rm_Tx_wholeNumber s m args below meth c Q o_cls D A 4 80 [] (o_cw ad ca u47_rt u47_Sj u47_T0 u47_a0 u47_Rd u47_Pg u47_Pt u47_Mk u47_Lk u47_Ck u47_Jd u47_Ld u47_Pr) [(2, .int q.2.1)])) : o_At p l e rm_Tx_wholeNumber s m args below meth c Q o_cls D A 4 47 [] (o_cw ad ca u47_rt u47_Sj u47_T0 u47_a0 u47_Rd u47_Pg u47_Pt u47_Mk u47_Lk u47_Ck u47_Jd u47_Ld u47_Pr) [(0, .ref (ad 12)), (1, .int u47_x1), (2, .int z.1), (3, .int z.2)] := by
  unfold m_Tx_wholeNumber_b47 at h
  intro H locs ls hP hS hl
  have C0 := C
  obtain ⟨hx, hb, -, -, -, hown, hts, hK, -, -⟩ := C0
  refine lv_iload_n hx hb d_Tx_wholeNumber_47 rfl (lv_at hl 3 rfl) ?_
  refine lv_aload_n hx hb d_Tx_wholeNumber_48 rfl (lv_at hl 0 rfl) ?_
  refine lv_iload_n hx hb d_Tx_wholeNumber_49 rfl (lv_at hl 1 rfl) ?_
  obtain ⟨q6, hq6, h⟩ := o_bd_some h
  refine o_V (st1 := [.int q6, .int z.2]) (w1 := (o_cw ad ca u47_rt u47_Sj u47_T0 u47_a0 u47_Rd u47_Pg u47_Pt u47_Mk u47_Lk u47_Ck u47_Jd u47_Ld u47_Pr)) hE.1 C (c_Tx_size_1 hE l u47_x1 u47_a0 u47_Sj u47_T0 u47_Rd u47_Pg u47_Pt u47_Mk u47_Lk u47_Ck u47_Jd u47_Ld u47_Pr u47_rt hq6) hP (hDD _ _ _ _ _ _ _ _ _ _ _ _ _) hS hl.1 rfl cw_12 k_3_214 k_3_215 k_3_216 k_1_2 k_3_217 hv_Tx_size rfl rfl ⟨(Nat.le_of_ble_eq_true rfl), (Nat.le_of_ble_eq_true rfl)⟩ rfl (Nat.le_of_ble_eq_true rfl) ⟨Nat.zero_le _, Nat.zero_le _⟩ rfl d_Tx_wholeNumber_50 (fun H locs hP hS => ?_)
  refine lv_aload_n hx hb d_Tx_wholeNumber_53 rfl (lv_at hl 0 rfl) ?_
  refine lv_iload_n hx hb d_Tx_wholeNumber_54 rfl (lv_at hl 1 rfl) ?_
  obtain ⟨q7, hq7, h⟩ := o_bd_some h
  refine o_V (st1 := [.int q7, .int q6, .int z.2]) (w1 := (o_cw ad ca u47_rt u47_Sj u47_T0 u47_a0 u47_Rd u47_Pg u47_Pt u47_Mk u47_Lk u47_Ck u47_Jd u47_Ld u47_Pr)) hE.1 C (c_Tx_exponent_1 hE l u47_x1 u47_a0 u47_Sj u47_T0 u47_Rd u47_Pg u47_Pt u47_Mk u47_Lk u47_Ck u47_Jd u47_Ld u47_Pr u47_rt hq7) hP (hDD _ _ _ _ _ _ _ _ _ _ _ _ _) hS hl.1 rfl cw_12 k_5_66 k_5_67 k_5_68 k_1_2 k_5_69 hv_Tx_exponent rfl rfl ⟨(Nat.le_of_ble_eq_true rfl), (Nat.le_of_ble_eq_true rfl)⟩ rfl (Nat.le_of_ble_eq_true rfl) ⟨Nat.zero_le _, Nat.zero_le _⟩ rfl d_Tx_wholeNumber_55 (fun H locs hP hS => ?_)
  refine lv_iadd hx hb d_Tx_wholeNumber_58 ?_
  refine lv_icmp_ge (tgt := 80) hx hb d_Tx_wholeNumber_59 (by decide) (fun c5 => ?_) (fun c5 => ?_)
  · replace h := o_tt c5 h
    cases h
    exact h1 (Nat.succ_ne_zero 0) _ _ _ hP hS (lv_sub hl [2] rfl)
  · replace h := o_ff c5 h
    refine lv_iload_n hx hb d_Tx_wholeNumber_62 rfl (lv_at hl 2 rfl) ?_
    refine lv_bipush (v := (10:Int32)) hx hb d_Tx_wholeNumber_63 (by decide) ?_
    refine lv_imul hx hb d_Tx_wholeNumber_65 ?_
    refine lv_aload_n hx hb d_Tx_wholeNumber_66 rfl (lv_at hl 0 rfl) ?_
    refine lv_iload_n hx hb d_Tx_wholeNumber_67 rfl (lv_at hl 1 rfl) ?_
    refine lv_iload_n hx hb d_Tx_wholeNumber_68 rfl (lv_at hl 3 rfl) ?_
    obtain ⟨q8, hq8, h⟩ := o_bd_some h
    refine o_V (st1 := [.int q8, .int (z.1 * (10:Int32))]) (w1 := (o_cw ad ca u47_rt u47_Sj u47_T0 u47_a0 u47_Rd u47_Pg u47_Pt u47_Mk u47_Lk u47_Ck u47_Jd u47_Ld u47_Pr)) hE.1 C (c_Tx_cell_1 hE l u47_x1 z.2 u47_a0 u47_Sj u47_T0 u47_Rd u47_Pg u47_Pt u47_Mk u47_Lk u47_Ck u47_Jd u47_Ld u47_Pr u47_rt hq8) hP (hDD _ _ _ _ _ _ _ _ _ _ _ _ _) hS hl.1 rfl cw_12 k_5_70 k_4_117 k_4_118 k_1_2 k_4_119 hv_Tx_cell rfl rfl ⟨(Nat.le_of_ble_eq_true rfl), (Nat.le_of_ble_eq_true rfl)⟩ rfl (Nat.le_of_ble_eq_true rfl) ⟨Nat.zero_le _, Nat.zero_le _⟩ rfl d_Tx_wholeNumber_69 (fun H locs hP hS => ?_)
    refine lv_iadd hx hb d_Tx_wholeNumber_72 ?_
    refine lv_topi (fun x2_73 ex2_73 => ?_)
    replace h := o_nm_at ex2_73 h
    refine lv_istore_n (lv' := [(2, .int x2_73), (0, .ref (ad 12)), (1, .int u47_x1), (3, .int z.2)]) hx hb d_Tx_wholeNumber_73 rfl hl (by decide) rfl (fun ls hl => ?_)
    obtain ⟨x3_74, ex3_74⟩ : ∃ y : Int32, y = z.2 + (1:Int32) := ⟨_, rfl⟩
    replace h := o_nm_at ex3_74 h
    refine lv_iinc (v := x3_74) (lv' := [(3, .int x3_74), (2, .int x2_73), (0, .ref (ad 12)), (1, .int u47_x1)]) hx hb d_Tx_wholeNumber_74 hl (k := 3) rfl (by rw [ex3_74]; rfl) (by decide) rfl (fun ls hl => ?_)
    refine lv_goto (tgt := 47) hx hb d_Tx_wholeNumber_77 (by decide) ?_
    cases h
    exact h0 rfl _ _ _ hP hS (lv_sub hl [2, 3, 1, 0] rfl)
set_option maxHeartbeats 4000000 in
set_option maxRecDepth 100000 in
theorem c_Tx_wholeNumber_1 {E : (Nat → Prop) → State → Heap → Prop} {D : va_G} {ad kd sd vd xd : Nat → Nat} {ca : Nat → ClassId} (hE : o_EK E kd sd vd xd) (l : Launch) (n : Nat) (x1 : Int32) (a0 : STx) (Sj : SSJ) (T0 : STx) (Rd : SRd) (Pg : SPg) (Pt : SPt) (Mk : SMk) (Lk : SLk) (Ck : SCk) (Jd : SJd) (Ld : SLd) (Pr : SPr) (rt : Nat) {r : Int32} (h : m_Tx_wholeNumber n x1 a0 = some r) : o_Cn E l D o_cls (o_tys ca) y_Tx_wholeNumber cc_Tx_wholeNumber rm_Tx_wholeNumber [.ref (ad 12), .int x1] (o_cw ad ca rt Sj T0 a0 Rd Pg Pt Mk Lk Ck Jd Ld Pr) (o_cw ad ca rt Sj T0 a0 Rd Pg Pt Mk Lk Ck Jd Ld Pr) (some (.int r)) := by
  refine o_Cn_of (by decide) (Nat.le_of_ble_eq_true rfl) ?_
  intro p e s m below meth c A ls C hD hP hS hl
  have hDD : ∀ (rt : Nat) (Sj : SSJ) (T0 : STx) (T1 : STx) (Rd : SRd) (Pg : SPg) (Pt : SPt) (Mk : SMk) (Lk : SLk) (Ck : SCk) (Jd : SJd) (Ld : SLd) (Pr : SPr), va_D A (o_cw ad ca rt Sj T0 T1 Rd Pg Pt Mk Lk Ck Jd Ld Pr) := fun _ _ _ _ _ _ _ _ _ _ _ _ _ => o_D_map hD rfl
  have hl : lv_has ls 4 [(0, .ref (ad 12)), (1, .int x1)] := hl
  unfold m_Tx_wholeNumber at h
  have C0 := C
  obtain ⟨hx, hb, -, -, -, hown, hts, hK, -, -⟩ := C0
  refine lv_aload_n hx hb d_Tx_wholeNumber_0 rfl (lv_at hl 0 rfl) ?_
  refine lv_iload_n hx hb d_Tx_wholeNumber_1 rfl (lv_at hl 1 rfl) ?_
  obtain ⟨q1, hq1, h⟩ := o_bd_some h
  refine o_V (st1 := [.int q1]) (w1 := (o_cw ad ca rt Sj T0 a0 Rd Pg Pt Mk Lk Ck Jd Ld Pr)) hE.1 C (c_Tx_kind_1 hE l x1 a0 Sj T0 Rd Pg Pt Mk Lk Ck Jd Ld Pr rt hq1) hP (hDD _ _ _ _ _ _ _ _ _ _ _ _ _) hS hl.1 rfl cw_12 k_5_64 k_4_50 k_4_51 k_1_2 k_4_52 hv_Tx_kind rfl rfl ⟨(Nat.le_of_ble_eq_true rfl), (Nat.le_of_ble_eq_true rfl)⟩ rfl (Nat.le_of_ble_eq_true rfl) ⟨Nat.zero_le _, Nat.zero_le _⟩ rfl d_Tx_wholeNumber_2 (fun H locs hP hS => ?_)
  refine lv_iconst (v := (3:Int32)) hx hb d_Tx_wholeNumber_5 (by decide) ?_
  refine lv_icmp_ne (tgt := 41) hx hb d_Tx_wholeNumber_6 (by decide) (fun c1 => ?_) (fun c1 => ?_)
  · replace h := o_ff c1 h
    refine lv_iconst (v := (-1:Int32)) hx hb d_Tx_wholeNumber_41 (by decide) ?_
    cases h
    exact o_ri (v := (-1:Int32)) C hP hS d_Tx_wholeNumber_42
  · replace h := o_tt c1 h
    refine lv_aload_n hx hb d_Tx_wholeNumber_9 rfl (lv_at hl 0 rfl) ?_
    refine lv_iload_n hx hb d_Tx_wholeNumber_10 rfl (lv_at hl 1 rfl) ?_
    obtain ⟨q2, hq2, h⟩ := o_bd_some h
    refine o_V (st1 := [.int q2]) (w1 := (o_cw ad ca rt Sj T0 a0 Rd Pg Pt Mk Lk Ck Jd Ld Pr)) hE.1 C (c_Tx_sign_1 hE l x1 a0 Sj T0 Rd Pg Pt Mk Lk Ck Jd Ld Pr rt hq2) hP (hDD _ _ _ _ _ _ _ _ _ _ _ _ _) hS hl.1 rfl cw_12 k_5_65 k_5_57 k_5_58 k_1_2 k_5_59 hv_Tx_sign rfl rfl ⟨(Nat.le_of_ble_eq_true rfl), (Nat.le_of_ble_eq_true rfl)⟩ rfl (Nat.le_of_ble_eq_true rfl) ⟨Nat.zero_le _, Nat.zero_le _⟩ rfl d_Tx_wholeNumber_11 (fun H locs hP hS => ?_)
    refine lv_if_lt (tgt := 41) hx hb d_Tx_wholeNumber_14 (by decide) (fun c2 => ?_) (fun c2 => ?_)
    · replace h := o_tt c2 h
      refine lv_iconst (v := (-1:Int32)) hx hb d_Tx_wholeNumber_41 (by decide) ?_
      cases h
      exact o_ri (v := (-1:Int32)) C hP hS d_Tx_wholeNumber_42
    · replace h := o_ff c2 h
      refine lv_aload_n hx hb d_Tx_wholeNumber_17 rfl (lv_at hl 0 rfl) ?_
      refine lv_iload_n hx hb d_Tx_wholeNumber_18 rfl (lv_at hl 1 rfl) ?_
      obtain ⟨q3, hq3, h⟩ := o_bd_some h
      refine o_V (st1 := [.int q3]) (w1 := (o_cw ad ca rt Sj T0 a0 Rd Pg Pt Mk Lk Ck Jd Ld Pr)) hE.1 C (c_Tx_exponent_1 hE l x1 a0 Sj T0 Rd Pg Pt Mk Lk Ck Jd Ld Pr rt hq3) hP (hDD _ _ _ _ _ _ _ _ _ _ _ _ _) hS hl.1 rfl cw_12 k_5_66 k_5_67 k_5_68 k_1_2 k_5_69 hv_Tx_exponent rfl rfl ⟨(Nat.le_of_ble_eq_true rfl), (Nat.le_of_ble_eq_true rfl)⟩ rfl (Nat.le_of_ble_eq_true rfl) ⟨Nat.zero_le _, Nat.zero_le _⟩ rfl d_Tx_wholeNumber_19 (fun H locs hP hS => ?_)
      refine lv_if_lt (tgt := 41) hx hb d_Tx_wholeNumber_22 (by decide) (fun c3 => ?_) (fun c3 => ?_)
      · replace h := o_tt c3 h
        refine lv_iconst (v := (-1:Int32)) hx hb d_Tx_wholeNumber_41 (by decide) ?_
        cases h
        exact o_ri (v := (-1:Int32)) C hP hS d_Tx_wholeNumber_42
      · replace h := o_ff c3 h
        refine lv_aload_n hx hb d_Tx_wholeNumber_25 rfl (lv_at hl 0 rfl) ?_
        refine lv_iload_n hx hb d_Tx_wholeNumber_26 rfl (lv_at hl 1 rfl) ?_
        obtain ⟨q4, hq4, h⟩ := o_bd_some h
        refine o_V (st1 := [.int q4]) (w1 := (o_cw ad ca rt Sj T0 a0 Rd Pg Pt Mk Lk Ck Jd Ld Pr)) hE.1 C (c_Tx_size_1 hE l x1 a0 Sj T0 Rd Pg Pt Mk Lk Ck Jd Ld Pr rt hq4) hP (hDD _ _ _ _ _ _ _ _ _ _ _ _ _) hS hl.1 rfl cw_12 k_3_214 k_3_215 k_3_216 k_1_2 k_3_217 hv_Tx_size rfl rfl ⟨(Nat.le_of_ble_eq_true rfl), (Nat.le_of_ble_eq_true rfl)⟩ rfl (Nat.le_of_ble_eq_true rfl) ⟨Nat.zero_le _, Nat.zero_le _⟩ rfl d_Tx_wholeNumber_27 (fun H locs hP hS => ?_)
        refine lv_aload_n hx hb d_Tx_wholeNumber_30 rfl (lv_at hl 0 rfl) ?_
        refine lv_iload_n hx hb d_Tx_wholeNumber_31 rfl (lv_at hl 1 rfl) ?_
        obtain ⟨q5, hq5, h⟩ := o_bd_some h
        refine o_V (st1 := [.int q5, .int q4]) (w1 := (o_cw ad ca rt Sj T0 a0 Rd Pg Pt Mk Lk Ck Jd Ld Pr)) hE.1 C (c_Tx_exponent_1 hE l x1 a0 Sj T0 Rd Pg Pt Mk Lk Ck Jd Ld Pr rt hq5) hP (hDD _ _ _ _ _ _ _ _ _ _ _ _ _) hS hl.1 rfl cw_12 k_5_66 k_5_67 k_5_68 k_1_2 k_5_69 hv_Tx_exponent rfl rfl ⟨(Nat.le_of_ble_eq_true rfl), (Nat.le_of_ble_eq_true rfl)⟩ rfl (Nat.le_of_ble_eq_true rfl) ⟨Nat.zero_le _, Nat.zero_le _⟩ rfl d_Tx_wholeNumber_32 (fun H locs hP hS => ?_)
        refine lv_iadd hx hb d_Tx_wholeNumber_35 ?_
        refine lv_bipush (v := (7:Int32)) hx hb d_Tx_wholeNumber_36 (by decide) ?_
        refine lv_icmp_le (tgt := 43) hx hb d_Tx_wholeNumber_38 (by decide) (fun c4 => ?_) (fun c4 => ?_)
        · replace h := o_tt c4 h
          refine lv_iconst (v := (0:Int32)) hx hb d_Tx_wholeNumber_43 (by decide) ?_
          refine lv_istore_n (lv' := [(2, .int (0:Int32)), (0, .ref (ad 12)), (1, .int x1)]) hx hb d_Tx_wholeNumber_44 rfl hl (by decide) rfl (fun ls hl => ?_)
          refine lv_iconst (v := (0:Int32)) hx hb d_Tx_wholeNumber_45 (by decide) ?_
          refine lv_istore_n (lv' := [(3, .int (0:Int32)), (2, .int (0:Int32)), (0, .ref (ad 12)), (1, .int x1)]) hx hb d_Tx_wholeNumber_46 rfl hl (by decide) rfl (fun ls hl => ?_)
          obtain ⟨q9, hq9, h⟩ := o_bd_some h
          refine o_sim2 (AH := fun zz => o_At p l e rm_Tx_wholeNumber s m _ below meth c _ o_cls D A 4 47 [] (o_cw ad ca rt Sj T0 a0 Rd Pg Pt Mk Lk Ck Jd Ld Pr) [(0, .ref (ad 12)), (1, .int x1), (2, .int zz.1), (3, .int zz.2)]) (AX := fun qq => o_At p l e rm_Tx_wholeNumber s m _ below meth c _ o_cls D A 4 80 [] (o_cw ad ca rt Sj T0 a0 Rd Pg Pt Mk Lk Ck Jd Ld Pr) [(2, .int qq.2.1)]) (fun zz qq h h0 h1 => w_Tx_wholeNumber_b47_1 hE C hDD n x1 a0 Sj T0 Rd Pg Pt Mk Lk Ck Jd Ld Pr rt zz qq h h0 h1) n _ q9 hq9 ?_ _ _ _ hP hS (lv_sub hl [2, 3, 1, 0] rfl)
          intro H locs ls hP hS hl
          refine lv_iload_n hx hb d_Tx_wholeNumber_80 rfl (lv_at hl 0 rfl) ?_
          refine lv_ldc (v := (1000000:Int32)) hx hb hown (hts _ k_5_71) d_Tx_wholeNumber_81 ?_
          refine lv_icmp_le (tgt := 90) hx hb d_Tx_wholeNumber_83 (by decide) (fun c6 => ?_) (fun c6 => ?_)
          · replace h := o_tt c6 h
            refine lv_iload_n hx hb d_Tx_wholeNumber_90 rfl (lv_at hl 0 rfl) ?_
            cases h
            exact o_ri C hP hS d_Tx_wholeNumber_91
          · replace h := o_ff c6 h
            refine lv_iconst (v := (-1:Int32)) hx hb d_Tx_wholeNumber_86 (by decide) ?_
            refine lv_goto (tgt := 91) hx hb d_Tx_wholeNumber_87 (by decide) ?_
            cases h
            exact o_ri (v := (-1:Int32)) C hP hS d_Tx_wholeNumber_91
        · replace h := o_ff c4 h
          refine lv_iconst (v := (-1:Int32)) hx hb d_Tx_wholeNumber_41 (by decide) ?_
          cases h
          exact o_ri (v := (-1:Int32)) C hP hS d_Tx_wholeNumber_42
set_option maxHeartbeats 4000000 in
set_option maxRecDepth 100000 in
theorem c_Tx_slot_1 {E : (Nat → Prop) → State → Heap → Prop} {D : va_G} {ad kd sd vd xd : Nat → Nat} {ca : Nat → ClassId} (hE : o_EK E kd sd vd xd) (l : Launch) (x1 : Int32) (a0 : STx) (Sj : SSJ) (T0 : STx) (Rd : SRd) (Pg : SPg) (Pt : SPt) (Mk : SMk) (Lk : SLk) (Ck : SCk) (Jd : SJd) (Ld : SLd) (Pr : SPr) (rt : Nat) {r : Int32} (h : m_Tx_slot x1 a0 = some r) : o_Cn E l D o_cls (o_tys ca) y_Tx_slot cc_Tx_slot rm_Tx_slot [.ref (ad 12), .int x1] (o_cw ad ca rt Sj T0 a0 Rd Pg Pt Mk Lk Ck Jd Ld Pr) (o_cw ad ca rt Sj T0 a0 Rd Pg Pt Mk Lk Ck Jd Ld Pr) (some (.int r)) := by
  refine o_Cn_of (by decide) (Nat.le_of_ble_eq_true rfl) ?_
  intro p e s m below meth c A ls C hD hP hS hl
  have hDD : ∀ (rt : Nat) (Sj : SSJ) (T0 : STx) (T1 : STx) (Rd : SRd) (Pg : SPg) (Pt : SPt) (Mk : SMk) (Lk : SLk) (Ck : SCk) (Jd : SJd) (Ld : SLd) (Pr : SPr), va_D A (o_cw ad ca rt Sj T0 T1 Rd Pg Pt Mk Lk Ck Jd Ld Pr) := fun _ _ _ _ _ _ _ _ _ _ _ _ _ => o_D_map hD rfl
  have hl : lv_has ls 2 [(0, .ref (ad 12)), (1, .int x1)] := hl
  unfold m_Tx_slot at h
  have C0 := C
  obtain ⟨hx, hb, -, -, -, hown, hts, hK, -, -⟩ := C0
  refine lv_iload_n hx hb d_Tx_slot_0 rfl (lv_at hl 1 rfl) ?_
  refine lv_if_lt (tgt := 21) hx hb d_Tx_slot_1 (by decide) (fun c1 => ?_) (fun c1 => ?_)
  · replace h := o_tt c1 h
    refine lv_iconst (v := (0:Int32)) hx hb d_Tx_slot_21 (by decide) ?_
    cases h
    exact o_ri (v := (0:Int32)) C hP hS d_Tx_slot_22
  · replace h := o_ff c1 h
    refine lv_iload_n hx hb d_Tx_slot_4 rfl (lv_at hl 1 rfl) ?_
    refine lv_aload_n hx hb d_Tx_slot_5 rfl (lv_at hl 0 rfl) ?_
    refine o_get (v := .int (Tx_total a0)) C in_Tx hP 12 cw_12 rfl 10 (by decide) k_1_56 rfl rfl d_Tx_slot_6 ?_
    refine lv_icmp_ge (tgt := 21) hx hb d_Tx_slot_9 (by decide) (fun c2 => ?_) (fun c2 => ?_)
    · replace h := o_tt c2 h
      refine lv_iconst (v := (0:Int32)) hx hb d_Tx_slot_21 (by decide) ?_
      cases h
      exact o_ri (v := (0:Int32)) C hP hS d_Tx_slot_22
    · replace h := o_ff c2 h
      refine lv_aload_n hx hb d_Tx_slot_12 rfl (lv_at hl 0 rfl) ?_
      refine o_get (v := .ref (ad 20)) C in_Tx hP 12 cw_12 rfl 7 (by decide) k_1_53 rfl rfl d_Tx_slot_13 ?_
      refine lv_iload_n hx hb d_Tx_slot_16 rfl (lv_at hl 1 rfl) ?_
      obtain ⟨g3, h⟩ := o_gd_some h
      refine o_iald (f := (Tx_slots a0)) C hP 20 17 cw_20 rfl g3 d_Tx_slot_17 ?_
      refine lv_goto (tgt := 22) hx hb d_Tx_slot_18 (by decide) ?_
      cases h
      exact o_ri (v := ((Tx_slots a0) x1.toNatClampNeg)) C hP hS d_Tx_slot_22
set_option maxHeartbeats 4000000 in
set_option maxRecDepth 100000 in
theorem c_Tx_parent_1 {E : (Nat → Prop) → State → Heap → Prop} {D : va_G} {ad kd sd vd xd : Nat → Nat} {ca : Nat → ClassId} (hE : o_EK E kd sd vd xd) (l : Launch) (x1 : Int32) (a0 : STx) (Sj : SSJ) (T0 : STx) (Rd : SRd) (Pg : SPg) (Pt : SPt) (Mk : SMk) (Lk : SLk) (Ck : SCk) (Jd : SJd) (Ld : SLd) (Pr : SPr) (rt : Nat) {r : Int32} (h : m_Tx_parent x1 a0 = some r) : o_Cn E l D o_cls (o_tys ca) y_Tx_parent cc_Tx_parent rm_Tx_parent [.ref (ad 12), .int x1] (o_cw ad ca rt Sj T0 a0 Rd Pg Pt Mk Lk Ck Jd Ld Pr) (o_cw ad ca rt Sj T0 a0 Rd Pg Pt Mk Lk Ck Jd Ld Pr) (some (.int r)) := by
  refine o_Cn_of (by decide) (Nat.le_of_ble_eq_true rfl) ?_
  intro p e s m below meth c A ls C hD hP hS hl
  have hDD : ∀ (rt : Nat) (Sj : SSJ) (T0 : STx) (T1 : STx) (Rd : SRd) (Pg : SPg) (Pt : SPt) (Mk : SMk) (Lk : SLk) (Ck : SCk) (Jd : SJd) (Ld : SLd) (Pr : SPr), va_D A (o_cw ad ca rt Sj T0 T1 Rd Pg Pt Mk Lk Ck Jd Ld Pr) := fun _ _ _ _ _ _ _ _ _ _ _ _ _ => o_D_map hD rfl
  have hl : lv_has ls 2 [(0, .ref (ad 12)), (1, .int x1)] := hl
  unfold m_Tx_parent at h
  have C0 := C
  obtain ⟨hx, hb, -, -, -, hown, hts, hK, -, -⟩ := C0
  refine lv_iload_n hx hb d_Tx_parent_0 rfl (lv_at hl 1 rfl) ?_
  refine lv_if_lt (tgt := 21) hx hb d_Tx_parent_1 (by decide) (fun c1 => ?_) (fun c1 => ?_)
  · replace h := o_tt c1 h
    refine lv_iconst (v := (-1:Int32)) hx hb d_Tx_parent_21 (by decide) ?_
    cases h
    exact o_ri (v := (-1:Int32)) C hP hS d_Tx_parent_22
  · replace h := o_ff c1 h
    refine lv_iload_n hx hb d_Tx_parent_4 rfl (lv_at hl 1 rfl) ?_
    refine lv_aload_n hx hb d_Tx_parent_5 rfl (lv_at hl 0 rfl) ?_
    refine o_get (v := .int (Tx_total a0)) C in_Tx hP 12 cw_12 rfl 10 (by decide) k_1_56 rfl rfl d_Tx_parent_6 ?_
    refine lv_icmp_ge (tgt := 21) hx hb d_Tx_parent_9 (by decide) (fun c2 => ?_) (fun c2 => ?_)
    · replace h := o_tt c2 h
      refine lv_iconst (v := (-1:Int32)) hx hb d_Tx_parent_21 (by decide) ?_
      cases h
      exact o_ri (v := (-1:Int32)) C hP hS d_Tx_parent_22
    · replace h := o_ff c2 h
      refine lv_aload_n hx hb d_Tx_parent_12 rfl (lv_at hl 0 rfl) ?_
      refine o_get (v := .ref (ad 16)) C in_Tx hP 12 cw_12 rfl 3 (by decide) k_1_49 rfl rfl d_Tx_parent_13 ?_
      refine lv_iload_n hx hb d_Tx_parent_16 rfl (lv_at hl 1 rfl) ?_
      obtain ⟨g3, h⟩ := o_gd_some h
      refine o_iald (f := (Tx_parents a0)) C hP 16 13 cw_16 rfl g3 d_Tx_parent_17 ?_
      refine lv_goto (tgt := 22) hx hb d_Tx_parent_18 (by decide) ?_
      cases h
      exact o_ri (v := ((Tx_parents a0) x1.toNatClampNeg)) C hP hS d_Tx_parent_22
set_option maxHeartbeats 4000000 in
set_option maxRecDepth 100000 in
theorem c_Tx_has_0 {E : (Nat → Prop) → State → Heap → Prop} {D : va_G} {ad kd sd vd xd : Nat → Nat} {ca : Nat → ClassId} (hE : o_EK E kd sd vd xd) (l : Launch) (x1 : Int32) (a0 : STx) (Sj : SSJ) (T1 : STx) (Rd : SRd) (Pg : SPg) (Pt : SPt) (Mk : SMk) (Lk : SLk) (Ck : SCk) (Jd : SJd) (Ld : SLd) (Pr : SPr) (rt : Nat) {r : Int32} (h : m_Tx_has x1 a0 = some r) : o_Cn E l D o_cls (o_tys ca) y_Tx_has cc_Tx_has rm_Tx_has [.ref (ad 1), .int x1] (o_cw ad ca rt Sj a0 T1 Rd Pg Pt Mk Lk Ck Jd Ld Pr) (o_cw ad ca rt Sj a0 T1 Rd Pg Pt Mk Lk Ck Jd Ld Pr) (some (.int r)) := by
  refine o_Cn_of (by decide) (Nat.le_of_ble_eq_true rfl) ?_
  intro p e s m below meth c A ls C hD hP hS hl
  have hDD : ∀ (rt : Nat) (Sj : SSJ) (T0 : STx) (T1 : STx) (Rd : SRd) (Pg : SPg) (Pt : SPt) (Mk : SMk) (Lk : SLk) (Ck : SCk) (Jd : SJd) (Ld : SLd) (Pr : SPr), va_D A (o_cw ad ca rt Sj T0 T1 Rd Pg Pt Mk Lk Ck Jd Ld Pr) := fun _ _ _ _ _ _ _ _ _ _ _ _ _ => o_D_map hD rfl
  have hl : lv_has ls 2 [(0, .ref (ad 1)), (1, .int x1)] := hl
  unfold m_Tx_has at h
  have C0 := C
  obtain ⟨hx, hb, -, -, -, hown, hts, hK, -, -⟩ := C0
  refine lv_iload_n hx hb d_Tx_has_0 rfl (lv_at hl 1 rfl) ?_
  refine lv_if_lt (tgt := 16) hx hb d_Tx_has_1 (by decide) (fun c1 => ?_) (fun c1 => ?_)
  · replace h := o_tt c1 h
    refine lv_iconst (v := (0:Int32)) hx hb d_Tx_has_16 (by decide) ?_
    cases h
    exact o_rz (v := (0:Int32)) C o_nar0 hP hS d_Tx_has_17
  · replace h := o_ff c1 h
    refine lv_iload_n hx hb d_Tx_has_4 rfl (lv_at hl 1 rfl) ?_
    refine lv_aload_n hx hb d_Tx_has_5 rfl (lv_at hl 0 rfl) ?_
    refine o_get (v := .int (Tx_total a0)) C in_Tx hP 1 cw_1 rfl 10 (by decide) k_1_56 rfl rfl d_Tx_has_6 ?_
    refine lv_icmp_ge (tgt := 16) hx hb d_Tx_has_9 (by decide) (fun c2 => ?_) (fun c2 => ?_)
    · replace h := o_tt c2 h
      refine lv_iconst (v := (0:Int32)) hx hb d_Tx_has_16 (by decide) ?_
      cases h
      exact o_rz (v := (0:Int32)) C o_nar0 hP hS d_Tx_has_17
    · replace h := o_ff c2 h
      refine lv_iconst (v := (1:Int32)) hx hb d_Tx_has_12 (by decide) ?_
      refine lv_goto (tgt := 17) hx hb d_Tx_has_13 (by decide) ?_
      cases h
      exact o_rz (v := (1:Int32)) C o_nar1 hP hS d_Tx_has_17
set_option maxHeartbeats 4000000 in
set_option maxRecDepth 100000 in
theorem c_Tx_has_1 {E : (Nat → Prop) → State → Heap → Prop} {D : va_G} {ad kd sd vd xd : Nat → Nat} {ca : Nat → ClassId} (hE : o_EK E kd sd vd xd) (l : Launch) (x1 : Int32) (a0 : STx) (Sj : SSJ) (T0 : STx) (Rd : SRd) (Pg : SPg) (Pt : SPt) (Mk : SMk) (Lk : SLk) (Ck : SCk) (Jd : SJd) (Ld : SLd) (Pr : SPr) (rt : Nat) {r : Int32} (h : m_Tx_has x1 a0 = some r) : o_Cn E l D o_cls (o_tys ca) y_Tx_has cc_Tx_has rm_Tx_has [.ref (ad 12), .int x1] (o_cw ad ca rt Sj T0 a0 Rd Pg Pt Mk Lk Ck Jd Ld Pr) (o_cw ad ca rt Sj T0 a0 Rd Pg Pt Mk Lk Ck Jd Ld Pr) (some (.int r)) := by
  refine o_Cn_of (by decide) (Nat.le_of_ble_eq_true rfl) ?_
  intro p e s m below meth c A ls C hD hP hS hl
  have hDD : ∀ (rt : Nat) (Sj : SSJ) (T0 : STx) (T1 : STx) (Rd : SRd) (Pg : SPg) (Pt : SPt) (Mk : SMk) (Lk : SLk) (Ck : SCk) (Jd : SJd) (Ld : SLd) (Pr : SPr), va_D A (o_cw ad ca rt Sj T0 T1 Rd Pg Pt Mk Lk Ck Jd Ld Pr) := fun _ _ _ _ _ _ _ _ _ _ _ _ _ => o_D_map hD rfl
  have hl : lv_has ls 2 [(0, .ref (ad 12)), (1, .int x1)] := hl
  unfold m_Tx_has at h
  have C0 := C
  obtain ⟨hx, hb, -, -, -, hown, hts, hK, -, -⟩ := C0
  refine lv_iload_n hx hb d_Tx_has_0 rfl (lv_at hl 1 rfl) ?_
  refine lv_if_lt (tgt := 16) hx hb d_Tx_has_1 (by decide) (fun c1 => ?_) (fun c1 => ?_)
  · replace h := o_tt c1 h
    refine lv_iconst (v := (0:Int32)) hx hb d_Tx_has_16 (by decide) ?_
    cases h
    exact o_rz (v := (0:Int32)) C o_nar0 hP hS d_Tx_has_17
  · replace h := o_ff c1 h
    refine lv_iload_n hx hb d_Tx_has_4 rfl (lv_at hl 1 rfl) ?_
    refine lv_aload_n hx hb d_Tx_has_5 rfl (lv_at hl 0 rfl) ?_
    refine o_get (v := .int (Tx_total a0)) C in_Tx hP 12 cw_12 rfl 10 (by decide) k_1_56 rfl rfl d_Tx_has_6 ?_
    refine lv_icmp_ge (tgt := 16) hx hb d_Tx_has_9 (by decide) (fun c2 => ?_) (fun c2 => ?_)
    · replace h := o_tt c2 h
      refine lv_iconst (v := (0:Int32)) hx hb d_Tx_has_16 (by decide) ?_
      cases h
      exact o_rz (v := (0:Int32)) C o_nar0 hP hS d_Tx_has_17
    · replace h := o_ff c2 h
      refine lv_iconst (v := (1:Int32)) hx hb d_Tx_has_12 (by decide) ?_
      refine lv_goto (tgt := 17) hx hb d_Tx_has_13 (by decide) ?_
      cases h
      exact o_rz (v := (1:Int32)) C o_nar1 hP hS d_Tx_has_17
