set_option maxHeartbeats 4000000 in
set_option maxRecDepth 100000 in
theorem w_Tx_nextChild_j22_1 {E : (Nat → Prop) → State → Heap → Prop} {p : Program} {l : Launch} {e : Env} {s : State} {m : MethodId} {args : Array Value} {below : List Frame} {meth : Method} {c : Code} {D : va_G} {ad kd sd : Nat → Nat} {ca : Nat → ClassId} {A : Nat → Prop} (hE : o_EK E kd sd) (C : o_Cx E p s m args meth c D o_cls (o_tys ca) "SchemaJudge$Text" b_Tx_nextChild (some .int) 3 cc_Tx_nextChild A) (hDD : ∀ (rt : Nat) (Sj : SSJ) (T0 : STx) (T1 : STx) (Rd : SRd) (Pg : SPg) (Pt : SPt) (Mk : SMk) (Lk : SLk) (Ck : SCk) (Jd : SJd) (Ld : SLd) (Pr : SPr), va_D A (o_cw ad ca rt Sj T0 T1 Rd Pg Pt Mk Lk Ck Jd Ld Pr)) (x1 : Int32) (y0 : Int32) (a0 : STx) (Sj : SSJ) (T0 : STx) (Rd : SRd) (Pg : SPg) (Pt : SPt) (Mk : SMk) (Lk : SLk) (Ck : SCk) (Jd : SJd) (Ld : SLd) (Pr : SPr) (rt : Nat) {r : Int32} (h : m_Tx_nextChild_j22 x1 y0 a0 = some r) : o_At p l e rm_Tx_nextChild s m args below meth c (MQ below (o_Qx D o_cls (some (.int r)) (o_cw ad ca rt Sj T0 a0 Rd Pg Pt Mk Lk Ck Jd Ld Pr) A) args s 0 0 A) o_cls D A 3 22 [.int y0] (o_cw ad ca rt Sj T0 a0 Rd Pg Pt Mk Lk Ck Jd Ld Pr) [(0, .ref (ad 12)), (1, .int x1)] := by
  unfold m_Tx_nextChild_j22 at h
  intro H locs ls hP hS hl
  have C0 := C
  obtain ⟨hx, hb, -, -, -, hown, hts, hK, -, -⟩ := C0
  refine lv_istore_n (lv' := [(2, .int y0), (0, .ref (ad 12)), (1, .int x1)]) hx hb d_Tx_nextChild_22 rfl hl (by decide) rfl (fun ls hl => ?_)
  refine lv_iload_n hx hb d_Tx_nextChild_23 rfl (lv_at hl 0 rfl) ?_
  refine lv_if_lt (tgt := 52) hx hb d_Tx_nextChild_24 (by decide) (fun c2 => ?_) (fun c2 => ?_)
  · replace h := o_tt c2 h
    refine lv_iconst (v := (-1:Int32)) hx hb d_Tx_nextChild_52 (by decide) ?_
    cases h
    exact o_ri (v := (-1:Int32)) C hP hS d_Tx_nextChild_53
  · replace h := o_ff c2 h
    refine lv_iload_n hx hb d_Tx_nextChild_27 rfl (lv_at hl 0 rfl) ?_
    refine lv_aload_n hx hb d_Tx_nextChild_28 rfl (lv_at hl 1 rfl) ?_
    refine o_get (v := .int (Tx_total a0)) C in_Tx hP 12 cw_12 rfl 10 (by decide) k_1_56 rfl rfl d_Tx_nextChild_29 ?_
    refine lv_icmp_ge (tgt := 52) hx hb d_Tx_nextChild_32 (by decide) (fun c3 => ?_) (fun c3 => ?_)
    · replace h := o_tt c3 h
      refine lv_iconst (v := (-1:Int32)) hx hb d_Tx_nextChild_52 (by decide) ?_
      cases h
      exact o_ri (v := (-1:Int32)) C hP hS d_Tx_nextChild_53
    · replace h := o_ff c3 h
      refine lv_aload_n hx hb d_Tx_nextChild_35 rfl (lv_at hl 1 rfl) ?_
      refine o_get (v := .ref (ad 20)) C in_Tx hP 12 cw_12 rfl 7 (by decide) k_1_53 rfl rfl d_Tx_nextChild_36 ?_
      refine lv_iload_n hx hb d_Tx_nextChild_39 rfl (lv_at hl 2 rfl) ?_
      obtain ⟨g4, h⟩ := o_gd_some h
      refine o_iald (f := (Tx_slots a0)) C hP 20 17 cw_20 rfl g4 d_Tx_nextChild_40 ?_
      refine lv_iconst (v := (1:Int32)) hx hb d_Tx_nextChild_41 (by decide) ?_
      refine lv_iadd hx hb d_Tx_nextChild_42 ?_
      refine lv_aload_n hx hb d_Tx_nextChild_43 rfl (lv_at hl 1 rfl) ?_
      refine o_get (v := .ref (ad 15)) C in_Tx hP 12 cw_12 rfl 2 (by decide) k_1_48 rfl rfl d_Tx_nextChild_44 ?_
      refine lv_iload_n hx hb d_Tx_nextChild_47 rfl (lv_at hl 0 rfl) ?_
      obtain ⟨g5, h⟩ := o_gd_some h
      refine o_iald (f := (Tx_sizes a0)) C hP 15 12 cw_15 rfl g5 d_Tx_nextChild_48 ?_
      refine lv_icmp_lt (tgt := 54) hx hb d_Tx_nextChild_49 (by decide) (fun c6 => ?_) (fun c6 => ?_)
      · replace h := o_tt c6 h
        refine lv_aload_n hx hb d_Tx_nextChild_54 rfl (lv_at hl 1 rfl) ?_
        refine o_get (v := .ref (ad 13)) C in_Tx hP 12 cw_12 rfl 0 (by decide) k_1_46 rfl rfl d_Tx_nextChild_55 ?_
        refine lv_iload_n hx hb d_Tx_nextChild_58 rfl (lv_at hl 0 rfl) ?_
        obtain ⟨g7, h⟩ := o_gd_some h
        refine o_iald (f := (Tx_kinds a0)) C hP 13 10 cw_13 rfl g7 d_Tx_nextChild_59 ?_
        refine lv_iconst (v := (5:Int32)) hx hb d_Tx_nextChild_60 (by decide) ?_
        refine lv_icmp_ne (tgt := 73) hx hb d_Tx_nextChild_61 (by decide) (fun c8 => ?_) (fun c8 => ?_)
        · replace h := o_ff c8 h
          refine lv_aload_n hx hb d_Tx_nextChild_73 rfl (lv_at hl 1 rfl) ?_
          refine o_get (v := .ref (ad 19)) C in_Tx hP 12 cw_12 rfl 6 (by decide) k_1_52 rfl rfl d_Tx_nextChild_74 ?_
          refine lv_iload_n hx hb d_Tx_nextChild_77 rfl (lv_at hl 2 rfl) ?_
          obtain ⟨g9, h⟩ := o_gd_some h
          refine o_iald (f := (Tx_afters a0)) C hP 19 16 cw_19 rfl g9 d_Tx_nextChild_78 ?_
          refine lv_iconst (v := (1:Int32)) hx hb d_Tx_nextChild_79 (by decide) ?_
          refine lv_iadd hx hb d_Tx_nextChild_80 ?_
          cases h
          exact o_ri (v := (((Tx_afters a0) x1.toNatClampNeg) + (1:Int32))) C hP hS d_Tx_nextChild_81
        · replace h := o_tt c8 h
          refine lv_aload_n hx hb d_Tx_nextChild_64 rfl (lv_at hl 1 rfl) ?_
          refine o_get (v := .ref (ad 19)) C in_Tx hP 12 cw_12 rfl 6 (by decide) k_1_52 rfl rfl d_Tx_nextChild_65 ?_
          refine lv_iload_n hx hb d_Tx_nextChild_68 rfl (lv_at hl 2 rfl) ?_
          obtain ⟨g10, h⟩ := o_gd_some h
          refine o_iald (f := (Tx_afters a0)) C hP 19 16 cw_19 rfl g10 d_Tx_nextChild_69 ?_
          refine lv_goto (tgt := 81) hx hb d_Tx_nextChild_70 (by decide) ?_
          cases h
          exact o_ri (v := ((Tx_afters a0) x1.toNatClampNeg)) C hP hS d_Tx_nextChild_81
      · replace h := o_ff c6 h
        refine lv_iconst (v := (-1:Int32)) hx hb d_Tx_nextChild_52 (by decide) ?_
        cases h
        exact o_ri (v := (-1:Int32)) C hP hS d_Tx_nextChild_53
set_option maxHeartbeats 4000000 in
set_option maxRecDepth 100000 in
theorem c_Tx_nextChild_1 {E : (Nat → Prop) → State → Heap → Prop} {D : va_G} {ad kd sd : Nat → Nat} {ca : Nat → ClassId} (hE : o_EK E kd sd) (l : Launch) (x1 : Int32) (a0 : STx) (Sj : SSJ) (T0 : STx) (Rd : SRd) (Pg : SPg) (Pt : SPt) (Mk : SMk) (Lk : SLk) (Ck : SCk) (Jd : SJd) (Ld : SLd) (Pr : SPr) (rt : Nat) {r : Int32} (h : m_Tx_nextChild x1 a0 = some r) : o_Cn E l D o_cls (o_tys ca) y_Tx_nextChild cc_Tx_nextChild rm_Tx_nextChild [.ref (ad 12), .int x1] (o_cw ad ca rt Sj T0 a0 Rd Pg Pt Mk Lk Ck Jd Ld Pr) (o_cw ad ca rt Sj T0 a0 Rd Pg Pt Mk Lk Ck Jd Ld Pr) (some (.int r)) := by
  refine o_Cn_of (by decide) (Nat.le_of_ble_eq_true rfl) ?_
  intro p e s m below meth c A ls C hD hP hS hl
  have hDD : ∀ (rt : Nat) (Sj : SSJ) (T0 : STx) (T1 : STx) (Rd : SRd) (Pg : SPg) (Pt : SPt) (Mk : SMk) (Lk : SLk) (Ck : SCk) (Jd : SJd) (Ld : SLd) (Pr : SPr), va_D A (o_cw ad ca rt Sj T0 T1 Rd Pg Pt Mk Lk Ck Jd Ld Pr) := fun _ _ _ _ _ _ _ _ _ _ _ _ _ => o_D_map hD rfl
  have hl : lv_has ls 3 [(0, .ref (ad 12)), (1, .int x1)] := hl
  unfold m_Tx_nextChild at h
  have C0 := C
  obtain ⟨hx, hb, -, -, -, hown, hts, hK, -, -⟩ := C0
  refine lv_iload_n hx hb d_Tx_nextChild_0 rfl (lv_at hl 1 rfl) ?_
  refine lv_if_lt (tgt := 21) hx hb d_Tx_nextChild_1 (by decide) (fun c1 => ?_) (fun c1 => ?_)
  · replace h := o_tt c1 h
    refine lv_iconst (v := (-1:Int32)) hx hb d_Tx_nextChild_21 (by decide) ?_
    exact w_Tx_nextChild_j22_1 hE C hDD x1 (-1:Int32) a0 Sj T0 Rd Pg Pt Mk Lk Ck Jd Ld Pr rt h _ _ _ hP hS (lv_sub hl [0, 1] rfl)
  · replace h := o_ff c1 h
    refine lv_iload_n hx hb d_Tx_nextChild_4 rfl (lv_at hl 1 rfl) ?_
    refine lv_aload_n hx hb d_Tx_nextChild_5 rfl (lv_at hl 0 rfl) ?_
    refine o_get (v := .int (Tx_total a0)) C in_Tx hP 12 cw_12 rfl 10 (by decide) k_1_56 rfl rfl d_Tx_nextChild_6 ?_
    refine lv_icmp_ge (tgt := 21) hx hb d_Tx_nextChild_9 (by decide) (fun c11 => ?_) (fun c11 => ?_)
    · replace h := o_tt c11 h
      refine lv_iconst (v := (-1:Int32)) hx hb d_Tx_nextChild_21 (by decide) ?_
      exact w_Tx_nextChild_j22_1 hE C hDD x1 (-1:Int32) a0 Sj T0 Rd Pg Pt Mk Lk Ck Jd Ld Pr rt h _ _ _ hP hS (lv_sub hl [0, 1] rfl)
    · replace h := o_ff c11 h
      refine lv_aload_n hx hb d_Tx_nextChild_12 rfl (lv_at hl 0 rfl) ?_
      refine o_get (v := .ref (ad 16)) C in_Tx hP 12 cw_12 rfl 3 (by decide) k_1_49 rfl rfl d_Tx_nextChild_13 ?_
      refine lv_iload_n hx hb d_Tx_nextChild_16 rfl (lv_at hl 1 rfl) ?_
      obtain ⟨g12, h⟩ := o_gd_some h
      refine o_iald (f := (Tx_parents a0)) C hP 16 13 cw_16 rfl g12 d_Tx_nextChild_17 ?_
      refine lv_goto (tgt := 22) hx hb d_Tx_nextChild_18 (by decide) ?_
      exact w_Tx_nextChild_j22_1 hE C hDD x1 ((Tx_parents a0) x1.toNatClampNeg) a0 Sj T0 Rd Pg Pt Mk Lk Ck Jd Ld Pr rt h _ _ _ hP hS (lv_sub hl [0, 1] rfl)
set_option maxHeartbeats 4000000 in
set_option maxRecDepth 100000 in
theorem w_Jd_named_j55 {E : (Nat → Prop) → State → Heap → Prop} {p : Program} {l : Launch} {e : Env} {s : State} {m : MethodId} {args : Array Value} {below : List Frame} {meth : Method} {c : Code} {D : va_G} {ad kd sd : Nat → Nat} {ca : Nat → ClassId} {A : Nat → Prop} {Q : State → Prop} (hE : o_EK E kd sd) (C : o_Cx E p s m args meth c D o_cls (o_tys ca) "SchemaJudge$Judge" b_Jd_named (some .long) 7 cc_Jd_named A) (hDD : ∀ (rt : Nat) (Sj : SSJ) (T0 : STx) (T1 : STx) (Rd : SRd) (Pg : SPg) (Pt : SPt) (Mk : SMk) (Lk : SLk) (Ck : SCk) (Jd : SJd) (Ld : SLd) (Pr : SPr), va_D A (o_cw ad ca rt Sj T0 T1 Rd Pg Pt Mk Lk Ck Jd Ld Pr)) (n : Nat) (u15_x1 : Int32) (u15_x2 : Int32) (u15_T0 : STx) (u15_T1 : STx) (u15_Sj : SSJ) (u15_Rd : SRd) (u15_Pg : SPg) (u15_Pt : SPt) (u15_Mk : SMk) (u15_Lk : SLk) (u15_Ck : SCk) (u15_Jd : SJd) (u15_Ld : SLd) (u15_Pr : SPr) (u15_rt : Nat) (x3 : Int64) (x5 : Int32) (x6 : Int32) {q : Nat × Int64 × Int32 × Int32} (h : m_Jd_named_j55 n u15_x1 u15_x2 x3 x5 x6 u15_T0 u15_T1 = some q) (h0 : q.1 = 0 → o_At p l e rm_Jd_named s m args below meth c Q o_cls D A 7 15 [] (o_cw ad ca u15_rt u15_Sj u15_T0 u15_T1 u15_Rd u15_Pg u15_Pt u15_Mk u15_Lk u15_Ck u15_Jd u15_Ld u15_Pr) [(0, .ref (ad 49)), (1, .int u15_x1), (2, .int u15_x2), (3, .long q.2.1), (5, .int q.2.2.1), (6, .int q.2.2.2)]) (h1 : q.1 ≠ 0 → (o_At p l e rm_Jd_named s m args below meth c Q o_cls D A 7 72 [] (o_cw ad ca u15_rt u15_Sj u15_T0 u15_T1 u15_Rd u15_Pg u15_Pt u15_Mk u15_Lk u15_Ck u15_Jd u15_Ld u15_Pr) [(3, .long q.2.1)])) : o_At p l e rm_Jd_named s m args below meth c Q o_cls D A 7 55 [] (o_cw ad ca u15_rt u15_Sj u15_T0 u15_T1 u15_Rd u15_Pg u15_Pt u15_Mk u15_Lk u15_Ck u15_Jd u15_Ld u15_Pr) [(0, .ref (ad 49)), (1, .int u15_x1), (2, .int u15_x2), (3, .long x3), (5, .int x5), (6, .int x6)] := by
  unfold m_Jd_named_j55 at h
  intro H locs ls hP hS hl
  have C0 := C
  obtain ⟨hx, hb, -, -, -, hown, hts, hK, -, -⟩ := C0
  refine lv_aload_n hx hb d_Jd_named_55 rfl (lv_at hl 0 rfl) ?_
  refine o_get (v := .ref (ad 12)) C in_Jd hP 49 cw_49 rfl 2 (by decide) k_2_76 rfl rfl d_Jd_named_56 ?_
  refine lv_iload hx hb d_Jd_named_59 (lv_at hl 4 rfl) ?_
  obtain ⟨q4, hq4, h⟩ := o_bd_some h
  refine o_V (st1 := [.int q4]) (w1 := (o_cw ad ca u15_rt u15_Sj u15_T0 u15_T1 u15_Rd u15_Pg u15_Pt u15_Mk u15_Lk u15_Ck u15_Jd u15_Ld u15_Pr)) hE.1 C (c_Tx_nextChild_1 hE l x5 u15_T1 u15_Sj u15_T0 u15_Rd u15_Pg u15_Pt u15_Mk u15_Lk u15_Ck u15_Jd u15_Ld u15_Pr u15_rt hq4) hP (hDD _ _ _ _ _ _ _ _ _ _ _ _ _) hS hl.1 rfl cw_12 k_6_28 k_3_222 k_3_223 k_1_2 k_3_224 hv_Tx_nextChild rfl rfl ⟨Nat.le_of_ble_eq_true rfl, Nat.le_of_ble_eq_true rfl⟩ rfl (Nat.le_of_ble_eq_true rfl) ⟨Nat.le_of_ble_eq_true rfl, Nat.le_of_ble_eq_true rfl⟩ rfl d_Jd_named_61 (fun H locs hP hS => ?_)
  refine lv_istore (lv' := [(5, .int q4), (0, .ref (ad 49)), (1, .int u15_x1), (2, .int u15_x2), (3, .long x3), (6, .int x6)]) hx hb d_Jd_named_64 hl (by decide) rfl (fun ls hl => ?_)
  obtain ⟨x6_66, ex6_66⟩ : ∃ y : Int32, y = x6 + (1:Int32) := ⟨_, rfl⟩
  replace h := o_nm_at ex6_66 h
  refine lv_iinc (v := x6_66) (lv' := [(6, .int x6_66), (5, .int q4), (0, .ref (ad 49)), (1, .int u15_x1), (2, .int u15_x2), (3, .long x3)]) hx hb d_Jd_named_66 hl (k := 5) rfl (by rw [ex6_66]; rfl) (by decide) rfl (fun ls hl => ?_)
  refine lv_goto (tgt := 15) hx hb d_Jd_named_69 (by decide) ?_
  cases h
  exact h0 rfl _ _ _ hP hS (lv_sub hl [2, 3, 4, 5, 1, 0] rfl)
set_option maxHeartbeats 4000000 in
set_option maxRecDepth 100000 in
theorem w_Jd_named_b15 {E : (Nat → Prop) → State → Heap → Prop} {p : Program} {l : Launch} {e : Env} {s : State} {m : MethodId} {args : Array Value} {below : List Frame} {meth : Method} {c : Code} {D : va_G} {ad kd sd : Nat → Nat} {ca : Nat → ClassId} {A : Nat → Prop} {Q : State → Prop} (hE : o_EK E kd sd) (C : o_Cx E p s m args meth c D o_cls (o_tys ca) "SchemaJudge$Judge" b_Jd_named (some .long) 7 cc_Jd_named A) (hDD : ∀ (rt : Nat) (Sj : SSJ) (T0 : STx) (T1 : STx) (Rd : SRd) (Pg : SPg) (Pt : SPt) (Mk : SMk) (Lk : SLk) (Ck : SCk) (Jd : SJd) (Ld : SLd) (Pr : SPr), va_D A (o_cw ad ca rt Sj T0 T1 Rd Pg Pt Mk Lk Ck Jd Ld Pr)) (n : Nat) (u15_x1 : Int32) (u15_x2 : Int32) (u15_T0 : STx) (u15_T1 : STx) (u15_Sj : SSJ) (u15_Rd : SRd) (u15_Pg : SPg) (u15_Pt : SPt) (u15_Mk : SMk) (u15_Lk : SLk) (u15_Ck : SCk) (u15_Jd : SJd) (u15_Ld : SLd) (u15_Pr : SPr) (u15_rt : Nat) (z : Int64 × Int32 × Int32) (q : Nat × Int64 × Int32 × Int32) (h : m_Jd_named_b15 n u15_x1 u15_x2 u15_T0 u15_T1 z = some q) (h0 : q.1 = 0 → o_At p l e rm_Jd_named s m args below meth c Q o_cls D A 7 15 [] (o_cw ad ca u15_rt u15_Sj u15_T0 u15_T1 u15_Rd u15_Pg u15_Pt u15_Mk u15_Lk u15_Ck u15_Jd u15_Ld u15_Pr) [(0, .ref (ad 49)), (1, .int u15_x1), (2, .int u15_x2), (3, .long q.2.1), (5, .int q.2.2.1), (6, .int q.2.2.2)]) (h1 : q.1 ≠ 0 → (o_At p l e rm_Jd_named s m args below meth c Q o_cls D A 7 72 [] (o_cw ad ca u15_rt u15_Sj u15_T0 u15_T1 u15_Rd u15_Pg u15_Pt u15_Mk u15_Lk u15_Ck u15_Jd u15_Ld u15_Pr) [(3, .long q.2.1)])) : o_At p l e rm_Jd_named s m args below meth c Q o_cls D A 7 15 [] (o_cw ad ca u15_rt u15_Sj u15_T0 u15_T1 u15_Rd u15_Pg u15_Pt u15_Mk u15_Lk u15_Ck u15_Jd u15_Ld u15_Pr) [(0, .ref (ad 49)), (1, .int u15_x1), (2, .int u15_x2), (3, .long z.1), (5, .int z.2.1), (6, .int z.2.2)] := by
  unfold m_Jd_named_b15 at h
  intro H locs ls hP hS hl
  have C0 := C
  obtain ⟨hx, hb, -, -, -, hown, hts, hK, -, -⟩ := C0
  refine lv_iload hx hb d_Jd_named_15 (lv_at hl 5 rfl) ?_
  refine lv_aload_n hx hb d_Jd_named_17 rfl (lv_at hl 0 rfl) ?_
  refine o_get (v := .ref (ad 12)) C in_Jd hP 49 cw_49 rfl 2 (by decide) k_2_76 rfl rfl d_Jd_named_18 ?_
  refine lv_iload_n hx hb d_Jd_named_21 rfl (lv_at hl 2 rfl) ?_
  obtain ⟨q2, hq2, h⟩ := o_bd_some h
  refine o_V (st1 := [.int q2, .int z.2.2]) (w1 := (o_cw ad ca u15_rt u15_Sj u15_T0 u15_T1 u15_Rd u15_Pg u15_Pt u15_Mk u15_Lk u15_Ck u15_Jd u15_Ld u15_Pr)) hE.1 C (c_Tx_size_1 hE l u15_x2 u15_T1 u15_Sj u15_T0 u15_Rd u15_Pg u15_Pt u15_Mk u15_Lk u15_Ck u15_Jd u15_Ld u15_Pr u15_rt hq2) hP (hDD _ _ _ _ _ _ _ _ _ _ _ _ _) hS hl.1 rfl cw_12 k_6_26 k_3_215 k_3_216 k_1_2 k_3_217 hv_Tx_size rfl rfl ⟨Nat.le_of_ble_eq_true rfl, Nat.le_of_ble_eq_true rfl⟩ rfl (Nat.le_of_ble_eq_true rfl) ⟨Nat.le_of_ble_eq_true rfl, Nat.le_of_ble_eq_true rfl⟩ rfl d_Jd_named_22 (fun H locs hP hS => ?_)
  refine lv_icmp_ge (tgt := 72) hx hb d_Jd_named_25 (by decide) (fun c1 => ?_) (fun c1 => ?_)
  · replace h := o_tt c1 h
    cases h
    exact h1 (Nat.succ_ne_zero 0) _ _ _ hP hS (lv_sub hl [3] rfl)
  · replace h := o_ff c1 h
    refine lv_aload_n hx hb d_Jd_named_28 rfl (lv_at hl 0 rfl) ?_
    refine o_get (v := .ref (ad 1)) C in_Jd hP 49 cw_49 rfl 0 (by decide) k_2_74 rfl rfl d_Jd_named_29 ?_
    refine lv_iload_n hx hb d_Jd_named_32 rfl (lv_at hl 1 rfl) ?_
    refine lv_aload_n hx hb d_Jd_named_33 rfl (lv_at hl 0 rfl) ?_
    refine o_get (v := .ref (ad 12)) C in_Jd hP 49 cw_49 rfl 2 (by decide) k_2_76 rfl rfl d_Jd_named_34 ?_
    refine lv_iload hx hb d_Jd_named_37 (lv_at hl 4 rfl) ?_
    refine lv_iconst (v := (1:Int32)) hx hb d_Jd_named_39 (by decide) ?_
    refine lv_isub hx hb d_Jd_named_40 ?_
    obtain ⟨q3, hq3, h⟩ := o_bd_some h
    refine o_V (st1 := [.int q3]) (w1 := (o_cw ad ca u15_rt u15_Sj u15_T0 u15_T1 u15_Rd u15_Pg u15_Pt u15_Mk u15_Lk u15_Ck u15_Jd u15_Ld u15_Pr)) hE.1 C (c_Tx_member_01 hE l n u15_x1 (z.2.1 - (1:Int32)) u15_T0 u15_T1 u15_Sj u15_Rd u15_Pg u15_Pt u15_Mk u15_Lk u15_Ck u15_Jd u15_Ld u15_Pr u15_rt hq3) hP (hDD _ _ _ _ _ _ _ _ _ _ _ _ _) hS hl.1 rfl cw_1 k_6_118 k_3_207 k_3_208 k_1_2 k_3_209 hv_Tx_member rfl rfl ⟨Nat.le_of_ble_eq_true rfl, Nat.le_of_ble_eq_true rfl⟩ rfl (Nat.le_of_ble_eq_true rfl) ⟨Nat.le_of_ble_eq_true rfl, Nat.le_of_ble_eq_true rfl⟩ rfl d_Jd_named_41 (fun H locs hP hS => ?_)
    refine lv_iconst (v := (-1:Int32)) hx hb d_Jd_named_44 (by decide) ?_
    refine lv_icmp_eq (tgt := 55) hx hb d_Jd_named_45 (by decide) (fun c2 => ?_) (fun c2 => ?_)
    · replace h := o_tt c2 h
      exact w_Jd_named_j55 hE C hDD n u15_x1 u15_x2 u15_T0 u15_T1 u15_Sj u15_Rd u15_Pg u15_Pt u15_Mk u15_Lk u15_Ck u15_Jd u15_Ld u15_Pr u15_rt z.1 z.2.1 z.2.2 h h0 h1 _ _ _ hP hS (lv_sub hl [0, 1, 2, 3, 4, 5] rfl)
    · replace h := o_ff c2 h
      refine lv_lload_n hx hb d_Jd_named_48 rfl (lv_at hl 3 rfl) ?_
      refine lv_lconst (v := (1:Int64)) hx hb d_Jd_named_49 (by decide) ?_
      refine lv_iload hx hb d_Jd_named_50 (lv_at hl 5 rfl) ?_
      refine lv_lshl hx hb d_Jd_named_52 rfl ?_
      refine lv_lor hx hb d_Jd_named_53 ?_
      refine lv_topl (fun x3_54 ex3_54 => ?_)
      replace h := o_nm_at ex3_54 h
      refine lv_lstore_n (lv' := [(3, .long x3_54), (0, .ref (ad 49)), (1, .int u15_x1), (2, .int u15_x2), (5, .int z.2.1), (6, .int z.2.2)]) hx hb d_Jd_named_54 rfl hl (by decide) rfl (fun ls hl => ?_)
      exact w_Jd_named_j55 hE C hDD n u15_x1 u15_x2 u15_T0 u15_T1 u15_Sj u15_Rd u15_Pg u15_Pt u15_Mk u15_Lk u15_Ck u15_Jd u15_Ld u15_Pr u15_rt x3_54 z.2.1 z.2.2 h h0 h1 _ _ _ hP hS (lv_sub hl [1, 2, 3, 0, 4, 5] rfl)
set_option maxHeartbeats 4000000 in
set_option maxRecDepth 100000 in
theorem c_Jd_named {E : (Nat → Prop) → State → Heap → Prop} {D : va_G} {ad kd sd : Nat → Nat} {ca : Nat → ClassId} (hE : o_EK E kd sd) (l : Launch) (n : Nat) (x1 : Int32) (x2 : Int32) (T0 : STx) (T1 : STx) (Sj : SSJ) (Rd : SRd) (Pg : SPg) (Pt : SPt) (Mk : SMk) (Lk : SLk) (Ck : SCk) (Jd : SJd) (Ld : SLd) (Pr : SPr) (rt : Nat) {r : Int64} (h : m_Jd_named n x1 x2 T0 T1 = some r) : o_Cn E l D o_cls (o_tys ca) y_Jd_named cc_Jd_named rm_Jd_named [.ref (ad 49), .int x1, .int x2] (o_cw ad ca rt Sj T0 T1 Rd Pg Pt Mk Lk Ck Jd Ld Pr) (o_cw ad ca rt Sj T0 T1 Rd Pg Pt Mk Lk Ck Jd Ld Pr) (some (.long r)) := by
  refine o_Cn_of (by decide) (Nat.le_of_ble_eq_true rfl) ?_
  intro p e s m below meth c A ls C hD hP hS hl
  have hDD : ∀ (rt : Nat) (Sj : SSJ) (T0 : STx) (T1 : STx) (Rd : SRd) (Pg : SPg) (Pt : SPt) (Mk : SMk) (Lk : SLk) (Ck : SCk) (Jd : SJd) (Ld : SLd) (Pr : SPr), va_D A (o_cw ad ca rt Sj T0 T1 Rd Pg Pt Mk Lk Ck Jd Ld Pr) := fun _ _ _ _ _ _ _ _ _ _ _ _ _ => o_D_map hD rfl
  have hl : lv_has ls 7 [(0, .ref (ad 49)), (1, .int x1), (2, .int x2)] := hl
  unfold m_Jd_named at h
  have C0 := C
  obtain ⟨hx, hb, -, -, -, hown, hts, hK, -, -⟩ := C0
  refine lv_lconst (v := (0:Int64)) hx hb d_Jd_named_0 (by decide) ?_
  refine lv_lstore_n (lv' := [(3, .long (0:Int64)), (0, .ref (ad 49)), (1, .int x1), (2, .int x2)]) hx hb d_Jd_named_1 rfl hl (by decide) rfl (fun ls hl => ?_)
  refine lv_aload_n hx hb d_Jd_named_2 rfl (lv_at hl 1 rfl) ?_
  refine o_get (v := .ref (ad 12)) C in_Jd hP 49 cw_49 rfl 2 (by decide) k_2_76 rfl rfl d_Jd_named_3 ?_
  refine lv_iload_n hx hb d_Jd_named_6 rfl (lv_at hl 3 rfl) ?_
  obtain ⟨q1, hq1, h⟩ := o_bd_some h
  refine o_V (st1 := [.int q1]) (w1 := (o_cw ad ca rt Sj T0 T1 Rd Pg Pt Mk Lk Ck Jd Ld Pr)) hE.1 C (c_Tx_firstChild_1 hE l x2 T1 Sj T0 Rd Pg Pt Mk Lk Ck Jd Ld Pr rt hq1) hP (hDD _ _ _ _ _ _ _ _ _ _ _ _ _) hS hl.1 rfl cw_12 k_6_25 k_3_211 k_3_212 k_1_2 k_3_213 hv_Tx_firstChild rfl rfl ⟨Nat.le_of_ble_eq_true rfl, Nat.le_of_ble_eq_true rfl⟩ rfl (Nat.le_of_ble_eq_true rfl) ⟨Nat.le_of_ble_eq_true rfl, Nat.le_of_ble_eq_true rfl⟩ rfl d_Jd_named_7 (fun H locs hP hS => ?_)
  refine lv_istore (lv' := [(5, .int q1), (3, .long (0:Int64)), (0, .ref (ad 49)), (1, .int x1), (2, .int x2)]) hx hb d_Jd_named_10 hl (by decide) rfl (fun ls hl => ?_)
  refine lv_iconst (v := (0:Int32)) hx hb d_Jd_named_12 (by decide) ?_
  refine lv_istore (lv' := [(6, .int (0:Int32)), (5, .int q1), (3, .long (0:Int64)), (0, .ref (ad 49)), (1, .int x1), (2, .int x2)]) hx hb d_Jd_named_13 hl (by decide) rfl (fun ls hl => ?_)
  obtain ⟨q5, hq5, h⟩ := o_bd_some h
  refine o_sim2 (AH := fun zz => o_At p l e rm_Jd_named s m _ below meth c _ o_cls D A 7 15 [] (o_cw ad ca rt Sj T0 T1 Rd Pg Pt Mk Lk Ck Jd Ld Pr) [(0, .ref (ad 49)), (1, .int x1), (2, .int x2), (3, .long zz.1), (5, .int zz.2.1), (6, .int zz.2.2)]) (AX := fun qq => o_At p l e rm_Jd_named s m _ below meth c _ o_cls D A 7 72 [] (o_cw ad ca rt Sj T0 T1 Rd Pg Pt Mk Lk Ck Jd Ld Pr) [(3, .long qq.2.1)]) (fun zz qq h h0 h1 => w_Jd_named_b15 hE C hDD n x1 x2 T0 T1 Sj Rd Pg Pt Mk Lk Ck Jd Ld Pr rt zz qq h h0 h1) n _ q5 hq5 ?_ _ _ _ hP hS (lv_sub hl [3, 4, 5, 2, 1, 0] rfl)
  intro H locs ls hP hS hl
  refine lv_lload_n hx hb d_Jd_named_72 rfl (lv_at hl 0 rfl) ?_
  cases h
  exact o_rl C hP hS d_Jd_named_73
set_option maxHeartbeats 4000000 in
set_option maxRecDepth 100000 in
theorem c_Tx_kind_1 {E : (Nat → Prop) → State → Heap → Prop} {D : va_G} {ad kd sd : Nat → Nat} {ca : Nat → ClassId} (hE : o_EK E kd sd) (l : Launch) (x1 : Int32) (a0 : STx) (Sj : SSJ) (T0 : STx) (Rd : SRd) (Pg : SPg) (Pt : SPt) (Mk : SMk) (Lk : SLk) (Ck : SCk) (Jd : SJd) (Ld : SLd) (Pr : SPr) (rt : Nat) {r : Int32} (h : m_Tx_kind x1 a0 = some r) : o_Cn E l D o_cls (o_tys ca) y_Tx_kind cc_Tx_kind rm_Tx_kind [.ref (ad 12), .int x1] (o_cw ad ca rt Sj T0 a0 Rd Pg Pt Mk Lk Ck Jd Ld Pr) (o_cw ad ca rt Sj T0 a0 Rd Pg Pt Mk Lk Ck Jd Ld Pr) (some (.int r)) := by
  refine o_Cn_of (by decide) (Nat.le_of_ble_eq_true rfl) ?_
  intro p e s m below meth c A ls C hD hP hS hl
  have hDD : ∀ (rt : Nat) (Sj : SSJ) (T0 : STx) (T1 : STx) (Rd : SRd) (Pg : SPg) (Pt : SPt) (Mk : SMk) (Lk : SLk) (Ck : SCk) (Jd : SJd) (Ld : SLd) (Pr : SPr), va_D A (o_cw ad ca rt Sj T0 T1 Rd Pg Pt Mk Lk Ck Jd Ld Pr) := fun _ _ _ _ _ _ _ _ _ _ _ _ _ => o_D_map hD rfl
  have hl : lv_has ls 2 [(0, .ref (ad 12)), (1, .int x1)] := hl
  unfold m_Tx_kind at h
  have C0 := C
  obtain ⟨hx, hb, -, -, -, hown, hts, hK, -, -⟩ := C0
  refine lv_iload_n hx hb d_Tx_kind_0 rfl (lv_at hl 1 rfl) ?_
  refine lv_if_lt (tgt := 21) hx hb d_Tx_kind_1 (by decide) (fun c1 => ?_) (fun c1 => ?_)
  · replace h := o_tt c1 h
    refine lv_iconst (v := (-1:Int32)) hx hb d_Tx_kind_21 (by decide) ?_
    cases h
    exact o_ri (v := (-1:Int32)) C hP hS d_Tx_kind_22
  · replace h := o_ff c1 h
    refine lv_iload_n hx hb d_Tx_kind_4 rfl (lv_at hl 1 rfl) ?_
    refine lv_aload_n hx hb d_Tx_kind_5 rfl (lv_at hl 0 rfl) ?_
    refine o_get (v := .int (Tx_total a0)) C in_Tx hP 12 cw_12 rfl 10 (by decide) k_1_56 rfl rfl d_Tx_kind_6 ?_
    refine lv_icmp_ge (tgt := 21) hx hb d_Tx_kind_9 (by decide) (fun c2 => ?_) (fun c2 => ?_)
    · replace h := o_tt c2 h
      refine lv_iconst (v := (-1:Int32)) hx hb d_Tx_kind_21 (by decide) ?_
      cases h
      exact o_ri (v := (-1:Int32)) C hP hS d_Tx_kind_22
    · replace h := o_ff c2 h
      refine lv_aload_n hx hb d_Tx_kind_12 rfl (lv_at hl 0 rfl) ?_
      refine o_get (v := .ref (ad 13)) C in_Tx hP 12 cw_12 rfl 0 (by decide) k_1_46 rfl rfl d_Tx_kind_13 ?_
      refine lv_iload_n hx hb d_Tx_kind_16 rfl (lv_at hl 1 rfl) ?_
      obtain ⟨g3, h⟩ := o_gd_some h
      refine o_iald (f := (Tx_kinds a0)) C hP 13 10 cw_13 rfl g3 d_Tx_kind_17 ?_
      refine lv_goto (tgt := 22) hx hb d_Tx_kind_18 (by decide) ?_
      cases h
      exact o_ri (v := ((Tx_kinds a0) x1.toNatClampNeg)) C hP hS d_Tx_kind_22
set_option maxHeartbeats 4000000 in
set_option maxRecDepth 100000 in
theorem w_Tx_sameString_b102_10 {E : (Nat → Prop) → State → Heap → Prop} {p : Program} {l : Launch} {e : Env} {s : State} {m : MethodId} {args : Array Value} {below : List Frame} {meth : Method} {c : Code} {D : va_G} {ad kd sd : Nat → Nat} {ca : Nat → ClassId} {A : Nat → Prop} {Q : State → Prop} (hE : o_EK E kd sd) (C : o_Cx E p s m args meth c D o_cls (o_tys ca) "SchemaJudge$Text" b_Tx_sameString (some .boolean) 8 cc_Tx_sameString A) (hDD : ∀ (rt : Nat) (Sj : SSJ) (T0 : STx) (T1 : STx) (Rd : SRd) (Pg : SPg) (Pt : SPt) (Mk : SMk) (Lk : SLk) (Ck : SCk) (Jd : SJd) (Ld : SLd) (Pr : SPr), va_D A (o_cw ad ca rt Sj T0 T1 Rd Pg Pt Mk Lk Ck Jd Ld Pr)) (n : Nat) (u102_x4 : Int32) (u102_x5 : Int32) (u102_x6 : Int32) (u102_a0 : STx) (u102_a2 : STx) (u102_Sj : SSJ) (u102_Rd : SRd) (u102_Pg : SPg) (u102_Pt : SPt) (u102_Mk : SMk) (u102_Lk : SLk) (u102_Ck : SCk) (u102_Jd : SJd) (u102_Ld : SLd) (u102_Pr : SPr) (u102_rt : Nat) (z : Int32) (q : Nat × Int32) (h : m_Tx_sameString_b102 n u102_x4 u102_x5 u102_x6 u102_a0 u102_a2 z = some q) (h0 : q.1 = 0 → o_At p l e rm_Tx_sameString s m args below meth c Q o_cls D A 8 102 [] (o_cw ad ca u102_rt u102_Sj u102_a2 u102_a0 u102_Rd u102_Pg u102_Pt u102_Mk u102_Lk u102_Ck u102_Jd u102_Ld u102_Pr) [(0, .ref (ad 12)), (2, .ref (ad 1)), (4, .int u102_x4), (5, .int u102_x5), (6, .int u102_x6), (7, .int q.2)]) (h1 : q.1 ≠ 0 → (if q.1 = 1 then o_At p l e rm_Tx_sameString s m args below meth c Q o_cls D A 8 132 [] (o_cw ad ca u102_rt u102_Sj u102_a2 u102_a0 u102_Rd u102_Pg u102_Pt u102_Mk u102_Lk u102_Ck u102_Jd u102_Ld u102_Pr) [] else o_At p l e rm_Tx_sameString s m args below meth c Q o_cls D A 8 140 [] (o_cw ad ca u102_rt u102_Sj u102_a2 u102_a0 u102_Rd u102_Pg u102_Pt u102_Mk u102_Lk u102_Ck u102_Jd u102_Ld u102_Pr) [])) : o_At p l e rm_Tx_sameString s m args below meth c Q o_cls D A 8 102 [] (o_cw ad ca u102_rt u102_Sj u102_a2 u102_a0 u102_Rd u102_Pg u102_Pt u102_Mk u102_Lk u102_Ck u102_Jd u102_Ld u102_Pr) [(0, .ref (ad 12)), (2, .ref (ad 1)), (4, .int u102_x4), (5, .int u102_x5), (6, .int u102_x6), (7, .int z)] := by
  unfold m_Tx_sameString_b102 at h
  intro H locs ls hP hS hl
  have C0 := C
  obtain ⟨hx, hb, -, -, -, hown, hts, hK, -, -⟩ := C0
  refine lv_iload hx hb d_Tx_sameString_102 (lv_at hl 5 rfl) ?_
  refine lv_iload hx hb d_Tx_sameString_104 (lv_at hl 4 rfl) ?_
  refine lv_icmp_ge (tgt := 140) hx hb d_Tx_sameString_106 (by decide) (fun c15 => ?_) (fun c15 => ?_)
  · replace h := o_tt c15 h
    cases h
    exact h1 (Nat.succ_ne_zero 1) _ _ _ hP hS (lv_sub hl [] rfl)
  · replace h := o_ff c15 h
    refine lv_aload_n hx hb d_Tx_sameString_109 rfl (lv_at hl 0 rfl) ?_
    refine o_get (v := .ref (ad 22)) C in_Tx hP 12 cw_12 rfl 9 (by decide) k_1_55 rfl rfl d_Tx_sameString_110 ?_
    refine lv_iload hx hb d_Tx_sameString_113 (lv_at hl 2 rfl) ?_
    refine lv_iload hx hb d_Tx_sameString_115 (lv_at hl 5 rfl) ?_
    refine lv_iadd hx hb d_Tx_sameString_117 ?_
    obtain ⟨g16, h⟩ := o_gd_some h
    refine o_iald (f := (Tx_cells u102_a0)) C hP 22 19 cw_22 rfl g16 d_Tx_sameString_118 ?_
    refine lv_aload_n hx hb d_Tx_sameString_119 rfl (lv_at hl 1 rfl) ?_
    refine o_get (v := .ref (ad 11)) C in_Tx hP 1 cw_1 rfl 9 (by decide) k_1_55 rfl rfl d_Tx_sameString_120 ?_
    refine lv_iload hx hb d_Tx_sameString_123 (lv_at hl 3 rfl) ?_
    refine lv_iload hx hb d_Tx_sameString_125 (lv_at hl 5 rfl) ?_
    refine lv_iadd hx hb d_Tx_sameString_127 ?_
    obtain ⟨g17, h⟩ := o_gd_some h
    refine o_iald (f := (Tx_cells u102_a2)) C hP 11 9 cw_11 rfl g17 d_Tx_sameString_128 ?_
    refine lv_icmp_eq (tgt := 134) hx hb d_Tx_sameString_129 (by decide) (fun c18 => ?_) (fun c18 => ?_)
    · replace h := o_tt c18 h
      obtain ⟨x7_134, ex7_134⟩ : ∃ y : Int32, y = z + (1:Int32) := ⟨_, rfl⟩
      replace h := o_nm_at ex7_134 h
      refine lv_iinc (v := x7_134) (lv' := [(7, .int x7_134), (0, .ref (ad 12)), (2, .ref (ad 1)), (4, .int u102_x4), (5, .int u102_x5), (6, .int u102_x6)]) hx hb d_Tx_sameString_134 hl (k := 5) rfl (by rw [ex7_134]; rfl) (by decide) rfl (fun ls hl => ?_)
      refine lv_goto (tgt := 102) hx hb d_Tx_sameString_137 (by decide) ?_
      cases h
      exact h0 rfl _ _ _ hP hS (lv_sub hl [1, 2, 3, 4, 5, 0] rfl)
    · replace h := o_ff c18 h
      cases h
      exact h1 (Nat.succ_ne_zero 0) _ _ _ hP hS (lv_sub hl [] rfl)
set_option maxHeartbeats 4000000 in
set_option maxRecDepth 100000 in
theorem c_Tx_sameString_10 {E : (Nat → Prop) → State → Heap → Prop} {D : va_G} {ad kd sd : Nat → Nat} {ca : Nat → ClassId} (hE : o_EK E kd sd) (l : Launch) (n : Nat) (x1 : Int32) (x3 : Int32) (a0 : STx) (a2 : STx) (Sj : SSJ) (Rd : SRd) (Pg : SPg) (Pt : SPt) (Mk : SMk) (Lk : SLk) (Ck : SCk) (Jd : SJd) (Ld : SLd) (Pr : SPr) (rt : Nat) {r : Int32} (h : m_Tx_sameString n x1 x3 a0 a2 = some r) : o_Cn E l D o_cls (o_tys ca) y_Tx_sameString cc_Tx_sameString rm_Tx_sameString [.ref (ad 12), .int x1, .ref (ad 1), .int x3] (o_cw ad ca rt Sj a2 a0 Rd Pg Pt Mk Lk Ck Jd Ld Pr) (o_cw ad ca rt Sj a2 a0 Rd Pg Pt Mk Lk Ck Jd Ld Pr) (some (.int r)) := by
  refine o_Cn_of (by decide) (Nat.le_of_ble_eq_true rfl) ?_
  intro p e s m below meth c A ls C hD hP hS hl
  have hDD : ∀ (rt : Nat) (Sj : SSJ) (T0 : STx) (T1 : STx) (Rd : SRd) (Pg : SPg) (Pt : SPt) (Mk : SMk) (Lk : SLk) (Ck : SCk) (Jd : SJd) (Ld : SLd) (Pr : SPr), va_D A (o_cw ad ca rt Sj T0 T1 Rd Pg Pt Mk Lk Ck Jd Ld Pr) := fun _ _ _ _ _ _ _ _ _ _ _ _ _ => o_D_map hD rfl
  have hl : lv_has ls 8 [(0, .ref (ad 12)), (1, .int x1), (2, .ref (ad 1)), (3, .int x3)] := hl
  unfold m_Tx_sameString at h
  have C0 := C
  obtain ⟨hx, hb, -, -, -, hown, hts, hK, -, -⟩ := C0
  refine lv_iload_n hx hb d_Tx_sameString_0 rfl (lv_at hl 1 rfl) ?_
  refine lv_if_lt (tgt := 39) hx hb d_Tx_sameString_1 (by decide) (fun c1 => ?_) (fun c1 => ?_)
  · replace h := o_tt c1 h
    refine lv_iconst (v := (0:Int32)) hx hb d_Tx_sameString_39 (by decide) ?_
    cases h
    exact o_rz (v := (0:Int32)) C o_nar0 hP hS d_Tx_sameString_40
  · replace h := o_ff c1 h
    refine lv_iload_n hx hb d_Tx_sameString_4 rfl (lv_at hl 1 rfl) ?_
    refine lv_aload_n hx hb d_Tx_sameString_5 rfl (lv_at hl 0 rfl) ?_
    refine o_get (v := .int (Tx_total a0)) C in_Tx hP 12 cw_12 rfl 10 (by decide) k_1_56 rfl rfl d_Tx_sameString_6 ?_
    refine lv_icmp_ge (tgt := 39) hx hb d_Tx_sameString_9 (by decide) (fun c2 => ?_) (fun c2 => ?_)
    · replace h := o_tt c2 h
      refine lv_iconst (v := (0:Int32)) hx hb d_Tx_sameString_39 (by decide) ?_
      cases h
      exact o_rz (v := (0:Int32)) C o_nar0 hP hS d_Tx_sameString_40
    · replace h := o_ff c2 h
      refine lv_iload_n hx hb d_Tx_sameString_12 rfl (lv_at hl 3 rfl) ?_
      refine lv_if_lt (tgt := 39) hx hb d_Tx_sameString_13 (by decide) (fun c3 => ?_) (fun c3 => ?_)
      · replace h := o_tt c3 h
        refine lv_iconst (v := (0:Int32)) hx hb d_Tx_sameString_39 (by decide) ?_
        cases h
        exact o_rz (v := (0:Int32)) C o_nar0 hP hS d_Tx_sameString_40
      · replace h := o_ff c3 h
        refine lv_iload_n hx hb d_Tx_sameString_16 rfl (lv_at hl 3 rfl) ?_
        refine lv_aload_n hx hb d_Tx_sameString_17 rfl (lv_at hl 2 rfl) ?_
        refine o_get (v := .int (Tx_total a2)) C in_Tx hP 1 cw_1 rfl 10 (by decide) k_1_56 rfl rfl d_Tx_sameString_18 ?_
        refine lv_icmp_ge (tgt := 39) hx hb d_Tx_sameString_21 (by decide) (fun c4 => ?_) (fun c4 => ?_)
        · replace h := o_tt c4 h
          refine lv_iconst (v := (0:Int32)) hx hb d_Tx_sameString_39 (by decide) ?_
          cases h
          exact o_rz (v := (0:Int32)) C o_nar0 hP hS d_Tx_sameString_40
        · replace h := o_ff c4 h
          refine lv_aload_n hx hb d_Tx_sameString_24 rfl (lv_at hl 0 rfl) ?_
          refine o_get (v := .ref (ad 15)) C in_Tx hP 12 cw_12 rfl 2 (by decide) k_1_48 rfl rfl d_Tx_sameString_25 ?_
          refine lv_iload_n hx hb d_Tx_sameString_28 rfl (lv_at hl 1 rfl) ?_
          obtain ⟨g5, h⟩ := o_gd_some h
          refine o_iald (f := (Tx_sizes a0)) C hP 15 12 cw_15 rfl g5 d_Tx_sameString_29 ?_
          refine lv_aload_n hx hb d_Tx_sameString_30 rfl (lv_at hl 2 rfl) ?_
          refine o_get (v := .ref (ad 4)) C in_Tx hP 1 cw_1 rfl 2 (by decide) k_1_48 rfl rfl d_Tx_sameString_31 ?_
          refine lv_iload_n hx hb d_Tx_sameString_34 rfl (lv_at hl 3 rfl) ?_
          obtain ⟨g6, h⟩ := o_gd_some h
          refine o_iald (f := (Tx_sizes a2)) C hP 4 2 cw_4 rfl g6 d_Tx_sameString_35 ?_
          refine lv_icmp_eq (tgt := 41) hx hb d_Tx_sameString_36 (by decide) (fun c7 => ?_) (fun c7 => ?_)
          · replace h := o_tt c7 h
            refine lv_aload_n hx hb d_Tx_sameString_41 rfl (lv_at hl 0 rfl) ?_
            refine o_get (v := .ref (ad 18)) C in_Tx hP 12 cw_12 rfl 5 (by decide) k_1_51 rfl rfl d_Tx_sameString_42 ?_
            refine lv_iload_n hx hb d_Tx_sameString_45 rfl (lv_at hl 1 rfl) ?_
            obtain ⟨g8, h⟩ := o_gd_some h
            refine o_iald (f := (Tx_starts a0)) C hP 18 15 cw_18 rfl g8 d_Tx_sameString_46 ?_
            refine lv_topi (fun x4_47 ex4_47 => ?_)
            replace h := o_nm_at ex4_47 h
            refine lv_istore (lv' := [(4, .int x4_47), (0, .ref (ad 12)), (1, .int x1), (2, .ref (ad 1)), (3, .int x3)]) hx hb d_Tx_sameString_47 hl (by decide) rfl (fun ls hl => ?_)
            refine lv_aload_n hx hb d_Tx_sameString_49 rfl (lv_at hl 3 rfl) ?_
            refine o_get (v := .ref (ad 7)) C in_Tx hP 1 cw_1 rfl 5 (by decide) k_1_51 rfl rfl d_Tx_sameString_50 ?_
            refine lv_iload_n hx hb d_Tx_sameString_53 rfl (lv_at hl 4 rfl) ?_
            obtain ⟨g9, h⟩ := o_gd_some h
            refine o_iald (f := (Tx_starts a2)) C hP 7 5 cw_7 rfl g9 d_Tx_sameString_54 ?_
            refine lv_topi (fun x5_55 ex5_55 => ?_)
            replace h := o_nm_at ex5_55 h
            refine lv_istore (lv' := [(5, .int x5_55), (4, .int x4_47), (0, .ref (ad 12)), (1, .int x1), (2, .ref (ad 1)), (3, .int x3)]) hx hb d_Tx_sameString_55 hl (by decide) rfl (fun ls hl => ?_)
            refine lv_aload_n hx hb d_Tx_sameString_57 rfl (lv_at hl 2 rfl) ?_
            refine o_get (v := .ref (ad 15)) C in_Tx hP 12 cw_12 rfl 2 (by decide) k_1_48 rfl rfl d_Tx_sameString_58 ?_
            refine lv_iload_n hx hb d_Tx_sameString_61 rfl (lv_at hl 3 rfl) ?_
            obtain ⟨g10, h⟩ := o_gd_some h
            refine o_iald (f := (Tx_sizes a0)) C hP 15 12 cw_15 rfl g10 d_Tx_sameString_62 ?_
            refine lv_topi (fun x6_63 ex6_63 => ?_)
            replace h := o_nm_at ex6_63 h
            refine lv_istore (lv' := [(6, .int x6_63), (5, .int x5_55), (4, .int x4_47), (0, .ref (ad 12)), (1, .int x1), (2, .ref (ad 1)), (3, .int x3)]) hx hb d_Tx_sameString_63 hl (by decide) rfl (fun ls hl => ?_)
            refine lv_iload hx hb d_Tx_sameString_65 (lv_at hl 2 rfl) ?_
            refine lv_if_lt (tgt := 97) hx hb d_Tx_sameString_67 (by decide) (fun c11 => ?_) (fun c11 => ?_)
            · replace h := o_tt c11 h
              refine lv_iconst (v := (0:Int32)) hx hb d_Tx_sameString_97 (by decide) ?_
              cases h
              exact o_rz (v := (0:Int32)) C o_nar0 hP hS d_Tx_sameString_98
            · replace h := o_ff c11 h
              refine lv_iload hx hb d_Tx_sameString_70 (lv_at hl 2 rfl) ?_
              refine lv_iload hx hb d_Tx_sameString_72 (lv_at hl 0 rfl) ?_
              refine lv_iadd hx hb d_Tx_sameString_74 ?_
              refine lv_sipush (v := (8192:Int32)) hx hb d_Tx_sameString_75 (by decide) ?_
              refine lv_icmp_gt (tgt := 97) hx hb d_Tx_sameString_78 (by decide) (fun c12 => ?_) (fun c12 => ?_)
              · replace h := o_tt c12 h
                refine lv_iconst (v := (0:Int32)) hx hb d_Tx_sameString_97 (by decide) ?_
                cases h
                exact o_rz (v := (0:Int32)) C o_nar0 hP hS d_Tx_sameString_98
              · replace h := o_ff c12 h
                refine lv_iload hx hb d_Tx_sameString_81 (lv_at hl 1 rfl) ?_
                refine lv_if_lt (tgt := 97) hx hb d_Tx_sameString_83 (by decide) (fun c13 => ?_) (fun c13 => ?_)
                · replace h := o_tt c13 h
                  refine lv_iconst (v := (0:Int32)) hx hb d_Tx_sameString_97 (by decide) ?_
                  cases h
                  exact o_rz (v := (0:Int32)) C o_nar0 hP hS d_Tx_sameString_98
                · replace h := o_ff c13 h
                  refine lv_iload hx hb d_Tx_sameString_86 (lv_at hl 1 rfl) ?_
                  refine lv_iload hx hb d_Tx_sameString_88 (lv_at hl 0 rfl) ?_
                  refine lv_iadd hx hb d_Tx_sameString_90 ?_
                  refine lv_sipush (v := (8192:Int32)) hx hb d_Tx_sameString_91 (by decide) ?_
                  refine lv_icmp_le (tgt := 99) hx hb d_Tx_sameString_94 (by decide) (fun c14 => ?_) (fun c14 => ?_)
                  · replace h := o_tt c14 h
                    refine lv_iconst (v := (0:Int32)) hx hb d_Tx_sameString_99 (by decide) ?_
                    refine lv_istore (lv' := [(7, .int (0:Int32)), (6, .int x6_63), (5, .int x5_55), (4, .int x4_47), (0, .ref (ad 12)), (1, .int x1), (2, .ref (ad 1)), (3, .int x3)]) hx hb d_Tx_sameString_100 hl (by decide) rfl (fun ls hl => ?_)
                    obtain ⟨q1, hq1, h⟩ := o_bd_some h
                    refine o_sim2 (AH := fun zz => o_At p l e rm_Tx_sameString s m _ below meth c _ o_cls D A 8 102 [] (o_cw ad ca rt Sj a2 a0 Rd Pg Pt Mk Lk Ck Jd Ld Pr) [(0, .ref (ad 12)), (2, .ref (ad 1)), (4, .int x4_47), (5, .int x5_55), (6, .int x6_63), (7, .int zz)]) (AX := fun qq => if qq.1 = 1 then o_At p l e rm_Tx_sameString s m _ below meth c _ o_cls D A 8 132 [] (o_cw ad ca rt Sj a2 a0 Rd Pg Pt Mk Lk Ck Jd Ld Pr) [] else o_At p l e rm_Tx_sameString s m _ below meth c _ o_cls D A 8 140 [] (o_cw ad ca rt Sj a2 a0 Rd Pg Pt Mk Lk Ck Jd Ld Pr) []) (fun zz qq h h0 h1 => w_Tx_sameString_b102_10 hE C hDD n x4_47 x5_55 x6_63 a0 a2 Sj Rd Pg Pt Mk Lk Ck Jd Ld Pr rt zz qq h h0 h1) n _ q1 hq1 ?_ _ _ _ hP hS (lv_sub hl [4, 6, 3, 2, 1, 0] rfl)
                    by_cases c19 : q1.1 = 1
                    · replace h := o_tt c19 h
                      refine o_ip c19 ?_
                      intro H locs ls hP hS hl
                      refine lv_iconst (v := (0:Int32)) hx hb d_Tx_sameString_132 (by decide) ?_
                      cases h
                      exact o_rz (v := (0:Int32)) C o_nar0 hP hS d_Tx_sameString_133
                    replace h := o_ff c19 h
                    refine o_in_ c19 ?_
                    intro H locs ls hP hS hl
                    refine lv_iconst (v := (1:Int32)) hx hb d_Tx_sameString_140 (by decide) ?_
                    cases h
                    exact o_rz (v := (1:Int32)) C o_nar1 hP hS d_Tx_sameString_141
                  · replace h := o_ff c14 h
                    refine lv_iconst (v := (0:Int32)) hx hb d_Tx_sameString_97 (by decide) ?_
                    cases h
                    exact o_rz (v := (0:Int32)) C o_nar0 hP hS d_Tx_sameString_98
          · replace h := o_ff c7 h
            refine lv_iconst (v := (0:Int32)) hx hb d_Tx_sameString_39 (by decide) ?_
            cases h
            exact o_rz (v := (0:Int32)) C o_nar0 hP hS d_Tx_sameString_40
set_option maxHeartbeats 4000000 in
set_option maxRecDepth 100000 in
theorem w_Tx_member_b10_10 {E : (Nat → Prop) → State → Heap → Prop} {p : Program} {l : Launch} {e : Env} {s : State} {m : MethodId} {args : Array Value} {below : List Frame} {meth : Method} {c : Code} {D : va_G} {ad kd sd : Nat → Nat} {ca : Nat → ClassId} {A : Nat → Prop} {Q : State → Prop} (hE : o_EK E kd sd) (C : o_Cx E p s m args meth c D o_cls (o_tys ca) "SchemaJudge$Text" b_Tx_member (some .int) 6 cc_Tx_member A) (hDD : ∀ (rt : Nat) (Sj : SSJ) (T0 : STx) (T1 : STx) (Rd : SRd) (Pg : SPg) (Pt : SPt) (Mk : SMk) (Lk : SLk) (Ck : SCk) (Jd : SJd) (Ld : SLd) (Pr : SPr), va_D A (o_cw ad ca rt Sj T0 T1 Rd Pg Pt Mk Lk Ck Jd Ld Pr)) (n : Nat) (u10_x1 : Int32) (u10_x3 : Int32) (u10_a0 : STx) (u10_a2 : STx) (u10_Sj : SSJ) (u10_Rd : SRd) (u10_Pg : SPg) (u10_Pt : SPt) (u10_Mk : SMk) (u10_Lk : SLk) (u10_Ck : SCk) (u10_Jd : SJd) (u10_Ld : SLd) (u10_Pr : SPr) (u10_rt : Nat) (z : Int32 × Int32) (q : Nat × Int32 × Int32) (h : m_Tx_member_b10 n u10_x1 u10_x3 u10_a0 u10_a2 z = some q) (h0 : q.1 = 0 → o_At p l e rm_Tx_member s m args below meth c Q o_cls D A 6 10 [] (o_cw ad ca u10_rt u10_Sj u10_a2 u10_a0 u10_Rd u10_Pg u10_Pt u10_Mk u10_Lk u10_Ck u10_Jd u10_Ld u10_Pr) [(0, .ref (ad 12)), (1, .int u10_x1), (2, .ref (ad 1)), (3, .int u10_x3), (4, .int q.2.1), (5, .int q.2.2)]) (h1 : q.1 ≠ 0 → (if q.1 = 1 then o_At p l e rm_Tx_member s m args below meth c Q o_cls D A 6 33 [] (o_cw ad ca u10_rt u10_Sj u10_a2 u10_a0 u10_Rd u10_Pg u10_Pt u10_Mk u10_Lk u10_Ck u10_Jd u10_Ld u10_Pr) [(4, .int q.2.1)] else o_At p l e rm_Tx_member s m args below meth c Q o_cls D A 6 50 [] (o_cw ad ca u10_rt u10_Sj u10_a2 u10_a0 u10_Rd u10_Pg u10_Pt u10_Mk u10_Lk u10_Ck u10_Jd u10_Ld u10_Pr) [])) : o_At p l e rm_Tx_member s m args below meth c Q o_cls D A 6 10 [] (o_cw ad ca u10_rt u10_Sj u10_a2 u10_a0 u10_Rd u10_Pg u10_Pt u10_Mk u10_Lk u10_Ck u10_Jd u10_Ld u10_Pr) [(0, .ref (ad 12)), (1, .int u10_x1), (2, .ref (ad 1)), (3, .int u10_x3), (4, .int z.1), (5, .int z.2)] := by
  unfold m_Tx_member_b10 at h
  intro H locs ls hP hS hl
  have C0 := C
  obtain ⟨hx, hb, -, -, -, hown, hts, hK, -, -⟩ := C0
  refine lv_iload hx hb d_Tx_member_10 (lv_at hl 5 rfl) ?_
  refine lv_aload_n hx hb d_Tx_member_12 rfl (lv_at hl 0 rfl) ?_
  refine lv_iload_n hx hb d_Tx_member_13 rfl (lv_at hl 1 rfl) ?_
  obtain ⟨q2, hq2, h⟩ := o_bd_some h
  refine o_V (st1 := [.int q2, .int z.2]) (w1 := (o_cw ad ca u10_rt u10_Sj u10_a2 u10_a0 u10_Rd u10_Pg u10_Pt u10_Mk u10_Lk u10_Ck u10_Jd u10_Ld u10_Pr)) hE.1 C (c_Tx_size_1 hE l u10_x1 u10_a0 u10_Sj u10_a2 u10_Rd u10_Pg u10_Pt u10_Mk u10_Lk u10_Ck u10_Jd u10_Ld u10_Pr u10_rt hq2) hP (hDD _ _ _ _ _ _ _ _ _ _ _ _ _) hS hl.1 rfl cw_12 k_3_214 k_3_215 k_3_216 k_1_2 k_3_217 hv_Tx_size rfl rfl ⟨Nat.le_of_ble_eq_true rfl, Nat.le_of_ble_eq_true rfl⟩ rfl (Nat.le_of_ble_eq_true rfl) ⟨Nat.le_of_ble_eq_true rfl, Nat.le_of_ble_eq_true rfl⟩ rfl d_Tx_member_14 (fun H locs hP hS => ?_)
  refine lv_icmp_ge (tgt := 50) hx hb d_Tx_member_17 (by decide) (fun c1 => ?_) (fun c1 => ?_)
  · replace h := o_tt c1 h
    cases h
    exact h1 (Nat.succ_ne_zero 1) _ _ _ hP hS (lv_sub hl [] rfl)
  · replace h := o_ff c1 h
    refine lv_aload_n hx hb d_Tx_member_20 rfl (lv_at hl 0 rfl) ?_
    refine lv_iload hx hb d_Tx_member_21 (lv_at hl 4 rfl) ?_
    refine lv_iconst (v := (1:Int32)) hx hb d_Tx_member_23 (by decide) ?_
    refine lv_isub hx hb d_Tx_member_24 ?_
    refine lv_aload_n hx hb d_Tx_member_25 rfl (lv_at hl 2 rfl) ?_
    refine lv_iload_n hx hb d_Tx_member_26 rfl (lv_at hl 3 rfl) ?_
    obtain ⟨q3, hq3, h⟩ := o_bd_some h
    refine o_S (st1 := [.int q3]) (w1 := (o_cw ad ca u10_rt u10_Sj u10_a2 u10_a0 u10_Rd u10_Pg u10_Pt u10_Mk u10_Lk u10_Ck u10_Jd u10_Ld u10_Pr)) hE.1 C (c_Tx_sameString_10 hE l n (z.1 - (1:Int32)) u10_x3 u10_a0 u10_a2 u10_Sj u10_Rd u10_Pg u10_Pt u10_Mk u10_Lk u10_Ck u10_Jd u10_Ld u10_Pr u10_rt hq3) hP (hDD _ _ _ _ _ _ _ _ _ _ _ _ _) hS hl.1 k_3_218 k_3_219 k_1_2 k_3_220 hs_Tx_sameString rfl rfl ⟨Nat.le_of_ble_eq_true rfl, Nat.le_of_ble_eq_true rfl⟩ rfl (Nat.le_of_ble_eq_true rfl) ⟨Nat.le_of_ble_eq_true rfl, Nat.le_of_ble_eq_true rfl⟩ rfl d_Tx_member_27 (fun H locs hP hS => ?_)
    refine lv_if_eq (tgt := 36) hx hb d_Tx_member_30 (by decide) (fun c2 => ?_) (fun c2 => ?_)
    · replace h := o_tt c2 h
      refine lv_aload_n hx hb d_Tx_member_36 rfl (lv_at hl 0 rfl) ?_
      refine lv_iload hx hb d_Tx_member_37 (lv_at hl 4 rfl) ?_
      obtain ⟨q4, hq4, h⟩ := o_bd_some h
      refine o_V (st1 := [.int q4]) (w1 := (o_cw ad ca u10_rt u10_Sj u10_a2 u10_a0 u10_Rd u10_Pg u10_Pt u10_Mk u10_Lk u10_Ck u10_Jd u10_Ld u10_Pr)) hE.1 C (c_Tx_nextChild_1 hE l z.1 u10_a0 u10_Sj u10_a2 u10_Rd u10_Pg u10_Pt u10_Mk u10_Lk u10_Ck u10_Jd u10_Ld u10_Pr u10_rt hq4) hP (hDD _ _ _ _ _ _ _ _ _ _ _ _ _) hS hl.1 rfl cw_12 k_3_221 k_3_222 k_3_223 k_1_2 k_3_224 hv_Tx_nextChild rfl rfl ⟨Nat.le_of_ble_eq_true rfl, Nat.le_of_ble_eq_true rfl⟩ rfl (Nat.le_of_ble_eq_true rfl) ⟨Nat.le_of_ble_eq_true rfl, Nat.le_of_ble_eq_true rfl⟩ rfl d_Tx_member_39 (fun H locs hP hS => ?_)
      refine lv_istore (lv' := [(4, .int q4), (0, .ref (ad 12)), (1, .int u10_x1), (2, .ref (ad 1)), (3, .int u10_x3), (5, .int z.2)]) hx hb d_Tx_member_42 hl (by decide) rfl (fun ls hl => ?_)
      obtain ⟨x5_44, ex5_44⟩ : ∃ y : Int32, y = z.2 + (1:Int32) := ⟨_, rfl⟩
      replace h := o_nm_at ex5_44 h
      refine lv_iinc (v := x5_44) (lv' := [(5, .int x5_44), (4, .int q4), (0, .ref (ad 12)), (1, .int u10_x1), (2, .ref (ad 1)), (3, .int u10_x3)]) hx hb d_Tx_member_44 hl (k := 5) rfl (by rw [ex5_44]; rfl) (by decide) rfl (fun ls hl => ?_)
      refine lv_goto (tgt := 10) hx hb d_Tx_member_47 (by decide) ?_
      cases h
      exact h0 rfl _ _ _ hP hS (lv_sub hl [2, 3, 4, 5, 1, 0] rfl)
    · replace h := o_ff c2 h
      cases h
      exact h1 (Nat.succ_ne_zero 0) _ _ _ hP hS (lv_sub hl [4] rfl)
set_option maxHeartbeats 4000000 in
set_option maxRecDepth 100000 in
theorem c_Tx_member_10 {E : (Nat → Prop) → State → Heap → Prop} {D : va_G} {ad kd sd : Nat → Nat} {ca : Nat → ClassId} (hE : o_EK E kd sd) (l : Launch) (n : Nat) (x1 : Int32) (x3 : Int32) (a0 : STx) (a2 : STx) (Sj : SSJ) (Rd : SRd) (Pg : SPg) (Pt : SPt) (Mk : SMk) (Lk : SLk) (Ck : SCk) (Jd : SJd) (Ld : SLd) (Pr : SPr) (rt : Nat) {r : Int32} (h : m_Tx_member n x1 x3 a0 a2 = some r) : o_Cn E l D o_cls (o_tys ca) y_Tx_member cc_Tx_member rm_Tx_member [.ref (ad 12), .int x1, .ref (ad 1), .int x3] (o_cw ad ca rt Sj a2 a0 Rd Pg Pt Mk Lk Ck Jd Ld Pr) (o_cw ad ca rt Sj a2 a0 Rd Pg Pt Mk Lk Ck Jd Ld Pr) (some (.int r)) := by
  refine o_Cn_of (by decide) (Nat.le_of_ble_eq_true rfl) ?_
  intro p e s m below meth c A ls C hD hP hS hl
  have hDD : ∀ (rt : Nat) (Sj : SSJ) (T0 : STx) (T1 : STx) (Rd : SRd) (Pg : SPg) (Pt : SPt) (Mk : SMk) (Lk : SLk) (Ck : SCk) (Jd : SJd) (Ld : SLd) (Pr : SPr), va_D A (o_cw ad ca rt Sj T0 T1 Rd Pg Pt Mk Lk Ck Jd Ld Pr) := fun _ _ _ _ _ _ _ _ _ _ _ _ _ => o_D_map hD rfl
  have hl : lv_has ls 6 [(0, .ref (ad 12)), (1, .int x1), (2, .ref (ad 1)), (3, .int x3)] := hl
  unfold m_Tx_member at h
  have C0 := C
  obtain ⟨hx, hb, -, -, -, hown, hts, hK, -, -⟩ := C0
  refine lv_aload_n hx hb d_Tx_member_0 rfl (lv_at hl 0 rfl) ?_
  refine lv_iload_n hx hb d_Tx_member_1 rfl (lv_at hl 1 rfl) ?_
  obtain ⟨q1, hq1, h⟩ := o_bd_some h
  refine o_V (st1 := [.int q1]) (w1 := (o_cw ad ca rt Sj a2 a0 Rd Pg Pt Mk Lk Ck Jd Ld Pr)) hE.1 C (c_Tx_firstChild_1 hE l x1 a0 Sj a2 Rd Pg Pt Mk Lk Ck Jd Ld Pr rt hq1) hP (hDD _ _ _ _ _ _ _ _ _ _ _ _ _) hS hl.1 rfl cw_12 k_3_210 k_3_211 k_3_212 k_1_2 k_3_213 hv_Tx_firstChild rfl rfl ⟨Nat.le_of_ble_eq_true rfl, Nat.le_of_ble_eq_true rfl⟩ rfl (Nat.le_of_ble_eq_true rfl) ⟨Nat.le_of_ble_eq_true rfl, Nat.le_of_ble_eq_true rfl⟩ rfl d_Tx_member_2 (fun H locs hP hS => ?_)
  refine lv_istore (lv' := [(4, .int q1), (0, .ref (ad 12)), (1, .int x1), (2, .ref (ad 1)), (3, .int x3)]) hx hb d_Tx_member_5 hl (by decide) rfl (fun ls hl => ?_)
  refine lv_iconst (v := (0:Int32)) hx hb d_Tx_member_7 (by decide) ?_
  refine lv_istore (lv' := [(5, .int (0:Int32)), (4, .int q1), (0, .ref (ad 12)), (1, .int x1), (2, .ref (ad 1)), (3, .int x3)]) hx hb d_Tx_member_8 hl (by decide) rfl (fun ls hl => ?_)
  obtain ⟨q5, hq5, h⟩ := o_bd_some h
  refine o_sim2 (AH := fun zz => o_At p l e rm_Tx_member s m _ below meth c _ o_cls D A 6 10 [] (o_cw ad ca rt Sj a2 a0 Rd Pg Pt Mk Lk Ck Jd Ld Pr) [(0, .ref (ad 12)), (1, .int x1), (2, .ref (ad 1)), (3, .int x3), (4, .int zz.1), (5, .int zz.2)]) (AX := fun qq => if qq.1 = 1 then o_At p l e rm_Tx_member s m _ below meth c _ o_cls D A 6 33 [] (o_cw ad ca rt Sj a2 a0 Rd Pg Pt Mk Lk Ck Jd Ld Pr) [(4, .int qq.2.1)] else o_At p l e rm_Tx_member s m _ below meth c _ o_cls D A 6 50 [] (o_cw ad ca rt Sj a2 a0 Rd Pg Pt Mk Lk Ck Jd Ld Pr) []) (fun zz qq h h0 h1 => w_Tx_member_b10_10 hE C hDD n x1 x3 a0 a2 Sj Rd Pg Pt Mk Lk Ck Jd Ld Pr rt zz qq h h0 h1) n _ q5 hq5 ?_ _ _ _ hP hS (lv_sub hl [2, 3, 4, 5, 1, 0] rfl)
  by_cases c3 : q5.1 = 1
  · replace h := o_tt c3 h
    refine o_ip c3 ?_
    intro H locs ls hP hS hl
    refine lv_iload hx hb d_Tx_member_33 (lv_at hl 0 rfl) ?_
    cases h
    exact o_ri C hP hS d_Tx_member_35
  replace h := o_ff c3 h
  refine o_in_ c3 ?_
  intro H locs ls hP hS hl
  refine lv_iconst (v := (-1:Int32)) hx hb d_Tx_member_50 (by decide) ?_
  cases h
  exact o_ri (v := (-1:Int32)) C hP hS d_Tx_member_51
set_option maxHeartbeats 4000000 in
set_option maxRecDepth 100000 in
theorem w_Ld_restReaches_b3 {E : (Nat → Prop) → State → Heap → Prop} {p : Program} {l : Launch} {e : Env} {s : State} {m : MethodId} {args : Array Value} {below : List Frame} {meth : Method} {c : Code} {D : va_G} {ad kd sd : Nat → Nat} {ca : Nat → ClassId} {A : Nat → Prop} {Q : State → Prop} (hE : o_EK E kd sd) (C : o_Cx E p s m args meth c D o_cls (o_tys ca) "SchemaJudge$LongDivision" b_Ld_restReaches (some .boolean) 2 cc_Ld_restReaches A) (hDD : ∀ (rt : Nat) (Sj : SSJ) (T0 : STx) (T1 : STx) (Rd : SRd) (Pg : SPg) (Pt : SPt) (Mk : SMk) (Lk : SLk) (Ck : SCk) (Jd : SJd) (Ld : SLd) (Pr : SPr), va_D A (o_cw ad ca rt Sj T0 T1 Rd Pg Pt Mk Lk Ck Jd Ld Pr)) (n : Nat) (u3_Ld : SLd) (u3_Sj : SSJ) (u3_T0 : STx) (u3_T1 : STx) (u3_Rd : SRd) (u3_Pg : SPg) (u3_Pt : SPt) (u3_Mk : SMk) (u3_Lk : SLk) (u3_Ck : SCk) (u3_Jd : SJd) (u3_Pr : SPr) (u3_rt : Nat) (z : Int32) (q : Nat × Int32) (h : m_Ld_restReaches_b3 n u3_Ld z = some q) (h0 : q.1 = 0 → o_At p l e rm_Ld_restReaches s m args below meth c Q o_cls D A 2 3 [] (o_cw ad ca u3_rt u3_Sj u3_T0 u3_T1 u3_Rd u3_Pg u3_Pt u3_Mk u3_Lk u3_Ck u3_Jd u3_Ld u3_Pr) [(0, .ref (ad 51)), (1, .int q.2)]) (h1 : q.1 ≠ 0 → (if q.1 = 1 then o_At p l e rm_Ld_restReaches s m args below meth c Q o_cls D A 2 23 [] (o_cw ad ca u3_rt u3_Sj u3_T0 u3_T1 u3_Rd u3_Pg u3_Pt u3_Mk u3_Lk u3_Ck u3_Jd u3_Ld u3_Pr) [(0, .ref (ad 51)), (1, .int q.2)] else o_At p l e rm_Ld_restReaches s m args below meth c Q o_cls D A 2 51 [] (o_cw ad ca u3_rt u3_Sj u3_T0 u3_T1 u3_Rd u3_Pg u3_Pt u3_Mk u3_Lk u3_Ck u3_Jd u3_Ld u3_Pr) [])) : o_At p l e rm_Ld_restReaches s m args below meth c Q o_cls D A 2 3 [] (o_cw ad ca u3_rt u3_Sj u3_T0 u3_T1 u3_Rd u3_Pg u3_Pt u3_Mk u3_Lk u3_Ck u3_Jd u3_Ld u3_Pr) [(0, .ref (ad 51)), (1, .int z)] := by
  unfold m_Ld_restReaches_b3 at h
  intro H locs ls hP hS hl
  have C0 := C
  obtain ⟨hx, hb, -, -, -, hown, hts, hK, -, -⟩ := C0
  refine lv_iload_n hx hb d_Ld_restReaches_3 rfl (lv_at hl 1 rfl) ?_
  refine lv_if_lt (tgt := 51) hx hb d_Ld_restReaches_4 (by decide) (fun c1 => ?_) (fun c1 => ?_)
  · replace h := o_tt c1 h
    cases h
    exact h1 (Nat.succ_ne_zero 1) _ _ _ hP hS (lv_sub hl [] rfl)
  · replace h := o_ff c1 h
    refine lv_aload_n hx hb d_Ld_restReaches_7 rfl (lv_at hl 0 rfl) ?_
    refine o_get (v := .ref (ad 53)) C in_Ld hP 51 cw_51 rfl 1 (by decide) k_2_51 rfl rfl d_Ld_restReaches_8 ?_
    refine lv_iload_n hx hb d_Ld_restReaches_11 rfl (lv_at hl 1 rfl) ?_
    obtain ⟨g2, h⟩ := o_gd_some h
    refine o_lald (f := (Ld_rest u3_Ld)) C hP 53 42 cw_53 rfl g2 d_Ld_restReaches_12 ?_
    refine lv_aload_n hx hb d_Ld_restReaches_13 rfl (lv_at hl 0 rfl) ?_
    refine o_get (v := .ref (ad 52)) C in_Ld hP 51 cw_51 rfl 0 (by decide) k_2_50 rfl rfl d_Ld_restReaches_14 ?_
    refine lv_iload_n hx hb d_Ld_restReaches_17 rfl (lv_at hl 1 rfl) ?_
    obtain ⟨g3, h⟩ := o_gd_some h
    refine o_lald (f := (Ld_divisor u3_Ld)) C hP 52 41 cw_52 rfl g3 d_Ld_restReaches_18 ?_
    refine W.lcmp hx hb d_Ld_restReaches_19 ?_
    refine lv_if_eq (tgt := 45) hx hb d_Ld_restReaches_20 (by decide) (fun c4 => ?_) (fun c4 => ?_)
    · replace h := o_tt c4 h
      obtain ⟨x1_45, ex1_45⟩ : ∃ y : Int32, y = z + (-1:Int32) := ⟨_, rfl⟩
      replace h := o_nm_at ex1_45 h
      refine lv_iinc (v := x1_45) (lv' := [(1, .int x1_45), (0, .ref (ad 51))]) hx hb d_Ld_restReaches_45 hl (k := 1) rfl (by rw [ex1_45]; rfl) (by decide) rfl (fun ls hl => ?_)
      refine lv_goto (tgt := 3) hx hb d_Ld_restReaches_48 (by decide) ?_
      cases h
      exact h0 rfl _ _ _ hP hS (lv_sub hl [1, 0] rfl)
    · replace h := o_ff c4 h
      cases h
      exact h1 (Nat.succ_ne_zero 0) _ _ _ hP hS (lv_sub hl [0, 1] rfl)
set_option maxHeartbeats 4000000 in
set_option maxRecDepth 100000 in
theorem c_Ld_restReaches {E : (Nat → Prop) → State → Heap → Prop} {D : va_G} {ad kd sd : Nat → Nat} {ca : Nat → ClassId} (hE : o_EK E kd sd) (l : Launch) (n : Nat)  (Ld : SLd) (Sj : SSJ) (T0 : STx) (T1 : STx) (Rd : SRd) (Pg : SPg) (Pt : SPt) (Mk : SMk) (Lk : SLk) (Ck : SCk) (Jd : SJd) (Pr : SPr) (rt : Nat) {r : Int32} (h : m_Ld_restReaches n Ld = some r) : o_Cn E l D o_cls (o_tys ca) y_Ld_restReaches cc_Ld_restReaches rm_Ld_restReaches [.ref (ad 51)] (o_cw ad ca rt Sj T0 T1 Rd Pg Pt Mk Lk Ck Jd Ld Pr) (o_cw ad ca rt Sj T0 T1 Rd Pg Pt Mk Lk Ck Jd Ld Pr) (some (.int r)) := by
  refine o_Cn_of (by decide) (Nat.le_of_ble_eq_true rfl) ?_
  intro p e s m below meth c A ls C hD hP hS hl
  have hDD : ∀ (rt : Nat) (Sj : SSJ) (T0 : STx) (T1 : STx) (Rd : SRd) (Pg : SPg) (Pt : SPt) (Mk : SMk) (Lk : SLk) (Ck : SCk) (Jd : SJd) (Ld : SLd) (Pr : SPr), va_D A (o_cw ad ca rt Sj T0 T1 Rd Pg Pt Mk Lk Ck Jd Ld Pr) := fun _ _ _ _ _ _ _ _ _ _ _ _ _ => o_D_map hD rfl
  have hl : lv_has ls 2 [(0, .ref (ad 51))] := hl
  unfold m_Ld_restReaches at h
  have C0 := C
  obtain ⟨hx, hb, -, -, -, hown, hts, hK, -, -⟩ := C0
  refine lv_bipush (v := (6:Int32)) hx hb d_Ld_restReaches_0 (by decide) ?_
  refine lv_istore_n (lv' := [(1, .int (6:Int32)), (0, .ref (ad 51))]) hx hb d_Ld_restReaches_2 rfl hl (by decide) rfl (fun ls hl => ?_)
  obtain ⟨q1, hq1, h⟩ := o_bd_some h
  refine o_sim2 (AH := fun zz => o_At p l e rm_Ld_restReaches s m _ below meth c _ o_cls D A 2 3 [] (o_cw ad ca rt Sj T0 T1 Rd Pg Pt Mk Lk Ck Jd Ld Pr) [(0, .ref (ad 51)), (1, .int zz)]) (AX := fun qq => if qq.1 = 1 then o_At p l e rm_Ld_restReaches s m _ below meth c _ o_cls D A 2 23 [] (o_cw ad ca rt Sj T0 T1 Rd Pg Pt Mk Lk Ck Jd Ld Pr) [(0, .ref (ad 51)), (1, .int qq.2)] else o_At p l e rm_Ld_restReaches s m _ below meth c _ o_cls D A 2 51 [] (o_cw ad ca rt Sj T0 T1 Rd Pg Pt Mk Lk Ck Jd Ld Pr) []) (fun zz qq h h0 h1 => w_Ld_restReaches_b3 hE C hDD n Ld Sj T0 T1 Rd Pg Pt Mk Lk Ck Jd Pr rt zz qq h h0 h1) n _ q1 hq1 ?_ _ _ _ hP hS (lv_sub hl [1, 0] rfl)
  by_cases c8 : q1.1 = 1
  · replace h := o_tt c8 h
    refine o_ip c8 ?_
    intro H locs ls hP hS hl
    refine lv_aload_n hx hb d_Ld_restReaches_23 rfl (lv_at hl 0 rfl) ?_
    refine o_get (v := .ref (ad 53)) C in_Ld hP 51 cw_51 rfl 1 (by decide) k_2_51 rfl rfl d_Ld_restReaches_24 ?_
    refine lv_iload_n hx hb d_Ld_restReaches_27 rfl (lv_at hl 1 rfl) ?_
    obtain ⟨g5, h⟩ := o_gd_some h
    refine o_lald (f := (Ld_rest Ld)) C hP 53 42 cw_53 rfl g5 d_Ld_restReaches_28 ?_
    refine lv_aload_n hx hb d_Ld_restReaches_29 rfl (lv_at hl 0 rfl) ?_
    refine o_get (v := .ref (ad 52)) C in_Ld hP 51 cw_51 rfl 0 (by decide) k_2_50 rfl rfl d_Ld_restReaches_30 ?_
    refine lv_iload_n hx hb d_Ld_restReaches_33 rfl (lv_at hl 1 rfl) ?_
    obtain ⟨g6, h⟩ := o_gd_some h
    refine o_lald (f := (Ld_divisor Ld)) C hP 52 41 cw_52 rfl g6 d_Ld_restReaches_34 ?_
    refine W.lcmp hx hb d_Ld_restReaches_35 ?_
    refine lv_if_le (tgt := 43) hx hb d_Ld_restReaches_36 (by decide) (fun c7 => ?_) (fun c7 => ?_)
    · replace h := o_tt c7 h
      refine lv_iconst (v := (0:Int32)) hx hb d_Ld_restReaches_43 (by decide) ?_
      cases h
      exact o_rz (v := (0:Int32)) C o_nar0 hP hS d_Ld_restReaches_44
    · replace h := o_ff c7 h
      refine lv_iconst (v := (1:Int32)) hx hb d_Ld_restReaches_39 (by decide) ?_
      refine lv_goto (tgt := 44) hx hb d_Ld_restReaches_40 (by decide) ?_
      cases h
      exact o_rz (v := (1:Int32)) C o_nar1 hP hS d_Ld_restReaches_44
  replace h := o_ff c8 h
  refine o_in_ c8 ?_
  intro H locs ls hP hS hl
  refine lv_iconst (v := (1:Int32)) hx hb d_Ld_restReaches_51 (by decide) ?_
  cases h
  exact o_rz (v := (1:Int32)) C o_nar1 hP hS d_Ld_restReaches_52
set_option maxHeartbeats 4000000 in
set_option maxRecDepth 100000 in
theorem w_Ld_reduce_j58 {E : (Nat → Prop) → State → Heap → Prop} {p : Program} {l : Launch} {e : Env} {s : State} {m : MethodId} {args : Array Value} {below : List Frame} {meth : Method} {c : Code} {D : va_G} {ad kd sd : Nat → Nat} {ca : Nat → ClassId} {A : Nat → Prop} {Q : State → Prop} (hE : o_EK E kd sd) (C : o_Cx E p s m args meth c D o_cls (o_tys ca) "SchemaJudge$LongDivision" b_Ld_reduce none 7 cc_Ld_reduce A) (hDD : ∀ (rt : Nat) (Sj : SSJ) (T0 : STx) (T1 : STx) (Rd : SRd) (Pg : SPg) (Pt : SPt) (Mk : SMk) (Lk : SLk) (Ck : SCk) (Jd : SJd) (Ld : SLd) (Pr : SPr), va_D A (o_cw ad ca rt Sj T0 T1 Rd Pg Pt Mk Lk Ck Jd Ld Pr)) (n : Nat) (u20_x1 : Int32) (u20_Sj : SSJ) (u20_T0 : STx) (u20_T1 : STx) (u20_Rd : SRd) (u20_Pg : SPg) (u20_Pt : SPt) (u20_Mk : SMk) (u20_Lk : SLk) (u20_Ck : SCk) (u20_Jd : SJd) (u20_Pr : SPr) (u20_rt : Nat) (x4 : Int32) (x5 : Int64) (y0 : Int64) (Ld : SLd) {q : Nat × Int64 × Int32 × SLd} (h : m_Ld_reduce_j58 n u20_x1 x4 x5 y0 Ld = some q) (h0 : q.1 = 0 → o_At p l e rm_Ld_reduce s m args below meth c Q o_cls D A 7 20 [] (o_cw ad ca u20_rt u20_Sj u20_T0 u20_T1 u20_Rd u20_Pg u20_Pt u20_Mk u20_Lk u20_Ck u20_Jd q.2.2.2 u20_Pr) [(0, .ref (ad 51)), (1, .int u20_x1), (2, .long q.2.1), (4, .int q.2.2.1)]) (h1 : q.1 ≠ 0 → (o_At p l e rm_Ld_reduce s m args below meth c Q o_cls D A 7 90 [] (o_cw ad ca u20_rt u20_Sj u20_T0 u20_T1 u20_Rd u20_Pg u20_Pt u20_Mk u20_Lk u20_Ck u20_Jd q.2.2.2 u20_Pr) [(0, .ref (ad 51)), (1, .int u20_x1)])) : o_At p l e rm_Ld_reduce s m args below meth c Q o_cls D A 7 58 [.long y0] (o_cw ad ca u20_rt u20_Sj u20_T0 u20_T1 u20_Rd u20_Pg u20_Pt u20_Mk u20_Lk u20_Ck u20_Jd Ld u20_Pr) [(0, .ref (ad 51)), (1, .int u20_x1), (4, .int x4), (5, .long x5)] := by
  unfold m_Ld_reduce_j58 at h
  intro H locs ls hP hS hl
  have C0 := C
  obtain ⟨hx, hb, -, -, -, hown, hts, hK, -, -⟩ := C0
  refine lv_lstore_n (lv' := [(2, .long y0), (0, .ref (ad 51)), (1, .int u20_x1), (4, .int x4), (5, .long x5)]) hx hb d_Ld_reduce_58 rfl hl (by decide) rfl (fun ls hl => ?_)
  refine lv_aload_n hx hb d_Ld_reduce_59 rfl (lv_at hl 1 rfl) ?_
  refine o_get (v := .ref (ad 53)) C in_Ld hP 51 cw_51 rfl 1 (by decide) k_2_51 rfl rfl d_Ld_reduce_60 ?_
  refine lv_iload hx hb d_Ld_reduce_63 (lv_at hl 3 rfl) ?_
  refine lv_lload hx hb d_Ld_reduce_65 (lv_at hl 4 rfl) ?_
  refine lv_lconst (v := (0:Int64)) hx hb d_Ld_reduce_67 (by decide) ?_
  refine W.lcmp hx hb d_Ld_reduce_68 ?_
  refine lv_if_ge (tgt := 81) hx hb d_Ld_reduce_69 (by decide) (fun c7 => ?_) (fun c7 => ?_)
  · replace h := o_tt c7 h
    refine lv_lload hx hb d_Ld_reduce_81 (lv_at hl 4 rfl) ?_
    obtain ⟨g8, h⟩ := o_gd_some h
    refine o_last (f := (Ld_rest Ld)) (w1 := (o_cw ad ca u20_rt u20_Sj u20_T0 u20_T1 u20_Rd u20_Pg u20_Pt u20_Mk u20_Lk u20_Ck u20_Jd (Ld_mk (Ld_divisor Ld) (vp_updL (Ld_rest Ld) x4.toNatClampNeg x5)) u20_Pr)) C hP (hDD _ _ _ _ _ _ _ _ _ _ _ _ _) hS 53 42 cw_53 rfl g8 rfl d_Ld_reduce_83 (fun H locs hP hS => ?_)
    obtain ⟨x4_84, ex4_84⟩ : ∃ y : Int32, y = x4 + (1:Int32) := ⟨_, rfl⟩
    replace h := o_nm_at ex4_84 h
    refine lv_iinc (v := x4_84) (lv' := [(4, .int x4_84), (2, .long y0), (0, .ref (ad 51)), (1, .int u20_x1), (5, .long x5)]) hx hb d_Ld_reduce_84 hl (k := 3) rfl (by rw [ex4_84]; rfl) (by decide) rfl (fun ls hl => ?_)
    refine lv_goto (tgt := 20) hx hb d_Ld_reduce_87 (by decide) ?_
    cases h
    exact h0 rfl _ _ _ hP hS (lv_sub hl [2, 3, 1, 0] rfl)
  · replace h := o_ff c7 h
    refine lv_lload hx hb d_Ld_reduce_72 (lv_at hl 4 rfl) ?_
    refine lv_ldc2 (v := (1000000000:Int64)) hx hb hown (hts _ k_6_203) d_Ld_reduce_74 ?_
    refine lv_ladd hx hb d_Ld_reduce_77 ?_
    refine lv_goto (tgt := 83) hx hb d_Ld_reduce_78 (by decide) ?_
    obtain ⟨g9, h⟩ := o_gd_some h
    refine o_last (f := (Ld_rest Ld)) (w1 := (o_cw ad ca u20_rt u20_Sj u20_T0 u20_T1 u20_Rd u20_Pg u20_Pt u20_Mk u20_Lk u20_Ck u20_Jd (Ld_mk (Ld_divisor Ld) (vp_updL (Ld_rest Ld) x4.toNatClampNeg (x5 + (1000000000:Int64)))) u20_Pr)) C hP (hDD _ _ _ _ _ _ _ _ _ _ _ _ _) hS 53 42 cw_53 rfl g9 rfl d_Ld_reduce_83 (fun H locs hP hS => ?_)
    obtain ⟨x4_84, ex4_84⟩ : ∃ y : Int32, y = x4 + (1:Int32) := ⟨_, rfl⟩
    replace h := o_nm_at ex4_84 h
    refine lv_iinc (v := x4_84) (lv' := [(4, .int x4_84), (2, .long y0), (0, .ref (ad 51)), (1, .int u20_x1), (5, .long x5)]) hx hb d_Ld_reduce_84 hl (k := 3) rfl (by rw [ex4_84]; rfl) (by decide) rfl (fun ls hl => ?_)
    refine lv_goto (tgt := 20) hx hb d_Ld_reduce_87 (by decide) ?_
    cases h
    exact h0 rfl _ _ _ hP hS (lv_sub hl [2, 3, 1, 0] rfl)
set_option maxHeartbeats 4000000 in
set_option maxRecDepth 100000 in
theorem w_Ld_reduce_b20 {E : (Nat → Prop) → State → Heap → Prop} {p : Program} {l : Launch} {e : Env} {s : State} {m : MethodId} {args : Array Value} {below : List Frame} {meth : Method} {c : Code} {D : va_G} {ad kd sd : Nat → Nat} {ca : Nat → ClassId} {A : Nat → Prop} {Q : State → Prop} (hE : o_EK E kd sd) (C : o_Cx E p s m args meth c D o_cls (o_tys ca) "SchemaJudge$LongDivision" b_Ld_reduce none 7 cc_Ld_reduce A) (hDD : ∀ (rt : Nat) (Sj : SSJ) (T0 : STx) (T1 : STx) (Rd : SRd) (Pg : SPg) (Pt : SPt) (Mk : SMk) (Lk : SLk) (Ck : SCk) (Jd : SJd) (Ld : SLd) (Pr : SPr), va_D A (o_cw ad ca rt Sj T0 T1 Rd Pg Pt Mk Lk Ck Jd Ld Pr)) (n : Nat) (u20_x1 : Int32) (u20_Sj : SSJ) (u20_T0 : STx) (u20_T1 : STx) (u20_Rd : SRd) (u20_Pg : SPg) (u20_Pt : SPt) (u20_Mk : SMk) (u20_Lk : SLk) (u20_Ck : SCk) (u20_Jd : SJd) (u20_Pr : SPr) (u20_rt : Nat) (z : Int64 × Int32 × SLd) (q : Nat × Int64 × Int32 × SLd) (h : m_Ld_reduce_b20 n u20_x1 z = some q) (h0 : q.1 = 0 → o_At p l e rm_Ld_reduce s m args below meth c Q o_cls D A 7 20 [] (o_cw ad ca u20_rt u20_Sj u20_T0 u20_T1 u20_Rd u20_Pg u20_Pt u20_Mk u20_Lk u20_Ck u20_Jd q.2.2.2 u20_Pr) [(0, .ref (ad 51)), (1, .int u20_x1), (2, .long q.2.1), (4, .int q.2.2.1)]) (h1 : q.1 ≠ 0 → (o_At p l e rm_Ld_reduce s m args below meth c Q o_cls D A 7 90 [] (o_cw ad ca u20_rt u20_Sj u20_T0 u20_T1 u20_Rd u20_Pg u20_Pt u20_Mk u20_Lk u20_Ck u20_Jd q.2.2.2 u20_Pr) [(0, .ref (ad 51)), (1, .int u20_x1)])) : o_At p l e rm_Ld_reduce s m args below meth c Q o_cls D A 7 20 [] (o_cw ad ca u20_rt u20_Sj u20_T0 u20_T1 u20_Rd u20_Pg u20_Pt u20_Mk u20_Lk u20_Ck u20_Jd z.2.2 u20_Pr) [(0, .ref (ad 51)), (1, .int u20_x1), (2, .long z.1), (4, .int z.2.1)] := by
  unfold m_Ld_reduce_b20 at h
  intro H locs ls hP hS hl
  have C0 := C
  obtain ⟨hx, hb, -, -, -, hown, hts, hK, -, -⟩ := C0
  refine lv_iload hx hb d_Ld_reduce_20 (lv_at hl 3 rfl) ?_
  refine lv_bipush (v := (7:Int32)) hx hb d_Ld_reduce_22 (by decide) ?_
  refine lv_icmp_ge (tgt := 90) hx hb d_Ld_reduce_24 (by decide) (fun c3 => ?_) (fun c3 => ?_)
  · replace h := o_tt c3 h
    cases h
    exact h1 (Nat.succ_ne_zero 0) _ _ _ hP hS (lv_sub hl [0, 1] rfl)
  · replace h := o_ff c3 h
    refine lv_aload_n hx hb d_Ld_reduce_27 rfl (lv_at hl 0 rfl) ?_
    refine o_get (v := .ref (ad 53)) C in_Ld hP 51 cw_51 rfl 1 (by decide) k_2_51 rfl rfl d_Ld_reduce_28 ?_
    refine lv_iload hx hb d_Ld_reduce_31 (lv_at hl 3 rfl) ?_
    obtain ⟨g4, h⟩ := o_gd_some h
    refine o_lald (f := (Ld_rest z.2.2)) C hP 53 42 cw_53 rfl g4 d_Ld_reduce_33 ?_
    refine lv_aload_n hx hb d_Ld_reduce_34 rfl (lv_at hl 0 rfl) ?_
    refine o_get (v := .ref (ad 52)) C in_Ld hP 51 cw_51 rfl 0 (by decide) k_2_50 rfl rfl d_Ld_reduce_35 ?_
    refine lv_iload hx hb d_Ld_reduce_38 (lv_at hl 3 rfl) ?_
    obtain ⟨g5, h⟩ := o_gd_some h
    refine o_lald (f := (Ld_divisor z.2.2)) C hP 52 41 cw_52 rfl g5 d_Ld_reduce_40 ?_
    refine lv_lsub hx hb d_Ld_reduce_41 ?_
    refine lv_lload_n hx hb d_Ld_reduce_42 rfl (lv_at hl 2 rfl) ?_
    refine lv_lsub hx hb d_Ld_reduce_43 ?_
    refine lv_topl (fun x5_44 ex5_44 => ?_)
    replace h := o_nm_at ex5_44 h
    refine lv_lstore (lv' := [(5, .long x5_44), (0, .ref (ad 51)), (1, .int u20_x1), (2, .long z.1), (4, .int z.2.1)]) hx hb d_Ld_reduce_44 hl (by decide) rfl (fun ls hl => ?_)
    refine lv_lload hx hb d_Ld_reduce_46 (lv_at hl 0 rfl) ?_
    refine lv_lconst (v := (0:Int64)) hx hb d_Ld_reduce_48 (by decide) ?_
    refine W.lcmp hx hb d_Ld_reduce_49 ?_
    refine lv_if_ge (tgt := 57) hx hb d_Ld_reduce_50 (by decide) (fun c6 => ?_) (fun c6 => ?_)
    · replace h := o_tt c6 h
      refine lv_lconst (v := (0:Int64)) hx hb d_Ld_reduce_57 (by decide) ?_
      exact w_Ld_reduce_j58 hE C hDD n u20_x1 u20_Sj u20_T0 u20_T1 u20_Rd u20_Pg u20_Pt u20_Mk u20_Lk u20_Ck u20_Jd u20_Pr u20_rt z.2.1 x5_44 (0:Int64) z.2.2 h h0 h1 _ _ _ hP hS (lv_sub hl [1, 2, 4, 0] rfl)
    · replace h := o_ff c6 h
      refine lv_lconst (v := (1:Int64)) hx hb d_Ld_reduce_53 (by decide) ?_
      refine lv_goto (tgt := 58) hx hb d_Ld_reduce_54 (by decide) ?_
      exact w_Ld_reduce_j58 hE C hDD n u20_x1 u20_Sj u20_T0 u20_T1 u20_Rd u20_Pg u20_Pt u20_Mk u20_Lk u20_Ck u20_Jd u20_Pr u20_rt z.2.1 x5_44 (1:Int64) z.2.2 h h0 h1 _ _ _ hP hS (lv_sub hl [1, 2, 4, 0] rfl)
set_option maxHeartbeats 4000000 in
set_option maxRecDepth 100000 in
theorem w_Ld_reduce_b2 {E : (Nat → Prop) → State → Heap → Prop} {p : Program} {l : Launch} {e : Env} {s : State} {m : MethodId} {args : Array Value} {below : List Frame} {meth : Method} {c : Code} {D : va_G} {ad kd sd : Nat → Nat} {ca : Nat → ClassId} {A : Nat → Prop} {Q : State → Prop} (hE : o_EK E kd sd) (C : o_Cx E p s m args meth c D o_cls (o_tys ca) "SchemaJudge$LongDivision" b_Ld_reduce none 7 cc_Ld_reduce A) (hDD : ∀ (rt : Nat) (Sj : SSJ) (T0 : STx) (T1 : STx) (Rd : SRd) (Pg : SPg) (Pt : SPt) (Mk : SMk) (Lk : SLk) (Ck : SCk) (Jd : SJd) (Ld : SLd) (Pr : SPr), va_D A (o_cw ad ca rt Sj T0 T1 Rd Pg Pt Mk Lk Ck Jd Ld Pr)) (n : Nat) (u2_Sj : SSJ) (u2_T0 : STx) (u2_T1 : STx) (u2_Rd : SRd) (u2_Pg : SPg) (u2_Pt : SPt) (u2_Mk : SMk) (u2_Lk : SLk) (u2_Ck : SCk) (u2_Jd : SJd) (u2_Pr : SPr) (u2_rt : Nat) (z : Int32 × SLd) (q : Nat × Int32 × SLd) (h : m_Ld_reduce_b2 n z = some q) (h0 : q.1 = 0 → o_At p l e rm_Ld_reduce s m args below meth c Q o_cls D A 7 2 [] (o_cw ad ca u2_rt u2_Sj u2_T0 u2_T1 u2_Rd u2_Pg u2_Pt u2_Mk u2_Lk u2_Ck u2_Jd q.2.2 u2_Pr) [(0, .ref (ad 51)), (1, .int q.2.1)]) (h1 : q.1 ≠ 0 → (o_At p l e rm_Ld_reduce s m args below meth c Q o_cls D A 7 96 [] (o_cw ad ca u2_rt u2_Sj u2_T0 u2_T1 u2_Rd u2_Pg u2_Pt u2_Mk u2_Lk u2_Ck u2_Jd q.2.2 u2_Pr) [])) : o_At p l e rm_Ld_reduce s m args below meth c Q o_cls D A 7 2 [] (o_cw ad ca u2_rt u2_Sj u2_T0 u2_T1 u2_Rd u2_Pg u2_Pt u2_Mk u2_Lk u2_Ck u2_Jd z.2 u2_Pr) [(0, .ref (ad 51)), (1, .int z.1)] := by
  unfold m_Ld_reduce_b2 at h
  intro H locs ls hP hS hl
  have C0 := C
  obtain ⟨hx, hb, -, -, -, hown, hts, hK, -, -⟩ := C0
  refine lv_iload_n hx hb d_Ld_reduce_2 rfl (lv_at hl 1 rfl) ?_
  refine lv_bipush (v := (10:Int32)) hx hb d_Ld_reduce_3 (by decide) ?_
  refine lv_icmp_ge (tgt := 96) hx hb d_Ld_reduce_5 (by decide) (fun c1 => ?_) (fun c1 => ?_)
  · replace h := o_tt c1 h
    cases h
    exact h1 (Nat.succ_ne_zero 0) _ _ _ hP hS (lv_sub hl [] rfl)
  · replace h := o_ff c1 h
    refine lv_aload_n hx hb d_Ld_reduce_8 rfl (lv_at hl 0 rfl) ?_
    obtain ⟨q1, hq1, h⟩ := o_bd_some h
    refine o_V (st1 := [.int q1]) (w1 := (o_cw ad ca u2_rt u2_Sj u2_T0 u2_T1 u2_Rd u2_Pg u2_Pt u2_Mk u2_Lk u2_Ck u2_Jd z.2 u2_Pr)) hE.1 C (c_Ld_restReaches hE l n z.2 u2_Sj u2_T0 u2_T1 u2_Rd u2_Pg u2_Pt u2_Mk u2_Lk u2_Ck u2_Jd u2_Pr u2_rt hq1) hP (hDD _ _ _ _ _ _ _ _ _ _ _ _ _) hS hl.1 rfl cw_51 k_6_209 k_6_211 k_s_76 k_1_10 k_6_212 hv_Ld_restReaches rfl rfl ⟨Nat.le_of_ble_eq_true rfl, Nat.le_of_ble_eq_true rfl⟩ rfl (Nat.le_of_ble_eq_true rfl) ⟨Nat.le_of_ble_eq_true rfl, Nat.le_of_ble_eq_true rfl⟩ rfl d_Ld_reduce_9 (fun H locs hP hS => ?_)
    refine lv_if_eq (tgt := 96) hx hb d_Ld_reduce_12 (by decide) (fun c2 => ?_) (fun c2 => ?_)
    · replace h := o_tt c2 h
      cases h
      exact h1 (Nat.succ_ne_zero 0) _ _ _ hP hS (lv_sub hl [] rfl)
    · replace h := o_ff c2 h
      refine lv_lconst (v := (0:Int64)) hx hb d_Ld_reduce_15 (by decide) ?_
      refine lv_lstore_n (lv' := [(2, .long (0:Int64)), (0, .ref (ad 51)), (1, .int z.1)]) hx hb d_Ld_reduce_16 rfl hl (by decide) rfl (fun ls hl => ?_)
      refine lv_iconst (v := (0:Int32)) hx hb d_Ld_reduce_17 (by decide) ?_
      refine lv_istore (lv' := [(4, .int (0:Int32)), (2, .long (0:Int64)), (0, .ref (ad 51)), (1, .int z.1)]) hx hb d_Ld_reduce_18 hl (by decide) rfl (fun ls hl => ?_)
      obtain ⟨q2, hq2, h⟩ := o_bd_some h
      refine o_sim2 (AH := fun zz => o_At p l e rm_Ld_reduce s m args below meth c _ o_cls D A 7 20 [] (o_cw ad ca u2_rt u2_Sj u2_T0 u2_T1 u2_Rd u2_Pg u2_Pt u2_Mk u2_Lk u2_Ck u2_Jd zz.2.2 u2_Pr) [(0, .ref (ad 51)), (1, .int z.1), (2, .long zz.1), (4, .int zz.2.1)]) (AX := fun qq => o_At p l e rm_Ld_reduce s m args below meth c _ o_cls D A 7 90 [] (o_cw ad ca u2_rt u2_Sj u2_T0 u2_T1 u2_Rd u2_Pg u2_Pt u2_Mk u2_Lk u2_Ck u2_Jd qq.2.2.2 u2_Pr) [(0, .ref (ad 51)), (1, .int z.1)]) (fun zz qq h h0 h1 => w_Ld_reduce_b20 hE C hDD n z.1 u2_Sj u2_T0 u2_T1 u2_Rd u2_Pg u2_Pt u2_Mk u2_Lk u2_Ck u2_Jd u2_Pr u2_rt zz qq h h0 h1) n _ q2 hq2 ?_ _ _ _ hP hS (lv_sub hl [2, 3, 1, 0] rfl)
      intro H locs ls hP hS hl
      obtain ⟨x1_90, ex1_90⟩ : ∃ y : Int32, y = z.1 + (1:Int32) := ⟨_, rfl⟩
      replace h := o_nm_at ex1_90 h
      refine lv_iinc (v := x1_90) (lv' := [(1, .int x1_90), (0, .ref (ad 51))]) hx hb d_Ld_reduce_90 hl (k := 1) rfl (by rw [ex1_90]; rfl) (by decide) rfl (fun ls hl => ?_)
      refine lv_goto (tgt := 2) hx hb d_Ld_reduce_93 (by decide) ?_
      cases h
      exact h0 rfl _ _ _ hP hS (lv_sub hl [1, 0] rfl)
set_option maxHeartbeats 4000000 in
set_option maxRecDepth 100000 in
theorem c_Ld_reduce {E : (Nat → Prop) → State → Heap → Prop} {D : va_G} {ad kd sd : Nat → Nat} {ca : Nat → ClassId} (hE : o_EK E kd sd) (l : Launch) (n : Nat)  (Ld : SLd) (Sj : SSJ) (T0 : STx) (T1 : STx) (Rd : SRd) (Pg : SPg) (Pt : SPt) (Mk : SMk) (Lk : SLk) (Ck : SCk) (Jd : SJd) (Pr : SPr) (rt : Nat) {r : SLd} (h : m_Ld_reduce n Ld = some r) : o_Cn E l D o_cls (o_tys ca) y_Ld_reduce cc_Ld_reduce rm_Ld_reduce [.ref (ad 51)] (o_cw ad ca rt Sj T0 T1 Rd Pg Pt Mk Lk Ck Jd Ld Pr) (o_cw ad ca rt Sj T0 T1 Rd Pg Pt Mk Lk Ck Jd r Pr) none := by
  refine o_Cn_of (by decide) (Nat.le_of_ble_eq_true rfl) ?_
  intro p e s m below meth c A ls C hD hP hS hl
  have hDD : ∀ (rt : Nat) (Sj : SSJ) (T0 : STx) (T1 : STx) (Rd : SRd) (Pg : SPg) (Pt : SPt) (Mk : SMk) (Lk : SLk) (Ck : SCk) (Jd : SJd) (Ld : SLd) (Pr : SPr), va_D A (o_cw ad ca rt Sj T0 T1 Rd Pg Pt Mk Lk Ck Jd Ld Pr) := fun _ _ _ _ _ _ _ _ _ _ _ _ _ => o_D_map hD rfl
  have hl : lv_has ls 7 [(0, .ref (ad 51))] := hl
  unfold m_Ld_reduce at h
  have C0 := C
  obtain ⟨hx, hb, -, -, -, hown, hts, hK, -, -⟩ := C0
  refine lv_iconst (v := (0:Int32)) hx hb d_Ld_reduce_0 (by decide) ?_
  refine lv_istore_n (lv' := [(1, .int (0:Int32)), (0, .ref (ad 51))]) hx hb d_Ld_reduce_1 rfl hl (by decide) rfl (fun ls hl => ?_)
  obtain ⟨q3, hq3, h⟩ := o_bd_some h
  refine o_sim2 (AH := fun zz => o_At p l e rm_Ld_reduce s m _ below meth c _ o_cls D A 7 2 [] (o_cw ad ca rt Sj T0 T1 Rd Pg Pt Mk Lk Ck Jd zz.2 Pr) [(0, .ref (ad 51)), (1, .int zz.1)]) (AX := fun qq => o_At p l e rm_Ld_reduce s m _ below meth c _ o_cls D A 7 96 [] (o_cw ad ca rt Sj T0 T1 Rd Pg Pt Mk Lk Ck Jd qq.2.2 Pr) []) (fun zz qq h h0 h1 => w_Ld_reduce_b2 hE C hDD n Sj T0 T1 Rd Pg Pt Mk Lk Ck Jd Pr rt zz qq h h0 h1) n _ q3 hq3 ?_ _ _ _ hP hS (lv_sub hl [1, 0] rfl)
  intro H locs ls hP hS hl
  cases h
  exact o_rv C hP hS d_Ld_reduce_96
set_option maxHeartbeats 4000000 in
set_option maxRecDepth 100000 in
theorem w_Ld_isZero_b2 {E : (Nat → Prop) → State → Heap → Prop} {p : Program} {l : Launch} {e : Env} {s : State} {m : MethodId} {args : Array Value} {below : List Frame} {meth : Method} {c : Code} {D : va_G} {ad kd sd : Nat → Nat} {ca : Nat → ClassId} {A : Nat → Prop} {Q : State → Prop} (hE : o_EK E kd sd) (C : o_Cx E p s m args meth c D o_cls (o_tys ca) "SchemaJudge$LongDivision" b_Ld_isZero (some .boolean) 2 cc_Ld_isZero A) (hDD : ∀ (rt : Nat) (Sj : SSJ) (T0 : STx) (T1 : STx) (Rd : SRd) (Pg : SPg) (Pt : SPt) (Mk : SMk) (Lk : SLk) (Ck : SCk) (Jd : SJd) (Ld : SLd) (Pr : SPr), va_D A (o_cw ad ca rt Sj T0 T1 Rd Pg Pt Mk Lk Ck Jd Ld Pr)) (n : Nat) (u2_Ld : SLd) (u2_Sj : SSJ) (u2_T0 : STx) (u2_T1 : STx) (u2_Rd : SRd) (u2_Pg : SPg) (u2_Pt : SPt) (u2_Mk : SMk) (u2_Lk : SLk) (u2_Ck : SCk) (u2_Jd : SJd) (u2_Pr : SPr) (u2_rt : Nat) (z : Int32) (q : Nat × Int32) (h : m_Ld_isZero_b2 n u2_Ld z = some q) (h0 : q.1 = 0 → o_At p l e rm_Ld_isZero s m args below meth c Q o_cls D A 2 2 [] (o_cw ad ca u2_rt u2_Sj u2_T0 u2_T1 u2_Rd u2_Pg u2_Pt u2_Mk u2_Lk u2_Ck u2_Jd u2_Ld u2_Pr) [(0, .ref (ad 51)), (1, .int q.2)]) (h1 : q.1 ≠ 0 → (if q.1 = 1 then o_At p l e rm_Ld_isZero s m args below meth c Q o_cls D A 2 19 [] (o_cw ad ca u2_rt u2_Sj u2_T0 u2_T1 u2_Rd u2_Pg u2_Pt u2_Mk u2_Lk u2_Ck u2_Jd u2_Ld u2_Pr) [] else o_At p l e rm_Ld_isZero s m args below meth c Q o_cls D A 2 27 [] (o_cw ad ca u2_rt u2_Sj u2_T0 u2_T1 u2_Rd u2_Pg u2_Pt u2_Mk u2_Lk u2_Ck u2_Jd u2_Ld u2_Pr) [])) : o_At p l e rm_Ld_isZero s m args below meth c Q o_cls D A 2 2 [] (o_cw ad ca u2_rt u2_Sj u2_T0 u2_T1 u2_Rd u2_Pg u2_Pt u2_Mk u2_Lk u2_Ck u2_Jd u2_Ld u2_Pr) [(0, .ref (ad 51)), (1, .int z)] := by
  unfold m_Ld_isZero_b2 at h
  intro H locs ls hP hS hl
  have C0 := C
  obtain ⟨hx, hb, -, -, -, hown, hts, hK, -, -⟩ := C0
  refine lv_iload_n hx hb d_Ld_isZero_2 rfl (lv_at hl 1 rfl) ?_
  refine lv_bipush (v := (7:Int32)) hx hb d_Ld_isZero_3 (by decide) ?_
  refine lv_icmp_ge (tgt := 27) hx hb d_Ld_isZero_5 (by decide) (fun c1 => ?_) (fun c1 => ?_)
  · replace h := o_tt c1 h
    cases h
    exact h1 (Nat.succ_ne_zero 1) _ _ _ hP hS (lv_sub hl [] rfl)
  · replace h := o_ff c1 h
    refine lv_aload_n hx hb d_Ld_isZero_8 rfl (lv_at hl 0 rfl) ?_
    refine o_get (v := .ref (ad 53)) C in_Ld hP 51 cw_51 rfl 1 (by decide) k_2_51 rfl rfl d_Ld_isZero_9 ?_
    refine lv_iload_n hx hb d_Ld_isZero_12 rfl (lv_at hl 1 rfl) ?_
    obtain ⟨g2, h⟩ := o_gd_some h
    refine o_lald (f := (Ld_rest u2_Ld)) C hP 53 42 cw_53 rfl g2 d_Ld_isZero_13 ?_
    refine lv_lconst (v := (0:Int64)) hx hb d_Ld_isZero_14 (by decide) ?_
    refine W.lcmp hx hb d_Ld_isZero_15 ?_
    refine lv_if_eq (tgt := 21) hx hb d_Ld_isZero_16 (by decide) (fun c3 => ?_) (fun c3 => ?_)
    · replace h := o_tt c3 h
      obtain ⟨x1_21, ex1_21⟩ : ∃ y : Int32, y = z + (1:Int32) := ⟨_, rfl⟩
      replace h := o_nm_at ex1_21 h
      refine lv_iinc (v := x1_21) (lv' := [(1, .int x1_21), (0, .ref (ad 51))]) hx hb d_Ld_isZero_21 hl (k := 1) rfl (by rw [ex1_21]; rfl) (by decide) rfl (fun ls hl => ?_)
      refine lv_goto (tgt := 2) hx hb d_Ld_isZero_24 (by decide) ?_
      cases h
      exact h0 rfl _ _ _ hP hS (lv_sub hl [1, 0] rfl)
    · replace h := o_ff c3 h
      cases h
      exact h1 (Nat.succ_ne_zero 0) _ _ _ hP hS (lv_sub hl [] rfl)
set_option maxHeartbeats 4000000 in
set_option maxRecDepth 100000 in
theorem c_Ld_isZero {E : (Nat → Prop) → State → Heap → Prop} {D : va_G} {ad kd sd : Nat → Nat} {ca : Nat → ClassId} (hE : o_EK E kd sd) (l : Launch) (n : Nat)  (Ld : SLd) (Sj : SSJ) (T0 : STx) (T1 : STx) (Rd : SRd) (Pg : SPg) (Pt : SPt) (Mk : SMk) (Lk : SLk) (Ck : SCk) (Jd : SJd) (Pr : SPr) (rt : Nat) {r : Int32} (h : m_Ld_isZero n Ld = some r) : o_Cn E l D o_cls (o_tys ca) y_Ld_isZero cc_Ld_isZero rm_Ld_isZero [.ref (ad 51)] (o_cw ad ca rt Sj T0 T1 Rd Pg Pt Mk Lk Ck Jd Ld Pr) (o_cw ad ca rt Sj T0 T1 Rd Pg Pt Mk Lk Ck Jd Ld Pr) (some (.int r)) := by
  refine o_Cn_of (by decide) (Nat.le_of_ble_eq_true rfl) ?_
  intro p e s m below meth c A ls C hD hP hS hl
  have hDD : ∀ (rt : Nat) (Sj : SSJ) (T0 : STx) (T1 : STx) (Rd : SRd) (Pg : SPg) (Pt : SPt) (Mk : SMk) (Lk : SLk) (Ck : SCk) (Jd : SJd) (Ld : SLd) (Pr : SPr), va_D A (o_cw ad ca rt Sj T0 T1 Rd Pg Pt Mk Lk Ck Jd Ld Pr) := fun _ _ _ _ _ _ _ _ _ _ _ _ _ => o_D_map hD rfl
  have hl : lv_has ls 2 [(0, .ref (ad 51))] := hl
  unfold m_Ld_isZero at h
  have C0 := C
  obtain ⟨hx, hb, -, -, -, hown, hts, hK, -, -⟩ := C0
  refine lv_iconst (v := (0:Int32)) hx hb d_Ld_isZero_0 (by decide) ?_
  refine lv_istore_n (lv' := [(1, .int (0:Int32)), (0, .ref (ad 51))]) hx hb d_Ld_isZero_1 rfl hl (by decide) rfl (fun ls hl => ?_)
  obtain ⟨q1, hq1, h⟩ := o_bd_some h
  refine o_sim2 (AH := fun zz => o_At p l e rm_Ld_isZero s m _ below meth c _ o_cls D A 2 2 [] (o_cw ad ca rt Sj T0 T1 Rd Pg Pt Mk Lk Ck Jd Ld Pr) [(0, .ref (ad 51)), (1, .int zz)]) (AX := fun qq => if qq.1 = 1 then o_At p l e rm_Ld_isZero s m _ below meth c _ o_cls D A 2 19 [] (o_cw ad ca rt Sj T0 T1 Rd Pg Pt Mk Lk Ck Jd Ld Pr) [] else o_At p l e rm_Ld_isZero s m _ below meth c _ o_cls D A 2 27 [] (o_cw ad ca rt Sj T0 T1 Rd Pg Pt Mk Lk Ck Jd Ld Pr) []) (fun zz qq h h0 h1 => w_Ld_isZero_b2 hE C hDD n Ld Sj T0 T1 Rd Pg Pt Mk Lk Ck Jd Pr rt zz qq h h0 h1) n _ q1 hq1 ?_ _ _ _ hP hS (lv_sub hl [1, 0] rfl)
  by_cases c4 : q1.1 = 1
  · replace h := o_tt c4 h
    refine o_ip c4 ?_
    intro H locs ls hP hS hl
    refine lv_iconst (v := (0:Int32)) hx hb d_Ld_isZero_19 (by decide) ?_
    cases h
    exact o_rz (v := (0:Int32)) C o_nar0 hP hS d_Ld_isZero_20
  replace h := o_ff c4 h
  refine o_in_ c4 ?_
  intro H locs ls hP hS hl
  refine lv_iconst (v := (1:Int32)) hx hb d_Ld_isZero_27 (by decide) ?_
  cases h
  exact o_rz (v := (1:Int32)) C o_nar1 hP hS d_Ld_isZero_28
set_option maxHeartbeats 4000000 in
set_option maxRecDepth 100000 in
theorem w_Tx_sameString_b102_11 {E : (Nat → Prop) → State → Heap → Prop} {p : Program} {l : Launch} {e : Env} {s : State} {m : MethodId} {args : Array Value} {below : List Frame} {meth : Method} {c : Code} {D : va_G} {ad kd sd : Nat → Nat} {ca : Nat → ClassId} {A : Nat → Prop} {Q : State → Prop} (hE : o_EK E kd sd) (C : o_Cx E p s m args meth c D o_cls (o_tys ca) "SchemaJudge$Text" b_Tx_sameString (some .boolean) 8 cc_Tx_sameString A) (hDD : ∀ (rt : Nat) (Sj : SSJ) (T0 : STx) (T1 : STx) (Rd : SRd) (Pg : SPg) (Pt : SPt) (Mk : SMk) (Lk : SLk) (Ck : SCk) (Jd : SJd) (Ld : SLd) (Pr : SPr), va_D A (o_cw ad ca rt Sj T0 T1 Rd Pg Pt Mk Lk Ck Jd Ld Pr)) (n : Nat) (u102_x4 : Int32) (u102_x5 : Int32) (u102_x6 : Int32) (u102_a0 : STx) (u102_Sj : SSJ) (u102_T0 : STx) (u102_Rd : SRd) (u102_Pg : SPg) (u102_Pt : SPt) (u102_Mk : SMk) (u102_Lk : SLk) (u102_Ck : SCk) (u102_Jd : SJd) (u102_Ld : SLd) (u102_Pr : SPr) (u102_rt : Nat) (z : Int32) (q : Nat × Int32) (h : m_Tx_sameString_b102 n u102_x4 u102_x5 u102_x6 u102_a0 u102_a0 z = some q) (h0 : q.1 = 0 → o_At p l e rm_Tx_sameString s m args below meth c Q o_cls D A 8 102 [] (o_cw ad ca u102_rt u102_Sj u102_T0 u102_a0 u102_Rd u102_Pg u102_Pt u102_Mk u102_Lk u102_Ck u102_Jd u102_Ld u102_Pr) [(0, .ref (ad 12)), (2, .ref (ad 12)), (4, .int u102_x4), (5, .int u102_x5), (6, .int u102_x6), (7, .int q.2)]) (h1 : q.1 ≠ 0 → (if q.1 = 1 then o_At p l e rm_Tx_sameString s m args below meth c Q o_cls D A 8 132 [] (o_cw ad ca u102_rt u102_Sj u102_T0 u102_a0 u102_Rd u102_Pg u102_Pt u102_Mk u102_Lk u102_Ck u102_Jd u102_Ld u102_Pr) [] else o_At p l e rm_Tx_sameString s m args below meth c Q o_cls D A 8 140 [] (o_cw ad ca u102_rt u102_Sj u102_T0 u102_a0 u102_Rd u102_Pg u102_Pt u102_Mk u102_Lk u102_Ck u102_Jd u102_Ld u102_Pr) [])) : o_At p l e rm_Tx_sameString s m args below meth c Q o_cls D A 8 102 [] (o_cw ad ca u102_rt u102_Sj u102_T0 u102_a0 u102_Rd u102_Pg u102_Pt u102_Mk u102_Lk u102_Ck u102_Jd u102_Ld u102_Pr) [(0, .ref (ad 12)), (2, .ref (ad 12)), (4, .int u102_x4), (5, .int u102_x5), (6, .int u102_x6), (7, .int z)] := by
  unfold m_Tx_sameString_b102 at h
  intro H locs ls hP hS hl
  have C0 := C
  obtain ⟨hx, hb, -, -, -, hown, hts, hK, -, -⟩ := C0
  refine lv_iload hx hb d_Tx_sameString_102 (lv_at hl 5 rfl) ?_
  refine lv_iload hx hb d_Tx_sameString_104 (lv_at hl 4 rfl) ?_
  refine lv_icmp_ge (tgt := 140) hx hb d_Tx_sameString_106 (by decide) (fun c15 => ?_) (fun c15 => ?_)
  · replace h := o_tt c15 h
    cases h
    exact h1 (Nat.succ_ne_zero 1) _ _ _ hP hS (lv_sub hl [] rfl)
  · replace h := o_ff c15 h
    refine lv_aload_n hx hb d_Tx_sameString_109 rfl (lv_at hl 0 rfl) ?_
    refine o_get (v := .ref (ad 22)) C in_Tx hP 12 cw_12 rfl 9 (by decide) k_1_55 rfl rfl d_Tx_sameString_110 ?_
    refine lv_iload hx hb d_Tx_sameString_113 (lv_at hl 2 rfl) ?_
    refine lv_iload hx hb d_Tx_sameString_115 (lv_at hl 5 rfl) ?_
    refine lv_iadd hx hb d_Tx_sameString_117 ?_
    obtain ⟨g16, h⟩ := o_gd_some h
    refine o_iald (f := (Tx_cells u102_a0)) C hP 22 19 cw_22 rfl g16 d_Tx_sameString_118 ?_
    refine lv_aload_n hx hb d_Tx_sameString_119 rfl (lv_at hl 1 rfl) ?_
    refine o_get (v := .ref (ad 22)) C in_Tx hP 12 cw_12 rfl 9 (by decide) k_1_55 rfl rfl d_Tx_sameString_120 ?_
    refine lv_iload hx hb d_Tx_sameString_123 (lv_at hl 3 rfl) ?_
    refine lv_iload hx hb d_Tx_sameString_125 (lv_at hl 5 rfl) ?_
    refine lv_iadd hx hb d_Tx_sameString_127 ?_
    obtain ⟨g17, h⟩ := o_gd_some h
    refine o_iald (f := (Tx_cells u102_a0)) C hP 22 19 cw_22 rfl g17 d_Tx_sameString_128 ?_
    refine lv_icmp_eq (tgt := 134) hx hb d_Tx_sameString_129 (by decide) (fun c18 => ?_) (fun c18 => ?_)
    · replace h := o_tt c18 h
      obtain ⟨x7_134, ex7_134⟩ : ∃ y : Int32, y = z + (1:Int32) := ⟨_, rfl⟩
      replace h := o_nm_at ex7_134 h
      refine lv_iinc (v := x7_134) (lv' := [(7, .int x7_134), (0, .ref (ad 12)), (2, .ref (ad 12)), (4, .int u102_x4), (5, .int u102_x5), (6, .int u102_x6)]) hx hb d_Tx_sameString_134 hl (k := 5) rfl (by rw [ex7_134]; rfl) (by decide) rfl (fun ls hl => ?_)
      refine lv_goto (tgt := 102) hx hb d_Tx_sameString_137 (by decide) ?_
      cases h
      exact h0 rfl _ _ _ hP hS (lv_sub hl [1, 2, 3, 4, 5, 0] rfl)
    · replace h := o_ff c18 h
      cases h
      exact h1 (Nat.succ_ne_zero 0) _ _ _ hP hS (lv_sub hl [] rfl)
set_option maxHeartbeats 4000000 in
set_option maxRecDepth 100000 in
theorem c_Tx_sameString_11 {E : (Nat → Prop) → State → Heap → Prop} {D : va_G} {ad kd sd : Nat → Nat} {ca : Nat → ClassId} (hE : o_EK E kd sd) (l : Launch) (n : Nat) (x1 : Int32) (x3 : Int32) (a0 : STx) (Sj : SSJ) (T0 : STx) (Rd : SRd) (Pg : SPg) (Pt : SPt) (Mk : SMk) (Lk : SLk) (Ck : SCk) (Jd : SJd) (Ld : SLd) (Pr : SPr) (rt : Nat) {r : Int32} (h : m_Tx_sameString n x1 x3 a0 a0 = some r) : o_Cn E l D o_cls (o_tys ca) y_Tx_sameString cc_Tx_sameString rm_Tx_sameString [.ref (ad 12), .int x1, .ref (ad 12), .int x3] (o_cw ad ca rt Sj T0 a0 Rd Pg Pt Mk Lk Ck Jd Ld Pr) (o_cw ad ca rt Sj T0 a0 Rd Pg Pt Mk Lk Ck Jd Ld Pr) (some (.int r)) := by
  refine o_Cn_of (by decide) (Nat.le_of_ble_eq_true rfl) ?_
  intro p e s m below meth c A ls C hD hP hS hl
  have hDD : ∀ (rt : Nat) (Sj : SSJ) (T0 : STx) (T1 : STx) (Rd : SRd) (Pg : SPg) (Pt : SPt) (Mk : SMk) (Lk : SLk) (Ck : SCk) (Jd : SJd) (Ld : SLd) (Pr : SPr), va_D A (o_cw ad ca rt Sj T0 T1 Rd Pg Pt Mk Lk Ck Jd Ld Pr) := fun _ _ _ _ _ _ _ _ _ _ _ _ _ => o_D_map hD rfl
  have hl : lv_has ls 8 [(0, .ref (ad 12)), (1, .int x1), (2, .ref (ad 12)), (3, .int x3)] := hl
  unfold m_Tx_sameString at h
  have C0 := C
  obtain ⟨hx, hb, -, -, -, hown, hts, hK, -, -⟩ := C0
  refine lv_iload_n hx hb d_Tx_sameString_0 rfl (lv_at hl 1 rfl) ?_
  refine lv_if_lt (tgt := 39) hx hb d_Tx_sameString_1 (by decide) (fun c1 => ?_) (fun c1 => ?_)
  · replace h := o_tt c1 h
    refine lv_iconst (v := (0:Int32)) hx hb d_Tx_sameString_39 (by decide) ?_
    cases h
    exact o_rz (v := (0:Int32)) C o_nar0 hP hS d_Tx_sameString_40
  · replace h := o_ff c1 h
    refine lv_iload_n hx hb d_Tx_sameString_4 rfl (lv_at hl 1 rfl) ?_
    refine lv_aload_n hx hb d_Tx_sameString_5 rfl (lv_at hl 0 rfl) ?_
    refine o_get (v := .int (Tx_total a0)) C in_Tx hP 12 cw_12 rfl 10 (by decide) k_1_56 rfl rfl d_Tx_sameString_6 ?_
    refine lv_icmp_ge (tgt := 39) hx hb d_Tx_sameString_9 (by decide) (fun c2 => ?_) (fun c2 => ?_)
    · replace h := o_tt c2 h
      refine lv_iconst (v := (0:Int32)) hx hb d_Tx_sameString_39 (by decide) ?_
      cases h
      exact o_rz (v := (0:Int32)) C o_nar0 hP hS d_Tx_sameString_40
    · replace h := o_ff c2 h
      refine lv_iload_n hx hb d_Tx_sameString_12 rfl (lv_at hl 3 rfl) ?_
      refine lv_if_lt (tgt := 39) hx hb d_Tx_sameString_13 (by decide) (fun c3 => ?_) (fun c3 => ?_)
      · replace h := o_tt c3 h
        refine lv_iconst (v := (0:Int32)) hx hb d_Tx_sameString_39 (by decide) ?_
        cases h
        exact o_rz (v := (0:Int32)) C o_nar0 hP hS d_Tx_sameString_40
      · replace h := o_ff c3 h
        refine lv_iload_n hx hb d_Tx_sameString_16 rfl (lv_at hl 3 rfl) ?_
        refine lv_aload_n hx hb d_Tx_sameString_17 rfl (lv_at hl 2 rfl) ?_
        refine o_get (v := .int (Tx_total a0)) C in_Tx hP 12 cw_12 rfl 10 (by decide) k_1_56 rfl rfl d_Tx_sameString_18 ?_
        refine lv_icmp_ge (tgt := 39) hx hb d_Tx_sameString_21 (by decide) (fun c4 => ?_) (fun c4 => ?_)
        · replace h := o_tt c4 h
          refine lv_iconst (v := (0:Int32)) hx hb d_Tx_sameString_39 (by decide) ?_
          cases h
          exact o_rz (v := (0:Int32)) C o_nar0 hP hS d_Tx_sameString_40
        · replace h := o_ff c4 h
          refine lv_aload_n hx hb d_Tx_sameString_24 rfl (lv_at hl 0 rfl) ?_
          refine o_get (v := .ref (ad 15)) C in_Tx hP 12 cw_12 rfl 2 (by decide) k_1_48 rfl rfl d_Tx_sameString_25 ?_
          refine lv_iload_n hx hb d_Tx_sameString_28 rfl (lv_at hl 1 rfl) ?_
          obtain ⟨g5, h⟩ := o_gd_some h
          refine o_iald (f := (Tx_sizes a0)) C hP 15 12 cw_15 rfl g5 d_Tx_sameString_29 ?_
          refine lv_aload_n hx hb d_Tx_sameString_30 rfl (lv_at hl 2 rfl) ?_
          refine o_get (v := .ref (ad 15)) C in_Tx hP 12 cw_12 rfl 2 (by decide) k_1_48 rfl rfl d_Tx_sameString_31 ?_
          refine lv_iload_n hx hb d_Tx_sameString_34 rfl (lv_at hl 3 rfl) ?_
          obtain ⟨g6, h⟩ := o_gd_some h
          refine o_iald (f := (Tx_sizes a0)) C hP 15 12 cw_15 rfl g6 d_Tx_sameString_35 ?_
          refine lv_icmp_eq (tgt := 41) hx hb d_Tx_sameString_36 (by decide) (fun c7 => ?_) (fun c7 => ?_)
          · replace h := o_tt c7 h
            refine lv_aload_n hx hb d_Tx_sameString_41 rfl (lv_at hl 0 rfl) ?_
            refine o_get (v := .ref (ad 18)) C in_Tx hP 12 cw_12 rfl 5 (by decide) k_1_51 rfl rfl d_Tx_sameString_42 ?_
            refine lv_iload_n hx hb d_Tx_sameString_45 rfl (lv_at hl 1 rfl) ?_
            obtain ⟨g8, h⟩ := o_gd_some h
            refine o_iald (f := (Tx_starts a0)) C hP 18 15 cw_18 rfl g8 d_Tx_sameString_46 ?_
            refine lv_topi (fun x4_47 ex4_47 => ?_)
            replace h := o_nm_at ex4_47 h
            refine lv_istore (lv' := [(4, .int x4_47), (0, .ref (ad 12)), (1, .int x1), (2, .ref (ad 12)), (3, .int x3)]) hx hb d_Tx_sameString_47 hl (by decide) rfl (fun ls hl => ?_)
            refine lv_aload_n hx hb d_Tx_sameString_49 rfl (lv_at hl 3 rfl) ?_
            refine o_get (v := .ref (ad 18)) C in_Tx hP 12 cw_12 rfl 5 (by decide) k_1_51 rfl rfl d_Tx_sameString_50 ?_
            refine lv_iload_n hx hb d_Tx_sameString_53 rfl (lv_at hl 4 rfl) ?_
            obtain ⟨g9, h⟩ := o_gd_some h
            refine o_iald (f := (Tx_starts a0)) C hP 18 15 cw_18 rfl g9 d_Tx_sameString_54 ?_
            refine lv_topi (fun x5_55 ex5_55 => ?_)
            replace h := o_nm_at ex5_55 h
            refine lv_istore (lv' := [(5, .int x5_55), (4, .int x4_47), (0, .ref (ad 12)), (1, .int x1), (2, .ref (ad 12)), (3, .int x3)]) hx hb d_Tx_sameString_55 hl (by decide) rfl (fun ls hl => ?_)
            refine lv_aload_n hx hb d_Tx_sameString_57 rfl (lv_at hl 2 rfl) ?_
            refine o_get (v := .ref (ad 15)) C in_Tx hP 12 cw_12 rfl 2 (by decide) k_1_48 rfl rfl d_Tx_sameString_58 ?_
            refine lv_iload_n hx hb d_Tx_sameString_61 rfl (lv_at hl 3 rfl) ?_
            obtain ⟨g10, h⟩ := o_gd_some h
            refine o_iald (f := (Tx_sizes a0)) C hP 15 12 cw_15 rfl g10 d_Tx_sameString_62 ?_
            refine lv_topi (fun x6_63 ex6_63 => ?_)
            replace h := o_nm_at ex6_63 h
            refine lv_istore (lv' := [(6, .int x6_63), (5, .int x5_55), (4, .int x4_47), (0, .ref (ad 12)), (1, .int x1), (2, .ref (ad 12)), (3, .int x3)]) hx hb d_Tx_sameString_63 hl (by decide) rfl (fun ls hl => ?_)
            refine lv_iload hx hb d_Tx_sameString_65 (lv_at hl 2 rfl) ?_
            refine lv_if_lt (tgt := 97) hx hb d_Tx_sameString_67 (by decide) (fun c11 => ?_) (fun c11 => ?_)
            · replace h := o_tt c11 h
              refine lv_iconst (v := (0:Int32)) hx hb d_Tx_sameString_97 (by decide) ?_
              cases h
              exact o_rz (v := (0:Int32)) C o_nar0 hP hS d_Tx_sameString_98
            · replace h := o_ff c11 h
              refine lv_iload hx hb d_Tx_sameString_70 (lv_at hl 2 rfl) ?_
              refine lv_iload hx hb d_Tx_sameString_72 (lv_at hl 0 rfl) ?_
              refine lv_iadd hx hb d_Tx_sameString_74 ?_
              refine lv_sipush (v := (8192:Int32)) hx hb d_Tx_sameString_75 (by decide) ?_
              refine lv_icmp_gt (tgt := 97) hx hb d_Tx_sameString_78 (by decide) (fun c12 => ?_) (fun c12 => ?_)
              · replace h := o_tt c12 h
                refine lv_iconst (v := (0:Int32)) hx hb d_Tx_sameString_97 (by decide) ?_
                cases h
                exact o_rz (v := (0:Int32)) C o_nar0 hP hS d_Tx_sameString_98
              · replace h := o_ff c12 h
                refine lv_iload hx hb d_Tx_sameString_81 (lv_at hl 1 rfl) ?_
                refine lv_if_lt (tgt := 97) hx hb d_Tx_sameString_83 (by decide) (fun c13 => ?_) (fun c13 => ?_)
                · replace h := o_tt c13 h
                  refine lv_iconst (v := (0:Int32)) hx hb d_Tx_sameString_97 (by decide) ?_
                  cases h
                  exact o_rz (v := (0:Int32)) C o_nar0 hP hS d_Tx_sameString_98
                · replace h := o_ff c13 h
                  refine lv_iload hx hb d_Tx_sameString_86 (lv_at hl 1 rfl) ?_
                  refine lv_iload hx hb d_Tx_sameString_88 (lv_at hl 0 rfl) ?_
                  refine lv_iadd hx hb d_Tx_sameString_90 ?_
                  refine lv_sipush (v := (8192:Int32)) hx hb d_Tx_sameString_91 (by decide) ?_
                  refine lv_icmp_le (tgt := 99) hx hb d_Tx_sameString_94 (by decide) (fun c14 => ?_) (fun c14 => ?_)
                  · replace h := o_tt c14 h
                    refine lv_iconst (v := (0:Int32)) hx hb d_Tx_sameString_99 (by decide) ?_
                    refine lv_istore (lv' := [(7, .int (0:Int32)), (6, .int x6_63), (5, .int x5_55), (4, .int x4_47), (0, .ref (ad 12)), (1, .int x1), (2, .ref (ad 12)), (3, .int x3)]) hx hb d_Tx_sameString_100 hl (by decide) rfl (fun ls hl => ?_)
                    obtain ⟨q1, hq1, h⟩ := o_bd_some h
                    refine o_sim2 (AH := fun zz => o_At p l e rm_Tx_sameString s m _ below meth c _ o_cls D A 8 102 [] (o_cw ad ca rt Sj T0 a0 Rd Pg Pt Mk Lk Ck Jd Ld Pr) [(0, .ref (ad 12)), (2, .ref (ad 12)), (4, .int x4_47), (5, .int x5_55), (6, .int x6_63), (7, .int zz)]) (AX := fun qq => if qq.1 = 1 then o_At p l e rm_Tx_sameString s m _ below meth c _ o_cls D A 8 132 [] (o_cw ad ca rt Sj T0 a0 Rd Pg Pt Mk Lk Ck Jd Ld Pr) [] else o_At p l e rm_Tx_sameString s m _ below meth c _ o_cls D A 8 140 [] (o_cw ad ca rt Sj T0 a0 Rd Pg Pt Mk Lk Ck Jd Ld Pr) []) (fun zz qq h h0 h1 => w_Tx_sameString_b102_11 hE C hDD n x4_47 x5_55 x6_63 a0 Sj T0 Rd Pg Pt Mk Lk Ck Jd Ld Pr rt zz qq h h0 h1) n _ q1 hq1 ?_ _ _ _ hP hS (lv_sub hl [4, 6, 3, 2, 1, 0] rfl)
                    by_cases c19 : q1.1 = 1
                    · replace h := o_tt c19 h
                      refine o_ip c19 ?_
                      intro H locs ls hP hS hl
                      refine lv_iconst (v := (0:Int32)) hx hb d_Tx_sameString_132 (by decide) ?_
                      cases h
                      exact o_rz (v := (0:Int32)) C o_nar0 hP hS d_Tx_sameString_133
                    replace h := o_ff c19 h
                    refine o_in_ c19 ?_
                    intro H locs ls hP hS hl
                    refine lv_iconst (v := (1:Int32)) hx hb d_Tx_sameString_140 (by decide) ?_
                    cases h
                    exact o_rz (v := (1:Int32)) C o_nar1 hP hS d_Tx_sameString_141
                  · replace h := o_ff c14 h
                    refine lv_iconst (v := (0:Int32)) hx hb d_Tx_sameString_97 (by decide) ?_
                    cases h
                    exact o_rz (v := (0:Int32)) C o_nar0 hP hS d_Tx_sameString_98
          · replace h := o_ff c7 h
            refine lv_iconst (v := (0:Int32)) hx hb d_Tx_sameString_39 (by decide) ?_
            cases h
            exact o_rz (v := (0:Int32)) C o_nar0 hP hS d_Tx_sameString_40
set_option maxHeartbeats 4000000 in
set_option maxRecDepth 100000 in
theorem w_Tx_member_b10_11 {E : (Nat → Prop) → State → Heap → Prop} {p : Program} {l : Launch} {e : Env} {s : State} {m : MethodId} {args : Array Value} {below : List Frame} {meth : Method} {c : Code} {D : va_G} {ad kd sd : Nat → Nat} {ca : Nat → ClassId} {A : Nat → Prop} {Q : State → Prop} (hE : o_EK E kd sd) (C : o_Cx E p s m args meth c D o_cls (o_tys ca) "SchemaJudge$Text" b_Tx_member (some .int) 6 cc_Tx_member A) (hDD : ∀ (rt : Nat) (Sj : SSJ) (T0 : STx) (T1 : STx) (Rd : SRd) (Pg : SPg) (Pt : SPt) (Mk : SMk) (Lk : SLk) (Ck : SCk) (Jd : SJd) (Ld : SLd) (Pr : SPr), va_D A (o_cw ad ca rt Sj T0 T1 Rd Pg Pt Mk Lk Ck Jd Ld Pr)) (n : Nat) (u10_x1 : Int32) (u10_x3 : Int32) (u10_a0 : STx) (u10_Sj : SSJ) (u10_T0 : STx) (u10_Rd : SRd) (u10_Pg : SPg) (u10_Pt : SPt) (u10_Mk : SMk) (u10_Lk : SLk) (u10_Ck : SCk) (u10_Jd : SJd) (u10_Ld : SLd) (u10_Pr : SPr) (u10_rt : Nat) (z : Int32 × Int32) (q : Nat × Int32 × Int32) (h : m_Tx_member_b10 n u10_x1 u10_x3 u10_a0 u10_a0 z = some q) (h0 : q.1 = 0 → o_At p l e rm_Tx_member s m args below meth c Q o_cls D A 6 10 [] (o_cw ad ca u10_rt u10_Sj u10_T0 u10_a0 u10_Rd u10_Pg u10_Pt u10_Mk u10_Lk u10_Ck u10_Jd u10_Ld u10_Pr) [(0, .ref (ad 12)), (1, .int u10_x1), (2, .ref (ad 12)), (3, .int u10_x3), (4, .int q.2.1), (5, .int q.2.2)]) (h1 : q.1 ≠ 0 → (if q.1 = 1 then o_At p l e rm_Tx_member s m args below meth c Q o_cls D A 6 33 [] (o_cw ad ca u10_rt u10_Sj u10_T0 u10_a0 u10_Rd u10_Pg u10_Pt u10_Mk u10_Lk u10_Ck u10_Jd u10_Ld u10_Pr) [(4, .int q.2.1)] else o_At p l e rm_Tx_member s m args below meth c Q o_cls D A 6 50 [] (o_cw ad ca u10_rt u10_Sj u10_T0 u10_a0 u10_Rd u10_Pg u10_Pt u10_Mk u10_Lk u10_Ck u10_Jd u10_Ld u10_Pr) [])) : o_At p l e rm_Tx_member s m args below meth c Q o_cls D A 6 10 [] (o_cw ad ca u10_rt u10_Sj u10_T0 u10_a0 u10_Rd u10_Pg u10_Pt u10_Mk u10_Lk u10_Ck u10_Jd u10_Ld u10_Pr) [(0, .ref (ad 12)), (1, .int u10_x1), (2, .ref (ad 12)), (3, .int u10_x3), (4, .int z.1), (5, .int z.2)] := by
  unfold m_Tx_member_b10 at h
  intro H locs ls hP hS hl
  have C0 := C
  obtain ⟨hx, hb, -, -, -, hown, hts, hK, -, -⟩ := C0
  refine lv_iload hx hb d_Tx_member_10 (lv_at hl 5 rfl) ?_
  refine lv_aload_n hx hb d_Tx_member_12 rfl (lv_at hl 0 rfl) ?_
  refine lv_iload_n hx hb d_Tx_member_13 rfl (lv_at hl 1 rfl) ?_
  obtain ⟨q2, hq2, h⟩ := o_bd_some h
  refine o_V (st1 := [.int q2, .int z.2]) (w1 := (o_cw ad ca u10_rt u10_Sj u10_T0 u10_a0 u10_Rd u10_Pg u10_Pt u10_Mk u10_Lk u10_Ck u10_Jd u10_Ld u10_Pr)) hE.1 C (c_Tx_size_1 hE l u10_x1 u10_a0 u10_Sj u10_T0 u10_Rd u10_Pg u10_Pt u10_Mk u10_Lk u10_Ck u10_Jd u10_Ld u10_Pr u10_rt hq2) hP (hDD _ _ _ _ _ _ _ _ _ _ _ _ _) hS hl.1 rfl cw_12 k_3_214 k_3_215 k_3_216 k_1_2 k_3_217 hv_Tx_size rfl rfl ⟨Nat.le_of_ble_eq_true rfl, Nat.le_of_ble_eq_true rfl⟩ rfl (Nat.le_of_ble_eq_true rfl) ⟨Nat.le_of_ble_eq_true rfl, Nat.le_of_ble_eq_true rfl⟩ rfl d_Tx_member_14 (fun H locs hP hS => ?_)
  refine lv_icmp_ge (tgt := 50) hx hb d_Tx_member_17 (by decide) (fun c1 => ?_) (fun c1 => ?_)
  · replace h := o_tt c1 h
    cases h
    exact h1 (Nat.succ_ne_zero 1) _ _ _ hP hS (lv_sub hl [] rfl)
  · replace h := o_ff c1 h
    refine lv_aload_n hx hb d_Tx_member_20 rfl (lv_at hl 0 rfl) ?_
    refine lv_iload hx hb d_Tx_member_21 (lv_at hl 4 rfl) ?_
    refine lv_iconst (v := (1:Int32)) hx hb d_Tx_member_23 (by decide) ?_
    refine lv_isub hx hb d_Tx_member_24 ?_
    refine lv_aload_n hx hb d_Tx_member_25 rfl (lv_at hl 2 rfl) ?_
    refine lv_iload_n hx hb d_Tx_member_26 rfl (lv_at hl 3 rfl) ?_
    obtain ⟨q3, hq3, h⟩ := o_bd_some h
    refine o_S (st1 := [.int q3]) (w1 := (o_cw ad ca u10_rt u10_Sj u10_T0 u10_a0 u10_Rd u10_Pg u10_Pt u10_Mk u10_Lk u10_Ck u10_Jd u10_Ld u10_Pr)) hE.1 C (c_Tx_sameString_11 hE l n (z.1 - (1:Int32)) u10_x3 u10_a0 u10_Sj u10_T0 u10_Rd u10_Pg u10_Pt u10_Mk u10_Lk u10_Ck u10_Jd u10_Ld u10_Pr u10_rt hq3) hP (hDD _ _ _ _ _ _ _ _ _ _ _ _ _) hS hl.1 k_3_218 k_3_219 k_1_2 k_3_220 hs_Tx_sameString rfl rfl ⟨Nat.le_of_ble_eq_true rfl, Nat.le_of_ble_eq_true rfl⟩ rfl (Nat.le_of_ble_eq_true rfl) ⟨Nat.le_of_ble_eq_true rfl, Nat.le_of_ble_eq_true rfl⟩ rfl d_Tx_member_27 (fun H locs hP hS => ?_)
    refine lv_if_eq (tgt := 36) hx hb d_Tx_member_30 (by decide) (fun c2 => ?_) (fun c2 => ?_)
    · replace h := o_tt c2 h
      refine lv_aload_n hx hb d_Tx_member_36 rfl (lv_at hl 0 rfl) ?_
      refine lv_iload hx hb d_Tx_member_37 (lv_at hl 4 rfl) ?_
      obtain ⟨q4, hq4, h⟩ := o_bd_some h
      refine o_V (st1 := [.int q4]) (w1 := (o_cw ad ca u10_rt u10_Sj u10_T0 u10_a0 u10_Rd u10_Pg u10_Pt u10_Mk u10_Lk u10_Ck u10_Jd u10_Ld u10_Pr)) hE.1 C (c_Tx_nextChild_1 hE l z.1 u10_a0 u10_Sj u10_T0 u10_Rd u10_Pg u10_Pt u10_Mk u10_Lk u10_Ck u10_Jd u10_Ld u10_Pr u10_rt hq4) hP (hDD _ _ _ _ _ _ _ _ _ _ _ _ _) hS hl.1 rfl cw_12 k_3_221 k_3_222 k_3_223 k_1_2 k_3_224 hv_Tx_nextChild rfl rfl ⟨Nat.le_of_ble_eq_true rfl, Nat.le_of_ble_eq_true rfl⟩ rfl (Nat.le_of_ble_eq_true rfl) ⟨Nat.le_of_ble_eq_true rfl, Nat.le_of_ble_eq_true rfl⟩ rfl d_Tx_member_39 (fun H locs hP hS => ?_)
      refine lv_istore (lv' := [(4, .int q4), (0, .ref (ad 12)), (1, .int u10_x1), (2, .ref (ad 12)), (3, .int u10_x3), (5, .int z.2)]) hx hb d_Tx_member_42 hl (by decide) rfl (fun ls hl => ?_)
      obtain ⟨x5_44, ex5_44⟩ : ∃ y : Int32, y = z.2 + (1:Int32) := ⟨_, rfl⟩
      replace h := o_nm_at ex5_44 h
      refine lv_iinc (v := x5_44) (lv' := [(5, .int x5_44), (4, .int q4), (0, .ref (ad 12)), (1, .int u10_x1), (2, .ref (ad 12)), (3, .int u10_x3)]) hx hb d_Tx_member_44 hl (k := 5) rfl (by rw [ex5_44]; rfl) (by decide) rfl (fun ls hl => ?_)
      refine lv_goto (tgt := 10) hx hb d_Tx_member_47 (by decide) ?_
      cases h
      exact h0 rfl _ _ _ hP hS (lv_sub hl [2, 3, 4, 5, 1, 0] rfl)
    · replace h := o_ff c2 h
      cases h
      exact h1 (Nat.succ_ne_zero 0) _ _ _ hP hS (lv_sub hl [4] rfl)
set_option maxHeartbeats 4000000 in
set_option maxRecDepth 100000 in
theorem c_Tx_member_11 {E : (Nat → Prop) → State → Heap → Prop} {D : va_G} {ad kd sd : Nat → Nat} {ca : Nat → ClassId} (hE : o_EK E kd sd) (l : Launch) (n : Nat) (x1 : Int32) (x3 : Int32) (a0 : STx) (Sj : SSJ) (T0 : STx) (Rd : SRd) (Pg : SPg) (Pt : SPt) (Mk : SMk) (Lk : SLk) (Ck : SCk) (Jd : SJd) (Ld : SLd) (Pr : SPr) (rt : Nat) {r : Int32} (h : m_Tx_member n x1 x3 a0 a0 = some r) : o_Cn E l D o_cls (o_tys ca) y_Tx_member cc_Tx_member rm_Tx_member [.ref (ad 12), .int x1, .ref (ad 12), .int x3] (o_cw ad ca rt Sj T0 a0 Rd Pg Pt Mk Lk Ck Jd Ld Pr) (o_cw ad ca rt Sj T0 a0 Rd Pg Pt Mk Lk Ck Jd Ld Pr) (some (.int r)) := by
  refine o_Cn_of (by decide) (Nat.le_of_ble_eq_true rfl) ?_
  intro p e s m below meth c A ls C hD hP hS hl
  have hDD : ∀ (rt : Nat) (Sj : SSJ) (T0 : STx) (T1 : STx) (Rd : SRd) (Pg : SPg) (Pt : SPt) (Mk : SMk) (Lk : SLk) (Ck : SCk) (Jd : SJd) (Ld : SLd) (Pr : SPr), va_D A (o_cw ad ca rt Sj T0 T1 Rd Pg Pt Mk Lk Ck Jd Ld Pr) := fun _ _ _ _ _ _ _ _ _ _ _ _ _ => o_D_map hD rfl
  have hl : lv_has ls 6 [(0, .ref (ad 12)), (1, .int x1), (2, .ref (ad 12)), (3, .int x3)] := hl
  unfold m_Tx_member at h
  have C0 := C
  obtain ⟨hx, hb, -, -, -, hown, hts, hK, -, -⟩ := C0
  refine lv_aload_n hx hb d_Tx_member_0 rfl (lv_at hl 0 rfl) ?_
  refine lv_iload_n hx hb d_Tx_member_1 rfl (lv_at hl 1 rfl) ?_
  obtain ⟨q1, hq1, h⟩ := o_bd_some h
  refine o_V (st1 := [.int q1]) (w1 := (o_cw ad ca rt Sj T0 a0 Rd Pg Pt Mk Lk Ck Jd Ld Pr)) hE.1 C (c_Tx_firstChild_1 hE l x1 a0 Sj T0 Rd Pg Pt Mk Lk Ck Jd Ld Pr rt hq1) hP (hDD _ _ _ _ _ _ _ _ _ _ _ _ _) hS hl.1 rfl cw_12 k_3_210 k_3_211 k_3_212 k_1_2 k_3_213 hv_Tx_firstChild rfl rfl ⟨Nat.le_of_ble_eq_true rfl, Nat.le_of_ble_eq_true rfl⟩ rfl (Nat.le_of_ble_eq_true rfl) ⟨Nat.le_of_ble_eq_true rfl, Nat.le_of_ble_eq_true rfl⟩ rfl d_Tx_member_2 (fun H locs hP hS => ?_)
  refine lv_istore (lv' := [(4, .int q1), (0, .ref (ad 12)), (1, .int x1), (2, .ref (ad 12)), (3, .int x3)]) hx hb d_Tx_member_5 hl (by decide) rfl (fun ls hl => ?_)
  refine lv_iconst (v := (0:Int32)) hx hb d_Tx_member_7 (by decide) ?_
  refine lv_istore (lv' := [(5, .int (0:Int32)), (4, .int q1), (0, .ref (ad 12)), (1, .int x1), (2, .ref (ad 12)), (3, .int x3)]) hx hb d_Tx_member_8 hl (by decide) rfl (fun ls hl => ?_)
  obtain ⟨q5, hq5, h⟩ := o_bd_some h
  refine o_sim2 (AH := fun zz => o_At p l e rm_Tx_member s m _ below meth c _ o_cls D A 6 10 [] (o_cw ad ca rt Sj T0 a0 Rd Pg Pt Mk Lk Ck Jd Ld Pr) [(0, .ref (ad 12)), (1, .int x1), (2, .ref (ad 12)), (3, .int x3), (4, .int zz.1), (5, .int zz.2)]) (AX := fun qq => if qq.1 = 1 then o_At p l e rm_Tx_member s m _ below meth c _ o_cls D A 6 33 [] (o_cw ad ca rt Sj T0 a0 Rd Pg Pt Mk Lk Ck Jd Ld Pr) [(4, .int qq.2.1)] else o_At p l e rm_Tx_member s m _ below meth c _ o_cls D A 6 50 [] (o_cw ad ca rt Sj T0 a0 Rd Pg Pt Mk Lk Ck Jd Ld Pr) []) (fun zz qq h h0 h1 => w_Tx_member_b10_11 hE C hDD n x1 x3 a0 Sj T0 Rd Pg Pt Mk Lk Ck Jd Ld Pr rt zz qq h h0 h1) n _ q5 hq5 ?_ _ _ _ hP hS (lv_sub hl [2, 3, 4, 5, 1, 0] rfl)
  by_cases c3 : q5.1 = 1
  · replace h := o_tt c3 h
    refine o_ip c3 ?_
    intro H locs ls hP hS hl
    refine lv_iload hx hb d_Tx_member_33 (lv_at hl 0 rfl) ?_
    cases h
    exact o_ri C hP hS d_Tx_member_35
  replace h := o_ff c3 h
  refine o_in_ c3 ?_
  intro H locs ls hP hS hl
  refine lv_iconst (v := (-1:Int32)) hx hb d_Tx_member_50 (by decide) ?_
  cases h
  exact o_ri (v := (-1:Int32)) C hP hS d_Tx_member_51
set_option maxHeartbeats 4000000 in
set_option maxRecDepth 100000 in
theorem w_Jd_hasAll_b12 {E : (Nat → Prop) → State → Heap → Prop} {p : Program} {l : Launch} {e : Env} {s : State} {m : MethodId} {args : Array Value} {below : List Frame} {meth : Method} {c : Code} {D : va_G} {ad kd sd : Nat → Nat} {ca : Nat → ClassId} {A : Nat → Prop} {Q : State → Prop} (hE : o_EK E kd sd) (C : o_Cx E p s m args meth c D o_cls (o_tys ca) "SchemaJudge$Judge" b_Jd_hasAll (some .boolean) 5 cc_Jd_hasAll A) (hDD : ∀ (rt : Nat) (Sj : SSJ) (T0 : STx) (T1 : STx) (Rd : SRd) (Pg : SPg) (Pt : SPt) (Mk : SMk) (Lk : SLk) (Ck : SCk) (Jd : SJd) (Ld : SLd) (Pr : SPr), va_D A (o_cw ad ca rt Sj T0 T1 Rd Pg Pt Mk Lk Ck Jd Ld Pr)) (n : Nat) (u12_x1 : Int32) (u12_x2 : Int32) (u12_T0 : STx) (u12_T1 : STx) (u12_Sj : SSJ) (u12_Rd : SRd) (u12_Pg : SPg) (u12_Pt : SPt) (u12_Mk : SMk) (u12_Lk : SLk) (u12_Ck : SCk) (u12_Jd : SJd) (u12_Ld : SLd) (u12_Pr : SPr) (u12_rt : Nat) (z : Int32 × Int32) (q : Nat × Int32 × Int32) (h : m_Jd_hasAll_b12 n u12_x1 u12_x2 u12_T0 u12_T1 z = some q) (h0 : q.1 = 0 → o_At p l e rm_Jd_hasAll s m args below meth c Q o_cls D A 5 12 [] (o_cw ad ca u12_rt u12_Sj u12_T0 u12_T1 u12_Rd u12_Pg u12_Pt u12_Mk u12_Lk u12_Ck u12_Jd u12_Ld u12_Pr) [(0, .ref (ad 49)), (1, .int u12_x1), (2, .int u12_x2), (3, .int q.2.1), (4, .int q.2.2)]) (h1 : q.1 ≠ 0 → (if q.1 = 1 then o_At p l e rm_Jd_hasAll s m args below meth c Q o_cls D A 5 42 [] (o_cw ad ca u12_rt u12_Sj u12_T0 u12_T1 u12_Rd u12_Pg u12_Pt u12_Mk u12_Lk u12_Ck u12_Jd u12_Ld u12_Pr) [] else o_At p l e rm_Jd_hasAll s m args below meth c Q o_cls D A 5 59 [] (o_cw ad ca u12_rt u12_Sj u12_T0 u12_T1 u12_Rd u12_Pg u12_Pt u12_Mk u12_Lk u12_Ck u12_Jd u12_Ld u12_Pr) [])) : o_At p l e rm_Jd_hasAll s m args below meth c Q o_cls D A 5 12 [] (o_cw ad ca u12_rt u12_Sj u12_T0 u12_T1 u12_Rd u12_Pg u12_Pt u12_Mk u12_Lk u12_Ck u12_Jd u12_Ld u12_Pr) [(0, .ref (ad 49)), (1, .int u12_x1), (2, .int u12_x2), (3, .int z.1), (4, .int z.2)] := by
  unfold m_Jd_hasAll_b12 at h
  intro H locs ls hP hS hl
  have C0 := C
  obtain ⟨hx, hb, -, -, -, hown, hts, hK, -, -⟩ := C0
  refine lv_iload hx hb d_Jd_hasAll_12 (lv_at hl 4 rfl) ?_
  refine lv_aload_n hx hb d_Jd_hasAll_14 rfl (lv_at hl 0 rfl) ?_
  refine o_get (v := .ref (ad 1)) C in_Jd hP 49 cw_49 rfl 0 (by decide) k_2_74 rfl rfl d_Jd_hasAll_15 ?_
  refine lv_iload_n hx hb d_Jd_hasAll_18 rfl (lv_at hl 1 rfl) ?_
  obtain ⟨q2, hq2, h⟩ := o_bd_some h
  refine o_V (st1 := [.int q2, .int z.2]) (w1 := (o_cw ad ca u12_rt u12_Sj u12_T0 u12_T1 u12_Rd u12_Pg u12_Pt u12_Mk u12_Lk u12_Ck u12_Jd u12_Ld u12_Pr)) hE.1 C (c_Tx_size_0 hE l u12_x1 u12_T0 u12_Sj u12_T1 u12_Rd u12_Pg u12_Pt u12_Mk u12_Lk u12_Ck u12_Jd u12_Ld u12_Pr u12_rt hq2) hP (hDD _ _ _ _ _ _ _ _ _ _ _ _ _) hS hl.1 rfl cw_1 k_6_26 k_3_215 k_3_216 k_1_2 k_3_217 hv_Tx_size rfl rfl ⟨Nat.le_of_ble_eq_true rfl, Nat.le_of_ble_eq_true rfl⟩ rfl (Nat.le_of_ble_eq_true rfl) ⟨Nat.le_of_ble_eq_true rfl, Nat.le_of_ble_eq_true rfl⟩ rfl d_Jd_hasAll_19 (fun H locs hP hS => ?_)
  refine lv_icmp_ge (tgt := 59) hx hb d_Jd_hasAll_22 (by decide) (fun c1 => ?_) (fun c1 => ?_)
  · replace h := o_tt c1 h
    cases h
    exact h1 (Nat.succ_ne_zero 1) _ _ _ hP hS (lv_sub hl [] rfl)
  · replace h := o_ff c1 h
    refine lv_aload_n hx hb d_Jd_hasAll_25 rfl (lv_at hl 0 rfl) ?_
    refine o_get (v := .ref (ad 12)) C in_Jd hP 49 cw_49 rfl 2 (by decide) k_2_76 rfl rfl d_Jd_hasAll_26 ?_
    refine lv_iload_n hx hb d_Jd_hasAll_29 rfl (lv_at hl 2 rfl) ?_
    refine lv_aload_n hx hb d_Jd_hasAll_30 rfl (lv_at hl 0 rfl) ?_
    refine o_get (v := .ref (ad 1)) C in_Jd hP 49 cw_49 rfl 0 (by decide) k_2_74 rfl rfl d_Jd_hasAll_31 ?_
    refine lv_iload_n hx hb d_Jd_hasAll_34 rfl (lv_at hl 3 rfl) ?_
    obtain ⟨q3, hq3, h⟩ := o_bd_some h
    refine o_V (st1 := [.int q3]) (w1 := (o_cw ad ca u12_rt u12_Sj u12_T0 u12_T1 u12_Rd u12_Pg u12_Pt u12_Mk u12_Lk u12_Ck u12_Jd u12_Ld u12_Pr)) hE.1 C (c_Tx_member_10 hE l n u12_x2 z.1 u12_T1 u12_T0 u12_Sj u12_Rd u12_Pg u12_Pt u12_Mk u12_Lk u12_Ck u12_Jd u12_Ld u12_Pr u12_rt hq3) hP (hDD _ _ _ _ _ _ _ _ _ _ _ _ _) hS hl.1 rfl cw_12 k_6_118 k_3_207 k_3_208 k_1_2 k_3_209 hv_Tx_member rfl rfl ⟨Nat.le_of_ble_eq_true rfl, Nat.le_of_ble_eq_true rfl⟩ rfl (Nat.le_of_ble_eq_true rfl) ⟨Nat.le_of_ble_eq_true rfl, Nat.le_of_ble_eq_true rfl⟩ rfl d_Jd_hasAll_35 (fun H locs hP hS => ?_)
    refine lv_iconst (v := (-1:Int32)) hx hb d_Jd_hasAll_38 (by decide) ?_
    refine lv_icmp_ne (tgt := 44) hx hb d_Jd_hasAll_39 (by decide) (fun c2 => ?_) (fun c2 => ?_)
    · replace h := o_ff c2 h
      refine lv_aload_n hx hb d_Jd_hasAll_44 rfl (lv_at hl 0 rfl) ?_
      refine o_get (v := .ref (ad 1)) C in_Jd hP 49 cw_49 rfl 0 (by decide) k_2_74 rfl rfl d_Jd_hasAll_45 ?_
      refine lv_iload_n hx hb d_Jd_hasAll_48 rfl (lv_at hl 3 rfl) ?_
      obtain ⟨q4, hq4, h⟩ := o_bd_some h
      refine o_V (st1 := [.int q4]) (w1 := (o_cw ad ca u12_rt u12_Sj u12_T0 u12_T1 u12_Rd u12_Pg u12_Pt u12_Mk u12_Lk u12_Ck u12_Jd u12_Ld u12_Pr)) hE.1 C (c_Tx_nextChild_0 hE l z.1 u12_T0 u12_Sj u12_T1 u12_Rd u12_Pg u12_Pt u12_Mk u12_Lk u12_Ck u12_Jd u12_Ld u12_Pr u12_rt hq4) hP (hDD _ _ _ _ _ _ _ _ _ _ _ _ _) hS hl.1 rfl cw_1 k_6_28 k_3_222 k_3_223 k_1_2 k_3_224 hv_Tx_nextChild rfl rfl ⟨Nat.le_of_ble_eq_true rfl, Nat.le_of_ble_eq_true rfl⟩ rfl (Nat.le_of_ble_eq_true rfl) ⟨Nat.le_of_ble_eq_true rfl, Nat.le_of_ble_eq_true rfl⟩ rfl d_Jd_hasAll_49 (fun H locs hP hS => ?_)
      refine lv_istore_n (lv' := [(3, .int q4), (0, .ref (ad 49)), (1, .int u12_x1), (2, .int u12_x2), (4, .int z.2)]) hx hb d_Jd_hasAll_52 rfl hl (by decide) rfl (fun ls hl => ?_)
      obtain ⟨x4_53, ex4_53⟩ : ∃ y : Int32, y = z.2 + (1:Int32) := ⟨_, rfl⟩
      replace h := o_nm_at ex4_53 h
      refine lv_iinc (v := x4_53) (lv' := [(4, .int x4_53), (3, .int q4), (0, .ref (ad 49)), (1, .int u12_x1), (2, .int u12_x2)]) hx hb d_Jd_hasAll_53 hl (k := 4) rfl (by rw [ex4_53]; rfl) (by decide) rfl (fun ls hl => ?_)
      refine lv_goto (tgt := 12) hx hb d_Jd_hasAll_56 (by decide) ?_
      cases h
      exact h0 rfl _ _ _ hP hS (lv_sub hl [2, 3, 4, 1, 0] rfl)
    · replace h := o_tt c2 h
      cases h
      exact h1 (Nat.succ_ne_zero 0) _ _ _ hP hS (lv_sub hl [] rfl)
set_option maxHeartbeats 4000000 in
set_option maxRecDepth 100000 in
theorem c_Jd_hasAll {E : (Nat → Prop) → State → Heap → Prop} {D : va_G} {ad kd sd : Nat → Nat} {ca : Nat → ClassId} (hE : o_EK E kd sd) (l : Launch) (n : Nat) (x1 : Int32) (x2 : Int32) (T0 : STx) (T1 : STx) (Sj : SSJ) (Rd : SRd) (Pg : SPg) (Pt : SPt) (Mk : SMk) (Lk : SLk) (Ck : SCk) (Jd : SJd) (Ld : SLd) (Pr : SPr) (rt : Nat) {r : Int32} (h : m_Jd_hasAll n x1 x2 T0 T1 = some r) : o_Cn E l D o_cls (o_tys ca) y_Jd_hasAll cc_Jd_hasAll rm_Jd_hasAll [.ref (ad 49), .int x1, .int x2] (o_cw ad ca rt Sj T0 T1 Rd Pg Pt Mk Lk Ck Jd Ld Pr) (o_cw ad ca rt Sj T0 T1 Rd Pg Pt Mk Lk Ck Jd Ld Pr) (some (.int r)) := by
  refine o_Cn_of (by decide) (Nat.le_of_ble_eq_true rfl) ?_
  intro p e s m below meth c A ls C hD hP hS hl
  have hDD : ∀ (rt : Nat) (Sj : SSJ) (T0 : STx) (T1 : STx) (Rd : SRd) (Pg : SPg) (Pt : SPt) (Mk : SMk) (Lk : SLk) (Ck : SCk) (Jd : SJd) (Ld : SLd) (Pr : SPr), va_D A (o_cw ad ca rt Sj T0 T1 Rd Pg Pt Mk Lk Ck Jd Ld Pr) := fun _ _ _ _ _ _ _ _ _ _ _ _ _ => o_D_map hD rfl
  have hl : lv_has ls 5 [(0, .ref (ad 49)), (1, .int x1), (2, .int x2)] := hl
  unfold m_Jd_hasAll at h
  have C0 := C
  obtain ⟨hx, hb, -, -, -, hown, hts, hK, -, -⟩ := C0
  refine lv_aload_n hx hb d_Jd_hasAll_0 rfl (lv_at hl 0 rfl) ?_
  refine o_get (v := .ref (ad 1)) C in_Jd hP 49 cw_49 rfl 0 (by decide) k_2_74 rfl rfl d_Jd_hasAll_1 ?_
  refine lv_iload_n hx hb d_Jd_hasAll_4 rfl (lv_at hl 1 rfl) ?_
  obtain ⟨q1, hq1, h⟩ := o_bd_some h
  refine o_V (st1 := [.int q1]) (w1 := (o_cw ad ca rt Sj T0 T1 Rd Pg Pt Mk Lk Ck Jd Ld Pr)) hE.1 C (c_Tx_firstChild_0 hE l x1 T0 Sj T1 Rd Pg Pt Mk Lk Ck Jd Ld Pr rt hq1) hP (hDD _ _ _ _ _ _ _ _ _ _ _ _ _) hS hl.1 rfl cw_1 k_6_25 k_3_211 k_3_212 k_1_2 k_3_213 hv_Tx_firstChild rfl rfl ⟨Nat.le_of_ble_eq_true rfl, Nat.le_of_ble_eq_true rfl⟩ rfl (Nat.le_of_ble_eq_true rfl) ⟨Nat.le_of_ble_eq_true rfl, Nat.le_of_ble_eq_true rfl⟩ rfl d_Jd_hasAll_5 (fun H locs hP hS => ?_)
  refine lv_istore_n (lv' := [(3, .int q1), (0, .ref (ad 49)), (1, .int x1), (2, .int x2)]) hx hb d_Jd_hasAll_8 rfl hl (by decide) rfl (fun ls hl => ?_)
  refine lv_iconst (v := (0:Int32)) hx hb d_Jd_hasAll_9 (by decide) ?_
  refine lv_istore (lv' := [(4, .int (0:Int32)), (3, .int q1), (0, .ref (ad 49)), (1, .int x1), (2, .int x2)]) hx hb d_Jd_hasAll_10 hl (by decide) rfl (fun ls hl => ?_)
  obtain ⟨q5, hq5, h⟩ := o_bd_some h
  refine o_sim2 (AH := fun zz => o_At p l e rm_Jd_hasAll s m _ below meth c _ o_cls D A 5 12 [] (o_cw ad ca rt Sj T0 T1 Rd Pg Pt Mk Lk Ck Jd Ld Pr) [(0, .ref (ad 49)), (1, .int x1), (2, .int x2), (3, .int zz.1), (4, .int zz.2)]) (AX := fun qq => if qq.1 = 1 then o_At p l e rm_Jd_hasAll s m _ below meth c _ o_cls D A 5 42 [] (o_cw ad ca rt Sj T0 T1 Rd Pg Pt Mk Lk Ck Jd Ld Pr) [] else o_At p l e rm_Jd_hasAll s m _ below meth c _ o_cls D A 5 59 [] (o_cw ad ca rt Sj T0 T1 Rd Pg Pt Mk Lk Ck Jd Ld Pr) []) (fun zz qq h h0 h1 => w_Jd_hasAll_b12 hE C hDD n x1 x2 T0 T1 Sj Rd Pg Pt Mk Lk Ck Jd Ld Pr rt zz qq h h0 h1) n _ q5 hq5 ?_ _ _ _ hP hS (lv_sub hl [2, 3, 4, 1, 0] rfl)
  by_cases c3 : q5.1 = 1
  · replace h := o_tt c3 h
    refine o_ip c3 ?_
    intro H locs ls hP hS hl
    refine lv_iconst (v := (0:Int32)) hx hb d_Jd_hasAll_42 (by decide) ?_
    cases h
    exact o_rz (v := (0:Int32)) C o_nar0 hP hS d_Jd_hasAll_43
  replace h := o_ff c3 h
  refine o_in_ c3 ?_
  intro H locs ls hP hS hl
  refine lv_iconst (v := (1:Int32)) hx hb d_Jd_hasAll_59 (by decide) ?_
  cases h
  exact o_rz (v := (1:Int32)) C o_nar1 hP hS d_Jd_hasAll_60
set_option maxHeartbeats 4000000 in
set_option maxRecDepth 100000 in
theorem w_Jd_hasDependents_j55 {E : (Nat → Prop) → State → Heap → Prop} {p : Program} {l : Launch} {e : Env} {s : State} {m : MethodId} {args : Array Value} {below : List Frame} {meth : Method} {c : Code} {D : va_G} {ad kd sd : Nat → Nat} {ca : Nat → ClassId} {A : Nat → Prop} {Q : State → Prop} (hE : o_EK E kd sd) (C : o_Cx E p s m args meth c D o_cls (o_tys ca) "SchemaJudge$Judge" b_Jd_hasDependents (some .boolean) 5 cc_Jd_hasDependents A) (hDD : ∀ (rt : Nat) (Sj : SSJ) (T0 : STx) (T1 : STx) (Rd : SRd) (Pg : SPg) (Pt : SPt) (Mk : SMk) (Lk : SLk) (Ck : SCk) (Jd : SJd) (Ld : SLd) (Pr : SPr), va_D A (o_cw ad ca rt Sj T0 T1 Rd Pg Pt Mk Lk Ck Jd Ld Pr)) (n : Nat) (u12_x1 : Int32) (u12_x2 : Int32) (u12_T0 : STx) (u12_T1 : STx) (u12_Sj : SSJ) (u12_Rd : SRd) (u12_Pg : SPg) (u12_Pt : SPt) (u12_Mk : SMk) (u12_Lk : SLk) (u12_Ck : SCk) (u12_Jd : SJd) (u12_Ld : SLd) (u12_Pr : SPr) (u12_rt : Nat) (x3 : Int32) (x4 : Int32) {q : Nat × Int32 × Int32} (h : m_Jd_hasDependents_j55 n u12_x1 u12_x2 x3 x4 u12_T0 u12_T1 = some q) (h0 : q.1 = 0 → o_At p l e rm_Jd_hasDependents s m args below meth c Q o_cls D A 5 12 [] (o_cw ad ca u12_rt u12_Sj u12_T0 u12_T1 u12_Rd u12_Pg u12_Pt u12_Mk u12_Lk u12_Ck u12_Jd u12_Ld u12_Pr) [(0, .ref (ad 49)), (1, .int u12_x1), (2, .int u12_x2), (3, .int q.2.1), (4, .int q.2.2)]) (h1 : q.1 ≠ 0 → (if q.1 = 1 then o_At p l e rm_Jd_hasDependents s m args below meth c Q o_cls D A 5 53 [] (o_cw ad ca u12_rt u12_Sj u12_T0 u12_T1 u12_Rd u12_Pg u12_Pt u12_Mk u12_Lk u12_Ck u12_Jd u12_Ld u12_Pr) [] else o_At p l e rm_Jd_hasDependents s m args below meth c Q o_cls D A 5 70 [] (o_cw ad ca u12_rt u12_Sj u12_T0 u12_T1 u12_Rd u12_Pg u12_Pt u12_Mk u12_Lk u12_Ck u12_Jd u12_Ld u12_Pr) [])) : o_At p l e rm_Jd_hasDependents s m args below meth c Q o_cls D A 5 55 [] (o_cw ad ca u12_rt u12_Sj u12_T0 u12_T1 u12_Rd u12_Pg u12_Pt u12_Mk u12_Lk u12_Ck u12_Jd u12_Ld u12_Pr) [(0, .ref (ad 49)), (1, .int u12_x1), (2, .int u12_x2), (3, .int x3), (4, .int x4)] := by
  unfold m_Jd_hasDependents_j55 at h
  intro H locs ls hP hS hl
  have C0 := C
  obtain ⟨hx, hb, -, -, -, hown, hts, hK, -, -⟩ := C0
  refine lv_aload_n hx hb d_Jd_hasDependents_55 rfl (lv_at hl 0 rfl) ?_
  refine o_get (v := .ref (ad 1)) C in_Jd hP 49 cw_49 rfl 0 (by decide) k_2_74 rfl rfl d_Jd_hasDependents_56 ?_
  refine lv_iload_n hx hb d_Jd_hasDependents_59 rfl (lv_at hl 3 rfl) ?_
  obtain ⟨q4, hq4, h⟩ := o_bd_some h
  refine o_V (st1 := [.int q4]) (w1 := (o_cw ad ca u12_rt u12_Sj u12_T0 u12_T1 u12_Rd u12_Pg u12_Pt u12_Mk u12_Lk u12_Ck u12_Jd u12_Ld u12_Pr)) hE.1 C (c_Tx_nextChild_0 hE l x3 u12_T0 u12_Sj u12_T1 u12_Rd u12_Pg u12_Pt u12_Mk u12_Lk u12_Ck u12_Jd u12_Ld u12_Pr u12_rt hq4) hP (hDD _ _ _ _ _ _ _ _ _ _ _ _ _) hS hl.1 rfl cw_1 k_6_28 k_3_222 k_3_223 k_1_2 k_3_224 hv_Tx_nextChild rfl rfl ⟨Nat.le_of_ble_eq_true rfl, Nat.le_of_ble_eq_true rfl⟩ rfl (Nat.le_of_ble_eq_true rfl) ⟨Nat.le_of_ble_eq_true rfl, Nat.le_of_ble_eq_true rfl⟩ rfl d_Jd_hasDependents_60 (fun H locs hP hS => ?_)
  refine lv_istore_n (lv' := [(3, .int q4), (0, .ref (ad 49)), (1, .int u12_x1), (2, .int u12_x2), (4, .int x4)]) hx hb d_Jd_hasDependents_63 rfl hl (by decide) rfl (fun ls hl => ?_)
  obtain ⟨x4_64, ex4_64⟩ : ∃ y : Int32, y = x4 + (1:Int32) := ⟨_, rfl⟩
  replace h := o_nm_at ex4_64 h
  refine lv_iinc (v := x4_64) (lv' := [(4, .int x4_64), (3, .int q4), (0, .ref (ad 49)), (1, .int u12_x1), (2, .int u12_x2)]) hx hb d_Jd_hasDependents_64 hl (k := 4) rfl (by rw [ex4_64]; rfl) (by decide) rfl (fun ls hl => ?_)
  refine lv_goto (tgt := 12) hx hb d_Jd_hasDependents_67 (by decide) ?_
  cases h
  exact h0 rfl _ _ _ hP hS (lv_sub hl [2, 3, 4, 1, 0] rfl)
set_option maxHeartbeats 4000000 in
set_option maxRecDepth 100000 in
theorem w_Jd_hasDependents_b12 {E : (Nat → Prop) → State → Heap → Prop} {p : Program} {l : Launch} {e : Env} {s : State} {m : MethodId} {args : Array Value} {below : List Frame} {meth : Method} {c : Code} {D : va_G} {ad kd sd : Nat → Nat} {ca : Nat → ClassId} {A : Nat → Prop} {Q : State → Prop} (hE : o_EK E kd sd) (C : o_Cx E p s m args meth c D o_cls (o_tys ca) "SchemaJudge$Judge" b_Jd_hasDependents (some .boolean) 5 cc_Jd_hasDependents A) (hDD : ∀ (rt : Nat) (Sj : SSJ) (T0 : STx) (T1 : STx) (Rd : SRd) (Pg : SPg) (Pt : SPt) (Mk : SMk) (Lk : SLk) (Ck : SCk) (Jd : SJd) (Ld : SLd) (Pr : SPr), va_D A (o_cw ad ca rt Sj T0 T1 Rd Pg Pt Mk Lk Ck Jd Ld Pr)) (n : Nat) (u12_x1 : Int32) (u12_x2 : Int32) (u12_T0 : STx) (u12_T1 : STx) (u12_Sj : SSJ) (u12_Rd : SRd) (u12_Pg : SPg) (u12_Pt : SPt) (u12_Mk : SMk) (u12_Lk : SLk) (u12_Ck : SCk) (u12_Jd : SJd) (u12_Ld : SLd) (u12_Pr : SPr) (u12_rt : Nat) (z : Int32 × Int32) (q : Nat × Int32 × Int32) (h : m_Jd_hasDependents_b12 n u12_x1 u12_x2 u12_T0 u12_T1 z = some q) (h0 : q.1 = 0 → o_At p l e rm_Jd_hasDependents s m args below meth c Q o_cls D A 5 12 [] (o_cw ad ca u12_rt u12_Sj u12_T0 u12_T1 u12_Rd u12_Pg u12_Pt u12_Mk u12_Lk u12_Ck u12_Jd u12_Ld u12_Pr) [(0, .ref (ad 49)), (1, .int u12_x1), (2, .int u12_x2), (3, .int q.2.1), (4, .int q.2.2)]) (h1 : q.1 ≠ 0 → (if q.1 = 1 then o_At p l e rm_Jd_hasDependents s m args below meth c Q o_cls D A 5 53 [] (o_cw ad ca u12_rt u12_Sj u12_T0 u12_T1 u12_Rd u12_Pg u12_Pt u12_Mk u12_Lk u12_Ck u12_Jd u12_Ld u12_Pr) [] else o_At p l e rm_Jd_hasDependents s m args below meth c Q o_cls D A 5 70 [] (o_cw ad ca u12_rt u12_Sj u12_T0 u12_T1 u12_Rd u12_Pg u12_Pt u12_Mk u12_Lk u12_Ck u12_Jd u12_Ld u12_Pr) [])) : o_At p l e rm_Jd_hasDependents s m args below meth c Q o_cls D A 5 12 [] (o_cw ad ca u12_rt u12_Sj u12_T0 u12_T1 u12_Rd u12_Pg u12_Pt u12_Mk u12_Lk u12_Ck u12_Jd u12_Ld u12_Pr) [(0, .ref (ad 49)), (1, .int u12_x1), (2, .int u12_x2), (3, .int z.1), (4, .int z.2)] := by
  unfold m_Jd_hasDependents_b12 at h
  intro H locs ls hP hS hl
  have C0 := C
  obtain ⟨hx, hb, -, -, -, hown, hts, hK, -, -⟩ := C0
  refine lv_iload hx hb d_Jd_hasDependents_12 (lv_at hl 4 rfl) ?_
  refine lv_aload_n hx hb d_Jd_hasDependents_14 rfl (lv_at hl 0 rfl) ?_
  refine o_get (v := .ref (ad 1)) C in_Jd hP 49 cw_49 rfl 0 (by decide) k_2_74 rfl rfl d_Jd_hasDependents_15 ?_
  refine lv_iload_n hx hb d_Jd_hasDependents_18 rfl (lv_at hl 1 rfl) ?_
  obtain ⟨q2, hq2, h⟩ := o_bd_some h
  refine o_V (st1 := [.int q2, .int z.2]) (w1 := (o_cw ad ca u12_rt u12_Sj u12_T0 u12_T1 u12_Rd u12_Pg u12_Pt u12_Mk u12_Lk u12_Ck u12_Jd u12_Ld u12_Pr)) hE.1 C (c_Tx_size_0 hE l u12_x1 u12_T0 u12_Sj u12_T1 u12_Rd u12_Pg u12_Pt u12_Mk u12_Lk u12_Ck u12_Jd u12_Ld u12_Pr u12_rt hq2) hP (hDD _ _ _ _ _ _ _ _ _ _ _ _ _) hS hl.1 rfl cw_1 k_6_26 k_3_215 k_3_216 k_1_2 k_3_217 hv_Tx_size rfl rfl ⟨Nat.le_of_ble_eq_true rfl, Nat.le_of_ble_eq_true rfl⟩ rfl (Nat.le_of_ble_eq_true rfl) ⟨Nat.le_of_ble_eq_true rfl, Nat.le_of_ble_eq_true rfl⟩ rfl d_Jd_hasDependents_19 (fun H locs hP hS => ?_)
  refine lv_icmp_ge (tgt := 70) hx hb d_Jd_hasDependents_22 (by decide) (fun c1 => ?_) (fun c1 => ?_)
  · replace h := o_tt c1 h
    cases h
    exact h1 (Nat.succ_ne_zero 1) _ _ _ hP hS (lv_sub hl [] rfl)
  · replace h := o_ff c1 h
    refine lv_aload_n hx hb d_Jd_hasDependents_25 rfl (lv_at hl 0 rfl) ?_
    refine o_get (v := .ref (ad 12)) C in_Jd hP 49 cw_49 rfl 2 (by decide) k_2_76 rfl rfl d_Jd_hasDependents_26 ?_
    refine lv_iload_n hx hb d_Jd_hasDependents_29 rfl (lv_at hl 2 rfl) ?_
    refine lv_aload_n hx hb d_Jd_hasDependents_30 rfl (lv_at hl 0 rfl) ?_
    refine o_get (v := .ref (ad 1)) C in_Jd hP 49 cw_49 rfl 0 (by decide) k_2_74 rfl rfl d_Jd_hasDependents_31 ?_
    refine lv_iload_n hx hb d_Jd_hasDependents_34 rfl (lv_at hl 3 rfl) ?_
    refine lv_iconst (v := (1:Int32)) hx hb d_Jd_hasDependents_35 (by decide) ?_
    refine lv_isub hx hb d_Jd_hasDependents_36 ?_
    obtain ⟨q3, hq3, h⟩ := o_bd_some h
    refine o_V (st1 := [.int q3]) (w1 := (o_cw ad ca u12_rt u12_Sj u12_T0 u12_T1 u12_Rd u12_Pg u12_Pt u12_Mk u12_Lk u12_Ck u12_Jd u12_Ld u12_Pr)) hE.1 C (c_Tx_member_10 hE l n u12_x2 (z.1 - (1:Int32)) u12_T1 u12_T0 u12_Sj u12_Rd u12_Pg u12_Pt u12_Mk u12_Lk u12_Ck u12_Jd u12_Ld u12_Pr u12_rt hq3) hP (hDD _ _ _ _ _ _ _ _ _ _ _ _ _) hS hl.1 rfl cw_12 k_6_118 k_3_207 k_3_208 k_1_2 k_3_209 hv_Tx_member rfl rfl ⟨Nat.le_of_ble_eq_true rfl, Nat.le_of_ble_eq_true rfl⟩ rfl (Nat.le_of_ble_eq_true rfl) ⟨Nat.le_of_ble_eq_true rfl, Nat.le_of_ble_eq_true rfl⟩ rfl d_Jd_hasDependents_37 (fun H locs hP hS => ?_)
    refine lv_iconst (v := (-1:Int32)) hx hb d_Jd_hasDependents_40 (by decide) ?_
    refine lv_icmp_eq (tgt := 55) hx hb d_Jd_hasDependents_41 (by decide) (fun c2 => ?_) (fun c2 => ?_)
    · replace h := o_tt c2 h
      exact w_Jd_hasDependents_j55 hE C hDD n u12_x1 u12_x2 u12_T0 u12_T1 u12_Sj u12_Rd u12_Pg u12_Pt u12_Mk u12_Lk u12_Ck u12_Jd u12_Ld u12_Pr u12_rt z.1 z.2 h h0 h1 _ _ _ hP hS (lv_sub hl [0, 1, 2, 3, 4] rfl)
    · replace h := o_ff c2 h
      refine lv_aload_n hx hb d_Jd_hasDependents_44 rfl (lv_at hl 0 rfl) ?_
      refine lv_iload_n hx hb d_Jd_hasDependents_45 rfl (lv_at hl 3 rfl) ?_
      refine lv_iload_n hx hb d_Jd_hasDependents_46 rfl (lv_at hl 2 rfl) ?_
      obtain ⟨q5, hq5, h⟩ := o_bd_some h
      refine o_V (st1 := [.int q5]) (w1 := (o_cw ad ca u12_rt u12_Sj u12_T0 u12_T1 u12_Rd u12_Pg u12_Pt u12_Mk u12_Lk u12_Ck u12_Jd u12_Ld u12_Pr)) hE.1 C (c_Jd_hasAll hE l n z.1 u12_x2 u12_T0 u12_T1 u12_Sj u12_Rd u12_Pg u12_Pt u12_Mk u12_Lk u12_Ck u12_Jd u12_Ld u12_Pr u12_rt hq5) hP (hDD _ _ _ _ _ _ _ _ _ _ _ _ _) hS hl.1 rfl cw_49 k_6_222 k_6_224 k_s_79 k_1_9 k_6_225 hv_Jd_hasAll rfl rfl ⟨Nat.le_of_ble_eq_true rfl, Nat.le_of_ble_eq_true rfl⟩ rfl (Nat.le_of_ble_eq_true rfl) ⟨Nat.le_of_ble_eq_true rfl, Nat.le_of_ble_eq_true rfl⟩ rfl d_Jd_hasDependents_47 (fun H locs hP hS => ?_)
      refine lv_if_ne (tgt := 55) hx hb d_Jd_hasDependents_50 (by decide) (fun c3 => ?_) (fun c3 => ?_)
      · replace h := o_ff c3 h
        exact w_Jd_hasDependents_j55 hE C hDD n u12_x1 u12_x2 u12_T0 u12_T1 u12_Sj u12_Rd u12_Pg u12_Pt u12_Mk u12_Lk u12_Ck u12_Jd u12_Ld u12_Pr u12_rt z.1 z.2 h h0 h1 _ _ _ hP hS (lv_sub hl [0, 1, 2, 3, 4] rfl)
      · replace h := o_tt c3 h
        cases h
        exact h1 (Nat.succ_ne_zero 0) _ _ _ hP hS (lv_sub hl [] rfl)
set_option maxHeartbeats 4000000 in
set_option maxRecDepth 100000 in
theorem c_Jd_hasDependents {E : (Nat → Prop) → State → Heap → Prop} {D : va_G} {ad kd sd : Nat → Nat} {ca : Nat → ClassId} (hE : o_EK E kd sd) (l : Launch) (n : Nat) (x1 : Int32) (x2 : Int32) (T0 : STx) (T1 : STx) (Sj : SSJ) (Rd : SRd) (Pg : SPg) (Pt : SPt) (Mk : SMk) (Lk : SLk) (Ck : SCk) (Jd : SJd) (Ld : SLd) (Pr : SPr) (rt : Nat) {r : Int32} (h : m_Jd_hasDependents n x1 x2 T0 T1 = some r) : o_Cn E l D o_cls (o_tys ca) y_Jd_hasDependents cc_Jd_hasDependents rm_Jd_hasDependents [.ref (ad 49), .int x1, .int x2] (o_cw ad ca rt Sj T0 T1 Rd Pg Pt Mk Lk Ck Jd Ld Pr) (o_cw ad ca rt Sj T0 T1 Rd Pg Pt Mk Lk Ck Jd Ld Pr) (some (.int r)) := by
  refine o_Cn_of (by decide) (Nat.le_of_ble_eq_true rfl) ?_
  intro p e s m below meth c A ls C hD hP hS hl
  have hDD : ∀ (rt : Nat) (Sj : SSJ) (T0 : STx) (T1 : STx) (Rd : SRd) (Pg : SPg) (Pt : SPt) (Mk : SMk) (Lk : SLk) (Ck : SCk) (Jd : SJd) (Ld : SLd) (Pr : SPr), va_D A (o_cw ad ca rt Sj T0 T1 Rd Pg Pt Mk Lk Ck Jd Ld Pr) := fun _ _ _ _ _ _ _ _ _ _ _ _ _ => o_D_map hD rfl
  have hl : lv_has ls 5 [(0, .ref (ad 49)), (1, .int x1), (2, .int x2)] := hl
  unfold m_Jd_hasDependents at h
  have C0 := C
  obtain ⟨hx, hb, -, -, -, hown, hts, hK, -, -⟩ := C0
  refine lv_aload_n hx hb d_Jd_hasDependents_0 rfl (lv_at hl 0 rfl) ?_
  refine o_get (v := .ref (ad 1)) C in_Jd hP 49 cw_49 rfl 0 (by decide) k_2_74 rfl rfl d_Jd_hasDependents_1 ?_
  refine lv_iload_n hx hb d_Jd_hasDependents_4 rfl (lv_at hl 1 rfl) ?_
  obtain ⟨q1, hq1, h⟩ := o_bd_some h
  refine o_V (st1 := [.int q1]) (w1 := (o_cw ad ca rt Sj T0 T1 Rd Pg Pt Mk Lk Ck Jd Ld Pr)) hE.1 C (c_Tx_firstChild_0 hE l x1 T0 Sj T1 Rd Pg Pt Mk Lk Ck Jd Ld Pr rt hq1) hP (hDD _ _ _ _ _ _ _ _ _ _ _ _ _) hS hl.1 rfl cw_1 k_6_25 k_3_211 k_3_212 k_1_2 k_3_213 hv_Tx_firstChild rfl rfl ⟨Nat.le_of_ble_eq_true rfl, Nat.le_of_ble_eq_true rfl⟩ rfl (Nat.le_of_ble_eq_true rfl) ⟨Nat.le_of_ble_eq_true rfl, Nat.le_of_ble_eq_true rfl⟩ rfl d_Jd_hasDependents_5 (fun H locs hP hS => ?_)
  refine lv_istore_n (lv' := [(3, .int q1), (0, .ref (ad 49)), (1, .int x1), (2, .int x2)]) hx hb d_Jd_hasDependents_8 rfl hl (by decide) rfl (fun ls hl => ?_)
  refine lv_iconst (v := (0:Int32)) hx hb d_Jd_hasDependents_9 (by decide) ?_
  refine lv_istore (lv' := [(4, .int (0:Int32)), (3, .int q1), (0, .ref (ad 49)), (1, .int x1), (2, .int x2)]) hx hb d_Jd_hasDependents_10 hl (by decide) rfl (fun ls hl => ?_)
  obtain ⟨q6, hq6, h⟩ := o_bd_some h
  refine o_sim2 (AH := fun zz => o_At p l e rm_Jd_hasDependents s m _ below meth c _ o_cls D A 5 12 [] (o_cw ad ca rt Sj T0 T1 Rd Pg Pt Mk Lk Ck Jd Ld Pr) [(0, .ref (ad 49)), (1, .int x1), (2, .int x2), (3, .int zz.1), (4, .int zz.2)]) (AX := fun qq => if qq.1 = 1 then o_At p l e rm_Jd_hasDependents s m _ below meth c _ o_cls D A 5 53 [] (o_cw ad ca rt Sj T0 T1 Rd Pg Pt Mk Lk Ck Jd Ld Pr) [] else o_At p l e rm_Jd_hasDependents s m _ below meth c _ o_cls D A 5 70 [] (o_cw ad ca rt Sj T0 T1 Rd Pg Pt Mk Lk Ck Jd Ld Pr) []) (fun zz qq h h0 h1 => w_Jd_hasDependents_b12 hE C hDD n x1 x2 T0 T1 Sj Rd Pg Pt Mk Lk Ck Jd Ld Pr rt zz qq h h0 h1) n _ q6 hq6 ?_ _ _ _ hP hS (lv_sub hl [2, 3, 4, 1, 0] rfl)
  by_cases c4 : q6.1 = 1
  · replace h := o_tt c4 h
    refine o_ip c4 ?_
    intro H locs ls hP hS hl
    refine lv_iconst (v := (0:Int32)) hx hb d_Jd_hasDependents_53 (by decide) ?_
    cases h
    exact o_rz (v := (0:Int32)) C o_nar0 hP hS d_Jd_hasDependents_54
  replace h := o_ff c4 h
  refine o_in_ c4 ?_
  intro H locs ls hP hS hl
  refine lv_iconst (v := (1:Int32)) hx hb d_Jd_hasDependents_70 (by decide) ?_
  cases h
  exact o_rz (v := (1:Int32)) C o_nar1 hP hS d_Jd_hasDependents_71
set_option maxHeartbeats 4000000 in
set_option maxRecDepth 100000 in
theorem w_Pr_sort_j71 {E : (Nat → Prop) → State → Heap → Prop} {p : Program} {l : Launch} {e : Env} {s : State} {m : MethodId} {args : Array Value} {below : List Frame} {meth : Method} {c : Code} {D : va_G} {ad kd sd : Nat → Nat} {ca : Nat → ClassId} {A : Nat → Prop} {Q : State → Prop} (hE : o_EK E kd sd) (C : o_Cx E p s m args meth c D o_cls (o_tys ca) "SchemaJudge$Pairs" b_Pr_sort none 5 cc_Pr_sort A) (hDD : ∀ (rt : Nat) (Sj : SSJ) (T0 : STx) (T1 : STx) (Rd : SRd) (Pg : SPg) (Pt : SPt) (Mk : SMk) (Lk : SLk) (Ck : SCk) (Jd : SJd) (Ld : SLd) (Pr : SPr), va_D A (o_cw ad ca rt Sj T0 T1 Rd Pg Pt Mk Lk Ck Jd Ld Pr)) (n : Nat) (u27_x1 : Int32) (u27_x2 : Int32) (u27_x3 : Int32) (u27_Sj : SSJ) (u27_T0 : STx) (u27_T1 : STx) (u27_Rd : SRd) (u27_Pg : SPg) (u27_Pt : SPt) (u27_Mk : SMk) (u27_Lk : SLk) (u27_Ck : SCk) (u27_Jd : SJd) (u27_Ld : SLd) (u27_rt : Nat) (x4 : Int32) (Pr : SPr) {q : Nat × Int32 × SPr} (h : m_Pr_sort_j71 n u27_x1 u27_x2 u27_x3 x4 Pr = some q) (h0 : q.1 = 0 → o_At p l e rm_Pr_sort s m args below meth c Q o_cls D A 5 27 [] (o_cw ad ca u27_rt u27_Sj u27_T0 u27_T1 u27_Rd u27_Pg u27_Pt u27_Mk u27_Lk u27_Ck u27_Jd u27_Ld q.2.2) [(0, .ref (ad 54)), (1, .int u27_x1), (2, .int u27_x2), (3, .int u27_x3), (4, .int q.2.1)]) (h1 : q.1 ≠ 0 → (o_At p l e rm_Pr_sort s m args below meth c Q o_cls D A 5 109 [] (o_cw ad ca u27_rt u27_Sj u27_T0 u27_T1 u27_Rd u27_Pg u27_Pt u27_Mk u27_Lk u27_Ck u27_Jd u27_Ld q.2.2) [(0, .ref (ad 54)), (1, .int u27_x1), (2, .int u27_x2), (3, .int u27_x3), (4, .int q.2.1)])) : o_At p l e rm_Pr_sort s m args below meth c Q o_cls D A 5 71 [] (o_cw ad ca u27_rt u27_Sj u27_T0 u27_T1 u27_Rd u27_Pg u27_Pt u27_Mk u27_Lk u27_Ck u27_Jd u27_Ld Pr) [(0, .ref (ad 54)), (1, .int u27_x1), (2, .int u27_x2), (3, .int u27_x3), (4, .int x4)] := by
  unfold m_Pr_sort_j71 at h
  intro H locs ls hP hS hl
  have C0 := C
  obtain ⟨hx, hb, -, -, -, hown, hts, hK, -, -⟩ := C0
  refine lv_aload_n hx hb d_Pr_sort_71 rfl (lv_at hl 0 rfl) ?_
  refine o_get (v := .ref (ad 55)) C in_Pr hP 54 cw_54 rfl 0 (by decide) k_2_64 rfl rfl d_Pr_sort_72 ?_
  refine lv_iload hx hb d_Pr_sort_75 (lv_at hl 4 rfl) ?_
  refine lv_aload_n hx hb d_Pr_sort_77 rfl (lv_at hl 0 rfl) ?_
  refine o_get (v := .ref (ad 55)) C in_Pr hP 54 cw_54 rfl 0 (by decide) k_2_64 rfl rfl d_Pr_sort_78 ?_
  refine lv_iload hx hb d_Pr_sort_81 (lv_at hl 4 rfl) ?_
  refine lv_iconst (v := (1:Int32)) hx hb d_Pr_sort_83 (by decide) ?_
  refine lv_isub hx hb d_Pr_sort_84 ?_
  obtain ⟨g7, h⟩ := o_gd_some h
  refine o_iald (f := (Pr_values Pr)) C hP 55 43 cw_55 rfl g7 d_Pr_sort_85 ?_
  obtain ⟨g8, h⟩ := o_gd_some h
  refine o_iast (f := (Pr_values Pr)) (w1 := (o_cw ad ca u27_rt u27_Sj u27_T0 u27_T1 u27_Rd u27_Pg u27_Pt u27_Mk u27_Lk u27_Ck u27_Jd u27_Ld (Pr_mk (upd (Pr_values Pr) x4.toNatClampNeg ((Pr_values Pr) (x4 - (1:Int32)).toNatClampNeg)) (Pr_keywords Pr) (Pr_size Pr)))) C hP (hDD _ _ _ _ _ _ _ _ _ _ _ _ _) hS 55 43 cw_55 rfl g8 rfl d_Pr_sort_86 (fun H locs hP hS => ?_)
  refine lv_aload_n hx hb d_Pr_sort_87 rfl (lv_at hl 0 rfl) ?_
  refine o_get (v := .ref (ad 56)) C in_Pr hP 54 cw_54 rfl 1 (by decide) k_2_65 rfl rfl d_Pr_sort_88 ?_
  refine lv_iload hx hb d_Pr_sort_91 (lv_at hl 4 rfl) ?_
  refine lv_aload_n hx hb d_Pr_sort_93 rfl (lv_at hl 0 rfl) ?_
  refine o_get (v := .ref (ad 56)) C in_Pr hP 54 cw_54 rfl 1 (by decide) k_2_65 rfl rfl d_Pr_sort_94 ?_
  refine lv_iload hx hb d_Pr_sort_97 (lv_at hl 4 rfl) ?_
  refine lv_iconst (v := (1:Int32)) hx hb d_Pr_sort_99 (by decide) ?_
  refine lv_isub hx hb d_Pr_sort_100 ?_
  obtain ⟨g9, h⟩ := o_gd_some h
  refine o_iald (f := (Pr_keywords Pr)) C hP 56 44 cw_56 rfl g9 d_Pr_sort_101 ?_
  obtain ⟨g10, h⟩ := o_gd_some h
  refine o_iast (f := (Pr_keywords Pr)) (w1 := (o_cw ad ca u27_rt u27_Sj u27_T0 u27_T1 u27_Rd u27_Pg u27_Pt u27_Mk u27_Lk u27_Ck u27_Jd u27_Ld (Pr_mk (upd (Pr_values Pr) x4.toNatClampNeg ((Pr_values Pr) (x4 - (1:Int32)).toNatClampNeg)) (upd (Pr_keywords Pr) x4.toNatClampNeg ((Pr_keywords Pr) (x4 - (1:Int32)).toNatClampNeg)) (Pr_size Pr)))) C hP (hDD _ _ _ _ _ _ _ _ _ _ _ _ _) hS 56 44 cw_56 rfl g10 rfl d_Pr_sort_102 (fun H locs hP hS => ?_)
  obtain ⟨x4_103, ex4_103⟩ : ∃ y : Int32, y = x4 + (-1:Int32) := ⟨_, rfl⟩
  replace h := o_nm_at ex4_103 h
  refine lv_iinc (v := x4_103) (lv' := [(4, .int x4_103), (0, .ref (ad 54)), (1, .int u27_x1), (2, .int u27_x2), (3, .int u27_x3)]) hx hb d_Pr_sort_103 hl (k := 4) rfl (by rw [ex4_103]; rfl) (by decide) rfl (fun ls hl => ?_)
  refine lv_goto (tgt := 27) hx hb d_Pr_sort_106 (by decide) ?_
  cases h
  exact h0 rfl _ _ _ hP hS (lv_sub hl [1, 2, 3, 4, 0] rfl)
set_option maxHeartbeats 4000000 in
set_option maxRecDepth 100000 in
theorem w_Pr_sort_b27 {E : (Nat → Prop) → State → Heap → Prop} {p : Program} {l : Launch} {e : Env} {s : State} {m : MethodId} {args : Array Value} {below : List Frame} {meth : Method} {c : Code} {D : va_G} {ad kd sd : Nat → Nat} {ca : Nat → ClassId} {A : Nat → Prop} {Q : State → Prop} (hE : o_EK E kd sd) (C : o_Cx E p s m args meth c D o_cls (o_tys ca) "SchemaJudge$Pairs" b_Pr_sort none 5 cc_Pr_sort A) (hDD : ∀ (rt : Nat) (Sj : SSJ) (T0 : STx) (T1 : STx) (Rd : SRd) (Pg : SPg) (Pt : SPt) (Mk : SMk) (Lk : SLk) (Ck : SCk) (Jd : SJd) (Ld : SLd) (Pr : SPr), va_D A (o_cw ad ca rt Sj T0 T1 Rd Pg Pt Mk Lk Ck Jd Ld Pr)) (n : Nat) (u27_x1 : Int32) (u27_x2 : Int32) (u27_x3 : Int32) (u27_Sj : SSJ) (u27_T0 : STx) (u27_T1 : STx) (u27_Rd : SRd) (u27_Pg : SPg) (u27_Pt : SPt) (u27_Mk : SMk) (u27_Lk : SLk) (u27_Ck : SCk) (u27_Jd : SJd) (u27_Ld : SLd) (u27_rt : Nat) (z : Int32 × SPr) (q : Nat × Int32 × SPr) (h : m_Pr_sort_b27 n u27_x1 u27_x2 u27_x3 z = some q) (h0 : q.1 = 0 → o_At p l e rm_Pr_sort s m args below meth c Q o_cls D A 5 27 [] (o_cw ad ca u27_rt u27_Sj u27_T0 u27_T1 u27_Rd u27_Pg u27_Pt u27_Mk u27_Lk u27_Ck u27_Jd u27_Ld q.2.2) [(0, .ref (ad 54)), (1, .int u27_x1), (2, .int u27_x2), (3, .int u27_x3), (4, .int q.2.1)]) (h1 : q.1 ≠ 0 → (o_At p l e rm_Pr_sort s m args below meth c Q o_cls D A 5 109 [] (o_cw ad ca u27_rt u27_Sj u27_T0 u27_T1 u27_Rd u27_Pg u27_Pt u27_Mk u27_Lk u27_Ck u27_Jd u27_Ld q.2.2) [(0, .ref (ad 54)), (1, .int u27_x1), (2, .int u27_x2), (3, .int u27_x3), (4, .int q.2.1)])) : o_At p l e rm_Pr_sort s m args below meth c Q o_cls D A 5 27 [] (o_cw ad ca u27_rt u27_Sj u27_T0 u27_T1 u27_Rd u27_Pg u27_Pt u27_Mk u27_Lk u27_Ck u27_Jd u27_Ld z.2) [(0, .ref (ad 54)), (1, .int u27_x1), (2, .int u27_x2), (3, .int u27_x3), (4, .int z.1)] := by
  unfold m_Pr_sort_b27 at h
  intro H locs ls hP hS hl
  have C0 := C
  obtain ⟨hx, hb, -, -, -, hown, hts, hK, -, -⟩ := C0
  refine lv_iload hx hb d_Pr_sort_27 (lv_at hl 4 rfl) ?_
  refine lv_if_le (tgt := 109) hx hb d_Pr_sort_29 (by decide) (fun c4 => ?_) (fun c4 => ?_)
  · replace h := o_tt c4 h
    cases h
    exact h1 (Nat.succ_ne_zero 0) _ _ _ hP hS (lv_sub hl [0, 1, 2, 3, 4] rfl)
  · replace h := o_ff c4 h
    refine lv_aload_n hx hb d_Pr_sort_32 rfl (lv_at hl 0 rfl) ?_
    refine o_get (v := .ref (ad 55)) C in_Pr hP 54 cw_54 rfl 0 (by decide) k_2_64 rfl rfl d_Pr_sort_33 ?_
    refine lv_iload hx hb d_Pr_sort_36 (lv_at hl 4 rfl) ?_
    refine lv_iconst (v := (1:Int32)) hx hb d_Pr_sort_38 (by decide) ?_
    refine lv_isub hx hb d_Pr_sort_39 ?_
    obtain ⟨g5, h⟩ := o_gd_some h
    refine o_iald (f := (Pr_values z.2)) C hP 55 43 cw_55 rfl g5 d_Pr_sort_40 ?_
    refine lv_iload_n hx hb d_Pr_sort_41 rfl (lv_at hl 2 rfl) ?_
    refine lv_icmp_gt (tgt := 71) hx hb d_Pr_sort_42 (by decide) (fun c6 => ?_) (fun c6 => ?_)
    · replace h := o_tt c6 h
      exact w_Pr_sort_j71 hE C hDD n u27_x1 u27_x2 u27_x3 u27_Sj u27_T0 u27_T1 u27_Rd u27_Pg u27_Pt u27_Mk u27_Lk u27_Ck u27_Jd u27_Ld u27_rt z.1 z.2 h h0 h1 _ _ _ hP hS (lv_sub hl [0, 1, 2, 3, 4] rfl)
    · replace h := o_ff c6 h
      refine lv_aload_n hx hb d_Pr_sort_45 rfl (lv_at hl 0 rfl) ?_
      refine o_get (v := .ref (ad 55)) C in_Pr hP 54 cw_54 rfl 0 (by decide) k_2_64 rfl rfl d_Pr_sort_46 ?_
      refine lv_iload hx hb d_Pr_sort_49 (lv_at hl 4 rfl) ?_
      refine lv_iconst (v := (1:Int32)) hx hb d_Pr_sort_51 (by decide) ?_
      refine lv_isub hx hb d_Pr_sort_52 ?_
      obtain ⟨g11, h⟩ := o_gd_some h
      refine o_iald (f := (Pr_values z.2)) C hP 55 43 cw_55 rfl g11 d_Pr_sort_53 ?_
      refine lv_iload_n hx hb d_Pr_sort_54 rfl (lv_at hl 2 rfl) ?_
      refine lv_icmp_ne (tgt := 109) hx hb d_Pr_sort_55 (by decide) (fun c12 => ?_) (fun c12 => ?_)
      · replace h := o_ff c12 h
        cases h
        exact h1 (Nat.succ_ne_zero 0) _ _ _ hP hS (lv_sub hl [0, 1, 2, 3, 4] rfl)
      · replace h := o_tt c12 h
        refine lv_aload_n hx hb d_Pr_sort_58 rfl (lv_at hl 0 rfl) ?_
        refine o_get (v := .ref (ad 56)) C in_Pr hP 54 cw_54 rfl 1 (by decide) k_2_65 rfl rfl d_Pr_sort_59 ?_
        refine lv_iload hx hb d_Pr_sort_62 (lv_at hl 4 rfl) ?_
        refine lv_iconst (v := (1:Int32)) hx hb d_Pr_sort_64 (by decide) ?_
        refine lv_isub hx hb d_Pr_sort_65 ?_
        obtain ⟨g13, h⟩ := o_gd_some h
        refine o_iald (f := (Pr_keywords z.2)) C hP 56 44 cw_56 rfl g13 d_Pr_sort_66 ?_
        refine lv_iload_n hx hb d_Pr_sort_67 rfl (lv_at hl 3 rfl) ?_
        refine lv_icmp_le (tgt := 109) hx hb d_Pr_sort_68 (by decide) (fun c14 => ?_) (fun c14 => ?_)
        · replace h := o_tt c14 h
          cases h
          exact h1 (Nat.succ_ne_zero 0) _ _ _ hP hS (lv_sub hl [0, 1, 2, 3, 4] rfl)
        · replace h := o_ff c14 h
          exact w_Pr_sort_j71 hE C hDD n u27_x1 u27_x2 u27_x3 u27_Sj u27_T0 u27_T1 u27_Rd u27_Pg u27_Pt u27_Mk u27_Lk u27_Ck u27_Jd u27_Ld u27_rt z.1 z.2 h h0 h1 _ _ _ hP hS (lv_sub hl [0, 1, 2, 3, 4] rfl)
set_option maxHeartbeats 4000000 in
set_option maxRecDepth 100000 in
theorem w_Pr_sort_j109 {E : (Nat → Prop) → State → Heap → Prop} {p : Program} {l : Launch} {e : Env} {s : State} {m : MethodId} {args : Array Value} {below : List Frame} {meth : Method} {c : Code} {D : va_G} {ad kd sd : Nat → Nat} {ca : Nat → ClassId} {A : Nat → Prop} {Q : State → Prop} (hE : o_EK E kd sd) (C : o_Cx E p s m args meth c D o_cls (o_tys ca) "SchemaJudge$Pairs" b_Pr_sort none 5 cc_Pr_sort A) (hDD : ∀ (rt : Nat) (Sj : SSJ) (T0 : STx) (T1 : STx) (Rd : SRd) (Pg : SPg) (Pt : SPt) (Mk : SMk) (Lk : SLk) (Ck : SCk) (Jd : SJd) (Ld : SLd) (Pr : SPr), va_D A (o_cw ad ca rt Sj T0 T1 Rd Pg Pt Mk Lk Ck Jd Ld Pr)) (n : Nat) (u2_Sj : SSJ) (u2_T0 : STx) (u2_T1 : STx) (u2_Rd : SRd) (u2_Pg : SPg) (u2_Pt : SPt) (u2_Mk : SMk) (u2_Lk : SLk) (u2_Ck : SCk) (u2_Jd : SJd) (u2_Ld : SLd) (u2_rt : Nat) (x1 : Int32) (x2 : Int32) (x3 : Int32) (x4 : Int32) (Pr : SPr) {q : Nat × Int32 × SPr} (h : m_Pr_sort_j109 n x1 x2 x3 x4 Pr = some q) (h0 : q.1 = 0 → o_At p l e rm_Pr_sort s m args below meth c Q o_cls D A 5 2 [] (o_cw ad ca u2_rt u2_Sj u2_T0 u2_T1 u2_Rd u2_Pg u2_Pt u2_Mk u2_Lk u2_Ck u2_Jd u2_Ld q.2.2) [(0, .ref (ad 54)), (1, .int q.2.1)]) (h1 : q.1 ≠ 0 → (o_At p l e rm_Pr_sort s m args below meth c Q o_cls D A 5 131 [] (o_cw ad ca u2_rt u2_Sj u2_T0 u2_T1 u2_Rd u2_Pg u2_Pt u2_Mk u2_Lk u2_Ck u2_Jd u2_Ld q.2.2) [])) : o_At p l e rm_Pr_sort s m args below meth c Q o_cls D A 5 109 [] (o_cw ad ca u2_rt u2_Sj u2_T0 u2_T1 u2_Rd u2_Pg u2_Pt u2_Mk u2_Lk u2_Ck u2_Jd u2_Ld Pr) [(0, .ref (ad 54)), (1, .int x1), (2, .int x2), (3, .int x3), (4, .int x4)] := by
  unfold m_Pr_sort_j109 at h
  intro H locs ls hP hS hl
  have C0 := C
  obtain ⟨hx, hb, -, -, -, hown, hts, hK, -, -⟩ := C0
  refine lv_aload_n hx hb d_Pr_sort_109 rfl (lv_at hl 0 rfl) ?_
  refine o_get (v := .ref (ad 55)) C in_Pr hP 54 cw_54 rfl 0 (by decide) k_2_64 rfl rfl d_Pr_sort_110 ?_
  refine lv_iload hx hb d_Pr_sort_113 (lv_at hl 4 rfl) ?_
  refine lv_iload_n hx hb d_Pr_sort_115 rfl (lv_at hl 2 rfl) ?_
  obtain ⟨g15, h⟩ := o_gd_some h
  refine o_iast (f := (Pr_values Pr)) (w1 := (o_cw ad ca u2_rt u2_Sj u2_T0 u2_T1 u2_Rd u2_Pg u2_Pt u2_Mk u2_Lk u2_Ck u2_Jd u2_Ld (Pr_mk (upd (Pr_values Pr) x4.toNatClampNeg x2) (Pr_keywords Pr) (Pr_size Pr)))) C hP (hDD _ _ _ _ _ _ _ _ _ _ _ _ _) hS 55 43 cw_55 rfl g15 rfl d_Pr_sort_116 (fun H locs hP hS => ?_)
  refine lv_aload_n hx hb d_Pr_sort_117 rfl (lv_at hl 0 rfl) ?_
  refine o_get (v := .ref (ad 56)) C in_Pr hP 54 cw_54 rfl 1 (by decide) k_2_65 rfl rfl d_Pr_sort_118 ?_
  refine lv_iload hx hb d_Pr_sort_121 (lv_at hl 4 rfl) ?_
  refine lv_iload_n hx hb d_Pr_sort_123 rfl (lv_at hl 3 rfl) ?_
  obtain ⟨g16, h⟩ := o_gd_some h
  refine o_iast (f := (Pr_keywords Pr)) (w1 := (o_cw ad ca u2_rt u2_Sj u2_T0 u2_T1 u2_Rd u2_Pg u2_Pt u2_Mk u2_Lk u2_Ck u2_Jd u2_Ld (Pr_mk (upd (Pr_values Pr) x4.toNatClampNeg x2) (upd (Pr_keywords Pr) x4.toNatClampNeg x3) (Pr_size Pr)))) C hP (hDD _ _ _ _ _ _ _ _ _ _ _ _ _) hS 56 44 cw_56 rfl g16 rfl d_Pr_sort_124 (fun H locs hP hS => ?_)
  obtain ⟨x1_125, ex1_125⟩ : ∃ y : Int32, y = x1 + (1:Int32) := ⟨_, rfl⟩
  replace h := o_nm_at ex1_125 h
  refine lv_iinc (v := x1_125) (lv' := [(1, .int x1_125), (0, .ref (ad 54)), (2, .int x2), (3, .int x3), (4, .int x4)]) hx hb d_Pr_sort_125 hl (k := 1) rfl (by rw [ex1_125]; rfl) (by decide) rfl (fun ls hl => ?_)
  refine lv_goto (tgt := 2) hx hb d_Pr_sort_128 (by decide) ?_
  cases h
  exact h0 rfl _ _ _ hP hS (lv_sub hl [1, 0] rfl)
set_option maxHeartbeats 4000000 in
set_option maxRecDepth 100000 in
theorem w_Pr_sort_b2 {E : (Nat → Prop) → State → Heap → Prop} {p : Program} {l : Launch} {e : Env} {s : State} {m : MethodId} {args : Array Value} {below : List Frame} {meth : Method} {c : Code} {D : va_G} {ad kd sd : Nat → Nat} {ca : Nat → ClassId} {A : Nat → Prop} {Q : State → Prop} (hE : o_EK E kd sd) (C : o_Cx E p s m args meth c D o_cls (o_tys ca) "SchemaJudge$Pairs" b_Pr_sort none 5 cc_Pr_sort A) (hDD : ∀ (rt : Nat) (Sj : SSJ) (T0 : STx) (T1 : STx) (Rd : SRd) (Pg : SPg) (Pt : SPt) (Mk : SMk) (Lk : SLk) (Ck : SCk) (Jd : SJd) (Ld : SLd) (Pr : SPr), va_D A (o_cw ad ca rt Sj T0 T1 Rd Pg Pt Mk Lk Ck Jd Ld Pr)) (n : Nat) (u2_Sj : SSJ) (u2_T0 : STx) (u2_T1 : STx) (u2_Rd : SRd) (u2_Pg : SPg) (u2_Pt : SPt) (u2_Mk : SMk) (u2_Lk : SLk) (u2_Ck : SCk) (u2_Jd : SJd) (u2_Ld : SLd) (u2_rt : Nat) (z : Int32 × SPr) (q : Nat × Int32 × SPr) (h : m_Pr_sort_b2 n z = some q) (h0 : q.1 = 0 → o_At p l e rm_Pr_sort s m args below meth c Q o_cls D A 5 2 [] (o_cw ad ca u2_rt u2_Sj u2_T0 u2_T1 u2_Rd u2_Pg u2_Pt u2_Mk u2_Lk u2_Ck u2_Jd u2_Ld q.2.2) [(0, .ref (ad 54)), (1, .int q.2.1)]) (h1 : q.1 ≠ 0 → (o_At p l e rm_Pr_sort s m args below meth c Q o_cls D A 5 131 [] (o_cw ad ca u2_rt u2_Sj u2_T0 u2_T1 u2_Rd u2_Pg u2_Pt u2_Mk u2_Lk u2_Ck u2_Jd u2_Ld q.2.2) [])) : o_At p l e rm_Pr_sort s m args below meth c Q o_cls D A 5 2 [] (o_cw ad ca u2_rt u2_Sj u2_T0 u2_T1 u2_Rd u2_Pg u2_Pt u2_Mk u2_Lk u2_Ck u2_Jd u2_Ld z.2) [(0, .ref (ad 54)), (1, .int z.1)] := by
  unfold m_Pr_sort_b2 at h
  intro H locs ls hP hS hl
  have C0 := C
  obtain ⟨hx, hb, -, -, -, hown, hts, hK, -, -⟩ := C0
  refine lv_iload_n hx hb d_Pr_sort_2 rfl (lv_at hl 1 rfl) ?_
  refine lv_aload_n hx hb d_Pr_sort_3 rfl (lv_at hl 0 rfl) ?_
  refine o_get (v := .int (Pr_size z.2)) C in_Pr hP 54 cw_54 rfl 2 (by decide) k_2_66 rfl rfl d_Pr_sort_4 ?_
  refine lv_icmp_ge (tgt := 131) hx hb d_Pr_sort_7 (by decide) (fun c1 => ?_) (fun c1 => ?_)
  · replace h := o_tt c1 h
    cases h
    exact h1 (Nat.succ_ne_zero 0) _ _ _ hP hS (lv_sub hl [] rfl)
  · replace h := o_ff c1 h
    refine lv_aload_n hx hb d_Pr_sort_10 rfl (lv_at hl 0 rfl) ?_
    refine o_get (v := .ref (ad 55)) C in_Pr hP 54 cw_54 rfl 0 (by decide) k_2_64 rfl rfl d_Pr_sort_11 ?_
    refine lv_iload_n hx hb d_Pr_sort_14 rfl (lv_at hl 1 rfl) ?_
    obtain ⟨g2, h⟩ := o_gd_some h
    refine o_iald (f := (Pr_values z.2)) C hP 55 43 cw_55 rfl g2 d_Pr_sort_15 ?_
    refine lv_topi (fun x2_16 ex2_16 => ?_)
    replace h := o_nm_at ex2_16 h
    refine lv_istore_n (lv' := [(2, .int x2_16), (0, .ref (ad 54)), (1, .int z.1)]) hx hb d_Pr_sort_16 rfl hl (by decide) rfl (fun ls hl => ?_)
    refine lv_aload_n hx hb d_Pr_sort_17 rfl (lv_at hl 1 rfl) ?_
    refine o_get (v := .ref (ad 56)) C in_Pr hP 54 cw_54 rfl 1 (by decide) k_2_65 rfl rfl d_Pr_sort_18 ?_
    refine lv_iload_n hx hb d_Pr_sort_21 rfl (lv_at hl 2 rfl) ?_
    obtain ⟨g3, h⟩ := o_gd_some h
    refine o_iald (f := (Pr_keywords z.2)) C hP 56 44 cw_56 rfl g3 d_Pr_sort_22 ?_
    refine lv_topi (fun x3_23 ex3_23 => ?_)
    replace h := o_nm_at ex3_23 h
    refine lv_istore_n (lv' := [(3, .int x3_23), (2, .int x2_16), (0, .ref (ad 54)), (1, .int z.1)]) hx hb d_Pr_sort_23 rfl hl (by decide) rfl (fun ls hl => ?_)
    refine lv_iload_n hx hb d_Pr_sort_24 rfl (lv_at hl 3 rfl) ?_
    refine lv_istore (lv' := [(4, .int z.1), (3, .int x3_23), (2, .int x2_16), (0, .ref (ad 54)), (1, .int z.1)]) hx hb d_Pr_sort_25 hl (by decide) rfl (fun ls hl => ?_)
    obtain ⟨q1, hq1, h⟩ := o_bd_some h
    refine o_sim2 (AH := fun zz => o_At p l e rm_Pr_sort s m args below meth c _ o_cls D A 5 27 [] (o_cw ad ca u2_rt u2_Sj u2_T0 u2_T1 u2_Rd u2_Pg u2_Pt u2_Mk u2_Lk u2_Ck u2_Jd u2_Ld zz.2) [(0, .ref (ad 54)), (1, .int z.1), (2, .int x2_16), (3, .int x3_23), (4, .int zz.1)]) (AX := fun qq => o_At p l e rm_Pr_sort s m args below meth c _ o_cls D A 5 109 [] (o_cw ad ca u2_rt u2_Sj u2_T0 u2_T1 u2_Rd u2_Pg u2_Pt u2_Mk u2_Lk u2_Ck u2_Jd u2_Ld qq.2.2) [(0, .ref (ad 54)), (1, .int z.1), (2, .int x2_16), (3, .int x3_23), (4, .int qq.2.1)]) (fun zz qq h h0 h1 => w_Pr_sort_b27 hE C hDD n z.1 x2_16 x3_23 u2_Sj u2_T0 u2_T1 u2_Rd u2_Pg u2_Pt u2_Mk u2_Lk u2_Ck u2_Jd u2_Ld u2_rt zz qq h h0 h1) n _ q1 hq1 ?_ _ _ _ hP hS (lv_sub hl [3, 4, 2, 1, 0] rfl)
    intro H locs ls hP hS hl
    exact w_Pr_sort_j109 hE C hDD n u2_Sj u2_T0 u2_T1 u2_Rd u2_Pg u2_Pt u2_Mk u2_Lk u2_Ck u2_Jd u2_Ld u2_rt z.1 x2_16 x3_23 q1.2.1 q1.2.2 h h0 h1 _ _ _ hP hS (lv_sub hl [0, 1, 2, 3, 4] rfl)
set_option maxHeartbeats 4000000 in
set_option maxRecDepth 100000 in
theorem c_Pr_sort {E : (Nat → Prop) → State → Heap → Prop} {D : va_G} {ad kd sd : Nat → Nat} {ca : Nat → ClassId} (hE : o_EK E kd sd) (l : Launch) (n : Nat)  (Pr : SPr) (Sj : SSJ) (T0 : STx) (T1 : STx) (Rd : SRd) (Pg : SPg) (Pt : SPt) (Mk : SMk) (Lk : SLk) (Ck : SCk) (Jd : SJd) (Ld : SLd) (rt : Nat) {r : SPr} (h : m_Pr_sort n Pr = some r) : o_Cn E l D o_cls (o_tys ca) y_Pr_sort cc_Pr_sort rm_Pr_sort [.ref (ad 54)] (o_cw ad ca rt Sj T0 T1 Rd Pg Pt Mk Lk Ck Jd Ld Pr) (o_cw ad ca rt Sj T0 T1 Rd Pg Pt Mk Lk Ck Jd Ld r) none := by
  refine o_Cn_of (by decide) (Nat.le_of_ble_eq_true rfl) ?_
  intro p e s m below meth c A ls C hD hP hS hl
  have hDD : ∀ (rt : Nat) (Sj : SSJ) (T0 : STx) (T1 : STx) (Rd : SRd) (Pg : SPg) (Pt : SPt) (Mk : SMk) (Lk : SLk) (Ck : SCk) (Jd : SJd) (Ld : SLd) (Pr : SPr), va_D A (o_cw ad ca rt Sj T0 T1 Rd Pg Pt Mk Lk Ck Jd Ld Pr) := fun _ _ _ _ _ _ _ _ _ _ _ _ _ => o_D_map hD rfl
  have hl : lv_has ls 5 [(0, .ref (ad 54))] := hl
  unfold m_Pr_sort at h
  have C0 := C
  obtain ⟨hx, hb, -, -, -, hown, hts, hK, -, -⟩ := C0
  refine lv_iconst (v := (1:Int32)) hx hb d_Pr_sort_0 (by decide) ?_
  refine lv_istore_n (lv' := [(1, .int (1:Int32)), (0, .ref (ad 54))]) hx hb d_Pr_sort_1 rfl hl (by decide) rfl (fun ls hl => ?_)
  obtain ⟨q2, hq2, h⟩ := o_bd_some h
  refine o_sim2 (AH := fun zz => o_At p l e rm_Pr_sort s m _ below meth c _ o_cls D A 5 2 [] (o_cw ad ca rt Sj T0 T1 Rd Pg Pt Mk Lk Ck Jd Ld zz.2) [(0, .ref (ad 54)), (1, .int zz.1)]) (AX := fun qq => o_At p l e rm_Pr_sort s m _ below meth c _ o_cls D A 5 131 [] (o_cw ad ca rt Sj T0 T1 Rd Pg Pt Mk Lk Ck Jd Ld qq.2.2) []) (fun zz qq h h0 h1 => w_Pr_sort_b2 hE C hDD n Sj T0 T1 Rd Pg Pt Mk Lk Ck Jd Ld rt zz qq h h0 h1) n _ q2 hq2 ?_ _ _ _ hP hS (lv_sub hl [1, 0] rfl)
  intro H locs ls hP hS hl
  cases h
  exact o_rv C hP hS d_Pr_sort_131
set_option maxHeartbeats 4000000 in
set_option maxRecDepth 100000 in
theorem w_Jd_finish_j15 {E : (Nat → Prop) → State → Heap → Prop} {p : Program} {l : Launch} {e : Env} {s : State} {m : MethodId} {args : Array Value} {below : List Frame} {meth : Method} {c : Code} {D : va_G} {ad kd sd : Nat → Nat} {ca : Nat → ClassId} {A : Nat → Prop} (hE : o_EK E kd sd) (C : o_Cx E p s m args meth c D o_cls (o_tys ca) "SchemaJudge$Judge" b_Jd_finish none 1 cc_Jd_finish A) (hDD : ∀ (rt : Nat) (Sj : SSJ) (T0 : STx) (T1 : STx) (Rd : SRd) (Pg : SPg) (Pt : SPt) (Mk : SMk) (Lk : SLk) (Ck : SCk) (Jd : SJd) (Ld : SLd) (Pr : SPr), va_D A (o_cw ad ca rt Sj T0 T1 Rd Pg Pt Mk Lk Ck Jd Ld Pr)) (n : Nat)  (Pr : SPr) (Jd : SJd) (Sj : SSJ) (T0 : STx) (T1 : STx) (Rd : SRd) (Pg : SPg) (Pt : SPt) (Mk : SMk) (Lk : SLk) (Ck : SCk) (Ld : SLd) (rt : Nat) {r : SPr} (h : m_Jd_finish_j15 n Pr Jd = some r) : o_At p l e rm_Jd_finish s m args below meth c (MQ below (o_Qx D o_cls none (o_cw ad ca rt Sj T0 T1 Rd Pg Pt Mk Lk Ck Jd Ld r) A) args s 0 0 A) o_cls D A 1 15 [] (o_cw ad ca rt Sj T0 T1 Rd Pg Pt Mk Lk Ck Jd Ld Pr) [(0, .ref (ad 49))] := by
  unfold m_Jd_finish_j15 at h
  intro H locs ls hP hS hl
  have C0 := C
  obtain ⟨hx, hb, -, -, -, hown, hts, hK, -, -⟩ := C0
  refine lv_aload_n hx hb d_Jd_finish_15 rfl (lv_at hl 0 rfl) ?_
  refine o_get (v := .ref (ad 54)) C in_Jd hP 49 cw_49 rfl 6 (by decide) k_2_80 rfl rfl d_Jd_finish_16 ?_
  obtain ⟨q1, hq1, h⟩ := o_bd_some h
  refine o_V (st1 := []) (w1 := (o_cw ad ca rt Sj T0 T1 Rd Pg Pt Mk Lk Ck Jd Ld q1)) hE.1 C (c_Pr_sort hE l n Pr Sj T0 T1 Rd Pg Pt Mk Lk Ck Jd Ld rt hq1) hP (hDD _ _ _ _ _ _ _ _ _ _ _ _ _) hS hl.1 rfl cw_54 k_6_234 k_6_235 k_6_236 k_1_11 k_6_237 hv_Pr_sort rfl rfl ⟨Nat.le_of_ble_eq_true rfl, Nat.le_of_ble_eq_true rfl⟩ rfl (Nat.le_of_ble_eq_true rfl) ⟨Nat.le_of_ble_eq_true rfl, Nat.le_of_ble_eq_true rfl⟩ rfl d_Jd_finish_19 (fun H locs hP hS => ?_)
  cases h
  exact o_rv C hP hS d_Jd_finish_22
set_option maxHeartbeats 4000000 in
set_option maxRecDepth 100000 in
theorem c_Jd_finish {E : (Nat → Prop) → State → Heap → Prop} {D : va_G} {ad kd sd : Nat → Nat} {ca : Nat → ClassId} (hE : o_EK E kd sd) (l : Launch) (n : Nat)  (Pr : SPr) (Jd : SJd) (Sj : SSJ) (T0 : STx) (T1 : STx) (Rd : SRd) (Pg : SPg) (Pt : SPt) (Mk : SMk) (Lk : SLk) (Ck : SCk) (Ld : SLd) (rt : Nat) {r : SPr} (h : m_Jd_finish n Pr Jd = some r) : o_Cn E l D o_cls (o_tys ca) y_Jd_finish cc_Jd_finish rm_Jd_finish [.ref (ad 49)] (o_cw ad ca rt Sj T0 T1 Rd Pg Pt Mk Lk Ck Jd Ld Pr) (o_cw ad ca rt Sj T0 T1 Rd Pg Pt Mk Lk Ck Jd Ld r) none := by
  refine o_Cn_of (by decide) (Nat.le_of_ble_eq_true rfl) ?_
  intro p e s m below meth c A ls C hD hP hS hl
  have hDD : ∀ (rt : Nat) (Sj : SSJ) (T0 : STx) (T1 : STx) (Rd : SRd) (Pg : SPg) (Pt : SPt) (Mk : SMk) (Lk : SLk) (Ck : SCk) (Jd : SJd) (Ld : SLd) (Pr : SPr), va_D A (o_cw ad ca rt Sj T0 T1 Rd Pg Pt Mk Lk Ck Jd Ld Pr) := fun _ _ _ _ _ _ _ _ _ _ _ _ _ => o_D_map hD rfl
  have hl : lv_has ls 1 [(0, .ref (ad 49))] := hl
  unfold m_Jd_finish at h
  have C0 := C
  obtain ⟨hx, hb, -, -, -, hown, hts, hK, -, -⟩ := C0
  refine lv_aload_n hx hb d_Jd_finish_0 rfl (lv_at hl 0 rfl) ?_
  refine o_get (v := .int (Jd_over Jd)) C in_Jd hP 49 cw_49 rfl 9 (by decide) k_2_83 rfl rfl d_Jd_finish_1 ?_
  refine lv_if_eq (tgt := 15) hx hb d_Jd_finish_4 (by decide) (fun c1 => ?_) (fun c1 => ?_)
  · replace h := o_tt c1 h
    exact w_Jd_finish_j15 hE C hDD n Pr Jd Sj T0 T1 Rd Pg Pt Mk Lk Ck Ld rt h _ _ _ hP hS (lv_sub hl [0] rfl)
  · replace h := o_ff c1 h
    refine lv_aload_n hx hb d_Jd_finish_7 rfl (lv_at hl 0 rfl) ?_
    refine o_get (v := .ref (ad 54)) C in_Jd hP 49 cw_49 rfl 6 (by decide) k_2_80 rfl rfl d_Jd_finish_8 ?_
    refine lv_iconst (v := (0:Int32)) hx hb d_Jd_finish_11 (by decide) ?_
    obtain ⟨q2, hq2, h⟩ := o_bd_some h
    refine o_V (st1 := []) (w1 := (o_cw ad ca rt Sj T0 T1 Rd Pg Pt Mk Lk Ck Jd Ld q2)) hE.1 C (c_Pr_cut hE l (0:Int32) Pr Sj T0 T1 Rd Pg Pt Mk Lk Ck Jd Ld rt hq2) hP (hDD _ _ _ _ _ _ _ _ _ _ _ _ _) hS hl.1 rfl cw_54 k_6_3 k_6_4 k_6_5 k_1_11 k_6_6 hv_Pr_cut rfl rfl ⟨Nat.le_of_ble_eq_true rfl, Nat.le_of_ble_eq_true rfl⟩ rfl (Nat.le_of_ble_eq_true rfl) ⟨Nat.le_of_ble_eq_true rfl, Nat.le_of_ble_eq_true rfl⟩ rfl d_Jd_finish_12 (fun H locs hP hS => ?_)
    exact w_Jd_finish_j15 hE C hDD n q2 Jd Sj T0 T1 Rd Pg Pt Mk Lk Ck Ld rt h _ _ _ hP hS (lv_sub hl [0] rfl)
set_option maxHeartbeats 4000000 in
set_option maxRecDepth 100000 in
theorem c_Jd_isOver {E : (Nat → Prop) → State → Heap → Prop} {D : va_G} {ad kd sd : Nat → Nat} {ca : Nat → ClassId} (hE : o_EK E kd sd) (l : Launch)  (Jd : SJd) (Sj : SSJ) (T0 : STx) (T1 : STx) (Rd : SRd) (Pg : SPg) (Pt : SPt) (Mk : SMk) (Lk : SLk) (Ck : SCk) (Ld : SLd) (Pr : SPr) (rt : Nat) {r : Int32} (h : m_Jd_isOver Jd = some r) : o_Cn E l D o_cls (o_tys ca) y_Jd_isOver cc_Jd_isOver rm_Jd_isOver [.ref (ad 49)] (o_cw ad ca rt Sj T0 T1 Rd Pg Pt Mk Lk Ck Jd Ld Pr) (o_cw ad ca rt Sj T0 T1 Rd Pg Pt Mk Lk Ck Jd Ld Pr) (some (.int r)) := by
  refine o_Cn_of (by decide) (Nat.le_of_ble_eq_true rfl) ?_
  intro p e s m below meth c A ls C hD hP hS hl
  have hDD : ∀ (rt : Nat) (Sj : SSJ) (T0 : STx) (T1 : STx) (Rd : SRd) (Pg : SPg) (Pt : SPt) (Mk : SMk) (Lk : SLk) (Ck : SCk) (Jd : SJd) (Ld : SLd) (Pr : SPr), va_D A (o_cw ad ca rt Sj T0 T1 Rd Pg Pt Mk Lk Ck Jd Ld Pr) := fun _ _ _ _ _ _ _ _ _ _ _ _ _ => o_D_map hD rfl
  have hl : lv_has ls 1 [(0, .ref (ad 49))] := hl
  unfold m_Jd_isOver at h
  have C0 := C
  obtain ⟨hx, hb, -, -, -, hown, hts, hK, -, -⟩ := C0
  refine lv_aload_n hx hb d_Jd_isOver_0 rfl (lv_at hl 0 rfl) ?_
  refine o_get (v := .int (Jd_over Jd)) C in_Jd hP 49 cw_49 rfl 9 (by decide) k_2_83 rfl rfl d_Jd_isOver_1 ?_
  obtain ⟨g1, h⟩ := o_gd_some h
  cases h
  exact o_rz (v := (Jd_over Jd)) C (o_zb_nar g1) hP hS d_Jd_isOver_4
set_option maxHeartbeats 4000000 in
set_option maxRecDepth 100000 in
theorem c_Jd_pairsKept {E : (Nat → Prop) → State → Heap → Prop} {D : va_G} {ad kd sd : Nat → Nat} {ca : Nat → ClassId} (hE : o_EK E kd sd) (l : Launch)  (Pr : SPr) (Sj : SSJ) (T0 : STx) (T1 : STx) (Rd : SRd) (Pg : SPg) (Pt : SPt) (Mk : SMk) (Lk : SLk) (Ck : SCk) (Jd : SJd) (Ld : SLd) (rt : Nat) {r : Int32} (h : m_Jd_pairsKept Pr = some r) : o_Cn E l D o_cls (o_tys ca) y_Jd_pairsKept cc_Jd_pairsKept rm_Jd_pairsKept [.ref (ad 49)] (o_cw ad ca rt Sj T0 T1 Rd Pg Pt Mk Lk Ck Jd Ld Pr) (o_cw ad ca rt Sj T0 T1 Rd Pg Pt Mk Lk Ck Jd Ld Pr) (some (.int r)) := by
  refine o_Cn_of (by decide) (Nat.le_of_ble_eq_true rfl) ?_
  intro p e s m below meth c A ls C hD hP hS hl
  have hDD : ∀ (rt : Nat) (Sj : SSJ) (T0 : STx) (T1 : STx) (Rd : SRd) (Pg : SPg) (Pt : SPt) (Mk : SMk) (Lk : SLk) (Ck : SCk) (Jd : SJd) (Ld : SLd) (Pr : SPr), va_D A (o_cw ad ca rt Sj T0 T1 Rd Pg Pt Mk Lk Ck Jd Ld Pr) := fun _ _ _ _ _ _ _ _ _ _ _ _ _ => o_D_map hD rfl
  have hl : lv_has ls 1 [(0, .ref (ad 49))] := hl
  unfold m_Jd_pairsKept at h
  have C0 := C
  obtain ⟨hx, hb, -, -, -, hown, hts, hK, -, -⟩ := C0
  refine lv_aload_n hx hb d_Jd_pairsKept_0 rfl (lv_at hl 0 rfl) ?_
  refine o_get (v := .ref (ad 54)) C in_Jd hP 49 cw_49 rfl 6 (by decide) k_2_80 rfl rfl d_Jd_pairsKept_1 ?_
  obtain ⟨q1, hq1, h⟩ := o_bd_some h
  refine o_V (st1 := [.int q1]) (w1 := (o_cw ad ca rt Sj T0 T1 Rd Pg Pt Mk Lk Ck Jd Ld Pr)) hE.1 C (c_Pr_size hE l Pr Sj T0 T1 Rd Pg Pt Mk Lk Ck Jd Ld rt hq1) hP (hDD _ _ _ _ _ _ _ _ _ _ _ _ _) hS hl.1 rfl cw_54 k_2_156 k_2_157 k_2_158 k_1_11 k_2_159 hv_Pr_size rfl rfl ⟨Nat.le_of_ble_eq_true rfl, Nat.le_of_ble_eq_true rfl⟩ rfl (Nat.le_of_ble_eq_true rfl) ⟨Nat.le_of_ble_eq_true rfl, Nat.le_of_ble_eq_true rfl⟩ rfl d_Jd_pairsKept_4 (fun H locs hP hS => ?_)
  cases h
  exact o_ri C hP hS d_Jd_pairsKept_7
set_option maxHeartbeats 4000000 in
set_option maxRecDepth 100000 in
theorem c_Pr_at {E : (Nat → Prop) → State → Heap → Prop} {D : va_G} {ad kd sd : Nat → Nat} {ca : Nat → ClassId} (hE : o_EK E kd sd) (l : Launch) (x1 : Int32) (x2 : Int32) (Pr : SPr) (Sj : SSJ) (T0 : STx) (T1 : STx) (Rd : SRd) (Pg : SPg) (Pt : SPt) (Mk : SMk) (Lk : SLk) (Ck : SCk) (Jd : SJd) (Ld : SLd) (rt : Nat) {r : Int32} (h : m_Pr_at x1 x2 Pr = some r) : o_Cn E l D o_cls (o_tys ca) y_Pr_at cc_Pr_at rm_Pr_at [.ref (ad 54), .int x1, .int x2] (o_cw ad ca rt Sj T0 T1 Rd Pg Pt Mk Lk Ck Jd Ld Pr) (o_cw ad ca rt Sj T0 T1 Rd Pg Pt Mk Lk Ck Jd Ld Pr) (some (.int r)) := by
  refine o_Cn_of (by decide) (Nat.le_of_ble_eq_true rfl) ?_
  intro p e s m below meth c A ls C hD hP hS hl
  have hDD : ∀ (rt : Nat) (Sj : SSJ) (T0 : STx) (T1 : STx) (Rd : SRd) (Pg : SPg) (Pt : SPt) (Mk : SMk) (Lk : SLk) (Ck : SCk) (Jd : SJd) (Ld : SLd) (Pr : SPr), va_D A (o_cw ad ca rt Sj T0 T1 Rd Pg Pt Mk Lk Ck Jd Ld Pr) := fun _ _ _ _ _ _ _ _ _ _ _ _ _ => o_D_map hD rfl
  have hl : lv_has ls 3 [(0, .ref (ad 54)), (1, .int x1), (2, .int x2)] := hl
  unfold m_Pr_at at h
  have C0 := C
  obtain ⟨hx, hb, -, -, -, hown, hts, hK, -, -⟩ := C0
  refine lv_iload_n hx hb d_Pr_at_0 rfl (lv_at hl 1 rfl) ?_
  refine lv_if_lt (tgt := 12) hx hb d_Pr_at_1 (by decide) (fun c1 => ?_) (fun c1 => ?_)
  · replace h := o_tt c1 h
    refine lv_iconst (v := (-1:Int32)) hx hb d_Pr_at_12 (by decide) ?_
    cases h
    exact o_ri (v := (-1:Int32)) C hP hS d_Pr_at_13
  · replace h := o_ff c1 h
    refine lv_iload_n hx hb d_Pr_at_4 rfl (lv_at hl 1 rfl) ?_
    refine lv_aload_n hx hb d_Pr_at_5 rfl (lv_at hl 0 rfl) ?_
    refine o_get (v := .int (Pr_size Pr)) C in_Pr hP 54 cw_54 rfl 2 (by decide) k_2_66 rfl rfl d_Pr_at_6 ?_
    refine lv_icmp_lt (tgt := 14) hx hb d_Pr_at_9 (by decide) (fun c2 => ?_) (fun c2 => ?_)
    · replace h := o_tt c2 h
      refine lv_iload_n hx hb d_Pr_at_14 rfl (lv_at hl 2 rfl) ?_
      refine lv_if_eq (tgt := 27) hx hb d_Pr_at_15 (by decide) (fun c3 => ?_) (fun c3 => ?_)
      · replace h := o_tt c3 h
        refine lv_aload_n hx hb d_Pr_at_27 rfl (lv_at hl 0 rfl) ?_
        refine o_get (v := .ref (ad 55)) C in_Pr hP 54 cw_54 rfl 0 (by decide) k_2_64 rfl rfl d_Pr_at_28 ?_
        refine lv_iload_n hx hb d_Pr_at_31 rfl (lv_at hl 1 rfl) ?_
        obtain ⟨g4, h⟩ := o_gd_some h
        refine o_iald (f := (Pr_values Pr)) C hP 55 43 cw_55 rfl g4 d_Pr_at_32 ?_
        cases h
        exact o_ri (v := ((Pr_values Pr) x1.toNatClampNeg)) C hP hS d_Pr_at_33
      · replace h := o_ff c3 h
        refine lv_aload_n hx hb d_Pr_at_18 rfl (lv_at hl 0 rfl) ?_
        refine o_get (v := .ref (ad 56)) C in_Pr hP 54 cw_54 rfl 1 (by decide) k_2_65 rfl rfl d_Pr_at_19 ?_
        refine lv_iload_n hx hb d_Pr_at_22 rfl (lv_at hl 1 rfl) ?_
        obtain ⟨g5, h⟩ := o_gd_some h
        refine o_iald (f := (Pr_keywords Pr)) C hP 56 44 cw_56 rfl g5 d_Pr_at_23 ?_
        refine lv_goto (tgt := 33) hx hb d_Pr_at_24 (by decide) ?_
        cases h
        exact o_ri (v := ((Pr_keywords Pr) x1.toNatClampNeg)) C hP hS d_Pr_at_33
    · replace h := o_ff c2 h
      refine lv_iconst (v := (-1:Int32)) hx hb d_Pr_at_12 (by decide) ?_
      cases h
      exact o_ri (v := (-1:Int32)) C hP hS d_Pr_at_13
set_option maxHeartbeats 4000000 in
set_option maxRecDepth 100000 in
theorem c_Jd_pairAt {E : (Nat → Prop) → State → Heap → Prop} {D : va_G} {ad kd sd : Nat → Nat} {ca : Nat → ClassId} (hE : o_EK E kd sd) (l : Launch) (x1 : Int32) (x2 : Int32) (Pr : SPr) (Sj : SSJ) (T0 : STx) (T1 : STx) (Rd : SRd) (Pg : SPg) (Pt : SPt) (Mk : SMk) (Lk : SLk) (Ck : SCk) (Jd : SJd) (Ld : SLd) (rt : Nat) {r : Int32} (h : m_Jd_pairAt x1 x2 Pr = some r) : o_Cn E l D o_cls (o_tys ca) y_Jd_pairAt cc_Jd_pairAt rm_Jd_pairAt [.ref (ad 49), .int x1, .int x2] (o_cw ad ca rt Sj T0 T1 Rd Pg Pt Mk Lk Ck Jd Ld Pr) (o_cw ad ca rt Sj T0 T1 Rd Pg Pt Mk Lk Ck Jd Ld Pr) (some (.int r)) := by
  refine o_Cn_of (by decide) (Nat.le_of_ble_eq_true rfl) ?_
  intro p e s m below meth c A ls C hD hP hS hl
  have hDD : ∀ (rt : Nat) (Sj : SSJ) (T0 : STx) (T1 : STx) (Rd : SRd) (Pg : SPg) (Pt : SPt) (Mk : SMk) (Lk : SLk) (Ck : SCk) (Jd : SJd) (Ld : SLd) (Pr : SPr), va_D A (o_cw ad ca rt Sj T0 T1 Rd Pg Pt Mk Lk Ck Jd Ld Pr) := fun _ _ _ _ _ _ _ _ _ _ _ _ _ => o_D_map hD rfl
  have hl : lv_has ls 3 [(0, .ref (ad 49)), (1, .int x1), (2, .int x2)] := hl
  unfold m_Jd_pairAt at h
  have C0 := C
  obtain ⟨hx, hb, -, -, -, hown, hts, hK, -, -⟩ := C0
  refine lv_aload_n hx hb d_Jd_pairAt_0 rfl (lv_at hl 0 rfl) ?_
  refine o_get (v := .ref (ad 54)) C in_Jd hP 49 cw_49 rfl 6 (by decide) k_2_80 rfl rfl d_Jd_pairAt_1 ?_
  refine lv_iload_n hx hb d_Jd_pairAt_4 rfl (lv_at hl 1 rfl) ?_
  refine lv_iload_n hx hb d_Jd_pairAt_5 rfl (lv_at hl 2 rfl) ?_
  obtain ⟨q1, hq1, h⟩ := o_bd_some h
  refine o_V (st1 := [.int q1]) (w1 := (o_cw ad ca rt Sj T0 T1 Rd Pg Pt Mk Lk Ck Jd Ld Pr)) hE.1 C (c_Pr_at hE l x1 x2 Pr Sj T0 T1 Rd Pg Pt Mk Lk Ck Jd Ld rt hq1) hP (hDD _ _ _ _ _ _ _ _ _ _ _ _ _) hS hl.1 rfl cw_54 k_7_30 k_7_31 k_7_32 k_1_11 k_7_33 hv_Pr_at rfl rfl ⟨Nat.le_of_ble_eq_true rfl, Nat.le_of_ble_eq_true rfl⟩ rfl (Nat.le_of_ble_eq_true rfl) ⟨Nat.le_of_ble_eq_true rfl, Nat.le_of_ble_eq_true rfl⟩ rfl d_Jd_pairAt_6 (fun H locs hP hS => ?_)
  cases h
  exact o_ri C hP hS d_Jd_pairAt_9
set_option maxHeartbeats 4000000 in
set_option maxRecDepth 100000 in
theorem c_Jd_evaluatedSchemas {E : (Nat → Prop) → State → Heap → Prop} {D : va_G} {ad kd sd : Nat → Nat} {ca : Nat → ClassId} (hE : o_EK E kd sd) (l : Launch)  (Jd : SJd) (Sj : SSJ) (T0 : STx) (T1 : STx) (Rd : SRd) (Pg : SPg) (Pt : SPt) (Mk : SMk) (Lk : SLk) (Ck : SCk) (Ld : SLd) (Pr : SPr) (rt : Nat) {r : Int32} (h : m_Jd_evaluatedSchemas Jd = some r) : o_Cn E l D o_cls (o_tys ca) y_Jd_evaluatedSchemas cc_Jd_evaluatedSchemas rm_Jd_evaluatedSchemas [.ref (ad 49)] (o_cw ad ca rt Sj T0 T1 Rd Pg Pt Mk Lk Ck Jd Ld Pr) (o_cw ad ca rt Sj T0 T1 Rd Pg Pt Mk Lk Ck Jd Ld Pr) (some (.int r)) := by
  refine o_Cn_of (by decide) (Nat.le_of_ble_eq_true rfl) ?_
  intro p e s m below meth c A ls C hD hP hS hl
  have hDD : ∀ (rt : Nat) (Sj : SSJ) (T0 : STx) (T1 : STx) (Rd : SRd) (Pg : SPg) (Pt : SPt) (Mk : SMk) (Lk : SLk) (Ck : SCk) (Jd : SJd) (Ld : SLd) (Pr : SPr), va_D A (o_cw ad ca rt Sj T0 T1 Rd Pg Pt Mk Lk Ck Jd Ld Pr) := fun _ _ _ _ _ _ _ _ _ _ _ _ _ => o_D_map hD rfl
  have hl : lv_has ls 1 [(0, .ref (ad 49))] := hl
  unfold m_Jd_evaluatedSchemas at h
  have C0 := C
  obtain ⟨hx, hb, -, -, -, hown, hts, hK, -, -⟩ := C0
  refine lv_aload_n hx hb d_Jd_evaluatedSchemas_0 rfl (lv_at hl 0 rfl) ?_
  refine o_get (v := .int (Jd_schemas Jd)) C in_Jd hP 49 cw_49 rfl 10 (by decide) k_2_84 rfl rfl d_Jd_evaluatedSchemas_1 ?_
  cases h
  exact o_ri (v := (Jd_schemas Jd)) C hP hS d_Jd_evaluatedSchemas_4
set_option maxHeartbeats 4000000 in
set_option maxRecDepth 100000 in
theorem c_Jd_deepest {E : (Nat → Prop) → State → Heap → Prop} {D : va_G} {ad kd sd : Nat → Nat} {ca : Nat → ClassId} (hE : o_EK E kd sd) (l : Launch)  (Jd : SJd) (Sj : SSJ) (T0 : STx) (T1 : STx) (Rd : SRd) (Pg : SPg) (Pt : SPt) (Mk : SMk) (Lk : SLk) (Ck : SCk) (Ld : SLd) (Pr : SPr) (rt : Nat) {r : Int32} (h : m_Jd_deepest Jd = some r) : o_Cn E l D o_cls (o_tys ca) y_Jd_deepest cc_Jd_deepest rm_Jd_deepest [.ref (ad 49)] (o_cw ad ca rt Sj T0 T1 Rd Pg Pt Mk Lk Ck Jd Ld Pr) (o_cw ad ca rt Sj T0 T1 Rd Pg Pt Mk Lk Ck Jd Ld Pr) (some (.int r)) := by
  refine o_Cn_of (by decide) (Nat.le_of_ble_eq_true rfl) ?_
  intro p e s m below meth c A ls C hD hP hS hl
  have hDD : ∀ (rt : Nat) (Sj : SSJ) (T0 : STx) (T1 : STx) (Rd : SRd) (Pg : SPg) (Pt : SPt) (Mk : SMk) (Lk : SLk) (Ck : SCk) (Jd : SJd) (Ld : SLd) (Pr : SPr), va_D A (o_cw ad ca rt Sj T0 T1 Rd Pg Pt Mk Lk Ck Jd Ld Pr) := fun _ _ _ _ _ _ _ _ _ _ _ _ _ => o_D_map hD rfl
  have hl : lv_has ls 1 [(0, .ref (ad 49))] := hl
  unfold m_Jd_deepest at h
  have C0 := C
  obtain ⟨hx, hb, -, -, -, hown, hts, hK, -, -⟩ := C0
  refine lv_aload_n hx hb d_Jd_deepest_0 rfl (lv_at hl 0 rfl) ?_
  refine o_get (v := .int (Jd_deepest Jd)) C in_Jd hP 49 cw_49 rfl 11 (by decide) k_2_85 rfl rfl d_Jd_deepest_1 ?_
  cases h
  exact o_ri (v := (Jd_deepest Jd)) C hP hS d_Jd_deepest_4
set_option maxHeartbeats 4000000 in
set_option maxRecDepth 100000 in
theorem c_Tx_clear_0 {E : (Nat → Prop) → State → Heap → Prop} {D : va_G} {ad kd sd : Nat → Nat} {ca : Nat → ClassId} (hE : o_EK E kd sd) (l : Launch)  (a0 : STx) (Sj : SSJ) (T1 : STx) (Rd : SRd) (Pg : SPg) (Pt : SPt) (Mk : SMk) (Lk : SLk) (Ck : SCk) (Jd : SJd) (Ld : SLd) (Pr : SPr) (rt : Nat) {r : STx} (h : m_Tx_clear a0 = some r) : o_Cn E l D o_cls (o_tys ca) y_Tx_clear cc_Tx_clear rm_Tx_clear [.ref (ad 1)] (o_cw ad ca rt Sj a0 T1 Rd Pg Pt Mk Lk Ck Jd Ld Pr) (o_cw ad ca rt Sj r T1 Rd Pg Pt Mk Lk Ck Jd Ld Pr) none := by
  refine o_Cn_of (by decide) (Nat.le_of_ble_eq_true rfl) ?_
  intro p e s m below meth c A ls C hD hP hS hl
  have hDD : ∀ (rt : Nat) (Sj : SSJ) (T0 : STx) (T1 : STx) (Rd : SRd) (Pg : SPg) (Pt : SPt) (Mk : SMk) (Lk : SLk) (Ck : SCk) (Jd : SJd) (Ld : SLd) (Pr : SPr), va_D A (o_cw ad ca rt Sj T0 T1 Rd Pg Pt Mk Lk Ck Jd Ld Pr) := fun _ _ _ _ _ _ _ _ _ _ _ _ _ => o_D_map hD rfl
  have hl : lv_has ls 1 [(0, .ref (ad 1))] := hl
  unfold m_Tx_clear at h
  have C0 := C
  obtain ⟨hx, hb, -, -, -, hown, hts, hK, -, -⟩ := C0
  refine lv_aload_n hx hb d_Tx_clear_0 rfl (lv_at hl 0 rfl) ?_
  refine lv_iconst (v := (0:Int32)) hx hb d_Tx_clear_1 (by decide) ?_
  refine o_put (v := .int (0:Int32)) (ty := .int) (w1 := (o_cw ad ca rt Sj (Tx_mk (Tx_kinds a0) (Tx_places a0) (Tx_sizes a0) (Tx_parents a0) (Tx_exponents a0) (Tx_starts a0) (Tx_afters a0) (Tx_slots a0) (Tx_negatives a0) (Tx_cells a0) (0:Int32) (Tx_used a0) (Tx_characters a0)) T1 Rd Pg Pt Mk Lk Ck Jd Ld Pr)) C in_Tx t_Tx t_Tx_ok n_Tx hP (hDD _ _ _ _ _ _ _ _ _ _ _ _ _) hS 1 cw_1 rfl 10 (by decide) k_1_56 rfl rfl (by decide +kernel) rfl rfl (Nat.le_of_ble_eq_true rfl) rfl d_Tx_clear_2 (fun H locs hP hS => ?_)
  refine lv_aload_n hx hb d_Tx_clear_5 rfl (lv_at hl 0 rfl) ?_
  refine lv_iconst (v := (0:Int32)) hx hb d_Tx_clear_6 (by decide) ?_
  refine o_put (v := .int (0:Int32)) (ty := .int) (w1 := (o_cw ad ca rt Sj (Tx_mk (Tx_kinds a0) (Tx_places a0) (Tx_sizes a0) (Tx_parents a0) (Tx_exponents a0) (Tx_starts a0) (Tx_afters a0) (Tx_slots a0) (Tx_negatives a0) (Tx_cells a0) (0:Int32) (0:Int32) (Tx_characters a0)) T1 Rd Pg Pt Mk Lk Ck Jd Ld Pr)) C in_Tx t_Tx t_Tx_ok n_Tx hP (hDD _ _ _ _ _ _ _ _ _ _ _ _ _) hS 1 cw_1 rfl 11 (by decide) k_1_57 rfl rfl (by decide +kernel) rfl rfl (Nat.le_of_ble_eq_true rfl) rfl d_Tx_clear_7 (fun H locs hP hS => ?_)
  refine lv_aload_n hx hb d_Tx_clear_10 rfl (lv_at hl 0 rfl) ?_
  refine lv_iconst (v := (0:Int32)) hx hb d_Tx_clear_11 (by decide) ?_
  refine o_put (v := .int (0:Int32)) (ty := .int) (w1 := (o_cw ad ca rt Sj (Tx_mk (Tx_kinds a0) (Tx_places a0) (Tx_sizes a0) (Tx_parents a0) (Tx_exponents a0) (Tx_starts a0) (Tx_afters a0) (Tx_slots a0) (Tx_negatives a0) (Tx_cells a0) (0:Int32) (0:Int32) (0:Int32)) T1 Rd Pg Pt Mk Lk Ck Jd Ld Pr)) C in_Tx t_Tx t_Tx_ok n_Tx hP (hDD _ _ _ _ _ _ _ _ _ _ _ _ _) hS 1 cw_1 rfl 12 (by decide) k_1_58 rfl rfl (by decide +kernel) rfl rfl (Nat.le_of_ble_eq_true rfl) rfl d_Tx_clear_12 (fun H locs hP hS => ?_)
  cases h
  exact o_rv C hP hS d_Tx_clear_15
set_option maxHeartbeats 4000000 in
set_option maxRecDepth 100000 in
theorem c_Tx_clear_1 {E : (Nat → Prop) → State → Heap → Prop} {D : va_G} {ad kd sd : Nat → Nat} {ca : Nat → ClassId} (hE : o_EK E kd sd) (l : Launch)  (a0 : STx) (Sj : SSJ) (T0 : STx) (Rd : SRd) (Pg : SPg) (Pt : SPt) (Mk : SMk) (Lk : SLk) (Ck : SCk) (Jd : SJd) (Ld : SLd) (Pr : SPr) (rt : Nat) {r : STx} (h : m_Tx_clear a0 = some r) : o_Cn E l D o_cls (o_tys ca) y_Tx_clear cc_Tx_clear rm_Tx_clear [.ref (ad 12)] (o_cw ad ca rt Sj T0 a0 Rd Pg Pt Mk Lk Ck Jd Ld Pr) (o_cw ad ca rt Sj T0 r Rd Pg Pt Mk Lk Ck Jd Ld Pr) none := by
  refine o_Cn_of (by decide) (Nat.le_of_ble_eq_true rfl) ?_
  intro p e s m below meth c A ls C hD hP hS hl
  have hDD : ∀ (rt : Nat) (Sj : SSJ) (T0 : STx) (T1 : STx) (Rd : SRd) (Pg : SPg) (Pt : SPt) (Mk : SMk) (Lk : SLk) (Ck : SCk) (Jd : SJd) (Ld : SLd) (Pr : SPr), va_D A (o_cw ad ca rt Sj T0 T1 Rd Pg Pt Mk Lk Ck Jd Ld Pr) := fun _ _ _ _ _ _ _ _ _ _ _ _ _ => o_D_map hD rfl
  have hl : lv_has ls 1 [(0, .ref (ad 12))] := hl
  unfold m_Tx_clear at h
  have C0 := C
  obtain ⟨hx, hb, -, -, -, hown, hts, hK, -, -⟩ := C0
  refine lv_aload_n hx hb d_Tx_clear_0 rfl (lv_at hl 0 rfl) ?_
  refine lv_iconst (v := (0:Int32)) hx hb d_Tx_clear_1 (by decide) ?_
  refine o_put (v := .int (0:Int32)) (ty := .int) (w1 := (o_cw ad ca rt Sj T0 (Tx_mk (Tx_kinds a0) (Tx_places a0) (Tx_sizes a0) (Tx_parents a0) (Tx_exponents a0) (Tx_starts a0) (Tx_afters a0) (Tx_slots a0) (Tx_negatives a0) (Tx_cells a0) (0:Int32) (Tx_used a0) (Tx_characters a0)) Rd Pg Pt Mk Lk Ck Jd Ld Pr)) C in_Tx t_Tx t_Tx_ok n_Tx hP (hDD _ _ _ _ _ _ _ _ _ _ _ _ _) hS 12 cw_12 rfl 10 (by decide) k_1_56 rfl rfl (by decide +kernel) rfl rfl (Nat.le_of_ble_eq_true rfl) rfl d_Tx_clear_2 (fun H locs hP hS => ?_)
  refine lv_aload_n hx hb d_Tx_clear_5 rfl (lv_at hl 0 rfl) ?_
  refine lv_iconst (v := (0:Int32)) hx hb d_Tx_clear_6 (by decide) ?_
  refine o_put (v := .int (0:Int32)) (ty := .int) (w1 := (o_cw ad ca rt Sj T0 (Tx_mk (Tx_kinds a0) (Tx_places a0) (Tx_sizes a0) (Tx_parents a0) (Tx_exponents a0) (Tx_starts a0) (Tx_afters a0) (Tx_slots a0) (Tx_negatives a0) (Tx_cells a0) (0:Int32) (0:Int32) (Tx_characters a0)) Rd Pg Pt Mk Lk Ck Jd Ld Pr)) C in_Tx t_Tx t_Tx_ok n_Tx hP (hDD _ _ _ _ _ _ _ _ _ _ _ _ _) hS 12 cw_12 rfl 11 (by decide) k_1_57 rfl rfl (by decide +kernel) rfl rfl (Nat.le_of_ble_eq_true rfl) rfl d_Tx_clear_7 (fun H locs hP hS => ?_)
  refine lv_aload_n hx hb d_Tx_clear_10 rfl (lv_at hl 0 rfl) ?_
  refine lv_iconst (v := (0:Int32)) hx hb d_Tx_clear_11 (by decide) ?_
  refine o_put (v := .int (0:Int32)) (ty := .int) (w1 := (o_cw ad ca rt Sj T0 (Tx_mk (Tx_kinds a0) (Tx_places a0) (Tx_sizes a0) (Tx_parents a0) (Tx_exponents a0) (Tx_starts a0) (Tx_afters a0) (Tx_slots a0) (Tx_negatives a0) (Tx_cells a0) (0:Int32) (0:Int32) (0:Int32)) Rd Pg Pt Mk Lk Ck Jd Ld Pr)) C in_Tx t_Tx t_Tx_ok n_Tx hP (hDD _ _ _ _ _ _ _ _ _ _ _ _ _) hS 12 cw_12 rfl 12 (by decide) k_1_58 rfl rfl (by decide +kernel) rfl rfl (Nat.le_of_ble_eq_true rfl) rfl d_Tx_clear_12 (fun H locs hP hS => ?_)
  cases h
  exact o_rv C hP hS d_Tx_clear_15
set_option maxHeartbeats 4000000 in
set_option maxRecDepth 100000 in
theorem c_Tx_begin_0 {E : (Nat → Prop) → State → Heap → Prop} {D : va_G} {ad kd sd : Nat → Nat} {ca : Nat → ClassId} (hE : o_EK E kd sd) (l : Launch) (x1 : Int32) (x2 : Int32) (x3 : Int32) (x4 : Int32) (a0 : STx) (Sj : SSJ) (T1 : STx) (Rd : SRd) (Pg : SPg) (Pt : SPt) (Mk : SMk) (Lk : SLk) (Ck : SCk) (Jd : SJd) (Ld : SLd) (Pr : SPr) (rt : Nat) {r : Int32 × STx} (h : m_Tx_begin x1 x2 x3 x4 a0 = some r) : o_Cn E l D o_cls (o_tys ca) y_Tx_begin cc_Tx_begin rm_Tx_begin [.ref (ad 1), .int x1, .int x2, .int x3, .int x4] (o_cw ad ca rt Sj a0 T1 Rd Pg Pt Mk Lk Ck Jd Ld Pr) (o_cw ad ca rt Sj r.2 T1 Rd Pg Pt Mk Lk Ck Jd Ld Pr) (some (.int r.1)) := by
  refine o_Cn_of (by decide) (Nat.le_of_ble_eq_true rfl) ?_
  intro p e s m below meth c A ls C hD hP hS hl
  have hDD : ∀ (rt : Nat) (Sj : SSJ) (T0 : STx) (T1 : STx) (Rd : SRd) (Pg : SPg) (Pt : SPt) (Mk : SMk) (Lk : SLk) (Ck : SCk) (Jd : SJd) (Ld : SLd) (Pr : SPr), va_D A (o_cw ad ca rt Sj T0 T1 Rd Pg Pt Mk Lk Ck Jd Ld Pr) := fun _ _ _ _ _ _ _ _ _ _ _ _ _ => o_D_map hD rfl
  have hl : lv_has ls 6 [(0, .ref (ad 1)), (1, .int x1), (2, .int x2), (3, .int x3), (4, .int x4)] := hl
  unfold m_Tx_begin at h
  have C0 := C
  obtain ⟨hx, hb, -, -, -, hown, hts, hK, -, -⟩ := C0
  refine lv_aload_n hx hb d_Tx_begin_0 rfl (lv_at hl 0 rfl) ?_
  refine o_get (v := .int (Tx_total a0)) C in_Tx hP 1 cw_1 rfl 10 (by decide) k_1_56 rfl rfl d_Tx_begin_1 ?_
  refine lv_sipush (v := (1000:Int32)) hx hb d_Tx_begin_4 (by decide) ?_
  refine lv_icmp_lt (tgt := 12) hx hb d_Tx_begin_7 (by decide) (fun c1 => ?_) (fun c1 => ?_)
  · replace h := o_tt c1 h
    refine lv_aload_n hx hb d_Tx_begin_12 rfl (lv_at hl 0 rfl) ?_
    refine o_get (v := .int (Tx_total a0)) C in_Tx hP 1 cw_1 rfl 10 (by decide) k_1_56 rfl rfl d_Tx_begin_13 ?_
    refine lv_topi (fun x5_16 ex5_16 => ?_)
    replace h := o_nm_at ex5_16 h
    refine lv_istore (lv' := [(5, .int x5_16), (0, .ref (ad 1)), (1, .int x1), (2, .int x2), (3, .int x3), (4, .int x4)]) hx hb d_Tx_begin_16 hl (by decide) rfl (fun ls hl => ?_)
    refine lv_aload_n hx hb d_Tx_begin_18 rfl (lv_at hl 1 rfl) ?_
    refine lv_dup hx hb d_Tx_begin_19 rfl ?_
    refine o_get (v := .int (Tx_total a0)) C in_Tx hP 1 cw_1 rfl 10 (by decide) k_1_56 rfl rfl d_Tx_begin_20 ?_
    refine lv_iconst (v := (1:Int32)) hx hb d_Tx_begin_23 (by decide) ?_
    refine lv_iadd hx hb d_Tx_begin_24 ?_
    refine o_put (v := .int ((Tx_total a0) + (1:Int32))) (ty := .int) (w1 := (o_cw ad ca rt Sj (Tx_mk (Tx_kinds a0) (Tx_places a0) (Tx_sizes a0) (Tx_parents a0) (Tx_exponents a0) (Tx_starts a0) (Tx_afters a0) (Tx_slots a0) (Tx_negatives a0) (Tx_cells a0) ((Tx_total a0) + (1:Int32)) (Tx_used a0) (Tx_characters a0)) T1 Rd Pg Pt Mk Lk Ck Jd Ld Pr)) C in_Tx t_Tx t_Tx_ok n_Tx hP (hDD _ _ _ _ _ _ _ _ _ _ _ _ _) hS 1 cw_1 rfl 10 (by decide) k_1_56 rfl rfl (by decide +kernel) rfl rfl (Nat.le_of_ble_eq_true rfl) rfl d_Tx_begin_25 (fun H locs hP hS => ?_)
    refine lv_aload_n hx hb d_Tx_begin_28 rfl (lv_at hl 1 rfl) ?_
    refine o_get (v := .ref (ad 2)) C in_Tx hP 1 cw_1 rfl 0 (by decide) k_1_46 rfl rfl d_Tx_begin_29 ?_
    refine lv_iload hx hb d_Tx_begin_32 (lv_at hl 0 rfl) ?_
    refine lv_iload_n hx hb d_Tx_begin_34 rfl (lv_at hl 2 rfl) ?_
    obtain ⟨g2, h⟩ := o_gd_some h
    refine o_iast (f := (Tx_kinds a0)) (w1 := (o_cw ad ca rt Sj (Tx_mk (upd (Tx_kinds a0) x5_16.toNatClampNeg x1) (Tx_places a0) (Tx_sizes a0) (Tx_parents a0) (Tx_exponents a0) (Tx_starts a0) (Tx_afters a0) (Tx_slots a0) (Tx_negatives a0) (Tx_cells a0) ((Tx_total a0) + (1:Int32)) (Tx_used a0) (Tx_characters a0)) T1 Rd Pg Pt Mk Lk Ck Jd Ld Pr)) C hP (hDD _ _ _ _ _ _ _ _ _ _ _ _ _) hS 2 0 cw_2 rfl g2 rfl d_Tx_begin_35 (fun H locs hP hS => ?_)
    refine lv_aload_n hx hb d_Tx_begin_36 rfl (lv_at hl 1 rfl) ?_
    refine o_get (v := .ref (ad 3)) C in_Tx hP 1 cw_1 rfl 1 (by decide) k_1_47 rfl rfl d_Tx_begin_37 ?_
    refine lv_iload hx hb d_Tx_begin_40 (lv_at hl 0 rfl) ?_
    refine lv_iload_n hx hb d_Tx_begin_42 rfl (lv_at hl 3 rfl) ?_
    obtain ⟨g3, h⟩ := o_gd_some h
    refine o_iast (f := (Tx_places a0)) (w1 := (o_cw ad ca rt Sj (Tx_mk (upd (Tx_kinds a0) x5_16.toNatClampNeg x1) (upd (Tx_places a0) x5_16.toNatClampNeg x2) (Tx_sizes a0) (Tx_parents a0) (Tx_exponents a0) (Tx_starts a0) (Tx_afters a0) (Tx_slots a0) (Tx_negatives a0) (Tx_cells a0) ((Tx_total a0) + (1:Int32)) (Tx_used a0) (Tx_characters a0)) T1 Rd Pg Pt Mk Lk Ck Jd Ld Pr)) C hP (hDD _ _ _ _ _ _ _ _ _ _ _ _ _) hS 3 1 cw_3 rfl g3 rfl d_Tx_begin_43 (fun H locs hP hS => ?_)
    refine lv_aload_n hx hb d_Tx_begin_44 rfl (lv_at hl 1 rfl) ?_
    refine o_get (v := .ref (ad 4)) C in_Tx hP 1 cw_1 rfl 2 (by decide) k_1_48 rfl rfl d_Tx_begin_45 ?_
    refine lv_iload hx hb d_Tx_begin_48 (lv_at hl 0 rfl) ?_
    refine lv_iconst (v := (0:Int32)) hx hb d_Tx_begin_50 (by decide) ?_
    obtain ⟨g4, h⟩ := o_gd_some h
    refine o_iast (f := (Tx_sizes a0)) (w1 := (o_cw ad ca rt Sj (Tx_mk (upd (Tx_kinds a0) x5_16.toNatClampNeg x1) (upd (Tx_places a0) x5_16.toNatClampNeg x2) (upd (Tx_sizes a0) x5_16.toNatClampNeg (0:Int32)) (Tx_parents a0) (Tx_exponents a0) (Tx_starts a0) (Tx_afters a0) (Tx_slots a0) (Tx_negatives a0) (Tx_cells a0) ((Tx_total a0) + (1:Int32)) (Tx_used a0) (Tx_characters a0)) T1 Rd Pg Pt Mk Lk Ck Jd Ld Pr)) C hP (hDD _ _ _ _ _ _ _ _ _ _ _ _ _) hS 4 2 cw_4 rfl g4 rfl d_Tx_begin_51 (fun H locs hP hS => ?_)
    refine lv_aload_n hx hb d_Tx_begin_52 rfl (lv_at hl 1 rfl) ?_
    refine o_get (v := .ref (ad 5)) C in_Tx hP 1 cw_1 rfl 3 (by decide) k_1_49 rfl rfl d_Tx_begin_53 ?_
    refine lv_iload hx hb d_Tx_begin_56 (lv_at hl 0 rfl) ?_
    refine lv_iload_n hx hb d_Tx_begin_58 rfl (lv_at hl 4 rfl) ?_
    obtain ⟨g5, h⟩ := o_gd_some h
    refine o_iast (f := (Tx_parents a0)) (w1 := (o_cw ad ca rt Sj (Tx_mk (upd (Tx_kinds a0) x5_16.toNatClampNeg x1) (upd (Tx_places a0) x5_16.toNatClampNeg x2) (upd (Tx_sizes a0) x5_16.toNatClampNeg (0:Int32)) (upd (Tx_parents a0) x5_16.toNatClampNeg x3) (Tx_exponents a0) (Tx_starts a0) (Tx_afters a0) (Tx_slots a0) (Tx_negatives a0) (Tx_cells a0) ((Tx_total a0) + (1:Int32)) (Tx_used a0) (Tx_characters a0)) T1 Rd Pg Pt Mk Lk Ck Jd Ld Pr)) C hP (hDD _ _ _ _ _ _ _ _ _ _ _ _ _) hS 5 3 cw_5 rfl g5 rfl d_Tx_begin_59 (fun H locs hP hS => ?_)
    refine lv_aload_n hx hb d_Tx_begin_60 rfl (lv_at hl 1 rfl) ?_
    refine o_get (v := .ref (ad 6)) C in_Tx hP 1 cw_1 rfl 4 (by decide) k_1_50 rfl rfl d_Tx_begin_61 ?_
    refine lv_iload hx hb d_Tx_begin_64 (lv_at hl 0 rfl) ?_
    refine lv_iconst (v := (0:Int32)) hx hb d_Tx_begin_66 (by decide) ?_
    obtain ⟨g6, h⟩ := o_gd_some h
    refine o_iast (f := (Tx_exponents a0)) (w1 := (o_cw ad ca rt Sj (Tx_mk (upd (Tx_kinds a0) x5_16.toNatClampNeg x1) (upd (Tx_places a0) x5_16.toNatClampNeg x2) (upd (Tx_sizes a0) x5_16.toNatClampNeg (0:Int32)) (upd (Tx_parents a0) x5_16.toNatClampNeg x3) (upd (Tx_exponents a0) x5_16.toNatClampNeg (0:Int32)) (Tx_starts a0) (Tx_afters a0) (Tx_slots a0) (Tx_negatives a0) (Tx_cells a0) ((Tx_total a0) + (1:Int32)) (Tx_used a0) (Tx_characters a0)) T1 Rd Pg Pt Mk Lk Ck Jd Ld Pr)) C hP (hDD _ _ _ _ _ _ _ _ _ _ _ _ _) hS 6 4 cw_6 rfl g6 rfl d_Tx_begin_67 (fun H locs hP hS => ?_)
    refine lv_aload_n hx hb d_Tx_begin_68 rfl (lv_at hl 1 rfl) ?_
    refine o_get (v := .ref (ad 7)) C in_Tx hP 1 cw_1 rfl 5 (by decide) k_1_51 rfl rfl d_Tx_begin_69 ?_
    refine lv_iload hx hb d_Tx_begin_72 (lv_at hl 0 rfl) ?_
    refine lv_aload_n hx hb d_Tx_begin_74 rfl (lv_at hl 1 rfl) ?_
    refine o_get (v := .int (Tx_used a0)) C in_Tx hP 1 cw_1 rfl 11 (by decide) k_1_57 rfl rfl d_Tx_begin_75 ?_
    obtain ⟨g7, h⟩ := o_gd_some h
    refine o_iast (f := (Tx_starts a0)) (w1 := (o_cw ad ca rt Sj (Tx_mk (upd (Tx_kinds a0) x5_16.toNatClampNeg x1) (upd (Tx_places a0) x5_16.toNatClampNeg x2) (upd (Tx_sizes a0) x5_16.toNatClampNeg (0:Int32)) (upd (Tx_parents a0) x5_16.toNatClampNeg x3) (upd (Tx_exponents a0) x5_16.toNatClampNeg (0:Int32)) (upd (Tx_starts a0) x5_16.toNatClampNeg (Tx_used a0)) (Tx_afters a0) (Tx_slots a0) (Tx_negatives a0) (Tx_cells a0) ((Tx_total a0) + (1:Int32)) (Tx_used a0) (Tx_characters a0)) T1 Rd Pg Pt Mk Lk Ck Jd Ld Pr)) C hP (hDD _ _ _ _ _ _ _ _ _ _ _ _ _) hS 7 5 cw_7 rfl g7 rfl d_Tx_begin_78 (fun H locs hP hS => ?_)
    refine lv_aload_n hx hb d_Tx_begin_79 rfl (lv_at hl 1 rfl) ?_
    refine o_get (v := .ref (ad 8)) C in_Tx hP 1 cw_1 rfl 6 (by decide) k_1_52 rfl rfl d_Tx_begin_80 ?_
    refine lv_iload hx hb d_Tx_begin_83 (lv_at hl 0 rfl) ?_
    refine lv_aload_n hx hb d_Tx_begin_85 rfl (lv_at hl 1 rfl) ?_
    refine o_get (v := .int ((Tx_total a0) + (1:Int32))) C in_Tx hP 1 cw_1 rfl 10 (by decide) k_1_56 rfl rfl d_Tx_begin_86 ?_
    obtain ⟨g8, h⟩ := o_gd_some h
    refine o_iast (f := (Tx_afters a0)) (w1 := (o_cw ad ca rt Sj (Tx_mk (upd (Tx_kinds a0) x5_16.toNatClampNeg x1) (upd (Tx_places a0) x5_16.toNatClampNeg x2) (upd (Tx_sizes a0) x5_16.toNatClampNeg (0:Int32)) (upd (Tx_parents a0) x5_16.toNatClampNeg x3) (upd (Tx_exponents a0) x5_16.toNatClampNeg (0:Int32)) (upd (Tx_starts a0) x5_16.toNatClampNeg (Tx_used a0)) (upd (Tx_afters a0) x5_16.toNatClampNeg ((Tx_total a0) + (1:Int32))) (Tx_slots a0) (Tx_negatives a0) (Tx_cells a0) ((Tx_total a0) + (1:Int32)) (Tx_used a0) (Tx_characters a0)) T1 Rd Pg Pt Mk Lk Ck Jd Ld Pr)) C hP (hDD _ _ _ _ _ _ _ _ _ _ _ _ _) hS 8 6 cw_8 rfl g8 rfl d_Tx_begin_89 (fun H locs hP hS => ?_)
    refine lv_aload_n hx hb d_Tx_begin_90 rfl (lv_at hl 1 rfl) ?_
    refine o_get (v := .ref (ad 9)) C in_Tx hP 1 cw_1 rfl 7 (by decide) k_1_53 rfl rfl d_Tx_begin_91 ?_
    refine lv_iload hx hb d_Tx_begin_94 (lv_at hl 0 rfl) ?_
    refine lv_iload hx hb d_Tx_begin_96 (lv_at hl 5 rfl) ?_
    obtain ⟨g9, h⟩ := o_gd_some h
    refine o_iast (f := (Tx_slots a0)) (w1 := (o_cw ad ca rt Sj (Tx_mk (upd (Tx_kinds a0) x5_16.toNatClampNeg x1) (upd (Tx_places a0) x5_16.toNatClampNeg x2) (upd (Tx_sizes a0) x5_16.toNatClampNeg (0:Int32)) (upd (Tx_parents a0) x5_16.toNatClampNeg x3) (upd (Tx_exponents a0) x5_16.toNatClampNeg (0:Int32)) (upd (Tx_starts a0) x5_16.toNatClampNeg (Tx_used a0)) (upd (Tx_afters a0) x5_16.toNatClampNeg ((Tx_total a0) + (1:Int32))) (upd (Tx_slots a0) x5_16.toNatClampNeg x4) (Tx_negatives a0) (Tx_cells a0) ((Tx_total a0) + (1:Int32)) (Tx_used a0) (Tx_characters a0)) T1 Rd Pg Pt Mk Lk Ck Jd Ld Pr)) C hP (hDD _ _ _ _ _ _ _ _ _ _ _ _ _) hS 9 7 cw_9 rfl g9 rfl d_Tx_begin_98 (fun H locs hP hS => ?_)
    refine lv_aload_n hx hb d_Tx_begin_99 rfl (lv_at hl 1 rfl) ?_
    refine o_get (v := .ref (ad 10)) C in_Tx hP 1 cw_1 rfl 8 (by decide) k_1_54 rfl rfl d_Tx_begin_100 ?_
    refine lv_iload hx hb d_Tx_begin_103 (lv_at hl 0 rfl) ?_
    refine lv_iconst (v := (0:Int32)) hx hb d_Tx_begin_105 (by decide) ?_
    obtain ⟨g10, h⟩ := o_gd_some h
    refine o_zast (f := (Tx_negatives a0)) (w1 := (o_cw ad ca rt Sj (Tx_mk (upd (Tx_kinds a0) x5_16.toNatClampNeg x1) (upd (Tx_places a0) x5_16.toNatClampNeg x2) (upd (Tx_sizes a0) x5_16.toNatClampNeg (0:Int32)) (upd (Tx_parents a0) x5_16.toNatClampNeg x3) (upd (Tx_exponents a0) x5_16.toNatClampNeg (0:Int32)) (upd (Tx_starts a0) x5_16.toNatClampNeg (Tx_used a0)) (upd (Tx_afters a0) x5_16.toNatClampNeg ((Tx_total a0) + (1:Int32))) (upd (Tx_slots a0) x5_16.toNatClampNeg x4) (upd (Tx_negatives a0) x5_16.toNatClampNeg (vp_nar .boolean (0:Int32))) (Tx_cells a0) ((Tx_total a0) + (1:Int32)) (Tx_used a0) (Tx_characters a0)) T1 Rd Pg Pt Mk Lk Ck Jd Ld Pr)) C hP (hDD _ _ _ _ _ _ _ _ _ _ _ _ _) hS 10 8 cw_10 rfl g10 rfl d_Tx_begin_106 (fun H locs hP hS => ?_)
    refine lv_iload hx hb d_Tx_begin_107 (lv_at hl 0 rfl) ?_
    cases h
    exact o_ri C hP hS d_Tx_begin_109
  · replace h := o_ff c1 h
    refine lv_iconst (v := (-1:Int32)) hx hb d_Tx_begin_10 (by decide) ?_
    cases h
    exact o_ri (v := (-1:Int32)) C hP hS d_Tx_begin_11
set_option maxHeartbeats 4000000 in
set_option maxRecDepth 100000 in
theorem c_Tx_begin_1 {E : (Nat → Prop) → State → Heap → Prop} {D : va_G} {ad kd sd : Nat → Nat} {ca : Nat → ClassId} (hE : o_EK E kd sd) (l : Launch) (x1 : Int32) (x2 : Int32) (x3 : Int32) (x4 : Int32) (a0 : STx) (Sj : SSJ) (T0 : STx) (Rd : SRd) (Pg : SPg) (Pt : SPt) (Mk : SMk) (Lk : SLk) (Ck : SCk) (Jd : SJd) (Ld : SLd) (Pr : SPr) (rt : Nat) {r : Int32 × STx} (h : m_Tx_begin x1 x2 x3 x4 a0 = some r) : o_Cn E l D o_cls (o_tys ca) y_Tx_begin cc_Tx_begin rm_Tx_begin [.ref (ad 12), .int x1, .int x2, .int x3, .int x4] (o_cw ad ca rt Sj T0 a0 Rd Pg Pt Mk Lk Ck Jd Ld Pr) (o_cw ad ca rt Sj T0 r.2 Rd Pg Pt Mk Lk Ck Jd Ld Pr) (some (.int r.1)) := by
  refine o_Cn_of (by decide) (Nat.le_of_ble_eq_true rfl) ?_
  intro p e s m below meth c A ls C hD hP hS hl
  have hDD : ∀ (rt : Nat) (Sj : SSJ) (T0 : STx) (T1 : STx) (Rd : SRd) (Pg : SPg) (Pt : SPt) (Mk : SMk) (Lk : SLk) (Ck : SCk) (Jd : SJd) (Ld : SLd) (Pr : SPr), va_D A (o_cw ad ca rt Sj T0 T1 Rd Pg Pt Mk Lk Ck Jd Ld Pr) := fun _ _ _ _ _ _ _ _ _ _ _ _ _ => o_D_map hD rfl
  have hl : lv_has ls 6 [(0, .ref (ad 12)), (1, .int x1), (2, .int x2), (3, .int x3), (4, .int x4)] := hl
  unfold m_Tx_begin at h
  have C0 := C
  obtain ⟨hx, hb, -, -, -, hown, hts, hK, -, -⟩ := C0
  refine lv_aload_n hx hb d_Tx_begin_0 rfl (lv_at hl 0 rfl) ?_
  refine o_get (v := .int (Tx_total a0)) C in_Tx hP 12 cw_12 rfl 10 (by decide) k_1_56 rfl rfl d_Tx_begin_1 ?_
  refine lv_sipush (v := (1000:Int32)) hx hb d_Tx_begin_4 (by decide) ?_
  refine lv_icmp_lt (tgt := 12) hx hb d_Tx_begin_7 (by decide) (fun c1 => ?_) (fun c1 => ?_)
  · replace h := o_tt c1 h
    refine lv_aload_n hx hb d_Tx_begin_12 rfl (lv_at hl 0 rfl) ?_
    refine o_get (v := .int (Tx_total a0)) C in_Tx hP 12 cw_12 rfl 10 (by decide) k_1_56 rfl rfl d_Tx_begin_13 ?_
    refine lv_topi (fun x5_16 ex5_16 => ?_)
    replace h := o_nm_at ex5_16 h
    refine lv_istore (lv' := [(5, .int x5_16), (0, .ref (ad 12)), (1, .int x1), (2, .int x2), (3, .int x3), (4, .int x4)]) hx hb d_Tx_begin_16 hl (by decide) rfl (fun ls hl => ?_)
    refine lv_aload_n hx hb d_Tx_begin_18 rfl (lv_at hl 1 rfl) ?_
    refine lv_dup hx hb d_Tx_begin_19 rfl ?_
    refine o_get (v := .int (Tx_total a0)) C in_Tx hP 12 cw_12 rfl 10 (by decide) k_1_56 rfl rfl d_Tx_begin_20 ?_
    refine lv_iconst (v := (1:Int32)) hx hb d_Tx_begin_23 (by decide) ?_
    refine lv_iadd hx hb d_Tx_begin_24 ?_
    refine o_put (v := .int ((Tx_total a0) + (1:Int32))) (ty := .int) (w1 := (o_cw ad ca rt Sj T0 (Tx_mk (Tx_kinds a0) (Tx_places a0) (Tx_sizes a0) (Tx_parents a0) (Tx_exponents a0) (Tx_starts a0) (Tx_afters a0) (Tx_slots a0) (Tx_negatives a0) (Tx_cells a0) ((Tx_total a0) + (1:Int32)) (Tx_used a0) (Tx_characters a0)) Rd Pg Pt Mk Lk Ck Jd Ld Pr)) C in_Tx t_Tx t_Tx_ok n_Tx hP (hDD _ _ _ _ _ _ _ _ _ _ _ _ _) hS 12 cw_12 rfl 10 (by decide) k_1_56 rfl rfl (by decide +kernel) rfl rfl (Nat.le_of_ble_eq_true rfl) rfl d_Tx_begin_25 (fun H locs hP hS => ?_)
    refine lv_aload_n hx hb d_Tx_begin_28 rfl (lv_at hl 1 rfl) ?_
    refine o_get (v := .ref (ad 13)) C in_Tx hP 12 cw_12 rfl 0 (by decide) k_1_46 rfl rfl d_Tx_begin_29 ?_
    refine lv_iload hx hb d_Tx_begin_32 (lv_at hl 0 rfl) ?_
    refine lv_iload_n hx hb d_Tx_begin_34 rfl (lv_at hl 2 rfl) ?_
    obtain ⟨g2, h⟩ := o_gd_some h
    refine o_iast (f := (Tx_kinds a0)) (w1 := (o_cw ad ca rt Sj T0 (Tx_mk (upd (Tx_kinds a0) x5_16.toNatClampNeg x1) (Tx_places a0) (Tx_sizes a0) (Tx_parents a0) (Tx_exponents a0) (Tx_starts a0) (Tx_afters a0) (Tx_slots a0) (Tx_negatives a0) (Tx_cells a0) ((Tx_total a0) + (1:Int32)) (Tx_used a0) (Tx_characters a0)) Rd Pg Pt Mk Lk Ck Jd Ld Pr)) C hP (hDD _ _ _ _ _ _ _ _ _ _ _ _ _) hS 13 10 cw_13 rfl g2 rfl d_Tx_begin_35 (fun H locs hP hS => ?_)
    refine lv_aload_n hx hb d_Tx_begin_36 rfl (lv_at hl 1 rfl) ?_
    refine o_get (v := .ref (ad 14)) C in_Tx hP 12 cw_12 rfl 1 (by decide) k_1_47 rfl rfl d_Tx_begin_37 ?_
    refine lv_iload hx hb d_Tx_begin_40 (lv_at hl 0 rfl) ?_
    refine lv_iload_n hx hb d_Tx_begin_42 rfl (lv_at hl 3 rfl) ?_
    obtain ⟨g3, h⟩ := o_gd_some h
    refine o_iast (f := (Tx_places a0)) (w1 := (o_cw ad ca rt Sj T0 (Tx_mk (upd (Tx_kinds a0) x5_16.toNatClampNeg x1) (upd (Tx_places a0) x5_16.toNatClampNeg x2) (Tx_sizes a0) (Tx_parents a0) (Tx_exponents a0) (Tx_starts a0) (Tx_afters a0) (Tx_slots a0) (Tx_negatives a0) (Tx_cells a0) ((Tx_total a0) + (1:Int32)) (Tx_used a0) (Tx_characters a0)) Rd Pg Pt Mk Lk Ck Jd Ld Pr)) C hP (hDD _ _ _ _ _ _ _ _ _ _ _ _ _) hS 14 11 cw_14 rfl g3 rfl d_Tx_begin_43 (fun H locs hP hS => ?_)
    refine lv_aload_n hx hb d_Tx_begin_44 rfl (lv_at hl 1 rfl) ?_
    refine o_get (v := .ref (ad 15)) C in_Tx hP 12 cw_12 rfl 2 (by decide) k_1_48 rfl rfl d_Tx_begin_45 ?_
    refine lv_iload hx hb d_Tx_begin_48 (lv_at hl 0 rfl) ?_
    refine lv_iconst (v := (0:Int32)) hx hb d_Tx_begin_50 (by decide) ?_
    obtain ⟨g4, h⟩ := o_gd_some h
    refine o_iast (f := (Tx_sizes a0)) (w1 := (o_cw ad ca rt Sj T0 (Tx_mk (upd (Tx_kinds a0) x5_16.toNatClampNeg x1) (upd (Tx_places a0) x5_16.toNatClampNeg x2) (upd (Tx_sizes a0) x5_16.toNatClampNeg (0:Int32)) (Tx_parents a0) (Tx_exponents a0) (Tx_starts a0) (Tx_afters a0) (Tx_slots a0) (Tx_negatives a0) (Tx_cells a0) ((Tx_total a0) + (1:Int32)) (Tx_used a0) (Tx_characters a0)) Rd Pg Pt Mk Lk Ck Jd Ld Pr)) C hP (hDD _ _ _ _ _ _ _ _ _ _ _ _ _) hS 15 12 cw_15 rfl g4 rfl d_Tx_begin_51 (fun H locs hP hS => ?_)
    refine lv_aload_n hx hb d_Tx_begin_52 rfl (lv_at hl 1 rfl) ?_
    refine o_get (v := .ref (ad 16)) C in_Tx hP 12 cw_12 rfl 3 (by decide) k_1_49 rfl rfl d_Tx_begin_53 ?_
    refine lv_iload hx hb d_Tx_begin_56 (lv_at hl 0 rfl) ?_
    refine lv_iload_n hx hb d_Tx_begin_58 rfl (lv_at hl 4 rfl) ?_
    obtain ⟨g5, h⟩ := o_gd_some h
    refine o_iast (f := (Tx_parents a0)) (w1 := (o_cw ad ca rt Sj T0 (Tx_mk (upd (Tx_kinds a0) x5_16.toNatClampNeg x1) (upd (Tx_places a0) x5_16.toNatClampNeg x2) (upd (Tx_sizes a0) x5_16.toNatClampNeg (0:Int32)) (upd (Tx_parents a0) x5_16.toNatClampNeg x3) (Tx_exponents a0) (Tx_starts a0) (Tx_afters a0) (Tx_slots a0) (Tx_negatives a0) (Tx_cells a0) ((Tx_total a0) + (1:Int32)) (Tx_used a0) (Tx_characters a0)) Rd Pg Pt Mk Lk Ck Jd Ld Pr)) C hP (hDD _ _ _ _ _ _ _ _ _ _ _ _ _) hS 16 13 cw_16 rfl g5 rfl d_Tx_begin_59 (fun H locs hP hS => ?_)
    refine lv_aload_n hx hb d_Tx_begin_60 rfl (lv_at hl 1 rfl) ?_
    refine o_get (v := .ref (ad 17)) C in_Tx hP 12 cw_12 rfl 4 (by decide) k_1_50 rfl rfl d_Tx_begin_61 ?_
    refine lv_iload hx hb d_Tx_begin_64 (lv_at hl 0 rfl) ?_
    refine lv_iconst (v := (0:Int32)) hx hb d_Tx_begin_66 (by decide) ?_
    obtain ⟨g6, h⟩ := o_gd_some h
    refine o_iast (f := (Tx_exponents a0)) (w1 := (o_cw ad ca rt Sj T0 (Tx_mk (upd (Tx_kinds a0) x5_16.toNatClampNeg x1) (upd (Tx_places a0) x5_16.toNatClampNeg x2) (upd (Tx_sizes a0) x5_16.toNatClampNeg (0:Int32)) (upd (Tx_parents a0) x5_16.toNatClampNeg x3) (upd (Tx_exponents a0) x5_16.toNatClampNeg (0:Int32)) (Tx_starts a0) (Tx_afters a0) (Tx_slots a0) (Tx_negatives a0) (Tx_cells a0) ((Tx_total a0) + (1:Int32)) (Tx_used a0) (Tx_characters a0)) Rd Pg Pt Mk Lk Ck Jd Ld Pr)) C hP (hDD _ _ _ _ _ _ _ _ _ _ _ _ _) hS 17 14 cw_17 rfl g6 rfl d_Tx_begin_67 (fun H locs hP hS => ?_)
    refine lv_aload_n hx hb d_Tx_begin_68 rfl (lv_at hl 1 rfl) ?_
    refine o_get (v := .ref (ad 18)) C in_Tx hP 12 cw_12 rfl 5 (by decide) k_1_51 rfl rfl d_Tx_begin_69 ?_
    refine lv_iload hx hb d_Tx_begin_72 (lv_at hl 0 rfl) ?_
    refine lv_aload_n hx hb d_Tx_begin_74 rfl (lv_at hl 1 rfl) ?_
    refine o_get (v := .int (Tx_used a0)) C in_Tx hP 12 cw_12 rfl 11 (by decide) k_1_57 rfl rfl d_Tx_begin_75 ?_
    obtain ⟨g7, h⟩ := o_gd_some h
    refine o_iast (f := (Tx_starts a0)) (w1 := (o_cw ad ca rt Sj T0 (Tx_mk (upd (Tx_kinds a0) x5_16.toNatClampNeg x1) (upd (Tx_places a0) x5_16.toNatClampNeg x2) (upd (Tx_sizes a0) x5_16.toNatClampNeg (0:Int32)) (upd (Tx_parents a0) x5_16.toNatClampNeg x3) (upd (Tx_exponents a0) x5_16.toNatClampNeg (0:Int32)) (upd (Tx_starts a0) x5_16.toNatClampNeg (Tx_used a0)) (Tx_afters a0) (Tx_slots a0) (Tx_negatives a0) (Tx_cells a0) ((Tx_total a0) + (1:Int32)) (Tx_used a0) (Tx_characters a0)) Rd Pg Pt Mk Lk Ck Jd Ld Pr)) C hP (hDD _ _ _ _ _ _ _ _ _ _ _ _ _) hS 18 15 cw_18 rfl g7 rfl d_Tx_begin_78 (fun H locs hP hS => ?_)
    refine lv_aload_n hx hb d_Tx_begin_79 rfl (lv_at hl 1 rfl) ?_
    refine o_get (v := .ref (ad 19)) C in_Tx hP 12 cw_12 rfl 6 (by decide) k_1_52 rfl rfl d_Tx_begin_80 ?_
    refine lv_iload hx hb d_Tx_begin_83 (lv_at hl 0 rfl) ?_
    refine lv_aload_n hx hb d_Tx_begin_85 rfl (lv_at hl 1 rfl) ?_
    refine o_get (v := .int ((Tx_total a0) + (1:Int32))) C in_Tx hP 12 cw_12 rfl 10 (by decide) k_1_56 rfl rfl d_Tx_begin_86 ?_
    obtain ⟨g8, h⟩ := o_gd_some h
    refine o_iast (f := (Tx_afters a0)) (w1 := (o_cw ad ca rt Sj T0 (Tx_mk (upd (Tx_kinds a0) x5_16.toNatClampNeg x1) (upd (Tx_places a0) x5_16.toNatClampNeg x2) (upd (Tx_sizes a0) x5_16.toNatClampNeg (0:Int32)) (upd (Tx_parents a0) x5_16.toNatClampNeg x3) (upd (Tx_exponents a0) x5_16.toNatClampNeg (0:Int32)) (upd (Tx_starts a0) x5_16.toNatClampNeg (Tx_used a0)) (upd (Tx_afters a0) x5_16.toNatClampNeg ((Tx_total a0) + (1:Int32))) (Tx_slots a0) (Tx_negatives a0) (Tx_cells a0) ((Tx_total a0) + (1:Int32)) (Tx_used a0) (Tx_characters a0)) Rd Pg Pt Mk Lk Ck Jd Ld Pr)) C hP (hDD _ _ _ _ _ _ _ _ _ _ _ _ _) hS 19 16 cw_19 rfl g8 rfl d_Tx_begin_89 (fun H locs hP hS => ?_)
    refine lv_aload_n hx hb d_Tx_begin_90 rfl (lv_at hl 1 rfl) ?_
    refine o_get (v := .ref (ad 20)) C in_Tx hP 12 cw_12 rfl 7 (by decide) k_1_53 rfl rfl d_Tx_begin_91 ?_
    refine lv_iload hx hb d_Tx_begin_94 (lv_at hl 0 rfl) ?_
    refine lv_iload hx hb d_Tx_begin_96 (lv_at hl 5 rfl) ?_
    obtain ⟨g9, h⟩ := o_gd_some h
    refine o_iast (f := (Tx_slots a0)) (w1 := (o_cw ad ca rt Sj T0 (Tx_mk (upd (Tx_kinds a0) x5_16.toNatClampNeg x1) (upd (Tx_places a0) x5_16.toNatClampNeg x2) (upd (Tx_sizes a0) x5_16.toNatClampNeg (0:Int32)) (upd (Tx_parents a0) x5_16.toNatClampNeg x3) (upd (Tx_exponents a0) x5_16.toNatClampNeg (0:Int32)) (upd (Tx_starts a0) x5_16.toNatClampNeg (Tx_used a0)) (upd (Tx_afters a0) x5_16.toNatClampNeg ((Tx_total a0) + (1:Int32))) (upd (Tx_slots a0) x5_16.toNatClampNeg x4) (Tx_negatives a0) (Tx_cells a0) ((Tx_total a0) + (1:Int32)) (Tx_used a0) (Tx_characters a0)) Rd Pg Pt Mk Lk Ck Jd Ld Pr)) C hP (hDD _ _ _ _ _ _ _ _ _ _ _ _ _) hS 20 17 cw_20 rfl g9 rfl d_Tx_begin_98 (fun H locs hP hS => ?_)
    refine lv_aload_n hx hb d_Tx_begin_99 rfl (lv_at hl 1 rfl) ?_
    refine o_get (v := .ref (ad 21)) C in_Tx hP 12 cw_12 rfl 8 (by decide) k_1_54 rfl rfl d_Tx_begin_100 ?_
    refine lv_iload hx hb d_Tx_begin_103 (lv_at hl 0 rfl) ?_
    refine lv_iconst (v := (0:Int32)) hx hb d_Tx_begin_105 (by decide) ?_
    obtain ⟨g10, h⟩ := o_gd_some h
    refine o_zast (f := (Tx_negatives a0)) (w1 := (o_cw ad ca rt Sj T0 (Tx_mk (upd (Tx_kinds a0) x5_16.toNatClampNeg x1) (upd (Tx_places a0) x5_16.toNatClampNeg x2) (upd (Tx_sizes a0) x5_16.toNatClampNeg (0:Int32)) (upd (Tx_parents a0) x5_16.toNatClampNeg x3) (upd (Tx_exponents a0) x5_16.toNatClampNeg (0:Int32)) (upd (Tx_starts a0) x5_16.toNatClampNeg (Tx_used a0)) (upd (Tx_afters a0) x5_16.toNatClampNeg ((Tx_total a0) + (1:Int32))) (upd (Tx_slots a0) x5_16.toNatClampNeg x4) (upd (Tx_negatives a0) x5_16.toNatClampNeg (vp_nar .boolean (0:Int32))) (Tx_cells a0) ((Tx_total a0) + (1:Int32)) (Tx_used a0) (Tx_characters a0)) Rd Pg Pt Mk Lk Ck Jd Ld Pr)) C hP (hDD _ _ _ _ _ _ _ _ _ _ _ _ _) hS 21 18 cw_21 rfl g10 rfl d_Tx_begin_106 (fun H locs hP hS => ?_)
    refine lv_iload hx hb d_Tx_begin_107 (lv_at hl 0 rfl) ?_
    cases h
    exact o_ri C hP hS d_Tx_begin_109
  · replace h := o_ff c1 h
    refine lv_iconst (v := (-1:Int32)) hx hb d_Tx_begin_10 (by decide) ?_
    cases h
    exact o_ri (v := (-1:Int32)) C hP hS d_Tx_begin_11
set_option maxHeartbeats 4000000 in
set_option maxRecDepth 100000 in
theorem c_Tx_addDigit_0 {E : (Nat → Prop) → State → Heap → Prop} {D : va_G} {ad kd sd : Nat → Nat} {ca : Nat → ClassId} (hE : o_EK E kd sd) (l : Launch) (x1 : Int32) (a0 : STx) (Sj : SSJ) (T1 : STx) (Rd : SRd) (Pg : SPg) (Pt : SPt) (Mk : SMk) (Lk : SLk) (Ck : SCk) (Jd : SJd) (Ld : SLd) (Pr : SPr) (rt : Nat) {r : STx} (h : m_Tx_addDigit x1 a0 = some r) : o_Cn E l D o_cls (o_tys ca) y_Tx_addDigit cc_Tx_addDigit rm_Tx_addDigit [.ref (ad 1), .int x1] (o_cw ad ca rt Sj a0 T1 Rd Pg Pt Mk Lk Ck Jd Ld Pr) (o_cw ad ca rt Sj r T1 Rd Pg Pt Mk Lk Ck Jd Ld Pr) none := by
  refine o_Cn_of (by decide) (Nat.le_of_ble_eq_true rfl) ?_
  intro p e s m below meth c A ls C hD hP hS hl
  have hDD : ∀ (rt : Nat) (Sj : SSJ) (T0 : STx) (T1 : STx) (Rd : SRd) (Pg : SPg) (Pt : SPt) (Mk : SMk) (Lk : SLk) (Ck : SCk) (Jd : SJd) (Ld : SLd) (Pr : SPr), va_D A (o_cw ad ca rt Sj T0 T1 Rd Pg Pt Mk Lk Ck Jd Ld Pr) := fun _ _ _ _ _ _ _ _ _ _ _ _ _ => o_D_map hD rfl
  have hl : lv_has ls 2 [(0, .ref (ad 1)), (1, .int x1)] := hl
  unfold m_Tx_addDigit at h
  have C0 := C
  obtain ⟨hx, hb, -, -, -, hown, hts, hK, -, -⟩ := C0
  refine lv_aload_n hx hb d_Tx_addDigit_0 rfl (lv_at hl 0 rfl) ?_
  refine o_get (v := .int (Tx_used a0)) C in_Tx hP 1 cw_1 rfl 11 (by decide) k_1_57 rfl rfl d_Tx_addDigit_1 ?_
  refine lv_aload_n hx hb d_Tx_addDigit_4 rfl (lv_at hl 0 rfl) ?_
  refine o_get (v := .ref (ad 11)) C in_Tx hP 1 cw_1 rfl 9 (by decide) k_1_55 rfl rfl d_Tx_addDigit_5 ?_
  refine va_alen (v := (8192:Int32)) hx hb hK hP 11 9 cw_11 rfl rfl d_Tx_addDigit_8 ?_
  refine lv_icmp_ge (tgt := 32) hx hb d_Tx_addDigit_9 (by decide) (fun c1 => ?_) (fun c1 => ?_)
  · replace h := o_tt c1 h
    cases h
    exact o_rv C hP hS d_Tx_addDigit_32
  · replace h := o_ff c1 h
    refine lv_aload_n hx hb d_Tx_addDigit_12 rfl (lv_at hl 0 rfl) ?_
    refine o_get (v := .ref (ad 11)) C in_Tx hP 1 cw_1 rfl 9 (by decide) k_1_55 rfl rfl d_Tx_addDigit_13 ?_
    refine lv_aload_n hx hb d_Tx_addDigit_16 rfl (lv_at hl 0 rfl) ?_
    refine o_get (v := .int (Tx_used a0)) C in_Tx hP 1 cw_1 rfl 11 (by decide) k_1_57 rfl rfl d_Tx_addDigit_17 ?_
    refine lv_iload_n hx hb d_Tx_addDigit_20 rfl (lv_at hl 1 rfl) ?_
    obtain ⟨g2, h⟩ := o_gd_some h
    refine o_iast (f := (Tx_cells a0)) (w1 := (o_cw ad ca rt Sj (Tx_mk (Tx_kinds a0) (Tx_places a0) (Tx_sizes a0) (Tx_parents a0) (Tx_exponents a0) (Tx_starts a0) (Tx_afters a0) (Tx_slots a0) (Tx_negatives a0) (upd (Tx_cells a0) (Tx_used a0).toNatClampNeg x1) (Tx_total a0) (Tx_used a0) (Tx_characters a0)) T1 Rd Pg Pt Mk Lk Ck Jd Ld Pr)) C hP (hDD _ _ _ _ _ _ _ _ _ _ _ _ _) hS 11 9 cw_11 rfl g2 rfl d_Tx_addDigit_21 (fun H locs hP hS => ?_)
    refine lv_aload_n hx hb d_Tx_addDigit_22 rfl (lv_at hl 0 rfl) ?_
    refine lv_dup hx hb d_Tx_addDigit_23 rfl ?_
    refine o_get (v := .int (Tx_used a0)) C in_Tx hP 1 cw_1 rfl 11 (by decide) k_1_57 rfl rfl d_Tx_addDigit_24 ?_
    refine lv_iconst (v := (1:Int32)) hx hb d_Tx_addDigit_27 (by decide) ?_
    refine lv_iadd hx hb d_Tx_addDigit_28 ?_
    refine o_put (v := .int ((Tx_used a0) + (1:Int32))) (ty := .int) (w1 := (o_cw ad ca rt Sj (Tx_mk (Tx_kinds a0) (Tx_places a0) (Tx_sizes a0) (Tx_parents a0) (Tx_exponents a0) (Tx_starts a0) (Tx_afters a0) (Tx_slots a0) (Tx_negatives a0) (upd (Tx_cells a0) (Tx_used a0).toNatClampNeg x1) (Tx_total a0) ((Tx_used a0) + (1:Int32)) (Tx_characters a0)) T1 Rd Pg Pt Mk Lk Ck Jd Ld Pr)) C in_Tx t_Tx t_Tx_ok n_Tx hP (hDD _ _ _ _ _ _ _ _ _ _ _ _ _) hS 1 cw_1 rfl 11 (by decide) k_1_57 rfl rfl (by decide +kernel) rfl rfl (Nat.le_of_ble_eq_true rfl) rfl d_Tx_addDigit_29 (fun H locs hP hS => ?_)
    cases h
    exact o_rv C hP hS d_Tx_addDigit_32
set_option maxHeartbeats 4000000 in
set_option maxRecDepth 100000 in
theorem c_Tx_addDigit_1 {E : (Nat → Prop) → State → Heap → Prop} {D : va_G} {ad kd sd : Nat → Nat} {ca : Nat → ClassId} (hE : o_EK E kd sd) (l : Launch) (x1 : Int32) (a0 : STx) (Sj : SSJ) (T0 : STx) (Rd : SRd) (Pg : SPg) (Pt : SPt) (Mk : SMk) (Lk : SLk) (Ck : SCk) (Jd : SJd) (Ld : SLd) (Pr : SPr) (rt : Nat) {r : STx} (h : m_Tx_addDigit x1 a0 = some r) : o_Cn E l D o_cls (o_tys ca) y_Tx_addDigit cc_Tx_addDigit rm_Tx_addDigit [.ref (ad 12), .int x1] (o_cw ad ca rt Sj T0 a0 Rd Pg Pt Mk Lk Ck Jd Ld Pr) (o_cw ad ca rt Sj T0 r Rd Pg Pt Mk Lk Ck Jd Ld Pr) none := by
  refine o_Cn_of (by decide) (Nat.le_of_ble_eq_true rfl) ?_
  intro p e s m below meth c A ls C hD hP hS hl
  have hDD : ∀ (rt : Nat) (Sj : SSJ) (T0 : STx) (T1 : STx) (Rd : SRd) (Pg : SPg) (Pt : SPt) (Mk : SMk) (Lk : SLk) (Ck : SCk) (Jd : SJd) (Ld : SLd) (Pr : SPr), va_D A (o_cw ad ca rt Sj T0 T1 Rd Pg Pt Mk Lk Ck Jd Ld Pr) := fun _ _ _ _ _ _ _ _ _ _ _ _ _ => o_D_map hD rfl
  have hl : lv_has ls 2 [(0, .ref (ad 12)), (1, .int x1)] := hl
  unfold m_Tx_addDigit at h
  have C0 := C
  obtain ⟨hx, hb, -, -, -, hown, hts, hK, -, -⟩ := C0
  refine lv_aload_n hx hb d_Tx_addDigit_0 rfl (lv_at hl 0 rfl) ?_
  refine o_get (v := .int (Tx_used a0)) C in_Tx hP 12 cw_12 rfl 11 (by decide) k_1_57 rfl rfl d_Tx_addDigit_1 ?_
  refine lv_aload_n hx hb d_Tx_addDigit_4 rfl (lv_at hl 0 rfl) ?_
  refine o_get (v := .ref (ad 22)) C in_Tx hP 12 cw_12 rfl 9 (by decide) k_1_55 rfl rfl d_Tx_addDigit_5 ?_
  refine va_alen (v := (8192:Int32)) hx hb hK hP 22 19 cw_22 rfl rfl d_Tx_addDigit_8 ?_
  refine lv_icmp_ge (tgt := 32) hx hb d_Tx_addDigit_9 (by decide) (fun c1 => ?_) (fun c1 => ?_)
  · replace h := o_tt c1 h
    cases h
    exact o_rv C hP hS d_Tx_addDigit_32
  · replace h := o_ff c1 h
    refine lv_aload_n hx hb d_Tx_addDigit_12 rfl (lv_at hl 0 rfl) ?_
    refine o_get (v := .ref (ad 22)) C in_Tx hP 12 cw_12 rfl 9 (by decide) k_1_55 rfl rfl d_Tx_addDigit_13 ?_
    refine lv_aload_n hx hb d_Tx_addDigit_16 rfl (lv_at hl 0 rfl) ?_
    refine o_get (v := .int (Tx_used a0)) C in_Tx hP 12 cw_12 rfl 11 (by decide) k_1_57 rfl rfl d_Tx_addDigit_17 ?_
    refine lv_iload_n hx hb d_Tx_addDigit_20 rfl (lv_at hl 1 rfl) ?_
    obtain ⟨g2, h⟩ := o_gd_some h
    refine o_iast (f := (Tx_cells a0)) (w1 := (o_cw ad ca rt Sj T0 (Tx_mk (Tx_kinds a0) (Tx_places a0) (Tx_sizes a0) (Tx_parents a0) (Tx_exponents a0) (Tx_starts a0) (Tx_afters a0) (Tx_slots a0) (Tx_negatives a0) (upd (Tx_cells a0) (Tx_used a0).toNatClampNeg x1) (Tx_total a0) (Tx_used a0) (Tx_characters a0)) Rd Pg Pt Mk Lk Ck Jd Ld Pr)) C hP (hDD _ _ _ _ _ _ _ _ _ _ _ _ _) hS 22 19 cw_22 rfl g2 rfl d_Tx_addDigit_21 (fun H locs hP hS => ?_)
    refine lv_aload_n hx hb d_Tx_addDigit_22 rfl (lv_at hl 0 rfl) ?_
    refine lv_dup hx hb d_Tx_addDigit_23 rfl ?_
    refine o_get (v := .int (Tx_used a0)) C in_Tx hP 12 cw_12 rfl 11 (by decide) k_1_57 rfl rfl d_Tx_addDigit_24 ?_
    refine lv_iconst (v := (1:Int32)) hx hb d_Tx_addDigit_27 (by decide) ?_
    refine lv_iadd hx hb d_Tx_addDigit_28 ?_
    refine o_put (v := .int ((Tx_used a0) + (1:Int32))) (ty := .int) (w1 := (o_cw ad ca rt Sj T0 (Tx_mk (Tx_kinds a0) (Tx_places a0) (Tx_sizes a0) (Tx_parents a0) (Tx_exponents a0) (Tx_starts a0) (Tx_afters a0) (Tx_slots a0) (Tx_negatives a0) (upd (Tx_cells a0) (Tx_used a0).toNatClampNeg x1) (Tx_total a0) ((Tx_used a0) + (1:Int32)) (Tx_characters a0)) Rd Pg Pt Mk Lk Ck Jd Ld Pr)) C in_Tx t_Tx t_Tx_ok n_Tx hP (hDD _ _ _ _ _ _ _ _ _ _ _ _ _) hS 12 cw_12 rfl 11 (by decide) k_1_57 rfl rfl (by decide +kernel) rfl rfl (Nat.le_of_ble_eq_true rfl) rfl d_Tx_addDigit_29 (fun H locs hP hS => ?_)
    cases h
    exact o_rv C hP hS d_Tx_addDigit_32
set_option maxHeartbeats 4000000 in
set_option maxRecDepth 100000 in
theorem w_Rd_readDigits_b2_0 {E : (Nat → Prop) → State → Heap → Prop} {p : Program} {l : Launch} {e : Env} {s : State} {m : MethodId} {args : Array Value} {below : List Frame} {meth : Method} {c : Code} {D : va_G} {ad kd sd : Nat → Nat} {ca : Nat → ClassId} {A : Nat → Prop} {Q : State → Prop} (hE : o_EK E kd sd) (C : o_Cx E p s m args meth c D o_cls (o_tys ca) "SchemaJudge$Reader" b_Rd_readDigits (some .int) 4 cc_Rd_readDigits A) (hDD : ∀ (rt : Nat) (Sj : SSJ) (T0 : STx) (T1 : STx) (Rd : SRd) (Pg : SPg) (Pt : SPt) (Mk : SMk) (Lk : SLk) (Ck : SCk) (Jd : SJd) (Ld : SLd) (Pr : SPr), va_D A (o_cw ad ca rt Sj T0 T1 Rd Pg Pt Mk Lk Ck Jd Ld Pr)) (n : Nat) (u2_x1 : Int32) (u2_Sj : SSJ) (u2_T1 : STx) (u2_Pg : SPg) (u2_Pt : SPt) (u2_Mk : SMk) (u2_Lk : SLk) (u2_Ck : SCk) (u2_Jd : SJd) (u2_Ld : SLd) (u2_Pr : SPr) (z : Int32 × STx × SRd) (q : Nat × Int32 × STx × SRd) (h : m_Rd_readDigits_b2 n u2_x1 z = some q) (h0 : q.1 = 0 → o_At p l e rm_Rd_readDigits s m args below meth c Q o_cls D A 4 2 [] (o_cw ad ca 1 u2_Sj q.2.2.1 u2_T1 q.2.2.2 u2_Pg u2_Pt u2_Mk u2_Lk u2_Ck u2_Jd u2_Ld u2_Pr) [(0, .ref (ad 23)), (1, .int u2_x1), (2, .int q.2.1)]) (h1 : q.1 ≠ 0 → (if q.1 = 1 then o_At p l e rm_Rd_readDigits s m args below meth c Q o_cls D A 4 19 [] (o_cw ad ca 1 u2_Sj q.2.2.1 u2_T1 q.2.2.2 u2_Pg u2_Pt u2_Mk u2_Lk u2_Ck u2_Jd u2_Ld u2_Pr) [(2, .int q.2.1)] else o_At p l e rm_Rd_readDigits s m args below meth c Q o_cls D A 4 48 [] (o_cw ad ca 1 u2_Sj q.2.2.1 u2_T1 q.2.2.2 u2_Pg u2_Pt u2_Mk u2_Lk u2_Ck u2_Jd u2_Ld u2_Pr) [(1, .int u2_x1)])) : o_At p l e rm_Rd_readDigits s m args below meth c Q o_cls D A 4 2 [] (o_cw ad ca 1 u2_Sj z.2.1 u2_T1 z.2.2 u2_Pg u2_Pt u2_Mk u2_Lk u2_Ck u2_Jd u2_Ld u2_Pr) [(0, .ref (ad 23)), (1, .int u2_x1), (2, .int z.1)] := by
  unfold m_Rd_readDigits_b2 at h
  intro H locs ls hP hS hl
  have C0 := C
  obtain ⟨hx, hb, -, -, -, hown, hts, hK, -, -⟩ := C0
  refine lv_iload_n hx hb d_Rd_readDigits_2 rfl (lv_at hl 2 rfl) ?_
  refine lv_iload_n hx hb d_Rd_readDigits_3 rfl (lv_at hl 1 rfl) ?_
  refine lv_icmp_ge (tgt := 48) hx hb d_Rd_readDigits_4 (by decide) (fun c1 => ?_) (fun c1 => ?_)
  · replace h := o_tt c1 h
    cases h
    exact h1 (Nat.succ_ne_zero 1) _ _ _ hP hS (lv_sub hl [1] rfl)
  · replace h := o_ff c1 h
    refine lv_aload_n hx hb d_Rd_readDigits_7 rfl (lv_at hl 0 rfl) ?_
    obtain ⟨q1, hq1, h⟩ := o_bd_some h
    refine o_V (st1 := [.int q1]) (w1 := (o_cw ad ca 1 u2_Sj z.2.1 u2_T1 z.2.2 u2_Pg u2_Pt u2_Mk u2_Lk u2_Ck u2_Jd u2_Ld u2_Pr)) hE.1 C (c_Rd_peek hE l z.2.2 u2_Sj z.2.1 u2_T1 u2_Pg u2_Pt u2_Mk u2_Lk u2_Ck u2_Jd u2_Ld u2_Pr 1 hq1) hP (hDD _ _ _ _ _ _ _ _ _ _ _ _ _) hS hl.1 rfl cw_23 k_3_38 k_3_40 k_s_3 k_1_3 k_3_41 hv_Rd_peek rfl rfl ⟨Nat.le_of_ble_eq_true rfl, Nat.le_of_ble_eq_true rfl⟩ rfl (Nat.le_of_ble_eq_true rfl) ⟨Nat.le_of_ble_eq_true rfl, Nat.le_of_ble_eq_true rfl⟩ rfl d_Rd_readDigits_8 (fun H locs hP hS => ?_)
    refine lv_istore_n (lv' := [(3, .int q1), (0, .ref (ad 23)), (1, .int u2_x1), (2, .int z.1)]) hx hb d_Rd_readDigits_11 rfl hl (by decide) rfl (fun ls hl => ?_)
    refine lv_iload_n hx hb d_Rd_readDigits_12 rfl (lv_at hl 0 rfl) ?_
    obtain ⟨q2, hq2, h⟩ := o_bd_some h
    refine o_SN (st1 := [.int q2]) (w1 := (o_cw ad ca 1 u2_Sj z.2.1 u2_T1 z.2.2 u2_Pg u2_Pt u2_Mk u2_Lk u2_Ck u2_Jd u2_Ld u2_Pr)) hE.1 C (c_SJ_isDigit hE l q1 u2_Sj z.2.1 u2_T1 z.2.2 u2_Pg u2_Pt u2_Mk u2_Lk u2_Ck u2_Jd u2_Ld u2_Pr 1 hq2) hP (hDD _ _ _ _ _ _ _ _ _ _ _ _ _) hS hl.1 (hE.2.1 _ _ _ C.2.2.2.2.2.2.2.2.2 _ nw_0) k_3_46 k_1_1 k_3_47 hs_SJ_isDigit rfl rfl ⟨Nat.le_of_ble_eq_true rfl, Nat.le_of_ble_eq_true rfl⟩ rfl (Nat.le_of_ble_eq_true rfl) ⟨Nat.le_of_ble_eq_true rfl, Nat.le_of_ble_eq_true rfl⟩ rfl d_Rd_readDigits_13 (fun H locs hP hS => ?_)
    refine lv_if_ne (tgt := 21) hx hb d_Rd_readDigits_16 (by decide) (fun c2 => ?_) (fun c2 => ?_)
    · replace h := o_ff c2 h
      refine lv_aload_n hx hb d_Rd_readDigits_21 rfl (lv_at hl 1 rfl) ?_
      refine o_get (v := .ref (ad 1)) C in_Rd hP 23 cw_23 rfl 2 (by decide) k_1_96 rfl rfl d_Rd_readDigits_22 ?_
      refine lv_iload_n hx hb d_Rd_readDigits_25 rfl (lv_at hl 0 rfl) ?_
      refine lv_bipush (v := (48:Int32)) hx hb d_Rd_readDigits_26 (by decide) ?_
      refine lv_isub hx hb d_Rd_readDigits_28 ?_
      obtain ⟨q3, hq3, h⟩ := o_bd_some h
      refine o_V (st1 := []) (w1 := (o_cw ad ca 1 u2_Sj q3 u2_T1 z.2.2 u2_Pg u2_Pt u2_Mk u2_Lk u2_Ck u2_Jd u2_Ld u2_Pr)) hE.1 C (c_Tx_addDigit_0 hE l (q1 - (48:Int32)) z.2.1 u2_Sj u2_T1 z.2.2 u2_Pg u2_Pt u2_Mk u2_Lk u2_Ck u2_Jd u2_Ld u2_Pr 1 hq3) hP (hDD _ _ _ _ _ _ _ _ _ _ _ _ _) hS hl.1 rfl cw_1 k_3_119 k_3_120 k_3_121 k_1_2 k_3_122 hv_Tx_addDigit rfl rfl ⟨Nat.le_of_ble_eq_true rfl, Nat.le_of_ble_eq_true rfl⟩ rfl (Nat.le_of_ble_eq_true rfl) ⟨Nat.le_of_ble_eq_true rfl, Nat.le_of_ble_eq_true rfl⟩ rfl d_Rd_readDigits_29 (fun H locs hP hS => ?_)
      refine lv_aload_n hx hb d_Rd_readDigits_32 rfl (lv_at hl 1 rfl) ?_
      refine lv_dup hx hb d_Rd_readDigits_33 rfl ?_
      refine o_get (v := .int (Rd_position z.2.2)) C in_Rd hP 23 cw_23 rfl 3 (by decide) k_1_97 rfl rfl d_Rd_readDigits_34 ?_
      refine lv_iconst (v := (1:Int32)) hx hb d_Rd_readDigits_37 (by decide) ?_
      refine lv_iadd hx hb d_Rd_readDigits_38 ?_
      refine o_put (v := .int ((Rd_position z.2.2) + (1:Int32))) (ty := .int) (w1 := (o_cw ad ca 1 u2_Sj q3 u2_T1 (Rd_mk (Rd_words z.2.2) (Rd_wordCount z.2.2) ((Rd_position z.2.2) + (1:Int32)) (Rd_limit z.2.2) (Rd_wrongPlace z.2.2)) u2_Pg u2_Pt u2_Mk u2_Lk u2_Ck u2_Jd u2_Ld u2_Pr)) C in_Rd t_Rd t_Rd_ok n_Rd hP (hDD _ _ _ _ _ _ _ _ _ _ _ _ _) hS 23 cw_23 rfl 3 (by decide) k_1_97 rfl rfl (by decide +kernel) rfl rfl (Nat.le_of_ble_eq_true rfl) rfl d_Rd_readDigits_39 (fun H locs hP hS => ?_)
      obtain ⟨x2_42, ex2_42⟩ : ∃ y : Int32, y = z.1 + (1:Int32) := ⟨_, rfl⟩
      replace h := o_nm_at ex2_42 h
      refine lv_iinc (v := x2_42) (lv' := [(2, .int x2_42), (3, .int q1), (0, .ref (ad 23)), (1, .int u2_x1)]) hx hb d_Rd_readDigits_42 hl (k := 3) rfl (by rw [ex2_42]; rfl) (by decide) rfl (fun ls hl => ?_)
      refine lv_goto (tgt := 2) hx hb d_Rd_readDigits_45 (by decide) ?_
      cases h
      exact h0 rfl _ _ _ hP hS (lv_sub hl [2, 3, 0] rfl)
    · replace h := o_tt c2 h
      cases h
      exact h1 (Nat.succ_ne_zero 0) _ _ _ hP hS (lv_sub hl [3] rfl)
set_option maxHeartbeats 4000000 in
set_option maxRecDepth 100000 in
theorem c_Rd_readDigits_0 {E : (Nat → Prop) → State → Heap → Prop} {D : va_G} {ad kd sd : Nat → Nat} {ca : Nat → ClassId} (hE : o_EK E kd sd) (l : Launch) (n : Nat) (x1 : Int32) (tc : STx) (Rd : SRd) (Sj : SSJ) (T1 : STx) (Pg : SPg) (Pt : SPt) (Mk : SMk) (Lk : SLk) (Ck : SCk) (Jd : SJd) (Ld : SLd) (Pr : SPr) {r : Int32 × STx × SRd} (h : m_Rd_readDigits n x1 tc Rd = some r) : o_Cn E l D o_cls (o_tys ca) y_Rd_readDigits cc_Rd_readDigits rm_Rd_readDigits [.ref (ad 23), .int x1] (o_cw ad ca 1 Sj tc T1 Rd Pg Pt Mk Lk Ck Jd Ld Pr) (o_cw ad ca 1 Sj r.2.1 T1 r.2.2 Pg Pt Mk Lk Ck Jd Ld Pr) (some (.int r.1)) := by
  refine o_Cn_of (by decide) (Nat.le_of_ble_eq_true rfl) ?_
  intro p e s m below meth c A ls C hD hP hS hl
  have hDD : ∀ (rt : Nat) (Sj : SSJ) (T0 : STx) (T1 : STx) (Rd : SRd) (Pg : SPg) (Pt : SPt) (Mk : SMk) (Lk : SLk) (Ck : SCk) (Jd : SJd) (Ld : SLd) (Pr : SPr), va_D A (o_cw ad ca rt Sj T0 T1 Rd Pg Pt Mk Lk Ck Jd Ld Pr) := fun _ _ _ _ _ _ _ _ _ _ _ _ _ => o_D_map hD rfl
  have hl : lv_has ls 4 [(0, .ref (ad 23)), (1, .int x1)] := hl
  unfold m_Rd_readDigits at h
  have C0 := C
  obtain ⟨hx, hb, -, -, -, hown, hts, hK, -, -⟩ := C0
  refine lv_iconst (v := (0:Int32)) hx hb d_Rd_readDigits_0 (by decide) ?_
  refine lv_istore_n (lv' := [(2, .int (0:Int32)), (0, .ref (ad 23)), (1, .int x1)]) hx hb d_Rd_readDigits_1 rfl hl (by decide) rfl (fun ls hl => ?_)
  obtain ⟨q4, hq4, h⟩ := o_bd_some h
  refine o_sim2 (AH := fun zz => o_At p l e rm_Rd_readDigits s m _ below meth c _ o_cls D A 4 2 [] (o_cw ad ca 1 Sj zz.2.1 T1 zz.2.2 Pg Pt Mk Lk Ck Jd Ld Pr) [(0, .ref (ad 23)), (1, .int x1), (2, .int zz.1)]) (AX := fun qq => if qq.1 = 1 then o_At p l e rm_Rd_readDigits s m _ below meth c _ o_cls D A 4 19 [] (o_cw ad ca 1 Sj qq.2.2.1 T1 qq.2.2.2 Pg Pt Mk Lk Ck Jd Ld Pr) [(2, .int qq.2.1)] else o_At p l e rm_Rd_readDigits s m _ below meth c _ o_cls D A 4 48 [] (o_cw ad ca 1 Sj qq.2.2.1 T1 qq.2.2.2 Pg Pt Mk Lk Ck Jd Ld Pr) [(1, .int x1)]) (fun zz qq h h0 h1 => w_Rd_readDigits_b2_0 hE C hDD n x1 Sj T1 Pg Pt Mk Lk Ck Jd Ld Pr zz qq h h0 h1) n _ q4 hq4 ?_ _ _ _ hP hS (lv_sub hl [1, 2, 0] rfl)
  by_cases c3 : q4.1 = 1
  · replace h := o_tt c3 h
    refine o_ip c3 ?_
    intro H locs ls hP hS hl
    refine lv_iload_n hx hb d_Rd_readDigits_19 rfl (lv_at hl 0 rfl) ?_
    cases h
    exact o_ri C hP hS d_Rd_readDigits_20
  replace h := o_ff c3 h
  refine o_in_ c3 ?_
  intro H locs ls hP hS hl
  refine lv_iload_n hx hb d_Rd_readDigits_48 rfl (lv_at hl 0 rfl) ?_
  cases h
  exact o_ri C hP hS d_Rd_readDigits_49
set_option maxHeartbeats 4000000 in
set_option maxRecDepth 100000 in
theorem w_Rd_readDigits_b2_1 {E : (Nat → Prop) → State → Heap → Prop} {p : Program} {l : Launch} {e : Env} {s : State} {m : MethodId} {args : Array Value} {below : List Frame} {meth : Method} {c : Code} {D : va_G} {ad kd sd : Nat → Nat} {ca : Nat → ClassId} {A : Nat → Prop} {Q : State → Prop} (hE : o_EK E kd sd) (C : o_Cx E p s m args meth c D o_cls (o_tys ca) "SchemaJudge$Reader" b_Rd_readDigits (some .int) 4 cc_Rd_readDigits A) (hDD : ∀ (rt : Nat) (Sj : SSJ) (T0 : STx) (T1 : STx) (Rd : SRd) (Pg : SPg) (Pt : SPt) (Mk : SMk) (Lk : SLk) (Ck : SCk) (Jd : SJd) (Ld : SLd) (Pr : SPr), va_D A (o_cw ad ca rt Sj T0 T1 Rd Pg Pt Mk Lk Ck Jd Ld Pr)) (n : Nat) (u2_x1 : Int32) (u2_Sj : SSJ) (u2_T0 : STx) (u2_Pg : SPg) (u2_Pt : SPt) (u2_Mk : SMk) (u2_Lk : SLk) (u2_Ck : SCk) (u2_Jd : SJd) (u2_Ld : SLd) (u2_Pr : SPr) (z : Int32 × STx × SRd) (q : Nat × Int32 × STx × SRd) (h : m_Rd_readDigits_b2 n u2_x1 z = some q) (h0 : q.1 = 0 → o_At p l e rm_Rd_readDigits s m args below meth c Q o_cls D A 4 2 [] (o_cw ad ca 12 u2_Sj u2_T0 q.2.2.1 q.2.2.2 u2_Pg u2_Pt u2_Mk u2_Lk u2_Ck u2_Jd u2_Ld u2_Pr) [(0, .ref (ad 23)), (1, .int u2_x1), (2, .int q.2.1)]) (h1 : q.1 ≠ 0 → (if q.1 = 1 then o_At p l e rm_Rd_readDigits s m args below meth c Q o_cls D A 4 19 [] (o_cw ad ca 12 u2_Sj u2_T0 q.2.2.1 q.2.2.2 u2_Pg u2_Pt u2_Mk u2_Lk u2_Ck u2_Jd u2_Ld u2_Pr) [(2, .int q.2.1)] else o_At p l e rm_Rd_readDigits s m args below meth c Q o_cls D A 4 48 [] (o_cw ad ca 12 u2_Sj u2_T0 q.2.2.1 q.2.2.2 u2_Pg u2_Pt u2_Mk u2_Lk u2_Ck u2_Jd u2_Ld u2_Pr) [(1, .int u2_x1)])) : o_At p l e rm_Rd_readDigits s m args below meth c Q o_cls D A 4 2 [] (o_cw ad ca 12 u2_Sj u2_T0 z.2.1 z.2.2 u2_Pg u2_Pt u2_Mk u2_Lk u2_Ck u2_Jd u2_Ld u2_Pr) [(0, .ref (ad 23)), (1, .int u2_x1), (2, .int z.1)] := by
  unfold m_Rd_readDigits_b2 at h
  intro H locs ls hP hS hl
  have C0 := C
  obtain ⟨hx, hb, -, -, -, hown, hts, hK, -, -⟩ := C0
  refine lv_iload_n hx hb d_Rd_readDigits_2 rfl (lv_at hl 2 rfl) ?_
  refine lv_iload_n hx hb d_Rd_readDigits_3 rfl (lv_at hl 1 rfl) ?_
  refine lv_icmp_ge (tgt := 48) hx hb d_Rd_readDigits_4 (by decide) (fun c1 => ?_) (fun c1 => ?_)
  · replace h := o_tt c1 h
    cases h
    exact h1 (Nat.succ_ne_zero 1) _ _ _ hP hS (lv_sub hl [1] rfl)
  · replace h := o_ff c1 h
    refine lv_aload_n hx hb d_Rd_readDigits_7 rfl (lv_at hl 0 rfl) ?_
    obtain ⟨q1, hq1, h⟩ := o_bd_some h
    refine o_V (st1 := [.int q1]) (w1 := (o_cw ad ca 12 u2_Sj u2_T0 z.2.1 z.2.2 u2_Pg u2_Pt u2_Mk u2_Lk u2_Ck u2_Jd u2_Ld u2_Pr)) hE.1 C (c_Rd_peek hE l z.2.2 u2_Sj u2_T0 z.2.1 u2_Pg u2_Pt u2_Mk u2_Lk u2_Ck u2_Jd u2_Ld u2_Pr 12 hq1) hP (hDD _ _ _ _ _ _ _ _ _ _ _ _ _) hS hl.1 rfl cw_23 k_3_38 k_3_40 k_s_3 k_1_3 k_3_41 hv_Rd_peek rfl rfl ⟨Nat.le_of_ble_eq_true rfl, Nat.le_of_ble_eq_true rfl⟩ rfl (Nat.le_of_ble_eq_true rfl) ⟨Nat.le_of_ble_eq_true rfl, Nat.le_of_ble_eq_true rfl⟩ rfl d_Rd_readDigits_8 (fun H locs hP hS => ?_)
    refine lv_istore_n (lv' := [(3, .int q1), (0, .ref (ad 23)), (1, .int u2_x1), (2, .int z.1)]) hx hb d_Rd_readDigits_11 rfl hl (by decide) rfl (fun ls hl => ?_)
    refine lv_iload_n hx hb d_Rd_readDigits_12 rfl (lv_at hl 0 rfl) ?_
    obtain ⟨q2, hq2, h⟩ := o_bd_some h
    refine o_SN (st1 := [.int q2]) (w1 := (o_cw ad ca 12 u2_Sj u2_T0 z.2.1 z.2.2 u2_Pg u2_Pt u2_Mk u2_Lk u2_Ck u2_Jd u2_Ld u2_Pr)) hE.1 C (c_SJ_isDigit hE l q1 u2_Sj u2_T0 z.2.1 z.2.2 u2_Pg u2_Pt u2_Mk u2_Lk u2_Ck u2_Jd u2_Ld u2_Pr 12 hq2) hP (hDD _ _ _ _ _ _ _ _ _ _ _ _ _) hS hl.1 (hE.2.1 _ _ _ C.2.2.2.2.2.2.2.2.2 _ nw_0) k_3_46 k_1_1 k_3_47 hs_SJ_isDigit rfl rfl ⟨Nat.le_of_ble_eq_true rfl, Nat.le_of_ble_eq_true rfl⟩ rfl (Nat.le_of_ble_eq_true rfl) ⟨Nat.le_of_ble_eq_true rfl, Nat.le_of_ble_eq_true rfl⟩ rfl d_Rd_readDigits_13 (fun H locs hP hS => ?_)
    refine lv_if_ne (tgt := 21) hx hb d_Rd_readDigits_16 (by decide) (fun c2 => ?_) (fun c2 => ?_)
    · replace h := o_ff c2 h
      refine lv_aload_n hx hb d_Rd_readDigits_21 rfl (lv_at hl 1 rfl) ?_
      refine o_get (v := .ref (ad 12)) C in_Rd hP 23 cw_23 rfl 2 (by decide) k_1_96 rfl rfl d_Rd_readDigits_22 ?_
      refine lv_iload_n hx hb d_Rd_readDigits_25 rfl (lv_at hl 0 rfl) ?_
      refine lv_bipush (v := (48:Int32)) hx hb d_Rd_readDigits_26 (by decide) ?_
      refine lv_isub hx hb d_Rd_readDigits_28 ?_
      obtain ⟨q3, hq3, h⟩ := o_bd_some h
      refine o_V (st1 := []) (w1 := (o_cw ad ca 12 u2_Sj u2_T0 q3 z.2.2 u2_Pg u2_Pt u2_Mk u2_Lk u2_Ck u2_Jd u2_Ld u2_Pr)) hE.1 C (c_Tx_addDigit_1 hE l (q1 - (48:Int32)) z.2.1 u2_Sj u2_T0 z.2.2 u2_Pg u2_Pt u2_Mk u2_Lk u2_Ck u2_Jd u2_Ld u2_Pr 12 hq3) hP (hDD _ _ _ _ _ _ _ _ _ _ _ _ _) hS hl.1 rfl cw_12 k_3_119 k_3_120 k_3_121 k_1_2 k_3_122 hv_Tx_addDigit rfl rfl ⟨Nat.le_of_ble_eq_true rfl, Nat.le_of_ble_eq_true rfl⟩ rfl (Nat.le_of_ble_eq_true rfl) ⟨Nat.le_of_ble_eq_true rfl, Nat.le_of_ble_eq_true rfl⟩ rfl d_Rd_readDigits_29 (fun H locs hP hS => ?_)
      refine lv_aload_n hx hb d_Rd_readDigits_32 rfl (lv_at hl 1 rfl) ?_
      refine lv_dup hx hb d_Rd_readDigits_33 rfl ?_
      refine o_get (v := .int (Rd_position z.2.2)) C in_Rd hP 23 cw_23 rfl 3 (by decide) k_1_97 rfl rfl d_Rd_readDigits_34 ?_
      refine lv_iconst (v := (1:Int32)) hx hb d_Rd_readDigits_37 (by decide) ?_
      refine lv_iadd hx hb d_Rd_readDigits_38 ?_
      refine o_put (v := .int ((Rd_position z.2.2) + (1:Int32))) (ty := .int) (w1 := (o_cw ad ca 12 u2_Sj u2_T0 q3 (Rd_mk (Rd_words z.2.2) (Rd_wordCount z.2.2) ((Rd_position z.2.2) + (1:Int32)) (Rd_limit z.2.2) (Rd_wrongPlace z.2.2)) u2_Pg u2_Pt u2_Mk u2_Lk u2_Ck u2_Jd u2_Ld u2_Pr)) C in_Rd t_Rd t_Rd_ok n_Rd hP (hDD _ _ _ _ _ _ _ _ _ _ _ _ _) hS 23 cw_23 rfl 3 (by decide) k_1_97 rfl rfl (by decide +kernel) rfl rfl (Nat.le_of_ble_eq_true rfl) rfl d_Rd_readDigits_39 (fun H locs hP hS => ?_)
      obtain ⟨x2_42, ex2_42⟩ : ∃ y : Int32, y = z.1 + (1:Int32) := ⟨_, rfl⟩
      replace h := o_nm_at ex2_42 h
      refine lv_iinc (v := x2_42) (lv' := [(2, .int x2_42), (3, .int q1), (0, .ref (ad 23)), (1, .int u2_x1)]) hx hb d_Rd_readDigits_42 hl (k := 3) rfl (by rw [ex2_42]; rfl) (by decide) rfl (fun ls hl => ?_)
      refine lv_goto (tgt := 2) hx hb d_Rd_readDigits_45 (by decide) ?_
      cases h
      exact h0 rfl _ _ _ hP hS (lv_sub hl [2, 3, 0] rfl)
    · replace h := o_tt c2 h
      cases h
      exact h1 (Nat.succ_ne_zero 0) _ _ _ hP hS (lv_sub hl [3] rfl)
set_option maxHeartbeats 4000000 in
set_option maxRecDepth 100000 in
theorem c_Rd_readDigits_1 {E : (Nat → Prop) → State → Heap → Prop} {D : va_G} {ad kd sd : Nat → Nat} {ca : Nat → ClassId} (hE : o_EK E kd sd) (l : Launch) (n : Nat) (x1 : Int32) (tc : STx) (Rd : SRd) (Sj : SSJ) (T0 : STx) (Pg : SPg) (Pt : SPt) (Mk : SMk) (Lk : SLk) (Ck : SCk) (Jd : SJd) (Ld : SLd) (Pr : SPr) {r : Int32 × STx × SRd} (h : m_Rd_readDigits n x1 tc Rd = some r) : o_Cn E l D o_cls (o_tys ca) y_Rd_readDigits cc_Rd_readDigits rm_Rd_readDigits [.ref (ad 23), .int x1] (o_cw ad ca 12 Sj T0 tc Rd Pg Pt Mk Lk Ck Jd Ld Pr) (o_cw ad ca 12 Sj T0 r.2.1 r.2.2 Pg Pt Mk Lk Ck Jd Ld Pr) (some (.int r.1)) := by
  refine o_Cn_of (by decide) (Nat.le_of_ble_eq_true rfl) ?_
  intro p e s m below meth c A ls C hD hP hS hl
  have hDD : ∀ (rt : Nat) (Sj : SSJ) (T0 : STx) (T1 : STx) (Rd : SRd) (Pg : SPg) (Pt : SPt) (Mk : SMk) (Lk : SLk) (Ck : SCk) (Jd : SJd) (Ld : SLd) (Pr : SPr), va_D A (o_cw ad ca rt Sj T0 T1 Rd Pg Pt Mk Lk Ck Jd Ld Pr) := fun _ _ _ _ _ _ _ _ _ _ _ _ _ => o_D_map hD rfl
  have hl : lv_has ls 4 [(0, .ref (ad 23)), (1, .int x1)] := hl
  unfold m_Rd_readDigits at h
  have C0 := C
  obtain ⟨hx, hb, -, -, -, hown, hts, hK, -, -⟩ := C0
  refine lv_iconst (v := (0:Int32)) hx hb d_Rd_readDigits_0 (by decide) ?_
  refine lv_istore_n (lv' := [(2, .int (0:Int32)), (0, .ref (ad 23)), (1, .int x1)]) hx hb d_Rd_readDigits_1 rfl hl (by decide) rfl (fun ls hl => ?_)
  obtain ⟨q4, hq4, h⟩ := o_bd_some h
  refine o_sim2 (AH := fun zz => o_At p l e rm_Rd_readDigits s m _ below meth c _ o_cls D A 4 2 [] (o_cw ad ca 12 Sj T0 zz.2.1 zz.2.2 Pg Pt Mk Lk Ck Jd Ld Pr) [(0, .ref (ad 23)), (1, .int x1), (2, .int zz.1)]) (AX := fun qq => if qq.1 = 1 then o_At p l e rm_Rd_readDigits s m _ below meth c _ o_cls D A 4 19 [] (o_cw ad ca 12 Sj T0 qq.2.2.1 qq.2.2.2 Pg Pt Mk Lk Ck Jd Ld Pr) [(2, .int qq.2.1)] else o_At p l e rm_Rd_readDigits s m _ below meth c _ o_cls D A 4 48 [] (o_cw ad ca 12 Sj T0 qq.2.2.1 qq.2.2.2 Pg Pt Mk Lk Ck Jd Ld Pr) [(1, .int x1)]) (fun zz qq h h0 h1 => w_Rd_readDigits_b2_1 hE C hDD n x1 Sj T0 Pg Pt Mk Lk Ck Jd Ld Pr zz qq h h0 h1) n _ q4 hq4 ?_ _ _ _ hP hS (lv_sub hl [1, 2, 0] rfl)
  by_cases c3 : q4.1 = 1
  · replace h := o_tt c3 h
    refine o_ip c3 ?_
    intro H locs ls hP hS hl
    refine lv_iload_n hx hb d_Rd_readDigits_19 rfl (lv_at hl 0 rfl) ?_
    cases h
    exact o_ri C hP hS d_Rd_readDigits_20
  replace h := o_ff c3 h
  refine o_in_ c3 ?_
  intro H locs ls hP hS hl
  refine lv_iload_n hx hb d_Rd_readDigits_48 rfl (lv_at hl 0 rfl) ?_
  cases h
  exact o_ri C hP hS d_Rd_readDigits_49
set_option maxHeartbeats 4000000 in
set_option maxRecDepth 100000 in
theorem w_Tx_endNumber_b27_0 {E : (Nat → Prop) → State → Heap → Prop} {p : Program} {l : Launch} {e : Env} {s : State} {m : MethodId} {args : Array Value} {below : List Frame} {meth : Method} {c : Code} {D : va_G} {ad kd sd : Nat → Nat} {ca : Nat → ClassId} {A : Nat → Prop} {Q : State → Prop} (hE : o_EK E kd sd) (C : o_Cx E p s m args meth c D o_cls (o_tys ca) "SchemaJudge$Text" b_Tx_endNumber none 6 cc_Tx_endNumber A) (hDD : ∀ (rt : Nat) (Sj : SSJ) (T0 : STx) (T1 : STx) (Rd : SRd) (Pg : SPg) (Pt : SPt) (Mk : SMk) (Lk : SLk) (Ck : SCk) (Jd : SJd) (Ld : SLd) (Pr : SPr), va_D A (o_cw ad ca rt Sj T0 T1 Rd Pg Pt Mk Lk Ck Jd Ld Pr)) (n : Nat) (u27_x1 : Int32) (u27_x2 : Int32) (u27_x3 : Int32) (u27_x4 : Int32) (u27_a0 : STx) (u27_Sj : SSJ) (u27_T1 : STx) (u27_Rd : SRd) (u27_Pg : SPg) (u27_Pt : SPt) (u27_Mk : SMk) (u27_Lk : SLk) (u27_Ck : SCk) (u27_Jd : SJd) (u27_Ld : SLd) (u27_Pr : SPr) (u27_rt : Nat) (z : Int32) (q : Nat × Int32) (h : m_Tx_endNumber_b27 n u27_x1 u27_x2 u27_x3 u27_x4 u27_a0 z = some q) (h0 : q.1 = 0 → o_At p l e rm_Tx_endNumber s m args below meth c Q o_cls D A 6 27 [] (o_cw ad ca u27_rt u27_Sj u27_a0 u27_T1 u27_Rd u27_Pg u27_Pt u27_Mk u27_Lk u27_Ck u27_Jd u27_Ld u27_Pr) [(0, .ref (ad 1)), (1, .int u27_x1), (2, .int u27_x2), (3, .int u27_x3), (4, .int u27_x4), (5, .int q.2)]) (h1 : q.1 ≠ 0 → (o_At p l e rm_Tx_endNumber s m args below meth c Q o_cls D A 6 52 [] (o_cw ad ca u27_rt u27_Sj u27_a0 u27_T1 u27_Rd u27_Pg u27_Pt u27_Mk u27_Lk u27_Ck u27_Jd u27_Ld u27_Pr) [(0, .ref (ad 1)), (1, .int u27_x1), (2, .int u27_x2), (3, .int u27_x3), (4, .int u27_x4), (5, .int q.2)])) : o_At p l e rm_Tx_endNumber s m args below meth c Q o_cls D A 6 27 [] (o_cw ad ca u27_rt u27_Sj u27_a0 u27_T1 u27_Rd u27_Pg u27_Pt u27_Mk u27_Lk u27_Ck u27_Jd u27_Ld u27_Pr) [(0, .ref (ad 1)), (1, .int u27_x1), (2, .int u27_x2), (3, .int u27_x3), (4, .int u27_x4), (5, .int z)] := by
  unfold m_Tx_endNumber_b27 at h
  intro H locs ls hP hS hl
  have C0 := C
  obtain ⟨hx, hb, -, -, -, hown, hts, hK, -, -⟩ := C0
  refine lv_iload hx hb d_Tx_endNumber_27 (lv_at hl 5 rfl) ?_
  refine lv_iload hx hb d_Tx_endNumber_29 (lv_at hl 4 rfl) ?_
  refine lv_icmp_le (tgt := 52) hx hb d_Tx_endNumber_31 (by decide) (fun c4 => ?_) (fun c4 => ?_)
  · replace h := o_tt c4 h
    cases h
    exact h1 (Nat.succ_ne_zero 0) _ _ _ hP hS (lv_sub hl [0, 1, 2, 3, 4, 5] rfl)
  · replace h := o_ff c4 h
    refine lv_aload_n hx hb d_Tx_endNumber_34 rfl (lv_at hl 0 rfl) ?_
    refine o_get (v := .ref (ad 11)) C in_Tx hP 1 cw_1 rfl 9 (by decide) k_1_55 rfl rfl d_Tx_endNumber_35 ?_
    refine lv_iload hx hb d_Tx_endNumber_38 (lv_at hl 5 rfl) ?_
    refine lv_iconst (v := (1:Int32)) hx hb d_Tx_endNumber_40 (by decide) ?_
    refine lv_isub hx hb d_Tx_endNumber_41 ?_
    obtain ⟨g5, h⟩ := o_gd_some h
    refine o_iald (f := (Tx_cells u27_a0)) C hP 11 9 cw_11 rfl g5 d_Tx_endNumber_42 ?_
    refine lv_if_ne (tgt := 52) hx hb d_Tx_endNumber_43 (by decide) (fun c6 => ?_) (fun c6 => ?_)
    · replace h := o_ff c6 h
      cases h
      exact h1 (Nat.succ_ne_zero 0) _ _ _ hP hS (lv_sub hl [0, 1, 2, 3, 4, 5] rfl)
    · replace h := o_tt c6 h
      obtain ⟨x5_46, ex5_46⟩ : ∃ y : Int32, y = z + (-1:Int32) := ⟨_, rfl⟩
      replace h := o_nm_at ex5_46 h
      refine lv_iinc (v := x5_46) (lv' := [(5, .int x5_46), (0, .ref (ad 1)), (1, .int u27_x1), (2, .int u27_x2), (3, .int u27_x3), (4, .int u27_x4)]) hx hb d_Tx_endNumber_46 hl (k := 5) rfl (by rw [ex5_46]; rfl) (by decide) rfl (fun ls hl => ?_)
      refine lv_goto (tgt := 27) hx hb d_Tx_endNumber_49 (by decide) ?_
      cases h
      exact h0 rfl _ _ _ hP hS (lv_sub hl [1, 2, 3, 4, 5, 0] rfl)
set_option maxHeartbeats 4000000 in
set_option maxRecDepth 100000 in
theorem w_Tx_endNumber_b52_0 {E : (Nat → Prop) → State → Heap → Prop} {p : Program} {l : Launch} {e : Env} {s : State} {m : MethodId} {args : Array Value} {below : List Frame} {meth : Method} {c : Code} {D : va_G} {ad kd sd : Nat → Nat} {ca : Nat → ClassId} {A : Nat → Prop} {Q : State → Prop} (hE : o_EK E kd sd) (C : o_Cx E p s m args meth c D o_cls (o_tys ca) "SchemaJudge$Text" b_Tx_endNumber none 6 cc_Tx_endNumber A) (hDD : ∀ (rt : Nat) (Sj : SSJ) (T0 : STx) (T1 : STx) (Rd : SRd) (Pg : SPg) (Pt : SPt) (Mk : SMk) (Lk : SLk) (Ck : SCk) (Jd : SJd) (Ld : SLd) (Pr : SPr), va_D A (o_cw ad ca rt Sj T0 T1 Rd Pg Pt Mk Lk Ck Jd Ld Pr)) (n : Nat) (u52_x1 : Int32) (u52_x2 : Int32) (u52_x3 : Int32) (u52_x5 : Int32) (u52_a0 : STx) (u52_Sj : SSJ) (u52_T1 : STx) (u52_Rd : SRd) (u52_Pg : SPg) (u52_Pt : SPt) (u52_Mk : SMk) (u52_Lk : SLk) (u52_Ck : SCk) (u52_Jd : SJd) (u52_Ld : SLd) (u52_Pr : SPr) (u52_rt : Nat) (z : Int32) (q : Nat × Int32) (h : m_Tx_endNumber_b52 n u52_x1 u52_x2 u52_x3 u52_x5 u52_a0 z = some q) (h0 : q.1 = 0 → o_At p l e rm_Tx_endNumber s m args below meth c Q o_cls D A 6 52 [] (o_cw ad ca u52_rt u52_Sj u52_a0 u52_T1 u52_Rd u52_Pg u52_Pt u52_Mk u52_Lk u52_Ck u52_Jd u52_Ld u52_Pr) [(0, .ref (ad 1)), (1, .int u52_x1), (2, .int u52_x2), (3, .int u52_x3), (4, .int q.2), (5, .int u52_x5)]) (h1 : q.1 ≠ 0 → (o_At p l e rm_Tx_endNumber s m args below meth c Q o_cls D A 6 75 [] (o_cw ad ca u52_rt u52_Sj u52_a0 u52_T1 u52_Rd u52_Pg u52_Pt u52_Mk u52_Lk u52_Ck u52_Jd u52_Ld u52_Pr) [(0, .ref (ad 1)), (1, .int u52_x1), (2, .int u52_x2), (3, .int u52_x3), (4, .int q.2), (5, .int u52_x5)])) : o_At p l e rm_Tx_endNumber s m args below meth c Q o_cls D A 6 52 [] (o_cw ad ca u52_rt u52_Sj u52_a0 u52_T1 u52_Rd u52_Pg u52_Pt u52_Mk u52_Lk u52_Ck u52_Jd u52_Ld u52_Pr) [(0, .ref (ad 1)), (1, .int u52_x1), (2, .int u52_x2), (3, .int u52_x3), (4, .int z), (5, .int u52_x5)] := by
  unfold m_Tx_endNumber_b52 at h
  intro H locs ls hP hS hl
  have C0 := C
  obtain ⟨hx, hb, -, -, -, hown, hts, hK, -, -⟩ := C0
  refine lv_iload hx hb d_Tx_endNumber_52 (lv_at hl 4 rfl) ?_
  refine lv_iload hx hb d_Tx_endNumber_54 (lv_at hl 5 rfl) ?_
  refine lv_icmp_ge (tgt := 75) hx hb d_Tx_endNumber_56 (by decide) (fun c7 => ?_) (fun c7 => ?_)
  · replace h := o_tt c7 h
    cases h
    exact h1 (Nat.succ_ne_zero 0) _ _ _ hP hS (lv_sub hl [0, 1, 2, 3, 4, 5] rfl)
  · replace h := o_ff c7 h
    refine lv_aload_n hx hb d_Tx_endNumber_59 rfl (lv_at hl 0 rfl) ?_
    refine o_get (v := .ref (ad 11)) C in_Tx hP 1 cw_1 rfl 9 (by decide) k_1_55 rfl rfl d_Tx_endNumber_60 ?_
    refine lv_iload hx hb d_Tx_endNumber_63 (lv_at hl 4 rfl) ?_
    obtain ⟨g8, h⟩ := o_gd_some h
    refine o_iald (f := (Tx_cells u52_a0)) C hP 11 9 cw_11 rfl g8 d_Tx_endNumber_65 ?_
    refine lv_if_ne (tgt := 75) hx hb d_Tx_endNumber_66 (by decide) (fun c9 => ?_) (fun c9 => ?_)
    · replace h := o_ff c9 h
      cases h
      exact h1 (Nat.succ_ne_zero 0) _ _ _ hP hS (lv_sub hl [0, 1, 2, 3, 4, 5] rfl)
    · replace h := o_tt c9 h
      obtain ⟨x4_69, ex4_69⟩ : ∃ y : Int32, y = z + (1:Int32) := ⟨_, rfl⟩
      replace h := o_nm_at ex4_69 h
      refine lv_iinc (v := x4_69) (lv' := [(4, .int x4_69), (0, .ref (ad 1)), (1, .int u52_x1), (2, .int u52_x2), (3, .int u52_x3), (5, .int u52_x5)]) hx hb d_Tx_endNumber_69 hl (k := 4) rfl (by rw [ex4_69]; rfl) (by decide) rfl (fun ls hl => ?_)
      refine lv_goto (tgt := 52) hx hb d_Tx_endNumber_72 (by decide) ?_
      cases h
      exact h0 rfl _ _ _ hP hS (lv_sub hl [1, 2, 3, 4, 0, 5] rfl)
set_option maxHeartbeats 4000000 in
set_option maxRecDepth 100000 in
theorem w_Tx_endNumber_j119_0 {E : (Nat → Prop) → State → Heap → Prop} {p : Program} {l : Launch} {e : Env} {s : State} {m : MethodId} {args : Array Value} {below : List Frame} {meth : Method} {c : Code} {D : va_G} {ad kd sd : Nat → Nat} {ca : Nat → ClassId} {A : Nat → Prop} (hE : o_EK E kd sd) (C : o_Cx E p s m args meth c D o_cls (o_tys ca) "SchemaJudge$Text" b_Tx_endNumber none 6 cc_Tx_endNumber A) (hDD : ∀ (rt : Nat) (Sj : SSJ) (T0 : STx) (T1 : STx) (Rd : SRd) (Pg : SPg) (Pt : SPt) (Mk : SMk) (Lk : SLk) (Ck : SCk) (Jd : SJd) (Ld : SLd) (Pr : SPr), va_D A (o_cw ad ca rt Sj T0 T1 Rd Pg Pt Mk Lk Ck Jd Ld Pr)) (n : Nat) (x1 : Int32) (x2 : Int32) (x4 : Int32) (x5 : Int32) (y1 : Int32) (y2 : Int32) (a0 : STx) (Sj : SSJ) (T1 : STx) (Rd : SRd) (Pg : SPg) (Pt : SPt) (Mk : SMk) (Lk : SLk) (Ck : SCk) (Jd : SJd) (Ld : SLd) (Pr : SPr) (rt : Nat) {r : STx} (h : m_Tx_endNumber_j119 n x1 x2 x4 x5 y1 y2 a0 = some r) : o_At p l e rm_Tx_endNumber s m args below meth c (MQ below (o_Qx D o_cls none (o_cw ad ca rt Sj r T1 Rd Pg Pt Mk Lk Ck Jd Ld Pr) A) args s 0 0 A) o_cls D A 6 119 [.int y2, .int y1, .ref (ad 6)] (o_cw ad ca rt Sj a0 T1 Rd Pg Pt Mk Lk Ck Jd Ld Pr) [(0, .ref (ad 1)), (1, .int x1), (2, .int x2), (4, .int x4), (5, .int x5)] := by
  unfold m_Tx_endNumber_j119 at h
  intro H locs ls hP hS hl
  have C0 := C
  obtain ⟨hx, hb, -, -, -, hown, hts, hK, -, -⟩ := C0
  obtain ⟨g13, h⟩ := o_gd_some h
  refine o_iast (f := (Tx_exponents a0)) (w1 := (o_cw ad ca rt Sj (Tx_mk (Tx_kinds a0) (Tx_places a0) (Tx_sizes a0) (Tx_parents a0) (upd (Tx_exponents a0) y1.toNatClampNeg y2) (Tx_starts a0) (Tx_afters a0) (Tx_slots a0) (Tx_negatives a0) (Tx_cells a0) (Tx_total a0) (Tx_used a0) (Tx_characters a0)) T1 Rd Pg Pt Mk Lk Ck Jd Ld Pr)) C hP (hDD _ _ _ _ _ _ _ _ _ _ _ _ _) hS 6 4 cw_6 rfl g13 rfl d_Tx_endNumber_119 (fun H locs hP hS => ?_)
  refine lv_aload_n hx hb d_Tx_endNumber_120 rfl (lv_at hl 0 rfl) ?_
  refine o_get (v := .ref (ad 10)) C in_Tx hP 1 cw_1 rfl 8 (by decide) k_1_54 rfl rfl d_Tx_endNumber_121 ?_
  refine lv_iload_n hx hb d_Tx_endNumber_124 rfl (lv_at hl 1 rfl) ?_
  refine lv_iload_n hx hb d_Tx_endNumber_125 rfl (lv_at hl 2 rfl) ?_
  refine lv_if_eq (tgt := 140) hx hb d_Tx_endNumber_126 (by decide) (fun c14 => ?_) (fun c14 => ?_)
  · replace h := o_tt c14 h
    refine lv_iconst (v := (0:Int32)) hx hb d_Tx_endNumber_140 (by decide) ?_
    obtain ⟨g15, h⟩ := o_gd_some h
    refine o_zast (f := (Tx_negatives a0)) (w1 := (o_cw ad ca rt Sj (Tx_mk (Tx_kinds a0) (Tx_places a0) (Tx_sizes a0) (Tx_parents a0) (upd (Tx_exponents a0) y1.toNatClampNeg y2) (Tx_starts a0) (Tx_afters a0) (Tx_slots a0) (upd (Tx_negatives a0) x1.toNatClampNeg (vp_nar .boolean (0:Int32))) (Tx_cells a0) (Tx_total a0) (Tx_used a0) (Tx_characters a0)) T1 Rd Pg Pt Mk Lk Ck Jd Ld Pr)) C hP (hDD _ _ _ _ _ _ _ _ _ _ _ _ _) hS 10 8 cw_10 rfl g15 rfl d_Tx_endNumber_141 (fun H locs hP hS => ?_)
    cases h
    exact o_rv C hP hS d_Tx_endNumber_142
  · replace h := o_ff c14 h
    refine lv_iload hx hb d_Tx_endNumber_129 (lv_at hl 4 rfl) ?_
    refine lv_iload hx hb d_Tx_endNumber_131 (lv_at hl 3 rfl) ?_
    refine lv_icmp_le (tgt := 140) hx hb d_Tx_endNumber_133 (by decide) (fun c16 => ?_) (fun c16 => ?_)
    · replace h := o_tt c16 h
      refine lv_iconst (v := (0:Int32)) hx hb d_Tx_endNumber_140 (by decide) ?_
      obtain ⟨g17, h⟩ := o_gd_some h
      refine o_zast (f := (Tx_negatives a0)) (w1 := (o_cw ad ca rt Sj (Tx_mk (Tx_kinds a0) (Tx_places a0) (Tx_sizes a0) (Tx_parents a0) (upd (Tx_exponents a0) y1.toNatClampNeg y2) (Tx_starts a0) (Tx_afters a0) (Tx_slots a0) (upd (Tx_negatives a0) x1.toNatClampNeg (vp_nar .boolean (0:Int32))) (Tx_cells a0) (Tx_total a0) (Tx_used a0) (Tx_characters a0)) T1 Rd Pg Pt Mk Lk Ck Jd Ld Pr)) C hP (hDD _ _ _ _ _ _ _ _ _ _ _ _ _) hS 10 8 cw_10 rfl g17 rfl d_Tx_endNumber_141 (fun H locs hP hS => ?_)
      cases h
      exact o_rv C hP hS d_Tx_endNumber_142
    · replace h := o_ff c16 h
      refine lv_iconst (v := (1:Int32)) hx hb d_Tx_endNumber_136 (by decide) ?_
      refine lv_goto (tgt := 141) hx hb d_Tx_endNumber_137 (by decide) ?_
      obtain ⟨g18, h⟩ := o_gd_some h
      refine o_zast (f := (Tx_negatives a0)) (w1 := (o_cw ad ca rt Sj (Tx_mk (Tx_kinds a0) (Tx_places a0) (Tx_sizes a0) (Tx_parents a0) (upd (Tx_exponents a0) y1.toNatClampNeg y2) (Tx_starts a0) (Tx_afters a0) (Tx_slots a0) (upd (Tx_negatives a0) x1.toNatClampNeg (vp_nar .boolean (1:Int32))) (Tx_cells a0) (Tx_total a0) (Tx_used a0) (Tx_characters a0)) T1 Rd Pg Pt Mk Lk Ck Jd Ld Pr)) C hP (hDD _ _ _ _ _ _ _ _ _ _ _ _ _) hS 10 8 cw_10 rfl g18 rfl d_Tx_endNumber_141 (fun H locs hP hS => ?_)
      cases h
      exact o_rv C hP hS d_Tx_endNumber_142
set_option maxHeartbeats 4000000 in
set_option maxRecDepth 100000 in
theorem w_Tx_endNumber_j75_0 {E : (Nat → Prop) → State → Heap → Prop} {p : Program} {l : Launch} {e : Env} {s : State} {m : MethodId} {args : Array Value} {below : List Frame} {meth : Method} {c : Code} {D : va_G} {ad kd sd : Nat → Nat} {ca : Nat → ClassId} {A : Nat → Prop} (hE : o_EK E kd sd) (C : o_Cx E p s m args meth c D o_cls (o_tys ca) "SchemaJudge$Text" b_Tx_endNumber none 6 cc_Tx_endNumber A) (hDD : ∀ (rt : Nat) (Sj : SSJ) (T0 : STx) (T1 : STx) (Rd : SRd) (Pg : SPg) (Pt : SPt) (Mk : SMk) (Lk : SLk) (Ck : SCk) (Jd : SJd) (Ld : SLd) (Pr : SPr), va_D A (o_cw ad ca rt Sj T0 T1 Rd Pg Pt Mk Lk Ck Jd Ld Pr)) (n : Nat) (x1 : Int32) (x2 : Int32) (x3 : Int32) (x4 : Int32) (x5 : Int32) (a0 : STx) (Sj : SSJ) (T1 : STx) (Rd : SRd) (Pg : SPg) (Pt : SPt) (Mk : SMk) (Lk : SLk) (Ck : SCk) (Jd : SJd) (Ld : SLd) (Pr : SPr) (rt : Nat) {r : STx} (h : m_Tx_endNumber_j75 n x1 x2 x3 x4 x5 a0 = some r) : o_At p l e rm_Tx_endNumber s m args below meth c (MQ below (o_Qx D o_cls none (o_cw ad ca rt Sj r T1 Rd Pg Pt Mk Lk Ck Jd Ld Pr) A) args s 0 0 A) o_cls D A 6 75 [] (o_cw ad ca rt Sj a0 T1 Rd Pg Pt Mk Lk Ck Jd Ld Pr) [(0, .ref (ad 1)), (1, .int x1), (2, .int x2), (3, .int x3), (4, .int x4), (5, .int x5)] := by
  unfold m_Tx_endNumber_j75 at h
  intro H locs ls hP hS hl
  have C0 := C
  obtain ⟨hx, hb, -, -, -, hown, hts, hK, -, -⟩ := C0
  refine lv_aload_n hx hb d_Tx_endNumber_75 rfl (lv_at hl 0 rfl) ?_
  refine o_get (v := .ref (ad 7)) C in_Tx hP 1 cw_1 rfl 5 (by decide) k_1_51 rfl rfl d_Tx_endNumber_76 ?_
  refine lv_iload_n hx hb d_Tx_endNumber_79 rfl (lv_at hl 1 rfl) ?_
  refine lv_iload hx hb d_Tx_endNumber_80 (lv_at hl 4 rfl) ?_
  obtain ⟨g10, h⟩ := o_gd_some h
  refine o_iast (f := (Tx_starts a0)) (w1 := (o_cw ad ca rt Sj (Tx_mk (Tx_kinds a0) (Tx_places a0) (Tx_sizes a0) (Tx_parents a0) (Tx_exponents a0) (upd (Tx_starts a0) x1.toNatClampNeg x4) (Tx_afters a0) (Tx_slots a0) (Tx_negatives a0) (Tx_cells a0) (Tx_total a0) (Tx_used a0) (Tx_characters a0)) T1 Rd Pg Pt Mk Lk Ck Jd Ld Pr)) C hP (hDD _ _ _ _ _ _ _ _ _ _ _ _ _) hS 7 5 cw_7 rfl g10 rfl d_Tx_endNumber_82 (fun H locs hP hS => ?_)
  refine lv_aload_n hx hb d_Tx_endNumber_83 rfl (lv_at hl 0 rfl) ?_
  refine o_get (v := .ref (ad 4)) C in_Tx hP 1 cw_1 rfl 2 (by decide) k_1_48 rfl rfl d_Tx_endNumber_84 ?_
  refine lv_iload_n hx hb d_Tx_endNumber_87 rfl (lv_at hl 1 rfl) ?_
  refine lv_iload hx hb d_Tx_endNumber_88 (lv_at hl 5 rfl) ?_
  refine lv_iload hx hb d_Tx_endNumber_90 (lv_at hl 4 rfl) ?_
  refine lv_isub hx hb d_Tx_endNumber_92 ?_
  obtain ⟨g11, h⟩ := o_gd_some h
  refine o_iast (f := (Tx_sizes a0)) (w1 := (o_cw ad ca rt Sj (Tx_mk (Tx_kinds a0) (Tx_places a0) (upd (Tx_sizes a0) x1.toNatClampNeg (x5 - x4)) (Tx_parents a0) (Tx_exponents a0) (upd (Tx_starts a0) x1.toNatClampNeg x4) (Tx_afters a0) (Tx_slots a0) (Tx_negatives a0) (Tx_cells a0) (Tx_total a0) (Tx_used a0) (Tx_characters a0)) T1 Rd Pg Pt Mk Lk Ck Jd Ld Pr)) C hP (hDD _ _ _ _ _ _ _ _ _ _ _ _ _) hS 4 2 cw_4 rfl g11 rfl d_Tx_endNumber_93 (fun H locs hP hS => ?_)
  refine lv_aload_n hx hb d_Tx_endNumber_94 rfl (lv_at hl 0 rfl) ?_
  refine o_get (v := .ref (ad 6)) C in_Tx hP 1 cw_1 rfl 4 (by decide) k_1_50 rfl rfl d_Tx_endNumber_95 ?_
  refine lv_iload_n hx hb d_Tx_endNumber_98 rfl (lv_at hl 1 rfl) ?_
  refine lv_iload hx hb d_Tx_endNumber_99 (lv_at hl 5 rfl) ?_
  refine lv_iload hx hb d_Tx_endNumber_101 (lv_at hl 4 rfl) ?_
  refine lv_icmp_ne (tgt := 110) hx hb d_Tx_endNumber_103 (by decide) (fun c12 => ?_) (fun c12 => ?_)
  · replace h := o_ff c12 h
    refine lv_iload_n hx hb d_Tx_endNumber_110 rfl (lv_at hl 3 rfl) ?_
    refine lv_aload_n hx hb d_Tx_endNumber_111 rfl (lv_at hl 0 rfl) ?_
    refine o_get (v := .int (Tx_used a0)) C in_Tx hP 1 cw_1 rfl 11 (by decide) k_1_57 rfl rfl d_Tx_endNumber_112 ?_
    refine lv_iadd hx hb d_Tx_endNumber_115 ?_
    refine lv_iload hx hb d_Tx_endNumber_116 (lv_at hl 5 rfl) ?_
    refine lv_isub hx hb d_Tx_endNumber_118 ?_
    exact w_Tx_endNumber_j119_0 hE C hDD n x1 x2 x4 x5 x1 ((x3 + (Tx_used a0)) - x5) (Tx_mk (Tx_kinds a0) (Tx_places a0) (upd (Tx_sizes a0) x1.toNatClampNeg (x5 - x4)) (Tx_parents a0) (Tx_exponents a0) (upd (Tx_starts a0) x1.toNatClampNeg x4) (Tx_afters a0) (Tx_slots a0) (Tx_negatives a0) (Tx_cells a0) (Tx_total a0) (Tx_used a0) (Tx_characters a0)) Sj T1 Rd Pg Pt Mk Lk Ck Jd Ld Pr rt h _ _ _ hP hS (lv_sub hl [0, 1, 2, 4, 5] rfl)
  · replace h := o_tt c12 h
    refine lv_iconst (v := (0:Int32)) hx hb d_Tx_endNumber_106 (by decide) ?_
    refine lv_goto (tgt := 119) hx hb d_Tx_endNumber_107 (by decide) ?_
    exact w_Tx_endNumber_j119_0 hE C hDD n x1 x2 x4 x5 x1 (0:Int32) (Tx_mk (Tx_kinds a0) (Tx_places a0) (upd (Tx_sizes a0) x1.toNatClampNeg (x5 - x4)) (Tx_parents a0) (Tx_exponents a0) (upd (Tx_starts a0) x1.toNatClampNeg x4) (Tx_afters a0) (Tx_slots a0) (Tx_negatives a0) (Tx_cells a0) (Tx_total a0) (Tx_used a0) (Tx_characters a0)) Sj T1 Rd Pg Pt Mk Lk Ck Jd Ld Pr rt h _ _ _ hP hS (lv_sub hl [0, 1, 2, 4, 5] rfl)
set_option maxHeartbeats 4000000 in
set_option maxRecDepth 100000 in
theorem c_Tx_endNumber_0 {E : (Nat → Prop) → State → Heap → Prop} {D : va_G} {ad kd sd : Nat → Nat} {ca : Nat → ClassId} (hE : o_EK E kd sd) (l : Launch) (n : Nat) (x1 : Int32) (x2 : Int32) (x3 : Int32) (a0 : STx) (Sj : SSJ) (T1 : STx) (Rd : SRd) (Pg : SPg) (Pt : SPt) (Mk : SMk) (Lk : SLk) (Ck : SCk) (Jd : SJd) (Ld : SLd) (Pr : SPr) (rt : Nat) {r : STx} (h : m_Tx_endNumber n x1 x2 x3 a0 = some r) : o_Cn E l D o_cls (o_tys ca) y_Tx_endNumber cc_Tx_endNumber rm_Tx_endNumber [.ref (ad 1), .int x1, .int x2, .int x3] (o_cw ad ca rt Sj a0 T1 Rd Pg Pt Mk Lk Ck Jd Ld Pr) (o_cw ad ca rt Sj r T1 Rd Pg Pt Mk Lk Ck Jd Ld Pr) none := by
  refine o_Cn_of (by decide) (Nat.le_of_ble_eq_true rfl) ?_
  intro p e s m below meth c A ls C hD hP hS hl
  have hDD : ∀ (rt : Nat) (Sj : SSJ) (T0 : STx) (T1 : STx) (Rd : SRd) (Pg : SPg) (Pt : SPt) (Mk : SMk) (Lk : SLk) (Ck : SCk) (Jd : SJd) (Ld : SLd) (Pr : SPr), va_D A (o_cw ad ca rt Sj T0 T1 Rd Pg Pt Mk Lk Ck Jd Ld Pr) := fun _ _ _ _ _ _ _ _ _ _ _ _ _ => o_D_map hD rfl
  have hl : lv_has ls 6 [(0, .ref (ad 1)), (1, .int x1), (2, .int x2), (3, .int x3)] := hl
  unfold m_Tx_endNumber at h
  have C0 := C
  obtain ⟨hx, hb, -, -, -, hown, hts, hK, -, -⟩ := C0
  refine lv_iload_n hx hb d_Tx_endNumber_0 rfl (lv_at hl 1 rfl) ?_
  refine lv_if_lt (tgt := 12) hx hb d_Tx_endNumber_1 (by decide) (fun c1 => ?_) (fun c1 => ?_)
  · replace h := o_tt c1 h
    cases h
    exact o_rv C hP hS d_Tx_endNumber_12
  · replace h := o_ff c1 h
    refine lv_iload_n hx hb d_Tx_endNumber_4 rfl (lv_at hl 1 rfl) ?_
    refine lv_aload_n hx hb d_Tx_endNumber_5 rfl (lv_at hl 0 rfl) ?_
    refine o_get (v := .int (Tx_total a0)) C in_Tx hP 1 cw_1 rfl 10 (by decide) k_1_56 rfl rfl d_Tx_endNumber_6 ?_
    refine lv_icmp_lt (tgt := 13) hx hb d_Tx_endNumber_9 (by decide) (fun c2 => ?_) (fun c2 => ?_)
    · replace h := o_tt c2 h
      refine lv_aload_n hx hb d_Tx_endNumber_13 rfl (lv_at hl 0 rfl) ?_
      refine o_get (v := .ref (ad 7)) C in_Tx hP 1 cw_1 rfl 5 (by decide) k_1_51 rfl rfl d_Tx_endNumber_14 ?_
      refine lv_iload_n hx hb d_Tx_endNumber_17 rfl (lv_at hl 1 rfl) ?_
      obtain ⟨g3, h⟩ := o_gd_some h
      refine o_iald (f := (Tx_starts a0)) C hP 7 5 cw_7 rfl g3 d_Tx_endNumber_18 ?_
      refine lv_topi (fun x4_19 ex4_19 => ?_)
      replace h := o_nm_at ex4_19 h
      refine lv_istore (lv' := [(4, .int x4_19), (0, .ref (ad 1)), (1, .int x1), (2, .int x2), (3, .int x3)]) hx hb d_Tx_endNumber_19 hl (by decide) rfl (fun ls hl => ?_)
      refine lv_aload_n hx hb d_Tx_endNumber_21 rfl (lv_at hl 1 rfl) ?_
      refine o_get (v := .int (Tx_used a0)) C in_Tx hP 1 cw_1 rfl 11 (by decide) k_1_57 rfl rfl d_Tx_endNumber_22 ?_
      refine lv_topi (fun x5_25 ex5_25 => ?_)
      replace h := o_nm_at ex5_25 h
      refine lv_istore (lv' := [(5, .int x5_25), (4, .int x4_19), (0, .ref (ad 1)), (1, .int x1), (2, .int x2), (3, .int x3)]) hx hb d_Tx_endNumber_25 hl (by decide) rfl (fun ls hl => ?_)
      obtain ⟨q1, hq1, h⟩ := o_bd_some h
      refine o_sim2 (AH := fun zz => o_At p l e rm_Tx_endNumber s m _ below meth c _ o_cls D A 6 27 [] (o_cw ad ca rt Sj a0 T1 Rd Pg Pt Mk Lk Ck Jd Ld Pr) [(0, .ref (ad 1)), (1, .int x1), (2, .int x2), (3, .int x3), (4, .int x4_19), (5, .int zz)]) (AX := fun qq => o_At p l e rm_Tx_endNumber s m _ below meth c _ o_cls D A 6 52 [] (o_cw ad ca rt Sj a0 T1 Rd Pg Pt Mk Lk Ck Jd Ld Pr) [(0, .ref (ad 1)), (1, .int x1), (2, .int x2), (3, .int x3), (4, .int x4_19), (5, .int qq.2)]) (fun zz qq h h0 h1 => w_Tx_endNumber_b27_0 hE C hDD n x1 x2 x3 x4_19 a0 Sj T1 Rd Pg Pt Mk Lk Ck Jd Ld Pr rt zz qq h h0 h1) n _ q1 hq1 ?_ _ _ _ hP hS (lv_sub hl [2, 3, 4, 5, 1, 0] rfl)
      intro H locs ls hP hS hl
      obtain ⟨q2, hq2, h⟩ := o_bd_some h
      refine o_sim2 (AH := fun zz => o_At p l e rm_Tx_endNumber s m _ below meth c _ o_cls D A 6 52 [] (o_cw ad ca rt Sj a0 T1 Rd Pg Pt Mk Lk Ck Jd Ld Pr) [(0, .ref (ad 1)), (1, .int x1), (2, .int x2), (3, .int x3), (4, .int zz), (5, .int q1.2)]) (AX := fun qq => o_At p l e rm_Tx_endNumber s m _ below meth c _ o_cls D A 6 75 [] (o_cw ad ca rt Sj a0 T1 Rd Pg Pt Mk Lk Ck Jd Ld Pr) [(0, .ref (ad 1)), (1, .int x1), (2, .int x2), (3, .int x3), (4, .int qq.2), (5, .int q1.2)]) (fun zz qq h h0 h1 => w_Tx_endNumber_b52_0 hE C hDD n x1 x2 x3 q1.2 a0 Sj T1 Rd Pg Pt Mk Lk Ck Jd Ld Pr rt zz qq h h0 h1) n _ q2 hq2 ?_ _ _ _ hP hS (lv_sub hl [0, 1, 2, 3, 4, 5] rfl)
      intro H locs ls hP hS hl
      exact w_Tx_endNumber_j75_0 hE C hDD n x1 x2 x3 q2.2 q1.2 a0 Sj T1 Rd Pg Pt Mk Lk Ck Jd Ld Pr rt h _ _ _ hP hS (lv_sub hl [0, 1, 2, 3, 4, 5] rfl)
    · replace h := o_ff c2 h
      cases h
      exact o_rv C hP hS d_Tx_endNumber_12
